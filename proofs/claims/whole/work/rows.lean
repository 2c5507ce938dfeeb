section
-- ===== PART A: goes FIRST, ahead of the names: the tables' words, and 'selects' of the private methods out of them =====
/-- a private method of a class that the tables say can be made, by its rows of tables_1 -/
def lw_okq (q : MethodName × Nat) : Prop := (q.1.cls ≠ "java/lang/invoke/MethodHandle" ∧ q.1.cls ≠ "java/lang/invoke/VarHandle") ∧ Cond.instantiable q.1.cls q.2 ∈ tables_1 ∧ Cond.privateMethod q.1 ∈ tables_1 ∧ Cond.instanceMethod q.1 ∈ tables_1
theorem lw_p0 : lw_okq (⟨"TalkRebuilder", "answersMissing", "(I)Z"⟩, 12) := ⟨⟨by decide +kernel, by decide +kernel⟩, List.mem_of_getElem? (i := 17) (by decide +kernel), List.mem_of_getElem? (i := 90) (by decide +kernel), List.mem_of_getElem? (i := 91) (by decide +kernel)⟩
theorem lw_p1 : lw_okq (⟨"TalkRebuilder", "parentOf", "(I)I"⟩, 12) := ⟨⟨by decide +kernel, by decide +kernel⟩, List.mem_of_getElem? (i := 17) (by decide +kernel), List.mem_of_getElem? (i := 94) (by decide +kernel), List.mem_of_getElem? (i := 95) (by decide +kernel)⟩
theorem lw_p2 : lw_okq (⟨"TalkRebuilder", "mailOfDate", "(I)I"⟩, 12) := ⟨⟨by decide +kernel, by decide +kernel⟩, List.mem_of_getElem? (i := 17) (by decide +kernel), List.mem_of_getElem? (i := 98) (by decide +kernel), List.mem_of_getElem? (i := 99) (by decide +kernel)⟩
theorem lw_p3 : lw_okq (⟨"TalkRebuilder", "isFirstToAnswerItsDate", "(I)Z"⟩, 12) := ⟨⟨by decide +kernel, by decide +kernel⟩, List.mem_of_getElem? (i := 17) (by decide +kernel), List.mem_of_getElem? (i := 102) (by decide +kernel), List.mem_of_getElem? (i := 103) (by decide +kernel)⟩
theorem lw_p4 : lw_okq (⟨"TalkRebuilder", "isInTalk", "(I)Z"⟩, 12) := ⟨⟨by decide +kernel, by decide +kernel⟩, List.mem_of_getElem? (i := 17) (by decide +kernel), List.mem_of_getElem? (i := 110) (by decide +kernel), List.mem_of_getElem? (i := 111) (by decide +kernel)⟩
theorem lw_p5 : lw_okq (⟨"TalkRebuilder", "isLine", "(I)Z"⟩, 12) := ⟨⟨by decide +kernel, by decide +kernel⟩, List.mem_of_getElem? (i := 17) (by decide +kernel), List.mem_of_getElem? (i := 114) (by decide +kernel), List.mem_of_getElem? (i := 115) (by decide +kernel)⟩
theorem lw_p6 : lw_okq (⟨"TalkRebuilder", "kindAt", "(I)C"⟩, 12) := ⟨⟨by decide +kernel, by decide +kernel⟩, List.mem_of_getElem? (i := 17) (by decide +kernel), List.mem_of_getElem? (i := 127) (by decide +kernel), List.mem_of_getElem? (i := 128) (by decide +kernel)⟩
theorem lw_p7 : lw_okq (⟨"TalkRebuilder", "signatureLength", "(I)I"⟩, 12) := ⟨⟨by decide +kernel, by decide +kernel⟩, List.mem_of_getElem? (i := 17) (by decide +kernel), List.mem_of_getElem? (i := 131) (by decide +kernel), List.mem_of_getElem? (i := 132) (by decide +kernel)⟩
theorem lw_p8 : lw_okq (⟨"TalkRebuilder", "commonEnd", "(II)I"⟩, 12) := ⟨⟨by decide +kernel, by decide +kernel⟩, List.mem_of_getElem? (i := 17) (by decide +kernel), List.mem_of_getElem? (i := 135) (by decide +kernel), List.mem_of_getElem? (i := 136) (by decide +kernel)⟩
theorem lw_p9 : lw_okq (⟨"TalkRebuilder", "hasPartner", "(I)Z"⟩, 12) := ⟨⟨by decide +kernel, by decide +kernel⟩, List.mem_of_getElem? (i := 17) (by decide +kernel), List.mem_of_getElem? (i := 148) (by decide +kernel), List.mem_of_getElem? (i := 149) (by decide +kernel)⟩
theorem lw_p10 : lw_okq (⟨"TalkRebuilder", "isDouble", "(I)Z"⟩, 12) := ⟨⟨by decide +kernel, by decide +kernel⟩, List.mem_of_getElem? (i := 17) (by decide +kernel), List.mem_of_getElem? (i := 152) (by decide +kernel), List.mem_of_getElem? (i := 153) (by decide +kernel)⟩
theorem lw_p11 : lw_okq (⟨"TalkRebuilder", "isEarlier", "(II)Z"⟩, 12) := ⟨⟨by decide +kernel, by decide +kernel⟩, List.mem_of_getElem? (i := 17) (by decide +kernel), List.mem_of_getElem? (i := 156) (by decide +kernel), List.mem_of_getElem? (i := 157) (by decide +kernel)⟩
theorem lw_p12 : lw_okq (⟨"TalkRebuilder", "originOf", "(I)I"⟩, 12) := ⟨⟨by decide +kernel, by decide +kernel⟩, List.mem_of_getElem? (i := 17) (by decide +kernel), List.mem_of_getElem? (i := 164) (by decide +kernel), List.mem_of_getElem? (i := 165) (by decide +kernel)⟩
theorem lw_p13 : lw_okq (⟨"TalkRebuilder", "countOnce", "(I)Z"⟩, 12) := ⟨⟨by decide +kernel, by decide +kernel⟩, List.mem_of_getElem? (i := 17) (by decide +kernel), List.mem_of_getElem? (i := 168) (by decide +kernel), List.mem_of_getElem? (i := 169) (by decide +kernel)⟩
theorem lw_p14 : lw_okq (⟨"TalkRebuilder", "rootOf", "(I)I"⟩, 12) := ⟨⟨by decide +kernel, by decide +kernel⟩, List.mem_of_getElem? (i := 17) (by decide +kernel), List.mem_of_getElem? (i := 176) (by decide +kernel), List.mem_of_getElem? (i := 177) (by decide +kernel)⟩
theorem lw_p15 : lw_okq (⟨"TalkRebuilder", "parentInThread", "(I)I"⟩, 12) := ⟨⟨by decide +kernel, by decide +kernel⟩, List.mem_of_getElem? (i := 17) (by decide +kernel), List.mem_of_getElem? (i := 180) (by decide +kernel), List.mem_of_getElem? (i := 181) (by decide +kernel)⟩
def lw_privs_1 : List (MethodName × Nat) := [(⟨"TalkRebuilder", "answersMissing", "(I)Z"⟩, 12), (⟨"TalkRebuilder", "parentOf", "(I)I"⟩, 12), (⟨"TalkRebuilder", "mailOfDate", "(I)I"⟩, 12), (⟨"TalkRebuilder", "isFirstToAnswerItsDate", "(I)Z"⟩, 12), (⟨"TalkRebuilder", "isInTalk", "(I)Z"⟩, 12), (⟨"TalkRebuilder", "isLine", "(I)Z"⟩, 12), (⟨"TalkRebuilder", "kindAt", "(I)C"⟩, 12), (⟨"TalkRebuilder", "signatureLength", "(I)I"⟩, 12), (⟨"TalkRebuilder", "commonEnd", "(II)I"⟩, 12), (⟨"TalkRebuilder", "hasPartner", "(I)Z"⟩, 12), (⟨"TalkRebuilder", "isDouble", "(I)Z"⟩, 12), (⟨"TalkRebuilder", "isEarlier", "(II)Z"⟩, 12), (⟨"TalkRebuilder", "originOf", "(I)I"⟩, 12), (⟨"TalkRebuilder", "countOnce", "(I)Z"⟩, 12), (⟨"TalkRebuilder", "rootOf", "(I)I"⟩, 12), (⟨"TalkRebuilder", "parentInThread", "(I)I"⟩, 12)]
theorem lw_r1 : ∀ q ∈ lw_privs_1, lw_okq q := List.forall_mem_cons.mpr ⟨lw_p0, List.forall_mem_cons.mpr ⟨lw_p1, List.forall_mem_cons.mpr ⟨lw_p2, List.forall_mem_cons.mpr ⟨lw_p3, List.forall_mem_cons.mpr ⟨lw_p4, List.forall_mem_cons.mpr ⟨lw_p5, List.forall_mem_cons.mpr ⟨lw_p6, List.forall_mem_cons.mpr ⟨lw_p7, List.forall_mem_cons.mpr ⟨lw_p8, List.forall_mem_cons.mpr ⟨lw_p9, List.forall_mem_cons.mpr ⟨lw_p10, List.forall_mem_cons.mpr ⟨lw_p11, List.forall_mem_cons.mpr ⟨lw_p12, List.forall_mem_cons.mpr ⟨lw_p13, List.forall_mem_cons.mpr ⟨lw_p14, List.forall_mem_cons.mpr ⟨lw_p15, fun _ h => absurd h List.not_mem_nil⟩⟩⟩⟩⟩⟩⟩⟩⟩⟩⟩⟩⟩⟩⟩⟩
theorem lw_p16 : lw_okq (⟨"java/lang/Throwable", "fillInStackTrace", "(I)Ljava/lang/Throwable;"⟩, 6) := ⟨⟨by decide +kernel, by decide +kernel⟩, List.mem_of_getElem? (i := 235) (by decide +kernel), List.mem_of_getElem? (i := 233) (by decide +kernel), List.mem_of_getElem? (i := 234) (by decide +kernel)⟩
theorem lw_p17 : lw_okq (⟨"TalkRebuilder", "requireMail", "(I)V"⟩, 12) := ⟨⟨by decide +kernel, by decide +kernel⟩, List.mem_of_getElem? (i := 17) (by decide +kernel), List.mem_of_getElem? (i := 313) (by decide +kernel), List.mem_of_getElem? (i := 314) (by decide +kernel)⟩
theorem lw_p18 : lw_okq (⟨"TalkRebuilder", "realignAround", "(I)V"⟩, 12) := ⟨⟨by decide +kernel, by decide +kernel⟩, List.mem_of_getElem? (i := 17) (by decide +kernel), List.mem_of_getElem? (i := 331) (by decide +kernel), List.mem_of_getElem? (i := 332) (by decide +kernel)⟩
theorem lw_p19 : lw_okq (⟨"TalkRebuilder", "realign", "(I)V"⟩, 12) := ⟨⟨by decide +kernel, by decide +kernel⟩, List.mem_of_getElem? (i := 17) (by decide +kernel), List.mem_of_getElem? (i := 335) (by decide +kernel), List.mem_of_getElem? (i := 336) (by decide +kernel)⟩
theorem lw_p20 : lw_okq (⟨"TalkRebuilder", "faceParent", "(I)V"⟩, 12) := ⟨⟨by decide +kernel, by decide +kernel⟩, List.mem_of_getElem? (i := 17) (by decide +kernel), List.mem_of_getElem? (i := 339) (by decide +kernel), List.mem_of_getElem? (i := 340) (by decide +kernel)⟩
theorem lw_p21 : lw_okq (⟨"TalkRebuilder", "requireLine", "(II)V"⟩, 12) := ⟨⟨by decide +kernel, by decide +kernel⟩, List.mem_of_getElem? (i := 17) (by decide +kernel), List.mem_of_getElem? (i := 390) (by decide +kernel), List.mem_of_getElem? (i := 391) (by decide +kernel)⟩
theorem lw_p22 : lw_okq (⟨"TalkRebuilder", "requireAnswered", "(I)I"⟩, 12) := ⟨⟨by decide +kernel, by decide +kernel⟩, List.mem_of_getElem? (i := 17) (by decide +kernel), List.mem_of_getElem? (i := 488) (by decide +kernel), List.mem_of_getElem? (i := 489) (by decide +kernel)⟩
theorem lw_p23 : lw_okq (⟨"TalkRebuilder", "isNew", "(I)Z"⟩, 12) := ⟨⟨by decide +kernel, by decide +kernel⟩, List.mem_of_getElem? (i := 17) (by decide +kernel), List.mem_of_getElem? (i := 492) (by decide +kernel), List.mem_of_getElem? (i := 493) (by decide +kernel)⟩
theorem lw_p24 : lw_okq (⟨"TalkRebuilder", "answeredBy", "(I)I"⟩, 12) := ⟨⟨by decide +kernel, by decide +kernel⟩, List.mem_of_getElem? (i := 17) (by decide +kernel), List.mem_of_getElem? (i := 512) (by decide +kernel), List.mem_of_getElem? (i := 513) (by decide +kernel)⟩
theorem lw_p25 : lw_okq (⟨"TalkRebuilder", "takeRootsOfParents", "()V"⟩, 12) := ⟨⟨by decide +kernel, by decide +kernel⟩, List.mem_of_getElem? (i := 17) (by decide +kernel), List.mem_of_getElem? (i := 553) (by decide +kernel), List.mem_of_getElem? (i := 554) (by decide +kernel)⟩
theorem lw_p26 : lw_okq (⟨"TalkRebuilderModel", "dated", "(I)I"⟩, 11) := ⟨⟨by decide +kernel, by decide +kernel⟩, List.mem_of_getElem? (i := 598) (by decide +kernel), List.mem_of_getElem? (i := 649) (by decide +kernel), List.mem_of_getElem? (i := 650) (by decide +kernel)⟩
theorem lw_p27 : lw_okq (⟨"TalkRebuilderModel", "fails", "(I)I"⟩, 11) := ⟨⟨by decide +kernel, by decide +kernel⟩, List.mem_of_getElem? (i := 598) (by decide +kernel), List.mem_of_getElem? (i := 653) (by decide +kernel), List.mem_of_getElem? (i := 654) (by decide +kernel)⟩
theorem lw_p28 : lw_okq (⟨"TalkRebuilderModel", "tells", "(I)I"⟩, 11) := ⟨⟨by decide +kernel, by decide +kernel⟩, List.mem_of_getElem? (i := 598) (by decide +kernel), List.mem_of_getElem? (i := 657) (by decide +kernel), List.mem_of_getElem? (i := 658) (by decide +kernel)⟩
theorem lw_p29 : lw_okq (⟨"TalkRebuilderModel", "isMail", "(I)Z"⟩, 11) := ⟨⟨by decide +kernel, by decide +kernel⟩, List.mem_of_getElem? (i := 598) (by decide +kernel), List.mem_of_getElem? (i := 665) (by decide +kernel), List.mem_of_getElem? (i := 666) (by decide +kernel)⟩
theorem lw_p30 : lw_okq (⟨"TalkRebuilderModel", "isLine", "(II)Z"⟩, 11) := ⟨⟨by decide +kernel, by decide +kernel⟩, List.mem_of_getElem? (i := 598) (by decide +kernel), List.mem_of_getElem? (i := 685) (by decide +kernel), List.mem_of_getElem? (i := 686) (by decide +kernel)⟩
theorem lw_p31 : lw_okq (⟨"TalkRebuilderModel", "parentOf", "(I)I"⟩, 11) := ⟨⟨by decide +kernel, by decide +kernel⟩, List.mem_of_getElem? (i := 598) (by decide +kernel), List.mem_of_getElem? (i := 693) (by decide +kernel), List.mem_of_getElem? (i := 694) (by decide +kernel)⟩
def lw_privs_2 : List (MethodName × Nat) := [(⟨"java/lang/Throwable", "fillInStackTrace", "(I)Ljava/lang/Throwable;"⟩, 6), (⟨"TalkRebuilder", "requireMail", "(I)V"⟩, 12), (⟨"TalkRebuilder", "realignAround", "(I)V"⟩, 12), (⟨"TalkRebuilder", "realign", "(I)V"⟩, 12), (⟨"TalkRebuilder", "faceParent", "(I)V"⟩, 12), (⟨"TalkRebuilder", "requireLine", "(II)V"⟩, 12), (⟨"TalkRebuilder", "requireAnswered", "(I)I"⟩, 12), (⟨"TalkRebuilder", "isNew", "(I)Z"⟩, 12), (⟨"TalkRebuilder", "answeredBy", "(I)I"⟩, 12), (⟨"TalkRebuilder", "takeRootsOfParents", "()V"⟩, 12), (⟨"TalkRebuilderModel", "dated", "(I)I"⟩, 11), (⟨"TalkRebuilderModel", "fails", "(I)I"⟩, 11), (⟨"TalkRebuilderModel", "tells", "(I)I"⟩, 11), (⟨"TalkRebuilderModel", "isMail", "(I)Z"⟩, 11), (⟨"TalkRebuilderModel", "isLine", "(II)Z"⟩, 11), (⟨"TalkRebuilderModel", "parentOf", "(I)I"⟩, 11)]
theorem lw_r2 : ∀ q ∈ lw_privs_2, lw_okq q := List.forall_mem_cons.mpr ⟨lw_p16, List.forall_mem_cons.mpr ⟨lw_p17, List.forall_mem_cons.mpr ⟨lw_p18, List.forall_mem_cons.mpr ⟨lw_p19, List.forall_mem_cons.mpr ⟨lw_p20, List.forall_mem_cons.mpr ⟨lw_p21, List.forall_mem_cons.mpr ⟨lw_p22, List.forall_mem_cons.mpr ⟨lw_p23, List.forall_mem_cons.mpr ⟨lw_p24, List.forall_mem_cons.mpr ⟨lw_p25, List.forall_mem_cons.mpr ⟨lw_p26, List.forall_mem_cons.mpr ⟨lw_p27, List.forall_mem_cons.mpr ⟨lw_p28, List.forall_mem_cons.mpr ⟨lw_p29, List.forall_mem_cons.mpr ⟨lw_p30, List.forall_mem_cons.mpr ⟨lw_p31, fun _ h => absurd h List.not_mem_nil⟩⟩⟩⟩⟩⟩⟩⟩⟩⟩⟩⟩⟩⟩⟩⟩
theorem lw_p32 : lw_okq (⟨"TalkRebuilderModel", "alignedOf", "(I)I"⟩, 11) := ⟨⟨by decide +kernel, by decide +kernel⟩, List.mem_of_getElem? (i := 598) (by decide +kernel), List.mem_of_getElem? (i := 705) (by decide +kernel), List.mem_of_getElem? (i := 706) (by decide +kernel)⟩
theorem lw_p33 : lw_okq (⟨"TalkRebuilderModel", "aligns", "(I)V"⟩, 11) := ⟨⟨by decide +kernel, by decide +kernel⟩, List.mem_of_getElem? (i := 598) (by decide +kernel), List.mem_of_getElem? (i := 709) (by decide +kernel), List.mem_of_getElem? (i := 710) (by decide +kernel)⟩
theorem lw_p34 : lw_okq (⟨"TalkRebuilderModel", "fits", "(II)Z"⟩, 11) := ⟨⟨by decide +kernel, by decide +kernel⟩, List.mem_of_getElem? (i := 598) (by decide +kernel), List.mem_of_getElem? (i := 713) (by decide +kernel), List.mem_of_getElem? (i := 714) (by decide +kernel)⟩
theorem lw_p35 : lw_okq (⟨"TalkRebuilderModel", "alignsAll", "()V"⟩, 11) := ⟨⟨by decide +kernel, by decide +kernel⟩, List.mem_of_getElem? (i := 598) (by decide +kernel), List.mem_of_getElem? (i := 729) (by decide +kernel), List.mem_of_getElem? (i := 730) (by decide +kernel)⟩
theorem lw_p36 : lw_okq (⟨"TalkRebuilderModel", "origin", "(II)I"⟩, 11) := ⟨⟨by decide +kernel, by decide +kernel⟩, List.mem_of_getElem? (i := 598) (by decide +kernel), List.mem_of_getElem? (i := 733) (by decide +kernel), List.mem_of_getElem? (i := 734) (by decide +kernel)⟩
theorem lw_p37 : lw_okq (⟨"TalkRebuilderModel", "kindOf", "(II)C"⟩, 11) := ⟨⟨by decide +kernel, by decide +kernel⟩, List.mem_of_getElem? (i := 598) (by decide +kernel), List.mem_of_getElem? (i := 745) (by decide +kernel), List.mem_of_getElem? (i := 746) (by decide +kernel)⟩
theorem lw_p38 : lw_okq (⟨"TalkRebuilderModel", "signed", "(I)I"⟩, 11) := ⟨⟨by decide +kernel, by decide +kernel⟩, List.mem_of_getElem? (i := 598) (by decide +kernel), List.mem_of_getElem? (i := 749) (by decide +kernel), List.mem_of_getElem? (i := 750) (by decide +kernel)⟩
theorem lw_p39 : lw_okq (⟨"TalkRebuilderModel", "endAlike", "(III)Z"⟩, 11) := ⟨⟨by decide +kernel, by decide +kernel⟩, List.mem_of_getElem? (i := 598) (by decide +kernel), List.mem_of_getElem? (i := 753) (by decide +kernel), List.mem_of_getElem? (i := 754) (by decide +kernel)⟩
theorem lw_p40 : lw_okq (⟨"TalkRebuilderModel", "stoodBefore", "(II)Z"⟩, 11) := ⟨⟨by decide +kernel, by decide +kernel⟩, List.mem_of_getElem? (i := 598) (by decide +kernel), List.mem_of_getElem? (i := 757) (by decide +kernel), List.mem_of_getElem? (i := 758) (by decide +kernel)⟩
theorem lw_p41 : lw_okq (⟨"TalkRebuilderModel", "asksAnswered", "(II)I"⟩, 11) := ⟨⟨by decide +kernel, by decide +kernel⟩, List.mem_of_getElem? (i := 598) (by decide +kernel), List.mem_of_getElem? (i := 769) (by decide +kernel), List.mem_of_getElem? (i := 770) (by decide +kernel)⟩
theorem lw_p42 : lw_okq (⟨"TalkRebuilderModel", "answersOf", "(II)I"⟩, 11) := ⟨⟨by decide +kernel, by decide +kernel⟩, List.mem_of_getElem? (i := 598) (by decide +kernel), List.mem_of_getElem? (i := 773) (by decide +kernel), List.mem_of_getElem? (i := 774) (by decide +kernel)⟩
theorem lw_p43 : lw_okq (⟨"TalkRebuilderModel", "talkOf", "()I"⟩, 11) := ⟨⟨by decide +kernel, by decide +kernel⟩, List.mem_of_getElem? (i := 598) (by decide +kernel), List.mem_of_getElem? (i := 789) (by decide +kernel), List.mem_of_getElem? (i := 790) (by decide +kernel)⟩
theorem lw_p44 : lw_okq (⟨"TalkRebuilderModel", "isTalk", "(II)Z"⟩, 11) := ⟨⟨by decide +kernel, by decide +kernel⟩, List.mem_of_getElem? (i := 598) (by decide +kernel), List.mem_of_getElem? (i := 793) (by decide +kernel), List.mem_of_getElem? (i := 794) (by decide +kernel)⟩
theorem lw_p45 : lw_okq (⟨"TalkRebuilderModel", "rootOf", "(I)I"⟩, 11) := ⟨⟨by decide +kernel, by decide +kernel⟩, List.mem_of_getElem? (i := 598) (by decide +kernel), List.mem_of_getElem? (i := 809) (by decide +kernel), List.mem_of_getElem? (i := 810) (by decide +kernel)⟩
theorem lw_p46 : lw_okq (⟨"TalkRebuilderModel", "heads", "()I"⟩, 11) := ⟨⟨by decide +kernel, by decide +kernel⟩, List.mem_of_getElem? (i := 598) (by decide +kernel), List.mem_of_getElem? (i := 821) (by decide +kernel), List.mem_of_getElem? (i := 822) (by decide +kernel)⟩
def lw_privs_3 : List (MethodName × Nat) := [(⟨"TalkRebuilderModel", "alignedOf", "(I)I"⟩, 11), (⟨"TalkRebuilderModel", "aligns", "(I)V"⟩, 11), (⟨"TalkRebuilderModel", "fits", "(II)Z"⟩, 11), (⟨"TalkRebuilderModel", "alignsAll", "()V"⟩, 11), (⟨"TalkRebuilderModel", "origin", "(II)I"⟩, 11), (⟨"TalkRebuilderModel", "kindOf", "(II)C"⟩, 11), (⟨"TalkRebuilderModel", "signed", "(I)I"⟩, 11), (⟨"TalkRebuilderModel", "endAlike", "(III)Z"⟩, 11), (⟨"TalkRebuilderModel", "stoodBefore", "(II)Z"⟩, 11), (⟨"TalkRebuilderModel", "asksAnswered", "(II)I"⟩, 11), (⟨"TalkRebuilderModel", "answersOf", "(II)I"⟩, 11), (⟨"TalkRebuilderModel", "talkOf", "()I"⟩, 11), (⟨"TalkRebuilderModel", "isTalk", "(II)Z"⟩, 11), (⟨"TalkRebuilderModel", "rootOf", "(I)I"⟩, 11), (⟨"TalkRebuilderModel", "heads", "()I"⟩, 11)]
theorem lw_r3 : ∀ q ∈ lw_privs_3, lw_okq q := List.forall_mem_cons.mpr ⟨lw_p32, List.forall_mem_cons.mpr ⟨lw_p33, List.forall_mem_cons.mpr ⟨lw_p34, List.forall_mem_cons.mpr ⟨lw_p35, List.forall_mem_cons.mpr ⟨lw_p36, List.forall_mem_cons.mpr ⟨lw_p37, List.forall_mem_cons.mpr ⟨lw_p38, List.forall_mem_cons.mpr ⟨lw_p39, List.forall_mem_cons.mpr ⟨lw_p40, List.forall_mem_cons.mpr ⟨lw_p41, List.forall_mem_cons.mpr ⟨lw_p42, List.forall_mem_cons.mpr ⟨lw_p43, List.forall_mem_cons.mpr ⟨lw_p44, List.forall_mem_cons.mpr ⟨lw_p45, List.forall_mem_cons.mpr ⟨lw_p46, fun _ h => absurd h List.not_mem_nil⟩⟩⟩⟩⟩⟩⟩⟩⟩⟩⟩⟩⟩⟩⟩
def lw_privs : List (MethodName × Nat) := lw_privs_1 ++ (lw_privs_2 ++ (lw_privs_3))
def lw_tbl : List Cond := k2_sels lw_privs ++ tables_1
theorem lw_privs_ok : ∀ q ∈ lw_privs, lw_okq q := by
  show ∀ q ∈ lw_privs_1 ++ (lw_privs_2 ++ (lw_privs_3)), lw_okq q
  exact List.forall_mem_append.mpr ⟨lw_r1, List.forall_mem_append.mpr ⟨lw_r2, lw_r3⟩⟩
/-- the streams that the claim lets the run draw from -/
abbrev lw_cs : List Choice := [Jvm.Choice.named "NaN.bits"]
theorem lw_bits : nanBits ∈ lw_cs := by first | decide | exact List.mem_cons_self | simp [lw_cs, nanBits]
-- ===== end of PART A; then your names; then what follows =====
end
section
/-! ===== BEGIN words of one list among another's, by their places ===== -/
theorem goodIn_r {big : List Cond} (ws : List Cond) (ps : List Nat) (hp : ws = ps.filterMap (fun i => big[i]?)) (h : ws.all goodWord = true) : GoodIn big ws := by
  intro w hw
  have h1 := List.all_eq_true.mp h w hw
  rw [hp] at hw
  obtain ⟨i, -, hi⟩ := List.mem_filterMap.mp hw
  have hm : w ∈ big := by first | exact List.mem_of_getElem? hi | exact List.getElem?_mem hi
  exact ⟨hm, good_of_word h1⟩
theorem goodIn_app {big a b : List Cond} (ha : GoodIn big a) (hb : GoodIn big b) : GoodIn big (a ++ b) := fun w h => (List.mem_append.mp h).elim (ha w) (hb w)
theorem goodIn_ca {big a b : List Cond} {c : Cond} (ha : GoodIn big (c :: a)) (hb : GoodIn big b) : GoodIn big (c :: (a ++ b)) := fun w h => (List.mem_cons.mp h).elim (fun e => ha w (List.mem_cons.mpr (Or.inl e))) (fun h => (List.mem_append.mp h).elim (fun h => ha w (List.mem_cons.mpr (Or.inr h))) (hb w))
theorem goodIn_sub {big ws : List Cond} (hm : ∀ w ∈ ws, w ∈ big) (h : ws.all goodWord = true) : GoodIn big ws := fun w hw => ⟨hm w hw, good_of_word (List.all_eq_true.mp h w hw)⟩
/-! ===== END ===== -/


/-! ===== BEGIN exceptions that leave a method, and their catching by the caller (launches without stack traces) ===== -/
section VXA
/-! The laws vx_back, vx_callV, vx_callS, vx_callSW, vx_throw0, vx_throwS follow proofs of the library, with one case more: JvmDerived/Free/Laws.lean (Back.of_free), Shelf42/LK1.lean (callV, callS), Shelf/KitTraced.lean (throwNew0V, throwNewS). -/
/-- where a method has thrown q: the class by its name, the cell, what was written, the world -/
def vx_T (XC : String → State → State → Prop) (st : State) (q : Addr) (t : State) (mc ms : Nat) (free : Addr → Prop) : Prop :=
  ∃ (E : String) (ce : Cell) (L : List Loc), XC E st t ∧ t.heap[q]? = some ce ∧ ce.vm = .none ∧ st.vm.findClass E = some ce.cls ∧ st.WarmedH t.vm ∧ st.sameButNew ({ t with vm := st.vm } : State) L mc ms ∧ ∀ z ∈ L, free z.base
def vx_Q (Qc : Array Value → State → Outcome → State → Prop) (XC : String → State → State → Prop) (mc ms : Nat) (free : Addr → Prop) : Array Value → State → Outcome → State → Prop := fun a st o t =>
  (Qc a st o t ∧ ∃ L, FrameEnd st o t L mc ms ∧ ∀ q ∈ L, free q.base) ∨ ∃ q, o = .threw q ∧ vx_T XC st q t mc ms free
/-- a callee that returns or throws -/
def vx_Met (l : Launch) (y : MethodName) (ws : List Cond) (rm : Room) (Pc : Array Value → State → Prop) (Qc : Array Value → State → Outcome → State → Prop) (XC : String → State → State → Prop) (mc ms : Nat) (free : Addr → Prop) : Prop :=
  MetFree l y (headSpec ws rm) Pc (fun _ _ _ _ _ => True) (vx_Q Qc XC mc ms free)
def vx_Post (XC : String → State → State → Prop) (mc ms : Nat) (free : Addr → Prop) : Pt → Array Value → Addr → Pt → Prop := fun A a q B =>
  ∃ (g : JFrame) (mk : MethodId) (t : State) (L : List Loc) (E : String) (ce : Cell), B.U.heap = t.heap ∧ B.U.vm = t.vm ∧ XC E (A.U.calling g mk a) t ∧ t.heap[q]? = some ce ∧ ce.vm = .none ∧ A.U.vm.findClass E = some ce.cls ∧ B.locs = A.locs ++ L ∧ (∀ z ∈ L, free z.base) ∧ B.cells = A.cells + mc ∧ B.slots = A.slots + ms
def vx_Back (l : Launch) (R : Room) (p : Program) (e : Env) (below : List Frame) (s : State) (sargs : Array Value) (y : MethodName) (len W9 : Nat)
    (Pre : Pt → Array Value → Prop) (Post : Pt → Array Value → Option Value → Pt → Prop) (PostX : Pt → Array Value → Addr → Pt → Prop) : Prop :=
  ∀ (m : MethodId) (meth : Method) (c : Code) (A : Pt) (g : JFrame) (ig : Instr) (mk : MethodId) (a : Array Value),
    Stand p l e R s m sargs below meth c A.U A.locs A.cells A.slots → g.method = m → g.locals.size = c.maxLocals → decode c.code g.pc = .ok (ig, len) →
    2 * g.monitorRoom + (g.stack.map fun v => v.category).sum ≤ W9 → A.U.methodNamed? y = some mk → Pre A a →
    (∃ (v : Option Value) (B : Pt), Stand p l e R s m sargs below meth c B.U B.locs B.cells B.slots ∧ Post A a v B ∧
      Steps p.tables e below (doInvoke e (A.U.setTop g) [] mk a).1 (B.U.setTop { g with pc := g.pc + len, stack := v.toList ++ g.stack })) ∨
    (∃ (q : Addr) (B : Pt), Stand p l e R s m sargs below meth c B.U B.locs B.cells B.slots ∧ PostX A a q B ∧
      Steps p.tables e below (doInvoke e (A.U.setTop g) [] mk a).1 ((B.U.setTop g).pushFrame (.throwing q)))
section Payer
variable {l : Launch} {R : Room} {p : Program} {e : Env} {below : List Frame} {s : State} {sargs : Array Value} {y : MethodName} {len W9 : Nat}
theorem vx_back {ws : List Cond} {rm : Room} {Pc : Array Value → State → Prop} {Qc : Array Value → State → Outcome → State → Prop} {XC : String → State → State → Prop} {mc ms : Nat} {free : Addr → Prop} {bytes : ByteArray} {maxL : Nat} {ret : Option FieldType}
    (hM : vx_Met l y ws rm Pc Qc XC mc ms free) (hblind : FrameBlind Pc) (hrc : rm.cells = mc) (hrs : rm.slots = ms)
    (hframes : rm.frames + 1 ≤ R.frames) (hlocals : W9 + (maxL + 11) + rm.locals ≤ R.locals)
    (hws : ∀ w ∈ ws, ∀ a' U, s.WarmedH U.vm → w.before a' U = true) (hcode : Cond.code y bytes maxL ret ∈ ws) (hinit : ∀ a' U, s.WarmedH U.vm → (Cond.initialized y.cls).before a' U = true) :
    vx_Back l R p e below s sargs y len W9 (PreOf R mc ms Pc) (PostOf Qc mc ms free) (vx_Post XC mc ms free) := by
  intro m meth c A g ig mk a X hg hsize hdg hW hn hp
  have h1 : (headSpec ws rm).pre.before a A.U = true := atoms_intro fun w hw => hws w hw _ _ X.warmed
  have h2 : (Cond.code y bytes maxL ret).before a A.U = true := hws _ hcode _ _ X.warmed
  have h3 : (Cond.initialized y.cls).before a A.U = true := hinit _ _ X.warmed
  have h4 : A.cells + (headSpec ws rm).room.cells ≤ R.cells := by rw [show (headSpec ws rm).room.cells = mc from hrc]; exact hp.1
  have h5 : A.slots + (headSpec ws rm).room.slots ≤ R.slots := by rw [show (headSpec ws rm).room.slots = ms from hrs]; exact hp.2.1
  have hPc : Pc a (A.U.calling g mk a) := hblind _ _ _ _ hp.2.2
  obtain ⟨U, Ls, c0, s0⟩ := A
  dsimp only [Pt.U, Pt.locs, Pt.cells, Pt.slots] at h1 h2 h3 h4 h5 X hn hPc ⊢
  obtain ⟨methY, cY, hmY, hcY, -, hlY, -, -, -, -⟩ := Cond.code_spec hn h2
  obtain ⟨kY, hkY, -⟩ := className_of_methodNamed hn
  have hinitY : kY.init = .initialized := Cond.initialized_spec (findClass_of_methodNamed hn) hkY h3
  have h : At U g.method c below := by rw [hg]; exact X.here
  have hlocals9 : W9 + (maxL + 11) + (headSpec ws rm).room.locals ≤ R.locals := hlocals
  have happ : (headSpec ws rm).appliesLoose y e.platform (U.calling g mk a) = true :=
    Spec.appliesLoose_calling (g := g) h hdg hn hkY hinitY
      (X.room_calling (g := g) (R' := (headSpec ws rm).room) hsize hmY hcY hframes (by rw [hlY]; omega) h4 h5) h1
  obtain ⟨mid, hmid⟩ := h.above
  have hfr : (U.setTop g).frames = (.java g :: mid) ++ below := by rw [State.frames_setTop' g h.top, hmid]; rfl
  obtain ⟨o, s₂, hsteps, -, hend, hq⟩ := Steps.callFree hM p X.admits X.cas X.clock (acts := []) hfr happ hPc trivial
  have hq' : vx_Q Qc XC mc ms free a (U.calling g mk a) o s₂ := hq
  rw [State.frames_setTop' g h.top] at hend
  obtain ⟨g₀, hg0⟩ := Option.isSome_iff_exists.mp h.top
  obtain ⟨r, hr⟩ := State.topJava?_eq_some.mp hg0
  have hr' : (({ U with heap := s₂.heap, slotsUsed := s₂.slotsUsed } : State).setVm s₂.vm).frames = .java g₀ :: r := hr
  rcases hq' with ⟨hqc, L, hfe, hL⟩ | ⟨q, rfl, E, ce, L, hx, hce, hcv, hcl, hW₂, hsm, hL⟩
  · obtain ⟨⟨v, rfl⟩, hW₂, e2, q2, q3, q4, q5, q6⟩ := id hfe
    have e3 : s₂ = ({ (U.calling g mk a).setFrames s₂.frames with heap := s₂.heap, slotsUsed := s₂.slotsUsed } : State).setVm s₂.vm := by
      have : s₂ = ({ s₂ with vm := (U.calling g mk a).vm } : State).setVm s₂.vm := rfl
      rw [e2] at this
      exact this
    obtain ⟨c₂, i₂, len₂, hc₂, hd₂, hf₂⟩ := hend
    have hW' : U.WarmedH s₂.vm := hW₂
    have hcc : c₂ = c := by
      have h1 : s₂.code? g.method = U.code? g.method := by
        rw [State.code?_eq, State.code?_eq, hW'.alike.method?]
      exact Option.some.inj (hc₂.symm.trans (h1.trans h.code))
    subst hcc
    have hlen : len₂ = len := by rw [hdg] at hd₂; cases hd₂; rfl
    subst hlen
    have hs₂ : s₂ = (({ U with heap := s₂.heap, slotsUsed := s₂.slotsUsed } : State).setVm s₂.vm).setTop { g with pc := g.pc + len₂, stack := v.toList ++ g.stack } := by
      refine e3.trans ?_
      rw [hf₂, State.calling_eq h.top, State.setFrames_setFrames, State.setTop_of_frames _ hr', hr]
      rfl
    have hsame : U.sameButNew ({ U with heap := s₂.heap, slotsUsed := s₂.slotsUsed } : State) L mc ms := by
      refine ⟨?_, q2, q3, q4, q5, q6⟩
      obtain ⟨t, ht, -⟩ := State.frames_cons hr
      show ({ U with heap := s₂.heap, slotsUsed := s₂.slotsUsed } : State) = { U.setFrames U.frames with heap := s₂.heap, slotsUsed := s₂.slotsUsed }
      rw [State.setFrames_self ht]
    subst hg
    refine Or.inl ⟨v, ⟨(({ U with heap := s₂.heap, slotsUsed := s₂.slotsUsed } : State).setVm s₂.vm), Ls ++ L, c0 + mc, s0 + ms⟩,
      ⟨X.admits, X.cas, X.clock, X.frames, X.room, X.hears, X.method, X.code, (X.here.setHeapUsed s₂.heap s₂.slotsUsed).setVm hW'.alike, X.tail, State.WarmedH.trans X.warmed hW', X.limits, X.bytes, X.same.trans (hsame.setVm s.vm)⟩,
      ⟨g, mk, s₂, L, rfl, rfl, hqc, rfl, hL, rfl, rfl⟩, ?_⟩
    show Steps p.tables e below _ ((({ U with heap := s₂.heap, slotsUsed := s₂.slotsUsed } : State).setVm s₂.vm).setTop { g with pc := g.pc + len₂, stack := v.toList ++ g.stack })
    rw [← hs₂]
    exact hsteps
  · obtain ⟨e2, q2, q3, q4, q5, q6⟩ := id hsm
    have e3 : s₂ = ({ (U.calling g mk a).setFrames s₂.frames with heap := s₂.heap, slotsUsed := s₂.slotsUsed } : State).setVm s₂.vm := by
      have : s₂ = ({ s₂ with vm := (U.calling g mk a).vm } : State).setVm s₂.vm := rfl
      rw [e2] at this
      exact this
    have hf₂ : s₂.frames = .throwing q :: .java g :: U.frames.tail := hend
    have hW' : U.WarmedH s₂.vm := hW₂
    have hs₂ : s₂ = ((({ U with heap := s₂.heap, slotsUsed := s₂.slotsUsed } : State).setVm s₂.vm).setTop g).pushFrame (.throwing q) := by
      refine e3.trans ?_
      rw [hf₂, State.calling_eq h.top, State.setFrames_setFrames, State.pushFrame, State.frames_setTop _ hr', State.setTop_of_frames _ hr', State.setFrames_setFrames, hr]
      rfl
    have hsame : U.sameButNew ({ U with heap := s₂.heap, slotsUsed := s₂.slotsUsed } : State) L mc ms := by
      refine ⟨?_, q2, q3, q4, q5, q6⟩
      obtain ⟨t, ht, -⟩ := State.frames_cons hr
      show ({ U with heap := s₂.heap, slotsUsed := s₂.slotsUsed } : State) = { U.setFrames U.frames with heap := s₂.heap, slotsUsed := s₂.slotsUsed }
      rw [State.setFrames_self ht]
    subst hg
    refine Or.inr ⟨q, ⟨(({ U with heap := s₂.heap, slotsUsed := s₂.slotsUsed } : State).setVm s₂.vm), Ls ++ L, c0 + mc, s0 + ms⟩,
      ⟨X.admits, X.cas, X.clock, X.frames, X.room, X.hears, X.method, X.code, (X.here.setHeapUsed s₂.heap s₂.slotsUsed).setVm hW'.alike, X.tail, State.WarmedH.trans X.warmed hW', X.limits, X.bytes, X.same.trans (hsame.setVm s.vm)⟩,
      ⟨g, mk, s₂, L, E, ce, rfl, rfl, hx, hce, hcv, hcl, rfl, hL, rfl, rfl⟩, ?_⟩
    show Steps p.tables e below _ (((({ U with heap := s₂.heap, slotsUsed := s₂.slotsUsed } : State).setVm s₂.vm).setTop g).pushFrame (.throwing q))
    rw [← hs₂]
    exact hsteps
end Payer
section Calls
variable {p : Program} {l : Launch} {e : Env} {R : Room} {s : State} {m : MethodId} {args : Array Value} {below : List Frame} {meth : Method} {c : Code} {T : State} {locs : List Loc} {cells slots : Nat}
theorem vx_callV (X : Stand p l e R s m args below meth c T locs cells slots) (hexec : p.tables.exec = Jvm.exec) {own C : String} {index : Nat} {y : MethodName} {bytes : ByteArray} {maxL : Nat} {ret : Option FieldType}
    (hown : s.vm.findClass own = some m.cls) (hlink : (Cond.methodLink own index y).before args s = true) (hinst : (Cond.instanceMethod y).before args s = true) (hsel : (Cond.selects C y y).before args s = true)
    (hcode : (Cond.code y bytes maxL ret).before args s = true) (hy : y.cls ≠ "java/lang/invoke/MethodHandle" ∧ y.cls ≠ "java/lang/invoke/VarHandle")
    {W9 : Nat} {Pre : Pt → Array Value → Prop} {Post : Pt → Array Value → Option Value → Pt → Prop} {PostX : Pt → Array Value → Addr → Pt → Prop} (hK : vx_Back l R p e below s args y 3 W9 Pre Post PostX)
    {b : Addr} {cellB : Cell} (hcell : T.heap[b]? = some cellB) (hobj : cellB.vm.isStatics = false) (hcls : s.vm.findClass C = some cellB.cls)
    {g : JFrame} (hg : g.method = m) (hsize : g.locals.size = c.maxLocals) {argsL rest : List Value} (hlen : ∀ sig, parseMethodDescriptor y.desc = some sig → argsL.length = sig.parameters.length)
    (hstack : g.stack = argsL.reverse ++ .ref b :: rest) (hW : 2 * g.monitorRoom + (rest.map fun v => v.category).sum ≤ W9) (hdg : decode c.code g.pc = .ok (.invokevirtual index, 3))
    (hpre : ∀ vm₁, s.WarmedH vm₁ → Pre ⟨T.setVm vm₁, locs, cells, slots⟩ (Value.ref b :: argsL).toArray) :
    (∃ (v : Option Value) (vm₁ : Vm) (B : Pt), s.WarmedH vm₁ ∧ Stand p l e R s m args below meth c B.U B.locs B.cells B.slots ∧ Post ⟨T.setVm vm₁, locs, cells, slots⟩ (Value.ref b :: argsL).toArray v B ∧
      ∀ target, Steps p.tables e below (B.U.setTop { g with pc := g.pc + 3, stack := v.toList ++ rest }) target → Steps p.tables e below (T.setTop g) target) ∨
    (∃ (q : Addr) (vm₁ : Vm) (B : Pt), s.WarmedH vm₁ ∧ Stand p l e R s m args below meth c B.U B.locs B.cells B.slots ∧ PostX ⟨T.setVm vm₁, locs, cells, slots⟩ (Value.ref b :: argsL).toArray q B ∧
      Steps p.tables e below (T.setTop g) ((B.U.setTop { g with stack := rest }).pushFrame (.throwing q))) := by
  obtain ⟨mk, methM, hnamed, hmethM, hstM, habM⟩ := Cond.instanceMethod_spec hinst
  obtain ⟨methM', cM, hmethM', -, -, -, -, -, -, hsigM⟩ := Cond.code_spec hnamed hcode
  cases hmethM.symm.trans hmethM'
  obtain ⟨c2, r2, m2, q1, q2, q3, q4, kP, hkP, hkPi⟩ := Cond.selects_spec hsel
  cases hcls.symm.trans q1
  cases (State.methodFound?_of_named hnamed hy).symm.trans q2
  cases hnamed.symm.trans q3
  have hselP : selectMethod e.platform s.vm cellB.cls mk = .method mk := by rw [Launch.admits_selectMethod X.admits]; exact q4
  obtain ⟨vm₁, X₁, hstep₁⟩ := X.invokevirtual hexec hown hlink hnamed hmethM hstM hkP hkPi hy (a := b) (cell := cellB) hcell
    (fun z h => by rw [h] at hobj; cases hobj) hselP hmethM habM hkP hkPi (g := g) hg (argsL := argsL) (rest := rest) (hlen _ hsigM) hstack hdg
  rcases hK m meth c ⟨T.setVm vm₁, locs, cells, slots⟩ { g with stack := rest } (.invokevirtual index) mk (Value.ref b :: argsL).toArray X₁ hg hsize hdg hW (X₁.named hnamed) (hpre vm₁ X₁.warmed) with ⟨v, B, X', hpost, hsteps⟩ | ⟨q, B, X', hpost, hsteps⟩
  · exact Or.inl ⟨v, vm₁, B, X₁.warmed, X', hpost, fun target h => hstep₁ _ fun acts => by rw [doInvoke_state]; exact hsteps.trans h⟩
  · exact Or.inr ⟨q, vm₁, B, X₁.warmed, X', hpost, hstep₁ _ fun acts => by rw [doInvoke_state]; exact hsteps⟩
theorem vx_callS (X : Stand p l e R s m args below meth c T locs cells slots) (hexec : p.tables.exec = Jvm.exec) {own : String} {index : Nat} {y : MethodName} {bytes : ByteArray} {maxL : Nat} {ret : Option FieldType}
    (hown : s.vm.findClass own = some m.cls) (hlink : (Cond.methodLink own index y).before args s = true) (hstat : (Cond.static y).before args s = true) (hinit : (Cond.initialized y.cls).before args s = true)
    (hcode : (Cond.code y bytes maxL ret).before args s = true) (hy : y.cls ≠ "java/lang/invoke/MethodHandle" ∧ y.cls ≠ "java/lang/invoke/VarHandle")
    {W9 : Nat} {Pre : Pt → Array Value → Prop} {Post : Pt → Array Value → Option Value → Pt → Prop} {PostX : Pt → Array Value → Addr → Pt → Prop} (hK : vx_Back l R p e below s args y 3 W9 Pre Post PostX)
    {g : JFrame} (hg : g.method = m) (hsize : g.locals.size = c.maxLocals) {argsL rest : List Value} (hlen : ∀ sig, parseMethodDescriptor y.desc = some sig → argsL.length = sig.parameters.length)
    (hstack : g.stack = argsL.reverse ++ rest) (hW : 2 * g.monitorRoom + (rest.map fun v => v.category).sum ≤ W9) (hdg : decode c.code g.pc = .ok (.invokestatic index, 3))
    (hpre : ∀ vm₁, s.WarmedH vm₁ → Pre ⟨T.setVm vm₁, locs, cells, slots⟩ argsL.toArray) :
    (∃ (v : Option Value) (vm₁ : Vm) (B : Pt), s.WarmedH vm₁ ∧ Stand p l e R s m args below meth c B.U B.locs B.cells B.slots ∧ Post ⟨T.setVm vm₁, locs, cells, slots⟩ argsL.toArray v B ∧
      ∀ target, Steps p.tables e below (B.U.setTop { g with pc := g.pc + 3, stack := v.toList ++ rest }) target → Steps p.tables e below (T.setTop g) target) ∨
    (∃ (q : Addr) (vm₁ : Vm) (B : Pt), s.WarmedH vm₁ ∧ Stand p l e R s m args below meth c B.U B.locs B.cells B.slots ∧ PostX ⟨T.setVm vm₁, locs, cells, slots⟩ argsL.toArray q B ∧
      Steps p.tables e below (T.setTop g) ((B.U.setTop { g with stack := rest }).pushFrame (.throwing q))) := by
  obtain ⟨mk, hnamed⟩ := Cond.code_named hcode
  obtain ⟨methM, cM, hmethM, -, -, -, -, -, -, hsigM⟩ := Cond.code_spec hnamed hcode
  have hstatic : methM.isStatic = true := Cond.static_spec hnamed hmethM hstat
  obtain ⟨kP, hkP, -⟩ := className_of_methodNamed hnamed
  have hinitP : kP.init = .initialized := Cond.initialized_spec (findClass_of_methodNamed hnamed) hkP hinit
  obtain ⟨vm₁, X₁, hstep₁⟩ := X.invokestatic hexec hown hlink hnamed hmethM hstatic hkP hinitP hy (g := g) hg (argsL := argsL) (rest := rest) (hlen _ hsigM) hstack hdg
  rcases hK m meth c ⟨T.setVm vm₁, locs, cells, slots⟩ { g with stack := rest } (.invokestatic index) mk argsL.toArray X₁ hg hsize hdg hW (X₁.named hnamed) (hpre vm₁ X₁.warmed) with ⟨v, B, X', hpost, hsteps⟩ | ⟨q, B, X', hpost, hsteps⟩
  · exact Or.inl ⟨v, vm₁, B, X₁.warmed, X', hpost, fun target h => hstep₁ _ fun acts => by rw [doInvoke_state]; exact hsteps.trans h⟩
  · exact Or.inr ⟨q, vm₁, B, X₁.warmed, X', hpost, hstep₁ _ fun acts => by rw [doInvoke_state]; exact hsteps⟩
end Calls
theorem vx_cls {s : State} {T : State} {vm₁ : Vm} {E : String} {k : ClassId} (hW : s.WarmedH vm₁) (h : (T.setVm vm₁).vm.findClass E = some k) : s.vm.findClass E = some k := by
  have h1 : vm₁.findClass E = some k := h
  rw [hW.alike.findClass] at h1
  exact h1
/-- the method's frame g, with q thrown over it -/
def vx_W (p : Program) (l : Launch) (e : Env) (R : Room) (s : State) (m : MethodId) (args : Array Value) (below : List Frame) (meth : Method) (c : Code) (H : Heap) (locs : List Loc) (cells slots : Nat) (Q : State → Prop) (g : JFrame) (q : Addr) : Prop :=
  ∀ T : State, T.heap = H → Stand p l e R s m args below meth c T locs cells slots → ∃ t, Steps p.tables e below ((T.setTop g).pushFrame (.throwing q)) t ∧ Q t
def vx_Run (p : Program) (l : Launch) (e : Env) (R : Room) (s : State) (m : MethodId) (args : Array Value) (below : List Frame) (meth : Method) (c : Code) (H : Heap) (locs : List Loc) (cells slots mc ms : Nat) (g : JFrame) (rest : List Value) (Qa : State → Outcome → State → Prop) (XC : String → State → State → Prop) (free : Addr → Prop) : Prop :=
  ∀ T : State, T.heap = H → Stand p l e R s m args below meth c T locs cells slots →
    (∃ (v : Option Value) (st₀ t T' : State) (L : List Loc), st₀.heap = H ∧ Stand p l e R s m args below meth c T' (locs ++ L) (cells + mc) (slots + ms) ∧ (∀ q ∈ L, free q.base) ∧ T'.heap = t.heap ∧ T'.vm = t.vm ∧ Qa st₀ (.returned v) t ∧
      Goes p e below T g T' { g with pc := g.pc + 3, stack := v.toList ++ rest }) ∨
    (∃ (q : Addr) (st₀ t T' : State) (L : List Loc) (E : String) (ce : Cell), st₀.heap = H ∧ Stand p l e R s m args below meth c T' (locs ++ L) (cells + mc) (slots + ms) ∧ (∀ z ∈ L, free z.base) ∧ T'.heap = t.heap ∧ T'.vm = t.vm ∧ XC E st₀ t ∧ t.heap[q]? = some ce ∧ ce.vm = .none ∧ s.vm.findClass E = some ce.cls ∧
      Steps p.tables e below (T.setTop g) ((T'.setTop { g with stack := rest }).pushFrame (.throwing q)))
def vx_X {S : Type} (px : S → Prop) (B : String → S → State → Prop) (A : Nat → Prop) : String → State → State → Prop := fun E st t => ∃ u : S, px u ∧ B E u t ∧ va_F A st t
section Runs
variable {p : Program} {l : Launch} {e : Env} {R : Room} {s : State} {m : MethodId} {args : Array Value} {below : List Frame} {meth : Method} {c : Code} {H : Heap} {locs : List Loc} {cells slots : Nat}
variable {y : MethodName} {bytes cc : ByteArray} {maxL nL mc ms n index : Nat} {ret : Option FieldType} {ws : List Cond} {rm : Room} {Pc : Array Value → State → Prop} {Qc : Array Value → State → Outcome → State → Prop} {XC : String → State → State → Prop} {free : Addr → Prop} {Ts : List Cond} {own C : String} {b : Addr} {As rest : List Value} {g : JFrame}
theorem vx_callBack (cb : CallB R s args own index y bytes maxL ret ws rm mc ms n) (hM : vx_Met l y ws rm Pc Qc XC mc ms free) (hbl : FrameBlind Pc) : vx_Back l R p e below s args y 3 8 (PreOf R mc ms Pc) (PostOf Qc mc ms free) (vx_Post XC mc ms free) := by
  obtain ⟨hrc, hrs, hfr, hlo, hws, hcw, -, hini, -⟩ := cb
  exact vx_back (bytes := bytes) (maxL := maxL) (ret := ret) hM hbl hrc hrs hfr hlo hws hcw (fun a' U hW => word_at hW (Or.inl (by first | rfl | simp [Cond.onTables, Cond.keeps, Cond.steady])) hini)
theorem vx_runV (S : CallFix p m c cc nL s args Ts own) (hM : vx_Met l y ws rm Pc Qc XC mc ms free) (cw : CallW R s args own C index y bytes maxL ret ws rm mc ms n) (hp : PreV s H C b Pc As)
    (hg : g.method = m) (hn : As.length = n) (hsize : g.locals.size = nL) (hstack : g.stack = As.reverse ++ .ref b :: rest) (hW : 2 * g.monitorRoom + (rest.map fun v => v.category).sum ≤ 8) (hdg : decode cc g.pc = .ok (.invokevirtual index, 3)) (hf : cells + mc ≤ R.cells ∧ slots + ms ≤ R.slots) :
    vx_Run p l e R s m args below meth c H locs cells slots mc ms g rest (Qc (Value.ref b :: As).toArray) XC free := by
  have hK : vx_Back l R p e below s args y 3 8 (PreOf R mc ms Pc) (PostOf Qc mc ms free) (vx_Post XC mc ms free) := vx_callBack cw.1 hM hp.1
  obtain ⟨⟨-, -, -, -, -, -, hcode, -, hy, hlen, hl⟩, hin, hse⟩ := cw
  obtain ⟨hx, hb, hml, ho, -⟩ := S
  obtain ⟨-, ⟨cellB, hcB, hoB, hclB⟩, hPc⟩ := hp
  intro T hT X
  rcases vx_callV X hx (C := C) (bytes := bytes) (maxL := maxL) (ret := ret) ho hl hin hse hcode hy hK (by rw [hT]; exact hcB) hoB hclB hg (hsize.trans hml.symm) (argsL := As) (rest := rest) (fun sig h => hn.trans (hlen sig h)) hstack hW (by rw [hb]; exact hdg)
    (fun vm₁ hW₁ => ⟨hf.1, hf.2, hPc (T.setVm vm₁) hT hW₁⟩) with ⟨v, vm₁, ⟨U', l2, c2, s2⟩, hW₁, X', ⟨g', mk, t, L, e1, e2, hq, h1, hL, h2, h3⟩, st⟩ | ⟨q, vm₁, ⟨U', l2, c2, s2⟩, hW₁, X', ⟨g', mk, t, L, E, ce, e1, e2, hq, hce, hcv, hcl, h1, hL, h2, h3⟩, st⟩
  · dsimp only [Pt.U, Pt.locs, Pt.cells, Pt.slots] at X' e1 e2 h1 h2 h3 st
    subst h1; subst h2; subst h3
    exact Or.inl ⟨v, (T.setVm vm₁).calling g' mk (Value.ref b :: As).toArray, t, U', L, hT, X', hL, e1, e2, hq, st⟩
  · dsimp only [Pt.U, Pt.locs, Pt.cells, Pt.slots] at X' e1 e2 h1 h2 h3 st hcl
    subst h1; subst h2; subst h3
    exact Or.inr ⟨q, (T.setVm vm₁).calling g' mk (Value.ref b :: As).toArray, t, U', L, E, ce, hT, X', hL, e1, e2, hq, hce, hcv, vx_cls hW₁ hcl, st⟩
theorem vx_runS (S : CallFix p m c cc nL s args Ts own) (hM : vx_Met l y ws rm Pc Qc XC mc ms free) (cw : CallB R s args own index y bytes maxL ret ws rm mc ms n ∧ (Cond.static y).before args s = true) (hp : PreS s H Pc As)
    (hg : g.method = m) (hn : As.length = n) (hsize : g.locals.size = nL) (hstack : g.stack = As.reverse ++ rest) (hW : 2 * g.monitorRoom + (rest.map fun v => v.category).sum ≤ 8) (hdg : decode cc g.pc = .ok (.invokestatic index, 3)) (hf : cells + mc ≤ R.cells ∧ slots + ms ≤ R.slots) :
    vx_Run p l e R s m args below meth c H locs cells slots mc ms g rest (Qc As.toArray) XC free := by
  have hK : vx_Back l R p e below s args y 3 8 (PreOf R mc ms Pc) (PostOf Qc mc ms free) (vx_Post XC mc ms free) := vx_callBack cw.1 hM hp.1
  obtain ⟨⟨-, -, -, -, -, -, hcode, hini, hy, hlen, hl⟩, hstt⟩ := cw
  obtain ⟨hx, hb, hml, ho, -⟩ := S
  intro T hT X
  rcases vx_callS X hx (bytes := bytes) (maxL := maxL) (ret := ret) ho hl hstt hini hcode hy hK hg (hsize.trans hml.symm) (argsL := As) (rest := rest) (fun sig h => hn.trans (hlen sig h)) hstack hW (by rw [hb]; exact hdg)
    (fun vm₁ hW₁ => ⟨hf.1, hf.2, hp.2 (T.setVm vm₁) hT hW₁⟩) with ⟨v, vm₁, ⟨U', l2, c2, s2⟩, hW₁, X', ⟨g', mk, t, L, e1, e2, hq, h1, hL, h2, h3⟩, st⟩ | ⟨q, vm₁, ⟨U', l2, c2, s2⟩, hW₁, X', ⟨g', mk, t, L, E, ce, e1, e2, hq, hce, hcv, hcl, h1, hL, h2, h3⟩, st⟩
  · dsimp only [Pt.U, Pt.locs, Pt.cells, Pt.slots] at X' e1 e2 h1 h2 h3 st
    subst h1; subst h2; subst h3
    exact Or.inl ⟨v, (T.setVm vm₁).calling g' mk As.toArray, t, U', L, hT, X', hL, e1, e2, hq, st⟩
  · dsimp only [Pt.U, Pt.locs, Pt.cells, Pt.slots] at X' e1 e2 h1 h2 h3 st hcl
    subst h1; subst h2; subst h3
    exact Or.inr ⟨q, (T.setVm vm₁).calling g' mk As.toArray, t, U', L, E, ce, hT, X', hL, e1, e2, hq, hce, hcv, vx_cls hW₁ hcl, st⟩
end Runs
section Rows
variable {p : Program} {l : Launch} {e : Env} {R : Room} {s : State} {m : MethodId} {args : Array Value} {below : List Frame} {meth : Method} {c : Code} {H : Heap} {locs : List Loc} {cells slots : Nat} {Q : State → Prop}
variable {mc ms : Nat} {free : Addr → Prop} {A0 A1 : Nat → Prop} {H0 : Heap} {a : Array Value} {pc : Nat} {ls : Array Slot} {st0 rest : List Value}
theorem vx_keep {st₀ t T' : State} {L : List Loc} (h0 : st₀.heap = H) (e1 : T'.heap = t.heap) (hS : va_S A0 H0 H locs) (hA : ∀ q, q < H.size → A1 q → A0 q) (hf : ∀ q, free q → A0 q) (hL : ∀ q ∈ L, free q.base) (hF : va_F A1 st₀ t) :
    H.size ≤ T'.heap.size ∧ (∀ q : Nat, q < H.size → ¬ A1 q → T'.heap[q]? = H[q]?) ∧ va_S A0 H0 T'.heap (locs ++ L) := by
  obtain ⟨hz, hk⟩ := hF
  rw [h0] at hz hk
  exact ⟨by rw [e1]; exact hz, fun q h1 h2 => by rw [e1]; exact hk q h1 h2,
    ⟨Nat.le_trans hS.1 (by rw [e1]; exact hz), fun q h1 h2 => by rw [e1, hk q (Nat.lt_of_lt_of_le h1 hS.1) (fun z => h2 (hA q (Nat.lt_of_lt_of_le h1 hS.1) z))]; exact hS.2.1 q h1 h2, fun q hq => by
      rcases List.mem_append.mp hq with h | h
      · exact hS.2.2 q h
      · exact hf _ (hL q h)⟩⟩
theorem vx_calli {S SX : Type} {post : Int32 → S → Prop} {px : SX → Prop} {B : S → State → Prop} {BX : String → SX → State → Prop} {AX : Nat → Prop} (hr : vx_Run p l e R s m args below meth c H locs cells slots mc ms (F0 m pc ls st0) rest (va_Qi post B A1 a) (vx_X px BX AX) free) (hS : va_S A0 H0 H locs) (hA : ∀ q, q < H.size → A1 q → A0 q) (hf : ∀ q, free q → A0 q) (hAX : ∀ q, q < H.size → AX q → A0 q)
    (kx : ∀ (E : String) (ce : Cell) (q9 : Addr) (u : SX) (t : State) (H1 : Heap) (locs1 : List Loc), t.heap = H1 → s.vm.Alike t.vm → px u → BX E u t → H.size ≤ H1.size → (∀ q : Nat, q < H.size → ¬ AX q → H1[q]? = H[q]?) → va_S A0 H0 H1 locs1 → H1[q9]? = some ce → ce.vm = .none → s.vm.findClass E = some ce.cls → vx_W p l e R s m args below meth c H1 locs1 (cells + mc) (slots + ms) Q (F0 m pc ls rest) q9)
    (kk : ∀ (r : Int32) (u : S) (t : State) (H1 : Heap) (locs1 : List Loc), t.heap = H1 → s.vm.Alike t.vm → post r u → B u t → H.size ≤ H1.size → (∀ q : Nat, q < H.size → ¬ A1 q → H1[q]? = H[q]?) → va_S A0 H0 H1 locs1 → W p l e R s m args below meth c H1 locs1 (cells + mc) (slots + ms) Q (F0 m (pc + 3) ls (.int r :: rest))) : W p l e R s m args below meth c H locs cells slots Q (F0 m pc ls st0) := by
  intro T hT X
  rcases hr T hT X with ⟨v, st₀, t, T', L, h0, X', hL, e1, e2, ⟨⟨r, u, hv, hp, hb⟩, hF⟩, st⟩ | ⟨q, st₀, t, T', L, E, ce, h0, X', hL, e1, e2, ⟨u, hp, hb, hF⟩, hce, hcv, hcl, st⟩
  · cases hv
    obtain ⟨k1, k2, k3⟩ := vx_keep h0 e1 hS hA hf hL hF
    obtain ⟨t2, a1, b1⟩ := kk r u t T'.heap (locs ++ L) e1.symm (by rw [← e2]; exact X'.warmed.alike) hp hb k1 k2 k3 T' rfl X'
    exact ⟨t2, st t2 a1, b1⟩
  · obtain ⟨k1, k2, k3⟩ := vx_keep h0 e1 hS hAX hf hL hF
    obtain ⟨t2, a1, b1⟩ := kx E ce q u t T'.heap (locs ++ L) e1.symm (by rw [← e2]; exact X'.warmed.alike) hp hb k1 k2 k3 (by rw [e1]; exact hce) hcv hcl T' rfl X'
    exact ⟨t2, st.trans a1, b1⟩
theorem vx_calll {S SX : Type} {post : Int64 → S → Prop} {px : SX → Prop} {B : S → State → Prop} {BX : String → SX → State → Prop} {AX : Nat → Prop} (hr : vx_Run p l e R s m args below meth c H locs cells slots mc ms (F0 m pc ls st0) rest (va_Ql post B A1 a) (vx_X px BX AX) free) (hS : va_S A0 H0 H locs) (hA : ∀ q, q < H.size → A1 q → A0 q) (hf : ∀ q, free q → A0 q) (hAX : ∀ q, q < H.size → AX q → A0 q)
    (kx : ∀ (E : String) (ce : Cell) (q9 : Addr) (u : SX) (t : State) (H1 : Heap) (locs1 : List Loc), t.heap = H1 → s.vm.Alike t.vm → px u → BX E u t → H.size ≤ H1.size → (∀ q : Nat, q < H.size → ¬ AX q → H1[q]? = H[q]?) → va_S A0 H0 H1 locs1 → H1[q9]? = some ce → ce.vm = .none → s.vm.findClass E = some ce.cls → vx_W p l e R s m args below meth c H1 locs1 (cells + mc) (slots + ms) Q (F0 m pc ls rest) q9)
    (kk : ∀ (r : Int64) (u : S) (t : State) (H1 : Heap) (locs1 : List Loc), t.heap = H1 → s.vm.Alike t.vm → post r u → B u t → H.size ≤ H1.size → (∀ q : Nat, q < H.size → ¬ A1 q → H1[q]? = H[q]?) → va_S A0 H0 H1 locs1 → W p l e R s m args below meth c H1 locs1 (cells + mc) (slots + ms) Q (F0 m (pc + 3) ls (.long r :: rest))) : W p l e R s m args below meth c H locs cells slots Q (F0 m pc ls st0) := by
  intro T hT X
  rcases hr T hT X with ⟨v, st₀, t, T', L, h0, X', hL, e1, e2, ⟨⟨r, u, hv, hp, hb⟩, hF⟩, st⟩ | ⟨q, st₀, t, T', L, E, ce, h0, X', hL, e1, e2, ⟨u, hp, hb, hF⟩, hce, hcv, hcl, st⟩
  · cases hv
    obtain ⟨k1, k2, k3⟩ := vx_keep h0 e1 hS hA hf hL hF
    obtain ⟨t2, a1, b1⟩ := kk r u t T'.heap (locs ++ L) e1.symm (by rw [← e2]; exact X'.warmed.alike) hp hb k1 k2 k3 T' rfl X'
    exact ⟨t2, st t2 a1, b1⟩
  · obtain ⟨k1, k2, k3⟩ := vx_keep h0 e1 hS hAX hf hL hF
    obtain ⟨t2, a1, b1⟩ := kx E ce q u t T'.heap (locs ++ L) e1.symm (by rw [← e2]; exact X'.warmed.alike) hp hb k1 k2 k3 (by rw [e1]; exact hce) hcv hcl T' rfl X'
    exact ⟨t2, st.trans a1, b1⟩
theorem vx_callf {S SX : Type} {post : UInt32 → S → Prop} {px : SX → Prop} {B : S → State → Prop} {BX : String → SX → State → Prop} {AX : Nat → Prop} (hr : vx_Run p l e R s m args below meth c H locs cells slots mc ms (F0 m pc ls st0) rest (va_Qf post B A1 a) (vx_X px BX AX) free) (hS : va_S A0 H0 H locs) (hA : ∀ q, q < H.size → A1 q → A0 q) (hf : ∀ q, free q → A0 q) (hAX : ∀ q, q < H.size → AX q → A0 q)
    (kx : ∀ (E : String) (ce : Cell) (q9 : Addr) (u : SX) (t : State) (H1 : Heap) (locs1 : List Loc), t.heap = H1 → s.vm.Alike t.vm → px u → BX E u t → H.size ≤ H1.size → (∀ q : Nat, q < H.size → ¬ AX q → H1[q]? = H[q]?) → va_S A0 H0 H1 locs1 → H1[q9]? = some ce → ce.vm = .none → s.vm.findClass E = some ce.cls → vx_W p l e R s m args below meth c H1 locs1 (cells + mc) (slots + ms) Q (F0 m pc ls rest) q9)
    (kk : ∀ (r : UInt32) (u : S) (t : State) (H1 : Heap) (locs1 : List Loc), t.heap = H1 → s.vm.Alike t.vm → post r u → B u t → H.size ≤ H1.size → (∀ q : Nat, q < H.size → ¬ A1 q → H1[q]? = H[q]?) → va_S A0 H0 H1 locs1 → W p l e R s m args below meth c H1 locs1 (cells + mc) (slots + ms) Q (F0 m (pc + 3) ls (.float r :: rest))) : W p l e R s m args below meth c H locs cells slots Q (F0 m pc ls st0) := by
  intro T hT X
  rcases hr T hT X with ⟨v, st₀, t, T', L, h0, X', hL, e1, e2, ⟨⟨r, u, hv, hp, hb⟩, hF⟩, st⟩ | ⟨q, st₀, t, T', L, E, ce, h0, X', hL, e1, e2, ⟨u, hp, hb, hF⟩, hce, hcv, hcl, st⟩
  · cases hv
    obtain ⟨k1, k2, k3⟩ := vx_keep h0 e1 hS hA hf hL hF
    obtain ⟨t2, a1, b1⟩ := kk r u t T'.heap (locs ++ L) e1.symm (by rw [← e2]; exact X'.warmed.alike) hp hb k1 k2 k3 T' rfl X'
    exact ⟨t2, st t2 a1, b1⟩
  · obtain ⟨k1, k2, k3⟩ := vx_keep h0 e1 hS hAX hf hL hF
    obtain ⟨t2, a1, b1⟩ := kx E ce q u t T'.heap (locs ++ L) e1.symm (by rw [← e2]; exact X'.warmed.alike) hp hb k1 k2 k3 (by rw [e1]; exact hce) hcv hcl T' rfl X'
    exact ⟨t2, st.trans a1, b1⟩
theorem vx_calld {S SX : Type} {post : UInt64 → S → Prop} {px : SX → Prop} {B : S → State → Prop} {BX : String → SX → State → Prop} {AX : Nat → Prop} (hr : vx_Run p l e R s m args below meth c H locs cells slots mc ms (F0 m pc ls st0) rest (va_Qd post B A1 a) (vx_X px BX AX) free) (hS : va_S A0 H0 H locs) (hA : ∀ q, q < H.size → A1 q → A0 q) (hf : ∀ q, free q → A0 q) (hAX : ∀ q, q < H.size → AX q → A0 q)
    (kx : ∀ (E : String) (ce : Cell) (q9 : Addr) (u : SX) (t : State) (H1 : Heap) (locs1 : List Loc), t.heap = H1 → s.vm.Alike t.vm → px u → BX E u t → H.size ≤ H1.size → (∀ q : Nat, q < H.size → ¬ AX q → H1[q]? = H[q]?) → va_S A0 H0 H1 locs1 → H1[q9]? = some ce → ce.vm = .none → s.vm.findClass E = some ce.cls → vx_W p l e R s m args below meth c H1 locs1 (cells + mc) (slots + ms) Q (F0 m pc ls rest) q9)
    (kk : ∀ (r : UInt64) (u : S) (t : State) (H1 : Heap) (locs1 : List Loc), t.heap = H1 → s.vm.Alike t.vm → post r u → B u t → H.size ≤ H1.size → (∀ q : Nat, q < H.size → ¬ A1 q → H1[q]? = H[q]?) → va_S A0 H0 H1 locs1 → W p l e R s m args below meth c H1 locs1 (cells + mc) (slots + ms) Q (F0 m (pc + 3) ls (.double r :: rest))) : W p l e R s m args below meth c H locs cells slots Q (F0 m pc ls st0) := by
  intro T hT X
  rcases hr T hT X with ⟨v, st₀, t, T', L, h0, X', hL, e1, e2, ⟨⟨r, u, hv, hp, hb⟩, hF⟩, st⟩ | ⟨q, st₀, t, T', L, E, ce, h0, X', hL, e1, e2, ⟨u, hp, hb, hF⟩, hce, hcv, hcl, st⟩
  · cases hv
    obtain ⟨k1, k2, k3⟩ := vx_keep h0 e1 hS hA hf hL hF
    obtain ⟨t2, a1, b1⟩ := kk r u t T'.heap (locs ++ L) e1.symm (by rw [← e2]; exact X'.warmed.alike) hp hb k1 k2 k3 T' rfl X'
    exact ⟨t2, st t2 a1, b1⟩
  · obtain ⟨k1, k2, k3⟩ := vx_keep h0 e1 hS hAX hf hL hF
    obtain ⟨t2, a1, b1⟩ := kx E ce q u t T'.heap (locs ++ L) e1.symm (by rw [← e2]; exact X'.warmed.alike) hp hb k1 k2 k3 (by rw [e1]; exact hce) hcv hcl T' rfl X'
    exact ⟨t2, st.trans a1, b1⟩
theorem vx_callv {S SX : Type} {post : S → Prop} {px : SX → Prop} {B : S → State → Prop} {BX : String → SX → State → Prop} {AX : Nat → Prop} (hr : vx_Run p l e R s m args below meth c H locs cells slots mc ms (F0 m pc ls st0) rest (va_Qv post B A1 a) (vx_X px BX AX) free) (hS : va_S A0 H0 H locs) (hA : ∀ q, q < H.size → A1 q → A0 q) (hf : ∀ q, free q → A0 q) (hAX : ∀ q, q < H.size → AX q → A0 q)
    (kx : ∀ (E : String) (ce : Cell) (q9 : Addr) (u : SX) (t : State) (H1 : Heap) (locs1 : List Loc), t.heap = H1 → s.vm.Alike t.vm → px u → BX E u t → H.size ≤ H1.size → (∀ q : Nat, q < H.size → ¬ AX q → H1[q]? = H[q]?) → va_S A0 H0 H1 locs1 → H1[q9]? = some ce → ce.vm = .none → s.vm.findClass E = some ce.cls → vx_W p l e R s m args below meth c H1 locs1 (cells + mc) (slots + ms) Q (F0 m pc ls rest) q9)
    (kk : ∀ (u : S) (t : State) (H1 : Heap) (locs1 : List Loc), t.heap = H1 → s.vm.Alike t.vm → post u → B u t → H.size ≤ H1.size → (∀ q : Nat, q < H.size → ¬ A1 q → H1[q]? = H[q]?) → va_S A0 H0 H1 locs1 → W p l e R s m args below meth c H1 locs1 (cells + mc) (slots + ms) Q (F0 m (pc + 3) ls (rest))) : W p l e R s m args below meth c H locs cells slots Q (F0 m pc ls st0) := by
  intro T hT X
  rcases hr T hT X with ⟨v, st₀, t, T', L, h0, X', hL, e1, e2, ⟨⟨u, hv, hp, hb⟩, hF⟩, st⟩ | ⟨q, st₀, t, T', L, E, ce, h0, X', hL, e1, e2, ⟨u, hp, hb, hF⟩, hce, hcv, hcl, st⟩
  · cases hv
    obtain ⟨k1, k2, k3⟩ := vx_keep h0 e1 hS hA hf hL hF
    obtain ⟨t2, a1, b1⟩ := kk u t T'.heap (locs ++ L) e1.symm (by rw [← e2]; exact X'.warmed.alike) hp hb k1 k2 k3 T' rfl X'
    exact ⟨t2, st t2 a1, b1⟩
  · obtain ⟨k1, k2, k3⟩ := vx_keep h0 e1 hS hAX hf hL hF
    obtain ⟨t2, a1, b1⟩ := kx E ce q u t T'.heap (locs ++ L) e1.symm (by rw [← e2]; exact X'.warmed.alike) hp hb k1 k2 k3 (by rw [e1]; exact hce) hcv hcl T' rfl X'
    exact ⟨t2, st.trans a1, b1⟩
/-- caught by the row x of this method's table; the rows ahead don't take it -/
theorem vx_catch {own name : String} {E : String} {ce : Cell} {q : Addr} (hown : s.vm.findClass own = some m.cls) (pre : List ExceptionTableEntry) (x : ExceptionTableEntry) (suf : List ExceptionTableEntry) (hsplit : c.exceptionTable.toList = pre ++ x :: suf)
    (hpass : ∀ z ∈ pre, covers z pc = false ∨ (z.catchType ≠ 0 ∧ ∃ nm : String, (Cond.classLink own z.catchType nm).before args s = true ∧ va_Nc E nm s)) (hx : covers x pc = true) (h0 : x.catchType ≠ 0)
    (hlink : (Cond.classLink own x.catchType name).before args s = true) (hcast : (Cond.castable E name).before args s = true) (hcell : H[q]? = some ce) (hv : ce.vm = .none) (hcl : s.vm.findClass E = some ce.cls)
    (kk : W p l e R s m args below meth c H locs cells slots Q (F0 m x.handlerPc ls [.ref q])) : vx_W p l e R s m args below meth c H locs cells slots Q (F0 m pc ls rest) q := by
  intro T hT X
  have hpl : e.platform.magicAccessors = ({} : Platform).magicAccessors := by rw [X.admits.platform]
  obtain ⟨c3, c4, hc3, hc4, hasg⟩ := Cond.castable_spec hcast
  cases Option.some.inj (hc3.symm.trans hcl)
  obtain ⟨c5, hc5, hcl5⟩ := Cond.classLink_spec hown hlink e.platform hpl
  cases Option.some.inj (hc4.symm.trans hc5)
  obtain ⟨vm', X', st⟩ := X.thenCaughtThrough q (g := F0 m pc ls rest) rfl (Steps.refl _) (by rw [hT]; exact hcell) (by rw [hv]; rfl) (by obtain ⟨k9, h9, -⟩ := Vm.findClass_spec hcl; exact ⟨k9, h9⟩) pre x suf hsplit
    (fun z hz => by
      rcases hpass z hz with h | ⟨hz0, nm, hl1, hn1⟩
      · exact Or.inl h
      · obtain ⟨c6, hc6, hcl6⟩ := Cond.classLink_spec hown hl1 e.platform hpl
        obtain ⟨a8, b8, h1, h2, h3⟩ := hn1
        cases Option.some.inj (h1.symm.trans hcl)
        cases Option.some.inj (h2.symm.trans hc6)
        exact Or.inr ⟨hz0, _, hcl6, h3⟩) hx (Or.inr ⟨h0, c4, hcl5, hasg⟩)
  obtain ⟨t, a1, b1⟩ := kk (T.setVm vm') hT X'
  exact ⟨t, st.trans a1, b1⟩
end Rows
section Ends
variable {p : Program} {l : Launch} {e : Env} {R : Room} {s : State} {m : MethodId} {args : Array Value} {below : List Frame} {meth : Method} {c : Code} {H : Heap} {locs : List Loc} {cells slots : Nat} {Q : State → Prop}
variable {mc ms : Nat} {free : Addr → Prop} {A0 A1 : Nat → Prop} {H0 : Heap} {a : Array Value} {ls : Array Slot} {st0 rest : List Value}
variable {Qc : Array Value → State → Outcome → State → Prop} {XC : String → State → State → Prop}
/-- what a body that may throw owes at its end -/
def vx_MQ (below : List Frame) (Qc : Array Value → State → Outcome → State → Prop) (XC : String → State → State → Prop) (a : Array Value) (s : State) (mc ms : Nat) (free : Addr → Prop) : State → Prop := fun t =>
  ∃ o, t.status = .running ∧ Ended t below o ∧ vx_Q Qc XC mc ms free a s o t
theorem vx_ret {g : JFrame} {mc ms : Nat} (k : W p l e R s m args below meth c H locs cells slots (MQ below Qc args s mc ms free) g) : W p l e R s m args below meth c H locs cells slots (vx_MQ below Qc XC args s mc ms free) g := by
  intro T hT X
  obtain ⟨t, a1, o, b1, b2, b3, b4⟩ := k T hT X
  exact ⟨t, a1, o, b1, b2, Or.inl ⟨b3, b4⟩⟩
/-- not caught here: it goes on to the caller -/
theorem vx_widen {g : JFrame} {q : Addr} {k n : Nat} (h1 : cells ≤ k) (h2 : slots ≤ n) (kk : vx_W p l e R s m args below meth c H locs k n Q g q) : vx_W p l e R s m args below meth c H locs cells slots Q g q := fun T hT X => kk T hT (stand_widen X h1 h2)
theorem vx_out {pc : Nat} {E : String} {ce : Cell} {q : Addr} {mc ms : Nat} (hout : ∀ x ∈ c.exceptionTable.toList, covers x pc = false) (hlocks : meth.locks = false) (hcell : H[q]? = some ce) (hv : ce.vm = .none) (hcl : s.vm.findClass E = some ce.cls)
    (hx : ∀ t : State, t.heap = H → s.vm.Alike t.vm → XC E s t) (hf : ∀ z ∈ locs, free z.base) (hc : cells ≤ mc) (hs : slots ≤ ms) :
    vx_W p l e R s m args below meth c H locs cells slots (vx_MQ below Qc XC args s mc ms free) (F0 m pc ls rest) q := by
  intro T hT X
  obtain ⟨st1, hrun, hend, hW, hsm⟩ := X.leaveThrown q (g := F0 m pc ls rest) rfl rfl rfl hout hlocks
  have hcell9 : (T.setFrames (.throwing q :: below)).heap[q]? = some ce := by
    show T.heap[q]? = some ce
    rw [hT]; exact hcell
  exact ⟨_, st1, .threw q, hrun, hend, Or.inr ⟨q, rfl, E, ce, locs, hx _ hT hW.alike, hcell9, hv, hcl, hW, hsm.mono hc hs, hf⟩⟩
theorem vx_frame {U : State} {k n : Nat} (h : s.sameButNew ({ U with vm := s.vm } : State) locs k n) : s.heap.size ≤ U.heap.size ∧ ∀ q : Nat, q < s.heap.size → (∀ z ∈ locs, z.base ≠ q) → U.heap[q]? = s.heap[q]? := by
  obtain ⟨-, h2, -, -, -, h6⟩ := h
  refine ⟨h2, fun q hq hz => ?_⟩
  obtain ⟨c9, e1, e2, e3, e4⟩ := h6 q _ (Array.getElem?_eq_getElem hq)
  have hs : c9.slots = (s.heap[q]).slots := Array.ext_getElem? fun i => e4 i fun hm => hz _ hm rfl
  have h9 : c9 = s.heap[q] := by
    rw [hs] at e2
    exact e2
  have e5 : U.heap[q]? = some c9 := e1
  rw [e5, h9, Array.getElem?_eq_getElem hq]
/-- the words of a throw but the four that speak of the heap -/
def vx_no (w : Cond) : Bool := decide (w ≠ .isRef (.static Bundle.tN "UNASSIGNED_STACK" Bundle.steD)) && decide (w ≠ .isRef (.static Bundle.tN "SUPPRESSED_SENTINEL" Bundle.listD)) && decide (w ≠ .laysStatic Bundle.tN "UNASSIGNED_STACK" Bundle.steD) && decide (w ≠ .laysStatic Bundle.tN "SUPPRESSED_SENTINEL" Bundle.listD)
def vx_at0 (own : String) (ic : Nat) (X : String) (names : List String) : List Cond := (Bundle.ownAtoms0 own ic X names).filter vx_no
def vx_atS (own : String) (ic : Nat) (X : String) (names : List String) : List Cond := (Bundle.ownAtoms own ic X names).filter vx_no
/-- a word that the tables alone decide, or a good one -/
def vx_ot (w : Cond) : Bool := w.onTables || goodWord w
theorem vx_ot_at {args a' : Array Value} {s U : State} {w : Cond} (hW : s.WarmedH U.vm) (hvm : s.vm = U.vm) (hg : vx_ot w = true) (h : w.before args s = true) : w.before a' U = true := by
  simp only [vx_ot, Bool.or_eq_true] at hg
  rcases hg with hg | hg
  · exact va_tabs hg hvm h
  · exact word_at hW (good_of_word hg) h
/-- a list's words: the good ones out of the method's own list, the others by premises of their own -/
theorem vx_hat {args : Array Value} {s : State} {L B : List Cond} (h1 : ∀ w ∈ L.filter goodWord, w.before args s = true) (h2 : ∀ w ∈ L.filter (fun w => !goodWord w), w ∈ B) (h3 : ∀ w ∈ B, w.before args s = true) : ∀ w ∈ L, w.before args s = true := by
  intro w hw
  by_cases g : goodWord w = true
  · exact h1 w (List.mem_filter.mpr ⟨hw, g⟩)
  · refine h3 w (h2 w (List.mem_filter.mpr ⟨hw, ?_⟩))
    show (!goodWord w) = true
    cases hgw : goodWord w
    · rfl
    · exact absurd hgw g
theorem vx_c {args : Array Value} {s : State} {w : Cond} {B : List Cond} (h : w.before args s = true) (t : ∀ w ∈ B, w.before args s = true) : ∀ w' ∈ w :: B, w'.before args s = true := fun w' h' => (List.mem_cons.mp h').elim (fun e => by rw [e]; exact h) (t w')
theorem vx_n {args : Array Value} {s : State} : ∀ w ∈ ([] : List Cond), w.before args s = true := fun _ h => nomatch h
theorem vx_own {args : Array Value} {s : State} {L : List Cond} (h1 : ∀ w ∈ L.filter vx_no, w.before args s = true)
    (hU : (Cond.isRef (.static Bundle.tN "UNASSIGNED_STACK" Bundle.steD)).before args s = true) (hN : (Cond.isRef (.static Bundle.tN "SUPPRESSED_SENTINEL" Bundle.listD)).before args s = true)
    (lU : (Cond.laysStatic Bundle.tN "UNASSIGNED_STACK" Bundle.steD).before args s = true) (lN : (Cond.laysStatic Bundle.tN "SUPPRESSED_SENTINEL" Bundle.listD).before args s = true) : ∀ w ∈ L, w.before args s = true := by
  intro w hw
  by_cases e1 : w = .isRef (.static Bundle.tN "UNASSIGNED_STACK" Bundle.steD)
  · rw [e1]; exact hU
  · by_cases e2 : w = .isRef (.static Bundle.tN "SUPPRESSED_SENTINEL" Bundle.listD)
    · rw [e2]; exact hN
    · by_cases e3 : w = .laysStatic Bundle.tN "UNASSIGNED_STACK" Bundle.steD
      · rw [e3]; exact lU
      · by_cases e4 : w = .laysStatic Bundle.tN "SUPPRESSED_SENTINEL" Bundle.listD
        · rw [e4]; exact lN
        · exact h1 w (List.mem_filter.mpr ⟨hw, by unfold vx_no; rw [decide_eq_true e1, decide_eq_true e2, decide_eq_true e3, decide_eq_true e4]; rfl⟩)
/-- where a static field lies, its class's statics cell in H -/
def vx_L (C n d : String) (A : Nat → Prop) (U : State) (H : Heap) : Prop := ∃ (c : ClassId) (k : Class) (i : Nat) (f : Field) (a : Nat) (cell : Cell), U.vm.findClass C = some c ∧ U.fieldFound? C n d = some (c, k, i, f) ∧ f.isStatic = true ∧ k.statics = some a ∧ H[a]? = some cell ∧ cell.vm.isStatics = true ∧ cell.cls = c ∧ f.slot < cell.slots.size ∧ k.staticTypes[f.slot]? = some f.type ∧ ¬ A a
theorem vx_L.moved {C n d : String} {A : Nat → Prop} {u U : State} {H : Heap} (hvm : u.vm.Alike U.vm) (h : vx_L C n d A u H) : vx_L C n d A U H := by
  obtain ⟨c, k, i, f, a, cell, h1, h2, h3, h4, h5, h6, h7, h8, h9, h10⟩ := h
  obtain ⟨k', hi', he⟩ := State.fieldFound?_setVm hvm h2
  exact ⟨c, k', i, f, a, cell, by rw [hvm.findClass]; exact h1, hi', h3, by rw [he]; exact h4, h5, h6, h7, h8, by rw [he]; exact h9, h10⟩
theorem vx_L.kept {C n d : String} {A : Nat → Prop} {U : State} {H H1 : Heap} (h : vx_L C n d A U H) (hq : ∀ a : Nat, a < H.size → ¬ A a → H1[a]? = H[a]?) : vx_L C n d A U H1 := by
  obtain ⟨c, k, i, f, a, cell, h1, h2, h3, h4, h5, h6, h7, h8, h9, h10⟩ := h
  exact ⟨c, k, i, f, a, cell, h1, h2, h3, h4, by rw [hq a (Array.getElem?_eq_some_iff.mp h5).1 h10]; exact h5, h6, h7, h8, h9, h10⟩
theorem vx_L.narrow {C n d : String} {A B : Nat → Prop} {U : State} {H : Heap} (h : vx_L C n d A U H) (hAB : ∀ q, B q → A q) : vx_L C n d B U H := by
  obtain ⟨c, k, i, f, a, cell, h1, h2, h3, h4, h5, h6, h7, h8, h9, h10⟩ := h
  exact ⟨c, k, i, f, a, cell, h1, h2, h3, h4, h5, h6, h7, h8, h9, fun z => h10 (hAB _ z)⟩
theorem vx_L.word {C n d : String} {A : Nat → Prop} {s : State} {args : Array Value} (h : vx_L C n d A s s.heap) : (Cond.laysStatic C n d).before args s = true := by
  obtain ⟨c, k, i, f, a, cell, h1, h2, h3, h4, h5, h6, h7, h8, h9, -⟩ := h
  show (Cond.laysStatic C n d).holds args s none s [] = true
  exact Cond.laysStatic_of h1 h2 h3 h4 h5 h6 h7 h8 h9
/-- .. and what it holds: null or some reference -/
def vx_Zq (C n d : String) (A : Nat → Prop) (U : State) (H : Heap) : Prop := va_Zq C n d A U H ∧ vx_L C n d A U H
theorem vx_Zq.moved {C n d : String} {A : Nat → Prop} {u U : State} {H : Heap} (hvm : u.vm.Alike U.vm) (h : vx_Zq C n d A u H) : vx_Zq C n d A U H := ⟨va_Zq.moved hvm h.1, vx_L.moved hvm h.2⟩
theorem vx_Zq.kept {C n d : String} {A : Nat → Prop} {U : State} {H H1 : Heap} (h : vx_Zq C n d A U H) (hq : ∀ a : Nat, a < H.size → ¬ A a → H1[a]? = H[a]?) : vx_Zq C n d A U H1 := ⟨va_Zq.kept h.1 hq, vx_L.kept h.2 hq⟩
theorem vx_Zq.narrow {C n d : String} {A B : Nat → Prop} {U : State} {H : Heap} (h : vx_Zq C n d A U H) (hAB : ∀ q, B q → A q) : vx_Zq C n d B U H := ⟨va_Zq.narrow h.1 hAB, vx_L.narrow h.2 hAB⟩
theorem vx_Zqof {args : Array Value} {s : State} {C n d : String} {A : Nat → Prop} (hl : (Cond.laysStatic C n d).before args s = true) (hini : (Cond.initialized C).before args s = true) (h : (Cond.isRef (.static C n d)).before args s = true) (hA : ∀ a : Nat, a < s.heap.size → ¬ A a) : vx_Zq C n d A s s.heap := by
  refine ⟨va_Zqof hl hini h hA, ?_⟩
  obtain ⟨c, k, i, f, a, cell, h1, h2, h3, h4, h5, h6, h7, h8, h9⟩ := Cond.laysStatic_spec hl
  exact ⟨c, k, i, f, a, cell, h1, h2, h3, h4, h5, h6, h7, h8, h9, hA a (Array.getElem?_eq_some_iff.mp h5).1⟩
theorem vx_isRef {C n d : String} {v : Value} {A : Nat → Prop} {s : State} {args : Array Value} (h : va_Z C n d v A s s.heap) (hv : v.isRef = true) : (Cond.isRef (.static C n d)).before args s = true := by
  obtain ⟨cf, kf, fi, f, a, cell, h1, h2, h3, h4, h5, h6, h7, -⟩ := h
  have he : (Term.static C n d).eval args s none [] s = some v := by
    simp [Term.eval, State.fieldNamed?, h1, h2, h4, h5, h6, h7]
  simp only [Cond.before, Cond.holds, Cond.value, he]
  cases v <;> simp_all [Value.isRef]
theorem vx_isRefq {C n d : String} {A : Nat → Prop} {s : State} {args : Array Value} (h : va_Zq C n d A s s.heap) : (Cond.isRef (.static C n d)).before args s = true := by
  rcases h with h | ⟨t, h⟩
  · exact vx_isRef h rfl
  · exact vx_isRef h rfl
/-- the same frame, seen from here: as if the method were called anew in this heap -/
theorem vx_rebase {T : State} (X : Stand p l e R s m args below meth c T locs cells slots) {R' : Room} (hf : R'.frames ≤ R.frames) (hl : R'.locals ≤ R.locals) (hc : cells + R'.cells ≤ R.cells) (hs : slots + R'.slots ≤ R.slots) :
    Stand p l e R' ((T.setVm s.vm).setFrames (.invoking m args :: below)) m args below meth c T [] 0 0 := by
  have htop : (T.setVm s.vm).topJava?.isSome := X.here.top
  have hF : ((T.setVm s.vm).setFrames (.invoking m args :: below)).frames = .invoking m args :: below := State.frames_setFrames _ (State.cur_lt_of_top htop)
  obtain ⟨g₀, hg0⟩ := Option.isSome_iff_exists.mp htop
  obtain ⟨r, hr⟩ := State.topJava?_eq_some.mp hg0
  have hl9 : e.platform.stackLimits (T.setVm s.vm).me = e.platform.stackLimits s.me := X.limits
  have hb9 : (T.setVm s.vm).me.stackBytes = s.me.stackBytes := X.bytes
  refine ⟨X.admits, X.cas, X.clock, hF, ?_, X.hears, X.method, X.code, X.here, X.tail, X.warmed, ?_, ?_, ?_⟩
  · have h := X.room
    have hU : ((T.setVm s.vm).setFrames (.invoking m args :: below)).localsInUse = s.localsInUse := by
      rw [State.localsInUse_invoking hF (meth := meth) (c := c) X.method X.code, State.localsInUse_invoking X.frames X.method X.code]
    simp only [State.hasRoom, Bool.and_eq_true, decide_eq_true_eq] at h ⊢
    obtain ⟨⟨⟨⟨h1, h2, h3, h4, h5, h6⟩, h7⟩, h8⟩, h9⟩ := h
    rw [X.frames, List.length_cons] at h2 h3
    have q1 := X.heapSize
    have q2 := X.used
    simp only [hF, hU, List.length_cons, State.stackLimits_setFrames, State.stackBytes_setFrames, hl9, hb9]
    refine ⟨⟨⟨⟨by omega, by omega, by omega, by omega, by omega, h6⟩, ?_⟩, ?_⟩, X.book⟩
    · show T.heap.size + R'.cells ≤ e.platform.maxCells
      omega
    · show T.slotsUsed + R'.slots ≤ e.platform.maxSlots
      omega
  · rw [State.stackLimits_setFrames]; rfl
  · rw [State.stackBytes_setFrames]; rfl
  · refine ⟨?_, Nat.le_refl _, Nat.le_refl _, ?_, ?_, fun a c9 h9 => ⟨c9, h9, rfl, rfl, fun _ _ => rfl⟩⟩
    · obtain ⟨t, ht, -⟩ := State.frames_cons hr
      show T.setVm s.vm = { ((T.setVm s.vm).setFrames (.invoking m args :: below)).setFrames (T.setVm s.vm).frames with heap := T.heap, slotsUsed := T.slotsUsed }
      rw [State.setFrames_setFrames, State.setFrames_self ht]
      rfl
    · show T.slotsUsed = T.slotsUsed + ((T.heap.toList.drop T.heap.size).map (·.slots.size)).sum
      rw [List.drop_eq_nil_of_le (Nat.le_of_eq Array.length_toList)]
      rfl
    · show ((T.heap.toList.drop T.heap.size).map (·.slots.size)).sum ≤ 0
      rw [List.drop_eq_nil_of_le (Nat.le_of_eq Array.length_toList)]
      exact Nat.le_refl _
/-- 'throw new E()': new; dup; invokespecial; athrow -/
theorem vx_throw0 {cc : ByteArray} {pc : Nat} (hexec : p.tables.exec = Jvm.exec) (hb : c.code = cc) (hl : l.stackTraces = false) {own cls : String} {names : List String} {ik ic mc ms : Nat} {A : Nat → Prop}
    (hown : s.vm.findClass own = some m.cls) (hcls : Bundle.fit cls = true) (hnames : ∀ n ∈ names, Bundle.fit n = true)
    (hk : (Cond.classLink own ik cls).before args s = true) (hini : (Cond.initialized cls).before args s = true) (hat : ∀ w ∈ vx_at0 own ic cls names, w.before args s = true)
    (hgood : ∀ w ∈ Cond.classLink own ik cls :: Cond.initialized cls :: vx_at0 own ic cls names, vx_ot w = true)
    (hU : vx_Zq Bundle.tN "UNASSIGNED_STACK" Bundle.steD A s s.heap) (hN : vx_Zq Bundle.tN "SUPPRESSED_SENTINEL" Bundle.listD A s s.heap) (hS : va_S A s.heap H locs) (hsize : ls.size = c.maxLocals)
    (d0 : decode cc pc = .ok (.new ik, 3)) (d3 : decode cc (pc + 3) = .ok (.dup, 1)) (d4 : decode cc (pc + 4) = .ok (.invokespecial ic, 3)) (d7 : decode cc (pc + 7) = .ok (.athrow, 1))
    (hout : ∀ x ∈ c.exceptionTable.toList, covers x (pc + 7) = false)
    (hRframes : names.length + 3 < R.frames) (hRlocals : (rest.map fun v => v.category).sum + (13 * (names.length + 1) + 42) ≤ R.locals) (hRcells : cells + 1 ≤ R.cells) (hRslots : slots + 6 ≤ R.slots) (hlocks : meth.locks = false)
    (hx : ∀ t : State, s.vm.Alike t.vm → H.size ≤ t.heap.size → (∀ q : Nat, q < H.size → t.heap[q]? = H[q]?) → XC cls s t)
    (hf : ∀ z ∈ locs, free z.base) (hc : cells + 1 ≤ mc) (hs : slots + 6 ≤ ms) :
    W p l e R s m args below meth c H locs cells slots (vx_MQ below Qc XC args s mc ms free) (F0 m pc ls rest) := by
  intro T hT X
  have htr : e.platform.stackTraces = false := (show e.platform.stackTraces = l.stackTraces by rw [X.admits.platform]).trans hl
  have Y := vx_rebase X (R' := { frames := R.frames, locals := R.locals, cells := 1, slots := 6 }) (Nat.le_refl _) (Nat.le_refl _) hRcells hRslots
  obtain ⟨s', hA⟩ : ∃ z, z = (T.setVm s.vm).setFrames (.invoking m args :: below) := ⟨_, rfl⟩
  rw [← hA] at Y
  have hvm : s'.vm = s.vm := by rw [hA]; rfl
  have hhp : s'.heap = H := by rw [hA]; exact hT
  have hW0 : s.WarmedH s'.vm := by rw [hvm]; exact State.WarmedH.refl s
  have hat' : ∀ w ∈ vx_at0 own ic cls names, w.before args s' = true := fun w hw => vx_ot_at hW0 hvm.symm (hgood w (List.mem_cons_of_mem _ (List.mem_cons_of_mem _ hw))) (hat w hw)
  have hk' : (Cond.classLink own ik cls).before args s' = true := vx_ot_at hW0 hvm.symm (hgood _ List.mem_cons_self) hk
  have hini' : (Cond.initialized cls).before args s' = true := vx_ot_at hW0 hvm.symm (hgood _ (List.mem_cons_of_mem _ List.mem_cons_self)) hini
  have hU' : vx_Zq Bundle.tN "UNASSIGNED_STACK" Bundle.steD A s' s'.heap := by rw [hhp]; exact vx_Zq.moved hW0.alike (hU.kept hS.2.1)
  have hN' : vx_Zq Bundle.tN "SUPPRESSED_SENTINEL" Bundle.listD A s' s'.heap := by rw [hhp]; exact vx_Zq.moved hW0.alike (hN.kept hS.2.1)
  have h : ∀ w ∈ Bundle.ownAtoms0 own ic cls names, w.before args s' = true := vx_own hat' (vx_isRefq hU'.1) (vx_isRefq hN'.1) hU'.2.word hN'.2.word
  have hown' : s'.vm.findClass own = some m.cls := by rw [hvm]; exact hown
  have hins : (Cond.instantiable cls 6).before args s' = true := h _ (by simp [Bundle.ownAtoms0])
  obtain ⟨vm₁, cX, kX, hfX, hkX, -, -, X₁, st1⟩ := Y.newCold hexec (own := own) (C := cls) (index := ik) (n := 6) hown' hk' hins hini'
    (g := F0 m pc ls rest) rfl (by rw [hb]; exact d0) (Nat.le_refl _) (Nat.le_refl _)
  generalize hT1 : (T.setVm vm₁).pushCell { cls := cX, slots := kX.instanceTypes.map defaultValue, vm := .none } = T1 at X₁ st1
  have hcat : (Value.ref T.heap.size).category = 1 := rfl
  have hcellA : T1.heap[T.heap.size]? = some (freshCell cX kX) := by rw [← hT1]; exact State.heap_pushCell_size _ _
  have d3' : decode c.code (pc + 3) = .ok (.dup, 1) := by rw [hb]; exact d3
  obtain ⟨U, hsteps, hrun, hend, hW, hsame, ce, hce, hO⟩ := X₁.ctorThrow0 hexec htr (own := own) (cls := cls) (names := names) (ic := ic) hown' hcls hnames h (fun x hx => nomatch hx) hfX hkX hcellA (by rw [hhp, hT]; exact Nat.le_refl _)
    (g := { method := m, pc := pc + 4, locals := ls, stack := .ref T.heap.size :: .ref T.heap.size :: rest, locked := none }) rfl hsize rfl rfl (rest := rest) rfl
    (by rw [hb]; exact d4) (by rw [hb]; exact d7) hout hRframes (by simp only [List.map_cons, List.sum_cons, hcat]; omega) hlocks
  obtain ⟨f1, f2⟩ := vx_frame hsame
  rw [hhp] at f1 f2
  have hWs : s.WarmedH U.vm := State.WarmedH.trans hW0 hW
  have hcl : s.vm.findClass cls = some ce.cls := by
    have h9 := hO.cls
    rw [hvm] at h9
    exact h9
  have hall : s.sameButNew ({ U with vm := s.vm } : State) locs mc ms := by
    subst hA
    obtain ⟨e1, e2⟩ := hsame
    rw [State.setFrames_setFrames] at e1
    have h2 : (T.setVm s.vm).sameButNew ({ U with vm := s.vm } : State) [] (0 + 1) (0 + 6) := ⟨e1, e2⟩
    have h3 := X.same.trans h2
    rw [List.append_nil] at h3
    exact h3.mono hc hs
  refine ⟨U, ?_, .threw T.heap.size, hrun, hend, Or.inr ⟨T.heap.size, rfl, cls, ce, locs, hx U hWs.alike f1 (fun q hq => f2 q hq (fun z hz => nomatch hz)), hce, hO.vm, hcl, hWs, hall, hf⟩⟩
  refine st1 _ ?_
  show Steps p.tables e below (T1.setTop { method := m, pc := pc + 3, locals := ls, stack := .ref T.heap.size :: rest, locked := none }) _
  jvm_step X₁.here [X₁.here.top, hexec, d3', Value.category]
  exact hsteps
/-- 'throw new E("text")': new; dup; ldc; invokespecial; athrow -/
theorem vx_throwS {cc : ByteArray} {pc : Nat} (hexec : p.tables.exec = Jvm.exec) (hb : c.code = cc) (hl : l.stackTraces = false) {own cls text : String} {names : List String} {ik is ic mc ms sa : Nat} {A : Nat → Prop}
    (hown : s.vm.findClass own = some m.cls) (hcls : Bundle.fit cls = true) (hnames : ∀ n ∈ names, Bundle.fit n = true)
    (hk : (Cond.classLink own ik cls).before args s = true) (hini : (Cond.initialized cls).before args s = true) (hstr : vk_R own is text sa s) (hat : ∀ w ∈ vx_atS own ic cls names, w.before args s = true)
    (hgood : ∀ w ∈ Cond.classLink own ik cls :: Cond.initialized cls :: vx_atS own ic cls names, vx_ot w = true)
    (hU : vx_Zq Bundle.tN "UNASSIGNED_STACK" Bundle.steD A s s.heap) (hN : vx_Zq Bundle.tN "SUPPRESSED_SENTINEL" Bundle.listD A s s.heap) (hS : va_S A s.heap H locs) (hsize : ls.size = c.maxLocals)
    (d0 : decode cc pc = .ok (.new ik, 3)) (d3 : decode cc (pc + 3) = .ok (.dup, 1)) (d4 : decode cc (pc + 4) = .ok (.ldc is, 2)) (d6 : decode cc (pc + 6) = .ok (.invokespecial ic, 3)) (d9 : decode cc (pc + 9) = .ok (.athrow, 1))
    (hout : ∀ x ∈ c.exceptionTable.toList, covers x (pc + 9) = false)
    (hRframes : names.length + 3 < R.frames) (hRlocals : (rest.map fun v => v.category).sum + (13 * (names.length + 1) + 43) ≤ R.locals) (hRcells : cells + 1 ≤ R.cells) (hRslots : slots + 6 ≤ R.slots) (hlocks : meth.locks = false)
    (hx : ∀ t : State, s.vm.Alike t.vm → H.size ≤ t.heap.size → (∀ q : Nat, q < H.size → t.heap[q]? = H[q]?) → XC cls s t)
    (hf : ∀ z ∈ locs, free z.base) (hc : cells + 1 ≤ mc) (hs : slots + 6 ≤ ms) :
    W p l e R s m args below meth c H locs cells slots (vx_MQ below Qc XC args s mc ms free) (F0 m pc ls rest) := by
  intro T hT X
  have htr : e.platform.stackTraces = false := (show e.platform.stackTraces = l.stackTraces by rw [X.admits.platform]).trans hl
  have Y := vx_rebase X (R' := { frames := R.frames, locals := R.locals, cells := 1, slots := 6 }) (Nat.le_refl _) (Nat.le_refl _) hRcells hRslots
  obtain ⟨s', hA⟩ : ∃ z, z = (T.setVm s.vm).setFrames (.invoking m args :: below) := ⟨_, rfl⟩
  rw [← hA] at Y
  have hvm : s'.vm = s.vm := by rw [hA]; rfl
  have hhp : s'.heap = H := by rw [hA]; exact hT
  have hW0 : s.WarmedH s'.vm := by rw [hvm]; exact State.WarmedH.refl s
  have hat' : ∀ w ∈ vx_atS own ic cls names, w.before args s' = true := fun w hw => vx_ot_at hW0 hvm.symm (hgood w (List.mem_cons_of_mem _ (List.mem_cons_of_mem _ hw))) (hat w hw)
  have hk' : (Cond.classLink own ik cls).before args s' = true := vx_ot_at hW0 hvm.symm (hgood _ List.mem_cons_self) hk
  have hini' : (Cond.initialized cls).before args s' = true := vx_ot_at hW0 hvm.symm (hgood _ (List.mem_cons_of_mem _ List.mem_cons_self)) hini
  have hU' : vx_Zq Bundle.tN "UNASSIGNED_STACK" Bundle.steD A s' s'.heap := by rw [hhp]; exact vx_Zq.moved hW0.alike (hU.kept hS.2.1)
  have hN' : vx_Zq Bundle.tN "SUPPRESSED_SENTINEL" Bundle.listD A s' s'.heap := by rw [hhp]; exact vx_Zq.moved hW0.alike (hN.kept hS.2.1)
  have h : ∀ w ∈ Bundle.ownAtoms own ic cls names, w.before args s' = true := vx_own hat' (vx_isRefq hU'.1) (vx_isRefq hN'.1) hU'.2.word hN'.2.word
  have hown' : s'.vm.findClass own = some m.cls := by rw [hvm]; exact hown
  have hins : (Cond.instantiable cls 6).before args s' = true := h _ (by simp [Bundle.ownAtoms])
  obtain ⟨vm₁, cX, kX, hfX, hkX, -, -, X₁, st1⟩ := Y.newCold hexec (own := own) (C := cls) (index := ik) (n := 6) hown' hk' hins hini'
    (g := F0 m pc ls rest) rfl (by rw [hb]; exact d0) (Nat.le_refl _) (Nat.le_refl _)
  generalize hT1 : (T.setVm vm₁).pushCell { cls := cX, slots := kX.instanceTypes.map defaultValue, vm := .none } = T1 at X₁ st1
  have hcat : (Value.ref T.heap.size).category = 1 := rfl
  have hcellA : T1.heap[T.heap.size]? = some (freshCell cX kX) := by rw [← hT1]; exact State.heap_pushCell_size _ _
  have d3' : decode c.code (pc + 3) = .ok (.dup, 1) := by rw [hb]; exact d3
  have d4' : decode c.code (pc + 4) = .ok (.ldc is, 2) := by rw [hb]; exact d4
  have hstr' : vk_R own is text sa s' := vk_R.warm hW0 hstr
  obtain ⟨U, hsteps, hrun, hend, hW, hsame, ce, hce, hO⟩ := X₁.ctorThrowS hexec htr (own := own) (cls := cls) (names := names) (ic := ic) hown' hcls hnames h (fun x hx => nomatch hx) hfX hkX hcellA (by rw [hhp, hT]; exact Nat.le_refl _) (msg := .ref sa) rfl
    (g := { method := m, pc := pc + 6, locals := ls, stack := .ref sa :: .ref T.heap.size :: .ref T.heap.size :: rest, locked := none }) rfl hsize rfl rfl (rest := rest) rfl
    (by rw [hb]; exact d6) (by rw [hb]; exact d9) hout hRframes (by simp only [List.map_cons, List.sum_cons, hcat]; omega) hlocks
  obtain ⟨f1, f2⟩ := vx_frame hsame
  rw [hhp] at f1 f2
  have hWs : s.WarmedH U.vm := State.WarmedH.trans hW0 hW
  have hcl : s.vm.findClass cls = some ce.cls := by
    have h9 := hO.cls
    rw [hvm] at h9
    exact h9
  have hall : s.sameButNew ({ U with vm := s.vm } : State) locs mc ms := by
    subst hA
    obtain ⟨e1, e2⟩ := hsame
    rw [State.setFrames_setFrames] at e1
    have h2 : (T.setVm s.vm).sameButNew ({ U with vm := s.vm } : State) [] (0 + 1) (0 + 6) := ⟨e1, e2⟩
    have h3 := X.same.trans h2
    rw [List.append_nil] at h3
    exact h3.mono hc hs
  refine ⟨U, ?_, .threw T.heap.size, hrun, hend, Or.inr ⟨T.heap.size, rfl, cls, ce, locs, hx U hWs.alike f1 (fun q hq => f2 q hq (fun z hz => nomatch hz)), hce, hO.vm, hcl, hWs, hall, hf⟩⟩
  refine st1 _ ?_
  show Steps p.tables e below (T1.setTop { method := m, pc := pc + 3, locals := ls, stack := .ref T.heap.size :: rest, locked := none }) _
  jvm_step X₁.here [X₁.here.top, hexec, d3', Value.category]
  exact X₁.ldcString hexec (own := own) (text := text) (index := is) (a := sa) hown' hstr'.1 hstr'.2
    (g := { method := m, pc := pc + 4, locals := ls, stack := .ref T.heap.size :: .ref T.heap.size :: rest, locked := none }) rfl d4' _ hsteps
/-- 'throw new E("text")', the text by a wide index -/
theorem vx_throwSW {cc : ByteArray} {pc : Nat} (hexec : p.tables.exec = Jvm.exec) (hb : c.code = cc) (hl : l.stackTraces = false) {own cls text : String} {names : List String} {ik is ic mc ms sa : Nat} {A : Nat → Prop}
    (hown : s.vm.findClass own = some m.cls) (hcls : Bundle.fit cls = true) (hnames : ∀ n ∈ names, Bundle.fit n = true)
    (hk : (Cond.classLink own ik cls).before args s = true) (hini : (Cond.initialized cls).before args s = true) (hstr : vk_R own is text sa s) (hat : ∀ w ∈ vx_atS own ic cls names, w.before args s = true)
    (hgood : ∀ w ∈ Cond.classLink own ik cls :: Cond.initialized cls :: vx_atS own ic cls names, vx_ot w = true)
    (hU : vx_Zq Bundle.tN "UNASSIGNED_STACK" Bundle.steD A s s.heap) (hN : vx_Zq Bundle.tN "SUPPRESSED_SENTINEL" Bundle.listD A s s.heap) (hS : va_S A s.heap H locs) (hsize : ls.size = c.maxLocals)
    (d0 : decode cc pc = .ok (.new ik, 3)) (d3 : decode cc (pc + 3) = .ok (.dup, 1)) (d4 : decode cc (pc + 4) = .ok (.ldc_w is, 3)) (d7 : decode cc (pc + 7) = .ok (.invokespecial ic, 3)) (d10 : decode cc (pc + 10) = .ok (.athrow, 1))
    (hout : ∀ x ∈ c.exceptionTable.toList, covers x (pc + 10) = false)
    (hRframes : names.length + 3 < R.frames) (hRlocals : (rest.map fun v => v.category).sum + (13 * (names.length + 1) + 43) ≤ R.locals) (hRcells : cells + 1 ≤ R.cells) (hRslots : slots + 6 ≤ R.slots) (hlocks : meth.locks = false)
    (hx : ∀ t : State, s.vm.Alike t.vm → H.size ≤ t.heap.size → (∀ q : Nat, q < H.size → t.heap[q]? = H[q]?) → XC cls s t)
    (hf : ∀ z ∈ locs, free z.base) (hc : cells + 1 ≤ mc) (hs : slots + 6 ≤ ms) :
    W p l e R s m args below meth c H locs cells slots (vx_MQ below Qc XC args s mc ms free) (F0 m pc ls rest) := by
  intro T hT X
  have htr : e.platform.stackTraces = false := (show e.platform.stackTraces = l.stackTraces by rw [X.admits.platform]).trans hl
  have Y := vx_rebase X (R' := { frames := R.frames, locals := R.locals, cells := 1, slots := 6 }) (Nat.le_refl _) (Nat.le_refl _) hRcells hRslots
  obtain ⟨s', hA⟩ : ∃ z, z = (T.setVm s.vm).setFrames (.invoking m args :: below) := ⟨_, rfl⟩
  rw [← hA] at Y
  have hvm : s'.vm = s.vm := by rw [hA]; rfl
  have hhp : s'.heap = H := by rw [hA]; exact hT
  have hW0 : s.WarmedH s'.vm := by rw [hvm]; exact State.WarmedH.refl s
  have hat' : ∀ w ∈ vx_atS own ic cls names, w.before args s' = true := fun w hw => vx_ot_at hW0 hvm.symm (hgood w (List.mem_cons_of_mem _ (List.mem_cons_of_mem _ hw))) (hat w hw)
  have hk' : (Cond.classLink own ik cls).before args s' = true := vx_ot_at hW0 hvm.symm (hgood _ List.mem_cons_self) hk
  have hini' : (Cond.initialized cls).before args s' = true := vx_ot_at hW0 hvm.symm (hgood _ (List.mem_cons_of_mem _ List.mem_cons_self)) hini
  have hU' : vx_Zq Bundle.tN "UNASSIGNED_STACK" Bundle.steD A s' s'.heap := by rw [hhp]; exact vx_Zq.moved hW0.alike (hU.kept hS.2.1)
  have hN' : vx_Zq Bundle.tN "SUPPRESSED_SENTINEL" Bundle.listD A s' s'.heap := by rw [hhp]; exact vx_Zq.moved hW0.alike (hN.kept hS.2.1)
  have h : ∀ w ∈ Bundle.ownAtoms own ic cls names, w.before args s' = true := vx_own hat' (vx_isRefq hU'.1) (vx_isRefq hN'.1) hU'.2.word hN'.2.word
  have hown' : s'.vm.findClass own = some m.cls := by rw [hvm]; exact hown
  have hins : (Cond.instantiable cls 6).before args s' = true := h _ (by simp [Bundle.ownAtoms])
  obtain ⟨vm₁, cX, kX, hfX, hkX, -, -, X₁, st1⟩ := Y.newCold hexec (own := own) (C := cls) (index := ik) (n := 6) hown' hk' hins hini'
    (g := F0 m pc ls rest) rfl (by rw [hb]; exact d0) (Nat.le_refl _) (Nat.le_refl _)
  generalize hT1 : (T.setVm vm₁).pushCell { cls := cX, slots := kX.instanceTypes.map defaultValue, vm := .none } = T1 at X₁ st1
  have hcat : (Value.ref T.heap.size).category = 1 := rfl
  have hcellA : T1.heap[T.heap.size]? = some (freshCell cX kX) := by rw [← hT1]; exact State.heap_pushCell_size _ _
  have d3' : decode c.code (pc + 3) = .ok (.dup, 1) := by rw [hb]; exact d3
  have d4' : decode c.code (pc + 4) = .ok (.ldc_w is, 3) := by rw [hb]; exact d4
  have hstr' : vk_R own is text sa s' := vk_R.warm hW0 hstr
  obtain ⟨U, hsteps, hrun, hend, hW, hsame, ce, hce, hO⟩ := X₁.ctorThrowS hexec htr (own := own) (cls := cls) (names := names) (ic := ic) hown' hcls hnames h (fun x hx => nomatch hx) hfX hkX hcellA (by rw [hhp, hT]; exact Nat.le_refl _) (msg := .ref sa) rfl
    (g := { method := m, pc := pc + 7, locals := ls, stack := .ref sa :: .ref T.heap.size :: .ref T.heap.size :: rest, locked := none }) rfl hsize rfl rfl (rest := rest) rfl
    (by rw [hb]; exact d7) (by rw [hb]; exact d10) hout hRframes (by simp only [List.map_cons, List.sum_cons, hcat]; omega) hlocks
  obtain ⟨f1, f2⟩ := vx_frame hsame
  rw [hhp] at f1 f2
  have hWs : s.WarmedH U.vm := State.WarmedH.trans hW0 hW
  have hcl : s.vm.findClass cls = some ce.cls := by
    have h9 := hO.cls
    rw [hvm] at h9
    exact h9
  have hall : s.sameButNew ({ U with vm := s.vm } : State) locs mc ms := by
    subst hA
    obtain ⟨e1, e2⟩ := hsame
    rw [State.setFrames_setFrames] at e1
    have h2 : (T.setVm s.vm).sameButNew ({ U with vm := s.vm } : State) [] (0 + 1) (0 + 6) := ⟨e1, e2⟩
    have h3 := X.same.trans h2
    rw [List.append_nil] at h3
    exact h3.mono hc hs
  refine ⟨U, ?_, .threw T.heap.size, hrun, hend, Or.inr ⟨T.heap.size, rfl, cls, ce, locs, hx U hWs.alike f1 (fun q hq => f2 q hq (fun z hz => nomatch hz)), hce, hO.vm, hcl, hWs, hall, hf⟩⟩
  refine st1 _ ?_
  show Steps p.tables e below (T1.setTop { method := m, pc := pc + 3, locals := ls, stack := .ref T.heap.size :: rest, locked := none }) _
  jvm_step X₁.here [X₁.here.top, hexec, d3', Value.category]
  exact X₁.ldcStringW hexec (own := own) (text := text) (index := is) (a := sa) hown' hstr'.1 hstr'.2
    (g := { method := m, pc := pc + 4, locals := ls, stack := .ref T.heap.size :: .ref T.heap.size :: rest, locked := none }) rfl d4' _ hsteps
end Ends
section Bodies
variable {l : Launch}
theorem vx_ofW {y : MethodName} {ws ws' : List Cond} {rm : Room} {Pc : Array Value → State → Prop} {Qc : Array Value → State → Outcome → State → Prop} {XC : String → State → State → Prop} {mc ms : Nat} {free : Addr → Prop} {cc : ByteArray} {maxL : Nat} {ret : Option FieldType}
    (hy : plainName y.cls = true) (hw : ws = Cond.code y cc maxL ret :: ws')
    (body : ∀ p e s m args below meth c s₁, BodyLoose p l y (headSpec ws rm) cc maxL ret e s m args below meth c s₁ → c.maxLocals = maxL → (∀ x ∈ c.exceptionTable.toList, False) → Pc args s →
      W p l e (headSpec ws rm).room s m args below meth c s.heap [] 0 0 (vx_MQ below Qc XC args s mc ms free) (entryFrame m args maxL)) : vx_Met l y ws rm Pc Qc XC mc ms free := by
  refine MetFree.of_bodyS (code := cc) (maxLocals := maxL) (ret := ret) hy ?_ ?_
  · intro args s m h hn
    obtain ⟨meth, c, h1, h2, h3, h4, h5, h6, -, -⟩ := Cond.code_spec hn (atoms_spec (ws := ws) h _ (by rw [hw]; exact List.mem_cons_self))
    exact ⟨meth, c, h1, h2, h3, h4, h5, h6⟩
  · intro p e s m args below meth c s₁ B hml hP _
    have hh0 : s₁.heap = s.heap := by rw [B.state]; rfl
    have ht : ∀ x ∈ c.exceptionTable.toList, False := by
      obtain ⟨meth9, c9, h1, h2, -, -, -, -, h7, -⟩ := Cond.code_spec B.named (atoms_spec (ws := ws) B.pre _ (by rw [hw]; exact List.mem_cons_self))
      cases Option.some.inj (h1.symm.trans B.method)
      cases Option.some.inj (h2.symm.trans (Stand.of_body B).code)
      intro x hx
      rw [Array.isEmpty_iff.mp h7] at hx
      cases hx
    obtain ⟨t, a1, o, b1, b2, b3⟩ := body p e s m args below meth c s₁ B hml ht hP s₁ hh0 (Stand.of_body B)
    exact ⟨t, o, a1, b1, b2, b3⟩
/-- the table of a body with handlers -/
theorem vx_table {p : Program} {x y : MethodName} {S : Spec} {cc bytes : ByteArray} {maxL maxL' : Nat} {ret ret' : Option FieldType} {e : Env} {s s₁ : State} {m : MethodId} {args : Array Value} {below : List Frame} {meth : Method} {c : Code} {hh : List (Nat × Nat × Nat × Nat)}
    (B : BodyLoose p l y S cc maxL ret e s m args below meth c s₁) (h : (Cond.codeWith y bytes maxL' ret' hh).before args s = true) : c.exceptionTable.toList = tableOf hh := by
  obtain ⟨m9, meth9, c9, hn9, h1, h2, -, -, h6, -⟩ := Cond.codeWith_spec h
  cases Option.some.inj (hn9.symm.trans B.named)
  cases Option.some.inj (h1.symm.trans B.method)
  cases Option.some.inj (h2.symm.trans (Stand.of_body B).code)
  rw [← h6, table_eq]
end Bodies
end VXA
/-! ===== END ===== -/
/-! ===== BEGIN a static call of a method with an exception table ===== -/
section VXS
variable {p : Program} {l : Launch} {e : Env} {R : Room} {s : State} {m : MethodId} {args : Array Value} {below : List Frame} {meth : Method} {c : Code} {T : State} {H : Heap} {locs : List Loc} {cells slots : Nat}
abbrev vx_CSW (R : Room) (s : State) (args : Array Value) (own : String) (index : Nat) (y : MethodName) (bytes : ByteArray) (maxL : Nat) (ret : Option FieldType) (hh : List (Nat × Nat × Nat × Nat)) (ws : List Cond) (rm : Room) (mc ms n : Nat) : Prop :=
  (rm.cells = mc ∧ rm.slots = ms ∧ rm.frames + 1 ≤ R.frames ∧ 8 + (maxL + 11) + rm.locals ≤ R.locals ∧ (∀ w ∈ ws, ∀ (a' : Array Value) (U : State), s.WarmedH U.vm → w.before a' U = true) ∧ Cond.codeWith y bytes maxL ret hh ∈ ws) ∧
  (Cond.codeWith y bytes maxL ret hh).before args s = true ∧ (Cond.initialized y.cls).before args s = true ∧ (y.cls ≠ "java/lang/invoke/MethodHandle" ∧ y.cls ≠ "java/lang/invoke/VarHandle") ∧
  (∀ sig, parseMethodDescriptor y.desc = some sig → n = sig.parameters.length) ∧ (Cond.methodLink own index y).before args s = true ∧ (Cond.static y).before args s = true
theorem vx_cwSW {own : String} {index maxL mc ms : Nat} {y : MethodName} {bytes : ByteArray} {ret : Option FieldType} {hh : List (Nat × Nat × Nat × Nat)} {Ts ws ws' : List Cond} {rm : Room} (n : Nat) (ht : ∀ w ∈ Ts, w.before args s = true) (hT : GoodIn Ts (va_wsS own index y ws)) (hw : ws = Cond.codeWith y bytes maxL ret hh :: ws') (hrc : rm.cells = mc) (hrs : rm.slots = ms)
    (hd : y.cls ≠ "java/lang/invoke/MethodHandle" ∧ y.cls ≠ "java/lang/invoke/VarHandle" ∧ (parseMethodDescriptor y.desc).map (fun d => d.parameters.length) = some n) (hR : rm.frames + 1 ≤ R.frames ∧ 8 + (maxL + 11) + rm.locals ≤ R.locals) :
    vx_CSW R s args own index y bytes maxL ret hh ws rm mc ms n := by
  have ok : ∀ w ∈ va_wsS own index y ws, w.before args s = true := fun w h => ht w (hT w h).1
  have hG : GoodIn Ts ws := fun w h => hT w (by unfold va_wsS; exact List.mem_append_right _ h)
  have hc : Cond.codeWith y bytes maxL ret hh ∈ ws := by rw [hw]; exact List.mem_cons_self
  refine ⟨⟨hrc, hrs, hR.1, hR.2, pay_in ht hG, hc⟩, ht _ (hG _ hc).1, ok _ (by simp [va_wsS]), ⟨hd.1, hd.2.1⟩, fun sig h => ?_, ok _ (by simp [va_wsS]), ok _ (by simp [va_wsS])⟩
  have h2 := hd.2.2
  rw [h] at h2
  exact (Option.some.inj h2).symm
theorem vx_callSW (X : Stand p l e R s m args below meth c T locs cells slots) (hexec : p.tables.exec = Jvm.exec) {own : String} {index : Nat} {y : MethodName} {bytes : ByteArray} {maxL : Nat} {ret : Option FieldType} {hh : List (Nat × Nat × Nat × Nat)}
    (hown : s.vm.findClass own = some m.cls) (hlink : (Cond.methodLink own index y).before args s = true) (hstat : (Cond.static y).before args s = true) (hinit : (Cond.initialized y.cls).before args s = true)
    (hcode : (Cond.codeWith y bytes maxL ret hh).before args s = true) (hy : y.cls ≠ "java/lang/invoke/MethodHandle" ∧ y.cls ≠ "java/lang/invoke/VarHandle")
    {W9 : Nat} {Pre : Pt → Array Value → Prop} {Post : Pt → Array Value → Option Value → Pt → Prop} (hK : Back l R p e below s args y 3 W9 Pre Post)
    {g : JFrame} (hg : g.method = m) (hsize : g.locals.size = c.maxLocals) {argsL rest : List Value} (hlen : ∀ sig, parseMethodDescriptor y.desc = some sig → argsL.length = sig.parameters.length)
    (hstack : g.stack = argsL.reverse ++ rest) (hW : 2 * g.monitorRoom + (rest.map fun v => v.category).sum ≤ W9) (hdg : decode c.code g.pc = .ok (.invokestatic index, 3))
    (hpre : ∀ vm₁, s.WarmedH vm₁ → Pre ⟨T.setVm vm₁, locs, cells, slots⟩ argsL.toArray) :
    ∃ (v : Option Value) (vm₁ : Vm) (B : Pt), s.WarmedH vm₁ ∧ Stand p l e R s m args below meth c B.U B.locs B.cells B.slots ∧ Post ⟨T.setVm vm₁, locs, cells, slots⟩ argsL.toArray v B ∧
      ∀ target, Steps p.tables e below (B.U.setTop { g with pc := g.pc + 3, stack := v.toList ++ rest }) target → Steps p.tables e below (T.setTop g) target := by
  obtain ⟨mk, methM, cM, hnamed, hmethM, -, -, -, -, -, -, hsigM⟩ := Cond.codeWith_spec hcode
  have hstatic : methM.isStatic = true := Cond.static_spec hnamed hmethM hstat
  obtain ⟨kP, hkP, -⟩ := className_of_methodNamed hnamed
  have hinitP : kP.init = .initialized := Cond.initialized_spec (findClass_of_methodNamed hnamed) hkP hinit
  obtain ⟨vm₁, X₁, hstep₁⟩ := X.invokestatic hexec hown hlink hnamed hmethM hstatic hkP hinitP hy (g := g) hg (argsL := argsL) (rest := rest) (hlen _ hsigM) hstack hdg
  obtain ⟨v, B, X', hpost, hsteps⟩ := hK m meth c ⟨T.setVm vm₁, locs, cells, slots⟩ { g with stack := rest } (.invokestatic index) mk argsL.toArray X₁ hg hsize hdg hW (X₁.named hnamed) (hpre vm₁ X₁.warmed)
  exact ⟨v, vm₁, B, X₁.warmed, X', hpost, fun target h => hstep₁ _ fun acts => by rw [doInvoke_state]; exact hsteps.trans h⟩
theorem vx_runSW {y : MethodName} {bytes cc : ByteArray} {maxL nL mc ms n index : Nat} {ret : Option FieldType} {hh : List (Nat × Nat × Nat × Nat)} {ws : List Cond} {rm : Room} {Pc : Array Value → State → Prop} {Qc : Array Value → State → Outcome → State → Prop} {free : Addr → Prop} {Ts : List Cond} {own : String} {As rest : List Value} {g : JFrame}
    (S : CallFix p m c cc nL s args Ts own) (hM : Met l y ws rm Pc Qc mc ms free) (cw : vx_CSW R s args own index y bytes maxL ret hh ws rm mc ms n) (hp : PreS s H Pc As)
    (hg : g.method = m) (hn : As.length = n) (hsize : g.locals.size = nL) (hstack : g.stack = As.reverse ++ rest) (hW : 2 * g.monitorRoom + (rest.map fun v => v.category).sum ≤ 8) (hdg : decode cc g.pc = .ok (.invokestatic index, 3)) (hf : cells + mc ≤ R.cells ∧ slots + ms ≤ R.slots) :
    va_Run p l e R s m args below meth c H locs cells slots mc ms g rest (Qc As.toArray) (free) := by
  obtain ⟨⟨hrc, hrs, hfr, hlo, hws, hcw⟩, hcode, hini, hy, hlen, hl, hstt⟩ := cw
  have hK : Back l R p e below s args y 3 8 (PreOf R mc ms Pc) (PostOf Qc mc ms free) := va_backW (hh := hh) (bytes := bytes) (maxL := maxL) (ret := ret) hM hp.1 hrc hrs hfr hlo hws hcw (fun a' U hW => word_at hW (Or.inl (by first | rfl | simp [Cond.onTables, Cond.keeps, Cond.steady])) hini)
  obtain ⟨hx, hb, hml, ho, -⟩ := S
  intro T hT X
  obtain ⟨v, vm₁, ⟨U', l2, c2, s2⟩, hW₁, X', ⟨g', mk, t, L, e1, e2, hq, h1, hL, h2, h3⟩, st⟩ := vx_callSW X hx (hh := hh) (bytes := bytes) (maxL := maxL) (ret := ret) ho hl hstt hini hcode hy hK hg (hsize.trans hml.symm) (argsL := As) (rest := rest) (fun sig h => hn.trans (hlen sig h)) hstack hW (by rw [hb]; exact hdg)
    (fun vm₁ hW₁ => ⟨hf.1, hf.2, hp.2 (T.setVm vm₁) hT hW₁⟩)
  dsimp only [Pt.U, Pt.locs, Pt.cells, Pt.slots] at X' e1 e2 h1 h2 h3 st
  subst h1; subst h2; subst h3
  exact ⟨v, (T.setVm vm₁).calling g' mk As.toArray, t, U', L, hT, X', hL, e1, e2, hq, st⟩
/-- not caught here, past rows that name other classes: it goes on to the caller -/
theorem vx_outP {p : Program} {l : Launch} {e : Env} {R : Room} {s : State} {m : MethodId} {args : Array Value} {below : List Frame} {meth : Method} {c : Code} {H : Heap} {locs : List Loc} {cells slots : Nat} {free : Addr → Prop} {ls : Array Slot} {rest : List Value} {Qc : Array Value → State → Outcome → State → Prop} {XC : String → State → State → Prop}
    {pc : Nat} {own E : String} {ce : Cell} {q : Addr} {mc ms : Nat} (hown : s.vm.findClass own = some m.cls) (hlocks : meth.locks = false)
    (hpass : ∀ z ∈ c.exceptionTable.toList, covers z pc = false ∨ (z.catchType ≠ 0 ∧ ∃ nm : String, (Cond.classLink own z.catchType nm).before args s = true ∧ va_Nc E nm s)) (hcell : H[q]? = some ce) (hv : ce.vm = .none) (hcl : s.vm.findClass E = some ce.cls)
    (hx : ∀ t : State, t.heap = H → s.vm.Alike t.vm → XC E s t) (hf : ∀ z ∈ locs, free z.base) (hc : cells ≤ mc) (hs : slots ≤ ms) :
    vx_W p l e R s m args below meth c H locs cells slots (vx_MQ below Qc XC args s mc ms free) (F0 m pc ls rest) q := by
  intro T hT X
  have hpl : e.platform.magicAccessors = ({} : Platform).magicAccessors := by rw [X.admits.platform]
  obtain ⟨vm', hW', X', st⟩ := X.outThrough hlocks q (g := F0 m pc ls rest) rfl rfl rfl (cell := ce) (by rw [hT]; exact hcell) (by rw [hv]; rfl)
    (by obtain ⟨k9, h9, -⟩ := Vm.findClass_spec hcl; exact ⟨k9, h9⟩) (fun z hz => by
      rcases hpass z hz with h | ⟨hz0, nm, hl1, hn1⟩
      · exact Or.inl h
      · obtain ⟨c6, hc6, hcl6⟩ := Cond.classLink_spec hown hl1 e.platform hpl
        obtain ⟨a8, b8, h1, h2, h3⟩ := hn1
        cases Option.some.inj (h1.symm.trans hcl)
        cases Option.some.inj (h2.symm.trans hc6)
        exact Or.inr ⟨hz0, _, hcl6, h3⟩)
  obtain ⟨g₀, hfr⟩ := X'.frames_eq
  have hcell9 : ((T.setVm vm').setFrames (.throwing q :: below)).heap[q]? = some ce := by
    show T.heap[q]? = some ce
    rw [hT]; exact hcell
  have hend : Ended ((T.setVm vm').setFrames (.throwing q :: below)) below (.threw q) := State.frames_setFrames _ (State.cur_lt_of_frames hfr)
  refine ⟨(T.setVm vm').setFrames (.throwing q :: below), ?_, .threw q, X'.here.running, hend, Or.inr ⟨q, rfl, E, ce, locs, hx _ hT (X'.ends _).1.alike, hcell9, hv, hcl, (X'.ends _).1, (X'.ends _).2.mono hc hs, hf⟩⟩
  rw [X.pushThrowing_eq]
  exact st
/-- a thing of a world lies in the heap -/
theorem vx_lt {D : va_G} {cl : List vw_C} {ws : va_W} {H1 : Heap} (h : va_P D cl ws H1) {k : Nat} {q : Nat × va_E} (hk : ws[k]? = some q) : q.1 < H1.size := (h k q hk).lt
end VXS
/-! ===== END ===== -/
/-! ===== BEGIN methods with a table of their own: called by a name, returning or throwing ===== -/
section VXH
/-! vx_backW, vx_callVX, vx_callSX, vx_callVW, vx_runVW, vx_runVX, vx_runSX, vx_ofWH follow the same proofs as their sisters above (Free/Laws.lean, Shelf42/LK1.lean); vx_outP calls Shelf42/NT130.lean (outThrough). -/
section
variable {l : Launch} {R : Room} {p : Program} {e : Env} {below : List Frame} {s : State} {sargs : Array Value} {y : MethodName} {len W9 : Nat}
theorem vx_backW {ws : List Cond} {rm : Room} {Pc : Array Value → State → Prop} {Qc : Array Value → State → Outcome → State → Prop} {XC : String → State → State → Prop} {mc ms : Nat} {free : Addr → Prop} {bytes : ByteArray} {maxL : Nat} {ret : Option FieldType} {hh : List (Nat × Nat × Nat × Nat)}
    (hM : vx_Met l y ws rm Pc Qc XC mc ms free) (hblind : FrameBlind Pc) (hrc : rm.cells = mc) (hrs : rm.slots = ms)
    (hframes : rm.frames + 1 ≤ R.frames) (hlocals : W9 + (maxL + 11) + rm.locals ≤ R.locals)
    (hws : ∀ w ∈ ws, ∀ a' U, s.WarmedH U.vm → w.before a' U = true) (hcode : Cond.codeWith y bytes maxL ret hh ∈ ws) (hinit : ∀ a' U, s.WarmedH U.vm → (Cond.initialized y.cls).before a' U = true) :
    vx_Back l R p e below s sargs y len W9 (PreOf R mc ms Pc) (PostOf Qc mc ms free) (vx_Post XC mc ms free) := by
  intro m meth c A g ig mk a X hg hsize hdg hW hn hp
  have h1 : (headSpec ws rm).pre.before a A.U = true := atoms_intro fun w hw => hws w hw _ _ X.warmed
  have h2 : (Cond.codeWith y bytes maxL ret hh).before a A.U = true := hws _ hcode _ _ X.warmed
  have h3 : (Cond.initialized y.cls).before a A.U = true := hinit _ _ X.warmed
  have h4 : A.cells + (headSpec ws rm).room.cells ≤ R.cells := by rw [show (headSpec ws rm).room.cells = mc from hrc]; exact hp.1
  have h5 : A.slots + (headSpec ws rm).room.slots ≤ R.slots := by rw [show (headSpec ws rm).room.slots = ms from hrs]; exact hp.2.1
  have hPc : Pc a (A.U.calling g mk a) := hblind _ _ _ _ hp.2.2
  obtain ⟨U, Ls, c0, s0⟩ := A
  dsimp only [Pt.U, Pt.locs, Pt.cells, Pt.slots] at h1 h2 h3 h4 h5 X hn hPc ⊢
  obtain ⟨m9, methY, cY, hn9, hmY, hcY, -, hlY, -⟩ := Cond.codeWith_spec h2
  cases Option.some.inj (hn9.symm.trans hn)
  obtain ⟨kY, hkY, -⟩ := className_of_methodNamed hn
  have hinitY : kY.init = .initialized := Cond.initialized_spec (findClass_of_methodNamed hn) hkY h3
  have h : At U g.method c below := by rw [hg]; exact X.here
  have hlocals9 : W9 + (maxL + 11) + (headSpec ws rm).room.locals ≤ R.locals := hlocals
  have happ : (headSpec ws rm).appliesLoose y e.platform (U.calling g mk a) = true :=
    Spec.appliesLoose_calling (g := g) h hdg hn hkY hinitY
      (X.room_calling (g := g) (R' := (headSpec ws rm).room) hsize hmY hcY hframes (by rw [hlY]; omega) h4 h5) h1
  obtain ⟨mid, hmid⟩ := h.above
  have hfr : (U.setTop g).frames = (.java g :: mid) ++ below := by rw [State.frames_setTop' g h.top, hmid]; rfl
  obtain ⟨o, s₂, hsteps, -, hend, hq⟩ := Steps.callFree hM p X.admits X.cas X.clock (acts := []) hfr happ hPc trivial
  have hq' : vx_Q Qc XC mc ms free a (U.calling g mk a) o s₂ := hq
  rw [State.frames_setTop' g h.top] at hend
  obtain ⟨g₀, hg0⟩ := Option.isSome_iff_exists.mp h.top
  obtain ⟨r, hr⟩ := State.topJava?_eq_some.mp hg0
  have hr' : (({ U with heap := s₂.heap, slotsUsed := s₂.slotsUsed } : State).setVm s₂.vm).frames = .java g₀ :: r := hr
  rcases hq' with ⟨hqc, L, hfe, hL⟩ | ⟨q, rfl, E, ce, L, hx, hce, hcv, hcl, hW₂, hsm, hL⟩
  · obtain ⟨⟨v, rfl⟩, hW₂, e2, q2, q3, q4, q5, q6⟩ := id hfe
    have e3 : s₂ = ({ (U.calling g mk a).setFrames s₂.frames with heap := s₂.heap, slotsUsed := s₂.slotsUsed } : State).setVm s₂.vm := by
      have : s₂ = ({ s₂ with vm := (U.calling g mk a).vm } : State).setVm s₂.vm := rfl
      rw [e2] at this
      exact this
    obtain ⟨c₂, i₂, len₂, hc₂, hd₂, hf₂⟩ := hend
    have hW' : U.WarmedH s₂.vm := hW₂
    have hcc : c₂ = c := by
      have h1 : s₂.code? g.method = U.code? g.method := by
        rw [State.code?_eq, State.code?_eq, hW'.alike.method?]
      exact Option.some.inj (hc₂.symm.trans (h1.trans h.code))
    subst hcc
    have hlen : len₂ = len := by rw [hdg] at hd₂; cases hd₂; rfl
    subst hlen
    have hs₂ : s₂ = (({ U with heap := s₂.heap, slotsUsed := s₂.slotsUsed } : State).setVm s₂.vm).setTop { g with pc := g.pc + len₂, stack := v.toList ++ g.stack } := by
      refine e3.trans ?_
      rw [hf₂, State.calling_eq h.top, State.setFrames_setFrames, State.setTop_of_frames _ hr', hr]
      rfl
    have hsame : U.sameButNew ({ U with heap := s₂.heap, slotsUsed := s₂.slotsUsed } : State) L mc ms := by
      refine ⟨?_, q2, q3, q4, q5, q6⟩
      obtain ⟨t, ht, -⟩ := State.frames_cons hr
      show ({ U with heap := s₂.heap, slotsUsed := s₂.slotsUsed } : State) = { U.setFrames U.frames with heap := s₂.heap, slotsUsed := s₂.slotsUsed }
      rw [State.setFrames_self ht]
    subst hg
    refine Or.inl ⟨v, ⟨(({ U with heap := s₂.heap, slotsUsed := s₂.slotsUsed } : State).setVm s₂.vm), Ls ++ L, c0 + mc, s0 + ms⟩,
      ⟨X.admits, X.cas, X.clock, X.frames, X.room, X.hears, X.method, X.code, (X.here.setHeapUsed s₂.heap s₂.slotsUsed).setVm hW'.alike, X.tail, State.WarmedH.trans X.warmed hW', X.limits, X.bytes, X.same.trans (hsame.setVm s.vm)⟩,
      ⟨g, mk, s₂, L, rfl, rfl, hqc, rfl, hL, rfl, rfl⟩, ?_⟩
    show Steps p.tables e below _ ((({ U with heap := s₂.heap, slotsUsed := s₂.slotsUsed } : State).setVm s₂.vm).setTop { g with pc := g.pc + len₂, stack := v.toList ++ g.stack })
    rw [← hs₂]
    exact hsteps
  · obtain ⟨e2, q2, q3, q4, q5, q6⟩ := id hsm
    have e3 : s₂ = ({ (U.calling g mk a).setFrames s₂.frames with heap := s₂.heap, slotsUsed := s₂.slotsUsed } : State).setVm s₂.vm := by
      have : s₂ = ({ s₂ with vm := (U.calling g mk a).vm } : State).setVm s₂.vm := rfl
      rw [e2] at this
      exact this
    have hf₂ : s₂.frames = .throwing q :: .java g :: U.frames.tail := hend
    have hW' : U.WarmedH s₂.vm := hW₂
    have hs₂ : s₂ = ((({ U with heap := s₂.heap, slotsUsed := s₂.slotsUsed } : State).setVm s₂.vm).setTop g).pushFrame (.throwing q) := by
      refine e3.trans ?_
      rw [hf₂, State.calling_eq h.top, State.setFrames_setFrames, State.pushFrame, State.frames_setTop _ hr', State.setTop_of_frames _ hr', State.setFrames_setFrames, hr]
      rfl
    have hsame : U.sameButNew ({ U with heap := s₂.heap, slotsUsed := s₂.slotsUsed } : State) L mc ms := by
      refine ⟨?_, q2, q3, q4, q5, q6⟩
      obtain ⟨t, ht, -⟩ := State.frames_cons hr
      show ({ U with heap := s₂.heap, slotsUsed := s₂.slotsUsed } : State) = { U.setFrames U.frames with heap := s₂.heap, slotsUsed := s₂.slotsUsed }
      rw [State.setFrames_self ht]
    subst hg
    refine Or.inr ⟨q, ⟨(({ U with heap := s₂.heap, slotsUsed := s₂.slotsUsed } : State).setVm s₂.vm), Ls ++ L, c0 + mc, s0 + ms⟩,
      ⟨X.admits, X.cas, X.clock, X.frames, X.room, X.hears, X.method, X.code, (X.here.setHeapUsed s₂.heap s₂.slotsUsed).setVm hW'.alike, X.tail, State.WarmedH.trans X.warmed hW', X.limits, X.bytes, X.same.trans (hsame.setVm s.vm)⟩,
      ⟨g, mk, s₂, L, E, ce, rfl, rfl, hx, hce, hcv, hcl, rfl, hL, rfl, rfl⟩, ?_⟩
    show Steps p.tables e below _ (((({ U with heap := s₂.heap, slotsUsed := s₂.slotsUsed } : State).setVm s₂.vm).setTop g).pushFrame (.throwing q))
    rw [← hs₂]
    exact hsteps
end
variable {p : Program} {l : Launch} {e : Env} {R : Room} {s : State} {m : MethodId} {args : Array Value} {below : List Frame} {meth : Method} {c : Code} {T : State} {H : Heap} {locs : List Loc} {cells slots : Nat}
theorem vx_callVX (X : Stand p l e R s m args below meth c T locs cells slots) (hexec : p.tables.exec = Jvm.exec) {own C : String} {index : Nat} {y : MethodName} {bytes : ByteArray} {maxL : Nat} {ret : Option FieldType} {hh : List (Nat × Nat × Nat × Nat)}
    (hown : s.vm.findClass own = some m.cls) (hlink : (Cond.methodLink own index y).before args s = true) (hinst : (Cond.instanceMethod y).before args s = true) (hsel : (Cond.selects C y y).before args s = true)
    (hcode : (Cond.codeWith y bytes maxL ret hh).before args s = true) (hy : y.cls ≠ "java/lang/invoke/MethodHandle" ∧ y.cls ≠ "java/lang/invoke/VarHandle")
    {W9 : Nat} {Pre : Pt → Array Value → Prop} {Post : Pt → Array Value → Option Value → Pt → Prop} {PostX : Pt → Array Value → Addr → Pt → Prop} (hK : vx_Back l R p e below s args y 3 W9 Pre Post PostX)
    {b : Addr} {cellB : Cell} (hcell : T.heap[b]? = some cellB) (hobj : cellB.vm.isStatics = false) (hcls : s.vm.findClass C = some cellB.cls)
    {g : JFrame} (hg : g.method = m) (hsize : g.locals.size = c.maxLocals) {argsL rest : List Value} (hlen : ∀ sig, parseMethodDescriptor y.desc = some sig → argsL.length = sig.parameters.length)
    (hstack : g.stack = argsL.reverse ++ .ref b :: rest) (hW : 2 * g.monitorRoom + (rest.map fun v => v.category).sum ≤ W9) (hdg : decode c.code g.pc = .ok (.invokevirtual index, 3))
    (hpre : ∀ vm₁, s.WarmedH vm₁ → Pre ⟨T.setVm vm₁, locs, cells, slots⟩ (Value.ref b :: argsL).toArray) :
    (∃ (v : Option Value) (vm₁ : Vm) (B : Pt), s.WarmedH vm₁ ∧ Stand p l e R s m args below meth c B.U B.locs B.cells B.slots ∧ Post ⟨T.setVm vm₁, locs, cells, slots⟩ (Value.ref b :: argsL).toArray v B ∧
      ∀ target, Steps p.tables e below (B.U.setTop { g with pc := g.pc + 3, stack := v.toList ++ rest }) target → Steps p.tables e below (T.setTop g) target) ∨
    (∃ (q : Addr) (vm₁ : Vm) (B : Pt), s.WarmedH vm₁ ∧ Stand p l e R s m args below meth c B.U B.locs B.cells B.slots ∧ PostX ⟨T.setVm vm₁, locs, cells, slots⟩ (Value.ref b :: argsL).toArray q B ∧
      Steps p.tables e below (T.setTop g) ((B.U.setTop { g with stack := rest }).pushFrame (.throwing q))) := by
  obtain ⟨mk, methM, hnamed, hmethM, hstM, habM⟩ := Cond.instanceMethod_spec hinst
  obtain ⟨m8, methM', cM, hn8, hmethM', -, -, -, -, -, -, hsigM⟩ := Cond.codeWith_spec hcode
  cases Option.some.inj (hn8.symm.trans hnamed)
  cases hmethM.symm.trans hmethM'
  obtain ⟨c2, r2, m2, q1, q2, q3, q4, kP, hkP, hkPi⟩ := Cond.selects_spec hsel
  cases hcls.symm.trans q1
  cases (State.methodFound?_of_named hnamed hy).symm.trans q2
  cases hnamed.symm.trans q3
  have hselP : selectMethod e.platform s.vm cellB.cls mk = .method mk := by rw [Launch.admits_selectMethod X.admits]; exact q4
  obtain ⟨vm₁, X₁, hstep₁⟩ := X.invokevirtual hexec hown hlink hnamed hmethM hstM hkP hkPi hy (a := b) (cell := cellB) hcell
    (fun z h => by rw [h] at hobj; cases hobj) hselP hmethM habM hkP hkPi (g := g) hg (argsL := argsL) (rest := rest) (hlen _ hsigM) hstack hdg
  rcases hK m meth c ⟨T.setVm vm₁, locs, cells, slots⟩ { g with stack := rest } (.invokevirtual index) mk (Value.ref b :: argsL).toArray X₁ hg hsize hdg hW (X₁.named hnamed) (hpre vm₁ X₁.warmed) with ⟨v, B, X', hpost, hsteps⟩ | ⟨q, B, X', hpost, hsteps⟩
  · exact Or.inl ⟨v, vm₁, B, X₁.warmed, X', hpost, fun target h => hstep₁ _ fun acts => by rw [doInvoke_state]; exact hsteps.trans h⟩
  · exact Or.inr ⟨q, vm₁, B, X₁.warmed, X', hpost, hstep₁ _ fun acts => by rw [doInvoke_state]; exact hsteps⟩
theorem vx_callSX (X : Stand p l e R s m args below meth c T locs cells slots) (hexec : p.tables.exec = Jvm.exec) {own : String} {index : Nat} {y : MethodName} {bytes : ByteArray} {maxL : Nat} {ret : Option FieldType} {hh : List (Nat × Nat × Nat × Nat)}
    (hown : s.vm.findClass own = some m.cls) (hlink : (Cond.methodLink own index y).before args s = true) (hstat : (Cond.static y).before args s = true) (hinit : (Cond.initialized y.cls).before args s = true)
    (hcode : (Cond.codeWith y bytes maxL ret hh).before args s = true) (hy : y.cls ≠ "java/lang/invoke/MethodHandle" ∧ y.cls ≠ "java/lang/invoke/VarHandle")
    {W9 : Nat} {Pre : Pt → Array Value → Prop} {Post : Pt → Array Value → Option Value → Pt → Prop} {PostX : Pt → Array Value → Addr → Pt → Prop} (hK : vx_Back l R p e below s args y 3 W9 Pre Post PostX)
    {g : JFrame} (hg : g.method = m) (hsize : g.locals.size = c.maxLocals) {argsL rest : List Value} (hlen : ∀ sig, parseMethodDescriptor y.desc = some sig → argsL.length = sig.parameters.length)
    (hstack : g.stack = argsL.reverse ++ rest) (hW : 2 * g.monitorRoom + (rest.map fun v => v.category).sum ≤ W9) (hdg : decode c.code g.pc = .ok (.invokestatic index, 3))
    (hpre : ∀ vm₁, s.WarmedH vm₁ → Pre ⟨T.setVm vm₁, locs, cells, slots⟩ argsL.toArray) :
    (∃ (v : Option Value) (vm₁ : Vm) (B : Pt), s.WarmedH vm₁ ∧ Stand p l e R s m args below meth c B.U B.locs B.cells B.slots ∧ Post ⟨T.setVm vm₁, locs, cells, slots⟩ argsL.toArray v B ∧
      ∀ target, Steps p.tables e below (B.U.setTop { g with pc := g.pc + 3, stack := v.toList ++ rest }) target → Steps p.tables e below (T.setTop g) target) ∨
    (∃ (q : Addr) (vm₁ : Vm) (B : Pt), s.WarmedH vm₁ ∧ Stand p l e R s m args below meth c B.U B.locs B.cells B.slots ∧ PostX ⟨T.setVm vm₁, locs, cells, slots⟩ argsL.toArray q B ∧
      Steps p.tables e below (T.setTop g) ((B.U.setTop { g with stack := rest }).pushFrame (.throwing q))) := by
  obtain ⟨mk, methM, cM, hnamed, hmethM, -, -, -, -, -, -, hsigM⟩ := Cond.codeWith_spec hcode
  have hstatic : methM.isStatic = true := Cond.static_spec hnamed hmethM hstat
  obtain ⟨kP, hkP, -⟩ := className_of_methodNamed hnamed
  have hinitP : kP.init = .initialized := Cond.initialized_spec (findClass_of_methodNamed hnamed) hkP hinit
  obtain ⟨vm₁, X₁, hstep₁⟩ := X.invokestatic hexec hown hlink hnamed hmethM hstatic hkP hinitP hy (g := g) hg (argsL := argsL) (rest := rest) (hlen _ hsigM) hstack hdg
  rcases hK m meth c ⟨T.setVm vm₁, locs, cells, slots⟩ { g with stack := rest } (.invokestatic index) mk argsL.toArray X₁ hg hsize hdg hW (X₁.named hnamed) (hpre vm₁ X₁.warmed) with ⟨v, B, X', hpost, hsteps⟩ | ⟨q, B, X', hpost, hsteps⟩
  · exact Or.inl ⟨v, vm₁, B, X₁.warmed, X', hpost, fun target h => hstep₁ _ fun acts => by rw [doInvoke_state]; exact hsteps.trans h⟩
  · exact Or.inr ⟨q, vm₁, B, X₁.warmed, X', hpost, hstep₁ _ fun acts => by rw [doInvoke_state]; exact hsteps⟩
theorem vx_callVW (X : Stand p l e R s m args below meth c T locs cells slots) (hexec : p.tables.exec = Jvm.exec) {own C : String} {index : Nat} {y : MethodName} {bytes : ByteArray} {maxL : Nat} {ret : Option FieldType} {hh : List (Nat × Nat × Nat × Nat)}
    (hown : s.vm.findClass own = some m.cls) (hlink : (Cond.methodLink own index y).before args s = true) (hinst : (Cond.instanceMethod y).before args s = true) (hsel : (Cond.selects C y y).before args s = true)
    (hcode : (Cond.codeWith y bytes maxL ret hh).before args s = true) (hy : y.cls ≠ "java/lang/invoke/MethodHandle" ∧ y.cls ≠ "java/lang/invoke/VarHandle")
    {W9 : Nat} {Pre : Pt → Array Value → Prop} {Post : Pt → Array Value → Option Value → Pt → Prop} (hK : Back l R p e below s args y 3 W9 Pre Post)
    {b : Addr} {cellB : Cell} (hcell : T.heap[b]? = some cellB) (hobj : cellB.vm.isStatics = false) (hcls : s.vm.findClass C = some cellB.cls)
    {g : JFrame} (hg : g.method = m) (hsize : g.locals.size = c.maxLocals) {argsL rest : List Value} (hlen : ∀ sig, parseMethodDescriptor y.desc = some sig → argsL.length = sig.parameters.length)
    (hstack : g.stack = argsL.reverse ++ .ref b :: rest) (hW : 2 * g.monitorRoom + (rest.map fun v => v.category).sum ≤ W9) (hdg : decode c.code g.pc = .ok (.invokevirtual index, 3))
    (hpre : ∀ vm₁, s.WarmedH vm₁ → Pre ⟨T.setVm vm₁, locs, cells, slots⟩ (Value.ref b :: argsL).toArray) :
    ∃ (v : Option Value) (vm₁ : Vm) (B : Pt), s.WarmedH vm₁ ∧ Stand p l e R s m args below meth c B.U B.locs B.cells B.slots ∧ Post ⟨T.setVm vm₁, locs, cells, slots⟩ (Value.ref b :: argsL).toArray v B ∧
      ∀ target, Steps p.tables e below (B.U.setTop { g with pc := g.pc + 3, stack := v.toList ++ rest }) target → Steps p.tables e below (T.setTop g) target := by
  obtain ⟨mk, methM, hnamed, hmethM, hstM, habM⟩ := Cond.instanceMethod_spec hinst
  obtain ⟨m8, methM', cM, hn8, hmethM', -, -, -, -, -, -, hsigM⟩ := Cond.codeWith_spec hcode
  cases Option.some.inj (hn8.symm.trans hnamed)
  cases hmethM.symm.trans hmethM'
  obtain ⟨c2, r2, m2, q1, q2, q3, q4, kP, hkP, hkPi⟩ := Cond.selects_spec hsel
  cases hcls.symm.trans q1
  cases (State.methodFound?_of_named hnamed hy).symm.trans q2
  cases hnamed.symm.trans q3
  have hselP : selectMethod e.platform s.vm cellB.cls mk = .method mk := by rw [Launch.admits_selectMethod X.admits]; exact q4
  obtain ⟨vm₁, X₁, hstep₁⟩ := X.invokevirtual hexec hown hlink hnamed hmethM hstM hkP hkPi hy (a := b) (cell := cellB) hcell
    (fun z h => by rw [h] at hobj; cases hobj) hselP hmethM habM hkP hkPi (g := g) hg (argsL := argsL) (rest := rest) (hlen _ hsigM) hstack hdg
  obtain ⟨v, B, X', hpost, hsteps⟩ := hK m meth c ⟨T.setVm vm₁, locs, cells, slots⟩ { g with stack := rest } (.invokevirtual index) mk (Value.ref b :: argsL).toArray X₁ hg hsize hdg hW (X₁.named hnamed) (hpre vm₁ X₁.warmed)
  exact ⟨v, vm₁, B, X₁.warmed, X', hpost, fun target h => hstep₁ _ fun acts => by rw [doInvoke_state]; exact hsteps.trans h⟩
abbrev vx_CVW (R : Room) (s : State) (args : Array Value) (own C : String) (index : Nat) (y : MethodName) (bytes : ByteArray) (maxL : Nat) (ret : Option FieldType) (hh : List (Nat × Nat × Nat × Nat)) (ws : List Cond) (rm : Room) (mc ms n : Nat) : Prop :=
  (rm.cells = mc ∧ rm.slots = ms ∧ rm.frames + 1 ≤ R.frames ∧ 8 + (maxL + 11) + rm.locals ≤ R.locals ∧ (∀ w ∈ ws, ∀ (a' : Array Value) (U : State), s.WarmedH U.vm → w.before a' U = true) ∧ Cond.codeWith y bytes maxL ret hh ∈ ws) ∧
  (Cond.codeWith y bytes maxL ret hh).before args s = true ∧ (Cond.initialized y.cls).before args s = true ∧ (y.cls ≠ "java/lang/invoke/MethodHandle" ∧ y.cls ≠ "java/lang/invoke/VarHandle") ∧
  (∀ sig, parseMethodDescriptor y.desc = some sig → n = sig.parameters.length) ∧ (Cond.methodLink own index y).before args s = true ∧ (Cond.instanceMethod y).before args s = true ∧ (Cond.selects C y y).before args s = true
theorem vx_cwVW {own C : String} {index maxL mc ms : Nat} {y : MethodName} {bytes : ByteArray} {ret : Option FieldType} {hh : List (Nat × Nat × Nat × Nat)} {Ts ws ws' : List Cond} {rm : Room} (n : Nat) (ht : ∀ w ∈ Ts, w.before args s = true) (hT : GoodIn Ts (wsV own index C y ws)) (hw : ws = Cond.codeWith y bytes maxL ret hh :: ws') (hrc : rm.cells = mc) (hrs : rm.slots = ms)
    (hd : y.cls = C ∧ y.cls ≠ "java/lang/invoke/MethodHandle" ∧ y.cls ≠ "java/lang/invoke/VarHandle" ∧ (parseMethodDescriptor y.desc).map (fun d => d.parameters.length) = some n) (hR : rm.frames + 1 ≤ R.frames ∧ 8 + (maxL + 11) + rm.locals ≤ R.locals) :
    vx_CVW R s args own C index y bytes maxL ret hh ws rm mc ms n := by
  obtain ⟨hC, hd⟩ := hd
  subst hC
  have ok : ∀ w ∈ wsV own index y.cls y ws, w.before args s = true := fun w h => ht w (hT w h).1
  have hG : GoodIn Ts ws := fun w h => hT w (by unfold wsV; exact List.mem_append_right _ h)
  have hc : Cond.codeWith y bytes maxL ret hh ∈ ws := by rw [hw]; exact List.mem_cons_self
  refine ⟨⟨hrc, hrs, hR.1, hR.2, pay_in ht hG, hc⟩, ht _ (hG _ hc).1, ok _ (by simp [wsV]), ⟨hd.1, hd.2.1⟩, fun sig h => ?_, ok _ (by simp [wsV]), ok _ (by simp [wsV]), ok _ (by simp [wsV])⟩
  have h2 := hd.2.2
  rw [h] at h2
  exact (Option.some.inj h2).symm
theorem vx_runVW {y : MethodName} {bytes cc : ByteArray} {maxL nL mc ms n index : Nat} {ret : Option FieldType} {hh : List (Nat × Nat × Nat × Nat)} {ws : List Cond} {rm : Room} {Pc : Array Value → State → Prop} {Qc : Array Value → State → Outcome → State → Prop} {free : Addr → Prop} {Ts : List Cond} {own C : String} {b : Addr} {As rest : List Value} {g : JFrame}
    (S : CallFix p m c cc nL s args Ts own) (hM : Met l y ws rm Pc Qc mc ms free) (cw : vx_CVW R s args own C index y bytes maxL ret hh ws rm mc ms n) (hp : PreV s H C b Pc As)
    (hg : g.method = m) (hn : As.length = n) (hsize : g.locals.size = nL) (hstack : g.stack = As.reverse ++ .ref b :: rest) (hW : 2 * g.monitorRoom + (rest.map fun v => v.category).sum ≤ 8) (hdg : decode cc g.pc = .ok (.invokevirtual index, 3)) (hf : cells + mc ≤ R.cells ∧ slots + ms ≤ R.slots) :
    va_Run p l e R s m args below meth c H locs cells slots mc ms g rest (Qc (Value.ref b :: As).toArray) free := by
  obtain ⟨⟨hrc, hrs, hfr, hlo, hws, hcw⟩, hcode, hini, hy, hlen, hl, hin, hse⟩ := cw
  have hK : Back l R p e below s args y 3 8 (PreOf R mc ms Pc) (PostOf Qc mc ms free) := va_backW (hh := hh) (bytes := bytes) (maxL := maxL) (ret := ret) hM hp.1 hrc hrs hfr hlo hws hcw (fun a' U hW => word_at hW (Or.inl (by first | rfl | simp [Cond.onTables, Cond.keeps, Cond.steady])) hini)
  obtain ⟨hx, hb, hml, ho, -⟩ := S
  obtain ⟨-, ⟨cellB, hcB, hoB, hclB⟩, hPc⟩ := hp
  intro T hT X
  obtain ⟨v, vm₁, ⟨U', l2, c2, s2⟩, hW₁, X', ⟨g', mk, t, L, e1, e2, hq, h1, hL, h2, h3⟩, st⟩ := vx_callVW X hx (C := C) (hh := hh) (bytes := bytes) (maxL := maxL) (ret := ret) ho hl hin hse hcode hy hK (by rw [hT]; exact hcB) hoB hclB hg (hsize.trans hml.symm) (argsL := As) (rest := rest) (fun sig h => hn.trans (hlen sig h)) hstack hW (by rw [hb]; exact hdg)
    (fun vm₁ hW₁ => ⟨hf.1, hf.2, hPc (T.setVm vm₁) hT hW₁⟩)
  dsimp only [Pt.U, Pt.locs, Pt.cells, Pt.slots] at X' e1 e2 h1 h2 h3 st
  subst h1; subst h2; subst h3
  exact ⟨v, (T.setVm vm₁).calling g' mk (Value.ref b :: As).toArray, t, U', L, hT, X', hL, e1, e2, hq, st⟩
section
variable {y : MethodName} {bytes cc : ByteArray} {maxL nL mc ms n index : Nat} {ret : Option FieldType} {ws : List Cond} {rm : Room} {Pc : Array Value → State → Prop} {Qc : Array Value → State → Outcome → State → Prop} {XC : String → State → State → Prop} {free : Addr → Prop} {Ts : List Cond} {own C : String} {b : Addr} {As rest : List Value} {g : JFrame}
theorem vx_runVX {hh : List (Nat × Nat × Nat × Nat)} (S : CallFix p m c cc nL s args Ts own) (hM : vx_Met l y ws rm Pc Qc XC mc ms free) (cw : vx_CVW R s args own C index y bytes maxL ret hh ws rm mc ms n) (hp : PreV s H C b Pc As)
    (hg : g.method = m) (hn : As.length = n) (hsize : g.locals.size = nL) (hstack : g.stack = As.reverse ++ .ref b :: rest) (hW : 2 * g.monitorRoom + (rest.map fun v => v.category).sum ≤ 8) (hdg : decode cc g.pc = .ok (.invokevirtual index, 3)) (hf : cells + mc ≤ R.cells ∧ slots + ms ≤ R.slots) :
    vx_Run p l e R s m args below meth c H locs cells slots mc ms g rest (Qc (Value.ref b :: As).toArray) XC free := by
  obtain ⟨⟨hrc, hrs, hfr, hlo, hws, hcw⟩, hcode, hini, hy, hlen, hl, hin, hse⟩ := cw
  have hK : vx_Back l R p e below s args y 3 8 (PreOf R mc ms Pc) (PostOf Qc mc ms free) (vx_Post XC mc ms free) := vx_backW (hh := hh) (bytes := bytes) (maxL := maxL) (ret := ret) hM hp.1 hrc hrs hfr hlo hws hcw (fun a' U hW => word_at hW (Or.inl (by first | rfl | simp [Cond.onTables, Cond.keeps, Cond.steady])) hini)
  obtain ⟨hx, hb, hml, ho, -⟩ := S
  obtain ⟨-, ⟨cellB, hcB, hoB, hclB⟩, hPc⟩ := hp
  intro T hT X
  rcases vx_callVX X hx (C := C) (hh := hh) (bytes := bytes) (maxL := maxL) (ret := ret) ho hl hin hse hcode hy hK (by rw [hT]; exact hcB) hoB hclB hg (hsize.trans hml.symm) (argsL := As) (rest := rest) (fun sig h => hn.trans (hlen sig h)) hstack hW (by rw [hb]; exact hdg)
    (fun vm₁ hW₁ => ⟨hf.1, hf.2, hPc (T.setVm vm₁) hT hW₁⟩) with ⟨v, vm₁, ⟨U', l2, c2, s2⟩, hW₁, X', ⟨g', mk, t, L, e1, e2, hq, h1, hL, h2, h3⟩, st⟩ | ⟨q, vm₁, ⟨U', l2, c2, s2⟩, hW₁, X', ⟨g', mk, t, L, E, ce, e1, e2, hq, hce, hcv, hcl, h1, hL, h2, h3⟩, st⟩
  · dsimp only [Pt.U, Pt.locs, Pt.cells, Pt.slots] at X' e1 e2 h1 h2 h3 st
    subst h1; subst h2; subst h3
    exact Or.inl ⟨v, (T.setVm vm₁).calling g' mk (Value.ref b :: As).toArray, t, U', L, hT, X', hL, e1, e2, hq, st⟩
  · dsimp only [Pt.U, Pt.locs, Pt.cells, Pt.slots] at X' e1 e2 h1 h2 h3 st hcl
    subst h1; subst h2; subst h3
    exact Or.inr ⟨q, (T.setVm vm₁).calling g' mk (Value.ref b :: As).toArray, t, U', L, E, ce, hT, X', hL, e1, e2, hq, hce, hcv, vx_cls hW₁ hcl, st⟩
theorem vx_runSX {hh : List (Nat × Nat × Nat × Nat)} (S : CallFix p m c cc nL s args Ts own) (hM : vx_Met l y ws rm Pc Qc XC mc ms free) (cw : vx_CSW R s args own index y bytes maxL ret hh ws rm mc ms n) (hp : PreS s H Pc As)
    (hg : g.method = m) (hn : As.length = n) (hsize : g.locals.size = nL) (hstack : g.stack = As.reverse ++ rest) (hW : 2 * g.monitorRoom + (rest.map fun v => v.category).sum ≤ 8) (hdg : decode cc g.pc = .ok (.invokestatic index, 3)) (hf : cells + mc ≤ R.cells ∧ slots + ms ≤ R.slots) :
    vx_Run p l e R s m args below meth c H locs cells slots mc ms g rest (Qc As.toArray) XC free := by
  obtain ⟨⟨hrc, hrs, hfr, hlo, hws, hcw⟩, hcode, hini, hy, hlen, hl, hstt⟩ := cw
  have hK : vx_Back l R p e below s args y 3 8 (PreOf R mc ms Pc) (PostOf Qc mc ms free) (vx_Post XC mc ms free) := vx_backW (hh := hh) (bytes := bytes) (maxL := maxL) (ret := ret) hM hp.1 hrc hrs hfr hlo hws hcw (fun a' U hW => word_at hW (Or.inl (by first | rfl | simp [Cond.onTables, Cond.keeps, Cond.steady])) hini)
  obtain ⟨hx, hb, hml, ho, -⟩ := S
  intro T hT X
  rcases vx_callSX X hx (hh := hh) (bytes := bytes) (maxL := maxL) (ret := ret) ho hl hstt hini hcode hy hK hg (hsize.trans hml.symm) (argsL := As) (rest := rest) (fun sig h => hn.trans (hlen sig h)) hstack hW (by rw [hb]; exact hdg)
    (fun vm₁ hW₁ => ⟨hf.1, hf.2, hp.2 (T.setVm vm₁) hT hW₁⟩) with ⟨v, vm₁, ⟨U', l2, c2, s2⟩, hW₁, X', ⟨g', mk, t, L, e1, e2, hq, h1, hL, h2, h3⟩, st⟩ | ⟨q, vm₁, ⟨U', l2, c2, s2⟩, hW₁, X', ⟨g', mk, t, L, E, ce, e1, e2, hq, hce, hcv, hcl, h1, hL, h2, h3⟩, st⟩
  · dsimp only [Pt.U, Pt.locs, Pt.cells, Pt.slots] at X' e1 e2 h1 h2 h3 st
    subst h1; subst h2; subst h3
    exact Or.inl ⟨v, (T.setVm vm₁).calling g' mk As.toArray, t, U', L, hT, X', hL, e1, e2, hq, st⟩
  · dsimp only [Pt.U, Pt.locs, Pt.cells, Pt.slots] at X' e1 e2 h1 h2 h3 st hcl
    subst h1; subst h2; subst h3
    exact Or.inr ⟨q, (T.setVm vm₁).calling g' mk As.toArray, t, U', L, E, ce, hT, X', hL, e1, e2, hq, hce, hcv, vx_cls hW₁ hcl, st⟩
end
end VXH
theorem vx_ofWH {l : Launch} {y : MethodName} {ws ws' : List Cond} {rm : Room} {Pc : Array Value → State → Prop} {Qc : Array Value → State → Outcome → State → Prop} {XC : String → State → State → Prop} {mc ms : Nat} {free : Addr → Prop} {cc : ByteArray} {maxL : Nat} {ret : Option FieldType} {hh : List (Nat × Nat × Nat × Nat)}
    (hy : plainName y.cls = true) (hw : ws = Cond.codeWith y cc maxL ret hh :: ws')
    (body : ∀ p e s m args below meth c s₁, BodyLoose p l y (headSpec ws rm) cc maxL ret e s m args below meth c s₁ → c.maxLocals = maxL → Pc args s →
      W p l e (headSpec ws rm).room s m args below meth c s.heap [] 0 0 (vx_MQ below Qc XC args s mc ms free) (entryFrame m args maxL)) : vx_Met l y ws rm Pc Qc XC mc ms free := by
  refine MetFree.of_bodyS (code := cc) (maxLocals := maxL) (ret := ret) hy ?_ ?_
  · intro args s m h hn
    obtain ⟨m9, meth, c, hn9, h1, h2, h3, h4, -, h5, h6, -⟩ := Cond.codeWith_spec (atoms_spec (ws := ws) h _ (by rw [hw]; exact List.mem_cons_self))
    cases hn.symm.trans hn9
    exact ⟨meth, c, h1, h2, h3, h4, h5, h6⟩
  · intro p e s m args below meth c s₁ B hml hP _
    have hh0 : s₁.heap = s.heap := by rw [B.state]; rfl
    obtain ⟨t, a1, o, b1, b2, b3⟩ := body p e s m args below meth c s₁ B hml hP s₁ hh0 (Stand.of_body B)
    exact ⟨t, o, a1, b1, b2, b3⟩
/-! ===== END ===== -/

/-! ===== BEGIN what the machine throws by itself, no traces kept ===== -/
section VXM
set_option maxHeartbeats 1000000 in
/-- the machine throws cls with the message text, no traces kept: from its note over the frame g to 'throwing' over the same frame (follows the proofs of Stand.vmThrowsMessage, Shelf/KitTracedVmS.lean, and Stand.throwsMessageColdBareV, StandMessageColdV.lean, without the step out of the frame) -/
theorem vx_vmAt {p : Program} {l : Launch} {e : Env} {R : Room} {s : State} {m₀ : MethodId} {args : Array Value} {below : List Frame} {meth : Method} {c : Code} {W : State} {locs : List Loc} {cells slots : Nat}
    (X : Stand p l e R s m₀ args below meth c W locs cells slots) (hexec : p.tables.exec = Jvm.exec) (htr : e.platform.stackTraces = false) {cls : String} {names : List String} {text : String}
    (hcls : Bundle.fit cls = true) (hnames : ∀ n ∈ names, Bundle.fit n = true) (hsoe : (cls == "java/lang/StackOverflowError") = false) (hoom : (cls == "java/lang/OutOfMemoryError") = false)
    (h : ∀ a ∈ Bundle.messageArmAtoms cls names, a.before args s = true)
    (hlocs : ∀ x ∈ locs, ∀ cell, s.heap[x.base]? = some cell → cell.vm.isStatics = false)
    (htext : (text == notModelled) = false) (hlimit : ¬ (stringBytes (stringToUtf16 text)).size > e.platform.arrayLengthLimit) (hheap : ¬ (stringBytes (stringToUtf16 text)).size * componentBytes .byte > e.platform.maxHeapBytes)
    {g : JFrame} (hg : g.method = m₀) (hsize : g.locals.size = c.maxLocals)
    (hRframes : names.length + 4 < R.frames) (hRlocals : 2 * g.monitorRoom + (g.stack.map fun v => v.category).sum + 10240 ≤ R.locals) (hshort : 13 * names.length + 55 ≤ 10240)
    (hRcells : cells + 3 ≤ R.cells) (hRslots : slots + ((stringBytes (stringToUtf16 text)).size + 4 + 6) ≤ R.slots) (hlocks : meth.locks = false) :
    ∃ (S : State) (q : Addr) (ce : Cell), (∀ target, Steps p.tables e below ((S.setTop g).pushFrame (.throwing q)) target → Steps p.tables e below ((W.setTop g).pushFrame (.throwNew cls (some text) none)) target) ∧
      Stand p l e R s m₀ args below meth c S locs (cells + 3) (slots + ((stringBytes (stringToUtf16 text)).size + 4 + 6)) ∧ S.heap[q]? = some ce ∧ s.vm.findClass cls = some ce.cls ∧ ce.vm = .none := by
  have howns : e.platform.frameOwnsMonitors = true := by rw [X.admits.platform]
  have hfin : e.platform.finalization = false := by rw [X.admits.platform]
  have hpl : e.platform.magicAccessors = ({} : Platform).magicAccessors := by rw [X.admits.platform]
  have a : ∀ x, x ∈ Bundle.messageArmAtoms cls names → x.holds args s none s [] = true := fun x hx => h x hx
  obtain ⟨T, Z0, L, -, Y⟩ := ThrowableC.of_atoms (args := args) howns hfin hpl (fun x hx => h x (by simp [Bundle.messageArmAtoms, hx]))
  obtain ⟨Z, M, LZ, LM, hnZ⟩ := Init0T.ofS_atoms (args := args) hpl L Y (fun x hx => h x (by simp [Bundle.messageArmAtoms, hx]))
  obtain ⟨P1, Ps, hlen, L1, hL, hP1m, hlink1, hlink⟩ := Bundle.chainS (args := args) hpl hnZ names cls hcls hnames (fun x hx => h x (by simp [Bundle.messageArmAtoms, hx]))
  obtain ⟨Zs, LZs, hn4, hfitv, hfitc⟩ := StringT.of_atoms (args := args) (fun x hx => h x (by simp [Bundle.messageArmAtoms, hx]))
  have hfound : s.vm.findClass cls = some P1.m.cls := findClass_of_methodNamed hP1m
  obtain ⟨c1, kX, hc1, hk, hord, -, -, hn6⟩ := Cond.instantiable_spec (a (.instantiable cls 6) (by simp [Bundle.messageArmAtoms]))
  cases Option.some.inj (hc1.symm.trans hfound)
  have hinit := Cond.initialized_spec hfound hk (a (.initialized cls) (by simp [Bundle.messageArmAtoms]))
  have hctor : kX.findMethod "<init>" "(Ljava/lang/String;)V" = some P1.m.idx := findMethod_of_methodNamed hP1m hk
  have hsel0 : selectMethod e.platform s.vm P1.m.cls T.fill0 = .method T.fill0 := by
    obtain ⟨c2, r2, m2, q1, q2, q3, q4, -⟩ := Cond.selects_spec (a (.selects cls Bundle.tFill0 Bundle.tFill0) (by simp [Bundle.messageArmAtoms]))
    cases Option.some.inj (q1.symm.trans hfound)
    cases Option.some.inj (q2.symm.trans (State.methodFound?_of_named Y.fill0 (by decide)))
    cases Option.some.inj (q3.symm.trans Y.fill0)
    rw [Launch.admits_selectMethod X.admits]; exact q4
  have hselF : selectMethod e.platform s.vm P1.m.cls T.fill = .method T.fill := by
    obtain ⟨c2, r2, m2, q1, q2, q3, q4, -⟩ := Cond.selects_spec (a (.selects cls Bundle.tFill Bundle.tFill) (by simp [Bundle.messageArmAtoms]))
    cases Option.some.inj (q1.symm.trans hfound)
    cases Option.some.inj (q2.symm.trans (State.methodFound?_of_named Y.fill (by decide)))
    cases Option.some.inj (q3.symm.trans Y.fill)
    rw [Launch.admits_selectMethod X.admits]; exact q4
  obtain ⟨cellS0, hcS0, hiss⟩ := Y.statics
  obtain ⟨u0, hu0⟩ := Cond.staticRefV Y.unassigned L.unassignedStatic L.statics hcS0 hiss (a (.isRef (.static Bundle.tN "UNASSIGNED_STACK" Bundle.steD)) (by simp [Bundle.messageArmAtoms]))
  obtain ⟨sen, hsen⟩ := Cond.staticRefV Y.sentinel L.sentinelStatic L.statics hcS0 hiss (a (.isRef (.static Bundle.tN "SUPPRESSED_SENTINEL" Bundle.listD)) (by simp [Bundle.messageArmAtoms]))
  obtain ⟨ci198, i198, fB, hk198, hg198, ha198, hsB, -, hnB, htB, hffB⟩ := Cond.ownField (t := .object "java/lang/Object") Y.found L.cls (by decide +kernel) (a (.fieldLink Bundle.tN 198 Bundle.tN "backtrace" "Ljava/lang/Object;") (by simp [Bundle.messageArmAtoms])) (a (.lays Bundle.tN Bundle.tN "backtrace" "Ljava/lang/Object;") (by simp [Bundle.messageArmAtoms])) e.platform hpl
  obtain ⟨cellS, hcS', heS, -, hkeep⟩ := X.same.2.2.2.2.2 T.aS cellS0 hcS0
  have hcellS : W.heap[T.aS]? = some cellS := hcS'
  have hout' : ∀ i, (⟨T.aS, i⟩ : Loc) ∉ locs := fun i hmem => by
    have := hlocs _ hmem cellS0 hcS0
    rw [hiss] at this; cases this
  have hknownS : cellS.vm ≠ .unknown := by
    rw [heS]; intro hu
    rw [show cellS0.vm = .unknown from hu] at hiss
    cases hiss
  have hvU : cellS.slots[T.fUnassigned.slot]? = some u0.v := by rw [hkeep _ (hout' _)]; exact hu0
  have hvSen : cellS.slots[T.fSentinel.slot]? = some sen.v := by rw [hkeep _ (hout' _)]; exact hsen
  obtain ⟨iM, hffM⟩ := Y.msg
  obtain ⟨tyC, dC, hdC, hdnC⟩ := Cond.laysAt hfound hk Y.cause (a (.lays cls Bundle.tN "cause" "Ljava/lang/Throwable;") (by simp [Bundle.messageArmAtoms]))
  obtain ⟨tyS, dS, hdS, hdnS⟩ := Cond.laysAt hfound hk Y.stack (a (.lays cls Bundle.tN "stackTrace" Bundle.steD) (by simp [Bundle.messageArmAtoms]))
  obtain ⟨tyP, dP, hdP, hdnP⟩ := Cond.laysAt hfound hk Y.supp (a (.lays cls Bundle.tN "suppressedExceptions" Bundle.listD) (by simp [Bundle.messageArmAtoms]))
  obtain ⟨tyM, dM, hdM, hdnM⟩ := Cond.laysAt hfound hk hffM (a (.lays cls Bundle.tN "detailMessage" "Ljava/lang/String;") (by simp [Bundle.messageArmAtoms]))
  obtain ⟨tyB, dB, hdB, hdnB⟩ := Cond.laysAt hfound hk hffB (a (.lays cls Bundle.tN "backtrace" "Ljava/lang/Object;") (by simp [Bundle.messageArmAtoms]))
  have bC := Cond.laysApart hdB hdC hdnB hdnC (by rw [hnB, Y.causeName]; decide)
  have bS := Cond.laysApart hdB hdS hdnB hdnS (by rw [hnB, Y.stackName]; decide)
  have bP := Cond.laysApart hdB hdP hdnB hdnP (by rw [hnB, Y.suppName]; decide)
  have hbk : ((preparedCellV T.toThrowableT (freshCell P1.m.cls kX) (W.heap.size + 2) u0 sen).withEntry W.cur).slots[fB.slot]? = some .null := by
    have := fresh_default (c := P1.m.cls) tyB
    rw [htB] at this
    simpa [preparedCellV, Cell.setSlot, Cell.withEntry, Array.getElem?_setIfInBounds, bC, bS, bP, bC.symm, bS.symm, bP.symm, defaultValue] using this
  have tkC := Takes.of_laid (v := .ref (W.heap.size + 2)) hk hord tyC (by rw [Y.causeType]; rfl)
  have tkS := Takes.of_laid (v := u0.v) hk hord tyS (by rw [Y.stackType]; exact fits_refV_array _ u0)
  have tkP := Takes.of_laid (v := sen.v) hk hord tyP (by rw [Y.suppType]; exact fits_refV_object _ sen)
  have tkM := Takes.of_laid (v := .ref (W.heap.size + 1)) hk hord tyM (by rw [Y.msgType]; rfl)
  have hskip : SkipFacts T e.platform s (fun u => u) u0 ((preparedCellV T.toThrowableT (freshCell P1.m.cls kX) (W.heap.size + 2) u0 sen).withEntry W.cur) := ⟨{ ci198 := ci198, i198 := i198, fBack := fB }, ⟨hk198, hg198, ha198, hsB⟩, hbk, fun _ _ => rfl⟩
  have h0 : At W g.method c below := by rw [hg]; exact X.here
  obtain ⟨hbeyond, hfreeW⟩ := X.vmMayThrow hsize (.throwNew cls (some text) none) (fun f hf => by cases hf) rfl hRlocals
  have hfr' : W.frames.length + Ps.length + 4 < (e.platform.stackLimits W.me).1 := by have := X.framesAbove hRframes; omega
  have hwd' : (stackUse (.java g :: W.frames.tail)).2 + 13 * Ps.length + 55 ≤ (e.platform.stackLimits W.me).2 := by have := X.stackAbove hsize (K := 13 * Ps.length + 55) (by omega); omega
  have hslots : W.slotsUsed + (stringBytes (stringToUtf16 text)).size + Zs.kS.instanceTypes.size + kX.instanceTypes.size ≤ e.platform.maxSlots := by
    have := X.slotsAbove hRslots
    rw [hn4, hn6]
    omega
  obtain ⟨vm', hW', st⟩ := Steps.vmThrowsMessageColdByV p (s₀ := s) (S := W) (g := g) h0 hexec T L Z LZ M LM X.warmed (t := W.cur) rfl Zs LZs P1 L1 Ps hL hlink1 hlink hsoe hoom hfound hk hinit hord hctor
    (Launch.admits_hotImplicitExceptions X.admits) hbeyond hfreeW htext hlimit hheap (X.cellsAbove hRcells) hslots (hfitv _) (hfitc _)
    (Nn := fun u => u) heapOnly_id (fun _ _ => rfl) (fun _ => rfl) (fun u x y => setCell_twice _ _ _ _) (fun _ => Nat.le_refl _) (cN := ((preparedCellV T.toThrowableT (freshCell P1.m.cls kX) (W.heap.size + 2) u0 sen).withEntry W.cur))
    hsel0 hcellS hknownS hvU tkS (fun _ hu => hu) (fun _ hu => hu) rfl rfl rfl (by simp [preparedCellV, Cell.setSlot, Cell.withEntry]) hskip (fun _ _ hA hW _ hroom _ hrest => L.nativeOff p htr hA hW hroom hrest) hselF hvSen tkC tkP tkM Y.objLocals rfl hfr' hwd'
  rw [plainBareV_eq T.toThrowableT (W.heap.size + 2) u0 sen (.ref (W.heap.size + 1)) W.cur rfl rfl] at st
  obtain ⟨-, -, w3, w4, -, -, -⟩ := withThrown_facts e.platform W Zs text P1.m.cls kX
  have X3 := ((X.pushed (bytesOf Zs.cB (stringToUtf16 text))).pushed (stringAt Zs.cS Zs.kS Zs.fv Zs.fc (stringToUtf16 text) W.heap.size)).pushed (freshCell P1.m.cls kX)
  rw [← withString_eq] at X3
  have X4 := X3.noted hW'
  have ha : (W.heap.size + 2) < ((withThrown W Zs text P1.m.cls kX).setVm vm').heap.size := by show _ < (withThrown W Zs text P1.m.cls kX).heap.size; rw [w3]; omega
  have hcell : ((withThrown W Zs text P1.m.cls kX).setVm vm').heap[(W.heap.size + 2)]? = some (freshCell P1.m.cls kX) := w4
  have X5 := ((((X4.stored hcell T.fCause.slot (.ref (W.heap.size + 2))).storedAgain ha T.fStack.slot u0.v).storedAgain ha T.fSupp.slot sen.v).storedAgain ha T.fStack.slot u0.v).storedAgain ha T.fMsg.slot (.ref (W.heap.size + 1))
  obtain ⟨g₁, hfrM⟩ := X5.frames_eq
  have hU : ((((withThrown W Zs text P1.m.cls kX).setVm vm').setCell (W.heap.size + 2) (plainBareV T.toThrowableT (freshCell P1.m.cls kX) (W.heap.size + 2) u0 sen (.ref (W.heap.size + 1)))).setTop g).pushFrame (.throwing (W.heap.size + 2)) = (((withThrown W Zs text P1.m.cls kX).setVm vm').setCell (W.heap.size + 2) (plainBareV T.toThrowableT (freshCell P1.m.cls kX) (W.heap.size + 2) u0 sen (.ref (W.heap.size + 1)))).setFrames (.throwing (W.heap.size + 2) :: .java g :: below) := by
    rw [State.pushFrame, State.frames_setTop _ hfrM, State.setTop_of_frames _ hfrM, State.setFrames_setFrames]
  have b1 : (bytesOf Zs.cB (stringToUtf16 text)).slots.size = (stringBytes (stringToUtf16 text)).size := by
    rw [(Cell.writeAll_facts _ _).2.2]; simp [bytes0]
  have b2 : (stringAt Zs.cS Zs.kS Zs.fv Zs.fc (stringToUtf16 text) W.heap.size).slots.size = 4 := by simp [string0, Cell.setSlot, hn4]
  have b3 : (freshCell P1.m.cls kX).slots.size = 6 := by simp [hn6]
  rw [b1, b2, b3] at X5
  have e9 : slots + (stringBytes (stringToUtf16 text)).size + 4 + 6 = slots + ((stringBytes (stringToUtf16 text)).size + 4 + 6) := by omega
  rw [e9] at X5
  simp only [List.append_assoc, List.cons_append, List.nil_append] at X5
  refine ⟨((withThrown W Zs text P1.m.cls kX).setVm vm').setCell (W.heap.size + 2) (plainBareV T.toThrowableT (freshCell P1.m.cls kX) (W.heap.size + 2) u0 sen (.ref (W.heap.size + 1))), W.heap.size + 2, _, fun target ht => st _ (by rw [X.tail, ← hU]; exact ht),
    X5.forget (fun y hy => ?_), heapAt_setCell_self _ ha, hfound, rfl⟩
  simp only [List.mem_cons, List.not_mem_nil, or_false] at hy
  have hge : s.heap.size ≤ W.heap.size := X.same.2.1
  rcases hy with rfl | rfl | rfl | rfl | rfl <;> exact Nat.le_trans hge (Nat.le_add_right _ 2)
set_option maxHeartbeats 1000000 in
/-- the machine throws NullPointerException, no traces kept: from its note over the frame g to 'throwing' over the same frame (follows the proof of Stand.vmThrowsNpe, Shelf42/KT2.lean; throwsNpeColdBareVAt, Shelf42/NT91.lean, called) -/
theorem vx_npeAt {p : Program} {l : Launch} {e : Env} {R : Room} {s : State} {m₀ : MethodId} {args : Array Value} {below : List Frame} {meth : Method} {c : Code} {W : State} {locs : List Loc} {cells slots : Nat}
    (X : Stand p l e R s m₀ args below meth c W locs cells slots) (hexec : p.tables.exec = Jvm.exec) (htr : e.platform.stackTraces = false) {n : Nat}
    (h : ∀ a ∈ Bundle.npeArmAtoms n, a.before args s = true)
    (hlocs : ∀ x ∈ locs, ∀ cell, s.heap[x.base]? = some cell → cell.vm.isStatics = false)
    {g : JFrame} (hg : g.method = m₀) (hsize : g.locals.size = c.maxLocals)
    (hRframes : 7 < R.frames) (hRlocals : 2 * g.monitorRoom + (g.stack.map fun v => v.category).sum + 10240 ≤ R.locals)
    (hRcells : cells + 1 ≤ R.cells) (hRslots : slots + n ≤ R.slots) (hlocks : meth.locks = false) :
    ∃ (S : State) (q : Addr) (ce : Cell), (∀ target, Steps p.tables e below ((S.setTop g).pushFrame (.throwing q)) target → Steps p.tables e below ((W.setTop g).pushFrame (.throwNew "java/lang/NullPointerException" none none)) target) ∧
      Stand p l e R s m₀ args below meth c S locs (cells + 1) (slots + n) ∧ S.heap[q]? = some ce ∧ s.vm.findClass "java/lang/NullPointerException" = some ce.cls ∧ ce.vm = .none := by
  have howns : e.platform.frameOwnsMonitors = true := by rw [X.admits.platform]
  have hfin : e.platform.finalization = false := by rw [X.admits.platform]
  have hpl : e.platform.magicAccessors = ({} : Platform).magicAccessors := by rw [X.admits.platform]
  have hpl2 : e.platform.arrayCloneIsPublic = true := by rw [X.admits.platform]
  have a' : ∀ x, x ∈ Bundle.npeArmAtoms n → x.holds args s none s [] = true := fun x hx => h x hx
  obtain ⟨T, Z, L, LZ, Y⟩ := ThrowableC.of_atoms (args := args) howns hfin hpl (fun x hx => h x (by simp [Bundle.npeArmAtoms, hx]))
  obtain ⟨N, LN, hcN, hnNF, hordN, hffS⟩ := NpeC.of_atoms (args := args) hpl hpl2 L Y (fun x hx => h x (by simp [Bundle.npeArmAtoms, hx]))
  obtain ⟨P1, L1, hP1m, hP1s⟩ := PassC.of_atoms (args := args) (s := s) hpl (X := Bundle.nN) (Y := Bundle.rN) (by decide) (by decide) LibCode.NullPointerException.Init0.at_0 LibCode.NullPointerException.Init0.at_1 LibCode.NullPointerException.Init0.at_4 (fun x hx => h x (by simp [Bundle.npeArmAtoms, hx]))
  obtain ⟨PR, LR, hPRm, hPRs⟩ := PassC.of_atoms (args := args) (s := s) hpl (X := Bundle.rN) (Y := Bundle.eN) (by decide) (by decide) LibCode.RuntimeException.Init0.at_0 LibCode.RuntimeException.Init0.at_1 LibCode.RuntimeException.Init0.at_4 (fun x hx => h x (by simp [Bundle.npeArmAtoms, hx]))
  obtain ⟨PE, LEx, hPEm, hPEs⟩ := PassC.of_atoms (args := args) (s := s) hpl (X := Bundle.eN) (Y := Bundle.tN) (by decide) (by decide) LibCode.Exception.Init0.at_0 LibCode.Exception.Init0.at_1 LibCode.Exception.Init0.at_4 (fun x hx => h x (by simp [Bundle.npeArmAtoms, hx]))
  have hfound : s.vm.findClass Bundle.nN = some P1.m.cls := findClass_of_methodNamed hP1m
  have ecls : N.cN = P1.m.cls := Option.some.inj (hcN.symm.trans hfound)
  have hk : s.vm.classes[P1.m.cls]? = some N.kN := by rw [← ecls]; exact LN.cls
  have hinit := Cond.initialized_spec hfound hk (a' (.initialized Bundle.nN) (by simp [Bundle.npeArmAtoms]))
  have hctor : N.kN.findMethod "<init>" "()V" = some P1.m.idx := findMethod_of_methodNamed hP1m hk
  obtain ⟨c1, k1, hc1, hk1, -, -, -, hn⟩ := Cond.instantiable_spec (a' (.instantiable Bundle.nN n) (by simp [Bundle.npeArmAtoms]))
  cases Option.some.inj (hc1.symm.trans hfound)
  cases Option.some.inj (hk1.symm.trans hk)
  have hfsz : (freshCell P1.m.cls N.kN).slots.size = n := by simp [hn]
  have hlink1 : P1.sup = PR.m := Option.some.inj (hP1s.symm.trans hPRm)
  have hlinkR : PR.sup = PE.m := Option.some.inj (hPRs.symm.trans hPEm)
  have hlinkE : PE.sup = Z.m T.toThrowableT := Option.some.inj (hPEs.symm.trans Y.init0)
  have hLs : ∀ P, P ∈ [PR, PE] → P.Links0 e.platform s := fun P hP => by
    simp only [List.mem_cons, List.not_mem_nil, or_false] at hP
    rcases hP with rfl | rfl
    · exact LR
    · exact LEx
  have hsel0 : selectMethod e.platform s.vm P1.m.cls T.fill0 = .method T.fill0 := by
    obtain ⟨c2, r2, m2, q1, q2, q3, q4, -⟩ := Cond.selects_spec (a' (.selects Bundle.nN Bundle.tFill0 Bundle.tFill0) (by simp [Bundle.npeArmAtoms]))
    cases Option.some.inj (q1.symm.trans hfound)
    cases Option.some.inj (q2.symm.trans (State.methodFound?_of_named Y.fill0 (by decide)))
    cases Option.some.inj (q3.symm.trans Y.fill0)
    rw [Launch.admits_selectMethod X.admits]; exact q4
  have hselF : selectMethod e.platform s.vm P1.m.cls T.fill = .method N.fill := by
    obtain ⟨c2, r2, m2, q1, q2, q3, q4, -⟩ := Cond.selects_spec (a' (.selects Bundle.nN Bundle.tFill Bundle.nFill) (by simp [Bundle.npeArmAtoms]))
    cases Option.some.inj (q1.symm.trans hfound)
    cases Option.some.inj (q2.symm.trans (State.methodFound?_of_named Y.fill (by decide)))
    cases Option.some.inj (q3.symm.trans hnNF)
    rw [Launch.admits_selectMethod X.admits]; exact q4
  obtain ⟨cellS0, hcS0, hiss⟩ := Y.statics
  obtain ⟨u0, hu0⟩ := Cond.staticRefV Y.unassigned L.unassignedStatic L.statics hcS0 hiss (a' (.isRef (.static Bundle.tN "UNASSIGNED_STACK" Bundle.steD)) (by simp [Bundle.npeArmAtoms]))
  obtain ⟨sen, hsen⟩ := Cond.staticRefV Y.sentinel L.sentinelStatic L.statics hcS0 hiss (a' (.isRef (.static Bundle.tN "SUPPRESSED_SENTINEL" Bundle.listD)) (by simp [Bundle.npeArmAtoms]))
  obtain ⟨ci198, i198, fB, hk198, hg198, ha198, hsB, -, hnB, htB, hffB⟩ := Cond.ownField (t := .object "java/lang/Object") Y.found L.cls (by decide +kernel) (a' (.fieldLink Bundle.tN 198 Bundle.tN "backtrace" Bundle.objD) (by simp [Bundle.npeArmAtoms])) (a' (.lays Bundle.tN Bundle.tN "backtrace" Bundle.objD) (by simp [Bundle.npeArmAtoms])) e.platform hpl
  obtain ⟨cellS, hcS', heS, -, hkeep⟩ := X.same.2.2.2.2.2 T.aS cellS0 hcS0
  have hcellS : W.heap[T.aS]? = some cellS := hcS'
  have hout' : ∀ i, (⟨T.aS, i⟩ : Loc) ∉ locs := fun i hmem => by
    have := hlocs _ hmem cellS0 hcS0
    rw [hiss] at this; cases this
  have hknownS : cellS.vm ≠ .unknown := by
    rw [heS]; intro hu
    rw [show cellS0.vm = .unknown from hu] at hiss
    cases hiss
  have hvU : cellS.slots[T.fUnassigned.slot]? = some u0.v := by rw [hkeep _ (hout' _)]; exact hu0
  have hvSen : cellS.slots[T.fSentinel.slot]? = some sen.v := by rw [hkeep _ (hout' _)]; exact hsen
  obtain ⟨tyC, dC, hdC, hdnC⟩ := Cond.laysAt hfound hk Y.cause (a' (.lays Bundle.nN Bundle.tN "cause" "Ljava/lang/Throwable;") (by simp [Bundle.npeArmAtoms]))
  obtain ⟨tyS, dS, hdS, hdnS⟩ := Cond.laysAt hfound hk Y.stack (a' (.lays Bundle.nN Bundle.tN "stackTrace" Bundle.steD) (by simp [Bundle.npeArmAtoms]))
  obtain ⟨tyP, dP, hdP, hdnP⟩ := Cond.laysAt hfound hk Y.supp (a' (.lays Bundle.nN Bundle.tN "suppressedExceptions" Bundle.listD) (by simp [Bundle.npeArmAtoms]))
  obtain ⟨tyX, dX, hdX, hdnX⟩ := Cond.laysAt hfound hk hffS (a' (.lays Bundle.nN Bundle.nN "extendedMessageState" "I") (by simp [Bundle.npeArmAtoms, Bundle.npeAtoms]))
  obtain ⟨hnX, htX⟩ := State.fieldFound?_type hffS (t := .int) (by decide +kernel)
  have xC := Cond.laysApart hdC hdX hdnC hdnX (by rw [hnX, Y.causeName]; decide)
  have xS := Cond.laysApart hdS hdX hdnS hdnX (by rw [hnX, Y.stackName]; decide)
  have xP := Cond.laysApart hdP hdX hdnP hdnX (by rw [hnX, Y.suppName]; decide)
  have hv0 : (freshCell P1.m.cls N.kN).slots[N.fState.slot]? = some (.int 0) := by
    have := fresh_default (c := P1.m.cls) tyX
    rw [htX] at this; exact this
  obtain ⟨tyB, dB, hdB, hdnB⟩ := Cond.laysAt hfound hk hffB (a' (.lays Bundle.nN Bundle.tN "backtrace" Bundle.objD) (by simp [Bundle.npeArmAtoms]))
  have bC := Cond.laysApart hdB hdC hdnB hdnC (by rw [hnB, Y.causeName]; decide)
  have bS := Cond.laysApart hdB hdS hdnB hdnS (by rw [hnB, Y.stackName]; decide)
  have bP := Cond.laysApart hdB hdP hdnB hdnP (by rw [hnB, Y.suppName]; decide)
  have bX := Cond.laysApart hdB hdX hdnB hdnX (by rw [hnB, hnX]; decide)
  have hbk : ((npeCell N.toNpeT (preparedCellV T.toThrowableT (freshCell P1.m.cls N.kN) W.heap.size u0 sen) W.cur).withEntry W.cur).slots[fB.slot]? = some .null := by
    have := fresh_default (c := P1.m.cls) tyB
    rw [htB] at this
    simpa [npeCell, preparedCellV, Cell.setSlot, Cell.withEntry, Array.getElem?_setIfInBounds, bC, bS, bP, bX, bC.symm, bS.symm, bP.symm, bX.symm, defaultValue] using this
  have tkC := Takes.of_laid (v := .ref W.heap.size) hk hordN tyC (by rw [Y.causeType]; rfl)
  have tkS := Takes.of_laid (v := u0.v) hk hordN tyS (by rw [Y.stackType]; exact fits_refV_array _ u0)
  have tkP := Takes.of_laid (v := sen.v) hk hordN tyP (by rw [Y.suppType]; exact fits_refV_object _ sen)
  have tkX := Takes.of_laid (v := .int 1) hk hordN tyX (by rw [htX]; rfl)
  have hskip : SkipFacts T e.platform s (fun u => u) u0 ((npeCell N.toNpeT (preparedCellV T.toThrowableT (freshCell P1.m.cls N.kN) W.heap.size u0 sen) W.cur).withEntry W.cur) := ⟨{ ci198 := ci198, i198 := i198, fBack := fB }, ⟨hk198, hg198, ha198, hsB⟩, hbk, fun _ _ => rfl⟩
  obtain ⟨vm', X3, st, -⟩ := X.throwsNpeColdBareVAt hexec hg hsize T L Z LZ N LN P1 L1 [PR, PE] hLs hlink1 ⟨hlinkR, hlinkE, trivial⟩ hfound hk hinit hordN hctor hsel0 hselF hcellS hknownS hvU hvSen
    hv0 xC xS xP tkC tkS tkP tkX Y.objLocals hskip (fun _ _ hA hW _ hroom _ hrest => L.nativeOff p htr hA hW hroom hrest) (by simpa using hRframes) hRlocals (by simp) hRcells (by rw [hn]; exact hRslots)
  have hlt : W.heap.size < ((W.pushCell (freshCell P1.m.cls N.kN)).setVm vm').heap.size := by
    show W.heap.size < (W.pushCell (freshCell P1.m.cls N.kN)).heap.size
    rw [State.heap_size_pushCell]; omega
  rw [hfsz] at X3
  obtain ⟨g₁, hfrM⟩ := X3.frames_eq
  have hU : ((((W.pushCell (freshCell P1.m.cls N.kN)).setVm vm').setCell W.heap.size (npeBareV T.toThrowableT N.toNpeT (freshCell P1.m.cls N.kN) W.heap.size u0 sen)).setTop g).pushFrame (.throwing W.heap.size) = (((W.pushCell (freshCell P1.m.cls N.kN)).setVm vm').setCell W.heap.size (npeBareV T.toThrowableT N.toNpeT (freshCell P1.m.cls N.kN) W.heap.size u0 sen)).setFrames (.throwing W.heap.size :: .java g :: below) := by
    rw [State.pushFrame, State.frames_setTop _ hfrM, State.setTop_of_frames _ hfrM, State.setFrames_setFrames]
  refine ⟨_, W.heap.size, _, fun target ht => st.trans (by rw [← hU]; exact ht), X3.forget (fun y hy => ?_), heapAt_setCell_self _ hlt, hfound, rfl⟩
  simp only [List.mem_cons, List.not_mem_nil, or_false] at hy
  have hge : s.heap.size ≤ W.heap.size := X.same.2.1
  rcases hy with rfl | rfl | rfl | rfl | rfl <;> exact hge
/-- the words of a machine's NullPointerException, but the four that speak of the heap -/
def vx_atN (n : Nat) : List Cond := (Bundle.npeArmAtoms n).filter vx_no
/-- the words of a machine's throw with a message, but the four that speak of the heap -/
def vx_atM (X : String) (names : List String) : List Cond := (Bundle.messageArmAtoms X names).filter vx_no
section
variable {p : Program} {l : Launch} {e : Env} {R : Room} {s : State} {m : MethodId} {args : Array Value} {below : List Frame} {meth : Method} {c : Code} {H : Heap} {locs : List Loc} {cells slots : Nat}
/-- a frame seen from a rebased start, seen from the first start again -/
theorem vx_back9 {T S : State} {R' : Room} {k n : Nat} (X : Stand p l e R s m args below meth c T locs cells slots) (Y : Stand p l e R' ((T.setVm s.vm).setFrames (.invoking m args :: below)) m args below meth c T [] 0 0) (Z : Stand p l e R' ((T.setVm s.vm).setFrames (.invoking m args :: below)) m args below meth c S [] k n) :
    Stand p l e R s m args below meth c S locs (cells + k) (slots + n) := by
  have hW0 : s.WarmedH ((T.setVm s.vm).setFrames (.invoking m args :: below)).vm := State.WarmedH.refl s
  refine { admits := X.admits, cas := X.cas, clock := X.clock, frames := X.frames, room := X.room, hears := X.hears, method := X.method, code := X.code, here := Z.here, tail := Z.tail, warmed := State.WarmedH.trans hW0 Z.warmed, limits := Z.limits.trans (Y.limits.symm.trans X.limits), bytes := Z.bytes.trans (Y.bytes.symm.trans X.bytes), same := ?_ }
  obtain ⟨e1, e2⟩ := Z.same
  rw [State.setFrames_setFrames] at e1
  have h2 : (T.setVm s.vm).sameButNew (S.setVm s.vm) [] k n := ⟨e1, e2⟩
  have h3 := X.same.trans h2
  rw [List.append_nil] at h3
  exact h3
/-- from the machine's note that E is thrown here with this text -/
def vx_Note (p : Program) (l : Launch) (e : Env) (R : Room) (s : State) (m : MethodId) (args : Array Value) (below : List Frame) (meth : Method) (c : Code) (H : Heap) (locs : List Loc) (cells slots : Nat) (Q : State → Prop) (g : JFrame) (E text : String) : Prop :=
  ∀ T : State, T.heap = H → Stand p l e R s m args below meth c T locs cells slots → ∃ t, Steps p.tables e below ((T.setTop g).pushFrame (.throwNew E (some text) none)) t ∧ Q t
theorem vx_vm {pc : Nat} {ls : Array Slot} {rest : List Value} {Q : State → Prop} (hexec : p.tables.exec = Jvm.exec) (hl : l.stackTraces = false) {cls text : String} {names : List String} {nb : Nat} {A : Nat → Prop}
    (hcls : Bundle.fit cls = true) (hnames : ∀ n ∈ names, Bundle.fit n = true) (hsoe : (cls == "java/lang/StackOverflowError") = false) (hoom : (cls == "java/lang/OutOfMemoryError") = false)
    (hat : ∀ w ∈ vx_atM cls names, w.before args s = true) (hgood : ∀ w ∈ vx_atM cls names, vx_ot w = true)
    (hU : vx_Zq Bundle.tN "UNASSIGNED_STACK" Bundle.steD A s s.heap) (hN : vx_Zq Bundle.tN "SUPPRESSED_SENTINEL" Bundle.listD A s s.heap) (hS : va_S A s.heap H locs) (hsize : ls.size = c.maxLocals)
    (htext : (text == notModelled) = false) (hnb : (stringBytes (stringToUtf16 text)).size ≤ nb) (hnb1 : nb ≤ 1000)
    (hRframes : names.length + 4 < R.frames) (hRlocals : (rest.map fun v => v.category).sum + 10240 ≤ R.locals) (hshort : 13 * names.length + 55 ≤ 10240) (hRcells : cells + 3 ≤ R.cells) (hRslots : slots + (nb + 10) ≤ R.slots) (hlocks : meth.locks = false)
    (k : ∀ (H1 : Heap) (q9 : Addr) (ce : Cell), H.size ≤ H1.size → (∀ q : Nat, q < H.size → H1[q]? = H[q]?) → va_S A s.heap H1 locs → H1[q9]? = some ce → ce.vm = .none → s.vm.findClass cls = some ce.cls → vx_W p l e R s m args below meth c H1 locs (cells + 3) (slots + (nb + 10)) Q (F0 m pc ls rest) q9) :
    vx_Note p l e R s m args below meth c H locs cells slots Q (F0 m pc ls rest) cls text := by
  intro T hT X
  have htr : e.platform.stackTraces = false := (show e.platform.stackTraces = l.stackTraces by rw [X.admits.platform]).trans hl
  have Y := vx_rebase X (R' := { frames := R.frames, locals := R.locals, cells := 3, slots := nb + 10 }) (Nat.le_refl _) (Nat.le_refl _) hRcells hRslots
  have hhp : ((T.setVm s.vm).setFrames (.invoking m args :: below)).heap = H := hT
  have hW0 : s.WarmedH ((T.setVm s.vm).setFrames (.invoking m args :: below)).vm := State.WarmedH.refl s
  have hat' : ∀ w ∈ vx_atM cls names, w.before args ((T.setVm s.vm).setFrames (.invoking m args :: below)) = true := fun w hw => vx_ot_at hW0 rfl (hgood w hw) (hat w hw)
  have hU' : vx_Zq Bundle.tN "UNASSIGNED_STACK" Bundle.steD A ((T.setVm s.vm).setFrames (.invoking m args :: below)) ((T.setVm s.vm).setFrames (.invoking m args :: below)).heap := by rw [hhp]; exact vx_Zq.moved hW0.alike (hU.kept hS.2.1)
  have hN' : vx_Zq Bundle.tN "SUPPRESSED_SENTINEL" Bundle.listD A ((T.setVm s.vm).setFrames (.invoking m args :: below)) ((T.setVm s.vm).setFrames (.invoking m args :: below)).heap := by rw [hhp]; exact vx_Zq.moved hW0.alike (hN.kept hS.2.1)
  obtain ⟨S, q, ce, st, Z, hce, hcl', hv⟩ := vx_vmAt Y hexec htr (cls := cls) (names := names) (text := text) hcls hnames hsoe hoom (vx_own hat' (vx_isRefq hU'.1) (vx_isRefq hN'.1) hU'.2.word hN'.2.word) (fun x hx => nomatch hx) htext
    (by rw [Launch.admits_arrayLengthLimit X.admits]; omega) (by rw [Launch.admits_maxHeapBytes X.admits]; simp only [componentBytes]; omega)
    (g := F0 m pc ls rest) rfl hsize hRframes (by show 2 * 0 + (rest.map fun v => v.category).sum + 10240 ≤ R.locals; omega) hshort (by show 0 + 3 ≤ 3; omega) (by show 0 + (_ + 4 + 6) ≤ nb + 10; omega) hlocks
  obtain ⟨f1, f2⟩ := vx_frame Z.same
  have f1' : H.size ≤ S.heap.size := by rw [← hT]; exact f1
  have f2' : ∀ q : Nat, q < H.size → S.heap[q]? = H[q]? := fun q hq => by
    rw [← hT]
    exact f2 q (by rw [← hT] at hq; exact hq) (fun z hz => nomatch hz)
  have X5 := vx_back9 X Y Z
  have X6 : Stand p l e R s m args below meth c S locs (cells + 3) (slots + (nb + 10)) := { X5 with same := X5.same.mono (by omega) (by omega) }
  obtain ⟨t, a1, b1⟩ := k S.heap q ce f1' f2' ⟨Nat.le_trans hS.1 f1', fun q h1 h2 => (f2' q (Nat.lt_of_lt_of_le h1 hS.1)).trans (hS.2.1 q h1 h2), hS.2.2⟩ hce hv hcl' S rfl X6
  exact ⟨t, st t a1, b1⟩
/-- from the machine's note that NullPointerException is thrown here -/
def vx_NoteN (p : Program) (l : Launch) (e : Env) (R : Room) (s : State) (m : MethodId) (args : Array Value) (below : List Frame) (meth : Method) (c : Code) (H : Heap) (locs : List Loc) (cells slots : Nat) (Q : State → Prop) (g : JFrame) : Prop :=
  ∀ T : State, T.heap = H → Stand p l e R s m args below meth c T locs cells slots → ∃ t, Steps p.tables e below ((T.setTop g).pushFrame (.throwNew "java/lang/NullPointerException" none none)) t ∧ Q t
theorem vx_npe {pc : Nat} {ls : Array Slot} {rest : List Value} {Q : State → Prop} (hexec : p.tables.exec = Jvm.exec) (hl : l.stackTraces = false) {nb : Nat} {A : Nat → Prop}
    (hat : ∀ w ∈ vx_atN nb, w.before args s = true) (hgood : ∀ w ∈ vx_atN nb, vx_ot w = true)
    (hU : vx_Zq Bundle.tN "UNASSIGNED_STACK" Bundle.steD A s s.heap) (hN : vx_Zq Bundle.tN "SUPPRESSED_SENTINEL" Bundle.listD A s s.heap) (hS : va_S A s.heap H locs) (hsize : ls.size = c.maxLocals)
    (hRframes : 7 < R.frames) (hRlocals : (rest.map fun v => v.category).sum + 10240 ≤ R.locals) (hRcells : cells + 1 ≤ R.cells) (hRslots : slots + nb ≤ R.slots) (hlocks : meth.locks = false)
    (k : ∀ (H1 : Heap) (q9 : Addr) (ce : Cell), H.size ≤ H1.size → (∀ q : Nat, q < H.size → H1[q]? = H[q]?) → va_S A s.heap H1 locs → H1[q9]? = some ce → ce.vm = .none → s.vm.findClass "java/lang/NullPointerException" = some ce.cls → vx_W p l e R s m args below meth c H1 locs (cells + 1) (slots + nb) Q (F0 m pc ls rest) q9) :
    vx_NoteN p l e R s m args below meth c H locs cells slots Q (F0 m pc ls rest) := by
  intro T hT X
  have htr : e.platform.stackTraces = false := (show e.platform.stackTraces = l.stackTraces by rw [X.admits.platform]).trans hl
  have Y := vx_rebase X (R' := { frames := R.frames, locals := R.locals, cells := 1, slots := nb }) (Nat.le_refl _) (Nat.le_refl _) hRcells hRslots
  have hhp : ((T.setVm s.vm).setFrames (.invoking m args :: below)).heap = H := hT
  have hW0 : s.WarmedH ((T.setVm s.vm).setFrames (.invoking m args :: below)).vm := State.WarmedH.refl s
  have hat' : ∀ w ∈ vx_atN nb, w.before args ((T.setVm s.vm).setFrames (.invoking m args :: below)) = true := fun w hw => vx_ot_at hW0 rfl (hgood w hw) (hat w hw)
  have hU' : vx_Zq Bundle.tN "UNASSIGNED_STACK" Bundle.steD A ((T.setVm s.vm).setFrames (.invoking m args :: below)) ((T.setVm s.vm).setFrames (.invoking m args :: below)).heap := by rw [hhp]; exact vx_Zq.moved hW0.alike (hU.kept hS.2.1)
  have hN' : vx_Zq Bundle.tN "SUPPRESSED_SENTINEL" Bundle.listD A ((T.setVm s.vm).setFrames (.invoking m args :: below)) ((T.setVm s.vm).setFrames (.invoking m args :: below)).heap := by rw [hhp]; exact vx_Zq.moved hW0.alike (hN.kept hS.2.1)
  obtain ⟨S, q, ce, st, Z, hce, hcl', hv⟩ := vx_npeAt Y hexec htr (n := nb) (vx_own hat' (vx_isRefq hU'.1) (vx_isRefq hN'.1) hU'.2.word hN'.2.word) (fun x hx => nomatch hx)
    (g := F0 m pc ls rest) rfl hsize hRframes (by show 2 * 0 + (rest.map fun v => v.category).sum + 10240 ≤ R.locals; omega) (by show 0 + 1 ≤ 1; omega) (by show 0 + nb ≤ nb; omega) hlocks
  obtain ⟨f1, f2⟩ := vx_frame Z.same
  have f1' : H.size ≤ S.heap.size := by rw [← hT]; exact f1
  have f2' : ∀ q : Nat, q < H.size → S.heap[q]? = H[q]? := fun q hq => by
    rw [← hT]
    exact f2 q (by rw [← hT] at hq; exact hq) (fun z hz => nomatch hz)
  have X5 := vx_back9 X Y Z
  have X6 : Stand p l e R s m args below meth c S locs (cells + 1) (slots + nb) := { X5 with same := X5.same.mono (by omega) (by omega) }
  obtain ⟨t, a1, b1⟩ := k S.heap q ce f1' f2' ⟨Nat.le_trans hS.1 f1', fun q h1 h2 => (f2' q (Nat.lt_of_lt_of_le h1 hS.1)).trans (hS.2.1 q h1 h2), hS.2.2⟩ hce hv hcl' S rfl X6
  exact ⟨t, st t a1, b1⟩
variable {Q : State → Prop} {cc : ByteArray} {pc : Nat} {ls : Array Slot} {rest : List Value}
theorem vx_idivZ (hexec : p.tables.exec = Jvm.exec) (hb : c.code = cc) {a b : Int32} (h0 : b = 0) (d : decode cc pc = .ok (.idiv, 1)) (k : vx_Note p l e R s m args below meth c H locs cells slots Q (F0 m pc ls rest) "java/lang/ArithmeticException" "/ by zero") :
    W p l e R s m args below meth c H locs cells slots Q (F0 m pc ls (.int b :: .int a :: rest)) := by
  intro T hT X
  obtain ⟨t, st, q⟩ := k T hT X
  exact ⟨t, X.idivZero hexec (g := F0 m pc ls (.int b :: .int a :: rest)) rfl (a := a) (rest := rest) (by rw [h0]) (by rw [hb]; exact d) t st, q⟩
theorem vx_iremZ (hexec : p.tables.exec = Jvm.exec) (hb : c.code = cc) {a b : Int32} (h0 : b = 0) (d : decode cc pc = .ok (.irem, 1)) (k : vx_Note p l e R s m args below meth c H locs cells slots Q (F0 m pc ls rest) "java/lang/ArithmeticException" "/ by zero") :
    W p l e R s m args below meth c H locs cells slots Q (F0 m pc ls (.int b :: .int a :: rest)) := by
  intro T hT X
  obtain ⟨t, st, q⟩ := k T hT X
  exact ⟨t, X.iremZero hexec (g := F0 m pc ls (.int b :: .int a :: rest)) rfl (a := a) (rest := rest) (by rw [h0]) (by rw [hb]; exact d) t st, q⟩
theorem vx_ldivZ (hexec : p.tables.exec = Jvm.exec) (hb : c.code = cc) {a b : Int64} (h0 : b = 0) (d : decode cc pc = .ok (.ldiv, 1)) (k : vx_Note p l e R s m args below meth c H locs cells slots Q (F0 m pc ls rest) "java/lang/ArithmeticException" "/ by zero") :
    W p l e R s m args below meth c H locs cells slots Q (F0 m pc ls (.long b :: .long a :: rest)) := by
  intro T hT X
  obtain ⟨t, st, q⟩ := k T hT X
  exact ⟨t, X.ldivZero hexec (g := F0 m pc ls (.long b :: .long a :: rest)) rfl (a := a) (rest := rest) (by rw [h0]) (by rw [hb]; exact d) t st, q⟩
theorem vx_lremZ (hexec : p.tables.exec = Jvm.exec) (hb : c.code = cc) {a b : Int64} (h0 : b = 0) (d : decode cc pc = .ok (.lrem, 1)) (k : vx_Note p l e R s m args below meth c H locs cells slots Q (F0 m pc ls rest) "java/lang/ArithmeticException" "/ by zero") :
    W p l e R s m args below meth c H locs cells slots Q (F0 m pc ls (.long b :: .long a :: rest)) := by
  intro T hT X
  obtain ⟨t, st, q⟩ := k T hT X
  exact ⟨t, X.lremZero hexec (g := F0 m pc ls (.long b :: .long a :: rest)) rfl (a := a) (rest := rest) (by rw [h0]) (by rw [hb]; exact d) t st, q⟩
theorem vx_ialdZ {D : va_G} {cl : List vw_C} {ws : va_W} {tys : List (ClassId × FieldType)} {a : Nat} (hexec : p.tables.exec = Jvm.exec) (hb : c.code = cc) (hK : va_K D cl tys s) (hP : va_P D cl ws H) (q0 t0 : Nat) {cA : ClassId} {n : Nat} {f : Nat → Int32} (ha : ws[q0]? = some (a, .inl (cA, n, .inl f))) (ht : tys[t0]? = some (cA, .int)) {i : Int32} (hout : ¬ vp_in i n) (hdg : decode cc pc = .ok (.iaload, 1))
    (k : ∀ tx : String, tx = (toString "Index " ++ toString i ++ toString " out of bounds for length " ++ toString n : String) → vx_Note p l e R s m args below meth c H locs cells slots Q (F0 m pc ls rest) "java/lang/ArrayIndexOutOfBoundsException" tx) : W p l e R s m args below meth c H locs cells slots Q (F0 m pc ls (.int i :: .ref a :: rest)) := by
  intro T hT X
  obtain ⟨t, st, q⟩ := k _ rfl T hT X
  refine ⟨t, ?_, q⟩
  have h1 := X.ialoadOut hexec (by rw [hT]; exact hP q0 _ ha) ((hK.2 t0 _ ht).1 n (fun j => .int (f j))) (j := i) (by show (i < 0 ∨ (arrV _ _ _).slots.size ≤ _); rw [arrV_size]; exact Classical.byContradiction hout) (g := F0 m pc ls (.int i :: .ref a :: rest)) rfl (rest := rest) rfl (by rw [hb]; exact hdg) t
  simp only [arrV_size] at h1
  exact h1 st
theorem vx_iastZ {D : va_G} {cl : List vw_C} {ws : va_W} {tys : List (ClassId × FieldType)} {a : Nat} (hexec : p.tables.exec = Jvm.exec) (hb : c.code = cc) (hK : va_K D cl tys s) (hP : va_P D cl ws H) (q0 t0 : Nat) {cA : ClassId} {n : Nat} {f : Nat → Int32} (ha : ws[q0]? = some (a, .inl (cA, n, .inl f))) (ht : tys[t0]? = some (cA, .int)) {i : Int32} {x : Int32} (hout : ¬ vp_in i n) (hdg : decode cc pc = .ok (.iastore, 1))
    (k : ∀ tx : String, tx = (toString "Index " ++ toString i ++ toString " out of bounds for length " ++ toString n : String) → vx_Note p l e R s m args below meth c H locs cells slots Q (F0 m pc ls rest) "java/lang/ArrayIndexOutOfBoundsException" tx) : W p l e R s m args below meth c H locs cells slots Q (F0 m pc ls (.int x :: .int i :: .ref a :: rest)) := by
  intro T hT X
  obtain ⟨t, st, q⟩ := k _ rfl T hT X
  refine ⟨t, ?_, q⟩
  have h1 := X.iastoreOut hexec (by rw [hT]; exact hP q0 _ ha) ((hK.2 t0 _ ht).1 n (fun j => .int (f j))) (j := i) (by show (i < 0 ∨ (arrV _ _ _).slots.size ≤ _); rw [arrV_size]; exact Classical.byContradiction hout) (g := F0 m pc ls (.int x :: .int i :: .ref a :: rest)) rfl (rest := rest) rfl (by rw [hb]; exact hdg) t
  simp only [arrV_size] at h1
  exact h1 st
theorem vx_baldZ {D : va_G} {cl : List vw_C} {ws : va_W} {tys : List (ClassId × FieldType)} {a : Nat} (hexec : p.tables.exec = Jvm.exec) (hb : c.code = cc) (hK : va_K D cl tys s) (hP : va_P D cl ws H) (q0 t0 : Nat) {cA : ClassId} {n : Nat} {f : Nat → Int32} (ha : ws[q0]? = some (a, .inl (cA, n, .inl f))) (ht : tys[t0]? = some (cA, .byte)) {i : Int32} (hout : ¬ vp_in i n) (hdg : decode cc pc = .ok (.baload, 1))
    (k : ∀ tx : String, tx = (toString "Index " ++ toString i ++ toString " out of bounds for length " ++ toString n : String) → vx_Note p l e R s m args below meth c H locs cells slots Q (F0 m pc ls rest) "java/lang/ArrayIndexOutOfBoundsException" tx) : W p l e R s m args below meth c H locs cells slots Q (F0 m pc ls (.int i :: .ref a :: rest)) := by
  intro T hT X
  obtain ⟨t, st, q⟩ := k _ rfl T hT X
  refine ⟨t, ?_, q⟩
  have h1 := X.baloadOut hexec (by rw [hT]; exact hP q0 _ ha) ((hK.2 t0 _ ht).1 n (fun j => .int (f j))) (j := i) (by show (i < 0 ∨ (arrV _ _ _).slots.size ≤ _); rw [arrV_size]; exact Classical.byContradiction hout) (g := F0 m pc ls (.int i :: .ref a :: rest)) rfl (rest := rest) rfl (by rw [hb]; exact hdg) t
  simp only [arrV_size] at h1
  exact h1 st
theorem vx_bastZ {D : va_G} {cl : List vw_C} {ws : va_W} {tys : List (ClassId × FieldType)} {a : Nat} (hexec : p.tables.exec = Jvm.exec) (hb : c.code = cc) (hK : va_K D cl tys s) (hP : va_P D cl ws H) (q0 t0 : Nat) {cA : ClassId} {n : Nat} {f : Nat → Int32} (ha : ws[q0]? = some (a, .inl (cA, n, .inl f))) (ht : tys[t0]? = some (cA, .byte)) {i : Int32} {x : Int32} (hout : ¬ vp_in i n) (hdg : decode cc pc = .ok (.bastore, 1))
    (k : ∀ tx : String, tx = (toString "Index " ++ toString i ++ toString " out of bounds for length " ++ toString n : String) → vx_Note p l e R s m args below meth c H locs cells slots Q (F0 m pc ls rest) "java/lang/ArrayIndexOutOfBoundsException" tx) : W p l e R s m args below meth c H locs cells slots Q (F0 m pc ls (.int x :: .int i :: .ref a :: rest)) := by
  intro T hT X
  obtain ⟨t, st, q⟩ := k _ rfl T hT X
  refine ⟨t, ?_, q⟩
  have h1 := X.bastoreOut hexec (by rw [hT]; exact hP q0 _ ha) ((hK.2 t0 _ ht).1 n (fun j => .int (f j))) (j := i) (by show (i < 0 ∨ (arrV _ _ _).slots.size ≤ _); rw [arrV_size]; exact Classical.byContradiction hout) (g := F0 m pc ls (.int x :: .int i :: .ref a :: rest)) rfl (rest := rest) rfl (by rw [hb]; exact hdg) t
  simp only [arrV_size] at h1
  exact h1 st
theorem vx_zaldZ {D : va_G} {cl : List vw_C} {ws : va_W} {tys : List (ClassId × FieldType)} {a : Nat} (hexec : p.tables.exec = Jvm.exec) (hb : c.code = cc) (hK : va_K D cl tys s) (hP : va_P D cl ws H) (q0 t0 : Nat) {cA : ClassId} {n : Nat} {f : Nat → Int32} (ha : ws[q0]? = some (a, .inl (cA, n, .inl f))) (ht : tys[t0]? = some (cA, .boolean)) {i : Int32} (hout : ¬ vp_in i n) (hdg : decode cc pc = .ok (.baload, 1))
    (k : ∀ tx : String, tx = (toString "Index " ++ toString i ++ toString " out of bounds for length " ++ toString n : String) → vx_Note p l e R s m args below meth c H locs cells slots Q (F0 m pc ls rest) "java/lang/ArrayIndexOutOfBoundsException" tx) : W p l e R s m args below meth c H locs cells slots Q (F0 m pc ls (.int i :: .ref a :: rest)) := by
  intro T hT X
  obtain ⟨t, st, q⟩ := k _ rfl T hT X
  refine ⟨t, ?_, q⟩
  have h1 := X.baloadOut hexec (by rw [hT]; exact hP q0 _ ha) ((hK.2 t0 _ ht).1 n (fun j => .int (f j))) (j := i) (by show (i < 0 ∨ (arrV _ _ _).slots.size ≤ _); rw [arrV_size]; exact Classical.byContradiction hout) (g := F0 m pc ls (.int i :: .ref a :: rest)) rfl (rest := rest) rfl (by rw [hb]; exact hdg) t
  simp only [arrV_size] at h1
  exact h1 st
theorem vx_zastZ {D : va_G} {cl : List vw_C} {ws : va_W} {tys : List (ClassId × FieldType)} {a : Nat} (hexec : p.tables.exec = Jvm.exec) (hb : c.code = cc) (hK : va_K D cl tys s) (hP : va_P D cl ws H) (q0 t0 : Nat) {cA : ClassId} {n : Nat} {f : Nat → Int32} (ha : ws[q0]? = some (a, .inl (cA, n, .inl f))) (ht : tys[t0]? = some (cA, .boolean)) {i : Int32} {x : Int32} (hout : ¬ vp_in i n) (hdg : decode cc pc = .ok (.bastore, 1))
    (k : ∀ tx : String, tx = (toString "Index " ++ toString i ++ toString " out of bounds for length " ++ toString n : String) → vx_Note p l e R s m args below meth c H locs cells slots Q (F0 m pc ls rest) "java/lang/ArrayIndexOutOfBoundsException" tx) : W p l e R s m args below meth c H locs cells slots Q (F0 m pc ls (.int x :: .int i :: .ref a :: rest)) := by
  intro T hT X
  obtain ⟨t, st, q⟩ := k _ rfl T hT X
  refine ⟨t, ?_, q⟩
  have h1 := X.bastoreOut hexec (by rw [hT]; exact hP q0 _ ha) ((hK.2 t0 _ ht).1 n (fun j => .int (f j))) (j := i) (by show (i < 0 ∨ (arrV _ _ _).slots.size ≤ _); rw [arrV_size]; exact Classical.byContradiction hout) (g := F0 m pc ls (.int x :: .int i :: .ref a :: rest)) rfl (rest := rest) rfl (by rw [hb]; exact hdg) t
  simp only [arrV_size] at h1
  exact h1 st
theorem vx_caldZ {D : va_G} {cl : List vw_C} {ws : va_W} {tys : List (ClassId × FieldType)} {a : Nat} (hexec : p.tables.exec = Jvm.exec) (hb : c.code = cc) (hK : va_K D cl tys s) (hP : va_P D cl ws H) (q0 t0 : Nat) {cA : ClassId} {n : Nat} {f : Nat → Int32} (ha : ws[q0]? = some (a, .inl (cA, n, .inl f))) (ht : tys[t0]? = some (cA, .char)) {i : Int32} (hout : ¬ vp_in i n) (hdg : decode cc pc = .ok (.caload, 1))
    (k : ∀ tx : String, tx = (toString "Index " ++ toString i ++ toString " out of bounds for length " ++ toString n : String) → vx_Note p l e R s m args below meth c H locs cells slots Q (F0 m pc ls rest) "java/lang/ArrayIndexOutOfBoundsException" tx) : W p l e R s m args below meth c H locs cells slots Q (F0 m pc ls (.int i :: .ref a :: rest)) := by
  intro T hT X
  obtain ⟨t, st, q⟩ := k _ rfl T hT X
  refine ⟨t, ?_, q⟩
  have h1 := X.caloadOut hexec (by rw [hT]; exact hP q0 _ ha) ((hK.2 t0 _ ht).1 n (fun j => .int (f j))) (j := i) (by show (i < 0 ∨ (arrV _ _ _).slots.size ≤ _); rw [arrV_size]; exact Classical.byContradiction hout) (g := F0 m pc ls (.int i :: .ref a :: rest)) rfl (rest := rest) rfl (by rw [hb]; exact hdg) t
  simp only [arrV_size] at h1
  exact h1 st
theorem vx_castZ {D : va_G} {cl : List vw_C} {ws : va_W} {tys : List (ClassId × FieldType)} {a : Nat} (hexec : p.tables.exec = Jvm.exec) (hb : c.code = cc) (hK : va_K D cl tys s) (hP : va_P D cl ws H) (q0 t0 : Nat) {cA : ClassId} {n : Nat} {f : Nat → Int32} (ha : ws[q0]? = some (a, .inl (cA, n, .inl f))) (ht : tys[t0]? = some (cA, .char)) {i : Int32} {x : Int32} (hout : ¬ vp_in i n) (hdg : decode cc pc = .ok (.castore, 1))
    (k : ∀ tx : String, tx = (toString "Index " ++ toString i ++ toString " out of bounds for length " ++ toString n : String) → vx_Note p l e R s m args below meth c H locs cells slots Q (F0 m pc ls rest) "java/lang/ArrayIndexOutOfBoundsException" tx) : W p l e R s m args below meth c H locs cells slots Q (F0 m pc ls (.int x :: .int i :: .ref a :: rest)) := by
  intro T hT X
  obtain ⟨t, st, q⟩ := k _ rfl T hT X
  refine ⟨t, ?_, q⟩
  have h1 := X.castoreOut hexec (by rw [hT]; exact hP q0 _ ha) ((hK.2 t0 _ ht).1 n (fun j => .int (f j))) (j := i) (by show (i < 0 ∨ (arrV _ _ _).slots.size ≤ _); rw [arrV_size]; exact Classical.byContradiction hout) (g := F0 m pc ls (.int x :: .int i :: .ref a :: rest)) rfl (rest := rest) rfl (by rw [hb]; exact hdg) t
  simp only [arrV_size] at h1
  exact h1 st
theorem vx_saldZ {D : va_G} {cl : List vw_C} {ws : va_W} {tys : List (ClassId × FieldType)} {a : Nat} (hexec : p.tables.exec = Jvm.exec) (hb : c.code = cc) (hK : va_K D cl tys s) (hP : va_P D cl ws H) (q0 t0 : Nat) {cA : ClassId} {n : Nat} {f : Nat → Int32} (ha : ws[q0]? = some (a, .inl (cA, n, .inl f))) (ht : tys[t0]? = some (cA, .short)) {i : Int32} (hout : ¬ vp_in i n) (hdg : decode cc pc = .ok (.saload, 1))
    (k : ∀ tx : String, tx = (toString "Index " ++ toString i ++ toString " out of bounds for length " ++ toString n : String) → vx_Note p l e R s m args below meth c H locs cells slots Q (F0 m pc ls rest) "java/lang/ArrayIndexOutOfBoundsException" tx) : W p l e R s m args below meth c H locs cells slots Q (F0 m pc ls (.int i :: .ref a :: rest)) := by
  intro T hT X
  obtain ⟨t, st, q⟩ := k _ rfl T hT X
  refine ⟨t, ?_, q⟩
  have h1 := X.saloadOut hexec (by rw [hT]; exact hP q0 _ ha) ((hK.2 t0 _ ht).1 n (fun j => .int (f j))) (j := i) (by show (i < 0 ∨ (arrV _ _ _).slots.size ≤ _); rw [arrV_size]; exact Classical.byContradiction hout) (g := F0 m pc ls (.int i :: .ref a :: rest)) rfl (rest := rest) rfl (by rw [hb]; exact hdg) t
  simp only [arrV_size] at h1
  exact h1 st
theorem vx_sastZ {D : va_G} {cl : List vw_C} {ws : va_W} {tys : List (ClassId × FieldType)} {a : Nat} (hexec : p.tables.exec = Jvm.exec) (hb : c.code = cc) (hK : va_K D cl tys s) (hP : va_P D cl ws H) (q0 t0 : Nat) {cA : ClassId} {n : Nat} {f : Nat → Int32} (ha : ws[q0]? = some (a, .inl (cA, n, .inl f))) (ht : tys[t0]? = some (cA, .short)) {i : Int32} {x : Int32} (hout : ¬ vp_in i n) (hdg : decode cc pc = .ok (.sastore, 1))
    (k : ∀ tx : String, tx = (toString "Index " ++ toString i ++ toString " out of bounds for length " ++ toString n : String) → vx_Note p l e R s m args below meth c H locs cells slots Q (F0 m pc ls rest) "java/lang/ArrayIndexOutOfBoundsException" tx) : W p l e R s m args below meth c H locs cells slots Q (F0 m pc ls (.int x :: .int i :: .ref a :: rest)) := by
  intro T hT X
  obtain ⟨t, st, q⟩ := k _ rfl T hT X
  refine ⟨t, ?_, q⟩
  have h1 := X.sastoreOut hexec (by rw [hT]; exact hP q0 _ ha) ((hK.2 t0 _ ht).1 n (fun j => .int (f j))) (j := i) (by show (i < 0 ∨ (arrV _ _ _).slots.size ≤ _); rw [arrV_size]; exact Classical.byContradiction hout) (g := F0 m pc ls (.int x :: .int i :: .ref a :: rest)) rfl (rest := rest) rfl (by rw [hb]; exact hdg) t
  simp only [arrV_size] at h1
  exact h1 st
theorem vx_laldZ {D : va_G} {cl : List vw_C} {ws : va_W} {tys : List (ClassId × FieldType)} {a : Nat} (hexec : p.tables.exec = Jvm.exec) (hb : c.code = cc) (hK : va_K D cl tys s) (hP : va_P D cl ws H) (q0 t0 : Nat) {cA : ClassId} {n : Nat} {f : Nat → Int64} (ha : ws[q0]? = some (a, .inl (cA, n, .inr (.inl f)))) (ht : tys[t0]? = some (cA, .long)) {i : Int32} (hout : ¬ vp_in i n) (hdg : decode cc pc = .ok (.laload, 1))
    (k : ∀ tx : String, tx = (toString "Index " ++ toString i ++ toString " out of bounds for length " ++ toString n : String) → vx_Note p l e R s m args below meth c H locs cells slots Q (F0 m pc ls rest) "java/lang/ArrayIndexOutOfBoundsException" tx) : W p l e R s m args below meth c H locs cells slots Q (F0 m pc ls (.int i :: .ref a :: rest)) := by
  intro T hT X
  obtain ⟨t, st, q⟩ := k _ rfl T hT X
  refine ⟨t, ?_, q⟩
  have h1 := X.laloadOut hexec (by rw [hT]; exact hP q0 _ ha) ((hK.2 t0 _ ht).1 n (fun j => .long (f j))) (j := i) (by show (i < 0 ∨ (arrV _ _ _).slots.size ≤ _); rw [arrV_size]; exact Classical.byContradiction hout) (g := F0 m pc ls (.int i :: .ref a :: rest)) rfl (rest := rest) rfl (by rw [hb]; exact hdg) t
  simp only [arrV_size] at h1
  exact h1 st
theorem vx_lastZ {D : va_G} {cl : List vw_C} {ws : va_W} {tys : List (ClassId × FieldType)} {a : Nat} (hexec : p.tables.exec = Jvm.exec) (hb : c.code = cc) (hK : va_K D cl tys s) (hP : va_P D cl ws H) (q0 t0 : Nat) {cA : ClassId} {n : Nat} {f : Nat → Int64} (ha : ws[q0]? = some (a, .inl (cA, n, .inr (.inl f)))) (ht : tys[t0]? = some (cA, .long)) {i : Int32} {x : Int64} (hout : ¬ vp_in i n) (hdg : decode cc pc = .ok (.lastore, 1))
    (k : ∀ tx : String, tx = (toString "Index " ++ toString i ++ toString " out of bounds for length " ++ toString n : String) → vx_Note p l e R s m args below meth c H locs cells slots Q (F0 m pc ls rest) "java/lang/ArrayIndexOutOfBoundsException" tx) : W p l e R s m args below meth c H locs cells slots Q (F0 m pc ls (.long x :: .int i :: .ref a :: rest)) := by
  intro T hT X
  obtain ⟨t, st, q⟩ := k _ rfl T hT X
  refine ⟨t, ?_, q⟩
  have h1 := X.lastoreOut hexec (by rw [hT]; exact hP q0 _ ha) ((hK.2 t0 _ ht).1 n (fun j => .long (f j))) (j := i) (by show (i < 0 ∨ (arrV _ _ _).slots.size ≤ _); rw [arrV_size]; exact Classical.byContradiction hout) (g := F0 m pc ls (.long x :: .int i :: .ref a :: rest)) rfl (rest := rest) rfl (by rw [hb]; exact hdg) t
  simp only [arrV_size] at h1
  exact h1 st
theorem vx_faldZ {D : va_G} {cl : List vw_C} {ws : va_W} {tys : List (ClassId × FieldType)} {a : Nat} (hexec : p.tables.exec = Jvm.exec) (hb : c.code = cc) (hK : va_K D cl tys s) (hP : va_P D cl ws H) (q0 t0 : Nat) {cA : ClassId} {n : Nat} {f : Nat → UInt32} (ha : ws[q0]? = some (a, .inl (cA, n, .inr (.inr (.inl f))))) (ht : tys[t0]? = some (cA, .float)) {i : Int32} (hout : ¬ vp_in i n) (hdg : decode cc pc = .ok (.faload, 1))
    (k : ∀ tx : String, tx = (toString "Index " ++ toString i ++ toString " out of bounds for length " ++ toString n : String) → vx_Note p l e R s m args below meth c H locs cells slots Q (F0 m pc ls rest) "java/lang/ArrayIndexOutOfBoundsException" tx) : W p l e R s m args below meth c H locs cells slots Q (F0 m pc ls (.int i :: .ref a :: rest)) := by
  intro T hT X
  obtain ⟨t, st, q⟩ := k _ rfl T hT X
  refine ⟨t, ?_, q⟩
  have h1 := X.faloadOut hexec (by rw [hT]; exact hP q0 _ ha) ((hK.2 t0 _ ht).1 n (fun j => .float (f j))) (j := i) (by show (i < 0 ∨ (arrV _ _ _).slots.size ≤ _); rw [arrV_size]; exact Classical.byContradiction hout) (g := F0 m pc ls (.int i :: .ref a :: rest)) rfl (rest := rest) rfl (by rw [hb]; exact hdg) t
  simp only [arrV_size] at h1
  exact h1 st
theorem vx_fastZ {D : va_G} {cl : List vw_C} {ws : va_W} {tys : List (ClassId × FieldType)} {a : Nat} (hexec : p.tables.exec = Jvm.exec) (hb : c.code = cc) (hK : va_K D cl tys s) (hP : va_P D cl ws H) (q0 t0 : Nat) {cA : ClassId} {n : Nat} {f : Nat → UInt32} (ha : ws[q0]? = some (a, .inl (cA, n, .inr (.inr (.inl f))))) (ht : tys[t0]? = some (cA, .float)) {i : Int32} {x : UInt32} (hout : ¬ vp_in i n) (hdg : decode cc pc = .ok (.fastore, 1))
    (k : ∀ tx : String, tx = (toString "Index " ++ toString i ++ toString " out of bounds for length " ++ toString n : String) → vx_Note p l e R s m args below meth c H locs cells slots Q (F0 m pc ls rest) "java/lang/ArrayIndexOutOfBoundsException" tx) : W p l e R s m args below meth c H locs cells slots Q (F0 m pc ls (.float x :: .int i :: .ref a :: rest)) := by
  intro T hT X
  obtain ⟨t, st, q⟩ := k _ rfl T hT X
  refine ⟨t, ?_, q⟩
  have h1 := X.fastoreOut hexec (by rw [hT]; exact hP q0 _ ha) ((hK.2 t0 _ ht).1 n (fun j => .float (f j))) (j := i) (by show (i < 0 ∨ (arrV _ _ _).slots.size ≤ _); rw [arrV_size]; exact Classical.byContradiction hout) (g := F0 m pc ls (.float x :: .int i :: .ref a :: rest)) rfl (rest := rest) rfl (by rw [hb]; exact hdg) t
  simp only [arrV_size] at h1
  exact h1 st
theorem vx_daldZ {D : va_G} {cl : List vw_C} {ws : va_W} {tys : List (ClassId × FieldType)} {a : Nat} (hexec : p.tables.exec = Jvm.exec) (hb : c.code = cc) (hK : va_K D cl tys s) (hP : va_P D cl ws H) (q0 t0 : Nat) {cA : ClassId} {n : Nat} {f : Nat → UInt64} (ha : ws[q0]? = some (a, .inl (cA, n, .inr (.inr (.inr (.inl f)))))) (ht : tys[t0]? = some (cA, .double)) {i : Int32} (hout : ¬ vp_in i n) (hdg : decode cc pc = .ok (.daload, 1))
    (k : ∀ tx : String, tx = (toString "Index " ++ toString i ++ toString " out of bounds for length " ++ toString n : String) → vx_Note p l e R s m args below meth c H locs cells slots Q (F0 m pc ls rest) "java/lang/ArrayIndexOutOfBoundsException" tx) : W p l e R s m args below meth c H locs cells slots Q (F0 m pc ls (.int i :: .ref a :: rest)) := by
  intro T hT X
  obtain ⟨t, st, q⟩ := k _ rfl T hT X
  refine ⟨t, ?_, q⟩
  have h1 := X.daloadOut hexec (by rw [hT]; exact hP q0 _ ha) ((hK.2 t0 _ ht).1 n (fun j => .double (f j))) (j := i) (by show (i < 0 ∨ (arrV _ _ _).slots.size ≤ _); rw [arrV_size]; exact Classical.byContradiction hout) (g := F0 m pc ls (.int i :: .ref a :: rest)) rfl (rest := rest) rfl (by rw [hb]; exact hdg) t
  simp only [arrV_size] at h1
  exact h1 st
theorem vx_dastZ {D : va_G} {cl : List vw_C} {ws : va_W} {tys : List (ClassId × FieldType)} {a : Nat} (hexec : p.tables.exec = Jvm.exec) (hb : c.code = cc) (hK : va_K D cl tys s) (hP : va_P D cl ws H) (q0 t0 : Nat) {cA : ClassId} {n : Nat} {f : Nat → UInt64} (ha : ws[q0]? = some (a, .inl (cA, n, .inr (.inr (.inr (.inl f)))))) (ht : tys[t0]? = some (cA, .double)) {i : Int32} {x : UInt64} (hout : ¬ vp_in i n) (hdg : decode cc pc = .ok (.dastore, 1))
    (k : ∀ tx : String, tx = (toString "Index " ++ toString i ++ toString " out of bounds for length " ++ toString n : String) → vx_Note p l e R s m args below meth c H locs cells slots Q (F0 m pc ls rest) "java/lang/ArrayIndexOutOfBoundsException" tx) : W p l e R s m args below meth c H locs cells slots Q (F0 m pc ls (.double x :: .int i :: .ref a :: rest)) := by
  intro T hT X
  obtain ⟨t, st, q⟩ := k _ rfl T hT X
  refine ⟨t, ?_, q⟩
  have h1 := X.dastoreOut hexec (by rw [hT]; exact hP q0 _ ha) ((hK.2 t0 _ ht).1 n (fun j => .double (f j))) (j := i) (by show (i < 0 ∨ (arrV _ _ _).slots.size ≤ _); rw [arrV_size]; exact Classical.byContradiction hout) (g := F0 m pc ls (.double x :: .int i :: .ref a :: rest)) rfl (rest := rest) rfl (by rw [hb]; exact hdg) t
  simp only [arrV_size] at h1
  exact h1 st
theorem vx_arraylengthN (hexec : p.tables.exec = Jvm.exec) (hb : c.code = cc) (hdg : decode cc pc = .ok (.arraylength, 1)) (k : vx_NoteN p l e R s m args below meth c H locs cells slots Q (F0 m pc ls rest)) : W p l e R s m args below meth c H locs cells slots Q (F0 m pc ls (.null :: rest)) := by
  intro T hT X
  obtain ⟨t, st, q⟩ := k T hT X
  exact ⟨t, X.arraylengthNull hexec (g := F0 m pc ls (.null :: rest)) rfl (rest := rest) rfl (by rw [hb]; exact hdg) t st, q⟩
theorem vx_ialoadN (hexec : p.tables.exec = Jvm.exec) (hb : c.code = cc) {i : Int32} (hdg : decode cc pc = .ok (.iaload, 1)) (k : vx_NoteN p l e R s m args below meth c H locs cells slots Q (F0 m pc ls rest)) : W p l e R s m args below meth c H locs cells slots Q (F0 m pc ls (.int i :: .null :: rest)) := by
  intro T hT X
  obtain ⟨t, st, q⟩ := k T hT X
  exact ⟨t, X.ialoadNull hexec (g := F0 m pc ls (.int i :: .null :: rest)) rfl (rest := rest) rfl (by rw [hb]; exact hdg) t st, q⟩
theorem vx_laloadN (hexec : p.tables.exec = Jvm.exec) (hb : c.code = cc) {i : Int32} (hdg : decode cc pc = .ok (.laload, 1)) (k : vx_NoteN p l e R s m args below meth c H locs cells slots Q (F0 m pc ls rest)) : W p l e R s m args below meth c H locs cells slots Q (F0 m pc ls (.int i :: .null :: rest)) := by
  intro T hT X
  obtain ⟨t, st, q⟩ := k T hT X
  exact ⟨t, X.laloadNull hexec (g := F0 m pc ls (.int i :: .null :: rest)) rfl (rest := rest) rfl (by rw [hb]; exact hdg) t st, q⟩
theorem vx_faloadN (hexec : p.tables.exec = Jvm.exec) (hb : c.code = cc) {i : Int32} (hdg : decode cc pc = .ok (.faload, 1)) (k : vx_NoteN p l e R s m args below meth c H locs cells slots Q (F0 m pc ls rest)) : W p l e R s m args below meth c H locs cells slots Q (F0 m pc ls (.int i :: .null :: rest)) := by
  intro T hT X
  obtain ⟨t, st, q⟩ := k T hT X
  exact ⟨t, X.faloadNull hexec (g := F0 m pc ls (.int i :: .null :: rest)) rfl (rest := rest) rfl (by rw [hb]; exact hdg) t st, q⟩
theorem vx_daloadN (hexec : p.tables.exec = Jvm.exec) (hb : c.code = cc) {i : Int32} (hdg : decode cc pc = .ok (.daload, 1)) (k : vx_NoteN p l e R s m args below meth c H locs cells slots Q (F0 m pc ls rest)) : W p l e R s m args below meth c H locs cells slots Q (F0 m pc ls (.int i :: .null :: rest)) := by
  intro T hT X
  obtain ⟨t, st, q⟩ := k T hT X
  exact ⟨t, X.daloadNull hexec (g := F0 m pc ls (.int i :: .null :: rest)) rfl (rest := rest) rfl (by rw [hb]; exact hdg) t st, q⟩
theorem vx_aaloadN (hexec : p.tables.exec = Jvm.exec) (hb : c.code = cc) {i : Int32} (hdg : decode cc pc = .ok (.aaload, 1)) (k : vx_NoteN p l e R s m args below meth c H locs cells slots Q (F0 m pc ls rest)) : W p l e R s m args below meth c H locs cells slots Q (F0 m pc ls (.int i :: .null :: rest)) := by
  intro T hT X
  obtain ⟨t, st, q⟩ := k T hT X
  exact ⟨t, X.aaloadNull hexec (g := F0 m pc ls (.int i :: .null :: rest)) rfl (rest := rest) rfl (by rw [hb]; exact hdg) t st, q⟩
theorem vx_baloadN (hexec : p.tables.exec = Jvm.exec) (hb : c.code = cc) {i : Int32} (hdg : decode cc pc = .ok (.baload, 1)) (k : vx_NoteN p l e R s m args below meth c H locs cells slots Q (F0 m pc ls rest)) : W p l e R s m args below meth c H locs cells slots Q (F0 m pc ls (.int i :: .null :: rest)) := by
  intro T hT X
  obtain ⟨t, st, q⟩ := k T hT X
  exact ⟨t, X.baloadNull hexec (g := F0 m pc ls (.int i :: .null :: rest)) rfl (rest := rest) rfl (by rw [hb]; exact hdg) t st, q⟩
theorem vx_caloadN (hexec : p.tables.exec = Jvm.exec) (hb : c.code = cc) {i : Int32} (hdg : decode cc pc = .ok (.caload, 1)) (k : vx_NoteN p l e R s m args below meth c H locs cells slots Q (F0 m pc ls rest)) : W p l e R s m args below meth c H locs cells slots Q (F0 m pc ls (.int i :: .null :: rest)) := by
  intro T hT X
  obtain ⟨t, st, q⟩ := k T hT X
  exact ⟨t, X.caloadNull hexec (g := F0 m pc ls (.int i :: .null :: rest)) rfl (rest := rest) rfl (by rw [hb]; exact hdg) t st, q⟩
theorem vx_saloadN (hexec : p.tables.exec = Jvm.exec) (hb : c.code = cc) {i : Int32} (hdg : decode cc pc = .ok (.saload, 1)) (k : vx_NoteN p l e R s m args below meth c H locs cells slots Q (F0 m pc ls rest)) : W p l e R s m args below meth c H locs cells slots Q (F0 m pc ls (.int i :: .null :: rest)) := by
  intro T hT X
  obtain ⟨t, st, q⟩ := k T hT X
  exact ⟨t, X.saloadNull hexec (g := F0 m pc ls (.int i :: .null :: rest)) rfl (rest := rest) rfl (by rw [hb]; exact hdg) t st, q⟩
theorem vx_iastoreN (hexec : p.tables.exec = Jvm.exec) (hb : c.code = cc) {x : Int32} {i : Int32} (hdg : decode cc pc = .ok (.iastore, 1)) (k : vx_NoteN p l e R s m args below meth c H locs cells slots Q (F0 m pc ls rest)) : W p l e R s m args below meth c H locs cells slots Q (F0 m pc ls (.int x :: .int i :: .null :: rest)) := by
  intro T hT X
  obtain ⟨t, st, q⟩ := k T hT X
  exact ⟨t, X.iastoreNull hexec (g := F0 m pc ls (.int x :: .int i :: .null :: rest)) rfl (rest := rest) rfl (by rw [hb]; exact hdg) t st, q⟩
theorem vx_lastoreN (hexec : p.tables.exec = Jvm.exec) (hb : c.code = cc) {x : Int64} {i : Int32} (hdg : decode cc pc = .ok (.lastore, 1)) (k : vx_NoteN p l e R s m args below meth c H locs cells slots Q (F0 m pc ls rest)) : W p l e R s m args below meth c H locs cells slots Q (F0 m pc ls (.long x :: .int i :: .null :: rest)) := by
  intro T hT X
  obtain ⟨t, st, q⟩ := k T hT X
  exact ⟨t, X.lastoreNull hexec (g := F0 m pc ls (.long x :: .int i :: .null :: rest)) rfl (rest := rest) rfl (by rw [hb]; exact hdg) t st, q⟩
theorem vx_fastoreN (hexec : p.tables.exec = Jvm.exec) (hb : c.code = cc) {x : UInt32} {i : Int32} (hdg : decode cc pc = .ok (.fastore, 1)) (k : vx_NoteN p l e R s m args below meth c H locs cells slots Q (F0 m pc ls rest)) : W p l e R s m args below meth c H locs cells slots Q (F0 m pc ls (.float x :: .int i :: .null :: rest)) := by
  intro T hT X
  obtain ⟨t, st, q⟩ := k T hT X
  exact ⟨t, X.fastoreNull hexec (g := F0 m pc ls (.float x :: .int i :: .null :: rest)) rfl (rest := rest) rfl (by rw [hb]; exact hdg) t st, q⟩
theorem vx_dastoreN (hexec : p.tables.exec = Jvm.exec) (hb : c.code = cc) {x : UInt64} {i : Int32} (hdg : decode cc pc = .ok (.dastore, 1)) (k : vx_NoteN p l e R s m args below meth c H locs cells slots Q (F0 m pc ls rest)) : W p l e R s m args below meth c H locs cells slots Q (F0 m pc ls (.double x :: .int i :: .null :: rest)) := by
  intro T hT X
  obtain ⟨t, st, q⟩ := k T hT X
  exact ⟨t, X.dastoreNull hexec (g := F0 m pc ls (.double x :: .int i :: .null :: rest)) rfl (rest := rest) rfl (by rw [hb]; exact hdg) t st, q⟩
theorem vx_bastoreN (hexec : p.tables.exec = Jvm.exec) (hb : c.code = cc) {x : Int32} {i : Int32} (hdg : decode cc pc = .ok (.bastore, 1)) (k : vx_NoteN p l e R s m args below meth c H locs cells slots Q (F0 m pc ls rest)) : W p l e R s m args below meth c H locs cells slots Q (F0 m pc ls (.int x :: .int i :: .null :: rest)) := by
  intro T hT X
  obtain ⟨t, st, q⟩ := k T hT X
  exact ⟨t, X.bastoreNull hexec (g := F0 m pc ls (.int x :: .int i :: .null :: rest)) rfl (rest := rest) rfl (by rw [hb]; exact hdg) t st, q⟩
theorem vx_castoreN (hexec : p.tables.exec = Jvm.exec) (hb : c.code = cc) {x : Int32} {i : Int32} (hdg : decode cc pc = .ok (.castore, 1)) (k : vx_NoteN p l e R s m args below meth c H locs cells slots Q (F0 m pc ls rest)) : W p l e R s m args below meth c H locs cells slots Q (F0 m pc ls (.int x :: .int i :: .null :: rest)) := by
  intro T hT X
  obtain ⟨t, st, q⟩ := k T hT X
  exact ⟨t, X.castoreNull hexec (g := F0 m pc ls (.int x :: .int i :: .null :: rest)) rfl (rest := rest) rfl (by rw [hb]; exact hdg) t st, q⟩
theorem vx_sastoreN (hexec : p.tables.exec = Jvm.exec) (hb : c.code = cc) {x : Int32} {i : Int32} (hdg : decode cc pc = .ok (.sastore, 1)) (k : vx_NoteN p l e R s m args below meth c H locs cells slots Q (F0 m pc ls rest)) : W p l e R s m args below meth c H locs cells slots Q (F0 m pc ls (.int x :: .int i :: .null :: rest)) := by
  intro T hT X
  obtain ⟨t, st, q⟩ := k T hT X
  exact ⟨t, X.sastoreNull hexec (g := F0 m pc ls (.int x :: .int i :: .null :: rest)) rfl (rest := rest) rfl (by rw [hb]; exact hdg) t st, q⟩
theorem vx_invokeN {own C : String} {index maxL : Nat} {y : MethodName} {bytes : ByteArray} {ret : Option FieldType} (hexec : p.tables.exec = Jvm.exec) (hb : c.code = cc) (hown : s.vm.findClass own = some m.cls) (hlink : (Cond.methodLink own index y).before args s = true) (hinst : (Cond.instanceMethod y).before args s = true) (hcode : (Cond.code y bytes maxL ret).before args s = true) (hsel : (Cond.selects C y y).before args s = true)
    (hx : y.cls ≠ "java/lang/invoke/MethodHandle" ∧ y.cls ≠ "java/lang/invoke/VarHandle") {As : List Value} (hlen : (parseMethodDescriptor y.desc).map (fun d => d.parameters.length) = some As.length) (hdg : decode cc pc = .ok (.invokevirtual index, 3))
    (k : vx_NoteN p l e R s m args below meth c H locs cells slots Q (F0 m pc ls rest)) {st0 : List Value} (hst : st0 = As.reverse ++ .null :: rest) : W p l e R s m args below meth c H locs cells slots Q (F0 m pc ls st0) := by
  intro T hT X
  obtain ⟨r0, r, hn, hrm, hstR, hsigR⟩ := va_Decl.of hinst hcode
  obtain ⟨c2, r2, m2, q1, q2, q3, q4, kP, hkP, hkPi⟩ := Cond.selects_spec hsel
  cases hn.symm.trans q3
  have hl9 : As.length = r.sig.parameters.length := by
    rw [hsigR] at hlen
    exact (Option.some.inj hlen).symm
  obtain ⟨vm', X1, st1⟩ := X.invokevirtualNull hexec hown hlink hn hrm hstR hkP hkPi hx (g := F0 m pc ls st0) rfl (argsL := As) (rest := rest) hl9 hst (by rw [hb]; exact hdg)
  obtain ⟨t, st, q⟩ := k (T.setVm vm') hT X1
  exact ⟨t, st1 t st, q⟩
theorem vx_newarrayZ {atype : ArrayType} (hexec : p.tables.exec = Jvm.exec) (hb : c.code = cc) {n : Int32} (h0 : n < 0) (hdg : decode cc pc = .ok (.newarray atype, 2)) (k : ∀ tx : String, tx = toString n → vx_Note p l e R s m args below meth c H locs cells slots Q (F0 m pc ls rest) "java/lang/NegativeArraySizeException" tx) : W p l e R s m args below meth c H locs cells slots Q (F0 m pc ls (.int n :: rest)) := by
  intro T hT X
  obtain ⟨t, st, q⟩ := k _ rfl T hT X
  exact ⟨t, X.newarrayNegative hexec (g := F0 m pc ls (.int n :: rest)) rfl h0 (rest := rest) rfl (by rw [hb]; exact hdg) t st, q⟩
end
end VXM
/-! ===== END ===== -/

/-! ===== BEGIN printed: names, fields, word lists, decode rows ===== -/
def RX0 : String := "TalkRebuilder$Alignment"
def TX0 : u_T := fun k => match k with
  | 0 => ("TalkRebuilder$Alignment", "wanted", "[I", true)
  | 1 => ("TalkRebuilder$Alignment", "offered", "[I", true)
  | _ => ("TalkRebuilder$Alignment", "most", "[[I", true)
def tyX0 : Nat → FieldType := fun k => match k with
  | 0 => .array .int
  | 1 => .array .int
  | _ => .array (.array .int)
abbrev wsX00 : List Cond := u_ws RX0 TX0 3
theorem nmX0 : ∀ a, a < 3 → ∀ b, b < 3 → a ≠ b → (TX0 a).2.1 ≠ (TX0 b).2.1 := by decide +kernel
theorem tyX0_ok : ∀ k, k < 3 → parseFieldDescriptor (TX0 k).2.2.1 = some (tyX0 k) := by decide +kernel
abbrev cX0_init : ByteArray := prog_2_method_1_code
def yX0_init : MethodName := ⟨RX0, "<init>", "()V"⟩
abbrev cX0_clear : ByteArray := prog_2_method_2_code
def yX0_clear : MethodName := ⟨RX0, "clear", "()V"⟩
abbrev cX0_putLine : ByteArray := prog_2_method_3_code
def yX0_putLine : MethodName := ⟨RX0, "putLine", "(III)V"⟩
abbrev cX0_putParentLine : ByteArray := prog_2_method_4_code
def yX0_putParentLine : MethodName := ⟨RX0, "putParentLine", "(III)V"⟩
abbrev cX0_markedWord : ByteArray := prog_2_method_5_code
def yX0_markedWord : MethodName := ⟨RX0, "markedWord", "(II)I"⟩
abbrev cX0_fillTable : ByteArray := prog_2_method_6_code
def yX0_fillTable : MethodName := ⟨RX0, "fillTable", "()V"⟩
abbrev cX0_mostPartners : ByteArray := prog_2_method_7_code
def yX0_mostPartners : MethodName := ⟨RX0, "mostPartners", "()I"⟩
abbrev cX0_earliestPartner : ByteArray := prog_2_method_8_code
def yX0_earliestPartner : MethodName := ⟨RX0, "earliestPartner", "(II)I"⟩
abbrev cX0_mostPartnersByTrying : ByteArray := prog_2_method_9_code
def yX0_mostPartnersByTrying : MethodName := ⟨RX0, "mostPartnersByTrying", "()I"⟩
abbrev cX0_tryFrom : ByteArray := prog_2_method_10_code
def yX0_tryFrom : MethodName := ⟨RX0, "tryFrom", "([I[III)I"⟩
def RX1 : String := "TalkRebuilder"
def TX1 : u_T := fun k => match k with
  | 0 => ("TalkRebuilder", "mailCount", "I", false)
  | 1 => ("TalkRebuilder", "dates", "[I", true)
  | 2 => ("TalkRebuilder", "authors", "[I", true)
  | 3 => ("TalkRebuilder", "subjects", "[I", true)
  | 4 => ("TalkRebuilder", "answeredDates", "[I", true)
  | 5 => ("TalkRebuilder", "lineCounts", "[I", true)
  | 6 => ("TalkRebuilder", "marksAt", "[I", true)
  | 7 => ("TalkRebuilder", "wordsAt", "[I", true)
  | 8 => ("TalkRebuilder", "partnersAt", "[I", true)
  | 9 => ("TalkRebuilder", "alignment", "LTalkRebuilder$Alignment;", true)
  | 10 => ("TalkRebuilder", "counted", "[Z", true)
  | _ => ("TalkRebuilder", "roots", "[I", true)
def tyX1 : Nat → FieldType := fun k => match k with
  | 0 => .int
  | 1 => .array .int
  | 2 => .array .int
  | 3 => .array .int
  | 4 => .array .int
  | 5 => .array .int
  | 6 => .array .int
  | 7 => .array .int
  | 8 => .array .int
  | 9 => .object "TalkRebuilder$Alignment"
  | 10 => .array .boolean
  | _ => .array .int
abbrev wsX10 : List Cond := u_ws RX1 TX1 12
theorem nmX1 : ∀ a, a < 12 → ∀ b, b < 12 → a ≠ b → (TX1 a).2.1 ≠ (TX1 b).2.1 := by decide +kernel
theorem tyX1_ok : ∀ k, k < 12 → parseFieldDescriptor (TX1 k).2.2.1 = some (tyX1 k) := by decide +kernel
abbrev cX1_init : ByteArray := prog_1_method_1_code
def yX1_init : MethodName := ⟨RX1, "<init>", "()V"⟩
abbrev cX1_arrive : ByteArray := prog_1_method_2_code
def yX1_arrive : MethodName := ⟨RX1, "arrive", "(IIII)I"⟩
abbrev cX1_addLine : ByteArray := prog_1_method_3_code
def yX1_addLine : MethodName := ⟨RX1, "addLine", "(III)I"⟩
abbrev cX1_removeLine : ByteArray := prog_1_method_4_code
def yX1_removeLine : MethodName := ⟨RX1, "removeLine", "(I)I"⟩
abbrev cX1_mails : ByteArray := prog_1_method_5_code
def yX1_mails : MethodName := ⟨RX1, "mails", "()I"⟩
abbrev cX1_lines : ByteArray := prog_1_method_6_code
def yX1_lines : MethodName := ⟨RX1, "lines", "(I)I"⟩
abbrev cX1_word : ByteArray := prog_1_method_7_code
def yX1_word : MethodName := ⟨RX1, "word", "(II)I"⟩
abbrev cX1_parent : ByteArray := prog_1_method_8_code
def yX1_parent : MethodName := ⟨RX1, "parent", "(I)I"⟩
abbrev cX1_missing : ByteArray := prog_1_method_9_code
def yX1_missing : MethodName := ⟨RX1, "missing", "()I"⟩
abbrev cX1_aligned : ByteArray := prog_1_method_10_code
def yX1_aligned : MethodName := ⟨RX1, "aligned", "(I)I"⟩
abbrev cX1_alignedByTrying : ByteArray := prog_1_method_11_code
def yX1_alignedByTrying : MethodName := ⟨RX1, "alignedByTrying", "(I)I"⟩
abbrev cX1_partner : ByteArray := prog_1_method_12_code
def yX1_partner : MethodName := ⟨RX1, "partner", "(II)I"⟩
abbrev cX1_originMail : ByteArray := prog_1_method_13_code
def yX1_originMail : MethodName := ⟨RX1, "originMail", "(II)I"⟩
abbrev cX1_originLine : ByteArray := prog_1_method_14_code
def yX1_originLine : MethodName := ⟨RX1, "originLine", "(II)I"⟩
abbrev cX1_kind : ByteArray := prog_1_method_15_code
def yX1_kind : MethodName := ⟨RX1, "kind", "(II)C"⟩
abbrev cX1_signature : ByteArray := prog_1_method_16_code
def yX1_signature : MethodName := ⟨RX1, "signature", "(I)I"⟩
abbrev cX1_answersMail : ByteArray := prog_1_method_17_code
def yX1_answersMail : MethodName := ⟨RX1, "answersMail", "(II)I"⟩
abbrev cX1_answersLine : ByteArray := prog_1_method_18_code
def yX1_answersLine : MethodName := ⟨RX1, "answersLine", "(II)I"⟩
abbrev cX1_answers : ByteArray := prog_1_method_19_code
def yX1_answers : MethodName := ⟨RX1, "answers", "(II)I"⟩
abbrev cX1_talk : ByteArray := prog_1_method_20_code
def yX1_talk : MethodName := ⟨RX1, "talk", "()I"⟩
abbrev cX1_talkByOrigins : ByteArray := prog_1_method_21_code
def yX1_talkByOrigins : MethodName := ⟨RX1, "talkByOrigins", "()I"⟩
abbrev cX1_copies : ByteArray := prog_1_method_22_code
def yX1_copies : MethodName := ⟨RX1, "copies", "(II)I"⟩
abbrev cX1_root : ByteArray := prog_1_method_23_code
def yX1_root : MethodName := ⟨RX1, "root", "(I)I"⟩
abbrev cX1_rootByRounds : ByteArray := prog_1_method_24_code
def yX1_rootByRounds : MethodName := ⟨RX1, "rootByRounds", "(I)I"⟩
abbrev cX1_threads : ByteArray := prog_1_method_25_code
def yX1_threads : MethodName := ⟨RX1, "threads", "()I"⟩
abbrev cX1_size : ByteArray := prog_1_method_26_code
def yX1_size : MethodName := ⟨RX1, "size", "(I)I"⟩
abbrev cX1_newShare : ByteArray := prog_1_method_27_code
def yX1_newShare : MethodName := ⟨RX1, "newShare", "()F"⟩
abbrev cX1_meanSize : ByteArray := prog_1_method_28_code
def yX1_meanSize : MethodName := ⟨RX1, "meanSize", "()D"⟩
abbrev cX1_isWithin : ByteArray := prog_1_method_29_code
def yX1_isWithin : MethodName := ⟨RX1, "isWithin", "(III)Z"⟩
abbrev cX1_requireMail : ByteArray := prog_1_method_30_code
def yX1_requireMail : MethodName := ⟨RX1, "requireMail", "(I)V"⟩
abbrev cX1_requireLine : ByteArray := prog_1_method_31_code
def yX1_requireLine : MethodName := ⟨RX1, "requireLine", "(II)V"⟩
abbrev cX1_requireAnswered : ByteArray := prog_1_method_32_code
def yX1_requireAnswered : MethodName := ⟨RX1, "requireAnswered", "(I)I"⟩
abbrev cX1_placeOf : ByteArray := prog_1_method_33_code
def yX1_placeOf : MethodName := ⟨RX1, "placeOf", "(II)I"⟩
abbrev cX1_mailAt : ByteArray := prog_1_method_34_code
def yX1_mailAt : MethodName := ⟨RX1, "mailAt", "(I)I"⟩
abbrev cX1_lineAt : ByteArray := prog_1_method_35_code
def yX1_lineAt : MethodName := ⟨RX1, "lineAt", "(I)I"⟩
abbrev cX1_isLine : ByteArray := prog_1_method_36_code
def yX1_isLine : MethodName := ⟨RX1, "isLine", "(I)Z"⟩
abbrev cX1_mailOfDate : ByteArray := prog_1_method_37_code
def yX1_mailOfDate : MethodName := ⟨RX1, "mailOfDate", "(I)I"⟩
abbrev cX1_parentOf : ByteArray := prog_1_method_38_code
def yX1_parentOf : MethodName := ⟨RX1, "parentOf", "(I)I"⟩
abbrev cX1_answersMissing : ByteArray := prog_1_method_39_code
def yX1_answersMissing : MethodName := ⟨RX1, "answersMissing", "(I)Z"⟩
abbrev cX1_isFirstToAnswerItsDate : ByteArray := prog_1_method_40_code
def yX1_isFirstToAnswerItsDate : MethodName := ⟨RX1, "isFirstToAnswerItsDate", "(I)Z"⟩
abbrev cX1_realignAround : ByteArray := prog_1_method_41_code
def yX1_realignAround : MethodName := ⟨RX1, "realignAround", "(I)V"⟩
abbrev cX1_realign : ByteArray := prog_1_method_42_code
def yX1_realign : MethodName := ⟨RX1, "realign", "(I)V"⟩
abbrev cX1_faceParent : ByteArray := prog_1_method_43_code
def yX1_faceParent : MethodName := ⟨RX1, "faceParent", "(I)V"⟩
abbrev cX1_hasPartner : ByteArray := prog_1_method_44_code
def yX1_hasPartner : MethodName := ⟨RX1, "hasPartner", "(I)Z"⟩
abbrev cX1_originOf : ByteArray := prog_1_method_45_code
def yX1_originOf : MethodName := ⟨RX1, "originOf", "(I)I"⟩
abbrev cX1_kindAt : ByteArray := prog_1_method_46_code
def yX1_kindAt : MethodName := ⟨RX1, "kindAt", "(I)C"⟩
abbrev cX1_isDouble : ByteArray := prog_1_method_47_code
def yX1_isDouble : MethodName := ⟨RX1, "isDouble", "(I)Z"⟩
abbrev cX1_isEarlier : ByteArray := prog_1_method_48_code
def yX1_isEarlier : MethodName := ⟨RX1, "isEarlier", "(II)Z"⟩
abbrev cX1_signatureLength : ByteArray := prog_1_method_49_code
def yX1_signatureLength : MethodName := ⟨RX1, "signatureLength", "(I)I"⟩
abbrev cX1_commonEnd : ByteArray := prog_1_method_50_code
def yX1_commonEnd : MethodName := ⟨RX1, "commonEnd", "(II)I"⟩
abbrev cX1_isNew : ByteArray := prog_1_method_51_code
def yX1_isNew : MethodName := ⟨RX1, "isNew", "(I)Z"⟩
abbrev cX1_isInTalk : ByteArray := prog_1_method_52_code
def yX1_isInTalk : MethodName := ⟨RX1, "isInTalk", "(I)Z"⟩
abbrev cX1_answeredBy : ByteArray := prog_1_method_53_code
def yX1_answeredBy : MethodName := ⟨RX1, "answeredBy", "(I)I"⟩
abbrev cX1_countOnce : ByteArray := prog_1_method_54_code
def yX1_countOnce : MethodName := ⟨RX1, "countOnce", "(I)Z"⟩
abbrev cX1_parentInThread : ByteArray := prog_1_method_55_code
def yX1_parentInThread : MethodName := ⟨RX1, "parentInThread", "(I)I"⟩
abbrev cX1_rootOf : ByteArray := prog_1_method_56_code
def yX1_rootOf : MethodName := ⟨RX1, "rootOf", "(I)I"⟩
abbrev cX1_takeRootsOfParents : ByteArray := prog_1_method_57_code
def yX1_takeRootsOfParents : MethodName := ⟨RX1, "takeRootsOfParents", "()V"⟩
def RX2 : String := "TalkRebuilderModel"
def TX2 : u_T := fun k => match k with
  | 0 => ("TalkRebuilderModel", "thrown", "I", false)
  | 1 => ("TalkRebuilderModel", "mails", "I", false)
  | 2 => ("TalkRebuilderModel", "date", "[I", true)
  | 3 => ("TalkRebuilderModel", "author", "[I", true)
  | 4 => ("TalkRebuilderModel", "subject", "[I", true)
  | 5 => ("TalkRebuilderModel", "answered", "[I", true)
  | 6 => ("TalkRebuilderModel", "many", "[I", true)
  | 7 => ("TalkRebuilderModel", "marks", "[I", true)
  | 8 => ("TalkRebuilderModel", "words", "[I", true)
  | 9 => ("TalkRebuilderModel", "partnerOf", "[I", true)
  | _ => ("TalkRebuilderModel", "best", "[I", true)
def tyX2 : Nat → FieldType := fun k => match k with
  | 0 => .int
  | 1 => .int
  | 2 => .array .int
  | 3 => .array .int
  | 4 => .array .int
  | 5 => .array .int
  | 6 => .array .int
  | 7 => .array .int
  | 8 => .array .int
  | 9 => .array .int
  | _ => .array .int
abbrev wsX20 : List Cond := u_ws RX2 TX2 11
theorem nmX2 : ∀ a, a < 11 → ∀ b, b < 11 → a ≠ b → (TX2 a).2.1 ≠ (TX2 b).2.1 := by decide +kernel
theorem tyX2_ok : ∀ k, k < 11 → parseFieldDescriptor (TX2 k).2.2.1 = some (tyX2 k) := by decide +kernel
abbrev cX2_init : ByteArray := prog_4_method_1_code
def yX2_init : MethodName := ⟨RX2, "<init>", "()V"⟩
abbrev cX2_thrown : ByteArray := prog_4_method_2_code
def yX2_thrown : MethodName := ⟨RX2, "thrown", "()I"⟩
abbrev cX2_in : ByteArray := prog_4_method_3_code
def yX2_in : MethodName := ⟨RX2, "in", "(III)Z"⟩
abbrev cX2_fails : ByteArray := prog_4_method_4_code
def yX2_fails : MethodName := ⟨RX2, "fails", "(I)I"⟩
abbrev cX2_tells : ByteArray := prog_4_method_5_code
def yX2_tells : MethodName := ⟨RX2, "tells", "(I)I"⟩
abbrev cX2_isMail : ByteArray := prog_4_method_6_code
def yX2_isMail : MethodName := ⟨RX2, "isMail", "(I)Z"⟩
abbrev cX2_isLine : ByteArray := prog_4_method_7_code
def yX2_isLine : MethodName := ⟨RX2, "isLine", "(II)Z"⟩
abbrev cX2_dated : ByteArray := prog_4_method_8_code
def yX2_dated : MethodName := ⟨RX2, "dated", "(I)I"⟩
abbrev cX2_arrive : ByteArray := prog_4_method_9_code
def yX2_arrive : MethodName := ⟨RX2, "arrive", "(IIII)I"⟩
abbrev cX2_addLine : ByteArray := prog_4_method_10_code
def yX2_addLine : MethodName := ⟨RX2, "addLine", "(III)I"⟩
abbrev cX2_removeLine : ByteArray := prog_4_method_11_code
def yX2_removeLine : MethodName := ⟨RX2, "removeLine", "(I)I"⟩
abbrev cX2_mails : ByteArray := prog_4_method_12_code
def yX2_mails : MethodName := ⟨RX2, "mails", "()I"⟩
abbrev cX2_lines : ByteArray := prog_4_method_13_code
def yX2_lines : MethodName := ⟨RX2, "lines", "(I)I"⟩
abbrev cX2_word : ByteArray := prog_4_method_14_code
def yX2_word : MethodName := ⟨RX2, "word", "(II)I"⟩
abbrev cX2_parentOf : ByteArray := prog_4_method_15_code
def yX2_parentOf : MethodName := ⟨RX2, "parentOf", "(I)I"⟩
abbrev cX2_parent : ByteArray := prog_4_method_16_code
def yX2_parent : MethodName := ⟨RX2, "parent", "(I)I"⟩
abbrev cX2_missing : ByteArray := prog_4_method_17_code
def yX2_missing : MethodName := ⟨RX2, "missing", "()I"⟩
abbrev cX2_fits : ByteArray := prog_4_method_18_code
def yX2_fits : MethodName := ⟨RX2, "fits", "(II)Z"⟩
abbrev cX2_aligns : ByteArray := prog_4_method_19_code
def yX2_aligns : MethodName := ⟨RX2, "aligns", "(I)V"⟩
abbrev cX2_alignsAll : ByteArray := prog_4_method_20_code
def yX2_alignsAll : MethodName := ⟨RX2, "alignsAll", "()V"⟩
abbrev cX2_alignedOf : ByteArray := prog_4_method_21_code
def yX2_alignedOf : MethodName := ⟨RX2, "alignedOf", "(I)I"⟩
abbrev cX2_aligned : ByteArray := prog_4_method_22_code
def yX2_aligned : MethodName := ⟨RX2, "aligned", "(I)I"⟩
abbrev cX2_alignedByTrying : ByteArray := prog_4_method_23_code
def yX2_alignedByTrying : MethodName := ⟨RX2, "alignedByTrying", "(I)I"⟩
abbrev cX2_partner : ByteArray := prog_4_method_24_code
def yX2_partner : MethodName := ⟨RX2, "partner", "(II)I"⟩
abbrev cX2_origin : ByteArray := prog_4_method_25_code
def yX2_origin : MethodName := ⟨RX2, "origin", "(II)I"⟩
abbrev cX2_originMail : ByteArray := prog_4_method_26_code
def yX2_originMail : MethodName := ⟨RX2, "originMail", "(II)I"⟩
abbrev cX2_originLine : ByteArray := prog_4_method_27_code
def yX2_originLine : MethodName := ⟨RX2, "originLine", "(II)I"⟩
abbrev cX2_endAlike : ByteArray := prog_4_method_28_code
def yX2_endAlike : MethodName := ⟨RX2, "endAlike", "(III)Z"⟩
abbrev cX2_signed : ByteArray := prog_4_method_29_code
def yX2_signed : MethodName := ⟨RX2, "signed", "(I)I"⟩
abbrev cX2_stoodBefore : ByteArray := prog_4_method_30_code
def yX2_stoodBefore : MethodName := ⟨RX2, "stoodBefore", "(II)Z"⟩
abbrev cX2_kindOf : ByteArray := prog_4_method_31_code
def yX2_kindOf : MethodName := ⟨RX2, "kindOf", "(II)C"⟩
abbrev cX2_isTalk : ByteArray := prog_4_method_32_code
def yX2_isTalk : MethodName := ⟨RX2, "isTalk", "(II)Z"⟩
abbrev cX2_kind : ByteArray := prog_4_method_33_code
def yX2_kind : MethodName := ⟨RX2, "kind", "(II)C"⟩
abbrev cX2_signature : ByteArray := prog_4_method_34_code
def yX2_signature : MethodName := ⟨RX2, "signature", "(I)I"⟩
abbrev cX2_answersOf : ByteArray := prog_4_method_35_code
def yX2_answersOf : MethodName := ⟨RX2, "answersOf", "(II)I"⟩
abbrev cX2_asksAnswered : ByteArray := prog_4_method_36_code
def yX2_asksAnswered : MethodName := ⟨RX2, "asksAnswered", "(II)I"⟩
abbrev cX2_answersMail : ByteArray := prog_4_method_37_code
def yX2_answersMail : MethodName := ⟨RX2, "answersMail", "(II)I"⟩
abbrev cX2_answersLine : ByteArray := prog_4_method_38_code
def yX2_answersLine : MethodName := ⟨RX2, "answersLine", "(II)I"⟩
abbrev cX2_answers : ByteArray := prog_4_method_39_code
def yX2_answers : MethodName := ⟨RX2, "answers", "(II)I"⟩
abbrev cX2_talkOf : ByteArray := prog_4_method_40_code
def yX2_talkOf : MethodName := ⟨RX2, "talkOf", "()I"⟩
abbrev cX2_talk : ByteArray := prog_4_method_41_code
def yX2_talk : MethodName := ⟨RX2, "talk", "()I"⟩
abbrev cX2_talkByOrigins : ByteArray := prog_4_method_42_code
def yX2_talkByOrigins : MethodName := ⟨RX2, "talkByOrigins", "()I"⟩
abbrev cX2_copies : ByteArray := prog_4_method_43_code
def yX2_copies : MethodName := ⟨RX2, "copies", "(II)I"⟩
abbrev cX2_rootOf : ByteArray := prog_4_method_44_code
def yX2_rootOf : MethodName := ⟨RX2, "rootOf", "(I)I"⟩
abbrev cX2_root : ByteArray := prog_4_method_45_code
def yX2_root : MethodName := ⟨RX2, "root", "(I)I"⟩
abbrev cX2_rootByRounds : ByteArray := prog_4_method_46_code
def yX2_rootByRounds : MethodName := ⟨RX2, "rootByRounds", "(I)I"⟩
abbrev cX2_heads : ByteArray := prog_4_method_47_code
def yX2_heads : MethodName := ⟨RX2, "heads", "()I"⟩
abbrev cX2_threads : ByteArray := prog_4_method_48_code
def yX2_threads : MethodName := ⟨RX2, "threads", "()I"⟩
abbrev cX2_size : ByteArray := prog_4_method_49_code
def yX2_size : MethodName := ⟨RX2, "size", "(I)I"⟩
abbrev cX2_newShare : ByteArray := prog_4_method_50_code
def yX2_newShare : MethodName := ⟨RX2, "newShare", "()F"⟩
abbrev cX2_meanSize : ByteArray := prog_4_method_51_code
def yX2_meanSize : MethodName := ⟨RX2, "meanSize", "()D"⟩
def RJx145de : String := "java/io/Serializable"
def TJx145de : u_T := fun k => match k with
  | _ => ("", "", "", false)
def tyJx145de : Nat → FieldType := fun k => match k with
  | _ => .int
abbrev wsJx145de0 : List Cond := u_ws RJx145de TJx145de 0
theorem nmJx145de : ∀ a, a < 0 → ∀ b, b < 0 → a ≠ b → (TJx145de a).2.1 ≠ (TJx145de b).2.1 := by decide +kernel
theorem tyJx145de_ok : ∀ k, k < 0 → parseFieldDescriptor (TJx145de k).2.2.1 = some (tyJx145de k) := by decide +kernel
def RJx00060 : String := "java/lang/ArrayIndexOutOfBoundsException"
def TJx00060 : u_T := fun k => match k with
  | 0 => ("java/lang/Throwable", "backtrace", "Ljava/lang/Object;", false)
  | 1 => ("java/lang/Throwable", "detailMessage", "Ljava/lang/String;", false)
  | 2 => ("java/lang/Throwable", "cause", "Ljava/lang/Throwable;", false)
  | 3 => ("java/lang/Throwable", "stackTrace", "[Ljava/lang/StackTraceElement;", false)
  | 4 => ("java/lang/Throwable", "depth", "I", false)
  | _ => ("java/lang/Throwable", "suppressedExceptions", "Ljava/util/List;", false)
def tyJx00060 : Nat → FieldType := fun k => match k with
  | 0 => .object "java/lang/Object"
  | 1 => .object "java/lang/String"
  | 2 => .object "java/lang/Throwable"
  | 3 => .array (.object "java/lang/StackTraceElement")
  | 4 => .int
  | _ => .object "java/util/List"
abbrev wsJx000600 : List Cond := u_ws RJx00060 TJx00060 6
theorem nmJx00060 : ∀ a, a < 6 → ∀ b, b < 6 → a ≠ b → (TJx00060 a).2.1 ≠ (TJx00060 b).2.1 := by decide +kernel
theorem tyJx00060_ok : ∀ k, k < 6 → parseFieldDescriptor (TJx00060 k).2.2.1 = some (tyJx00060 k) := by decide +kernel
abbrev cJx00060_init_a7421 : ByteArray := prog_7_method_2_code
def yJx00060_init_a7421 : MethodName := ⟨RJx00060, "<init>", "(Ljava/lang/String;)V"⟩
def RJ9 : String := "java/lang/Math"
def TJ9 : u_T := fun k => match k with
  | _ => ("", "", "", false)
def tyJ9 : Nat → FieldType := fun k => match k with
  | _ => .int
abbrev wsJ90 : List Cond := u_ws RJ9 TJ9 0
theorem nmJ9 : ∀ a, a < 0 → ∀ b, b < 0 → a ≠ b → (TJ9 a).2.1 ≠ (TJ9 b).2.1 := by decide +kernel
theorem tyJ9_ok : ∀ k, k < 0 → parseFieldDescriptor (TJ9 k).2.2.1 = some (tyJ9 k) := by decide +kernel
abbrev cJ9_max_7cf53 : ByteArray := prog_12_method_65_code
def yJ9_max_7cf53 : MethodName := ⟨RJ9, "max", "(II)I"⟩
abbrev cJ9_min_7cf53 : ByteArray := prog_12_method_69_code
def yJ9_min_7cf53 : MethodName := ⟨RJ9, "min", "(II)I"⟩
def RJ0 : String := "java/lang/String"
def TJ0 : u_T := fun k => match k with
  | 0 => ("java/lang/String", "value", "[B", true)
  | _ => ("java/lang/String", "coder", "B", true)
def tyJ0 : Nat → FieldType := fun k => match k with
  | 0 => .array .byte
  | _ => .byte
abbrev wsJ00 : List Cond := u_ws RJ0 TJ0 2
theorem nmJ0 : ∀ a, a < 2 → ∀ b, b < 2 → a ≠ b → (TJ0 a).2.1 ≠ (TJ0 b).2.1 := by decide +kernel
theorem tyJ0_ok : ∀ k, k < 2 → parseFieldDescriptor (TJ0 k).2.2.1 = some (tyJ0 k) := by decide +kernel
def RL : String := "TalkRebuilderLaw"
abbrev cL_arrive : ByteArray := method_3_code
def yL_arrive : MethodName := ⟨RL, "arrive", "(LTalkRebuilder;IIII[J)I"⟩
abbrev cL_addLine : ByteArray := method_4_code
def yL_addLine : MethodName := ⟨RL, "addLine", "(LTalkRebuilder;III[J)I"⟩
abbrev cL_removeLine : ByteArray := method_5_code
def yL_removeLine : MethodName := ⟨RL, "removeLine", "(LTalkRebuilder;I[J)I"⟩
abbrev cL_lines : ByteArray := method_6_code
def yL_lines : MethodName := ⟨RL, "lines", "(LTalkRebuilder;I[J)I"⟩
abbrev cL_word : ByteArray := method_7_code
def yL_word : MethodName := ⟨RL, "word", "(LTalkRebuilder;II[J)I"⟩
abbrev cL_parent : ByteArray := method_8_code
def yL_parent : MethodName := ⟨RL, "parent", "(LTalkRebuilder;I[J)I"⟩
abbrev cL_aligned : ByteArray := method_9_code
def yL_aligned : MethodName := ⟨RL, "aligned", "(LTalkRebuilder;I[J)I"⟩
abbrev cL_alignedByTrying : ByteArray := method_10_code
def yL_alignedByTrying : MethodName := ⟨RL, "alignedByTrying", "(LTalkRebuilder;I[J)I"⟩
abbrev cL_partner : ByteArray := method_11_code
def yL_partner : MethodName := ⟨RL, "partner", "(LTalkRebuilder;II[J)I"⟩
abbrev cL_originMail : ByteArray := method_12_code
def yL_originMail : MethodName := ⟨RL, "originMail", "(LTalkRebuilder;II[J)I"⟩
abbrev cL_originLine : ByteArray := method_13_code
def yL_originLine : MethodName := ⟨RL, "originLine", "(LTalkRebuilder;II[J)I"⟩
abbrev cL_kind : ByteArray := method_14_code
def yL_kind : MethodName := ⟨RL, "kind", "(LTalkRebuilder;II[J)I"⟩
abbrev cL_signature : ByteArray := method_15_code
def yL_signature : MethodName := ⟨RL, "signature", "(LTalkRebuilder;I[J)I"⟩
abbrev cL_answersMail : ByteArray := method_16_code
def yL_answersMail : MethodName := ⟨RL, "answersMail", "(LTalkRebuilder;II[J)I"⟩
abbrev cL_answersLine : ByteArray := method_17_code
def yL_answersLine : MethodName := ⟨RL, "answersLine", "(LTalkRebuilder;II[J)I"⟩
abbrev cL_answers : ByteArray := method_18_code
def yL_answers : MethodName := ⟨RL, "answers", "(LTalkRebuilder;II[J)I"⟩
abbrev cL_copies : ByteArray := method_19_code
def yL_copies : MethodName := ⟨RL, "copies", "(LTalkRebuilder;II[J)I"⟩
abbrev cL_root : ByteArray := method_20_code
def yL_root : MethodName := ⟨RL, "root", "(LTalkRebuilder;I[J)I"⟩
abbrev cL_rootByRounds : ByteArray := method_21_code
def yL_rootByRounds : MethodName := ⟨RL, "rootByRounds", "(LTalkRebuilder;I[J)I"⟩
abbrev cL_size : ByteArray := method_22_code
def yL_size : MethodName := ⟨RL, "size", "(LTalkRebuilder;I[J)I"⟩
abbrev cL_newShare : ByteArray := method_23_code
def yL_newShare : MethodName := ⟨RL, "newShare", "(LTalkRebuilder;[D)I"⟩
abbrev cL_meanSize : ByteArray := method_24_code
def yL_meanSize : MethodName := ⟨RL, "meanSize", "(LTalkRebuilder;[D)I"⟩
abbrev cL_law : ByteArray := code
def yL_law : MethodName := ⟨RL, "law", "([I)Z"⟩
def wsX0_init : List Cond := .code yX0_init cX0_init 1 none :: ([.methodLink RX0 3 objectInit, .instanceMethod objectInit, .code objectInit ⟨#[0xb1]⟩ 1 none, .arrayClass .int, .fieldLink RX0 9 "TalkRebuilder$Alignment" "wanted" "[I", .fieldLink RX0 15 "TalkRebuilder$Alignment" "offered" "[I", .classLink RX0 18 "[[I", .fieldLink RX0 20 "TalkRebuilder$Alignment" "most" "[[I"] ++ wsX00)
def wsX0_clear : List Cond := .code yX0_clear cX0_clear 2 none :: ([.fieldLink RX0 9 "TalkRebuilder$Alignment" "wanted" "[I", .fieldLink RX0 15 "TalkRebuilder$Alignment" "offered" "[I"] ++ wsX00 ++ (vx_atM "java/lang/ArrayIndexOutOfBoundsException" ["java/lang/IndexOutOfBoundsException", "java/lang/RuntimeException", "java/lang/Exception"]).filter goodWord)
def wsX1_isWithin : List Cond := .code yX1_isWithin cX1_isWithin 3 (some .boolean) :: ([])
def wsX0_markedWord : List Cond := .code yX0_markedWord cX0_markedWord 2 (some .int) :: ([])
def wsX0_putLine : List Cond := .code yX0_putLine cX0_putLine 4 none :: ([.fieldLink RX0 9 "TalkRebuilder$Alignment" "wanted" "[I", .static yX1_isWithin, .initialized RX1, .code yX1_isWithin cX1_isWithin 3 (some .boolean), .methodLink RX0 27 yX0_markedWord, .static yX0_markedWord, .initialized RX0, .code yX0_markedWord cX0_markedWord 2 (some .int)] ++ wsX00 ++ (vx_atM "java/lang/ArrayIndexOutOfBoundsException" ["java/lang/IndexOutOfBoundsException", "java/lang/RuntimeException", "java/lang/Exception"]).filter goodWord)
def wsX0_putParentLine : List Cond := .code yX0_putParentLine cX0_putParentLine 4 none :: ([.fieldLink RX0 15 "TalkRebuilder$Alignment" "offered" "[I", .static yX1_isWithin, .initialized RX1, .code yX1_isWithin cX1_isWithin 3 (some .boolean), .methodLink RX0 27 yX0_markedWord, .static yX0_markedWord, .initialized RX0, .code yX0_markedWord cX0_markedWord 2 (some .int)] ++ wsX00 ++ (vx_atM "java/lang/ArrayIndexOutOfBoundsException" ["java/lang/IndexOutOfBoundsException", "java/lang/RuntimeException", "java/lang/Exception"]).filter goodWord)
def wsX0_fillTable : List Cond := .code yX0_fillTable cX0_fillTable 4 none :: ([.fieldLink RX0 20 "TalkRebuilder$Alignment" "most" "[[I", .methodLink RX0 31 Lib.Math.max.name, .static Lib.Math.max.name, .initialized "java/lang/Math", .code Lib.Math.max.name Lib.Math.max.code 2 (some .int), .fieldLink RX0 9 "TalkRebuilder$Alignment" "wanted" "[I", .fieldLink RX0 15 "TalkRebuilder$Alignment" "offered" "[I"] ++ wsX00 ++ (vx_atM "java/lang/ArrayIndexOutOfBoundsException" ["java/lang/IndexOutOfBoundsException", "java/lang/RuntimeException", "java/lang/Exception"]).filter goodWord)
def wsX0_mostPartners : List Cond := .code yX0_mostPartners cX0_mostPartners 1 (some .int) :: ([.fieldLink RX0 20 "TalkRebuilder$Alignment" "most" "[[I"] ++ wsX00 ++ (vx_atM "java/lang/ArrayIndexOutOfBoundsException" ["java/lang/IndexOutOfBoundsException", "java/lang/RuntimeException", "java/lang/Exception"]).filter goodWord)
def wsX0_earliestPartner : List Cond := .code yX0_earliestPartner cX0_earliestPartner 4 (some .int) :: ([.fieldLink RX0 9 "TalkRebuilder$Alignment" "wanted" "[I", .fieldLink RX0 15 "TalkRebuilder$Alignment" "offered" "[I", .fieldLink RX0 20 "TalkRebuilder$Alignment" "most" "[[I", .static yX1_isWithin, .initialized RX1, .code yX1_isWithin cX1_isWithin 3 (some .boolean)] ++ wsX00 ++ (vx_atM "java/lang/ArrayIndexOutOfBoundsException" ["java/lang/IndexOutOfBoundsException", "java/lang/RuntimeException", "java/lang/Exception"]).filter goodWord)
def wsX0_tryFrom : List Cond := .code yX0_tryFrom cX0_tryFrom 6 (some .int) :: ([.methodLink RX0 31 Lib.Math.max.name, .static Lib.Math.max.name, .initialized "java/lang/Math", .code Lib.Math.max.name Lib.Math.max.code 2 (some .int), .methodLink RX0 36 yX0_tryFrom, .static yX0_tryFrom, .initialized RX0] ++ (vx_atM "java/lang/ArrayIndexOutOfBoundsException" ["java/lang/IndexOutOfBoundsException", "java/lang/RuntimeException", "java/lang/Exception"]).filter goodWord)
def wsX0_mostPartnersByTrying : List Cond := .code yX0_mostPartnersByTrying cX0_mostPartnersByTrying 1 (some .int) :: ([.fieldLink RX0 9 "TalkRebuilder$Alignment" "wanted" "[I", .fieldLink RX0 15 "TalkRebuilder$Alignment" "offered" "[I", .methodLink RX0 36 yX0_tryFrom, .static yX0_tryFrom, .initialized RX0, .code yX0_tryFrom cX0_tryFrom 6 (some .int), .methodLink RX0 31 Lib.Math.max.name, .static Lib.Math.max.name, .initialized "java/lang/Math", .code Lib.Math.max.name Lib.Math.max.code 2 (some .int)] ++ wsX00 ++ (vx_atM "java/lang/ArrayIndexOutOfBoundsException" ["java/lang/IndexOutOfBoundsException", "java/lang/RuntimeException", "java/lang/Exception"]).filter goodWord)
def wsX1_init_r1 : List Cond := [Cond.methodLink RX1 3 objectInit, Cond.instanceMethod objectInit, Cond.code objectInit ⟨#[0xb1]⟩ 1 none, Cond.fieldLink RX1 9 "TalkRebuilder" "mailCount" "I", Cond.arrayClass .int, Cond.fieldLink RX1 13 "TalkRebuilder" "dates" "[I", Cond.fieldLink RX1 17 "TalkRebuilder" "authors" "[I", Cond.fieldLink RX1 20 "TalkRebuilder" "subjects" "[I", Cond.fieldLink RX1 23 "TalkRebuilder" "answeredDates" "[I", Cond.fieldLink RX1 26 "TalkRebuilder" "lineCounts" "[I", Cond.fieldLink RX1 29 "TalkRebuilder" "marksAt" "[I", Cond.fieldLink RX1 32 "TalkRebuilder" "wordsAt" "[I", Cond.fieldLink RX1 35 "TalkRebuilder" "partnersAt" "[I", Cond.classLink RX1 38 RX0, Cond.instantiable RX0 3, Cond.initialized RX0, Cond.fieldLink RX1 41 "TalkRebuilder" "alignment" "LTalkRebuilder$Alignment;", Cond.arrayClass .boolean, Cond.fieldLink RX1 45 "TalkRebuilder" "counted" "[Z", Cond.fieldLink RX1 49 "TalkRebuilder" "roots" "[I", Cond.methodLink RX1 40 yX0_init, Cond.instanceMethod yX0_init, Cond.code yX0_init cX0_init 1 none, Cond.methodLink RX0 3 objectInit]
def wsX1_init_r2 : List Cond := [Cond.fieldLink RX0 9 "TalkRebuilder$Alignment" "wanted" "[I", Cond.fieldLink RX0 15 "TalkRebuilder$Alignment" "offered" "[I", Cond.classLink RX0 18 "[[I", Cond.fieldLink RX0 20 "TalkRebuilder$Alignment" "most" "[[I"]
def wsX1_init : List Cond := .code yX1_init cX1_init 2 none :: ((wsX1_init_r1 ++ wsX1_init_r2) ++ wsX10 ++ wsX00 ++ (vx_atM "java/lang/ArrayIndexOutOfBoundsException" ["java/lang/IndexOutOfBoundsException", "java/lang/RuntimeException", "java/lang/Exception"]).filter goodWord)
def wsX1_mailOfDate : List Cond := .code yX1_mailOfDate cX1_mailOfDate 3 (some .int) :: ([.fieldLink RX1 9 "TalkRebuilder" "mailCount" "I", .fieldLink RX1 13 "TalkRebuilder" "dates" "[I"] ++ wsX10 ++ (vx_atM "java/lang/ArrayIndexOutOfBoundsException" ["java/lang/IndexOutOfBoundsException", "java/lang/RuntimeException", "java/lang/Exception"]).filter goodWord)
def wsX1_arrive : List Cond := .code yX1_arrive cX1_arrive 6 (some .int) :: ([.classLink RX1 56 "java/lang/IllegalArgumentException", .initialized "java/lang/IllegalArgumentException", .classLink RX1 69 "java/lang/IllegalStateException", .initialized "java/lang/IllegalStateException", .fieldLink RX1 9 "TalkRebuilder" "mailCount" "I", .fieldLink RX1 13 "TalkRebuilder" "dates" "[I", .fieldLink RX1 17 "TalkRebuilder" "authors" "[I", .fieldLink RX1 20 "TalkRebuilder" "subjects" "[I", .fieldLink RX1 23 "TalkRebuilder" "answeredDates" "[I", .methodLink RX1 52 yX1_isWithin, .static yX1_isWithin, .initialized RX1, .code yX1_isWithin cX1_isWithin 3 (some .boolean), .methodLink RX1 63 yX1_mailOfDate, .instanceMethod yX1_mailOfDate, .selects RX1 yX1_mailOfDate yX1_mailOfDate, .code yX1_mailOfDate cX1_mailOfDate 3 (some .int)] ++ wsX10 ++ (vx_atS RX1 60 "java/lang/IllegalArgumentException" ["java/lang/RuntimeException", "java/lang/Exception"]).filter goodWord ++ (vx_atS RX1 73 "java/lang/IllegalStateException" ["java/lang/RuntimeException", "java/lang/Exception"]).filter goodWord ++ (vx_atM "java/lang/ArrayIndexOutOfBoundsException" ["java/lang/IndexOutOfBoundsException", "java/lang/RuntimeException", "java/lang/Exception"]).filter goodWord)
def wsX1_requireMail : List Cond := .code yX1_requireMail cX1_requireMail 2 none :: ([.classLink RX1 184 "java/lang/IndexOutOfBoundsException", .initialized "java/lang/IndexOutOfBoundsException", .fieldLink RX1 9 "TalkRebuilder" "mailCount" "I", .methodLink RX1 52 yX1_isWithin, .static yX1_isWithin, .initialized RX1, .code yX1_isWithin cX1_isWithin 3 (some .boolean)] ++ wsX10 ++ (vx_atS RX1 188 "java/lang/IndexOutOfBoundsException" ["java/lang/RuntimeException", "java/lang/Exception"]).filter goodWord)
def wsX1_placeOf : List Cond := .code yX1_placeOf cX1_placeOf 2 (some .int) :: ([])
def wsX1_parentOf : List Cond := .code yX1_parentOf cX1_parentOf 2 (some .int) :: ([.fieldLink RX1 23 "TalkRebuilder" "answeredDates" "[I", .methodLink RX1 63 yX1_mailOfDate, .instanceMethod yX1_mailOfDate, .selects RX1 yX1_mailOfDate yX1_mailOfDate, .initialized RX1, .code yX1_mailOfDate cX1_mailOfDate 3 (some .int), .fieldLink RX1 9 "TalkRebuilder" "mailCount" "I", .fieldLink RX1 13 "TalkRebuilder" "dates" "[I"] ++ wsX10 ++ (vx_atM "java/lang/ArrayIndexOutOfBoundsException" ["java/lang/IndexOutOfBoundsException", "java/lang/RuntimeException", "java/lang/Exception"]).filter goodWord)
def wsX1_faceParent_r1 : List Cond := [Cond.fieldLink RX1 41 "TalkRebuilder" "alignment" "LTalkRebuilder$Alignment;", Cond.fieldLink RX1 26 "TalkRebuilder" "lineCounts" "[I", Cond.fieldLink RX1 29 "TalkRebuilder" "marksAt" "[I", Cond.fieldLink RX1 32 "TalkRebuilder" "wordsAt" "[I", Cond.methodLink RX1 201 yX0_clear, Cond.instanceMethod yX0_clear, Cond.selects RX0 yX0_clear yX0_clear, Cond.initialized RX0, Cond.code yX0_clear cX0_clear 2 none, Cond.fieldLink RX0 9 "TalkRebuilder$Alignment" "wanted" "[I", Cond.fieldLink RX0 15 "TalkRebuilder$Alignment" "offered" "[I", Cond.methodLink RX1 93 yX1_parentOf, Cond.instanceMethod yX1_parentOf, Cond.selects RX1 yX1_parentOf yX1_parentOf, Cond.initialized RX1, Cond.code yX1_parentOf cX1_parentOf 2 (some .int), Cond.fieldLink RX1 23 "TalkRebuilder" "answeredDates" "[I", Cond.methodLink RX1 63 yX1_mailOfDate, Cond.instanceMethod yX1_mailOfDate, Cond.selects RX1 yX1_mailOfDate yX1_mailOfDate, Cond.code yX1_mailOfDate cX1_mailOfDate 3 (some .int), Cond.fieldLink RX1 9 "TalkRebuilder" "mailCount" "I", Cond.fieldLink RX1 13 "TalkRebuilder" "dates" "[I", Cond.methodLink RX1 80 yX1_placeOf]
def wsX1_faceParent_r2 : List Cond := [Cond.static yX1_placeOf, Cond.code yX1_placeOf cX1_placeOf 2 (some .int), Cond.methodLink RX1 204 yX0_putLine, Cond.instanceMethod yX0_putLine, Cond.selects RX0 yX0_putLine yX0_putLine, Cond.code yX0_putLine cX0_putLine 4 none, Cond.static yX1_isWithin, Cond.code yX1_isWithin cX1_isWithin 3 (some .boolean), Cond.methodLink RX0 27 yX0_markedWord, Cond.static yX0_markedWord, Cond.code yX0_markedWord cX0_markedWord 2 (some .int), Cond.methodLink RX1 208 yX0_putParentLine, Cond.instanceMethod yX0_putParentLine, Cond.selects RX0 yX0_putParentLine yX0_putParentLine, Cond.code yX0_putParentLine cX0_putParentLine 4 none]
def wsX1_faceParent : List Cond := .code yX1_faceParent cX1_faceParent 5 none :: ((wsX1_faceParent_r1 ++ wsX1_faceParent_r2) ++ wsX10 ++ wsX00 ++ (vx_atM "java/lang/ArrayIndexOutOfBoundsException" ["java/lang/IndexOutOfBoundsException", "java/lang/RuntimeException", "java/lang/Exception"]).filter goodWord)
def wsX1_realign_r1 : List Cond := [Cond.fieldLink RX1 41 "TalkRebuilder" "alignment" "LTalkRebuilder$Alignment;", Cond.fieldLink RX1 35 "TalkRebuilder" "partnersAt" "[I", Cond.methodLink RX1 108 yX1_faceParent, Cond.instanceMethod yX1_faceParent, Cond.selects RX1 yX1_faceParent yX1_faceParent, Cond.initialized RX1, Cond.code yX1_faceParent cX1_faceParent 5 none, Cond.fieldLink RX1 26 "TalkRebuilder" "lineCounts" "[I", Cond.fieldLink RX1 29 "TalkRebuilder" "marksAt" "[I", Cond.fieldLink RX1 32 "TalkRebuilder" "wordsAt" "[I", Cond.methodLink RX1 201 yX0_clear, Cond.instanceMethod yX0_clear, Cond.selects RX0 yX0_clear yX0_clear, Cond.initialized RX0, Cond.code yX0_clear cX0_clear 2 none, Cond.fieldLink RX0 9 "TalkRebuilder$Alignment" "wanted" "[I", Cond.fieldLink RX0 15 "TalkRebuilder$Alignment" "offered" "[I", Cond.methodLink RX1 93 yX1_parentOf, Cond.instanceMethod yX1_parentOf, Cond.selects RX1 yX1_parentOf yX1_parentOf, Cond.code yX1_parentOf cX1_parentOf 2 (some .int), Cond.fieldLink RX1 23 "TalkRebuilder" "answeredDates" "[I", Cond.methodLink RX1 63 yX1_mailOfDate, Cond.instanceMethod yX1_mailOfDate]
def wsX1_realign_r2 : List Cond := [Cond.selects RX1 yX1_mailOfDate yX1_mailOfDate, Cond.code yX1_mailOfDate cX1_mailOfDate 3 (some .int), Cond.fieldLink RX1 9 "TalkRebuilder" "mailCount" "I", Cond.fieldLink RX1 13 "TalkRebuilder" "dates" "[I", Cond.methodLink RX1 80 yX1_placeOf, Cond.static yX1_placeOf, Cond.code yX1_placeOf cX1_placeOf 2 (some .int), Cond.methodLink RX1 204 yX0_putLine, Cond.instanceMethod yX0_putLine, Cond.selects RX0 yX0_putLine yX0_putLine, Cond.code yX0_putLine cX0_putLine 4 none, Cond.static yX1_isWithin, Cond.code yX1_isWithin cX1_isWithin 3 (some .boolean), Cond.methodLink RX0 27 yX0_markedWord, Cond.static yX0_markedWord, Cond.code yX0_markedWord cX0_markedWord 2 (some .int), Cond.methodLink RX1 208 yX0_putParentLine, Cond.instanceMethod yX0_putParentLine, Cond.selects RX0 yX0_putParentLine yX0_putParentLine, Cond.code yX0_putParentLine cX0_putParentLine 4 none, Cond.methodLink RX1 111 yX0_fillTable, Cond.instanceMethod yX0_fillTable, Cond.selects RX0 yX0_fillTable yX0_fillTable, Cond.code yX0_fillTable cX0_fillTable 4 none]
def wsX1_realign_r3 : List Cond := [Cond.fieldLink RX0 20 "TalkRebuilder$Alignment" "most" "[[I", Cond.methodLink RX0 31 Lib.Math.max.name, Cond.static Lib.Math.max.name, Cond.initialized "java/lang/Math", Cond.code Lib.Math.max.name Lib.Math.max.code 2 (some .int), Cond.methodLink RX1 198 yX0_earliestPartner, Cond.instanceMethod yX0_earliestPartner, Cond.selects RX0 yX0_earliestPartner yX0_earliestPartner, Cond.code yX0_earliestPartner cX0_earliestPartner 4 (some .int)]
def wsX1_realign : List Cond := .code yX1_realign cX1_realign 6 none :: ((wsX1_realign_r1 ++ (wsX1_realign_r2 ++ wsX1_realign_r3)) ++ wsX10 ++ wsX00 ++ (vx_atM "java/lang/ArrayIndexOutOfBoundsException" ["java/lang/IndexOutOfBoundsException", "java/lang/RuntimeException", "java/lang/Exception"]).filter goodWord)
def wsX1_realignAround_r1 : List Cond := [Cond.fieldLink RX1 9 "TalkRebuilder" "mailCount" "I", Cond.methodLink RX1 93 yX1_parentOf, Cond.instanceMethod yX1_parentOf, Cond.selects RX1 yX1_parentOf yX1_parentOf, Cond.initialized RX1, Cond.code yX1_parentOf cX1_parentOf 2 (some .int), Cond.fieldLink RX1 23 "TalkRebuilder" "answeredDates" "[I", Cond.methodLink RX1 63 yX1_mailOfDate, Cond.instanceMethod yX1_mailOfDate, Cond.selects RX1 yX1_mailOfDate yX1_mailOfDate, Cond.code yX1_mailOfDate cX1_mailOfDate 3 (some .int), Cond.fieldLink RX1 13 "TalkRebuilder" "dates" "[I", Cond.methodLink RX1 195 yX1_realign, Cond.instanceMethod yX1_realign, Cond.selects RX1 yX1_realign yX1_realign, Cond.code yX1_realign cX1_realign 6 none, Cond.fieldLink RX1 41 "TalkRebuilder" "alignment" "LTalkRebuilder$Alignment;", Cond.fieldLink RX1 35 "TalkRebuilder" "partnersAt" "[I", Cond.methodLink RX1 108 yX1_faceParent, Cond.instanceMethod yX1_faceParent, Cond.selects RX1 yX1_faceParent yX1_faceParent, Cond.code yX1_faceParent cX1_faceParent 5 none, Cond.fieldLink RX1 26 "TalkRebuilder" "lineCounts" "[I", Cond.fieldLink RX1 29 "TalkRebuilder" "marksAt" "[I"]
def wsX1_realignAround_r2 : List Cond := [Cond.fieldLink RX1 32 "TalkRebuilder" "wordsAt" "[I", Cond.methodLink RX1 201 yX0_clear, Cond.instanceMethod yX0_clear, Cond.selects RX0 yX0_clear yX0_clear, Cond.initialized RX0, Cond.code yX0_clear cX0_clear 2 none, Cond.fieldLink RX0 9 "TalkRebuilder$Alignment" "wanted" "[I", Cond.fieldLink RX0 15 "TalkRebuilder$Alignment" "offered" "[I", Cond.methodLink RX1 80 yX1_placeOf, Cond.static yX1_placeOf, Cond.code yX1_placeOf cX1_placeOf 2 (some .int), Cond.methodLink RX1 204 yX0_putLine, Cond.instanceMethod yX0_putLine, Cond.selects RX0 yX0_putLine yX0_putLine, Cond.code yX0_putLine cX0_putLine 4 none, Cond.static yX1_isWithin, Cond.code yX1_isWithin cX1_isWithin 3 (some .boolean), Cond.methodLink RX0 27 yX0_markedWord, Cond.static yX0_markedWord, Cond.code yX0_markedWord cX0_markedWord 2 (some .int), Cond.methodLink RX1 208 yX0_putParentLine, Cond.instanceMethod yX0_putParentLine, Cond.selects RX0 yX0_putParentLine yX0_putParentLine, Cond.code yX0_putParentLine cX0_putParentLine 4 none]
def wsX1_realignAround_r3 : List Cond := [Cond.methodLink RX1 111 yX0_fillTable, Cond.instanceMethod yX0_fillTable, Cond.selects RX0 yX0_fillTable yX0_fillTable, Cond.code yX0_fillTable cX0_fillTable 4 none, Cond.fieldLink RX0 20 "TalkRebuilder$Alignment" "most" "[[I", Cond.methodLink RX0 31 Lib.Math.max.name, Cond.static Lib.Math.max.name, Cond.initialized "java/lang/Math", Cond.code Lib.Math.max.name Lib.Math.max.code 2 (some .int), Cond.methodLink RX1 198 yX0_earliestPartner, Cond.instanceMethod yX0_earliestPartner, Cond.selects RX0 yX0_earliestPartner yX0_earliestPartner, Cond.code yX0_earliestPartner cX0_earliestPartner 4 (some .int)]
def wsX1_realignAround : List Cond := .code yX1_realignAround cX1_realignAround 3 none :: ((wsX1_realignAround_r1 ++ (wsX1_realignAround_r2 ++ wsX1_realignAround_r3)) ++ wsX10 ++ wsX00 ++ (vx_atM "java/lang/ArrayIndexOutOfBoundsException" ["java/lang/IndexOutOfBoundsException", "java/lang/RuntimeException", "java/lang/Exception"]).filter goodWord)
def wsX1_addLine_r1 : List Cond := [Cond.classLink RX1 56 "java/lang/IllegalArgumentException", Cond.initialized "java/lang/IllegalArgumentException", Cond.classLink RX1 69 "java/lang/IllegalStateException", Cond.initialized "java/lang/IllegalStateException", Cond.fieldLink RX1 26 "TalkRebuilder" "lineCounts" "[I", Cond.fieldLink RX1 29 "TalkRebuilder" "marksAt" "[I", Cond.fieldLink RX1 32 "TalkRebuilder" "wordsAt" "[I", Cond.methodLink RX1 74 yX1_requireMail, Cond.instanceMethod yX1_requireMail, Cond.selects RX1 yX1_requireMail yX1_requireMail, Cond.initialized RX1, Cond.code yX1_requireMail cX1_requireMail 2 none, Cond.classLink RX1 184 "java/lang/IndexOutOfBoundsException", Cond.initialized "java/lang/IndexOutOfBoundsException", Cond.fieldLink RX1 9 "TalkRebuilder" "mailCount" "I", Cond.methodLink RX1 52 yX1_isWithin, Cond.static yX1_isWithin, Cond.code yX1_isWithin cX1_isWithin 3 (some .boolean), Cond.methodLink RX1 80 yX1_placeOf, Cond.static yX1_placeOf, Cond.code yX1_placeOf cX1_placeOf 2 (some .int), Cond.methodLink RX1 84 yX1_realignAround, Cond.instanceMethod yX1_realignAround, Cond.selects RX1 yX1_realignAround yX1_realignAround]
def wsX1_addLine_r2 : List Cond := [Cond.code yX1_realignAround cX1_realignAround 3 none, Cond.methodLink RX1 93 yX1_parentOf, Cond.instanceMethod yX1_parentOf, Cond.selects RX1 yX1_parentOf yX1_parentOf, Cond.code yX1_parentOf cX1_parentOf 2 (some .int), Cond.fieldLink RX1 23 "TalkRebuilder" "answeredDates" "[I", Cond.methodLink RX1 63 yX1_mailOfDate, Cond.instanceMethod yX1_mailOfDate, Cond.selects RX1 yX1_mailOfDate yX1_mailOfDate, Cond.code yX1_mailOfDate cX1_mailOfDate 3 (some .int), Cond.fieldLink RX1 13 "TalkRebuilder" "dates" "[I", Cond.methodLink RX1 195 yX1_realign, Cond.instanceMethod yX1_realign, Cond.selects RX1 yX1_realign yX1_realign, Cond.code yX1_realign cX1_realign 6 none, Cond.fieldLink RX1 41 "TalkRebuilder" "alignment" "LTalkRebuilder$Alignment;", Cond.fieldLink RX1 35 "TalkRebuilder" "partnersAt" "[I", Cond.methodLink RX1 108 yX1_faceParent, Cond.instanceMethod yX1_faceParent, Cond.selects RX1 yX1_faceParent yX1_faceParent, Cond.code yX1_faceParent cX1_faceParent 5 none, Cond.methodLink RX1 201 yX0_clear, Cond.instanceMethod yX0_clear, Cond.selects RX0 yX0_clear yX0_clear]
def wsX1_addLine_r3 : List Cond := [Cond.initialized RX0, Cond.code yX0_clear cX0_clear 2 none, Cond.fieldLink RX0 9 "TalkRebuilder$Alignment" "wanted" "[I", Cond.fieldLink RX0 15 "TalkRebuilder$Alignment" "offered" "[I", Cond.methodLink RX1 204 yX0_putLine, Cond.instanceMethod yX0_putLine, Cond.selects RX0 yX0_putLine yX0_putLine, Cond.code yX0_putLine cX0_putLine 4 none, Cond.methodLink RX0 27 yX0_markedWord, Cond.static yX0_markedWord, Cond.code yX0_markedWord cX0_markedWord 2 (some .int), Cond.methodLink RX1 208 yX0_putParentLine, Cond.instanceMethod yX0_putParentLine, Cond.selects RX0 yX0_putParentLine yX0_putParentLine, Cond.code yX0_putParentLine cX0_putParentLine 4 none, Cond.methodLink RX1 111 yX0_fillTable, Cond.instanceMethod yX0_fillTable, Cond.selects RX0 yX0_fillTable yX0_fillTable, Cond.code yX0_fillTable cX0_fillTable 4 none, Cond.fieldLink RX0 20 "TalkRebuilder$Alignment" "most" "[[I", Cond.methodLink RX0 31 Lib.Math.max.name, Cond.static Lib.Math.max.name, Cond.initialized "java/lang/Math", Cond.code Lib.Math.max.name Lib.Math.max.code 2 (some .int)]
def wsX1_addLine_r4 : List Cond := [Cond.methodLink RX1 198 yX0_earliestPartner, Cond.instanceMethod yX0_earliestPartner, Cond.selects RX0 yX0_earliestPartner yX0_earliestPartner, Cond.code yX0_earliestPartner cX0_earliestPartner 4 (some .int)]
def wsX1_addLine : List Cond := .code yX1_addLine cX1_addLine 5 (some .int) :: ((wsX1_addLine_r1 ++ (wsX1_addLine_r2 ++ (wsX1_addLine_r3 ++ wsX1_addLine_r4))) ++ wsX10 ++ wsX00 ++ (vx_atS RX1 60 "java/lang/IllegalArgumentException" ["java/lang/RuntimeException", "java/lang/Exception"]).filter goodWord ++ (vx_atM "java/lang/ArrayIndexOutOfBoundsException" ["java/lang/IndexOutOfBoundsException", "java/lang/RuntimeException", "java/lang/Exception"]).filter goodWord ++ (vx_atS RX1 73 "java/lang/IllegalStateException" ["java/lang/RuntimeException", "java/lang/Exception"]).filter goodWord ++ (vx_atS RX1 188 "java/lang/IndexOutOfBoundsException" ["java/lang/RuntimeException", "java/lang/Exception"]).filter goodWord)
def wsX1_removeLine_r1 : List Cond := [Cond.classLink RX1 69 "java/lang/IllegalStateException", Cond.initialized "java/lang/IllegalStateException", Cond.fieldLink RX1 26 "TalkRebuilder" "lineCounts" "[I", Cond.methodLink RX1 74 yX1_requireMail, Cond.instanceMethod yX1_requireMail, Cond.selects RX1 yX1_requireMail yX1_requireMail, Cond.initialized RX1, Cond.code yX1_requireMail cX1_requireMail 2 none, Cond.classLink RX1 184 "java/lang/IndexOutOfBoundsException", Cond.initialized "java/lang/IndexOutOfBoundsException", Cond.fieldLink RX1 9 "TalkRebuilder" "mailCount" "I", Cond.methodLink RX1 52 yX1_isWithin, Cond.static yX1_isWithin, Cond.code yX1_isWithin cX1_isWithin 3 (some .boolean), Cond.methodLink RX1 84 yX1_realignAround, Cond.instanceMethod yX1_realignAround, Cond.selects RX1 yX1_realignAround yX1_realignAround, Cond.code yX1_realignAround cX1_realignAround 3 none, Cond.methodLink RX1 93 yX1_parentOf, Cond.instanceMethod yX1_parentOf, Cond.selects RX1 yX1_parentOf yX1_parentOf, Cond.code yX1_parentOf cX1_parentOf 2 (some .int), Cond.fieldLink RX1 23 "TalkRebuilder" "answeredDates" "[I", Cond.methodLink RX1 63 yX1_mailOfDate]
def wsX1_removeLine_r2 : List Cond := [Cond.instanceMethod yX1_mailOfDate, Cond.selects RX1 yX1_mailOfDate yX1_mailOfDate, Cond.code yX1_mailOfDate cX1_mailOfDate 3 (some .int), Cond.fieldLink RX1 13 "TalkRebuilder" "dates" "[I", Cond.methodLink RX1 195 yX1_realign, Cond.instanceMethod yX1_realign, Cond.selects RX1 yX1_realign yX1_realign, Cond.code yX1_realign cX1_realign 6 none, Cond.fieldLink RX1 41 "TalkRebuilder" "alignment" "LTalkRebuilder$Alignment;", Cond.fieldLink RX1 35 "TalkRebuilder" "partnersAt" "[I", Cond.methodLink RX1 108 yX1_faceParent, Cond.instanceMethod yX1_faceParent, Cond.selects RX1 yX1_faceParent yX1_faceParent, Cond.code yX1_faceParent cX1_faceParent 5 none, Cond.fieldLink RX1 29 "TalkRebuilder" "marksAt" "[I", Cond.fieldLink RX1 32 "TalkRebuilder" "wordsAt" "[I", Cond.methodLink RX1 201 yX0_clear, Cond.instanceMethod yX0_clear, Cond.selects RX0 yX0_clear yX0_clear, Cond.initialized RX0, Cond.code yX0_clear cX0_clear 2 none, Cond.fieldLink RX0 9 "TalkRebuilder$Alignment" "wanted" "[I", Cond.fieldLink RX0 15 "TalkRebuilder$Alignment" "offered" "[I", Cond.methodLink RX1 80 yX1_placeOf]
def wsX1_removeLine_r3 : List Cond := [Cond.static yX1_placeOf, Cond.code yX1_placeOf cX1_placeOf 2 (some .int), Cond.methodLink RX1 204 yX0_putLine, Cond.instanceMethod yX0_putLine, Cond.selects RX0 yX0_putLine yX0_putLine, Cond.code yX0_putLine cX0_putLine 4 none, Cond.methodLink RX0 27 yX0_markedWord, Cond.static yX0_markedWord, Cond.code yX0_markedWord cX0_markedWord 2 (some .int), Cond.methodLink RX1 208 yX0_putParentLine, Cond.instanceMethod yX0_putParentLine, Cond.selects RX0 yX0_putParentLine yX0_putParentLine, Cond.code yX0_putParentLine cX0_putParentLine 4 none, Cond.methodLink RX1 111 yX0_fillTable, Cond.instanceMethod yX0_fillTable, Cond.selects RX0 yX0_fillTable yX0_fillTable, Cond.code yX0_fillTable cX0_fillTable 4 none, Cond.fieldLink RX0 20 "TalkRebuilder$Alignment" "most" "[[I", Cond.methodLink RX0 31 Lib.Math.max.name, Cond.static Lib.Math.max.name, Cond.initialized "java/lang/Math", Cond.code Lib.Math.max.name Lib.Math.max.code 2 (some .int), Cond.methodLink RX1 198 yX0_earliestPartner, Cond.instanceMethod yX0_earliestPartner]
def wsX1_removeLine_r4 : List Cond := [Cond.selects RX0 yX0_earliestPartner yX0_earliestPartner, Cond.code yX0_earliestPartner cX0_earliestPartner 4 (some .int)]
def wsX1_removeLine : List Cond := .code yX1_removeLine cX1_removeLine 2 (some .int) :: ((wsX1_removeLine_r1 ++ (wsX1_removeLine_r2 ++ (wsX1_removeLine_r3 ++ wsX1_removeLine_r4))) ++ wsX10 ++ wsX00 ++ (vx_atM "java/lang/ArrayIndexOutOfBoundsException" ["java/lang/IndexOutOfBoundsException", "java/lang/RuntimeException", "java/lang/Exception"]).filter goodWord ++ (vx_atS RX1 73 "java/lang/IllegalStateException" ["java/lang/RuntimeException", "java/lang/Exception"]).filter goodWord ++ (vx_atS RX1 188 "java/lang/IndexOutOfBoundsException" ["java/lang/RuntimeException", "java/lang/Exception"]).filter goodWord)
def wsX1_mails : List Cond := .code yX1_mails cX1_mails 1 (some .int) :: ([.fieldLink RX1 9 "TalkRebuilder" "mailCount" "I"] ++ wsX10)
def wsX1_lines : List Cond := .code yX1_lines cX1_lines 2 (some .int) :: ([.fieldLink RX1 26 "TalkRebuilder" "lineCounts" "[I", .methodLink RX1 74 yX1_requireMail, .instanceMethod yX1_requireMail, .selects RX1 yX1_requireMail yX1_requireMail, .initialized RX1, .code yX1_requireMail cX1_requireMail 2 none, .classLink RX1 184 "java/lang/IndexOutOfBoundsException", .initialized "java/lang/IndexOutOfBoundsException", .fieldLink RX1 9 "TalkRebuilder" "mailCount" "I", .methodLink RX1 52 yX1_isWithin, .static yX1_isWithin, .code yX1_isWithin cX1_isWithin 3 (some .boolean)] ++ wsX10 ++ (vx_atM "java/lang/ArrayIndexOutOfBoundsException" ["java/lang/IndexOutOfBoundsException", "java/lang/RuntimeException", "java/lang/Exception"]).filter goodWord ++ (vx_atS RX1 188 "java/lang/IndexOutOfBoundsException" ["java/lang/RuntimeException", "java/lang/Exception"]).filter goodWord)
def wsX1_requireLine : List Cond := .code yX1_requireLine cX1_requireLine 3 none :: ([.classLink RX1 184 "java/lang/IndexOutOfBoundsException", .initialized "java/lang/IndexOutOfBoundsException", .fieldLink RX1 26 "TalkRebuilder" "lineCounts" "[I", .methodLink RX1 74 yX1_requireMail, .instanceMethod yX1_requireMail, .selects RX1 yX1_requireMail yX1_requireMail, .initialized RX1, .code yX1_requireMail cX1_requireMail 2 none, .fieldLink RX1 9 "TalkRebuilder" "mailCount" "I", .methodLink RX1 52 yX1_isWithin, .static yX1_isWithin, .code yX1_isWithin cX1_isWithin 3 (some .boolean)] ++ wsX10 ++ (vx_atM "java/lang/ArrayIndexOutOfBoundsException" ["java/lang/IndexOutOfBoundsException", "java/lang/RuntimeException", "java/lang/Exception"]).filter goodWord ++ (vx_atS RX1 188 "java/lang/IndexOutOfBoundsException" ["java/lang/RuntimeException", "java/lang/Exception"]).filter goodWord)
def wsX1_word : List Cond := .code yX1_word cX1_word 3 (some .int) :: ([.fieldLink RX1 32 "TalkRebuilder" "wordsAt" "[I", .methodLink RX1 89 yX1_requireLine, .instanceMethod yX1_requireLine, .selects RX1 yX1_requireLine yX1_requireLine, .initialized RX1, .code yX1_requireLine cX1_requireLine 3 none, .classLink RX1 184 "java/lang/IndexOutOfBoundsException", .initialized "java/lang/IndexOutOfBoundsException", .fieldLink RX1 26 "TalkRebuilder" "lineCounts" "[I", .methodLink RX1 74 yX1_requireMail, .instanceMethod yX1_requireMail, .selects RX1 yX1_requireMail yX1_requireMail, .code yX1_requireMail cX1_requireMail 2 none, .fieldLink RX1 9 "TalkRebuilder" "mailCount" "I", .methodLink RX1 52 yX1_isWithin, .static yX1_isWithin, .code yX1_isWithin cX1_isWithin 3 (some .boolean), .methodLink RX1 80 yX1_placeOf, .static yX1_placeOf, .code yX1_placeOf cX1_placeOf 2 (some .int)] ++ wsX10 ++ (vx_atM "java/lang/ArrayIndexOutOfBoundsException" ["java/lang/IndexOutOfBoundsException", "java/lang/RuntimeException", "java/lang/Exception"]).filter goodWord ++ (vx_atS RX1 188 "java/lang/IndexOutOfBoundsException" ["java/lang/RuntimeException", "java/lang/Exception"]).filter goodWord)
def wsX1_parent : List Cond := .code yX1_parent cX1_parent 3 (some .int) :: ([.classLink RX1 96 "java/util/NoSuchElementException", .initialized "java/util/NoSuchElementException", .methodLink RX1 74 yX1_requireMail, .instanceMethod yX1_requireMail, .selects RX1 yX1_requireMail yX1_requireMail, .initialized RX1, .code yX1_requireMail cX1_requireMail 2 none, .classLink RX1 184 "java/lang/IndexOutOfBoundsException", .initialized "java/lang/IndexOutOfBoundsException", .fieldLink RX1 9 "TalkRebuilder" "mailCount" "I", .methodLink RX1 52 yX1_isWithin, .static yX1_isWithin, .code yX1_isWithin cX1_isWithin 3 (some .boolean), .methodLink RX1 93 yX1_parentOf, .instanceMethod yX1_parentOf, .selects RX1 yX1_parentOf yX1_parentOf, .code yX1_parentOf cX1_parentOf 2 (some .int), .fieldLink RX1 23 "TalkRebuilder" "answeredDates" "[I", .methodLink RX1 63 yX1_mailOfDate, .instanceMethod yX1_mailOfDate, .selects RX1 yX1_mailOfDate yX1_mailOfDate, .code yX1_mailOfDate cX1_mailOfDate 3 (some .int), .fieldLink RX1 13 "TalkRebuilder" "dates" "[I"] ++ wsX10 ++ (vx_atS RX1 100 "java/util/NoSuchElementException" ["java/lang/RuntimeException", "java/lang/Exception"]).filter goodWord ++ (vx_atS RX1 188 "java/lang/IndexOutOfBoundsException" ["java/lang/RuntimeException", "java/lang/Exception"]).filter goodWord ++ (vx_atM "java/lang/ArrayIndexOutOfBoundsException" ["java/lang/IndexOutOfBoundsException", "java/lang/RuntimeException", "java/lang/Exception"]).filter goodWord)
def wsX1_answersMissing : List Cond := .code yX1_answersMissing cX1_answersMissing 2 (some .boolean) :: ([.fieldLink RX1 23 "TalkRebuilder" "answeredDates" "[I", .methodLink RX1 93 yX1_parentOf, .instanceMethod yX1_parentOf, .selects RX1 yX1_parentOf yX1_parentOf, .initialized RX1, .code yX1_parentOf cX1_parentOf 2 (some .int), .methodLink RX1 63 yX1_mailOfDate, .instanceMethod yX1_mailOfDate, .selects RX1 yX1_mailOfDate yX1_mailOfDate, .code yX1_mailOfDate cX1_mailOfDate 3 (some .int), .fieldLink RX1 9 "TalkRebuilder" "mailCount" "I", .fieldLink RX1 13 "TalkRebuilder" "dates" "[I"] ++ wsX10 ++ (vx_atM "java/lang/ArrayIndexOutOfBoundsException" ["java/lang/IndexOutOfBoundsException", "java/lang/RuntimeException", "java/lang/Exception"]).filter goodWord)
def wsX1_isFirstToAnswerItsDate : List Cond := .code yX1_isFirstToAnswerItsDate cX1_isFirstToAnswerItsDate 3 (some .boolean) :: ([.fieldLink RX1 23 "TalkRebuilder" "answeredDates" "[I"] ++ wsX10 ++ (vx_atM "java/lang/ArrayIndexOutOfBoundsException" ["java/lang/IndexOutOfBoundsException", "java/lang/RuntimeException", "java/lang/Exception"]).filter goodWord)
def wsX1_missing : List Cond := .code yX1_missing cX1_missing 3 (some .int) :: ([.fieldLink RX1 9 "TalkRebuilder" "mailCount" "I", .methodLink RX1 101 yX1_answersMissing, .instanceMethod yX1_answersMissing, .selects RX1 yX1_answersMissing yX1_answersMissing, .initialized RX1, .code yX1_answersMissing cX1_answersMissing 2 (some .boolean), .fieldLink RX1 23 "TalkRebuilder" "answeredDates" "[I", .methodLink RX1 93 yX1_parentOf, .instanceMethod yX1_parentOf, .selects RX1 yX1_parentOf yX1_parentOf, .code yX1_parentOf cX1_parentOf 2 (some .int), .methodLink RX1 63 yX1_mailOfDate, .instanceMethod yX1_mailOfDate, .selects RX1 yX1_mailOfDate yX1_mailOfDate, .code yX1_mailOfDate cX1_mailOfDate 3 (some .int), .fieldLink RX1 13 "TalkRebuilder" "dates" "[I", .methodLink RX1 105 yX1_isFirstToAnswerItsDate, .instanceMethod yX1_isFirstToAnswerItsDate, .selects RX1 yX1_isFirstToAnswerItsDate yX1_isFirstToAnswerItsDate, .code yX1_isFirstToAnswerItsDate cX1_isFirstToAnswerItsDate 3 (some .boolean)] ++ wsX10 ++ (vx_atM "java/lang/ArrayIndexOutOfBoundsException" ["java/lang/IndexOutOfBoundsException", "java/lang/RuntimeException", "java/lang/Exception"]).filter goodWord)
def wsX1_aligned_r1 : List Cond := [Cond.fieldLink RX1 41 "TalkRebuilder" "alignment" "LTalkRebuilder$Alignment;", Cond.methodLink RX1 74 yX1_requireMail, Cond.instanceMethod yX1_requireMail, Cond.selects RX1 yX1_requireMail yX1_requireMail, Cond.initialized RX1, Cond.code yX1_requireMail cX1_requireMail 2 none, Cond.classLink RX1 184 "java/lang/IndexOutOfBoundsException", Cond.initialized "java/lang/IndexOutOfBoundsException", Cond.fieldLink RX1 9 "TalkRebuilder" "mailCount" "I", Cond.methodLink RX1 52 yX1_isWithin, Cond.static yX1_isWithin, Cond.code yX1_isWithin cX1_isWithin 3 (some .boolean), Cond.methodLink RX1 108 yX1_faceParent, Cond.instanceMethod yX1_faceParent, Cond.selects RX1 yX1_faceParent yX1_faceParent, Cond.code yX1_faceParent cX1_faceParent 5 none, Cond.fieldLink RX1 26 "TalkRebuilder" "lineCounts" "[I", Cond.fieldLink RX1 29 "TalkRebuilder" "marksAt" "[I", Cond.fieldLink RX1 32 "TalkRebuilder" "wordsAt" "[I", Cond.methodLink RX1 201 yX0_clear, Cond.instanceMethod yX0_clear, Cond.selects RX0 yX0_clear yX0_clear, Cond.initialized RX0, Cond.code yX0_clear cX0_clear 2 none]
def wsX1_aligned_r2 : List Cond := [Cond.fieldLink RX0 9 "TalkRebuilder$Alignment" "wanted" "[I", Cond.fieldLink RX0 15 "TalkRebuilder$Alignment" "offered" "[I", Cond.methodLink RX1 93 yX1_parentOf, Cond.instanceMethod yX1_parentOf, Cond.selects RX1 yX1_parentOf yX1_parentOf, Cond.code yX1_parentOf cX1_parentOf 2 (some .int), Cond.fieldLink RX1 23 "TalkRebuilder" "answeredDates" "[I", Cond.methodLink RX1 63 yX1_mailOfDate, Cond.instanceMethod yX1_mailOfDate, Cond.selects RX1 yX1_mailOfDate yX1_mailOfDate, Cond.code yX1_mailOfDate cX1_mailOfDate 3 (some .int), Cond.fieldLink RX1 13 "TalkRebuilder" "dates" "[I", Cond.methodLink RX1 80 yX1_placeOf, Cond.static yX1_placeOf, Cond.code yX1_placeOf cX1_placeOf 2 (some .int), Cond.methodLink RX1 204 yX0_putLine, Cond.instanceMethod yX0_putLine, Cond.selects RX0 yX0_putLine yX0_putLine, Cond.code yX0_putLine cX0_putLine 4 none, Cond.methodLink RX0 27 yX0_markedWord, Cond.static yX0_markedWord, Cond.code yX0_markedWord cX0_markedWord 2 (some .int), Cond.methodLink RX1 208 yX0_putParentLine, Cond.instanceMethod yX0_putParentLine]
def wsX1_aligned_r3 : List Cond := [Cond.selects RX0 yX0_putParentLine yX0_putParentLine, Cond.code yX0_putParentLine cX0_putParentLine 4 none, Cond.methodLink RX1 111 yX0_fillTable, Cond.instanceMethod yX0_fillTable, Cond.selects RX0 yX0_fillTable yX0_fillTable, Cond.code yX0_fillTable cX0_fillTable 4 none, Cond.fieldLink RX0 20 "TalkRebuilder$Alignment" "most" "[[I", Cond.methodLink RX0 31 Lib.Math.max.name, Cond.static Lib.Math.max.name, Cond.initialized "java/lang/Math", Cond.code Lib.Math.max.name Lib.Math.max.code 2 (some .int), Cond.methodLink RX1 114 yX0_mostPartners, Cond.instanceMethod yX0_mostPartners, Cond.selects RX0 yX0_mostPartners yX0_mostPartners, Cond.code yX0_mostPartners cX0_mostPartners 1 (some .int)]
def wsX1_aligned : List Cond := .code yX1_aligned cX1_aligned 2 (some .int) :: ((wsX1_aligned_r1 ++ (wsX1_aligned_r2 ++ wsX1_aligned_r3)) ++ wsX10 ++ wsX00 ++ (vx_atS RX1 188 "java/lang/IndexOutOfBoundsException" ["java/lang/RuntimeException", "java/lang/Exception"]).filter goodWord ++ (vx_atM "java/lang/ArrayIndexOutOfBoundsException" ["java/lang/IndexOutOfBoundsException", "java/lang/RuntimeException", "java/lang/Exception"]).filter goodWord)
def wsX1_alignedByTrying_r1 : List Cond := [Cond.fieldLink RX1 41 "TalkRebuilder" "alignment" "LTalkRebuilder$Alignment;", Cond.methodLink RX1 74 yX1_requireMail, Cond.instanceMethod yX1_requireMail, Cond.selects RX1 yX1_requireMail yX1_requireMail, Cond.initialized RX1, Cond.code yX1_requireMail cX1_requireMail 2 none, Cond.classLink RX1 184 "java/lang/IndexOutOfBoundsException", Cond.initialized "java/lang/IndexOutOfBoundsException", Cond.fieldLink RX1 9 "TalkRebuilder" "mailCount" "I", Cond.methodLink RX1 52 yX1_isWithin, Cond.static yX1_isWithin, Cond.code yX1_isWithin cX1_isWithin 3 (some .boolean), Cond.methodLink RX1 108 yX1_faceParent, Cond.instanceMethod yX1_faceParent, Cond.selects RX1 yX1_faceParent yX1_faceParent, Cond.code yX1_faceParent cX1_faceParent 5 none, Cond.fieldLink RX1 26 "TalkRebuilder" "lineCounts" "[I", Cond.fieldLink RX1 29 "TalkRebuilder" "marksAt" "[I", Cond.fieldLink RX1 32 "TalkRebuilder" "wordsAt" "[I", Cond.methodLink RX1 201 yX0_clear, Cond.instanceMethod yX0_clear, Cond.selects RX0 yX0_clear yX0_clear, Cond.initialized RX0, Cond.code yX0_clear cX0_clear 2 none]
def wsX1_alignedByTrying_r2 : List Cond := [Cond.fieldLink RX0 9 "TalkRebuilder$Alignment" "wanted" "[I", Cond.fieldLink RX0 15 "TalkRebuilder$Alignment" "offered" "[I", Cond.methodLink RX1 93 yX1_parentOf, Cond.instanceMethod yX1_parentOf, Cond.selects RX1 yX1_parentOf yX1_parentOf, Cond.code yX1_parentOf cX1_parentOf 2 (some .int), Cond.fieldLink RX1 23 "TalkRebuilder" "answeredDates" "[I", Cond.methodLink RX1 63 yX1_mailOfDate, Cond.instanceMethod yX1_mailOfDate, Cond.selects RX1 yX1_mailOfDate yX1_mailOfDate, Cond.code yX1_mailOfDate cX1_mailOfDate 3 (some .int), Cond.fieldLink RX1 13 "TalkRebuilder" "dates" "[I", Cond.methodLink RX1 80 yX1_placeOf, Cond.static yX1_placeOf, Cond.code yX1_placeOf cX1_placeOf 2 (some .int), Cond.methodLink RX1 204 yX0_putLine, Cond.instanceMethod yX0_putLine, Cond.selects RX0 yX0_putLine yX0_putLine, Cond.code yX0_putLine cX0_putLine 4 none, Cond.methodLink RX0 27 yX0_markedWord, Cond.static yX0_markedWord, Cond.code yX0_markedWord cX0_markedWord 2 (some .int), Cond.methodLink RX1 208 yX0_putParentLine, Cond.instanceMethod yX0_putParentLine]
def wsX1_alignedByTrying_r3 : List Cond := [Cond.selects RX0 yX0_putParentLine yX0_putParentLine, Cond.code yX0_putParentLine cX0_putParentLine 4 none, Cond.methodLink RX1 118 yX0_mostPartnersByTrying, Cond.instanceMethod yX0_mostPartnersByTrying, Cond.selects RX0 yX0_mostPartnersByTrying yX0_mostPartnersByTrying, Cond.code yX0_mostPartnersByTrying cX0_mostPartnersByTrying 1 (some .int), Cond.methodLink RX0 36 yX0_tryFrom, Cond.static yX0_tryFrom, Cond.code yX0_tryFrom cX0_tryFrom 6 (some .int), Cond.methodLink RX0 31 Lib.Math.max.name, Cond.static Lib.Math.max.name, Cond.initialized "java/lang/Math", Cond.code Lib.Math.max.name Lib.Math.max.code 2 (some .int)]
def wsX1_alignedByTrying : List Cond := .code yX1_alignedByTrying cX1_alignedByTrying 2 (some .int) :: ((wsX1_alignedByTrying_r1 ++ (wsX1_alignedByTrying_r2 ++ wsX1_alignedByTrying_r3)) ++ wsX10 ++ wsX00 ++ (vx_atS RX1 188 "java/lang/IndexOutOfBoundsException" ["java/lang/RuntimeException", "java/lang/Exception"]).filter goodWord ++ (vx_atM "java/lang/ArrayIndexOutOfBoundsException" ["java/lang/IndexOutOfBoundsException", "java/lang/RuntimeException", "java/lang/Exception"]).filter goodWord)
def wsX1_lineAt : List Cond := .code yX1_lineAt cX1_lineAt 1 (some .int) :: ([])
def wsX1_mailAt : List Cond := .code yX1_mailAt cX1_mailAt 1 (some .int) :: ([])
def wsX1_isLine : List Cond := .code yX1_isLine cX1_isLine 2 (some .boolean) :: ([.fieldLink RX1 26 "TalkRebuilder" "lineCounts" "[I", .methodLink RX1 52 yX1_isWithin, .static yX1_isWithin, .initialized RX1, .code yX1_isWithin cX1_isWithin 3 (some .boolean), .methodLink RX1 126 yX1_lineAt, .static yX1_lineAt, .code yX1_lineAt cX1_lineAt 1 (some .int), .methodLink RX1 132 yX1_mailAt, .static yX1_mailAt, .code yX1_mailAt cX1_mailAt 1 (some .int)] ++ wsX10 ++ (vx_atM "java/lang/ArrayIndexOutOfBoundsException" ["java/lang/IndexOutOfBoundsException", "java/lang/RuntimeException", "java/lang/Exception"]).filter goodWord)
def wsX1_hasPartner : List Cond := .code yX1_hasPartner cX1_hasPartner 2 (some .boolean) :: ([.fieldLink RX1 35 "TalkRebuilder" "partnersAt" "[I", .methodLink RX1 154 yX1_isLine, .instanceMethod yX1_isLine, .selects RX1 yX1_isLine yX1_isLine, .initialized RX1, .code yX1_isLine cX1_isLine 2 (some .boolean), .fieldLink RX1 26 "TalkRebuilder" "lineCounts" "[I", .methodLink RX1 52 yX1_isWithin, .static yX1_isWithin, .code yX1_isWithin cX1_isWithin 3 (some .boolean), .methodLink RX1 126 yX1_lineAt, .static yX1_lineAt, .code yX1_lineAt cX1_lineAt 1 (some .int), .methodLink RX1 132 yX1_mailAt, .static yX1_mailAt, .code yX1_mailAt cX1_mailAt 1 (some .int)] ++ wsX10 ++ (vx_atM "java/lang/ArrayIndexOutOfBoundsException" ["java/lang/IndexOutOfBoundsException", "java/lang/RuntimeException", "java/lang/Exception"]).filter goodWord)
def wsX1_partner_r1 : List Cond := [Cond.classLink RX1 96 "java/util/NoSuchElementException", Cond.initialized "java/util/NoSuchElementException", Cond.fieldLink RX1 35 "TalkRebuilder" "partnersAt" "[I", Cond.methodLink RX1 89 yX1_requireLine, Cond.instanceMethod yX1_requireLine, Cond.selects RX1 yX1_requireLine yX1_requireLine, Cond.initialized RX1, Cond.code yX1_requireLine cX1_requireLine 3 none, Cond.classLink RX1 184 "java/lang/IndexOutOfBoundsException", Cond.initialized "java/lang/IndexOutOfBoundsException", Cond.fieldLink RX1 26 "TalkRebuilder" "lineCounts" "[I", Cond.methodLink RX1 74 yX1_requireMail, Cond.instanceMethod yX1_requireMail, Cond.selects RX1 yX1_requireMail yX1_requireMail, Cond.code yX1_requireMail cX1_requireMail 2 none, Cond.fieldLink RX1 9 "TalkRebuilder" "mailCount" "I", Cond.methodLink RX1 52 yX1_isWithin, Cond.static yX1_isWithin, Cond.code yX1_isWithin cX1_isWithin 3 (some .boolean), Cond.methodLink RX1 80 yX1_placeOf, Cond.static yX1_placeOf, Cond.code yX1_placeOf cX1_placeOf 2 (some .int), Cond.methodLink RX1 121 yX1_hasPartner, Cond.instanceMethod yX1_hasPartner]
def wsX1_partner_r2 : List Cond := [Cond.selects RX1 yX1_hasPartner yX1_hasPartner, Cond.code yX1_hasPartner cX1_hasPartner 2 (some .boolean), Cond.methodLink RX1 154 yX1_isLine, Cond.instanceMethod yX1_isLine, Cond.selects RX1 yX1_isLine yX1_isLine, Cond.code yX1_isLine cX1_isLine 2 (some .boolean), Cond.methodLink RX1 126 yX1_lineAt, Cond.static yX1_lineAt, Cond.code yX1_lineAt cX1_lineAt 1 (some .int), Cond.methodLink RX1 132 yX1_mailAt, Cond.static yX1_mailAt, Cond.code yX1_mailAt cX1_mailAt 1 (some .int)]
def wsX1_partner : List Cond := .code yX1_partner cX1_partner 4 (some .int) :: ((wsX1_partner_r1 ++ wsX1_partner_r2) ++ wsX10 ++ (vx_atS RX1 100 "java/util/NoSuchElementException" ["java/lang/RuntimeException", "java/lang/Exception"]).filter goodWord ++ (vx_atM "java/lang/ArrayIndexOutOfBoundsException" ["java/lang/IndexOutOfBoundsException", "java/lang/RuntimeException", "java/lang/Exception"]).filter goodWord ++ (vx_atS RX1 188 "java/lang/IndexOutOfBoundsException" ["java/lang/RuntimeException", "java/lang/Exception"]).filter goodWord)
def wsX1_originOf : List Cond := .code yX1_originOf cX1_originOf 4 (some .int) :: ([.fieldLink RX1 35 "TalkRebuilder" "partnersAt" "[I", .methodLink RX1 121 yX1_hasPartner, .instanceMethod yX1_hasPartner, .selects RX1 yX1_hasPartner yX1_hasPartner, .initialized RX1, .code yX1_hasPartner cX1_hasPartner 2 (some .boolean), .methodLink RX1 154 yX1_isLine, .instanceMethod yX1_isLine, .selects RX1 yX1_isLine yX1_isLine, .code yX1_isLine cX1_isLine 2 (some .boolean), .fieldLink RX1 26 "TalkRebuilder" "lineCounts" "[I", .methodLink RX1 52 yX1_isWithin, .static yX1_isWithin, .code yX1_isWithin cX1_isWithin 3 (some .boolean), .methodLink RX1 126 yX1_lineAt, .static yX1_lineAt, .code yX1_lineAt cX1_lineAt 1 (some .int), .methodLink RX1 132 yX1_mailAt, .static yX1_mailAt, .code yX1_mailAt cX1_mailAt 1 (some .int)] ++ wsX10 ++ (vx_atM "java/lang/ArrayIndexOutOfBoundsException" ["java/lang/IndexOutOfBoundsException", "java/lang/RuntimeException", "java/lang/Exception"]).filter goodWord)
def wsX1_originMail_r1 : List Cond := [Cond.methodLink RX1 89 yX1_requireLine, Cond.instanceMethod yX1_requireLine, Cond.selects RX1 yX1_requireLine yX1_requireLine, Cond.initialized RX1, Cond.code yX1_requireLine cX1_requireLine 3 none, Cond.classLink RX1 184 "java/lang/IndexOutOfBoundsException", Cond.initialized "java/lang/IndexOutOfBoundsException", Cond.fieldLink RX1 26 "TalkRebuilder" "lineCounts" "[I", Cond.methodLink RX1 74 yX1_requireMail, Cond.instanceMethod yX1_requireMail, Cond.selects RX1 yX1_requireMail yX1_requireMail, Cond.code yX1_requireMail cX1_requireMail 2 none, Cond.fieldLink RX1 9 "TalkRebuilder" "mailCount" "I", Cond.methodLink RX1 52 yX1_isWithin, Cond.static yX1_isWithin, Cond.code yX1_isWithin cX1_isWithin 3 (some .boolean), Cond.methodLink RX1 80 yX1_placeOf, Cond.static yX1_placeOf, Cond.code yX1_placeOf cX1_placeOf 2 (some .int), Cond.methodLink RX1 129 yX1_originOf, Cond.instanceMethod yX1_originOf, Cond.selects RX1 yX1_originOf yX1_originOf, Cond.code yX1_originOf cX1_originOf 4 (some .int), Cond.fieldLink RX1 35 "TalkRebuilder" "partnersAt" "[I"]
def wsX1_originMail_r2 : List Cond := [Cond.methodLink RX1 121 yX1_hasPartner, Cond.instanceMethod yX1_hasPartner, Cond.selects RX1 yX1_hasPartner yX1_hasPartner, Cond.code yX1_hasPartner cX1_hasPartner 2 (some .boolean), Cond.methodLink RX1 154 yX1_isLine, Cond.instanceMethod yX1_isLine, Cond.selects RX1 yX1_isLine yX1_isLine, Cond.code yX1_isLine cX1_isLine 2 (some .boolean), Cond.methodLink RX1 126 yX1_lineAt, Cond.static yX1_lineAt, Cond.code yX1_lineAt cX1_lineAt 1 (some .int), Cond.methodLink RX1 132 yX1_mailAt, Cond.static yX1_mailAt, Cond.code yX1_mailAt cX1_mailAt 1 (some .int)]
def wsX1_originMail : List Cond := .code yX1_originMail cX1_originMail 3 (some .int) :: ((wsX1_originMail_r1 ++ wsX1_originMail_r2) ++ wsX10 ++ (vx_atM "java/lang/ArrayIndexOutOfBoundsException" ["java/lang/IndexOutOfBoundsException", "java/lang/RuntimeException", "java/lang/Exception"]).filter goodWord ++ (vx_atS RX1 188 "java/lang/IndexOutOfBoundsException" ["java/lang/RuntimeException", "java/lang/Exception"]).filter goodWord)
def wsX1_originLine_r1 : List Cond := [Cond.methodLink RX1 89 yX1_requireLine, Cond.instanceMethod yX1_requireLine, Cond.selects RX1 yX1_requireLine yX1_requireLine, Cond.initialized RX1, Cond.code yX1_requireLine cX1_requireLine 3 none, Cond.classLink RX1 184 "java/lang/IndexOutOfBoundsException", Cond.initialized "java/lang/IndexOutOfBoundsException", Cond.fieldLink RX1 26 "TalkRebuilder" "lineCounts" "[I", Cond.methodLink RX1 74 yX1_requireMail, Cond.instanceMethod yX1_requireMail, Cond.selects RX1 yX1_requireMail yX1_requireMail, Cond.code yX1_requireMail cX1_requireMail 2 none, Cond.fieldLink RX1 9 "TalkRebuilder" "mailCount" "I", Cond.methodLink RX1 52 yX1_isWithin, Cond.static yX1_isWithin, Cond.code yX1_isWithin cX1_isWithin 3 (some .boolean), Cond.methodLink RX1 80 yX1_placeOf, Cond.static yX1_placeOf, Cond.code yX1_placeOf cX1_placeOf 2 (some .int), Cond.methodLink RX1 129 yX1_originOf, Cond.instanceMethod yX1_originOf, Cond.selects RX1 yX1_originOf yX1_originOf, Cond.code yX1_originOf cX1_originOf 4 (some .int), Cond.fieldLink RX1 35 "TalkRebuilder" "partnersAt" "[I"]
def wsX1_originLine_r2 : List Cond := [Cond.methodLink RX1 121 yX1_hasPartner, Cond.instanceMethod yX1_hasPartner, Cond.selects RX1 yX1_hasPartner yX1_hasPartner, Cond.code yX1_hasPartner cX1_hasPartner 2 (some .boolean), Cond.methodLink RX1 154 yX1_isLine, Cond.instanceMethod yX1_isLine, Cond.selects RX1 yX1_isLine yX1_isLine, Cond.code yX1_isLine cX1_isLine 2 (some .boolean), Cond.methodLink RX1 126 yX1_lineAt, Cond.static yX1_lineAt, Cond.code yX1_lineAt cX1_lineAt 1 (some .int), Cond.methodLink RX1 132 yX1_mailAt, Cond.static yX1_mailAt, Cond.code yX1_mailAt cX1_mailAt 1 (some .int)]
def wsX1_originLine : List Cond := .code yX1_originLine cX1_originLine 3 (some .int) :: ((wsX1_originLine_r1 ++ wsX1_originLine_r2) ++ wsX10 ++ (vx_atM "java/lang/ArrayIndexOutOfBoundsException" ["java/lang/IndexOutOfBoundsException", "java/lang/RuntimeException", "java/lang/Exception"]).filter goodWord ++ (vx_atS RX1 188 "java/lang/IndexOutOfBoundsException" ["java/lang/RuntimeException", "java/lang/Exception"]).filter goodWord)
def wsX1_commonEnd : List Cond := .code yX1_commonEnd cX1_commonEnd 7 (some .int) :: ([.fieldLink RX1 26 "TalkRebuilder" "lineCounts" "[I", .methodLink RX1 226 Lib.Math.min.name, .static Lib.Math.min.name, .initialized "java/lang/Math", .code Lib.Math.min.name Lib.Math.min.code 2 (some .int), .fieldLink RX1 29 "TalkRebuilder" "marksAt" "[I", .fieldLink RX1 32 "TalkRebuilder" "wordsAt" "[I", .methodLink RX1 80 yX1_placeOf, .static yX1_placeOf, .initialized RX1, .code yX1_placeOf cX1_placeOf 2 (some .int)] ++ wsX10 ++ (vx_atM "java/lang/ArrayIndexOutOfBoundsException" ["java/lang/IndexOutOfBoundsException", "java/lang/RuntimeException", "java/lang/Exception"]).filter goodWord)
def wsX1_signatureLength : List Cond := .code yX1_signatureLength cX1_signatureLength 4 (some .int) :: ([.fieldLink RX1 9 "TalkRebuilder" "mailCount" "I", .fieldLink RX1 17 "TalkRebuilder" "authors" "[I", .methodLink RX1 221 Lib.Math.max.name, .static Lib.Math.max.name, .initialized "java/lang/Math", .code Lib.Math.max.name Lib.Math.max.code 2 (some .int), .methodLink RX1 218 yX1_commonEnd, .instanceMethod yX1_commonEnd, .selects RX1 yX1_commonEnd yX1_commonEnd, .initialized RX1, .code yX1_commonEnd cX1_commonEnd 7 (some .int), .fieldLink RX1 26 "TalkRebuilder" "lineCounts" "[I", .methodLink RX1 226 Lib.Math.min.name, .static Lib.Math.min.name, .code Lib.Math.min.name Lib.Math.min.code 2 (some .int), .fieldLink RX1 29 "TalkRebuilder" "marksAt" "[I", .fieldLink RX1 32 "TalkRebuilder" "wordsAt" "[I", .methodLink RX1 80 yX1_placeOf, .static yX1_placeOf, .code yX1_placeOf cX1_placeOf 2 (some .int)] ++ wsX10 ++ (vx_atM "java/lang/ArrayIndexOutOfBoundsException" ["java/lang/IndexOutOfBoundsException", "java/lang/RuntimeException", "java/lang/Exception"]).filter goodWord)
def wsX1_isEarlier : List Cond := .code yX1_isEarlier cX1_isEarlier 3 (some .boolean) :: ([.fieldLink RX1 13 "TalkRebuilder" "dates" "[I", .methodLink RX1 132 yX1_mailAt, .static yX1_mailAt, .initialized RX1, .code yX1_mailAt cX1_mailAt 1 (some .int)] ++ wsX10 ++ (vx_atM "java/lang/ArrayIndexOutOfBoundsException" ["java/lang/IndexOutOfBoundsException", "java/lang/RuntimeException", "java/lang/Exception"]).filter goodWord)
def wsX1_isDouble : List Cond := .code yX1_isDouble cX1_isDouble 3 (some .boolean) :: ([.fieldLink RX1 29 "TalkRebuilder" "marksAt" "[I", .fieldLink RX1 32 "TalkRebuilder" "wordsAt" "[I", .fieldLink RX1 23 "TalkRebuilder" "answeredDates" "[I", .methodLink RX1 154 yX1_isLine, .instanceMethod yX1_isLine, .selects RX1 yX1_isLine yX1_isLine, .initialized RX1, .code yX1_isLine cX1_isLine 2 (some .boolean), .fieldLink RX1 26 "TalkRebuilder" "lineCounts" "[I", .methodLink RX1 52 yX1_isWithin, .static yX1_isWithin, .code yX1_isWithin cX1_isWithin 3 (some .boolean), .methodLink RX1 126 yX1_lineAt, .static yX1_lineAt, .code yX1_lineAt cX1_lineAt 1 (some .int), .methodLink RX1 132 yX1_mailAt, .static yX1_mailAt, .code yX1_mailAt cX1_mailAt 1 (some .int), .methodLink RX1 214 yX1_isEarlier, .instanceMethod yX1_isEarlier, .selects RX1 yX1_isEarlier yX1_isEarlier, .code yX1_isEarlier cX1_isEarlier 3 (some .boolean), .fieldLink RX1 13 "TalkRebuilder" "dates" "[I"] ++ wsX10 ++ (vx_atM "java/lang/ArrayIndexOutOfBoundsException" ["java/lang/IndexOutOfBoundsException", "java/lang/RuntimeException", "java/lang/Exception"]).filter goodWord)
def wsX1_kindAt_r1 : List Cond := [Cond.fieldLink RX1 29 "TalkRebuilder" "marksAt" "[I", Cond.fieldLink RX1 26 "TalkRebuilder" "lineCounts" "[I", Cond.methodLink RX1 132 yX1_mailAt, Cond.static yX1_mailAt, Cond.initialized RX1, Cond.code yX1_mailAt cX1_mailAt 1 (some .int), Cond.methodLink RX1 126 yX1_lineAt, Cond.static yX1_lineAt, Cond.code yX1_lineAt cX1_lineAt 1 (some .int), Cond.methodLink RX1 139 yX1_signatureLength, Cond.instanceMethod yX1_signatureLength, Cond.selects RX1 yX1_signatureLength yX1_signatureLength, Cond.code yX1_signatureLength cX1_signatureLength 4 (some .int), Cond.fieldLink RX1 9 "TalkRebuilder" "mailCount" "I", Cond.fieldLink RX1 17 "TalkRebuilder" "authors" "[I", Cond.methodLink RX1 221 Lib.Math.max.name, Cond.static Lib.Math.max.name, Cond.initialized "java/lang/Math", Cond.code Lib.Math.max.name Lib.Math.max.code 2 (some .int), Cond.methodLink RX1 218 yX1_commonEnd, Cond.instanceMethod yX1_commonEnd, Cond.selects RX1 yX1_commonEnd yX1_commonEnd, Cond.code yX1_commonEnd cX1_commonEnd 7 (some .int), Cond.methodLink RX1 226 Lib.Math.min.name]
def wsX1_kindAt_r2 : List Cond := [Cond.static Lib.Math.min.name, Cond.code Lib.Math.min.name Lib.Math.min.code 2 (some .int), Cond.fieldLink RX1 32 "TalkRebuilder" "wordsAt" "[I", Cond.methodLink RX1 80 yX1_placeOf, Cond.static yX1_placeOf, Cond.code yX1_placeOf cX1_placeOf 2 (some .int), Cond.methodLink RX1 121 yX1_hasPartner, Cond.instanceMethod yX1_hasPartner, Cond.selects RX1 yX1_hasPartner yX1_hasPartner, Cond.code yX1_hasPartner cX1_hasPartner 2 (some .boolean), Cond.fieldLink RX1 35 "TalkRebuilder" "partnersAt" "[I", Cond.methodLink RX1 154 yX1_isLine, Cond.instanceMethod yX1_isLine, Cond.selects RX1 yX1_isLine yX1_isLine, Cond.code yX1_isLine cX1_isLine 2 (some .boolean), Cond.methodLink RX1 52 yX1_isWithin, Cond.static yX1_isWithin, Cond.code yX1_isWithin cX1_isWithin 3 (some .boolean), Cond.methodLink RX1 101 yX1_answersMissing, Cond.instanceMethod yX1_answersMissing, Cond.selects RX1 yX1_answersMissing yX1_answersMissing, Cond.code yX1_answersMissing cX1_answersMissing 2 (some .boolean), Cond.fieldLink RX1 23 "TalkRebuilder" "answeredDates" "[I", Cond.methodLink RX1 93 yX1_parentOf]
def wsX1_kindAt_r3 : List Cond := [Cond.instanceMethod yX1_parentOf, Cond.selects RX1 yX1_parentOf yX1_parentOf, Cond.code yX1_parentOf cX1_parentOf 2 (some .int), Cond.methodLink RX1 63 yX1_mailOfDate, Cond.instanceMethod yX1_mailOfDate, Cond.selects RX1 yX1_mailOfDate yX1_mailOfDate, Cond.code yX1_mailOfDate cX1_mailOfDate 3 (some .int), Cond.fieldLink RX1 13 "TalkRebuilder" "dates" "[I", Cond.methodLink RX1 211 yX1_isDouble, Cond.instanceMethod yX1_isDouble, Cond.selects RX1 yX1_isDouble yX1_isDouble, Cond.code yX1_isDouble cX1_isDouble 3 (some .boolean), Cond.methodLink RX1 214 yX1_isEarlier, Cond.instanceMethod yX1_isEarlier, Cond.selects RX1 yX1_isEarlier yX1_isEarlier, Cond.code yX1_isEarlier cX1_isEarlier 3 (some .boolean)]
def wsX1_kindAt : List Cond := .code yX1_kindAt cX1_kindAt 4 (some .char) :: ((wsX1_kindAt_r1 ++ (wsX1_kindAt_r2 ++ wsX1_kindAt_r3)) ++ wsX10 ++ (vx_atM "java/lang/ArrayIndexOutOfBoundsException" ["java/lang/IndexOutOfBoundsException", "java/lang/RuntimeException", "java/lang/Exception"]).filter goodWord)
def wsX1_kind_r1 : List Cond := [Cond.methodLink RX1 89 yX1_requireLine, Cond.instanceMethod yX1_requireLine, Cond.selects RX1 yX1_requireLine yX1_requireLine, Cond.initialized RX1, Cond.code yX1_requireLine cX1_requireLine 3 none, Cond.classLink RX1 184 "java/lang/IndexOutOfBoundsException", Cond.initialized "java/lang/IndexOutOfBoundsException", Cond.fieldLink RX1 26 "TalkRebuilder" "lineCounts" "[I", Cond.methodLink RX1 74 yX1_requireMail, Cond.instanceMethod yX1_requireMail, Cond.selects RX1 yX1_requireMail yX1_requireMail, Cond.code yX1_requireMail cX1_requireMail 2 none, Cond.fieldLink RX1 9 "TalkRebuilder" "mailCount" "I", Cond.methodLink RX1 52 yX1_isWithin, Cond.static yX1_isWithin, Cond.code yX1_isWithin cX1_isWithin 3 (some .boolean), Cond.methodLink RX1 80 yX1_placeOf, Cond.static yX1_placeOf, Cond.code yX1_placeOf cX1_placeOf 2 (some .int), Cond.methodLink RX1 135 yX1_kindAt, Cond.instanceMethod yX1_kindAt, Cond.selects RX1 yX1_kindAt yX1_kindAt, Cond.code yX1_kindAt cX1_kindAt 4 (some .char), Cond.fieldLink RX1 29 "TalkRebuilder" "marksAt" "[I"]
def wsX1_kind_r2 : List Cond := [Cond.methodLink RX1 132 yX1_mailAt, Cond.static yX1_mailAt, Cond.code yX1_mailAt cX1_mailAt 1 (some .int), Cond.methodLink RX1 126 yX1_lineAt, Cond.static yX1_lineAt, Cond.code yX1_lineAt cX1_lineAt 1 (some .int), Cond.methodLink RX1 139 yX1_signatureLength, Cond.instanceMethod yX1_signatureLength, Cond.selects RX1 yX1_signatureLength yX1_signatureLength, Cond.code yX1_signatureLength cX1_signatureLength 4 (some .int), Cond.fieldLink RX1 17 "TalkRebuilder" "authors" "[I", Cond.methodLink RX1 221 Lib.Math.max.name, Cond.static Lib.Math.max.name, Cond.initialized "java/lang/Math", Cond.code Lib.Math.max.name Lib.Math.max.code 2 (some .int), Cond.methodLink RX1 218 yX1_commonEnd, Cond.instanceMethod yX1_commonEnd, Cond.selects RX1 yX1_commonEnd yX1_commonEnd, Cond.code yX1_commonEnd cX1_commonEnd 7 (some .int), Cond.methodLink RX1 226 Lib.Math.min.name, Cond.static Lib.Math.min.name, Cond.code Lib.Math.min.name Lib.Math.min.code 2 (some .int), Cond.fieldLink RX1 32 "TalkRebuilder" "wordsAt" "[I", Cond.methodLink RX1 121 yX1_hasPartner]
def wsX1_kind_r3 : List Cond := [Cond.instanceMethod yX1_hasPartner, Cond.selects RX1 yX1_hasPartner yX1_hasPartner, Cond.code yX1_hasPartner cX1_hasPartner 2 (some .boolean), Cond.fieldLink RX1 35 "TalkRebuilder" "partnersAt" "[I", Cond.methodLink RX1 154 yX1_isLine, Cond.instanceMethod yX1_isLine, Cond.selects RX1 yX1_isLine yX1_isLine, Cond.code yX1_isLine cX1_isLine 2 (some .boolean), Cond.methodLink RX1 101 yX1_answersMissing, Cond.instanceMethod yX1_answersMissing, Cond.selects RX1 yX1_answersMissing yX1_answersMissing, Cond.code yX1_answersMissing cX1_answersMissing 2 (some .boolean), Cond.fieldLink RX1 23 "TalkRebuilder" "answeredDates" "[I", Cond.methodLink RX1 93 yX1_parentOf, Cond.instanceMethod yX1_parentOf, Cond.selects RX1 yX1_parentOf yX1_parentOf, Cond.code yX1_parentOf cX1_parentOf 2 (some .int), Cond.methodLink RX1 63 yX1_mailOfDate, Cond.instanceMethod yX1_mailOfDate, Cond.selects RX1 yX1_mailOfDate yX1_mailOfDate, Cond.code yX1_mailOfDate cX1_mailOfDate 3 (some .int), Cond.fieldLink RX1 13 "TalkRebuilder" "dates" "[I", Cond.methodLink RX1 211 yX1_isDouble, Cond.instanceMethod yX1_isDouble]
def wsX1_kind_r4 : List Cond := [Cond.selects RX1 yX1_isDouble yX1_isDouble, Cond.code yX1_isDouble cX1_isDouble 3 (some .boolean), Cond.methodLink RX1 214 yX1_isEarlier, Cond.instanceMethod yX1_isEarlier, Cond.selects RX1 yX1_isEarlier yX1_isEarlier, Cond.code yX1_isEarlier cX1_isEarlier 3 (some .boolean)]
def wsX1_kind : List Cond := .code yX1_kind cX1_kind 3 (some .char) :: ((wsX1_kind_r1 ++ (wsX1_kind_r2 ++ (wsX1_kind_r3 ++ wsX1_kind_r4))) ++ wsX10 ++ (vx_atM "java/lang/ArrayIndexOutOfBoundsException" ["java/lang/IndexOutOfBoundsException", "java/lang/RuntimeException", "java/lang/Exception"]).filter goodWord ++ (vx_atS RX1 188 "java/lang/IndexOutOfBoundsException" ["java/lang/RuntimeException", "java/lang/Exception"]).filter goodWord)
def wsX1_signature_r1 : List Cond := [Cond.methodLink RX1 74 yX1_requireMail, Cond.instanceMethod yX1_requireMail, Cond.selects RX1 yX1_requireMail yX1_requireMail, Cond.initialized RX1, Cond.code yX1_requireMail cX1_requireMail 2 none, Cond.classLink RX1 184 "java/lang/IndexOutOfBoundsException", Cond.initialized "java/lang/IndexOutOfBoundsException", Cond.fieldLink RX1 9 "TalkRebuilder" "mailCount" "I", Cond.methodLink RX1 52 yX1_isWithin, Cond.static yX1_isWithin, Cond.code yX1_isWithin cX1_isWithin 3 (some .boolean), Cond.methodLink RX1 139 yX1_signatureLength, Cond.instanceMethod yX1_signatureLength, Cond.selects RX1 yX1_signatureLength yX1_signatureLength, Cond.code yX1_signatureLength cX1_signatureLength 4 (some .int), Cond.fieldLink RX1 17 "TalkRebuilder" "authors" "[I", Cond.methodLink RX1 221 Lib.Math.max.name, Cond.static Lib.Math.max.name, Cond.initialized "java/lang/Math", Cond.code Lib.Math.max.name Lib.Math.max.code 2 (some .int), Cond.methodLink RX1 218 yX1_commonEnd, Cond.instanceMethod yX1_commonEnd, Cond.selects RX1 yX1_commonEnd yX1_commonEnd, Cond.code yX1_commonEnd cX1_commonEnd 7 (some .int)]
def wsX1_signature_r2 : List Cond := [Cond.fieldLink RX1 26 "TalkRebuilder" "lineCounts" "[I", Cond.methodLink RX1 226 Lib.Math.min.name, Cond.static Lib.Math.min.name, Cond.code Lib.Math.min.name Lib.Math.min.code 2 (some .int), Cond.fieldLink RX1 29 "TalkRebuilder" "marksAt" "[I", Cond.fieldLink RX1 32 "TalkRebuilder" "wordsAt" "[I", Cond.methodLink RX1 80 yX1_placeOf, Cond.static yX1_placeOf, Cond.code yX1_placeOf cX1_placeOf 2 (some .int)]
def wsX1_signature : List Cond := .code yX1_signature cX1_signature 2 (some .int) :: ((wsX1_signature_r1 ++ wsX1_signature_r2) ++ wsX10 ++ (vx_atS RX1 188 "java/lang/IndexOutOfBoundsException" ["java/lang/RuntimeException", "java/lang/Exception"]).filter goodWord ++ (vx_atM "java/lang/ArrayIndexOutOfBoundsException" ["java/lang/IndexOutOfBoundsException", "java/lang/RuntimeException", "java/lang/Exception"]).filter goodWord)
def wsX1_isNew_r1 : List Cond := [Cond.methodLink RX1 154 yX1_isLine, Cond.instanceMethod yX1_isLine, Cond.selects RX1 yX1_isLine yX1_isLine, Cond.initialized RX1, Cond.code yX1_isLine cX1_isLine 2 (some .boolean), Cond.fieldLink RX1 26 "TalkRebuilder" "lineCounts" "[I", Cond.methodLink RX1 52 yX1_isWithin, Cond.static yX1_isWithin, Cond.code yX1_isWithin cX1_isWithin 3 (some .boolean), Cond.methodLink RX1 126 yX1_lineAt, Cond.static yX1_lineAt, Cond.code yX1_lineAt cX1_lineAt 1 (some .int), Cond.methodLink RX1 132 yX1_mailAt, Cond.static yX1_mailAt, Cond.code yX1_mailAt cX1_mailAt 1 (some .int), Cond.methodLink RX1 135 yX1_kindAt, Cond.instanceMethod yX1_kindAt, Cond.selects RX1 yX1_kindAt yX1_kindAt, Cond.code yX1_kindAt cX1_kindAt 4 (some .char), Cond.fieldLink RX1 29 "TalkRebuilder" "marksAt" "[I", Cond.methodLink RX1 139 yX1_signatureLength, Cond.instanceMethod yX1_signatureLength, Cond.selects RX1 yX1_signatureLength yX1_signatureLength, Cond.code yX1_signatureLength cX1_signatureLength 4 (some .int)]
def wsX1_isNew_r2 : List Cond := [Cond.fieldLink RX1 9 "TalkRebuilder" "mailCount" "I", Cond.fieldLink RX1 17 "TalkRebuilder" "authors" "[I", Cond.methodLink RX1 221 Lib.Math.max.name, Cond.static Lib.Math.max.name, Cond.initialized "java/lang/Math", Cond.code Lib.Math.max.name Lib.Math.max.code 2 (some .int), Cond.methodLink RX1 218 yX1_commonEnd, Cond.instanceMethod yX1_commonEnd, Cond.selects RX1 yX1_commonEnd yX1_commonEnd, Cond.code yX1_commonEnd cX1_commonEnd 7 (some .int), Cond.methodLink RX1 226 Lib.Math.min.name, Cond.static Lib.Math.min.name, Cond.code Lib.Math.min.name Lib.Math.min.code 2 (some .int), Cond.fieldLink RX1 32 "TalkRebuilder" "wordsAt" "[I", Cond.methodLink RX1 80 yX1_placeOf, Cond.static yX1_placeOf, Cond.code yX1_placeOf cX1_placeOf 2 (some .int), Cond.methodLink RX1 121 yX1_hasPartner, Cond.instanceMethod yX1_hasPartner, Cond.selects RX1 yX1_hasPartner yX1_hasPartner, Cond.code yX1_hasPartner cX1_hasPartner 2 (some .boolean), Cond.fieldLink RX1 35 "TalkRebuilder" "partnersAt" "[I", Cond.methodLink RX1 101 yX1_answersMissing, Cond.instanceMethod yX1_answersMissing]
def wsX1_isNew_r3 : List Cond := [Cond.selects RX1 yX1_answersMissing yX1_answersMissing, Cond.code yX1_answersMissing cX1_answersMissing 2 (some .boolean), Cond.fieldLink RX1 23 "TalkRebuilder" "answeredDates" "[I", Cond.methodLink RX1 93 yX1_parentOf, Cond.instanceMethod yX1_parentOf, Cond.selects RX1 yX1_parentOf yX1_parentOf, Cond.code yX1_parentOf cX1_parentOf 2 (some .int), Cond.methodLink RX1 63 yX1_mailOfDate, Cond.instanceMethod yX1_mailOfDate, Cond.selects RX1 yX1_mailOfDate yX1_mailOfDate, Cond.code yX1_mailOfDate cX1_mailOfDate 3 (some .int), Cond.fieldLink RX1 13 "TalkRebuilder" "dates" "[I", Cond.methodLink RX1 211 yX1_isDouble, Cond.instanceMethod yX1_isDouble, Cond.selects RX1 yX1_isDouble yX1_isDouble, Cond.code yX1_isDouble cX1_isDouble 3 (some .boolean), Cond.methodLink RX1 214 yX1_isEarlier, Cond.instanceMethod yX1_isEarlier, Cond.selects RX1 yX1_isEarlier yX1_isEarlier, Cond.code yX1_isEarlier cX1_isEarlier 3 (some .boolean)]
def wsX1_isNew : List Cond := .code yX1_isNew cX1_isNew 2 (some .boolean) :: ((wsX1_isNew_r1 ++ (wsX1_isNew_r2 ++ wsX1_isNew_r3)) ++ wsX10 ++ (vx_atM "java/lang/ArrayIndexOutOfBoundsException" ["java/lang/IndexOutOfBoundsException", "java/lang/RuntimeException", "java/lang/Exception"]).filter goodWord)
def wsX1_answeredBy_r1 : List Cond := [Cond.methodLink RX1 132 yX1_mailAt, Cond.static yX1_mailAt, Cond.initialized RX1, Cond.code yX1_mailAt cX1_mailAt 1 (some .int), Cond.methodLink RX1 80 yX1_placeOf, Cond.static yX1_placeOf, Cond.code yX1_placeOf cX1_placeOf 2 (some .int), Cond.methodLink RX1 121 yX1_hasPartner, Cond.instanceMethod yX1_hasPartner, Cond.selects RX1 yX1_hasPartner yX1_hasPartner, Cond.code yX1_hasPartner cX1_hasPartner 2 (some .boolean), Cond.fieldLink RX1 35 "TalkRebuilder" "partnersAt" "[I", Cond.methodLink RX1 154 yX1_isLine, Cond.instanceMethod yX1_isLine, Cond.selects RX1 yX1_isLine yX1_isLine, Cond.code yX1_isLine cX1_isLine 2 (some .boolean), Cond.fieldLink RX1 26 "TalkRebuilder" "lineCounts" "[I", Cond.methodLink RX1 52 yX1_isWithin, Cond.static yX1_isWithin, Cond.code yX1_isWithin cX1_isWithin 3 (some .boolean), Cond.methodLink RX1 126 yX1_lineAt, Cond.static yX1_lineAt, Cond.code yX1_lineAt cX1_lineAt 1 (some .int), Cond.methodLink RX1 129 yX1_originOf]
def wsX1_answeredBy_r2 : List Cond := [Cond.instanceMethod yX1_originOf, Cond.selects RX1 yX1_originOf yX1_originOf, Cond.code yX1_originOf cX1_originOf 4 (some .int)]
def wsX1_answeredBy : List Cond := .code yX1_answeredBy cX1_answeredBy 4 (some .int) :: ((wsX1_answeredBy_r1 ++ wsX1_answeredBy_r2) ++ wsX10 ++ (vx_atM "java/lang/ArrayIndexOutOfBoundsException" ["java/lang/IndexOutOfBoundsException", "java/lang/RuntimeException", "java/lang/Exception"]).filter goodWord)
def wsX1_requireAnswered_r1 : List Cond := [Cond.classLink RX1 160 "java/lang/UnsupportedOperationException", Cond.initialized "java/lang/UnsupportedOperationException", Cond.classLink RX1 96 "java/util/NoSuchElementException", Cond.initialized "java/util/NoSuchElementException", Cond.methodLink RX1 145 yX1_isNew, Cond.instanceMethod yX1_isNew, Cond.selects RX1 yX1_isNew yX1_isNew, Cond.initialized RX1, Cond.code yX1_isNew cX1_isNew 2 (some .boolean), Cond.methodLink RX1 154 yX1_isLine, Cond.instanceMethod yX1_isLine, Cond.selects RX1 yX1_isLine yX1_isLine, Cond.code yX1_isLine cX1_isLine 2 (some .boolean), Cond.fieldLink RX1 26 "TalkRebuilder" "lineCounts" "[I", Cond.methodLink RX1 52 yX1_isWithin, Cond.static yX1_isWithin, Cond.code yX1_isWithin cX1_isWithin 3 (some .boolean), Cond.methodLink RX1 126 yX1_lineAt, Cond.static yX1_lineAt, Cond.code yX1_lineAt cX1_lineAt 1 (some .int), Cond.methodLink RX1 132 yX1_mailAt, Cond.static yX1_mailAt, Cond.code yX1_mailAt cX1_mailAt 1 (some .int), Cond.methodLink RX1 135 yX1_kindAt]
def wsX1_requireAnswered_r2 : List Cond := [Cond.instanceMethod yX1_kindAt, Cond.selects RX1 yX1_kindAt yX1_kindAt, Cond.code yX1_kindAt cX1_kindAt 4 (some .char), Cond.fieldLink RX1 29 "TalkRebuilder" "marksAt" "[I", Cond.methodLink RX1 139 yX1_signatureLength, Cond.instanceMethod yX1_signatureLength, Cond.selects RX1 yX1_signatureLength yX1_signatureLength, Cond.code yX1_signatureLength cX1_signatureLength 4 (some .int), Cond.fieldLink RX1 9 "TalkRebuilder" "mailCount" "I", Cond.fieldLink RX1 17 "TalkRebuilder" "authors" "[I", Cond.methodLink RX1 221 Lib.Math.max.name, Cond.static Lib.Math.max.name, Cond.initialized "java/lang/Math", Cond.code Lib.Math.max.name Lib.Math.max.code 2 (some .int), Cond.methodLink RX1 218 yX1_commonEnd, Cond.instanceMethod yX1_commonEnd, Cond.selects RX1 yX1_commonEnd yX1_commonEnd, Cond.code yX1_commonEnd cX1_commonEnd 7 (some .int), Cond.methodLink RX1 226 Lib.Math.min.name, Cond.static Lib.Math.min.name, Cond.code Lib.Math.min.name Lib.Math.min.code 2 (some .int), Cond.fieldLink RX1 32 "TalkRebuilder" "wordsAt" "[I", Cond.methodLink RX1 80 yX1_placeOf, Cond.static yX1_placeOf]
def wsX1_requireAnswered_r3 : List Cond := [Cond.code yX1_placeOf cX1_placeOf 2 (some .int), Cond.methodLink RX1 121 yX1_hasPartner, Cond.instanceMethod yX1_hasPartner, Cond.selects RX1 yX1_hasPartner yX1_hasPartner, Cond.code yX1_hasPartner cX1_hasPartner 2 (some .boolean), Cond.fieldLink RX1 35 "TalkRebuilder" "partnersAt" "[I", Cond.methodLink RX1 101 yX1_answersMissing, Cond.instanceMethod yX1_answersMissing, Cond.selects RX1 yX1_answersMissing yX1_answersMissing, Cond.code yX1_answersMissing cX1_answersMissing 2 (some .boolean), Cond.fieldLink RX1 23 "TalkRebuilder" "answeredDates" "[I", Cond.methodLink RX1 93 yX1_parentOf, Cond.instanceMethod yX1_parentOf, Cond.selects RX1 yX1_parentOf yX1_parentOf, Cond.code yX1_parentOf cX1_parentOf 2 (some .int), Cond.methodLink RX1 63 yX1_mailOfDate, Cond.instanceMethod yX1_mailOfDate, Cond.selects RX1 yX1_mailOfDate yX1_mailOfDate, Cond.code yX1_mailOfDate cX1_mailOfDate 3 (some .int), Cond.fieldLink RX1 13 "TalkRebuilder" "dates" "[I", Cond.methodLink RX1 211 yX1_isDouble, Cond.instanceMethod yX1_isDouble, Cond.selects RX1 yX1_isDouble yX1_isDouble, Cond.code yX1_isDouble cX1_isDouble 3 (some .boolean)]
def wsX1_requireAnswered_r4 : List Cond := [Cond.methodLink RX1 214 yX1_isEarlier, Cond.instanceMethod yX1_isEarlier, Cond.selects RX1 yX1_isEarlier yX1_isEarlier, Cond.code yX1_isEarlier cX1_isEarlier 3 (some .boolean), Cond.methodLink RX1 148 yX1_answeredBy, Cond.instanceMethod yX1_answeredBy, Cond.selects RX1 yX1_answeredBy yX1_answeredBy, Cond.code yX1_answeredBy cX1_answeredBy 4 (some .int), Cond.methodLink RX1 129 yX1_originOf, Cond.instanceMethod yX1_originOf, Cond.selects RX1 yX1_originOf yX1_originOf, Cond.code yX1_originOf cX1_originOf 4 (some .int)]
def wsX1_requireAnswered : List Cond := .code yX1_requireAnswered cX1_requireAnswered 3 (some .int) :: ((wsX1_requireAnswered_r1 ++ (wsX1_requireAnswered_r2 ++ (wsX1_requireAnswered_r3 ++ wsX1_requireAnswered_r4))) ++ wsX10 ++ (vx_atS RX1 164 "java/lang/UnsupportedOperationException" ["java/lang/RuntimeException", "java/lang/Exception"]).filter goodWord ++ (vx_atS RX1 100 "java/util/NoSuchElementException" ["java/lang/RuntimeException", "java/lang/Exception"]).filter goodWord ++ (vx_atM "java/lang/ArrayIndexOutOfBoundsException" ["java/lang/IndexOutOfBoundsException", "java/lang/RuntimeException", "java/lang/Exception"]).filter goodWord)
def wsX1_answersMail_r1 : List Cond := [Cond.methodLink RX1 89 yX1_requireLine, Cond.instanceMethod yX1_requireLine, Cond.selects RX1 yX1_requireLine yX1_requireLine, Cond.initialized RX1, Cond.code yX1_requireLine cX1_requireLine 3 none, Cond.classLink RX1 184 "java/lang/IndexOutOfBoundsException", Cond.initialized "java/lang/IndexOutOfBoundsException", Cond.fieldLink RX1 26 "TalkRebuilder" "lineCounts" "[I", Cond.methodLink RX1 74 yX1_requireMail, Cond.instanceMethod yX1_requireMail, Cond.selects RX1 yX1_requireMail yX1_requireMail, Cond.code yX1_requireMail cX1_requireMail 2 none, Cond.fieldLink RX1 9 "TalkRebuilder" "mailCount" "I", Cond.methodLink RX1 52 yX1_isWithin, Cond.static yX1_isWithin, Cond.code yX1_isWithin cX1_isWithin 3 (some .boolean), Cond.methodLink RX1 80 yX1_placeOf, Cond.static yX1_placeOf, Cond.code yX1_placeOf cX1_placeOf 2 (some .int), Cond.methodLink RX1 142 yX1_requireAnswered, Cond.instanceMethod yX1_requireAnswered, Cond.selects RX1 yX1_requireAnswered yX1_requireAnswered, Cond.code yX1_requireAnswered cX1_requireAnswered 3 (some .int), Cond.classLink RX1 160 "java/lang/UnsupportedOperationException"]
def wsX1_answersMail_r2 : List Cond := [Cond.initialized "java/lang/UnsupportedOperationException", Cond.classLink RX1 96 "java/util/NoSuchElementException", Cond.initialized "java/util/NoSuchElementException", Cond.methodLink RX1 145 yX1_isNew, Cond.instanceMethod yX1_isNew, Cond.selects RX1 yX1_isNew yX1_isNew, Cond.code yX1_isNew cX1_isNew 2 (some .boolean), Cond.methodLink RX1 154 yX1_isLine, Cond.instanceMethod yX1_isLine, Cond.selects RX1 yX1_isLine yX1_isLine, Cond.code yX1_isLine cX1_isLine 2 (some .boolean), Cond.methodLink RX1 126 yX1_lineAt, Cond.static yX1_lineAt, Cond.code yX1_lineAt cX1_lineAt 1 (some .int), Cond.methodLink RX1 132 yX1_mailAt, Cond.static yX1_mailAt, Cond.code yX1_mailAt cX1_mailAt 1 (some .int), Cond.methodLink RX1 135 yX1_kindAt, Cond.instanceMethod yX1_kindAt, Cond.selects RX1 yX1_kindAt yX1_kindAt, Cond.code yX1_kindAt cX1_kindAt 4 (some .char), Cond.fieldLink RX1 29 "TalkRebuilder" "marksAt" "[I", Cond.methodLink RX1 139 yX1_signatureLength, Cond.instanceMethod yX1_signatureLength]
def wsX1_answersMail_r3 : List Cond := [Cond.selects RX1 yX1_signatureLength yX1_signatureLength, Cond.code yX1_signatureLength cX1_signatureLength 4 (some .int), Cond.fieldLink RX1 17 "TalkRebuilder" "authors" "[I", Cond.methodLink RX1 221 Lib.Math.max.name, Cond.static Lib.Math.max.name, Cond.initialized "java/lang/Math", Cond.code Lib.Math.max.name Lib.Math.max.code 2 (some .int), Cond.methodLink RX1 218 yX1_commonEnd, Cond.instanceMethod yX1_commonEnd, Cond.selects RX1 yX1_commonEnd yX1_commonEnd, Cond.code yX1_commonEnd cX1_commonEnd 7 (some .int), Cond.methodLink RX1 226 Lib.Math.min.name, Cond.static Lib.Math.min.name, Cond.code Lib.Math.min.name Lib.Math.min.code 2 (some .int), Cond.fieldLink RX1 32 "TalkRebuilder" "wordsAt" "[I", Cond.methodLink RX1 121 yX1_hasPartner, Cond.instanceMethod yX1_hasPartner, Cond.selects RX1 yX1_hasPartner yX1_hasPartner, Cond.code yX1_hasPartner cX1_hasPartner 2 (some .boolean), Cond.fieldLink RX1 35 "TalkRebuilder" "partnersAt" "[I", Cond.methodLink RX1 101 yX1_answersMissing, Cond.instanceMethod yX1_answersMissing, Cond.selects RX1 yX1_answersMissing yX1_answersMissing, Cond.code yX1_answersMissing cX1_answersMissing 2 (some .boolean)]
def wsX1_answersMail_r4 : List Cond := [Cond.fieldLink RX1 23 "TalkRebuilder" "answeredDates" "[I", Cond.methodLink RX1 93 yX1_parentOf, Cond.instanceMethod yX1_parentOf, Cond.selects RX1 yX1_parentOf yX1_parentOf, Cond.code yX1_parentOf cX1_parentOf 2 (some .int), Cond.methodLink RX1 63 yX1_mailOfDate, Cond.instanceMethod yX1_mailOfDate, Cond.selects RX1 yX1_mailOfDate yX1_mailOfDate, Cond.code yX1_mailOfDate cX1_mailOfDate 3 (some .int), Cond.fieldLink RX1 13 "TalkRebuilder" "dates" "[I", Cond.methodLink RX1 211 yX1_isDouble, Cond.instanceMethod yX1_isDouble, Cond.selects RX1 yX1_isDouble yX1_isDouble, Cond.code yX1_isDouble cX1_isDouble 3 (some .boolean), Cond.methodLink RX1 214 yX1_isEarlier, Cond.instanceMethod yX1_isEarlier, Cond.selects RX1 yX1_isEarlier yX1_isEarlier, Cond.code yX1_isEarlier cX1_isEarlier 3 (some .boolean), Cond.methodLink RX1 148 yX1_answeredBy, Cond.instanceMethod yX1_answeredBy, Cond.selects RX1 yX1_answeredBy yX1_answeredBy, Cond.code yX1_answeredBy cX1_answeredBy 4 (some .int), Cond.methodLink RX1 129 yX1_originOf, Cond.instanceMethod yX1_originOf]
def wsX1_answersMail_r5 : List Cond := [Cond.selects RX1 yX1_originOf yX1_originOf, Cond.code yX1_originOf cX1_originOf 4 (some .int)]
def wsX1_answersMail : List Cond := .code yX1_answersMail cX1_answersMail 3 (some .int) :: ((wsX1_answersMail_r1 ++ (wsX1_answersMail_r2 ++ (wsX1_answersMail_r3 ++ (wsX1_answersMail_r4 ++ wsX1_answersMail_r5)))) ++ wsX10 ++ (vx_atM "java/lang/ArrayIndexOutOfBoundsException" ["java/lang/IndexOutOfBoundsException", "java/lang/RuntimeException", "java/lang/Exception"]).filter goodWord ++ (vx_atS RX1 188 "java/lang/IndexOutOfBoundsException" ["java/lang/RuntimeException", "java/lang/Exception"]).filter goodWord ++ (vx_atS RX1 164 "java/lang/UnsupportedOperationException" ["java/lang/RuntimeException", "java/lang/Exception"]).filter goodWord ++ (vx_atS RX1 100 "java/util/NoSuchElementException" ["java/lang/RuntimeException", "java/lang/Exception"]).filter goodWord)
def wsX1_answersLine_r1 : List Cond := [Cond.methodLink RX1 89 yX1_requireLine, Cond.instanceMethod yX1_requireLine, Cond.selects RX1 yX1_requireLine yX1_requireLine, Cond.initialized RX1, Cond.code yX1_requireLine cX1_requireLine 3 none, Cond.classLink RX1 184 "java/lang/IndexOutOfBoundsException", Cond.initialized "java/lang/IndexOutOfBoundsException", Cond.fieldLink RX1 26 "TalkRebuilder" "lineCounts" "[I", Cond.methodLink RX1 74 yX1_requireMail, Cond.instanceMethod yX1_requireMail, Cond.selects RX1 yX1_requireMail yX1_requireMail, Cond.code yX1_requireMail cX1_requireMail 2 none, Cond.fieldLink RX1 9 "TalkRebuilder" "mailCount" "I", Cond.methodLink RX1 52 yX1_isWithin, Cond.static yX1_isWithin, Cond.code yX1_isWithin cX1_isWithin 3 (some .boolean), Cond.methodLink RX1 80 yX1_placeOf, Cond.static yX1_placeOf, Cond.code yX1_placeOf cX1_placeOf 2 (some .int), Cond.methodLink RX1 142 yX1_requireAnswered, Cond.instanceMethod yX1_requireAnswered, Cond.selects RX1 yX1_requireAnswered yX1_requireAnswered, Cond.code yX1_requireAnswered cX1_requireAnswered 3 (some .int), Cond.classLink RX1 160 "java/lang/UnsupportedOperationException"]
def wsX1_answersLine_r2 : List Cond := [Cond.initialized "java/lang/UnsupportedOperationException", Cond.classLink RX1 96 "java/util/NoSuchElementException", Cond.initialized "java/util/NoSuchElementException", Cond.methodLink RX1 145 yX1_isNew, Cond.instanceMethod yX1_isNew, Cond.selects RX1 yX1_isNew yX1_isNew, Cond.code yX1_isNew cX1_isNew 2 (some .boolean), Cond.methodLink RX1 154 yX1_isLine, Cond.instanceMethod yX1_isLine, Cond.selects RX1 yX1_isLine yX1_isLine, Cond.code yX1_isLine cX1_isLine 2 (some .boolean), Cond.methodLink RX1 126 yX1_lineAt, Cond.static yX1_lineAt, Cond.code yX1_lineAt cX1_lineAt 1 (some .int), Cond.methodLink RX1 132 yX1_mailAt, Cond.static yX1_mailAt, Cond.code yX1_mailAt cX1_mailAt 1 (some .int), Cond.methodLink RX1 135 yX1_kindAt, Cond.instanceMethod yX1_kindAt, Cond.selects RX1 yX1_kindAt yX1_kindAt, Cond.code yX1_kindAt cX1_kindAt 4 (some .char), Cond.fieldLink RX1 29 "TalkRebuilder" "marksAt" "[I", Cond.methodLink RX1 139 yX1_signatureLength, Cond.instanceMethod yX1_signatureLength]
def wsX1_answersLine_r3 : List Cond := [Cond.selects RX1 yX1_signatureLength yX1_signatureLength, Cond.code yX1_signatureLength cX1_signatureLength 4 (some .int), Cond.fieldLink RX1 17 "TalkRebuilder" "authors" "[I", Cond.methodLink RX1 221 Lib.Math.max.name, Cond.static Lib.Math.max.name, Cond.initialized "java/lang/Math", Cond.code Lib.Math.max.name Lib.Math.max.code 2 (some .int), Cond.methodLink RX1 218 yX1_commonEnd, Cond.instanceMethod yX1_commonEnd, Cond.selects RX1 yX1_commonEnd yX1_commonEnd, Cond.code yX1_commonEnd cX1_commonEnd 7 (some .int), Cond.methodLink RX1 226 Lib.Math.min.name, Cond.static Lib.Math.min.name, Cond.code Lib.Math.min.name Lib.Math.min.code 2 (some .int), Cond.fieldLink RX1 32 "TalkRebuilder" "wordsAt" "[I", Cond.methodLink RX1 121 yX1_hasPartner, Cond.instanceMethod yX1_hasPartner, Cond.selects RX1 yX1_hasPartner yX1_hasPartner, Cond.code yX1_hasPartner cX1_hasPartner 2 (some .boolean), Cond.fieldLink RX1 35 "TalkRebuilder" "partnersAt" "[I", Cond.methodLink RX1 101 yX1_answersMissing, Cond.instanceMethod yX1_answersMissing, Cond.selects RX1 yX1_answersMissing yX1_answersMissing, Cond.code yX1_answersMissing cX1_answersMissing 2 (some .boolean)]
def wsX1_answersLine_r4 : List Cond := [Cond.fieldLink RX1 23 "TalkRebuilder" "answeredDates" "[I", Cond.methodLink RX1 93 yX1_parentOf, Cond.instanceMethod yX1_parentOf, Cond.selects RX1 yX1_parentOf yX1_parentOf, Cond.code yX1_parentOf cX1_parentOf 2 (some .int), Cond.methodLink RX1 63 yX1_mailOfDate, Cond.instanceMethod yX1_mailOfDate, Cond.selects RX1 yX1_mailOfDate yX1_mailOfDate, Cond.code yX1_mailOfDate cX1_mailOfDate 3 (some .int), Cond.fieldLink RX1 13 "TalkRebuilder" "dates" "[I", Cond.methodLink RX1 211 yX1_isDouble, Cond.instanceMethod yX1_isDouble, Cond.selects RX1 yX1_isDouble yX1_isDouble, Cond.code yX1_isDouble cX1_isDouble 3 (some .boolean), Cond.methodLink RX1 214 yX1_isEarlier, Cond.instanceMethod yX1_isEarlier, Cond.selects RX1 yX1_isEarlier yX1_isEarlier, Cond.code yX1_isEarlier cX1_isEarlier 3 (some .boolean), Cond.methodLink RX1 148 yX1_answeredBy, Cond.instanceMethod yX1_answeredBy, Cond.selects RX1 yX1_answeredBy yX1_answeredBy, Cond.code yX1_answeredBy cX1_answeredBy 4 (some .int), Cond.methodLink RX1 129 yX1_originOf, Cond.instanceMethod yX1_originOf]
def wsX1_answersLine_r5 : List Cond := [Cond.selects RX1 yX1_originOf yX1_originOf, Cond.code yX1_originOf cX1_originOf 4 (some .int)]
def wsX1_answersLine : List Cond := .code yX1_answersLine cX1_answersLine 3 (some .int) :: ((wsX1_answersLine_r1 ++ (wsX1_answersLine_r2 ++ (wsX1_answersLine_r3 ++ (wsX1_answersLine_r4 ++ wsX1_answersLine_r5)))) ++ wsX10 ++ (vx_atM "java/lang/ArrayIndexOutOfBoundsException" ["java/lang/IndexOutOfBoundsException", "java/lang/RuntimeException", "java/lang/Exception"]).filter goodWord ++ (vx_atS RX1 188 "java/lang/IndexOutOfBoundsException" ["java/lang/RuntimeException", "java/lang/Exception"]).filter goodWord ++ (vx_atS RX1 164 "java/lang/UnsupportedOperationException" ["java/lang/RuntimeException", "java/lang/Exception"]).filter goodWord ++ (vx_atS RX1 100 "java/util/NoSuchElementException" ["java/lang/RuntimeException", "java/lang/Exception"]).filter goodWord)
def wsX1_answers_r1 : List Cond := [Cond.methodLink RX1 89 yX1_requireLine, Cond.instanceMethod yX1_requireLine, Cond.selects RX1 yX1_requireLine yX1_requireLine, Cond.initialized RX1, Cond.code yX1_requireLine cX1_requireLine 3 none, Cond.classLink RX1 184 "java/lang/IndexOutOfBoundsException", Cond.initialized "java/lang/IndexOutOfBoundsException", Cond.fieldLink RX1 26 "TalkRebuilder" "lineCounts" "[I", Cond.methodLink RX1 74 yX1_requireMail, Cond.instanceMethod yX1_requireMail, Cond.selects RX1 yX1_requireMail yX1_requireMail, Cond.code yX1_requireMail cX1_requireMail 2 none, Cond.fieldLink RX1 9 "TalkRebuilder" "mailCount" "I", Cond.methodLink RX1 52 yX1_isWithin, Cond.static yX1_isWithin, Cond.code yX1_isWithin cX1_isWithin 3 (some .boolean), Cond.methodLink RX1 80 yX1_placeOf, Cond.static yX1_placeOf, Cond.code yX1_placeOf cX1_placeOf 2 (some .int), Cond.methodLink RX1 145 yX1_isNew, Cond.instanceMethod yX1_isNew, Cond.selects RX1 yX1_isNew yX1_isNew, Cond.code yX1_isNew cX1_isNew 2 (some .boolean), Cond.methodLink RX1 154 yX1_isLine]
def wsX1_answers_r2 : List Cond := [Cond.instanceMethod yX1_isLine, Cond.selects RX1 yX1_isLine yX1_isLine, Cond.code yX1_isLine cX1_isLine 2 (some .boolean), Cond.methodLink RX1 126 yX1_lineAt, Cond.static yX1_lineAt, Cond.code yX1_lineAt cX1_lineAt 1 (some .int), Cond.methodLink RX1 132 yX1_mailAt, Cond.static yX1_mailAt, Cond.code yX1_mailAt cX1_mailAt 1 (some .int), Cond.methodLink RX1 135 yX1_kindAt, Cond.instanceMethod yX1_kindAt, Cond.selects RX1 yX1_kindAt yX1_kindAt, Cond.code yX1_kindAt cX1_kindAt 4 (some .char), Cond.fieldLink RX1 29 "TalkRebuilder" "marksAt" "[I", Cond.methodLink RX1 139 yX1_signatureLength, Cond.instanceMethod yX1_signatureLength, Cond.selects RX1 yX1_signatureLength yX1_signatureLength, Cond.code yX1_signatureLength cX1_signatureLength 4 (some .int), Cond.fieldLink RX1 17 "TalkRebuilder" "authors" "[I", Cond.methodLink RX1 221 Lib.Math.max.name, Cond.static Lib.Math.max.name, Cond.initialized "java/lang/Math", Cond.code Lib.Math.max.name Lib.Math.max.code 2 (some .int), Cond.methodLink RX1 218 yX1_commonEnd]
def wsX1_answers_r3 : List Cond := [Cond.instanceMethod yX1_commonEnd, Cond.selects RX1 yX1_commonEnd yX1_commonEnd, Cond.code yX1_commonEnd cX1_commonEnd 7 (some .int), Cond.methodLink RX1 226 Lib.Math.min.name, Cond.static Lib.Math.min.name, Cond.code Lib.Math.min.name Lib.Math.min.code 2 (some .int), Cond.fieldLink RX1 32 "TalkRebuilder" "wordsAt" "[I", Cond.methodLink RX1 121 yX1_hasPartner, Cond.instanceMethod yX1_hasPartner, Cond.selects RX1 yX1_hasPartner yX1_hasPartner, Cond.code yX1_hasPartner cX1_hasPartner 2 (some .boolean), Cond.fieldLink RX1 35 "TalkRebuilder" "partnersAt" "[I", Cond.methodLink RX1 101 yX1_answersMissing, Cond.instanceMethod yX1_answersMissing, Cond.selects RX1 yX1_answersMissing yX1_answersMissing, Cond.code yX1_answersMissing cX1_answersMissing 2 (some .boolean), Cond.fieldLink RX1 23 "TalkRebuilder" "answeredDates" "[I", Cond.methodLink RX1 93 yX1_parentOf, Cond.instanceMethod yX1_parentOf, Cond.selects RX1 yX1_parentOf yX1_parentOf, Cond.code yX1_parentOf cX1_parentOf 2 (some .int), Cond.methodLink RX1 63 yX1_mailOfDate, Cond.instanceMethod yX1_mailOfDate, Cond.selects RX1 yX1_mailOfDate yX1_mailOfDate]
def wsX1_answers_r4 : List Cond := [Cond.code yX1_mailOfDate cX1_mailOfDate 3 (some .int), Cond.fieldLink RX1 13 "TalkRebuilder" "dates" "[I", Cond.methodLink RX1 211 yX1_isDouble, Cond.instanceMethod yX1_isDouble, Cond.selects RX1 yX1_isDouble yX1_isDouble, Cond.code yX1_isDouble cX1_isDouble 3 (some .boolean), Cond.methodLink RX1 214 yX1_isEarlier, Cond.instanceMethod yX1_isEarlier, Cond.selects RX1 yX1_isEarlier yX1_isEarlier, Cond.code yX1_isEarlier cX1_isEarlier 3 (some .boolean), Cond.methodLink RX1 148 yX1_answeredBy, Cond.instanceMethod yX1_answeredBy, Cond.selects RX1 yX1_answeredBy yX1_answeredBy, Cond.code yX1_answeredBy cX1_answeredBy 4 (some .int), Cond.methodLink RX1 129 yX1_originOf, Cond.instanceMethod yX1_originOf, Cond.selects RX1 yX1_originOf yX1_originOf, Cond.code yX1_originOf cX1_originOf 4 (some .int)]
def wsX1_answers : List Cond := .code yX1_answers cX1_answers 6 (some .int) :: ((wsX1_answers_r1 ++ (wsX1_answers_r2 ++ (wsX1_answers_r3 ++ wsX1_answers_r4))) ++ wsX10 ++ (vx_atM "java/lang/ArrayIndexOutOfBoundsException" ["java/lang/IndexOutOfBoundsException", "java/lang/RuntimeException", "java/lang/Exception"]).filter goodWord ++ (vx_atS RX1 188 "java/lang/IndexOutOfBoundsException" ["java/lang/RuntimeException", "java/lang/Exception"]).filter goodWord)
def wsX1_isInTalk_r1 : List Cond := [Cond.methodLink RX1 154 yX1_isLine, Cond.instanceMethod yX1_isLine, Cond.selects RX1 yX1_isLine yX1_isLine, Cond.initialized RX1, Cond.code yX1_isLine cX1_isLine 2 (some .boolean), Cond.fieldLink RX1 26 "TalkRebuilder" "lineCounts" "[I", Cond.methodLink RX1 52 yX1_isWithin, Cond.static yX1_isWithin, Cond.code yX1_isWithin cX1_isWithin 3 (some .boolean), Cond.methodLink RX1 126 yX1_lineAt, Cond.static yX1_lineAt, Cond.code yX1_lineAt cX1_lineAt 1 (some .int), Cond.methodLink RX1 132 yX1_mailAt, Cond.static yX1_mailAt, Cond.code yX1_mailAt cX1_mailAt 1 (some .int), Cond.methodLink RX1 135 yX1_kindAt, Cond.instanceMethod yX1_kindAt, Cond.selects RX1 yX1_kindAt yX1_kindAt, Cond.code yX1_kindAt cX1_kindAt 4 (some .char), Cond.fieldLink RX1 29 "TalkRebuilder" "marksAt" "[I", Cond.methodLink RX1 139 yX1_signatureLength, Cond.instanceMethod yX1_signatureLength, Cond.selects RX1 yX1_signatureLength yX1_signatureLength, Cond.code yX1_signatureLength cX1_signatureLength 4 (some .int)]
def wsX1_isInTalk_r2 : List Cond := [Cond.fieldLink RX1 9 "TalkRebuilder" "mailCount" "I", Cond.fieldLink RX1 17 "TalkRebuilder" "authors" "[I", Cond.methodLink RX1 221 Lib.Math.max.name, Cond.static Lib.Math.max.name, Cond.initialized "java/lang/Math", Cond.code Lib.Math.max.name Lib.Math.max.code 2 (some .int), Cond.methodLink RX1 218 yX1_commonEnd, Cond.instanceMethod yX1_commonEnd, Cond.selects RX1 yX1_commonEnd yX1_commonEnd, Cond.code yX1_commonEnd cX1_commonEnd 7 (some .int), Cond.methodLink RX1 226 Lib.Math.min.name, Cond.static Lib.Math.min.name, Cond.code Lib.Math.min.name Lib.Math.min.code 2 (some .int), Cond.fieldLink RX1 32 "TalkRebuilder" "wordsAt" "[I", Cond.methodLink RX1 80 yX1_placeOf, Cond.static yX1_placeOf, Cond.code yX1_placeOf cX1_placeOf 2 (some .int), Cond.methodLink RX1 121 yX1_hasPartner, Cond.instanceMethod yX1_hasPartner, Cond.selects RX1 yX1_hasPartner yX1_hasPartner, Cond.code yX1_hasPartner cX1_hasPartner 2 (some .boolean), Cond.fieldLink RX1 35 "TalkRebuilder" "partnersAt" "[I", Cond.methodLink RX1 101 yX1_answersMissing, Cond.instanceMethod yX1_answersMissing]
def wsX1_isInTalk_r3 : List Cond := [Cond.selects RX1 yX1_answersMissing yX1_answersMissing, Cond.code yX1_answersMissing cX1_answersMissing 2 (some .boolean), Cond.fieldLink RX1 23 "TalkRebuilder" "answeredDates" "[I", Cond.methodLink RX1 93 yX1_parentOf, Cond.instanceMethod yX1_parentOf, Cond.selects RX1 yX1_parentOf yX1_parentOf, Cond.code yX1_parentOf cX1_parentOf 2 (some .int), Cond.methodLink RX1 63 yX1_mailOfDate, Cond.instanceMethod yX1_mailOfDate, Cond.selects RX1 yX1_mailOfDate yX1_mailOfDate, Cond.code yX1_mailOfDate cX1_mailOfDate 3 (some .int), Cond.fieldLink RX1 13 "TalkRebuilder" "dates" "[I", Cond.methodLink RX1 211 yX1_isDouble, Cond.instanceMethod yX1_isDouble, Cond.selects RX1 yX1_isDouble yX1_isDouble, Cond.code yX1_isDouble cX1_isDouble 3 (some .boolean), Cond.methodLink RX1 214 yX1_isEarlier, Cond.instanceMethod yX1_isEarlier, Cond.selects RX1 yX1_isEarlier yX1_isEarlier, Cond.code yX1_isEarlier cX1_isEarlier 3 (some .boolean)]
def wsX1_isInTalk : List Cond := .code yX1_isInTalk cX1_isInTalk 3 (some .boolean) :: ((wsX1_isInTalk_r1 ++ (wsX1_isInTalk_r2 ++ wsX1_isInTalk_r3)) ++ wsX10 ++ (vx_atM "java/lang/ArrayIndexOutOfBoundsException" ["java/lang/IndexOutOfBoundsException", "java/lang/RuntimeException", "java/lang/Exception"]).filter goodWord)
def wsX1_talk_r1 : List Cond := [Cond.methodLink RX1 151 yX1_isInTalk, Cond.instanceMethod yX1_isInTalk, Cond.selects RX1 yX1_isInTalk yX1_isInTalk, Cond.initialized RX1, Cond.code yX1_isInTalk cX1_isInTalk 3 (some .boolean), Cond.methodLink RX1 154 yX1_isLine, Cond.instanceMethod yX1_isLine, Cond.selects RX1 yX1_isLine yX1_isLine, Cond.code yX1_isLine cX1_isLine 2 (some .boolean), Cond.fieldLink RX1 26 "TalkRebuilder" "lineCounts" "[I", Cond.methodLink RX1 52 yX1_isWithin, Cond.static yX1_isWithin, Cond.code yX1_isWithin cX1_isWithin 3 (some .boolean), Cond.methodLink RX1 126 yX1_lineAt, Cond.static yX1_lineAt, Cond.code yX1_lineAt cX1_lineAt 1 (some .int), Cond.methodLink RX1 132 yX1_mailAt, Cond.static yX1_mailAt, Cond.code yX1_mailAt cX1_mailAt 1 (some .int), Cond.methodLink RX1 135 yX1_kindAt, Cond.instanceMethod yX1_kindAt, Cond.selects RX1 yX1_kindAt yX1_kindAt, Cond.code yX1_kindAt cX1_kindAt 4 (some .char), Cond.fieldLink RX1 29 "TalkRebuilder" "marksAt" "[I"]
def wsX1_talk_r2 : List Cond := [Cond.methodLink RX1 139 yX1_signatureLength, Cond.instanceMethod yX1_signatureLength, Cond.selects RX1 yX1_signatureLength yX1_signatureLength, Cond.code yX1_signatureLength cX1_signatureLength 4 (some .int), Cond.fieldLink RX1 9 "TalkRebuilder" "mailCount" "I", Cond.fieldLink RX1 17 "TalkRebuilder" "authors" "[I", Cond.methodLink RX1 221 Lib.Math.max.name, Cond.static Lib.Math.max.name, Cond.initialized "java/lang/Math", Cond.code Lib.Math.max.name Lib.Math.max.code 2 (some .int), Cond.methodLink RX1 218 yX1_commonEnd, Cond.instanceMethod yX1_commonEnd, Cond.selects RX1 yX1_commonEnd yX1_commonEnd, Cond.code yX1_commonEnd cX1_commonEnd 7 (some .int), Cond.methodLink RX1 226 Lib.Math.min.name, Cond.static Lib.Math.min.name, Cond.code Lib.Math.min.name Lib.Math.min.code 2 (some .int), Cond.fieldLink RX1 32 "TalkRebuilder" "wordsAt" "[I", Cond.methodLink RX1 80 yX1_placeOf, Cond.static yX1_placeOf, Cond.code yX1_placeOf cX1_placeOf 2 (some .int), Cond.methodLink RX1 121 yX1_hasPartner, Cond.instanceMethod yX1_hasPartner, Cond.selects RX1 yX1_hasPartner yX1_hasPartner]
def wsX1_talk_r3 : List Cond := [Cond.code yX1_hasPartner cX1_hasPartner 2 (some .boolean), Cond.fieldLink RX1 35 "TalkRebuilder" "partnersAt" "[I", Cond.methodLink RX1 101 yX1_answersMissing, Cond.instanceMethod yX1_answersMissing, Cond.selects RX1 yX1_answersMissing yX1_answersMissing, Cond.code yX1_answersMissing cX1_answersMissing 2 (some .boolean), Cond.fieldLink RX1 23 "TalkRebuilder" "answeredDates" "[I", Cond.methodLink RX1 93 yX1_parentOf, Cond.instanceMethod yX1_parentOf, Cond.selects RX1 yX1_parentOf yX1_parentOf, Cond.code yX1_parentOf cX1_parentOf 2 (some .int), Cond.methodLink RX1 63 yX1_mailOfDate, Cond.instanceMethod yX1_mailOfDate, Cond.selects RX1 yX1_mailOfDate yX1_mailOfDate, Cond.code yX1_mailOfDate cX1_mailOfDate 3 (some .int), Cond.fieldLink RX1 13 "TalkRebuilder" "dates" "[I", Cond.methodLink RX1 211 yX1_isDouble, Cond.instanceMethod yX1_isDouble, Cond.selects RX1 yX1_isDouble yX1_isDouble, Cond.code yX1_isDouble cX1_isDouble 3 (some .boolean), Cond.methodLink RX1 214 yX1_isEarlier, Cond.instanceMethod yX1_isEarlier, Cond.selects RX1 yX1_isEarlier yX1_isEarlier, Cond.code yX1_isEarlier cX1_isEarlier 3 (some .boolean)]
def wsX1_talk : List Cond := .code yX1_talk cX1_talk 3 (some .int) :: ((wsX1_talk_r1 ++ (wsX1_talk_r2 ++ wsX1_talk_r3)) ++ wsX10 ++ (vx_atM "java/lang/ArrayIndexOutOfBoundsException" ["java/lang/IndexOutOfBoundsException", "java/lang/RuntimeException", "java/lang/Exception"]).filter goodWord)
def wsX1_countOnce_r1 : List Cond := [Cond.fieldLink RX1 45 "TalkRebuilder" "counted" "[Z", Cond.methodLink RX1 151 yX1_isInTalk, Cond.instanceMethod yX1_isInTalk, Cond.selects RX1 yX1_isInTalk yX1_isInTalk, Cond.initialized RX1, Cond.code yX1_isInTalk cX1_isInTalk 3 (some .boolean), Cond.methodLink RX1 154 yX1_isLine, Cond.instanceMethod yX1_isLine, Cond.selects RX1 yX1_isLine yX1_isLine, Cond.code yX1_isLine cX1_isLine 2 (some .boolean), Cond.fieldLink RX1 26 "TalkRebuilder" "lineCounts" "[I", Cond.methodLink RX1 52 yX1_isWithin, Cond.static yX1_isWithin, Cond.code yX1_isWithin cX1_isWithin 3 (some .boolean), Cond.methodLink RX1 126 yX1_lineAt, Cond.static yX1_lineAt, Cond.code yX1_lineAt cX1_lineAt 1 (some .int), Cond.methodLink RX1 132 yX1_mailAt, Cond.static yX1_mailAt, Cond.code yX1_mailAt cX1_mailAt 1 (some .int), Cond.methodLink RX1 135 yX1_kindAt, Cond.instanceMethod yX1_kindAt, Cond.selects RX1 yX1_kindAt yX1_kindAt, Cond.code yX1_kindAt cX1_kindAt 4 (some .char)]
def wsX1_countOnce_r2 : List Cond := [Cond.fieldLink RX1 29 "TalkRebuilder" "marksAt" "[I", Cond.methodLink RX1 139 yX1_signatureLength, Cond.instanceMethod yX1_signatureLength, Cond.selects RX1 yX1_signatureLength yX1_signatureLength, Cond.code yX1_signatureLength cX1_signatureLength 4 (some .int), Cond.fieldLink RX1 9 "TalkRebuilder" "mailCount" "I", Cond.fieldLink RX1 17 "TalkRebuilder" "authors" "[I", Cond.methodLink RX1 221 Lib.Math.max.name, Cond.static Lib.Math.max.name, Cond.initialized "java/lang/Math", Cond.code Lib.Math.max.name Lib.Math.max.code 2 (some .int), Cond.methodLink RX1 218 yX1_commonEnd, Cond.instanceMethod yX1_commonEnd, Cond.selects RX1 yX1_commonEnd yX1_commonEnd, Cond.code yX1_commonEnd cX1_commonEnd 7 (some .int), Cond.methodLink RX1 226 Lib.Math.min.name, Cond.static Lib.Math.min.name, Cond.code Lib.Math.min.name Lib.Math.min.code 2 (some .int), Cond.fieldLink RX1 32 "TalkRebuilder" "wordsAt" "[I", Cond.methodLink RX1 80 yX1_placeOf, Cond.static yX1_placeOf, Cond.code yX1_placeOf cX1_placeOf 2 (some .int), Cond.methodLink RX1 121 yX1_hasPartner, Cond.instanceMethod yX1_hasPartner]
def wsX1_countOnce_r3 : List Cond := [Cond.selects RX1 yX1_hasPartner yX1_hasPartner, Cond.code yX1_hasPartner cX1_hasPartner 2 (some .boolean), Cond.fieldLink RX1 35 "TalkRebuilder" "partnersAt" "[I", Cond.methodLink RX1 101 yX1_answersMissing, Cond.instanceMethod yX1_answersMissing, Cond.selects RX1 yX1_answersMissing yX1_answersMissing, Cond.code yX1_answersMissing cX1_answersMissing 2 (some .boolean), Cond.fieldLink RX1 23 "TalkRebuilder" "answeredDates" "[I", Cond.methodLink RX1 93 yX1_parentOf, Cond.instanceMethod yX1_parentOf, Cond.selects RX1 yX1_parentOf yX1_parentOf, Cond.code yX1_parentOf cX1_parentOf 2 (some .int), Cond.methodLink RX1 63 yX1_mailOfDate, Cond.instanceMethod yX1_mailOfDate, Cond.selects RX1 yX1_mailOfDate yX1_mailOfDate, Cond.code yX1_mailOfDate cX1_mailOfDate 3 (some .int), Cond.fieldLink RX1 13 "TalkRebuilder" "dates" "[I", Cond.methodLink RX1 211 yX1_isDouble, Cond.instanceMethod yX1_isDouble, Cond.selects RX1 yX1_isDouble yX1_isDouble, Cond.code yX1_isDouble cX1_isDouble 3 (some .boolean), Cond.methodLink RX1 214 yX1_isEarlier, Cond.instanceMethod yX1_isEarlier, Cond.selects RX1 yX1_isEarlier yX1_isEarlier]
def wsX1_countOnce_r4 : List Cond := [Cond.code yX1_isEarlier cX1_isEarlier 3 (some .boolean)]
def wsX1_countOnce : List Cond := .code yX1_countOnce cX1_countOnce 2 (some .boolean) :: ((wsX1_countOnce_r1 ++ (wsX1_countOnce_r2 ++ (wsX1_countOnce_r3 ++ wsX1_countOnce_r4))) ++ wsX10 ++ (vx_atM "java/lang/ArrayIndexOutOfBoundsException" ["java/lang/IndexOutOfBoundsException", "java/lang/RuntimeException", "java/lang/Exception"]).filter goodWord)
def wsX1_talkByOrigins_r1 : List Cond := [Cond.fieldLink RX1 45 "TalkRebuilder" "counted" "[Z", Cond.methodLink RX1 154 yX1_isLine, Cond.instanceMethod yX1_isLine, Cond.selects RX1 yX1_isLine yX1_isLine, Cond.initialized RX1, Cond.code yX1_isLine cX1_isLine 2 (some .boolean), Cond.fieldLink RX1 26 "TalkRebuilder" "lineCounts" "[I", Cond.methodLink RX1 52 yX1_isWithin, Cond.static yX1_isWithin, Cond.code yX1_isWithin cX1_isWithin 3 (some .boolean), Cond.methodLink RX1 126 yX1_lineAt, Cond.static yX1_lineAt, Cond.code yX1_lineAt cX1_lineAt 1 (some .int), Cond.methodLink RX1 132 yX1_mailAt, Cond.static yX1_mailAt, Cond.code yX1_mailAt cX1_mailAt 1 (some .int), Cond.methodLink RX1 129 yX1_originOf, Cond.instanceMethod yX1_originOf, Cond.selects RX1 yX1_originOf yX1_originOf, Cond.code yX1_originOf cX1_originOf 4 (some .int), Cond.fieldLink RX1 35 "TalkRebuilder" "partnersAt" "[I", Cond.methodLink RX1 121 yX1_hasPartner, Cond.instanceMethod yX1_hasPartner, Cond.selects RX1 yX1_hasPartner yX1_hasPartner]
def wsX1_talkByOrigins_r2 : List Cond := [Cond.code yX1_hasPartner cX1_hasPartner 2 (some .boolean), Cond.methodLink RX1 157 yX1_countOnce, Cond.instanceMethod yX1_countOnce, Cond.selects RX1 yX1_countOnce yX1_countOnce, Cond.code yX1_countOnce cX1_countOnce 2 (some .boolean), Cond.methodLink RX1 151 yX1_isInTalk, Cond.instanceMethod yX1_isInTalk, Cond.selects RX1 yX1_isInTalk yX1_isInTalk, Cond.code yX1_isInTalk cX1_isInTalk 3 (some .boolean), Cond.methodLink RX1 135 yX1_kindAt, Cond.instanceMethod yX1_kindAt, Cond.selects RX1 yX1_kindAt yX1_kindAt, Cond.code yX1_kindAt cX1_kindAt 4 (some .char), Cond.fieldLink RX1 29 "TalkRebuilder" "marksAt" "[I", Cond.methodLink RX1 139 yX1_signatureLength, Cond.instanceMethod yX1_signatureLength, Cond.selects RX1 yX1_signatureLength yX1_signatureLength, Cond.code yX1_signatureLength cX1_signatureLength 4 (some .int), Cond.fieldLink RX1 9 "TalkRebuilder" "mailCount" "I", Cond.fieldLink RX1 17 "TalkRebuilder" "authors" "[I", Cond.methodLink RX1 221 Lib.Math.max.name, Cond.static Lib.Math.max.name, Cond.initialized "java/lang/Math", Cond.code Lib.Math.max.name Lib.Math.max.code 2 (some .int)]
def wsX1_talkByOrigins_r3 : List Cond := [Cond.methodLink RX1 218 yX1_commonEnd, Cond.instanceMethod yX1_commonEnd, Cond.selects RX1 yX1_commonEnd yX1_commonEnd, Cond.code yX1_commonEnd cX1_commonEnd 7 (some .int), Cond.methodLink RX1 226 Lib.Math.min.name, Cond.static Lib.Math.min.name, Cond.code Lib.Math.min.name Lib.Math.min.code 2 (some .int), Cond.fieldLink RX1 32 "TalkRebuilder" "wordsAt" "[I", Cond.methodLink RX1 80 yX1_placeOf, Cond.static yX1_placeOf, Cond.code yX1_placeOf cX1_placeOf 2 (some .int), Cond.methodLink RX1 101 yX1_answersMissing, Cond.instanceMethod yX1_answersMissing, Cond.selects RX1 yX1_answersMissing yX1_answersMissing, Cond.code yX1_answersMissing cX1_answersMissing 2 (some .boolean), Cond.fieldLink RX1 23 "TalkRebuilder" "answeredDates" "[I", Cond.methodLink RX1 93 yX1_parentOf, Cond.instanceMethod yX1_parentOf, Cond.selects RX1 yX1_parentOf yX1_parentOf, Cond.code yX1_parentOf cX1_parentOf 2 (some .int), Cond.methodLink RX1 63 yX1_mailOfDate, Cond.instanceMethod yX1_mailOfDate, Cond.selects RX1 yX1_mailOfDate yX1_mailOfDate, Cond.code yX1_mailOfDate cX1_mailOfDate 3 (some .int)]
def wsX1_talkByOrigins_r4 : List Cond := [Cond.fieldLink RX1 13 "TalkRebuilder" "dates" "[I", Cond.methodLink RX1 211 yX1_isDouble, Cond.instanceMethod yX1_isDouble, Cond.selects RX1 yX1_isDouble yX1_isDouble, Cond.code yX1_isDouble cX1_isDouble 3 (some .boolean), Cond.methodLink RX1 214 yX1_isEarlier, Cond.instanceMethod yX1_isEarlier, Cond.selects RX1 yX1_isEarlier yX1_isEarlier, Cond.code yX1_isEarlier cX1_isEarlier 3 (some .boolean)]
def wsX1_talkByOrigins : List Cond := .code yX1_talkByOrigins cX1_talkByOrigins 3 (some .int) :: ((wsX1_talkByOrigins_r1 ++ (wsX1_talkByOrigins_r2 ++ (wsX1_talkByOrigins_r3 ++ wsX1_talkByOrigins_r4))) ++ wsX10 ++ (vx_atM "java/lang/ArrayIndexOutOfBoundsException" ["java/lang/IndexOutOfBoundsException", "java/lang/RuntimeException", "java/lang/Exception"]).filter goodWord)
def wsX1_copies_r1 : List Cond := [Cond.classLink RX1 160 "java/lang/UnsupportedOperationException", Cond.initialized "java/lang/UnsupportedOperationException", Cond.methodLink RX1 89 yX1_requireLine, Cond.instanceMethod yX1_requireLine, Cond.selects RX1 yX1_requireLine yX1_requireLine, Cond.initialized RX1, Cond.code yX1_requireLine cX1_requireLine 3 none, Cond.classLink RX1 184 "java/lang/IndexOutOfBoundsException", Cond.initialized "java/lang/IndexOutOfBoundsException", Cond.fieldLink RX1 26 "TalkRebuilder" "lineCounts" "[I", Cond.methodLink RX1 74 yX1_requireMail, Cond.instanceMethod yX1_requireMail, Cond.selects RX1 yX1_requireMail yX1_requireMail, Cond.code yX1_requireMail cX1_requireMail 2 none, Cond.fieldLink RX1 9 "TalkRebuilder" "mailCount" "I", Cond.methodLink RX1 52 yX1_isWithin, Cond.static yX1_isWithin, Cond.code yX1_isWithin cX1_isWithin 3 (some .boolean), Cond.methodLink RX1 80 yX1_placeOf, Cond.static yX1_placeOf, Cond.code yX1_placeOf cX1_placeOf 2 (some .int), Cond.methodLink RX1 151 yX1_isInTalk, Cond.instanceMethod yX1_isInTalk, Cond.selects RX1 yX1_isInTalk yX1_isInTalk]
def wsX1_copies_r2 : List Cond := [Cond.code yX1_isInTalk cX1_isInTalk 3 (some .boolean), Cond.methodLink RX1 154 yX1_isLine, Cond.instanceMethod yX1_isLine, Cond.selects RX1 yX1_isLine yX1_isLine, Cond.code yX1_isLine cX1_isLine 2 (some .boolean), Cond.methodLink RX1 126 yX1_lineAt, Cond.static yX1_lineAt, Cond.code yX1_lineAt cX1_lineAt 1 (some .int), Cond.methodLink RX1 132 yX1_mailAt, Cond.static yX1_mailAt, Cond.code yX1_mailAt cX1_mailAt 1 (some .int), Cond.methodLink RX1 135 yX1_kindAt, Cond.instanceMethod yX1_kindAt, Cond.selects RX1 yX1_kindAt yX1_kindAt, Cond.code yX1_kindAt cX1_kindAt 4 (some .char), Cond.fieldLink RX1 29 "TalkRebuilder" "marksAt" "[I", Cond.methodLink RX1 139 yX1_signatureLength, Cond.instanceMethod yX1_signatureLength, Cond.selects RX1 yX1_signatureLength yX1_signatureLength, Cond.code yX1_signatureLength cX1_signatureLength 4 (some .int), Cond.fieldLink RX1 17 "TalkRebuilder" "authors" "[I", Cond.methodLink RX1 221 Lib.Math.max.name, Cond.static Lib.Math.max.name, Cond.initialized "java/lang/Math"]
def wsX1_copies_r3 : List Cond := [Cond.code Lib.Math.max.name Lib.Math.max.code 2 (some .int), Cond.methodLink RX1 218 yX1_commonEnd, Cond.instanceMethod yX1_commonEnd, Cond.selects RX1 yX1_commonEnd yX1_commonEnd, Cond.code yX1_commonEnd cX1_commonEnd 7 (some .int), Cond.methodLink RX1 226 Lib.Math.min.name, Cond.static Lib.Math.min.name, Cond.code Lib.Math.min.name Lib.Math.min.code 2 (some .int), Cond.fieldLink RX1 32 "TalkRebuilder" "wordsAt" "[I", Cond.methodLink RX1 121 yX1_hasPartner, Cond.instanceMethod yX1_hasPartner, Cond.selects RX1 yX1_hasPartner yX1_hasPartner, Cond.code yX1_hasPartner cX1_hasPartner 2 (some .boolean), Cond.fieldLink RX1 35 "TalkRebuilder" "partnersAt" "[I", Cond.methodLink RX1 101 yX1_answersMissing, Cond.instanceMethod yX1_answersMissing, Cond.selects RX1 yX1_answersMissing yX1_answersMissing, Cond.code yX1_answersMissing cX1_answersMissing 2 (some .boolean), Cond.fieldLink RX1 23 "TalkRebuilder" "answeredDates" "[I", Cond.methodLink RX1 93 yX1_parentOf, Cond.instanceMethod yX1_parentOf, Cond.selects RX1 yX1_parentOf yX1_parentOf, Cond.code yX1_parentOf cX1_parentOf 2 (some .int), Cond.methodLink RX1 63 yX1_mailOfDate]
def wsX1_copies_r4 : List Cond := [Cond.instanceMethod yX1_mailOfDate, Cond.selects RX1 yX1_mailOfDate yX1_mailOfDate, Cond.code yX1_mailOfDate cX1_mailOfDate 3 (some .int), Cond.fieldLink RX1 13 "TalkRebuilder" "dates" "[I", Cond.methodLink RX1 211 yX1_isDouble, Cond.instanceMethod yX1_isDouble, Cond.selects RX1 yX1_isDouble yX1_isDouble, Cond.code yX1_isDouble cX1_isDouble 3 (some .boolean), Cond.methodLink RX1 214 yX1_isEarlier, Cond.instanceMethod yX1_isEarlier, Cond.selects RX1 yX1_isEarlier yX1_isEarlier, Cond.code yX1_isEarlier cX1_isEarlier 3 (some .boolean), Cond.methodLink RX1 129 yX1_originOf, Cond.instanceMethod yX1_originOf, Cond.selects RX1 yX1_originOf yX1_originOf, Cond.code yX1_originOf cX1_originOf 4 (some .int)]
def wsX1_copies : List Cond := .code yX1_copies cX1_copies 6 (some .int) :: ((wsX1_copies_r1 ++ (wsX1_copies_r2 ++ (wsX1_copies_r3 ++ wsX1_copies_r4))) ++ wsX10 ++ (vx_atS RX1 164 "java/lang/UnsupportedOperationException" ["java/lang/RuntimeException", "java/lang/Exception"]).filter goodWord ++ (vx_atM "java/lang/ArrayIndexOutOfBoundsException" ["java/lang/IndexOutOfBoundsException", "java/lang/RuntimeException", "java/lang/Exception"]).filter goodWord ++ (vx_atS RX1 188 "java/lang/IndexOutOfBoundsException" ["java/lang/RuntimeException", "java/lang/Exception"]).filter goodWord)
def wsX1_parentInThread : List Cond := .code yX1_parentInThread cX1_parentInThread 4 (some .int) :: ([.fieldLink RX1 20 "TalkRebuilder" "subjects" "[I", .methodLink RX1 93 yX1_parentOf, .instanceMethod yX1_parentOf, .selects RX1 yX1_parentOf yX1_parentOf, .initialized RX1, .code yX1_parentOf cX1_parentOf 2 (some .int), .fieldLink RX1 23 "TalkRebuilder" "answeredDates" "[I", .methodLink RX1 63 yX1_mailOfDate, .instanceMethod yX1_mailOfDate, .selects RX1 yX1_mailOfDate yX1_mailOfDate, .code yX1_mailOfDate cX1_mailOfDate 3 (some .int), .fieldLink RX1 9 "TalkRebuilder" "mailCount" "I", .fieldLink RX1 13 "TalkRebuilder" "dates" "[I"] ++ wsX10 ++ (vx_atM "java/lang/ArrayIndexOutOfBoundsException" ["java/lang/IndexOutOfBoundsException", "java/lang/RuntimeException", "java/lang/Exception"]).filter goodWord)
def wsX1_rootOf : List Cond := .code yX1_rootOf cX1_rootOf 5 (some .int) :: ([.fieldLink RX1 9 "TalkRebuilder" "mailCount" "I", .methodLink RX1 229 yX1_parentInThread, .instanceMethod yX1_parentInThread, .selects RX1 yX1_parentInThread yX1_parentInThread, .initialized RX1, .code yX1_parentInThread cX1_parentInThread 4 (some .int), .fieldLink RX1 20 "TalkRebuilder" "subjects" "[I", .methodLink RX1 93 yX1_parentOf, .instanceMethod yX1_parentOf, .selects RX1 yX1_parentOf yX1_parentOf, .code yX1_parentOf cX1_parentOf 2 (some .int), .fieldLink RX1 23 "TalkRebuilder" "answeredDates" "[I", .methodLink RX1 63 yX1_mailOfDate, .instanceMethod yX1_mailOfDate, .selects RX1 yX1_mailOfDate yX1_mailOfDate, .code yX1_mailOfDate cX1_mailOfDate 3 (some .int), .fieldLink RX1 13 "TalkRebuilder" "dates" "[I"] ++ wsX10 ++ (vx_atM "java/lang/ArrayIndexOutOfBoundsException" ["java/lang/IndexOutOfBoundsException", "java/lang/RuntimeException", "java/lang/Exception"]).filter goodWord)
def wsX1_root_r1 : List Cond := [Cond.methodLink RX1 74 yX1_requireMail, Cond.instanceMethod yX1_requireMail, Cond.selects RX1 yX1_requireMail yX1_requireMail, Cond.initialized RX1, Cond.code yX1_requireMail cX1_requireMail 2 none, Cond.classLink RX1 184 "java/lang/IndexOutOfBoundsException", Cond.initialized "java/lang/IndexOutOfBoundsException", Cond.fieldLink RX1 9 "TalkRebuilder" "mailCount" "I", Cond.methodLink RX1 52 yX1_isWithin, Cond.static yX1_isWithin, Cond.code yX1_isWithin cX1_isWithin 3 (some .boolean), Cond.methodLink RX1 165 yX1_rootOf, Cond.instanceMethod yX1_rootOf, Cond.selects RX1 yX1_rootOf yX1_rootOf, Cond.code yX1_rootOf cX1_rootOf 5 (some .int), Cond.methodLink RX1 229 yX1_parentInThread, Cond.instanceMethod yX1_parentInThread, Cond.selects RX1 yX1_parentInThread yX1_parentInThread, Cond.code yX1_parentInThread cX1_parentInThread 4 (some .int), Cond.fieldLink RX1 20 "TalkRebuilder" "subjects" "[I", Cond.methodLink RX1 93 yX1_parentOf, Cond.instanceMethod yX1_parentOf, Cond.selects RX1 yX1_parentOf yX1_parentOf, Cond.code yX1_parentOf cX1_parentOf 2 (some .int)]
def wsX1_root_r2 : List Cond := [Cond.fieldLink RX1 23 "TalkRebuilder" "answeredDates" "[I", Cond.methodLink RX1 63 yX1_mailOfDate, Cond.instanceMethod yX1_mailOfDate, Cond.selects RX1 yX1_mailOfDate yX1_mailOfDate, Cond.code yX1_mailOfDate cX1_mailOfDate 3 (some .int), Cond.fieldLink RX1 13 "TalkRebuilder" "dates" "[I"]
def wsX1_root : List Cond := .code yX1_root cX1_root 2 (some .int) :: ((wsX1_root_r1 ++ wsX1_root_r2) ++ wsX10 ++ (vx_atS RX1 188 "java/lang/IndexOutOfBoundsException" ["java/lang/RuntimeException", "java/lang/Exception"]).filter goodWord ++ (vx_atM "java/lang/ArrayIndexOutOfBoundsException" ["java/lang/IndexOutOfBoundsException", "java/lang/RuntimeException", "java/lang/Exception"]).filter goodWord)
def wsX1_takeRootsOfParents : List Cond := .code yX1_takeRootsOfParents cX1_takeRootsOfParents 3 none :: ([.fieldLink RX1 9 "TalkRebuilder" "mailCount" "I", .fieldLink RX1 49 "TalkRebuilder" "roots" "[I", .methodLink RX1 229 yX1_parentInThread, .instanceMethod yX1_parentInThread, .selects RX1 yX1_parentInThread yX1_parentInThread, .initialized RX1, .code yX1_parentInThread cX1_parentInThread 4 (some .int), .fieldLink RX1 20 "TalkRebuilder" "subjects" "[I", .methodLink RX1 93 yX1_parentOf, .instanceMethod yX1_parentOf, .selects RX1 yX1_parentOf yX1_parentOf, .code yX1_parentOf cX1_parentOf 2 (some .int), .fieldLink RX1 23 "TalkRebuilder" "answeredDates" "[I", .methodLink RX1 63 yX1_mailOfDate, .instanceMethod yX1_mailOfDate, .selects RX1 yX1_mailOfDate yX1_mailOfDate, .code yX1_mailOfDate cX1_mailOfDate 3 (some .int), .fieldLink RX1 13 "TalkRebuilder" "dates" "[I"] ++ wsX10 ++ (vx_atM "java/lang/ArrayIndexOutOfBoundsException" ["java/lang/IndexOutOfBoundsException", "java/lang/RuntimeException", "java/lang/Exception"]).filter goodWord)
def wsX1_rootByRounds_r1 : List Cond := [Cond.fieldLink RX1 9 "TalkRebuilder" "mailCount" "I", Cond.fieldLink RX1 49 "TalkRebuilder" "roots" "[I", Cond.methodLink RX1 74 yX1_requireMail, Cond.instanceMethod yX1_requireMail, Cond.selects RX1 yX1_requireMail yX1_requireMail, Cond.initialized RX1, Cond.code yX1_requireMail cX1_requireMail 2 none, Cond.classLink RX1 184 "java/lang/IndexOutOfBoundsException", Cond.initialized "java/lang/IndexOutOfBoundsException", Cond.methodLink RX1 52 yX1_isWithin, Cond.static yX1_isWithin, Cond.code yX1_isWithin cX1_isWithin 3 (some .boolean), Cond.methodLink RX1 168 yX1_takeRootsOfParents, Cond.instanceMethod yX1_takeRootsOfParents, Cond.selects RX1 yX1_takeRootsOfParents yX1_takeRootsOfParents, Cond.code yX1_takeRootsOfParents cX1_takeRootsOfParents 3 none, Cond.methodLink RX1 229 yX1_parentInThread, Cond.instanceMethod yX1_parentInThread, Cond.selects RX1 yX1_parentInThread yX1_parentInThread, Cond.code yX1_parentInThread cX1_parentInThread 4 (some .int), Cond.fieldLink RX1 20 "TalkRebuilder" "subjects" "[I", Cond.methodLink RX1 93 yX1_parentOf, Cond.instanceMethod yX1_parentOf, Cond.selects RX1 yX1_parentOf yX1_parentOf]
def wsX1_rootByRounds_r2 : List Cond := [Cond.code yX1_parentOf cX1_parentOf 2 (some .int), Cond.fieldLink RX1 23 "TalkRebuilder" "answeredDates" "[I", Cond.methodLink RX1 63 yX1_mailOfDate, Cond.instanceMethod yX1_mailOfDate, Cond.selects RX1 yX1_mailOfDate yX1_mailOfDate, Cond.code yX1_mailOfDate cX1_mailOfDate 3 (some .int), Cond.fieldLink RX1 13 "TalkRebuilder" "dates" "[I"]
def wsX1_rootByRounds : List Cond := .code yX1_rootByRounds cX1_rootByRounds 3 (some .int) :: ((wsX1_rootByRounds_r1 ++ wsX1_rootByRounds_r2) ++ wsX10 ++ (vx_atM "java/lang/ArrayIndexOutOfBoundsException" ["java/lang/IndexOutOfBoundsException", "java/lang/RuntimeException", "java/lang/Exception"]).filter goodWord ++ (vx_atS RX1 188 "java/lang/IndexOutOfBoundsException" ["java/lang/RuntimeException", "java/lang/Exception"]).filter goodWord)
def wsX1_threads : List Cond := .code yX1_threads cX1_threads 3 (some .int) :: ([.fieldLink RX1 9 "TalkRebuilder" "mailCount" "I", .methodLink RX1 165 yX1_rootOf, .instanceMethod yX1_rootOf, .selects RX1 yX1_rootOf yX1_rootOf, .initialized RX1, .code yX1_rootOf cX1_rootOf 5 (some .int), .methodLink RX1 229 yX1_parentInThread, .instanceMethod yX1_parentInThread, .selects RX1 yX1_parentInThread yX1_parentInThread, .code yX1_parentInThread cX1_parentInThread 4 (some .int), .fieldLink RX1 20 "TalkRebuilder" "subjects" "[I", .methodLink RX1 93 yX1_parentOf, .instanceMethod yX1_parentOf, .selects RX1 yX1_parentOf yX1_parentOf, .code yX1_parentOf cX1_parentOf 2 (some .int), .fieldLink RX1 23 "TalkRebuilder" "answeredDates" "[I", .methodLink RX1 63 yX1_mailOfDate, .instanceMethod yX1_mailOfDate, .selects RX1 yX1_mailOfDate yX1_mailOfDate, .code yX1_mailOfDate cX1_mailOfDate 3 (some .int), .fieldLink RX1 13 "TalkRebuilder" "dates" "[I"] ++ wsX10 ++ (vx_atM "java/lang/ArrayIndexOutOfBoundsException" ["java/lang/IndexOutOfBoundsException", "java/lang/RuntimeException", "java/lang/Exception"]).filter goodWord)
def wsX1_size_r1 : List Cond := [Cond.fieldLink RX1 9 "TalkRebuilder" "mailCount" "I", Cond.methodLink RX1 74 yX1_requireMail, Cond.instanceMethod yX1_requireMail, Cond.selects RX1 yX1_requireMail yX1_requireMail, Cond.initialized RX1, Cond.code yX1_requireMail cX1_requireMail 2 none, Cond.classLink RX1 184 "java/lang/IndexOutOfBoundsException", Cond.initialized "java/lang/IndexOutOfBoundsException", Cond.methodLink RX1 52 yX1_isWithin, Cond.static yX1_isWithin, Cond.code yX1_isWithin cX1_isWithin 3 (some .boolean), Cond.methodLink RX1 165 yX1_rootOf, Cond.instanceMethod yX1_rootOf, Cond.selects RX1 yX1_rootOf yX1_rootOf, Cond.code yX1_rootOf cX1_rootOf 5 (some .int), Cond.methodLink RX1 229 yX1_parentInThread, Cond.instanceMethod yX1_parentInThread, Cond.selects RX1 yX1_parentInThread yX1_parentInThread, Cond.code yX1_parentInThread cX1_parentInThread 4 (some .int), Cond.fieldLink RX1 20 "TalkRebuilder" "subjects" "[I", Cond.methodLink RX1 93 yX1_parentOf, Cond.instanceMethod yX1_parentOf, Cond.selects RX1 yX1_parentOf yX1_parentOf, Cond.code yX1_parentOf cX1_parentOf 2 (some .int)]
def wsX1_size_r2 : List Cond := [Cond.fieldLink RX1 23 "TalkRebuilder" "answeredDates" "[I", Cond.methodLink RX1 63 yX1_mailOfDate, Cond.instanceMethod yX1_mailOfDate, Cond.selects RX1 yX1_mailOfDate yX1_mailOfDate, Cond.code yX1_mailOfDate cX1_mailOfDate 3 (some .int), Cond.fieldLink RX1 13 "TalkRebuilder" "dates" "[I"]
def wsX1_size : List Cond := .code yX1_size cX1_size 5 (some .int) :: ((wsX1_size_r1 ++ wsX1_size_r2) ++ wsX10 ++ (vx_atS RX1 188 "java/lang/IndexOutOfBoundsException" ["java/lang/RuntimeException", "java/lang/Exception"]).filter goodWord ++ (vx_atM "java/lang/ArrayIndexOutOfBoundsException" ["java/lang/IndexOutOfBoundsException", "java/lang/RuntimeException", "java/lang/Exception"]).filter goodWord)
def wsX1_newShare_r1 : List Cond := [Cond.classLink RX1 171 "java/lang/ArithmeticException", Cond.initialized "java/lang/ArithmeticException", Cond.fieldLink RX1 9 "TalkRebuilder" "mailCount" "I", Cond.fieldLink RX1 26 "TalkRebuilder" "lineCounts" "[I", Cond.methodLink RX1 176 yX1_talk, Cond.instanceMethod yX1_talk, Cond.selects RX1 yX1_talk yX1_talk, Cond.initialized RX1, Cond.code yX1_talk cX1_talk 3 (some .int), Cond.methodLink RX1 151 yX1_isInTalk, Cond.instanceMethod yX1_isInTalk, Cond.selects RX1 yX1_isInTalk yX1_isInTalk, Cond.code yX1_isInTalk cX1_isInTalk 3 (some .boolean), Cond.methodLink RX1 154 yX1_isLine, Cond.instanceMethod yX1_isLine, Cond.selects RX1 yX1_isLine yX1_isLine, Cond.code yX1_isLine cX1_isLine 2 (some .boolean), Cond.methodLink RX1 52 yX1_isWithin, Cond.static yX1_isWithin, Cond.code yX1_isWithin cX1_isWithin 3 (some .boolean), Cond.methodLink RX1 126 yX1_lineAt, Cond.static yX1_lineAt, Cond.code yX1_lineAt cX1_lineAt 1 (some .int), Cond.methodLink RX1 132 yX1_mailAt]
def wsX1_newShare_r2 : List Cond := [Cond.static yX1_mailAt, Cond.code yX1_mailAt cX1_mailAt 1 (some .int), Cond.methodLink RX1 135 yX1_kindAt, Cond.instanceMethod yX1_kindAt, Cond.selects RX1 yX1_kindAt yX1_kindAt, Cond.code yX1_kindAt cX1_kindAt 4 (some .char), Cond.fieldLink RX1 29 "TalkRebuilder" "marksAt" "[I", Cond.methodLink RX1 139 yX1_signatureLength, Cond.instanceMethod yX1_signatureLength, Cond.selects RX1 yX1_signatureLength yX1_signatureLength, Cond.code yX1_signatureLength cX1_signatureLength 4 (some .int), Cond.fieldLink RX1 17 "TalkRebuilder" "authors" "[I", Cond.methodLink RX1 221 Lib.Math.max.name, Cond.static Lib.Math.max.name, Cond.initialized "java/lang/Math", Cond.code Lib.Math.max.name Lib.Math.max.code 2 (some .int), Cond.methodLink RX1 218 yX1_commonEnd, Cond.instanceMethod yX1_commonEnd, Cond.selects RX1 yX1_commonEnd yX1_commonEnd, Cond.code yX1_commonEnd cX1_commonEnd 7 (some .int), Cond.methodLink RX1 226 Lib.Math.min.name, Cond.static Lib.Math.min.name, Cond.code Lib.Math.min.name Lib.Math.min.code 2 (some .int), Cond.fieldLink RX1 32 "TalkRebuilder" "wordsAt" "[I"]
def wsX1_newShare_r3 : List Cond := [Cond.methodLink RX1 80 yX1_placeOf, Cond.static yX1_placeOf, Cond.code yX1_placeOf cX1_placeOf 2 (some .int), Cond.methodLink RX1 121 yX1_hasPartner, Cond.instanceMethod yX1_hasPartner, Cond.selects RX1 yX1_hasPartner yX1_hasPartner, Cond.code yX1_hasPartner cX1_hasPartner 2 (some .boolean), Cond.fieldLink RX1 35 "TalkRebuilder" "partnersAt" "[I", Cond.methodLink RX1 101 yX1_answersMissing, Cond.instanceMethod yX1_answersMissing, Cond.selects RX1 yX1_answersMissing yX1_answersMissing, Cond.code yX1_answersMissing cX1_answersMissing 2 (some .boolean), Cond.fieldLink RX1 23 "TalkRebuilder" "answeredDates" "[I", Cond.methodLink RX1 93 yX1_parentOf, Cond.instanceMethod yX1_parentOf, Cond.selects RX1 yX1_parentOf yX1_parentOf, Cond.code yX1_parentOf cX1_parentOf 2 (some .int), Cond.methodLink RX1 63 yX1_mailOfDate, Cond.instanceMethod yX1_mailOfDate, Cond.selects RX1 yX1_mailOfDate yX1_mailOfDate, Cond.code yX1_mailOfDate cX1_mailOfDate 3 (some .int), Cond.fieldLink RX1 13 "TalkRebuilder" "dates" "[I", Cond.methodLink RX1 211 yX1_isDouble, Cond.instanceMethod yX1_isDouble]
def wsX1_newShare_r4 : List Cond := [Cond.selects RX1 yX1_isDouble yX1_isDouble, Cond.code yX1_isDouble cX1_isDouble 3 (some .boolean), Cond.methodLink RX1 214 yX1_isEarlier, Cond.instanceMethod yX1_isEarlier, Cond.selects RX1 yX1_isEarlier yX1_isEarlier, Cond.code yX1_isEarlier cX1_isEarlier 3 (some .boolean)]
def wsX1_newShare : List Cond := .code yX1_newShare cX1_newShare 3 (some .float) :: ((wsX1_newShare_r1 ++ (wsX1_newShare_r2 ++ (wsX1_newShare_r3 ++ wsX1_newShare_r4))) ++ wsX10 ++ (vx_atM "java/lang/ArrayIndexOutOfBoundsException" ["java/lang/IndexOutOfBoundsException", "java/lang/RuntimeException", "java/lang/Exception"]).filter goodWord ++ (vx_atS RX1 175 "java/lang/ArithmeticException" ["java/lang/RuntimeException", "java/lang/Exception"]).filter goodWord)
def wsX1_meanSize_r1 : List Cond := [Cond.classLink RX1 171 "java/lang/ArithmeticException", Cond.initialized "java/lang/ArithmeticException", Cond.fieldLink RX1 9 "TalkRebuilder" "mailCount" "I", Cond.methodLink RX1 179 yX1_threads, Cond.instanceMethod yX1_threads, Cond.selects RX1 yX1_threads yX1_threads, Cond.initialized RX1, Cond.code yX1_threads cX1_threads 3 (some .int), Cond.methodLink RX1 165 yX1_rootOf, Cond.instanceMethod yX1_rootOf, Cond.selects RX1 yX1_rootOf yX1_rootOf, Cond.code yX1_rootOf cX1_rootOf 5 (some .int), Cond.methodLink RX1 229 yX1_parentInThread, Cond.instanceMethod yX1_parentInThread, Cond.selects RX1 yX1_parentInThread yX1_parentInThread, Cond.code yX1_parentInThread cX1_parentInThread 4 (some .int), Cond.fieldLink RX1 20 "TalkRebuilder" "subjects" "[I", Cond.methodLink RX1 93 yX1_parentOf, Cond.instanceMethod yX1_parentOf, Cond.selects RX1 yX1_parentOf yX1_parentOf, Cond.code yX1_parentOf cX1_parentOf 2 (some .int), Cond.fieldLink RX1 23 "TalkRebuilder" "answeredDates" "[I", Cond.methodLink RX1 63 yX1_mailOfDate, Cond.instanceMethod yX1_mailOfDate]
def wsX1_meanSize_r2 : List Cond := [Cond.selects RX1 yX1_mailOfDate yX1_mailOfDate, Cond.code yX1_mailOfDate cX1_mailOfDate 3 (some .int), Cond.fieldLink RX1 13 "TalkRebuilder" "dates" "[I"]
def wsX1_meanSize : List Cond := .code yX1_meanSize cX1_meanSize 2 (some .double) :: ((wsX1_meanSize_r1 ++ wsX1_meanSize_r2) ++ wsX10 ++ (vx_atS RX1 175 "java/lang/ArithmeticException" ["java/lang/RuntimeException", "java/lang/Exception"]).filter goodWord ++ (vx_atM "java/lang/ArrayIndexOutOfBoundsException" ["java/lang/IndexOutOfBoundsException", "java/lang/RuntimeException", "java/lang/Exception"]).filter goodWord)
def wsX2_init : List Cond := .code yX2_init cX2_init 1 none :: ([.methodLink RX2 1 objectInit, .instanceMethod objectInit, .code objectInit ⟨#[0xb1]⟩ 1 none, .arrayClass .int, .fieldLink RX2 7 "TalkRebuilderModel" "date" "[I", .fieldLink RX2 13 "TalkRebuilderModel" "author" "[I", .fieldLink RX2 16 "TalkRebuilderModel" "subject" "[I", .fieldLink RX2 19 "TalkRebuilderModel" "answered" "[I", .fieldLink RX2 22 "TalkRebuilderModel" "many" "[I", .fieldLink RX2 25 "TalkRebuilderModel" "marks" "[I", .fieldLink RX2 28 "TalkRebuilderModel" "words" "[I", .fieldLink RX2 31 "TalkRebuilderModel" "partnerOf" "[I", .fieldLink RX2 34 "TalkRebuilderModel" "best" "[I"] ++ wsX20)
def wsX2_thrown : List Cond := .code yX2_thrown cX2_thrown 1 (some .int) :: ([.fieldLink RX2 37 "TalkRebuilderModel" "thrown" "I"] ++ wsX20)
def wsX2_in : List Cond := .code yX2_in cX2_in 3 (some .boolean) :: ([])
def wsX2_fails : List Cond := .code yX2_fails cX2_fails 2 (some .int) :: ([.fieldLink RX2 37 "TalkRebuilderModel" "thrown" "I"] ++ wsX20)
def wsX2_tells : List Cond := .code yX2_tells cX2_tells 2 (some .int) :: ([.fieldLink RX2 37 "TalkRebuilderModel" "thrown" "I"] ++ wsX20)
def wsX2_isMail : List Cond := .code yX2_isMail cX2_isMail 2 (some .boolean) :: ([.fieldLink RX2 41 "TalkRebuilderModel" "mails" "I", .methodLink RX2 44 yX2_in, .static yX2_in, .initialized RX2, .code yX2_in cX2_in 3 (some .boolean)] ++ wsX20)
def wsX2_isLine : List Cond := .code yX2_isLine cX2_isLine 3 (some .boolean) :: ([.fieldLink RX2 22 "TalkRebuilderModel" "many" "[I", .methodLink RX2 48 yX2_isMail, .instanceMethod yX2_isMail, .selects RX2 yX2_isMail yX2_isMail, .initialized RX2, .code yX2_isMail cX2_isMail 2 (some .boolean), .fieldLink RX2 41 "TalkRebuilderModel" "mails" "I", .methodLink RX2 44 yX2_in, .static yX2_in, .code yX2_in cX2_in 3 (some .boolean)] ++ wsX20 ++ (vx_atM "java/lang/ArrayIndexOutOfBoundsException" ["java/lang/IndexOutOfBoundsException", "java/lang/RuntimeException", "java/lang/Exception"]).filter goodWord)
def wsX2_dated : List Cond := .code yX2_dated cX2_dated 4 (some .int) :: ([.fieldLink RX2 41 "TalkRebuilderModel" "mails" "I", .fieldLink RX2 7 "TalkRebuilderModel" "date" "[I"] ++ wsX20 ++ (vx_atM "java/lang/ArrayIndexOutOfBoundsException" ["java/lang/IndexOutOfBoundsException", "java/lang/RuntimeException", "java/lang/Exception"]).filter goodWord)
def wsX2_arrive : List Cond := .code yX2_arrive cX2_arrive 5 (some .int) :: ([.fieldLink RX2 41 "TalkRebuilderModel" "mails" "I", .fieldLink RX2 7 "TalkRebuilderModel" "date" "[I", .fieldLink RX2 13 "TalkRebuilderModel" "author" "[I", .fieldLink RX2 16 "TalkRebuilderModel" "subject" "[I", .fieldLink RX2 19 "TalkRebuilderModel" "answered" "[I", .methodLink RX2 44 yX2_in, .static yX2_in, .initialized RX2, .code yX2_in cX2_in 3 (some .boolean), .methodLink RX2 52 yX2_dated, .instanceMethod yX2_dated, .selects RX2 yX2_dated yX2_dated, .code yX2_dated cX2_dated 4 (some .int), .methodLink RX2 56 yX2_fails, .instanceMethod yX2_fails, .selects RX2 yX2_fails yX2_fails, .code yX2_fails cX2_fails 2 (some .int), .fieldLink RX2 37 "TalkRebuilderModel" "thrown" "I", .methodLink RX2 59 yX2_tells, .instanceMethod yX2_tells, .selects RX2 yX2_tells yX2_tells, .code yX2_tells cX2_tells 2 (some .int)] ++ wsX20 ++ (vx_atM "java/lang/ArrayIndexOutOfBoundsException" ["java/lang/IndexOutOfBoundsException", "java/lang/RuntimeException", "java/lang/Exception"]).filter goodWord)
def wsX2_addLine : List Cond := .code yX2_addLine cX2_addLine 4 (some .int) :: ([.fieldLink RX2 22 "TalkRebuilderModel" "many" "[I", .fieldLink RX2 25 "TalkRebuilderModel" "marks" "[I", .fieldLink RX2 28 "TalkRebuilderModel" "words" "[I", .methodLink RX2 48 yX2_isMail, .instanceMethod yX2_isMail, .selects RX2 yX2_isMail yX2_isMail, .initialized RX2, .code yX2_isMail cX2_isMail 2 (some .boolean), .fieldLink RX2 41 "TalkRebuilderModel" "mails" "I", .methodLink RX2 44 yX2_in, .static yX2_in, .code yX2_in cX2_in 3 (some .boolean), .methodLink RX2 56 yX2_fails, .instanceMethod yX2_fails, .selects RX2 yX2_fails yX2_fails, .code yX2_fails cX2_fails 2 (some .int), .fieldLink RX2 37 "TalkRebuilderModel" "thrown" "I", .methodLink RX2 59 yX2_tells, .instanceMethod yX2_tells, .selects RX2 yX2_tells yX2_tells, .code yX2_tells cX2_tells 2 (some .int)] ++ wsX20 ++ (vx_atM "java/lang/ArrayIndexOutOfBoundsException" ["java/lang/IndexOutOfBoundsException", "java/lang/RuntimeException", "java/lang/Exception"]).filter goodWord)
def wsX2_removeLine : List Cond := .code yX2_removeLine cX2_removeLine 2 (some .int) :: ([.fieldLink RX2 22 "TalkRebuilderModel" "many" "[I", .methodLink RX2 48 yX2_isMail, .instanceMethod yX2_isMail, .selects RX2 yX2_isMail yX2_isMail, .initialized RX2, .code yX2_isMail cX2_isMail 2 (some .boolean), .fieldLink RX2 41 "TalkRebuilderModel" "mails" "I", .methodLink RX2 44 yX2_in, .static yX2_in, .code yX2_in cX2_in 3 (some .boolean), .methodLink RX2 56 yX2_fails, .instanceMethod yX2_fails, .selects RX2 yX2_fails yX2_fails, .code yX2_fails cX2_fails 2 (some .int), .fieldLink RX2 37 "TalkRebuilderModel" "thrown" "I", .methodLink RX2 59 yX2_tells, .instanceMethod yX2_tells, .selects RX2 yX2_tells yX2_tells, .code yX2_tells cX2_tells 2 (some .int)] ++ wsX20 ++ (vx_atM "java/lang/ArrayIndexOutOfBoundsException" ["java/lang/IndexOutOfBoundsException", "java/lang/RuntimeException", "java/lang/Exception"]).filter goodWord)
def wsX2_mails : List Cond := .code yX2_mails cX2_mails 1 (some .int) :: ([.fieldLink RX2 41 "TalkRebuilderModel" "mails" "I", .methodLink RX2 59 yX2_tells, .instanceMethod yX2_tells, .selects RX2 yX2_tells yX2_tells, .initialized RX2, .code yX2_tells cX2_tells 2 (some .int), .fieldLink RX2 37 "TalkRebuilderModel" "thrown" "I"] ++ wsX20)
def wsX2_lines : List Cond := .code yX2_lines cX2_lines 2 (some .int) :: ([.fieldLink RX2 22 "TalkRebuilderModel" "many" "[I", .methodLink RX2 48 yX2_isMail, .instanceMethod yX2_isMail, .selects RX2 yX2_isMail yX2_isMail, .initialized RX2, .code yX2_isMail cX2_isMail 2 (some .boolean), .fieldLink RX2 41 "TalkRebuilderModel" "mails" "I", .methodLink RX2 44 yX2_in, .static yX2_in, .code yX2_in cX2_in 3 (some .boolean), .methodLink RX2 59 yX2_tells, .instanceMethod yX2_tells, .selects RX2 yX2_tells yX2_tells, .code yX2_tells cX2_tells 2 (some .int), .fieldLink RX2 37 "TalkRebuilderModel" "thrown" "I", .methodLink RX2 56 yX2_fails, .instanceMethod yX2_fails, .selects RX2 yX2_fails yX2_fails, .code yX2_fails cX2_fails 2 (some .int)] ++ wsX20 ++ (vx_atM "java/lang/ArrayIndexOutOfBoundsException" ["java/lang/IndexOutOfBoundsException", "java/lang/RuntimeException", "java/lang/Exception"]).filter goodWord)
def wsX2_word : List Cond := .code yX2_word cX2_word 3 (some .int) :: ([.fieldLink RX2 28 "TalkRebuilderModel" "words" "[I", .methodLink RX2 62 yX2_isLine, .instanceMethod yX2_isLine, .selects RX2 yX2_isLine yX2_isLine, .initialized RX2, .code yX2_isLine cX2_isLine 3 (some .boolean), .fieldLink RX2 22 "TalkRebuilderModel" "many" "[I", .methodLink RX2 48 yX2_isMail, .instanceMethod yX2_isMail, .selects RX2 yX2_isMail yX2_isMail, .code yX2_isMail cX2_isMail 2 (some .boolean), .fieldLink RX2 41 "TalkRebuilderModel" "mails" "I", .methodLink RX2 44 yX2_in, .static yX2_in, .code yX2_in cX2_in 3 (some .boolean), .methodLink RX2 59 yX2_tells, .instanceMethod yX2_tells, .selects RX2 yX2_tells yX2_tells, .code yX2_tells cX2_tells 2 (some .int), .fieldLink RX2 37 "TalkRebuilderModel" "thrown" "I", .methodLink RX2 56 yX2_fails, .instanceMethod yX2_fails, .selects RX2 yX2_fails yX2_fails, .code yX2_fails cX2_fails 2 (some .int)] ++ wsX20 ++ (vx_atM "java/lang/ArrayIndexOutOfBoundsException" ["java/lang/IndexOutOfBoundsException", "java/lang/RuntimeException", "java/lang/Exception"]).filter goodWord)
def wsX2_parentOf : List Cond := .code yX2_parentOf cX2_parentOf 2 (some .int) :: ([.fieldLink RX2 19 "TalkRebuilderModel" "answered" "[I", .methodLink RX2 52 yX2_dated, .instanceMethod yX2_dated, .selects RX2 yX2_dated yX2_dated, .initialized RX2, .code yX2_dated cX2_dated 4 (some .int), .fieldLink RX2 41 "TalkRebuilderModel" "mails" "I", .fieldLink RX2 7 "TalkRebuilderModel" "date" "[I"] ++ wsX20 ++ (vx_atM "java/lang/ArrayIndexOutOfBoundsException" ["java/lang/IndexOutOfBoundsException", "java/lang/RuntimeException", "java/lang/Exception"]).filter goodWord)
def wsX2_parent_r1 : List Cond := [Cond.methodLink RX2 48 yX2_isMail, Cond.instanceMethod yX2_isMail, Cond.selects RX2 yX2_isMail yX2_isMail, Cond.initialized RX2, Cond.code yX2_isMail cX2_isMail 2 (some .boolean), Cond.fieldLink RX2 41 "TalkRebuilderModel" "mails" "I", Cond.methodLink RX2 44 yX2_in, Cond.static yX2_in, Cond.code yX2_in cX2_in 3 (some .boolean), Cond.methodLink RX2 56 yX2_fails, Cond.instanceMethod yX2_fails, Cond.selects RX2 yX2_fails yX2_fails, Cond.code yX2_fails cX2_fails 2 (some .int), Cond.fieldLink RX2 37 "TalkRebuilderModel" "thrown" "I", Cond.methodLink RX2 66 yX2_parentOf, Cond.instanceMethod yX2_parentOf, Cond.selects RX2 yX2_parentOf yX2_parentOf, Cond.code yX2_parentOf cX2_parentOf 2 (some .int), Cond.fieldLink RX2 19 "TalkRebuilderModel" "answered" "[I", Cond.methodLink RX2 52 yX2_dated, Cond.instanceMethod yX2_dated, Cond.selects RX2 yX2_dated yX2_dated, Cond.code yX2_dated cX2_dated 4 (some .int), Cond.fieldLink RX2 7 "TalkRebuilderModel" "date" "[I"]
def wsX2_parent_r2 : List Cond := [Cond.methodLink RX2 59 yX2_tells, Cond.instanceMethod yX2_tells, Cond.selects RX2 yX2_tells yX2_tells, Cond.code yX2_tells cX2_tells 2 (some .int)]
def wsX2_parent : List Cond := .code yX2_parent cX2_parent 2 (some .int) :: ((wsX2_parent_r1 ++ wsX2_parent_r2) ++ wsX20 ++ (vx_atM "java/lang/ArrayIndexOutOfBoundsException" ["java/lang/IndexOutOfBoundsException", "java/lang/RuntimeException", "java/lang/Exception"]).filter goodWord)
def wsX2_missing : List Cond := .code yX2_missing cX2_missing 5 (some .int) :: ([.fieldLink RX2 41 "TalkRebuilderModel" "mails" "I", .fieldLink RX2 19 "TalkRebuilderModel" "answered" "[I", .methodLink RX2 52 yX2_dated, .instanceMethod yX2_dated, .selects RX2 yX2_dated yX2_dated, .initialized RX2, .code yX2_dated cX2_dated 4 (some .int), .fieldLink RX2 7 "TalkRebuilderModel" "date" "[I", .methodLink RX2 59 yX2_tells, .instanceMethod yX2_tells, .selects RX2 yX2_tells yX2_tells, .code yX2_tells cX2_tells 2 (some .int), .fieldLink RX2 37 "TalkRebuilderModel" "thrown" "I"] ++ wsX20 ++ (vx_atM "java/lang/ArrayIndexOutOfBoundsException" ["java/lang/IndexOutOfBoundsException", "java/lang/RuntimeException", "java/lang/Exception"]).filter goodWord)
def wsX2_fits : List Cond := .code yX2_fits cX2_fits 3 (some .boolean) :: ([.fieldLink RX2 25 "TalkRebuilderModel" "marks" "[I", .fieldLink RX2 28 "TalkRebuilderModel" "words" "[I"] ++ wsX20 ++ (vx_atM "java/lang/ArrayIndexOutOfBoundsException" ["java/lang/IndexOutOfBoundsException", "java/lang/RuntimeException", "java/lang/Exception"]).filter goodWord)
def wsX2_aligns : List Cond := .code yX2_aligns cX2_aligns 9 none :: ([.fieldLink RX2 22 "TalkRebuilderModel" "many" "[I", .fieldLink RX2 34 "TalkRebuilderModel" "best" "[I", .fieldLink RX2 31 "TalkRebuilderModel" "partnerOf" "[I", .methodLink RX2 66 yX2_parentOf, .instanceMethod yX2_parentOf, .selects RX2 yX2_parentOf yX2_parentOf, .initialized RX2, .code yX2_parentOf cX2_parentOf 2 (some .int), .fieldLink RX2 19 "TalkRebuilderModel" "answered" "[I", .methodLink RX2 52 yX2_dated, .instanceMethod yX2_dated, .selects RX2 yX2_dated yX2_dated, .code yX2_dated cX2_dated 4 (some .int), .fieldLink RX2 41 "TalkRebuilderModel" "mails" "I", .fieldLink RX2 7 "TalkRebuilderModel" "date" "[I", .methodLink RX2 69 yX2_fits, .instanceMethod yX2_fits, .selects RX2 yX2_fits yX2_fits, .code yX2_fits cX2_fits 3 (some .boolean), .fieldLink RX2 25 "TalkRebuilderModel" "marks" "[I", .fieldLink RX2 28 "TalkRebuilderModel" "words" "[I"] ++ wsX20 ++ (vx_atM "java/lang/ArrayIndexOutOfBoundsException" ["java/lang/IndexOutOfBoundsException", "java/lang/RuntimeException", "java/lang/Exception"]).filter goodWord)
def wsX2_alignsAll_r1 : List Cond := [Cond.fieldLink RX2 41 "TalkRebuilderModel" "mails" "I", Cond.methodLink RX2 72 yX2_aligns, Cond.instanceMethod yX2_aligns, Cond.selects RX2 yX2_aligns yX2_aligns, Cond.initialized RX2, Cond.code yX2_aligns cX2_aligns 9 none, Cond.fieldLink RX2 22 "TalkRebuilderModel" "many" "[I", Cond.fieldLink RX2 34 "TalkRebuilderModel" "best" "[I", Cond.fieldLink RX2 31 "TalkRebuilderModel" "partnerOf" "[I", Cond.methodLink RX2 66 yX2_parentOf, Cond.instanceMethod yX2_parentOf, Cond.selects RX2 yX2_parentOf yX2_parentOf, Cond.code yX2_parentOf cX2_parentOf 2 (some .int), Cond.fieldLink RX2 19 "TalkRebuilderModel" "answered" "[I", Cond.methodLink RX2 52 yX2_dated, Cond.instanceMethod yX2_dated, Cond.selects RX2 yX2_dated yX2_dated, Cond.code yX2_dated cX2_dated 4 (some .int), Cond.fieldLink RX2 7 "TalkRebuilderModel" "date" "[I", Cond.methodLink RX2 69 yX2_fits, Cond.instanceMethod yX2_fits, Cond.selects RX2 yX2_fits yX2_fits, Cond.code yX2_fits cX2_fits 3 (some .boolean), Cond.fieldLink RX2 25 "TalkRebuilderModel" "marks" "[I"]
def wsX2_alignsAll_r2 : List Cond := [Cond.fieldLink RX2 28 "TalkRebuilderModel" "words" "[I"]
def wsX2_alignsAll : List Cond := .code yX2_alignsAll cX2_alignsAll 2 none :: ((wsX2_alignsAll_r1 ++ wsX2_alignsAll_r2) ++ wsX20 ++ (vx_atM "java/lang/ArrayIndexOutOfBoundsException" ["java/lang/IndexOutOfBoundsException", "java/lang/RuntimeException", "java/lang/Exception"]).filter goodWord)
def wsX2_alignedOf_r1 : List Cond := [Cond.fieldLink RX2 22 "TalkRebuilderModel" "many" "[I", Cond.fieldLink RX2 31 "TalkRebuilderModel" "partnerOf" "[I", Cond.methodLink RX2 48 yX2_isMail, Cond.instanceMethod yX2_isMail, Cond.selects RX2 yX2_isMail yX2_isMail, Cond.initialized RX2, Cond.code yX2_isMail cX2_isMail 2 (some .boolean), Cond.fieldLink RX2 41 "TalkRebuilderModel" "mails" "I", Cond.methodLink RX2 44 yX2_in, Cond.static yX2_in, Cond.code yX2_in cX2_in 3 (some .boolean), Cond.methodLink RX2 56 yX2_fails, Cond.instanceMethod yX2_fails, Cond.selects RX2 yX2_fails yX2_fails, Cond.code yX2_fails cX2_fails 2 (some .int), Cond.fieldLink RX2 37 "TalkRebuilderModel" "thrown" "I", Cond.methodLink RX2 72 yX2_aligns, Cond.instanceMethod yX2_aligns, Cond.selects RX2 yX2_aligns yX2_aligns, Cond.code yX2_aligns cX2_aligns 9 none, Cond.fieldLink RX2 34 "TalkRebuilderModel" "best" "[I", Cond.methodLink RX2 66 yX2_parentOf, Cond.instanceMethod yX2_parentOf, Cond.selects RX2 yX2_parentOf yX2_parentOf]
def wsX2_alignedOf_r2 : List Cond := [Cond.code yX2_parentOf cX2_parentOf 2 (some .int), Cond.fieldLink RX2 19 "TalkRebuilderModel" "answered" "[I", Cond.methodLink RX2 52 yX2_dated, Cond.instanceMethod yX2_dated, Cond.selects RX2 yX2_dated yX2_dated, Cond.code yX2_dated cX2_dated 4 (some .int), Cond.fieldLink RX2 7 "TalkRebuilderModel" "date" "[I", Cond.methodLink RX2 69 yX2_fits, Cond.instanceMethod yX2_fits, Cond.selects RX2 yX2_fits yX2_fits, Cond.code yX2_fits cX2_fits 3 (some .boolean), Cond.fieldLink RX2 25 "TalkRebuilderModel" "marks" "[I", Cond.fieldLink RX2 28 "TalkRebuilderModel" "words" "[I", Cond.methodLink RX2 59 yX2_tells, Cond.instanceMethod yX2_tells, Cond.selects RX2 yX2_tells yX2_tells, Cond.code yX2_tells cX2_tells 2 (some .int)]
def wsX2_alignedOf : List Cond := .code yX2_alignedOf cX2_alignedOf 4 (some .int) :: ((wsX2_alignedOf_r1 ++ wsX2_alignedOf_r2) ++ wsX20 ++ (vx_atM "java/lang/ArrayIndexOutOfBoundsException" ["java/lang/IndexOutOfBoundsException", "java/lang/RuntimeException", "java/lang/Exception"]).filter goodWord)
def wsX2_aligned_r1 : List Cond := [Cond.methodLink RX2 76 yX2_alignedOf, Cond.instanceMethod yX2_alignedOf, Cond.selects RX2 yX2_alignedOf yX2_alignedOf, Cond.initialized RX2, Cond.code yX2_alignedOf cX2_alignedOf 4 (some .int), Cond.fieldLink RX2 22 "TalkRebuilderModel" "many" "[I", Cond.fieldLink RX2 31 "TalkRebuilderModel" "partnerOf" "[I", Cond.methodLink RX2 48 yX2_isMail, Cond.instanceMethod yX2_isMail, Cond.selects RX2 yX2_isMail yX2_isMail, Cond.code yX2_isMail cX2_isMail 2 (some .boolean), Cond.fieldLink RX2 41 "TalkRebuilderModel" "mails" "I", Cond.methodLink RX2 44 yX2_in, Cond.static yX2_in, Cond.code yX2_in cX2_in 3 (some .boolean), Cond.methodLink RX2 56 yX2_fails, Cond.instanceMethod yX2_fails, Cond.selects RX2 yX2_fails yX2_fails, Cond.code yX2_fails cX2_fails 2 (some .int), Cond.fieldLink RX2 37 "TalkRebuilderModel" "thrown" "I", Cond.methodLink RX2 72 yX2_aligns, Cond.instanceMethod yX2_aligns, Cond.selects RX2 yX2_aligns yX2_aligns, Cond.code yX2_aligns cX2_aligns 9 none]
def wsX2_aligned_r2 : List Cond := [Cond.fieldLink RX2 34 "TalkRebuilderModel" "best" "[I", Cond.methodLink RX2 66 yX2_parentOf, Cond.instanceMethod yX2_parentOf, Cond.selects RX2 yX2_parentOf yX2_parentOf, Cond.code yX2_parentOf cX2_parentOf 2 (some .int), Cond.fieldLink RX2 19 "TalkRebuilderModel" "answered" "[I", Cond.methodLink RX2 52 yX2_dated, Cond.instanceMethod yX2_dated, Cond.selects RX2 yX2_dated yX2_dated, Cond.code yX2_dated cX2_dated 4 (some .int), Cond.fieldLink RX2 7 "TalkRebuilderModel" "date" "[I", Cond.methodLink RX2 69 yX2_fits, Cond.instanceMethod yX2_fits, Cond.selects RX2 yX2_fits yX2_fits, Cond.code yX2_fits cX2_fits 3 (some .boolean), Cond.fieldLink RX2 25 "TalkRebuilderModel" "marks" "[I", Cond.fieldLink RX2 28 "TalkRebuilderModel" "words" "[I", Cond.methodLink RX2 59 yX2_tells, Cond.instanceMethod yX2_tells, Cond.selects RX2 yX2_tells yX2_tells, Cond.code yX2_tells cX2_tells 2 (some .int)]
def wsX2_aligned : List Cond := .code yX2_aligned cX2_aligned 2 (some .int) :: ((wsX2_aligned_r1 ++ wsX2_aligned_r2) ++ wsX20 ++ (vx_atM "java/lang/ArrayIndexOutOfBoundsException" ["java/lang/IndexOutOfBoundsException", "java/lang/RuntimeException", "java/lang/Exception"]).filter goodWord)
def wsX2_alignedByTrying_r1 : List Cond := [Cond.methodLink RX2 76 yX2_alignedOf, Cond.instanceMethod yX2_alignedOf, Cond.selects RX2 yX2_alignedOf yX2_alignedOf, Cond.initialized RX2, Cond.code yX2_alignedOf cX2_alignedOf 4 (some .int), Cond.fieldLink RX2 22 "TalkRebuilderModel" "many" "[I", Cond.fieldLink RX2 31 "TalkRebuilderModel" "partnerOf" "[I", Cond.methodLink RX2 48 yX2_isMail, Cond.instanceMethod yX2_isMail, Cond.selects RX2 yX2_isMail yX2_isMail, Cond.code yX2_isMail cX2_isMail 2 (some .boolean), Cond.fieldLink RX2 41 "TalkRebuilderModel" "mails" "I", Cond.methodLink RX2 44 yX2_in, Cond.static yX2_in, Cond.code yX2_in cX2_in 3 (some .boolean), Cond.methodLink RX2 56 yX2_fails, Cond.instanceMethod yX2_fails, Cond.selects RX2 yX2_fails yX2_fails, Cond.code yX2_fails cX2_fails 2 (some .int), Cond.fieldLink RX2 37 "TalkRebuilderModel" "thrown" "I", Cond.methodLink RX2 72 yX2_aligns, Cond.instanceMethod yX2_aligns, Cond.selects RX2 yX2_aligns yX2_aligns, Cond.code yX2_aligns cX2_aligns 9 none]
def wsX2_alignedByTrying_r2 : List Cond := [Cond.fieldLink RX2 34 "TalkRebuilderModel" "best" "[I", Cond.methodLink RX2 66 yX2_parentOf, Cond.instanceMethod yX2_parentOf, Cond.selects RX2 yX2_parentOf yX2_parentOf, Cond.code yX2_parentOf cX2_parentOf 2 (some .int), Cond.fieldLink RX2 19 "TalkRebuilderModel" "answered" "[I", Cond.methodLink RX2 52 yX2_dated, Cond.instanceMethod yX2_dated, Cond.selects RX2 yX2_dated yX2_dated, Cond.code yX2_dated cX2_dated 4 (some .int), Cond.fieldLink RX2 7 "TalkRebuilderModel" "date" "[I", Cond.methodLink RX2 69 yX2_fits, Cond.instanceMethod yX2_fits, Cond.selects RX2 yX2_fits yX2_fits, Cond.code yX2_fits cX2_fits 3 (some .boolean), Cond.fieldLink RX2 25 "TalkRebuilderModel" "marks" "[I", Cond.fieldLink RX2 28 "TalkRebuilderModel" "words" "[I", Cond.methodLink RX2 59 yX2_tells, Cond.instanceMethod yX2_tells, Cond.selects RX2 yX2_tells yX2_tells, Cond.code yX2_tells cX2_tells 2 (some .int)]
def wsX2_alignedByTrying : List Cond := .code yX2_alignedByTrying cX2_alignedByTrying 2 (some .int) :: ((wsX2_alignedByTrying_r1 ++ wsX2_alignedByTrying_r2) ++ wsX20 ++ (vx_atM "java/lang/ArrayIndexOutOfBoundsException" ["java/lang/IndexOutOfBoundsException", "java/lang/RuntimeException", "java/lang/Exception"]).filter goodWord)
def wsX2_partner_r1 : List Cond := [Cond.fieldLink RX2 31 "TalkRebuilderModel" "partnerOf" "[I", Cond.methodLink RX2 62 yX2_isLine, Cond.instanceMethod yX2_isLine, Cond.selects RX2 yX2_isLine yX2_isLine, Cond.initialized RX2, Cond.code yX2_isLine cX2_isLine 3 (some .boolean), Cond.fieldLink RX2 22 "TalkRebuilderModel" "many" "[I", Cond.methodLink RX2 48 yX2_isMail, Cond.instanceMethod yX2_isMail, Cond.selects RX2 yX2_isMail yX2_isMail, Cond.code yX2_isMail cX2_isMail 2 (some .boolean), Cond.fieldLink RX2 41 "TalkRebuilderModel" "mails" "I", Cond.methodLink RX2 44 yX2_in, Cond.static yX2_in, Cond.code yX2_in cX2_in 3 (some .boolean), Cond.methodLink RX2 56 yX2_fails, Cond.instanceMethod yX2_fails, Cond.selects RX2 yX2_fails yX2_fails, Cond.code yX2_fails cX2_fails 2 (some .int), Cond.fieldLink RX2 37 "TalkRebuilderModel" "thrown" "I", Cond.methodLink RX2 72 yX2_aligns, Cond.instanceMethod yX2_aligns, Cond.selects RX2 yX2_aligns yX2_aligns, Cond.code yX2_aligns cX2_aligns 9 none]
def wsX2_partner_r2 : List Cond := [Cond.fieldLink RX2 34 "TalkRebuilderModel" "best" "[I", Cond.methodLink RX2 66 yX2_parentOf, Cond.instanceMethod yX2_parentOf, Cond.selects RX2 yX2_parentOf yX2_parentOf, Cond.code yX2_parentOf cX2_parentOf 2 (some .int), Cond.fieldLink RX2 19 "TalkRebuilderModel" "answered" "[I", Cond.methodLink RX2 52 yX2_dated, Cond.instanceMethod yX2_dated, Cond.selects RX2 yX2_dated yX2_dated, Cond.code yX2_dated cX2_dated 4 (some .int), Cond.fieldLink RX2 7 "TalkRebuilderModel" "date" "[I", Cond.methodLink RX2 69 yX2_fits, Cond.instanceMethod yX2_fits, Cond.selects RX2 yX2_fits yX2_fits, Cond.code yX2_fits cX2_fits 3 (some .boolean), Cond.fieldLink RX2 25 "TalkRebuilderModel" "marks" "[I", Cond.fieldLink RX2 28 "TalkRebuilderModel" "words" "[I", Cond.methodLink RX2 59 yX2_tells, Cond.instanceMethod yX2_tells, Cond.selects RX2 yX2_tells yX2_tells, Cond.code yX2_tells cX2_tells 2 (some .int)]
def wsX2_partner : List Cond := .code yX2_partner cX2_partner 3 (some .int) :: ((wsX2_partner_r1 ++ wsX2_partner_r2) ++ wsX20 ++ (vx_atM "java/lang/ArrayIndexOutOfBoundsException" ["java/lang/IndexOutOfBoundsException", "java/lang/RuntimeException", "java/lang/Exception"]).filter goodWord)
def wsX2_origin : List Cond := .code yX2_origin cX2_origin 5 (some .int) :: ([.fieldLink RX2 31 "TalkRebuilderModel" "partnerOf" "[I", .methodLink RX2 66 yX2_parentOf, .instanceMethod yX2_parentOf, .selects RX2 yX2_parentOf yX2_parentOf, .initialized RX2, .code yX2_parentOf cX2_parentOf 2 (some .int), .fieldLink RX2 19 "TalkRebuilderModel" "answered" "[I", .methodLink RX2 52 yX2_dated, .instanceMethod yX2_dated, .selects RX2 yX2_dated yX2_dated, .code yX2_dated cX2_dated 4 (some .int), .fieldLink RX2 41 "TalkRebuilderModel" "mails" "I", .fieldLink RX2 7 "TalkRebuilderModel" "date" "[I"] ++ wsX20 ++ (vx_atM "java/lang/ArrayIndexOutOfBoundsException" ["java/lang/IndexOutOfBoundsException", "java/lang/RuntimeException", "java/lang/Exception"]).filter goodWord)
def wsX2_originMail_r1 : List Cond := [Cond.methodLink RX2 62 yX2_isLine, Cond.instanceMethod yX2_isLine, Cond.selects RX2 yX2_isLine yX2_isLine, Cond.initialized RX2, Cond.code yX2_isLine cX2_isLine 3 (some .boolean), Cond.fieldLink RX2 22 "TalkRebuilderModel" "many" "[I", Cond.methodLink RX2 48 yX2_isMail, Cond.instanceMethod yX2_isMail, Cond.selects RX2 yX2_isMail yX2_isMail, Cond.code yX2_isMail cX2_isMail 2 (some .boolean), Cond.fieldLink RX2 41 "TalkRebuilderModel" "mails" "I", Cond.methodLink RX2 44 yX2_in, Cond.static yX2_in, Cond.code yX2_in cX2_in 3 (some .boolean), Cond.methodLink RX2 56 yX2_fails, Cond.instanceMethod yX2_fails, Cond.selects RX2 yX2_fails yX2_fails, Cond.code yX2_fails cX2_fails 2 (some .int), Cond.fieldLink RX2 37 "TalkRebuilderModel" "thrown" "I", Cond.methodLink RX2 79 yX2_alignsAll, Cond.instanceMethod yX2_alignsAll, Cond.selects RX2 yX2_alignsAll yX2_alignsAll, Cond.code yX2_alignsAll cX2_alignsAll 2 none, Cond.methodLink RX2 72 yX2_aligns]
def wsX2_originMail_r2 : List Cond := [Cond.instanceMethod yX2_aligns, Cond.selects RX2 yX2_aligns yX2_aligns, Cond.code yX2_aligns cX2_aligns 9 none, Cond.fieldLink RX2 34 "TalkRebuilderModel" "best" "[I", Cond.fieldLink RX2 31 "TalkRebuilderModel" "partnerOf" "[I", Cond.methodLink RX2 66 yX2_parentOf, Cond.instanceMethod yX2_parentOf, Cond.selects RX2 yX2_parentOf yX2_parentOf, Cond.code yX2_parentOf cX2_parentOf 2 (some .int), Cond.fieldLink RX2 19 "TalkRebuilderModel" "answered" "[I", Cond.methodLink RX2 52 yX2_dated, Cond.instanceMethod yX2_dated, Cond.selects RX2 yX2_dated yX2_dated, Cond.code yX2_dated cX2_dated 4 (some .int), Cond.fieldLink RX2 7 "TalkRebuilderModel" "date" "[I", Cond.methodLink RX2 69 yX2_fits, Cond.instanceMethod yX2_fits, Cond.selects RX2 yX2_fits yX2_fits, Cond.code yX2_fits cX2_fits 3 (some .boolean), Cond.fieldLink RX2 25 "TalkRebuilderModel" "marks" "[I", Cond.fieldLink RX2 28 "TalkRebuilderModel" "words" "[I", Cond.methodLink RX2 82 yX2_origin, Cond.instanceMethod yX2_origin, Cond.selects RX2 yX2_origin yX2_origin]
def wsX2_originMail_r3 : List Cond := [Cond.code yX2_origin cX2_origin 5 (some .int), Cond.methodLink RX2 59 yX2_tells, Cond.instanceMethod yX2_tells, Cond.selects RX2 yX2_tells yX2_tells, Cond.code yX2_tells cX2_tells 2 (some .int)]
def wsX2_originMail : List Cond := .code yX2_originMail cX2_originMail 3 (some .int) :: ((wsX2_originMail_r1 ++ (wsX2_originMail_r2 ++ wsX2_originMail_r3)) ++ wsX20 ++ (vx_atM "java/lang/ArrayIndexOutOfBoundsException" ["java/lang/IndexOutOfBoundsException", "java/lang/RuntimeException", "java/lang/Exception"]).filter goodWord)
def wsX2_originLine_r1 : List Cond := [Cond.methodLink RX2 62 yX2_isLine, Cond.instanceMethod yX2_isLine, Cond.selects RX2 yX2_isLine yX2_isLine, Cond.initialized RX2, Cond.code yX2_isLine cX2_isLine 3 (some .boolean), Cond.fieldLink RX2 22 "TalkRebuilderModel" "many" "[I", Cond.methodLink RX2 48 yX2_isMail, Cond.instanceMethod yX2_isMail, Cond.selects RX2 yX2_isMail yX2_isMail, Cond.code yX2_isMail cX2_isMail 2 (some .boolean), Cond.fieldLink RX2 41 "TalkRebuilderModel" "mails" "I", Cond.methodLink RX2 44 yX2_in, Cond.static yX2_in, Cond.code yX2_in cX2_in 3 (some .boolean), Cond.methodLink RX2 56 yX2_fails, Cond.instanceMethod yX2_fails, Cond.selects RX2 yX2_fails yX2_fails, Cond.code yX2_fails cX2_fails 2 (some .int), Cond.fieldLink RX2 37 "TalkRebuilderModel" "thrown" "I", Cond.methodLink RX2 79 yX2_alignsAll, Cond.instanceMethod yX2_alignsAll, Cond.selects RX2 yX2_alignsAll yX2_alignsAll, Cond.code yX2_alignsAll cX2_alignsAll 2 none, Cond.methodLink RX2 72 yX2_aligns]
def wsX2_originLine_r2 : List Cond := [Cond.instanceMethod yX2_aligns, Cond.selects RX2 yX2_aligns yX2_aligns, Cond.code yX2_aligns cX2_aligns 9 none, Cond.fieldLink RX2 34 "TalkRebuilderModel" "best" "[I", Cond.fieldLink RX2 31 "TalkRebuilderModel" "partnerOf" "[I", Cond.methodLink RX2 66 yX2_parentOf, Cond.instanceMethod yX2_parentOf, Cond.selects RX2 yX2_parentOf yX2_parentOf, Cond.code yX2_parentOf cX2_parentOf 2 (some .int), Cond.fieldLink RX2 19 "TalkRebuilderModel" "answered" "[I", Cond.methodLink RX2 52 yX2_dated, Cond.instanceMethod yX2_dated, Cond.selects RX2 yX2_dated yX2_dated, Cond.code yX2_dated cX2_dated 4 (some .int), Cond.fieldLink RX2 7 "TalkRebuilderModel" "date" "[I", Cond.methodLink RX2 69 yX2_fits, Cond.instanceMethod yX2_fits, Cond.selects RX2 yX2_fits yX2_fits, Cond.code yX2_fits cX2_fits 3 (some .boolean), Cond.fieldLink RX2 25 "TalkRebuilderModel" "marks" "[I", Cond.fieldLink RX2 28 "TalkRebuilderModel" "words" "[I", Cond.methodLink RX2 82 yX2_origin, Cond.instanceMethod yX2_origin, Cond.selects RX2 yX2_origin yX2_origin]
def wsX2_originLine_r3 : List Cond := [Cond.code yX2_origin cX2_origin 5 (some .int), Cond.methodLink RX2 59 yX2_tells, Cond.instanceMethod yX2_tells, Cond.selects RX2 yX2_tells yX2_tells, Cond.code yX2_tells cX2_tells 2 (some .int)]
def wsX2_originLine : List Cond := .code yX2_originLine cX2_originLine 3 (some .int) :: ((wsX2_originLine_r1 ++ (wsX2_originLine_r2 ++ wsX2_originLine_r3)) ++ wsX20 ++ (vx_atM "java/lang/ArrayIndexOutOfBoundsException" ["java/lang/IndexOutOfBoundsException", "java/lang/RuntimeException", "java/lang/Exception"]).filter goodWord)
def wsX2_endAlike : List Cond := .code yX2_endAlike cX2_endAlike 8 (some .boolean) :: ([.fieldLink RX2 22 "TalkRebuilderModel" "many" "[I", .fieldLink RX2 25 "TalkRebuilderModel" "marks" "[I", .fieldLink RX2 28 "TalkRebuilderModel" "words" "[I"] ++ wsX20 ++ (vx_atM "java/lang/ArrayIndexOutOfBoundsException" ["java/lang/IndexOutOfBoundsException", "java/lang/RuntimeException", "java/lang/Exception"]).filter goodWord)
def wsX2_signed : List Cond := .code yX2_signed cX2_signed 5 (some .int) :: ([.fieldLink RX2 41 "TalkRebuilderModel" "mails" "I", .fieldLink RX2 13 "TalkRebuilderModel" "author" "[I", .methodLink RX2 86 yX2_endAlike, .instanceMethod yX2_endAlike, .selects RX2 yX2_endAlike yX2_endAlike, .initialized RX2, .code yX2_endAlike cX2_endAlike 8 (some .boolean), .fieldLink RX2 22 "TalkRebuilderModel" "many" "[I", .fieldLink RX2 25 "TalkRebuilderModel" "marks" "[I", .fieldLink RX2 28 "TalkRebuilderModel" "words" "[I"] ++ wsX20 ++ (vx_atM "java/lang/ArrayIndexOutOfBoundsException" ["java/lang/IndexOutOfBoundsException", "java/lang/RuntimeException", "java/lang/Exception"]).filter goodWord)
def wsX2_stoodBefore : List Cond := .code yX2_stoodBefore cX2_stoodBefore 7 (some .boolean) :: ([.fieldLink RX2 41 "TalkRebuilderModel" "mails" "I", .fieldLink RX2 19 "TalkRebuilderModel" "answered" "[I", .fieldLink RX2 7 "TalkRebuilderModel" "date" "[I", .fieldLink RX2 22 "TalkRebuilderModel" "many" "[I", .fieldLink RX2 25 "TalkRebuilderModel" "marks" "[I", .fieldLink RX2 28 "TalkRebuilderModel" "words" "[I"] ++ wsX20 ++ (vx_atM "java/lang/ArrayIndexOutOfBoundsException" ["java/lang/IndexOutOfBoundsException", "java/lang/RuntimeException", "java/lang/Exception"]).filter goodWord)
def wsX2_kindOf_r1 : List Cond := [Cond.fieldLink RX2 25 "TalkRebuilderModel" "marks" "[I", Cond.fieldLink RX2 22 "TalkRebuilderModel" "many" "[I", Cond.fieldLink RX2 31 "TalkRebuilderModel" "partnerOf" "[I", Cond.fieldLink RX2 19 "TalkRebuilderModel" "answered" "[I", Cond.methodLink RX2 89 yX2_signed, Cond.instanceMethod yX2_signed, Cond.selects RX2 yX2_signed yX2_signed, Cond.initialized RX2, Cond.code yX2_signed cX2_signed 5 (some .int), Cond.fieldLink RX2 41 "TalkRebuilderModel" "mails" "I", Cond.fieldLink RX2 13 "TalkRebuilderModel" "author" "[I", Cond.methodLink RX2 86 yX2_endAlike, Cond.instanceMethod yX2_endAlike, Cond.selects RX2 yX2_endAlike yX2_endAlike, Cond.code yX2_endAlike cX2_endAlike 8 (some .boolean), Cond.fieldLink RX2 28 "TalkRebuilderModel" "words" "[I", Cond.methodLink RX2 66 yX2_parentOf, Cond.instanceMethod yX2_parentOf, Cond.selects RX2 yX2_parentOf yX2_parentOf, Cond.code yX2_parentOf cX2_parentOf 2 (some .int), Cond.methodLink RX2 52 yX2_dated, Cond.instanceMethod yX2_dated, Cond.selects RX2 yX2_dated yX2_dated, Cond.code yX2_dated cX2_dated 4 (some .int)]
def wsX2_kindOf_r2 : List Cond := [Cond.fieldLink RX2 7 "TalkRebuilderModel" "date" "[I", Cond.methodLink RX2 92 yX2_stoodBefore, Cond.instanceMethod yX2_stoodBefore, Cond.selects RX2 yX2_stoodBefore yX2_stoodBefore, Cond.code yX2_stoodBefore cX2_stoodBefore 7 (some .boolean)]
def wsX2_kindOf : List Cond := .code yX2_kindOf cX2_kindOf 4 (some .char) :: ((wsX2_kindOf_r1 ++ wsX2_kindOf_r2) ++ wsX20 ++ (vx_atM "java/lang/ArrayIndexOutOfBoundsException" ["java/lang/IndexOutOfBoundsException", "java/lang/RuntimeException", "java/lang/Exception"]).filter goodWord)
def wsX2_isTalk_r1 : List Cond := [Cond.methodLink RX2 95 yX2_kindOf, Cond.instanceMethod yX2_kindOf, Cond.selects RX2 yX2_kindOf yX2_kindOf, Cond.initialized RX2, Cond.code yX2_kindOf cX2_kindOf 4 (some .char), Cond.fieldLink RX2 25 "TalkRebuilderModel" "marks" "[I", Cond.fieldLink RX2 22 "TalkRebuilderModel" "many" "[I", Cond.fieldLink RX2 31 "TalkRebuilderModel" "partnerOf" "[I", Cond.fieldLink RX2 19 "TalkRebuilderModel" "answered" "[I", Cond.methodLink RX2 89 yX2_signed, Cond.instanceMethod yX2_signed, Cond.selects RX2 yX2_signed yX2_signed, Cond.code yX2_signed cX2_signed 5 (some .int), Cond.fieldLink RX2 41 "TalkRebuilderModel" "mails" "I", Cond.fieldLink RX2 13 "TalkRebuilderModel" "author" "[I", Cond.methodLink RX2 86 yX2_endAlike, Cond.instanceMethod yX2_endAlike, Cond.selects RX2 yX2_endAlike yX2_endAlike, Cond.code yX2_endAlike cX2_endAlike 8 (some .boolean), Cond.fieldLink RX2 28 "TalkRebuilderModel" "words" "[I", Cond.methodLink RX2 66 yX2_parentOf, Cond.instanceMethod yX2_parentOf, Cond.selects RX2 yX2_parentOf yX2_parentOf, Cond.code yX2_parentOf cX2_parentOf 2 (some .int)]
def wsX2_isTalk_r2 : List Cond := [Cond.methodLink RX2 52 yX2_dated, Cond.instanceMethod yX2_dated, Cond.selects RX2 yX2_dated yX2_dated, Cond.code yX2_dated cX2_dated 4 (some .int), Cond.fieldLink RX2 7 "TalkRebuilderModel" "date" "[I", Cond.methodLink RX2 92 yX2_stoodBefore, Cond.instanceMethod yX2_stoodBefore, Cond.selects RX2 yX2_stoodBefore yX2_stoodBefore, Cond.code yX2_stoodBefore cX2_stoodBefore 7 (some .boolean)]
def wsX2_isTalk : List Cond := .code yX2_isTalk cX2_isTalk 3 (some .boolean) :: ((wsX2_isTalk_r1 ++ wsX2_isTalk_r2) ++ wsX20 ++ (vx_atM "java/lang/ArrayIndexOutOfBoundsException" ["java/lang/IndexOutOfBoundsException", "java/lang/RuntimeException", "java/lang/Exception"]).filter goodWord)
def wsX2_kind_r1 : List Cond := [Cond.fieldLink RX2 37 "TalkRebuilderModel" "thrown" "I", Cond.methodLink RX2 62 yX2_isLine, Cond.instanceMethod yX2_isLine, Cond.selects RX2 yX2_isLine yX2_isLine, Cond.initialized RX2, Cond.code yX2_isLine cX2_isLine 3 (some .boolean), Cond.fieldLink RX2 22 "TalkRebuilderModel" "many" "[I", Cond.methodLink RX2 48 yX2_isMail, Cond.instanceMethod yX2_isMail, Cond.selects RX2 yX2_isMail yX2_isMail, Cond.code yX2_isMail cX2_isMail 2 (some .boolean), Cond.fieldLink RX2 41 "TalkRebuilderModel" "mails" "I", Cond.methodLink RX2 44 yX2_in, Cond.static yX2_in, Cond.code yX2_in cX2_in 3 (some .boolean), Cond.methodLink RX2 79 yX2_alignsAll, Cond.instanceMethod yX2_alignsAll, Cond.selects RX2 yX2_alignsAll yX2_alignsAll, Cond.code yX2_alignsAll cX2_alignsAll 2 none, Cond.methodLink RX2 72 yX2_aligns, Cond.instanceMethod yX2_aligns, Cond.selects RX2 yX2_aligns yX2_aligns, Cond.code yX2_aligns cX2_aligns 9 none, Cond.fieldLink RX2 34 "TalkRebuilderModel" "best" "[I"]
def wsX2_kind_r2 : List Cond := [Cond.fieldLink RX2 31 "TalkRebuilderModel" "partnerOf" "[I", Cond.methodLink RX2 66 yX2_parentOf, Cond.instanceMethod yX2_parentOf, Cond.selects RX2 yX2_parentOf yX2_parentOf, Cond.code yX2_parentOf cX2_parentOf 2 (some .int), Cond.fieldLink RX2 19 "TalkRebuilderModel" "answered" "[I", Cond.methodLink RX2 52 yX2_dated, Cond.instanceMethod yX2_dated, Cond.selects RX2 yX2_dated yX2_dated, Cond.code yX2_dated cX2_dated 4 (some .int), Cond.fieldLink RX2 7 "TalkRebuilderModel" "date" "[I", Cond.methodLink RX2 69 yX2_fits, Cond.instanceMethod yX2_fits, Cond.selects RX2 yX2_fits yX2_fits, Cond.code yX2_fits cX2_fits 3 (some .boolean), Cond.fieldLink RX2 25 "TalkRebuilderModel" "marks" "[I", Cond.fieldLink RX2 28 "TalkRebuilderModel" "words" "[I", Cond.methodLink RX2 95 yX2_kindOf, Cond.instanceMethod yX2_kindOf, Cond.selects RX2 yX2_kindOf yX2_kindOf, Cond.code yX2_kindOf cX2_kindOf 4 (some .char), Cond.methodLink RX2 89 yX2_signed, Cond.instanceMethod yX2_signed, Cond.selects RX2 yX2_signed yX2_signed]
def wsX2_kind_r3 : List Cond := [Cond.code yX2_signed cX2_signed 5 (some .int), Cond.fieldLink RX2 13 "TalkRebuilderModel" "author" "[I", Cond.methodLink RX2 86 yX2_endAlike, Cond.instanceMethod yX2_endAlike, Cond.selects RX2 yX2_endAlike yX2_endAlike, Cond.code yX2_endAlike cX2_endAlike 8 (some .boolean), Cond.methodLink RX2 92 yX2_stoodBefore, Cond.instanceMethod yX2_stoodBefore, Cond.selects RX2 yX2_stoodBefore yX2_stoodBefore, Cond.code yX2_stoodBefore cX2_stoodBefore 7 (some .boolean)]
def wsX2_kind : List Cond := .code yX2_kind cX2_kind 3 (some .char) :: ((wsX2_kind_r1 ++ (wsX2_kind_r2 ++ wsX2_kind_r3)) ++ wsX20 ++ (vx_atM "java/lang/ArrayIndexOutOfBoundsException" ["java/lang/IndexOutOfBoundsException", "java/lang/RuntimeException", "java/lang/Exception"]).filter goodWord)
def wsX2_signature_r1 : List Cond := [Cond.methodLink RX2 48 yX2_isMail, Cond.instanceMethod yX2_isMail, Cond.selects RX2 yX2_isMail yX2_isMail, Cond.initialized RX2, Cond.code yX2_isMail cX2_isMail 2 (some .boolean), Cond.fieldLink RX2 41 "TalkRebuilderModel" "mails" "I", Cond.methodLink RX2 44 yX2_in, Cond.static yX2_in, Cond.code yX2_in cX2_in 3 (some .boolean), Cond.methodLink RX2 89 yX2_signed, Cond.instanceMethod yX2_signed, Cond.selects RX2 yX2_signed yX2_signed, Cond.code yX2_signed cX2_signed 5 (some .int), Cond.fieldLink RX2 13 "TalkRebuilderModel" "author" "[I", Cond.methodLink RX2 86 yX2_endAlike, Cond.instanceMethod yX2_endAlike, Cond.selects RX2 yX2_endAlike yX2_endAlike, Cond.code yX2_endAlike cX2_endAlike 8 (some .boolean), Cond.fieldLink RX2 22 "TalkRebuilderModel" "many" "[I", Cond.fieldLink RX2 25 "TalkRebuilderModel" "marks" "[I", Cond.fieldLink RX2 28 "TalkRebuilderModel" "words" "[I", Cond.methodLink RX2 59 yX2_tells, Cond.instanceMethod yX2_tells, Cond.selects RX2 yX2_tells yX2_tells]
def wsX2_signature_r2 : List Cond := [Cond.code yX2_tells cX2_tells 2 (some .int), Cond.fieldLink RX2 37 "TalkRebuilderModel" "thrown" "I", Cond.methodLink RX2 56 yX2_fails, Cond.instanceMethod yX2_fails, Cond.selects RX2 yX2_fails yX2_fails, Cond.code yX2_fails cX2_fails 2 (some .int)]
def wsX2_signature : List Cond := .code yX2_signature cX2_signature 2 (some .int) :: ((wsX2_signature_r1 ++ wsX2_signature_r2) ++ wsX20 ++ (vx_atM "java/lang/ArrayIndexOutOfBoundsException" ["java/lang/IndexOutOfBoundsException", "java/lang/RuntimeException", "java/lang/Exception"]).filter goodWord)
def wsX2_answersOf_r1 : List Cond := [Cond.methodLink RX2 95 yX2_kindOf, Cond.instanceMethod yX2_kindOf, Cond.selects RX2 yX2_kindOf yX2_kindOf, Cond.initialized RX2, Cond.code yX2_kindOf cX2_kindOf 4 (some .char), Cond.fieldLink RX2 25 "TalkRebuilderModel" "marks" "[I", Cond.fieldLink RX2 22 "TalkRebuilderModel" "many" "[I", Cond.fieldLink RX2 31 "TalkRebuilderModel" "partnerOf" "[I", Cond.fieldLink RX2 19 "TalkRebuilderModel" "answered" "[I", Cond.methodLink RX2 89 yX2_signed, Cond.instanceMethod yX2_signed, Cond.selects RX2 yX2_signed yX2_signed, Cond.code yX2_signed cX2_signed 5 (some .int), Cond.fieldLink RX2 41 "TalkRebuilderModel" "mails" "I", Cond.fieldLink RX2 13 "TalkRebuilderModel" "author" "[I", Cond.methodLink RX2 86 yX2_endAlike, Cond.instanceMethod yX2_endAlike, Cond.selects RX2 yX2_endAlike yX2_endAlike, Cond.code yX2_endAlike cX2_endAlike 8 (some .boolean), Cond.fieldLink RX2 28 "TalkRebuilderModel" "words" "[I", Cond.methodLink RX2 66 yX2_parentOf, Cond.instanceMethod yX2_parentOf, Cond.selects RX2 yX2_parentOf yX2_parentOf, Cond.code yX2_parentOf cX2_parentOf 2 (some .int)]
def wsX2_answersOf_r2 : List Cond := [Cond.methodLink RX2 52 yX2_dated, Cond.instanceMethod yX2_dated, Cond.selects RX2 yX2_dated yX2_dated, Cond.code yX2_dated cX2_dated 4 (some .int), Cond.fieldLink RX2 7 "TalkRebuilderModel" "date" "[I", Cond.methodLink RX2 92 yX2_stoodBefore, Cond.instanceMethod yX2_stoodBefore, Cond.selects RX2 yX2_stoodBefore yX2_stoodBefore, Cond.code yX2_stoodBefore cX2_stoodBefore 7 (some .boolean), Cond.methodLink RX2 82 yX2_origin, Cond.instanceMethod yX2_origin, Cond.selects RX2 yX2_origin yX2_origin, Cond.code yX2_origin cX2_origin 5 (some .int)]
def wsX2_answersOf : List Cond := .code yX2_answersOf cX2_answersOf 5 (some .int) :: ((wsX2_answersOf_r1 ++ wsX2_answersOf_r2) ++ wsX20 ++ (vx_atM "java/lang/ArrayIndexOutOfBoundsException" ["java/lang/IndexOutOfBoundsException", "java/lang/RuntimeException", "java/lang/Exception"]).filter goodWord)
def wsX2_asksAnswered_r1 : List Cond := [Cond.methodLink RX2 62 yX2_isLine, Cond.instanceMethod yX2_isLine, Cond.selects RX2 yX2_isLine yX2_isLine, Cond.initialized RX2, Cond.code yX2_isLine cX2_isLine 3 (some .boolean), Cond.fieldLink RX2 22 "TalkRebuilderModel" "many" "[I", Cond.methodLink RX2 48 yX2_isMail, Cond.instanceMethod yX2_isMail, Cond.selects RX2 yX2_isMail yX2_isMail, Cond.code yX2_isMail cX2_isMail 2 (some .boolean), Cond.fieldLink RX2 41 "TalkRebuilderModel" "mails" "I", Cond.methodLink RX2 44 yX2_in, Cond.static yX2_in, Cond.code yX2_in cX2_in 3 (some .boolean), Cond.methodLink RX2 56 yX2_fails, Cond.instanceMethod yX2_fails, Cond.selects RX2 yX2_fails yX2_fails, Cond.code yX2_fails cX2_fails 2 (some .int), Cond.fieldLink RX2 37 "TalkRebuilderModel" "thrown" "I", Cond.methodLink RX2 79 yX2_alignsAll, Cond.instanceMethod yX2_alignsAll, Cond.selects RX2 yX2_alignsAll yX2_alignsAll, Cond.code yX2_alignsAll cX2_alignsAll 2 none, Cond.methodLink RX2 72 yX2_aligns]
def wsX2_asksAnswered_r2 : List Cond := [Cond.instanceMethod yX2_aligns, Cond.selects RX2 yX2_aligns yX2_aligns, Cond.code yX2_aligns cX2_aligns 9 none, Cond.fieldLink RX2 34 "TalkRebuilderModel" "best" "[I", Cond.fieldLink RX2 31 "TalkRebuilderModel" "partnerOf" "[I", Cond.methodLink RX2 66 yX2_parentOf, Cond.instanceMethod yX2_parentOf, Cond.selects RX2 yX2_parentOf yX2_parentOf, Cond.code yX2_parentOf cX2_parentOf 2 (some .int), Cond.fieldLink RX2 19 "TalkRebuilderModel" "answered" "[I", Cond.methodLink RX2 52 yX2_dated, Cond.instanceMethod yX2_dated, Cond.selects RX2 yX2_dated yX2_dated, Cond.code yX2_dated cX2_dated 4 (some .int), Cond.fieldLink RX2 7 "TalkRebuilderModel" "date" "[I", Cond.methodLink RX2 69 yX2_fits, Cond.instanceMethod yX2_fits, Cond.selects RX2 yX2_fits yX2_fits, Cond.code yX2_fits cX2_fits 3 (some .boolean), Cond.fieldLink RX2 25 "TalkRebuilderModel" "marks" "[I", Cond.fieldLink RX2 28 "TalkRebuilderModel" "words" "[I", Cond.methodLink RX2 95 yX2_kindOf, Cond.instanceMethod yX2_kindOf, Cond.selects RX2 yX2_kindOf yX2_kindOf]
def wsX2_asksAnswered_r3 : List Cond := [Cond.code yX2_kindOf cX2_kindOf 4 (some .char), Cond.methodLink RX2 89 yX2_signed, Cond.instanceMethod yX2_signed, Cond.selects RX2 yX2_signed yX2_signed, Cond.code yX2_signed cX2_signed 5 (some .int), Cond.fieldLink RX2 13 "TalkRebuilderModel" "author" "[I", Cond.methodLink RX2 86 yX2_endAlike, Cond.instanceMethod yX2_endAlike, Cond.selects RX2 yX2_endAlike yX2_endAlike, Cond.code yX2_endAlike cX2_endAlike 8 (some .boolean), Cond.methodLink RX2 92 yX2_stoodBefore, Cond.instanceMethod yX2_stoodBefore, Cond.selects RX2 yX2_stoodBefore yX2_stoodBefore, Cond.code yX2_stoodBefore cX2_stoodBefore 7 (some .boolean), Cond.methodLink RX2 99 yX2_answersOf, Cond.instanceMethod yX2_answersOf, Cond.selects RX2 yX2_answersOf yX2_answersOf, Cond.code yX2_answersOf cX2_answersOf 5 (some .int), Cond.methodLink RX2 82 yX2_origin, Cond.instanceMethod yX2_origin, Cond.selects RX2 yX2_origin yX2_origin, Cond.code yX2_origin cX2_origin 5 (some .int), Cond.methodLink RX2 59 yX2_tells, Cond.instanceMethod yX2_tells]
def wsX2_asksAnswered_r4 : List Cond := [Cond.selects RX2 yX2_tells yX2_tells, Cond.code yX2_tells cX2_tells 2 (some .int)]
def wsX2_asksAnswered : List Cond := .code yX2_asksAnswered cX2_asksAnswered 4 (some .int) :: ((wsX2_asksAnswered_r1 ++ (wsX2_asksAnswered_r2 ++ (wsX2_asksAnswered_r3 ++ wsX2_asksAnswered_r4))) ++ wsX20 ++ (vx_atM "java/lang/ArrayIndexOutOfBoundsException" ["java/lang/IndexOutOfBoundsException", "java/lang/RuntimeException", "java/lang/Exception"]).filter goodWord)
def wsX2_answersMail_r1 : List Cond := [Cond.fieldLink RX2 37 "TalkRebuilderModel" "thrown" "I", Cond.methodLink RX2 102 yX2_asksAnswered, Cond.instanceMethod yX2_asksAnswered, Cond.selects RX2 yX2_asksAnswered yX2_asksAnswered, Cond.initialized RX2, Cond.code yX2_asksAnswered cX2_asksAnswered 4 (some .int), Cond.methodLink RX2 62 yX2_isLine, Cond.instanceMethod yX2_isLine, Cond.selects RX2 yX2_isLine yX2_isLine, Cond.code yX2_isLine cX2_isLine 3 (some .boolean), Cond.fieldLink RX2 22 "TalkRebuilderModel" "many" "[I", Cond.methodLink RX2 48 yX2_isMail, Cond.instanceMethod yX2_isMail, Cond.selects RX2 yX2_isMail yX2_isMail, Cond.code yX2_isMail cX2_isMail 2 (some .boolean), Cond.fieldLink RX2 41 "TalkRebuilderModel" "mails" "I", Cond.methodLink RX2 44 yX2_in, Cond.static yX2_in, Cond.code yX2_in cX2_in 3 (some .boolean), Cond.methodLink RX2 56 yX2_fails, Cond.instanceMethod yX2_fails, Cond.selects RX2 yX2_fails yX2_fails, Cond.code yX2_fails cX2_fails 2 (some .int), Cond.methodLink RX2 79 yX2_alignsAll]
def wsX2_answersMail_r2 : List Cond := [Cond.instanceMethod yX2_alignsAll, Cond.selects RX2 yX2_alignsAll yX2_alignsAll, Cond.code yX2_alignsAll cX2_alignsAll 2 none, Cond.methodLink RX2 72 yX2_aligns, Cond.instanceMethod yX2_aligns, Cond.selects RX2 yX2_aligns yX2_aligns, Cond.code yX2_aligns cX2_aligns 9 none, Cond.fieldLink RX2 34 "TalkRebuilderModel" "best" "[I", Cond.fieldLink RX2 31 "TalkRebuilderModel" "partnerOf" "[I", Cond.methodLink RX2 66 yX2_parentOf, Cond.instanceMethod yX2_parentOf, Cond.selects RX2 yX2_parentOf yX2_parentOf, Cond.code yX2_parentOf cX2_parentOf 2 (some .int), Cond.fieldLink RX2 19 "TalkRebuilderModel" "answered" "[I", Cond.methodLink RX2 52 yX2_dated, Cond.instanceMethod yX2_dated, Cond.selects RX2 yX2_dated yX2_dated, Cond.code yX2_dated cX2_dated 4 (some .int), Cond.fieldLink RX2 7 "TalkRebuilderModel" "date" "[I", Cond.methodLink RX2 69 yX2_fits, Cond.instanceMethod yX2_fits, Cond.selects RX2 yX2_fits yX2_fits, Cond.code yX2_fits cX2_fits 3 (some .boolean), Cond.fieldLink RX2 25 "TalkRebuilderModel" "marks" "[I"]
def wsX2_answersMail_r3 : List Cond := [Cond.fieldLink RX2 28 "TalkRebuilderModel" "words" "[I", Cond.methodLink RX2 95 yX2_kindOf, Cond.instanceMethod yX2_kindOf, Cond.selects RX2 yX2_kindOf yX2_kindOf, Cond.code yX2_kindOf cX2_kindOf 4 (some .char), Cond.methodLink RX2 89 yX2_signed, Cond.instanceMethod yX2_signed, Cond.selects RX2 yX2_signed yX2_signed, Cond.code yX2_signed cX2_signed 5 (some .int), Cond.fieldLink RX2 13 "TalkRebuilderModel" "author" "[I", Cond.methodLink RX2 86 yX2_endAlike, Cond.instanceMethod yX2_endAlike, Cond.selects RX2 yX2_endAlike yX2_endAlike, Cond.code yX2_endAlike cX2_endAlike 8 (some .boolean), Cond.methodLink RX2 92 yX2_stoodBefore, Cond.instanceMethod yX2_stoodBefore, Cond.selects RX2 yX2_stoodBefore yX2_stoodBefore, Cond.code yX2_stoodBefore cX2_stoodBefore 7 (some .boolean), Cond.methodLink RX2 99 yX2_answersOf, Cond.instanceMethod yX2_answersOf, Cond.selects RX2 yX2_answersOf yX2_answersOf, Cond.code yX2_answersOf cX2_answersOf 5 (some .int), Cond.methodLink RX2 82 yX2_origin, Cond.instanceMethod yX2_origin]
def wsX2_answersMail_r4 : List Cond := [Cond.selects RX2 yX2_origin yX2_origin, Cond.code yX2_origin cX2_origin 5 (some .int), Cond.methodLink RX2 59 yX2_tells, Cond.instanceMethod yX2_tells, Cond.selects RX2 yX2_tells yX2_tells, Cond.code yX2_tells cX2_tells 2 (some .int)]
def wsX2_answersMail : List Cond := .code yX2_answersMail cX2_answersMail 4 (some .int) :: ((wsX2_answersMail_r1 ++ (wsX2_answersMail_r2 ++ (wsX2_answersMail_r3 ++ wsX2_answersMail_r4))) ++ wsX20 ++ (vx_atM "java/lang/ArrayIndexOutOfBoundsException" ["java/lang/IndexOutOfBoundsException", "java/lang/RuntimeException", "java/lang/Exception"]).filter goodWord)
def wsX2_answersLine_r1 : List Cond := [Cond.fieldLink RX2 37 "TalkRebuilderModel" "thrown" "I", Cond.methodLink RX2 102 yX2_asksAnswered, Cond.instanceMethod yX2_asksAnswered, Cond.selects RX2 yX2_asksAnswered yX2_asksAnswered, Cond.initialized RX2, Cond.code yX2_asksAnswered cX2_asksAnswered 4 (some .int), Cond.methodLink RX2 62 yX2_isLine, Cond.instanceMethod yX2_isLine, Cond.selects RX2 yX2_isLine yX2_isLine, Cond.code yX2_isLine cX2_isLine 3 (some .boolean), Cond.fieldLink RX2 22 "TalkRebuilderModel" "many" "[I", Cond.methodLink RX2 48 yX2_isMail, Cond.instanceMethod yX2_isMail, Cond.selects RX2 yX2_isMail yX2_isMail, Cond.code yX2_isMail cX2_isMail 2 (some .boolean), Cond.fieldLink RX2 41 "TalkRebuilderModel" "mails" "I", Cond.methodLink RX2 44 yX2_in, Cond.static yX2_in, Cond.code yX2_in cX2_in 3 (some .boolean), Cond.methodLink RX2 56 yX2_fails, Cond.instanceMethod yX2_fails, Cond.selects RX2 yX2_fails yX2_fails, Cond.code yX2_fails cX2_fails 2 (some .int), Cond.methodLink RX2 79 yX2_alignsAll]
def wsX2_answersLine_r2 : List Cond := [Cond.instanceMethod yX2_alignsAll, Cond.selects RX2 yX2_alignsAll yX2_alignsAll, Cond.code yX2_alignsAll cX2_alignsAll 2 none, Cond.methodLink RX2 72 yX2_aligns, Cond.instanceMethod yX2_aligns, Cond.selects RX2 yX2_aligns yX2_aligns, Cond.code yX2_aligns cX2_aligns 9 none, Cond.fieldLink RX2 34 "TalkRebuilderModel" "best" "[I", Cond.fieldLink RX2 31 "TalkRebuilderModel" "partnerOf" "[I", Cond.methodLink RX2 66 yX2_parentOf, Cond.instanceMethod yX2_parentOf, Cond.selects RX2 yX2_parentOf yX2_parentOf, Cond.code yX2_parentOf cX2_parentOf 2 (some .int), Cond.fieldLink RX2 19 "TalkRebuilderModel" "answered" "[I", Cond.methodLink RX2 52 yX2_dated, Cond.instanceMethod yX2_dated, Cond.selects RX2 yX2_dated yX2_dated, Cond.code yX2_dated cX2_dated 4 (some .int), Cond.fieldLink RX2 7 "TalkRebuilderModel" "date" "[I", Cond.methodLink RX2 69 yX2_fits, Cond.instanceMethod yX2_fits, Cond.selects RX2 yX2_fits yX2_fits, Cond.code yX2_fits cX2_fits 3 (some .boolean), Cond.fieldLink RX2 25 "TalkRebuilderModel" "marks" "[I"]
def wsX2_answersLine_r3 : List Cond := [Cond.fieldLink RX2 28 "TalkRebuilderModel" "words" "[I", Cond.methodLink RX2 95 yX2_kindOf, Cond.instanceMethod yX2_kindOf, Cond.selects RX2 yX2_kindOf yX2_kindOf, Cond.code yX2_kindOf cX2_kindOf 4 (some .char), Cond.methodLink RX2 89 yX2_signed, Cond.instanceMethod yX2_signed, Cond.selects RX2 yX2_signed yX2_signed, Cond.code yX2_signed cX2_signed 5 (some .int), Cond.fieldLink RX2 13 "TalkRebuilderModel" "author" "[I", Cond.methodLink RX2 86 yX2_endAlike, Cond.instanceMethod yX2_endAlike, Cond.selects RX2 yX2_endAlike yX2_endAlike, Cond.code yX2_endAlike cX2_endAlike 8 (some .boolean), Cond.methodLink RX2 92 yX2_stoodBefore, Cond.instanceMethod yX2_stoodBefore, Cond.selects RX2 yX2_stoodBefore yX2_stoodBefore, Cond.code yX2_stoodBefore cX2_stoodBefore 7 (some .boolean), Cond.methodLink RX2 99 yX2_answersOf, Cond.instanceMethod yX2_answersOf, Cond.selects RX2 yX2_answersOf yX2_answersOf, Cond.code yX2_answersOf cX2_answersOf 5 (some .int), Cond.methodLink RX2 82 yX2_origin, Cond.instanceMethod yX2_origin]
def wsX2_answersLine_r4 : List Cond := [Cond.selects RX2 yX2_origin yX2_origin, Cond.code yX2_origin cX2_origin 5 (some .int), Cond.methodLink RX2 59 yX2_tells, Cond.instanceMethod yX2_tells, Cond.selects RX2 yX2_tells yX2_tells, Cond.code yX2_tells cX2_tells 2 (some .int)]
def wsX2_answersLine : List Cond := .code yX2_answersLine cX2_answersLine 4 (some .int) :: ((wsX2_answersLine_r1 ++ (wsX2_answersLine_r2 ++ (wsX2_answersLine_r3 ++ wsX2_answersLine_r4))) ++ wsX20 ++ (vx_atM "java/lang/ArrayIndexOutOfBoundsException" ["java/lang/IndexOutOfBoundsException", "java/lang/RuntimeException", "java/lang/Exception"]).filter goodWord)
def wsX2_answers_r1 : List Cond := [Cond.fieldLink RX2 41 "TalkRebuilderModel" "mails" "I", Cond.fieldLink RX2 22 "TalkRebuilderModel" "many" "[I", Cond.methodLink RX2 62 yX2_isLine, Cond.instanceMethod yX2_isLine, Cond.selects RX2 yX2_isLine yX2_isLine, Cond.initialized RX2, Cond.code yX2_isLine cX2_isLine 3 (some .boolean), Cond.methodLink RX2 48 yX2_isMail, Cond.instanceMethod yX2_isMail, Cond.selects RX2 yX2_isMail yX2_isMail, Cond.code yX2_isMail cX2_isMail 2 (some .boolean), Cond.methodLink RX2 44 yX2_in, Cond.static yX2_in, Cond.code yX2_in cX2_in 3 (some .boolean), Cond.methodLink RX2 56 yX2_fails, Cond.instanceMethod yX2_fails, Cond.selects RX2 yX2_fails yX2_fails, Cond.code yX2_fails cX2_fails 2 (some .int), Cond.fieldLink RX2 37 "TalkRebuilderModel" "thrown" "I", Cond.methodLink RX2 79 yX2_alignsAll, Cond.instanceMethod yX2_alignsAll, Cond.selects RX2 yX2_alignsAll yX2_alignsAll, Cond.code yX2_alignsAll cX2_alignsAll 2 none, Cond.methodLink RX2 72 yX2_aligns]
def wsX2_answers_r2 : List Cond := [Cond.instanceMethod yX2_aligns, Cond.selects RX2 yX2_aligns yX2_aligns, Cond.code yX2_aligns cX2_aligns 9 none, Cond.fieldLink RX2 34 "TalkRebuilderModel" "best" "[I", Cond.fieldLink RX2 31 "TalkRebuilderModel" "partnerOf" "[I", Cond.methodLink RX2 66 yX2_parentOf, Cond.instanceMethod yX2_parentOf, Cond.selects RX2 yX2_parentOf yX2_parentOf, Cond.code yX2_parentOf cX2_parentOf 2 (some .int), Cond.fieldLink RX2 19 "TalkRebuilderModel" "answered" "[I", Cond.methodLink RX2 52 yX2_dated, Cond.instanceMethod yX2_dated, Cond.selects RX2 yX2_dated yX2_dated, Cond.code yX2_dated cX2_dated 4 (some .int), Cond.fieldLink RX2 7 "TalkRebuilderModel" "date" "[I", Cond.methodLink RX2 69 yX2_fits, Cond.instanceMethod yX2_fits, Cond.selects RX2 yX2_fits yX2_fits, Cond.code yX2_fits cX2_fits 3 (some .boolean), Cond.fieldLink RX2 25 "TalkRebuilderModel" "marks" "[I", Cond.fieldLink RX2 28 "TalkRebuilderModel" "words" "[I", Cond.methodLink RX2 95 yX2_kindOf, Cond.instanceMethod yX2_kindOf, Cond.selects RX2 yX2_kindOf yX2_kindOf]
def wsX2_answers_r3 : List Cond := [Cond.code yX2_kindOf cX2_kindOf 4 (some .char), Cond.methodLink RX2 89 yX2_signed, Cond.instanceMethod yX2_signed, Cond.selects RX2 yX2_signed yX2_signed, Cond.code yX2_signed cX2_signed 5 (some .int), Cond.fieldLink RX2 13 "TalkRebuilderModel" "author" "[I", Cond.methodLink RX2 86 yX2_endAlike, Cond.instanceMethod yX2_endAlike, Cond.selects RX2 yX2_endAlike yX2_endAlike, Cond.code yX2_endAlike cX2_endAlike 8 (some .boolean), Cond.methodLink RX2 92 yX2_stoodBefore, Cond.instanceMethod yX2_stoodBefore, Cond.selects RX2 yX2_stoodBefore yX2_stoodBefore, Cond.code yX2_stoodBefore cX2_stoodBefore 7 (some .boolean), Cond.methodLink RX2 99 yX2_answersOf, Cond.instanceMethod yX2_answersOf, Cond.selects RX2 yX2_answersOf yX2_answersOf, Cond.code yX2_answersOf cX2_answersOf 5 (some .int), Cond.methodLink RX2 82 yX2_origin, Cond.instanceMethod yX2_origin, Cond.selects RX2 yX2_origin yX2_origin, Cond.code yX2_origin cX2_origin 5 (some .int), Cond.methodLink RX2 59 yX2_tells, Cond.instanceMethod yX2_tells]
def wsX2_answers_r4 : List Cond := [Cond.selects RX2 yX2_tells yX2_tells, Cond.code yX2_tells cX2_tells 2 (some .int)]
def wsX2_answers : List Cond := .code yX2_answers cX2_answers 6 (some .int) :: ((wsX2_answers_r1 ++ (wsX2_answers_r2 ++ (wsX2_answers_r3 ++ wsX2_answers_r4))) ++ wsX20 ++ (vx_atM "java/lang/ArrayIndexOutOfBoundsException" ["java/lang/IndexOutOfBoundsException", "java/lang/RuntimeException", "java/lang/Exception"]).filter goodWord)
def wsX2_talkOf_r1 : List Cond := [Cond.fieldLink RX2 41 "TalkRebuilderModel" "mails" "I", Cond.fieldLink RX2 22 "TalkRebuilderModel" "many" "[I", Cond.methodLink RX2 79 yX2_alignsAll, Cond.instanceMethod yX2_alignsAll, Cond.selects RX2 yX2_alignsAll yX2_alignsAll, Cond.initialized RX2, Cond.code yX2_alignsAll cX2_alignsAll 2 none, Cond.methodLink RX2 72 yX2_aligns, Cond.instanceMethod yX2_aligns, Cond.selects RX2 yX2_aligns yX2_aligns, Cond.code yX2_aligns cX2_aligns 9 none, Cond.fieldLink RX2 34 "TalkRebuilderModel" "best" "[I", Cond.fieldLink RX2 31 "TalkRebuilderModel" "partnerOf" "[I", Cond.methodLink RX2 66 yX2_parentOf, Cond.instanceMethod yX2_parentOf, Cond.selects RX2 yX2_parentOf yX2_parentOf, Cond.code yX2_parentOf cX2_parentOf 2 (some .int), Cond.fieldLink RX2 19 "TalkRebuilderModel" "answered" "[I", Cond.methodLink RX2 52 yX2_dated, Cond.instanceMethod yX2_dated, Cond.selects RX2 yX2_dated yX2_dated, Cond.code yX2_dated cX2_dated 4 (some .int), Cond.fieldLink RX2 7 "TalkRebuilderModel" "date" "[I", Cond.methodLink RX2 69 yX2_fits]
def wsX2_talkOf_r2 : List Cond := [Cond.instanceMethod yX2_fits, Cond.selects RX2 yX2_fits yX2_fits, Cond.code yX2_fits cX2_fits 3 (some .boolean), Cond.fieldLink RX2 25 "TalkRebuilderModel" "marks" "[I", Cond.fieldLink RX2 28 "TalkRebuilderModel" "words" "[I", Cond.methodLink RX2 105 yX2_isTalk, Cond.instanceMethod yX2_isTalk, Cond.selects RX2 yX2_isTalk yX2_isTalk, Cond.code yX2_isTalk cX2_isTalk 3 (some .boolean), Cond.methodLink RX2 95 yX2_kindOf, Cond.instanceMethod yX2_kindOf, Cond.selects RX2 yX2_kindOf yX2_kindOf, Cond.code yX2_kindOf cX2_kindOf 4 (some .char), Cond.methodLink RX2 89 yX2_signed, Cond.instanceMethod yX2_signed, Cond.selects RX2 yX2_signed yX2_signed, Cond.code yX2_signed cX2_signed 5 (some .int), Cond.fieldLink RX2 13 "TalkRebuilderModel" "author" "[I", Cond.methodLink RX2 86 yX2_endAlike, Cond.instanceMethod yX2_endAlike, Cond.selects RX2 yX2_endAlike yX2_endAlike, Cond.code yX2_endAlike cX2_endAlike 8 (some .boolean), Cond.methodLink RX2 92 yX2_stoodBefore, Cond.instanceMethod yX2_stoodBefore]
def wsX2_talkOf_r3 : List Cond := [Cond.selects RX2 yX2_stoodBefore yX2_stoodBefore, Cond.code yX2_stoodBefore cX2_stoodBefore 7 (some .boolean)]
def wsX2_talkOf : List Cond := .code yX2_talkOf cX2_talkOf 4 (some .int) :: ((wsX2_talkOf_r1 ++ (wsX2_talkOf_r2 ++ wsX2_talkOf_r3)) ++ wsX20 ++ (vx_atM "java/lang/ArrayIndexOutOfBoundsException" ["java/lang/IndexOutOfBoundsException", "java/lang/RuntimeException", "java/lang/Exception"]).filter goodWord)
def wsX2_talk_r1 : List Cond := [Cond.methodLink RX2 108 yX2_talkOf, Cond.instanceMethod yX2_talkOf, Cond.selects RX2 yX2_talkOf yX2_talkOf, Cond.initialized RX2, Cond.code yX2_talkOf cX2_talkOf 4 (some .int), Cond.fieldLink RX2 41 "TalkRebuilderModel" "mails" "I", Cond.fieldLink RX2 22 "TalkRebuilderModel" "many" "[I", Cond.methodLink RX2 79 yX2_alignsAll, Cond.instanceMethod yX2_alignsAll, Cond.selects RX2 yX2_alignsAll yX2_alignsAll, Cond.code yX2_alignsAll cX2_alignsAll 2 none, Cond.methodLink RX2 72 yX2_aligns, Cond.instanceMethod yX2_aligns, Cond.selects RX2 yX2_aligns yX2_aligns, Cond.code yX2_aligns cX2_aligns 9 none, Cond.fieldLink RX2 34 "TalkRebuilderModel" "best" "[I", Cond.fieldLink RX2 31 "TalkRebuilderModel" "partnerOf" "[I", Cond.methodLink RX2 66 yX2_parentOf, Cond.instanceMethod yX2_parentOf, Cond.selects RX2 yX2_parentOf yX2_parentOf, Cond.code yX2_parentOf cX2_parentOf 2 (some .int), Cond.fieldLink RX2 19 "TalkRebuilderModel" "answered" "[I", Cond.methodLink RX2 52 yX2_dated, Cond.instanceMethod yX2_dated]
def wsX2_talk_r2 : List Cond := [Cond.selects RX2 yX2_dated yX2_dated, Cond.code yX2_dated cX2_dated 4 (some .int), Cond.fieldLink RX2 7 "TalkRebuilderModel" "date" "[I", Cond.methodLink RX2 69 yX2_fits, Cond.instanceMethod yX2_fits, Cond.selects RX2 yX2_fits yX2_fits, Cond.code yX2_fits cX2_fits 3 (some .boolean), Cond.fieldLink RX2 25 "TalkRebuilderModel" "marks" "[I", Cond.fieldLink RX2 28 "TalkRebuilderModel" "words" "[I", Cond.methodLink RX2 105 yX2_isTalk, Cond.instanceMethod yX2_isTalk, Cond.selects RX2 yX2_isTalk yX2_isTalk, Cond.code yX2_isTalk cX2_isTalk 3 (some .boolean), Cond.methodLink RX2 95 yX2_kindOf, Cond.instanceMethod yX2_kindOf, Cond.selects RX2 yX2_kindOf yX2_kindOf, Cond.code yX2_kindOf cX2_kindOf 4 (some .char), Cond.methodLink RX2 89 yX2_signed, Cond.instanceMethod yX2_signed, Cond.selects RX2 yX2_signed yX2_signed, Cond.code yX2_signed cX2_signed 5 (some .int), Cond.fieldLink RX2 13 "TalkRebuilderModel" "author" "[I", Cond.methodLink RX2 86 yX2_endAlike, Cond.instanceMethod yX2_endAlike]
def wsX2_talk_r3 : List Cond := [Cond.selects RX2 yX2_endAlike yX2_endAlike, Cond.code yX2_endAlike cX2_endAlike 8 (some .boolean), Cond.methodLink RX2 92 yX2_stoodBefore, Cond.instanceMethod yX2_stoodBefore, Cond.selects RX2 yX2_stoodBefore yX2_stoodBefore, Cond.code yX2_stoodBefore cX2_stoodBefore 7 (some .boolean), Cond.methodLink RX2 59 yX2_tells, Cond.instanceMethod yX2_tells, Cond.selects RX2 yX2_tells yX2_tells, Cond.code yX2_tells cX2_tells 2 (some .int), Cond.fieldLink RX2 37 "TalkRebuilderModel" "thrown" "I"]
def wsX2_talk : List Cond := .code yX2_talk cX2_talk 1 (some .int) :: ((wsX2_talk_r1 ++ (wsX2_talk_r2 ++ wsX2_talk_r3)) ++ wsX20 ++ (vx_atM "java/lang/ArrayIndexOutOfBoundsException" ["java/lang/IndexOutOfBoundsException", "java/lang/RuntimeException", "java/lang/Exception"]).filter goodWord)
def wsX2_talkByOrigins_r1 : List Cond := [Cond.methodLink RX2 108 yX2_talkOf, Cond.instanceMethod yX2_talkOf, Cond.selects RX2 yX2_talkOf yX2_talkOf, Cond.initialized RX2, Cond.code yX2_talkOf cX2_talkOf 4 (some .int), Cond.fieldLink RX2 41 "TalkRebuilderModel" "mails" "I", Cond.fieldLink RX2 22 "TalkRebuilderModel" "many" "[I", Cond.methodLink RX2 79 yX2_alignsAll, Cond.instanceMethod yX2_alignsAll, Cond.selects RX2 yX2_alignsAll yX2_alignsAll, Cond.code yX2_alignsAll cX2_alignsAll 2 none, Cond.methodLink RX2 72 yX2_aligns, Cond.instanceMethod yX2_aligns, Cond.selects RX2 yX2_aligns yX2_aligns, Cond.code yX2_aligns cX2_aligns 9 none, Cond.fieldLink RX2 34 "TalkRebuilderModel" "best" "[I", Cond.fieldLink RX2 31 "TalkRebuilderModel" "partnerOf" "[I", Cond.methodLink RX2 66 yX2_parentOf, Cond.instanceMethod yX2_parentOf, Cond.selects RX2 yX2_parentOf yX2_parentOf, Cond.code yX2_parentOf cX2_parentOf 2 (some .int), Cond.fieldLink RX2 19 "TalkRebuilderModel" "answered" "[I", Cond.methodLink RX2 52 yX2_dated, Cond.instanceMethod yX2_dated]
def wsX2_talkByOrigins_r2 : List Cond := [Cond.selects RX2 yX2_dated yX2_dated, Cond.code yX2_dated cX2_dated 4 (some .int), Cond.fieldLink RX2 7 "TalkRebuilderModel" "date" "[I", Cond.methodLink RX2 69 yX2_fits, Cond.instanceMethod yX2_fits, Cond.selects RX2 yX2_fits yX2_fits, Cond.code yX2_fits cX2_fits 3 (some .boolean), Cond.fieldLink RX2 25 "TalkRebuilderModel" "marks" "[I", Cond.fieldLink RX2 28 "TalkRebuilderModel" "words" "[I", Cond.methodLink RX2 105 yX2_isTalk, Cond.instanceMethod yX2_isTalk, Cond.selects RX2 yX2_isTalk yX2_isTalk, Cond.code yX2_isTalk cX2_isTalk 3 (some .boolean), Cond.methodLink RX2 95 yX2_kindOf, Cond.instanceMethod yX2_kindOf, Cond.selects RX2 yX2_kindOf yX2_kindOf, Cond.code yX2_kindOf cX2_kindOf 4 (some .char), Cond.methodLink RX2 89 yX2_signed, Cond.instanceMethod yX2_signed, Cond.selects RX2 yX2_signed yX2_signed, Cond.code yX2_signed cX2_signed 5 (some .int), Cond.fieldLink RX2 13 "TalkRebuilderModel" "author" "[I", Cond.methodLink RX2 86 yX2_endAlike, Cond.instanceMethod yX2_endAlike]
def wsX2_talkByOrigins_r3 : List Cond := [Cond.selects RX2 yX2_endAlike yX2_endAlike, Cond.code yX2_endAlike cX2_endAlike 8 (some .boolean), Cond.methodLink RX2 92 yX2_stoodBefore, Cond.instanceMethod yX2_stoodBefore, Cond.selects RX2 yX2_stoodBefore yX2_stoodBefore, Cond.code yX2_stoodBefore cX2_stoodBefore 7 (some .boolean), Cond.methodLink RX2 59 yX2_tells, Cond.instanceMethod yX2_tells, Cond.selects RX2 yX2_tells yX2_tells, Cond.code yX2_tells cX2_tells 2 (some .int), Cond.fieldLink RX2 37 "TalkRebuilderModel" "thrown" "I"]
def wsX2_talkByOrigins : List Cond := .code yX2_talkByOrigins cX2_talkByOrigins 1 (some .int) :: ((wsX2_talkByOrigins_r1 ++ (wsX2_talkByOrigins_r2 ++ wsX2_talkByOrigins_r3)) ++ wsX20 ++ (vx_atM "java/lang/ArrayIndexOutOfBoundsException" ["java/lang/IndexOutOfBoundsException", "java/lang/RuntimeException", "java/lang/Exception"]).filter goodWord)
def wsX2_copies_r1 : List Cond := [Cond.fieldLink RX2 41 "TalkRebuilderModel" "mails" "I", Cond.fieldLink RX2 22 "TalkRebuilderModel" "many" "[I", Cond.methodLink RX2 62 yX2_isLine, Cond.instanceMethod yX2_isLine, Cond.selects RX2 yX2_isLine yX2_isLine, Cond.initialized RX2, Cond.code yX2_isLine cX2_isLine 3 (some .boolean), Cond.methodLink RX2 48 yX2_isMail, Cond.instanceMethod yX2_isMail, Cond.selects RX2 yX2_isMail yX2_isMail, Cond.code yX2_isMail cX2_isMail 2 (some .boolean), Cond.methodLink RX2 44 yX2_in, Cond.static yX2_in, Cond.code yX2_in cX2_in 3 (some .boolean), Cond.methodLink RX2 56 yX2_fails, Cond.instanceMethod yX2_fails, Cond.selects RX2 yX2_fails yX2_fails, Cond.code yX2_fails cX2_fails 2 (some .int), Cond.fieldLink RX2 37 "TalkRebuilderModel" "thrown" "I", Cond.methodLink RX2 79 yX2_alignsAll, Cond.instanceMethod yX2_alignsAll, Cond.selects RX2 yX2_alignsAll yX2_alignsAll, Cond.code yX2_alignsAll cX2_alignsAll 2 none, Cond.methodLink RX2 72 yX2_aligns]
def wsX2_copies_r2 : List Cond := [Cond.instanceMethod yX2_aligns, Cond.selects RX2 yX2_aligns yX2_aligns, Cond.code yX2_aligns cX2_aligns 9 none, Cond.fieldLink RX2 34 "TalkRebuilderModel" "best" "[I", Cond.fieldLink RX2 31 "TalkRebuilderModel" "partnerOf" "[I", Cond.methodLink RX2 66 yX2_parentOf, Cond.instanceMethod yX2_parentOf, Cond.selects RX2 yX2_parentOf yX2_parentOf, Cond.code yX2_parentOf cX2_parentOf 2 (some .int), Cond.fieldLink RX2 19 "TalkRebuilderModel" "answered" "[I", Cond.methodLink RX2 52 yX2_dated, Cond.instanceMethod yX2_dated, Cond.selects RX2 yX2_dated yX2_dated, Cond.code yX2_dated cX2_dated 4 (some .int), Cond.fieldLink RX2 7 "TalkRebuilderModel" "date" "[I", Cond.methodLink RX2 69 yX2_fits, Cond.instanceMethod yX2_fits, Cond.selects RX2 yX2_fits yX2_fits, Cond.code yX2_fits cX2_fits 3 (some .boolean), Cond.fieldLink RX2 25 "TalkRebuilderModel" "marks" "[I", Cond.fieldLink RX2 28 "TalkRebuilderModel" "words" "[I", Cond.methodLink RX2 105 yX2_isTalk, Cond.instanceMethod yX2_isTalk, Cond.selects RX2 yX2_isTalk yX2_isTalk]
def wsX2_copies_r3 : List Cond := [Cond.code yX2_isTalk cX2_isTalk 3 (some .boolean), Cond.methodLink RX2 95 yX2_kindOf, Cond.instanceMethod yX2_kindOf, Cond.selects RX2 yX2_kindOf yX2_kindOf, Cond.code yX2_kindOf cX2_kindOf 4 (some .char), Cond.methodLink RX2 89 yX2_signed, Cond.instanceMethod yX2_signed, Cond.selects RX2 yX2_signed yX2_signed, Cond.code yX2_signed cX2_signed 5 (some .int), Cond.fieldLink RX2 13 "TalkRebuilderModel" "author" "[I", Cond.methodLink RX2 86 yX2_endAlike, Cond.instanceMethod yX2_endAlike, Cond.selects RX2 yX2_endAlike yX2_endAlike, Cond.code yX2_endAlike cX2_endAlike 8 (some .boolean), Cond.methodLink RX2 92 yX2_stoodBefore, Cond.instanceMethod yX2_stoodBefore, Cond.selects RX2 yX2_stoodBefore yX2_stoodBefore, Cond.code yX2_stoodBefore cX2_stoodBefore 7 (some .boolean), Cond.methodLink RX2 82 yX2_origin, Cond.instanceMethod yX2_origin, Cond.selects RX2 yX2_origin yX2_origin, Cond.code yX2_origin cX2_origin 5 (some .int), Cond.methodLink RX2 59 yX2_tells, Cond.instanceMethod yX2_tells]
def wsX2_copies_r4 : List Cond := [Cond.selects RX2 yX2_tells yX2_tells, Cond.code yX2_tells cX2_tells 2 (some .int)]
def wsX2_copies : List Cond := .code yX2_copies cX2_copies 6 (some .int) :: ((wsX2_copies_r1 ++ (wsX2_copies_r2 ++ (wsX2_copies_r3 ++ wsX2_copies_r4))) ++ wsX20 ++ (vx_atM "java/lang/ArrayIndexOutOfBoundsException" ["java/lang/IndexOutOfBoundsException", "java/lang/RuntimeException", "java/lang/Exception"]).filter goodWord)
def wsX2_rootOf : List Cond := .code yX2_rootOf cX2_rootOf 3 (some .int) :: ([.fieldLink RX2 16 "TalkRebuilderModel" "subject" "[I", .methodLink RX2 66 yX2_parentOf, .instanceMethod yX2_parentOf, .selects RX2 yX2_parentOf yX2_parentOf, .initialized RX2, .code yX2_parentOf cX2_parentOf 2 (some .int), .fieldLink RX2 19 "TalkRebuilderModel" "answered" "[I", .methodLink RX2 52 yX2_dated, .instanceMethod yX2_dated, .selects RX2 yX2_dated yX2_dated, .code yX2_dated cX2_dated 4 (some .int), .fieldLink RX2 41 "TalkRebuilderModel" "mails" "I", .fieldLink RX2 7 "TalkRebuilderModel" "date" "[I"] ++ wsX20 ++ (vx_atM "java/lang/ArrayIndexOutOfBoundsException" ["java/lang/IndexOutOfBoundsException", "java/lang/RuntimeException", "java/lang/Exception"]).filter goodWord)
def wsX2_root_r1 : List Cond := [Cond.methodLink RX2 48 yX2_isMail, Cond.instanceMethod yX2_isMail, Cond.selects RX2 yX2_isMail yX2_isMail, Cond.initialized RX2, Cond.code yX2_isMail cX2_isMail 2 (some .boolean), Cond.fieldLink RX2 41 "TalkRebuilderModel" "mails" "I", Cond.methodLink RX2 44 yX2_in, Cond.static yX2_in, Cond.code yX2_in cX2_in 3 (some .boolean), Cond.methodLink RX2 112 yX2_rootOf, Cond.instanceMethod yX2_rootOf, Cond.selects RX2 yX2_rootOf yX2_rootOf, Cond.code yX2_rootOf cX2_rootOf 3 (some .int), Cond.fieldLink RX2 16 "TalkRebuilderModel" "subject" "[I", Cond.methodLink RX2 66 yX2_parentOf, Cond.instanceMethod yX2_parentOf, Cond.selects RX2 yX2_parentOf yX2_parentOf, Cond.code yX2_parentOf cX2_parentOf 2 (some .int), Cond.fieldLink RX2 19 "TalkRebuilderModel" "answered" "[I", Cond.methodLink RX2 52 yX2_dated, Cond.instanceMethod yX2_dated, Cond.selects RX2 yX2_dated yX2_dated, Cond.code yX2_dated cX2_dated 4 (some .int), Cond.fieldLink RX2 7 "TalkRebuilderModel" "date" "[I"]
def wsX2_root_r2 : List Cond := [Cond.methodLink RX2 59 yX2_tells, Cond.instanceMethod yX2_tells, Cond.selects RX2 yX2_tells yX2_tells, Cond.code yX2_tells cX2_tells 2 (some .int), Cond.fieldLink RX2 37 "TalkRebuilderModel" "thrown" "I", Cond.methodLink RX2 56 yX2_fails, Cond.instanceMethod yX2_fails, Cond.selects RX2 yX2_fails yX2_fails, Cond.code yX2_fails cX2_fails 2 (some .int)]
def wsX2_root : List Cond := .code yX2_root cX2_root 2 (some .int) :: ((wsX2_root_r1 ++ wsX2_root_r2) ++ wsX20 ++ (vx_atM "java/lang/ArrayIndexOutOfBoundsException" ["java/lang/IndexOutOfBoundsException", "java/lang/RuntimeException", "java/lang/Exception"]).filter goodWord)
def wsX2_rootByRounds_r1 : List Cond := [Cond.methodLink RX2 48 yX2_isMail, Cond.instanceMethod yX2_isMail, Cond.selects RX2 yX2_isMail yX2_isMail, Cond.initialized RX2, Cond.code yX2_isMail cX2_isMail 2 (some .boolean), Cond.fieldLink RX2 41 "TalkRebuilderModel" "mails" "I", Cond.methodLink RX2 44 yX2_in, Cond.static yX2_in, Cond.code yX2_in cX2_in 3 (some .boolean), Cond.methodLink RX2 112 yX2_rootOf, Cond.instanceMethod yX2_rootOf, Cond.selects RX2 yX2_rootOf yX2_rootOf, Cond.code yX2_rootOf cX2_rootOf 3 (some .int), Cond.fieldLink RX2 16 "TalkRebuilderModel" "subject" "[I", Cond.methodLink RX2 66 yX2_parentOf, Cond.instanceMethod yX2_parentOf, Cond.selects RX2 yX2_parentOf yX2_parentOf, Cond.code yX2_parentOf cX2_parentOf 2 (some .int), Cond.fieldLink RX2 19 "TalkRebuilderModel" "answered" "[I", Cond.methodLink RX2 52 yX2_dated, Cond.instanceMethod yX2_dated, Cond.selects RX2 yX2_dated yX2_dated, Cond.code yX2_dated cX2_dated 4 (some .int), Cond.fieldLink RX2 7 "TalkRebuilderModel" "date" "[I"]
def wsX2_rootByRounds_r2 : List Cond := [Cond.methodLink RX2 59 yX2_tells, Cond.instanceMethod yX2_tells, Cond.selects RX2 yX2_tells yX2_tells, Cond.code yX2_tells cX2_tells 2 (some .int), Cond.fieldLink RX2 37 "TalkRebuilderModel" "thrown" "I", Cond.methodLink RX2 56 yX2_fails, Cond.instanceMethod yX2_fails, Cond.selects RX2 yX2_fails yX2_fails, Cond.code yX2_fails cX2_fails 2 (some .int)]
def wsX2_rootByRounds : List Cond := .code yX2_rootByRounds cX2_rootByRounds 2 (some .int) :: ((wsX2_rootByRounds_r1 ++ wsX2_rootByRounds_r2) ++ wsX20 ++ (vx_atM "java/lang/ArrayIndexOutOfBoundsException" ["java/lang/IndexOutOfBoundsException", "java/lang/RuntimeException", "java/lang/Exception"]).filter goodWord)
def wsX2_heads : List Cond := .code yX2_heads cX2_heads 3 (some .int) :: ([.fieldLink RX2 41 "TalkRebuilderModel" "mails" "I", .methodLink RX2 112 yX2_rootOf, .instanceMethod yX2_rootOf, .selects RX2 yX2_rootOf yX2_rootOf, .initialized RX2, .code yX2_rootOf cX2_rootOf 3 (some .int), .fieldLink RX2 16 "TalkRebuilderModel" "subject" "[I", .methodLink RX2 66 yX2_parentOf, .instanceMethod yX2_parentOf, .selects RX2 yX2_parentOf yX2_parentOf, .code yX2_parentOf cX2_parentOf 2 (some .int), .fieldLink RX2 19 "TalkRebuilderModel" "answered" "[I", .methodLink RX2 52 yX2_dated, .instanceMethod yX2_dated, .selects RX2 yX2_dated yX2_dated, .code yX2_dated cX2_dated 4 (some .int), .fieldLink RX2 7 "TalkRebuilderModel" "date" "[I"] ++ wsX20 ++ (vx_atM "java/lang/ArrayIndexOutOfBoundsException" ["java/lang/IndexOutOfBoundsException", "java/lang/RuntimeException", "java/lang/Exception"]).filter goodWord)
def wsX2_threads_r1 : List Cond := [Cond.methodLink RX2 115 yX2_heads, Cond.instanceMethod yX2_heads, Cond.selects RX2 yX2_heads yX2_heads, Cond.initialized RX2, Cond.code yX2_heads cX2_heads 3 (some .int), Cond.fieldLink RX2 41 "TalkRebuilderModel" "mails" "I", Cond.methodLink RX2 112 yX2_rootOf, Cond.instanceMethod yX2_rootOf, Cond.selects RX2 yX2_rootOf yX2_rootOf, Cond.code yX2_rootOf cX2_rootOf 3 (some .int), Cond.fieldLink RX2 16 "TalkRebuilderModel" "subject" "[I", Cond.methodLink RX2 66 yX2_parentOf, Cond.instanceMethod yX2_parentOf, Cond.selects RX2 yX2_parentOf yX2_parentOf, Cond.code yX2_parentOf cX2_parentOf 2 (some .int), Cond.fieldLink RX2 19 "TalkRebuilderModel" "answered" "[I", Cond.methodLink RX2 52 yX2_dated, Cond.instanceMethod yX2_dated, Cond.selects RX2 yX2_dated yX2_dated, Cond.code yX2_dated cX2_dated 4 (some .int), Cond.fieldLink RX2 7 "TalkRebuilderModel" "date" "[I", Cond.methodLink RX2 59 yX2_tells, Cond.instanceMethod yX2_tells, Cond.selects RX2 yX2_tells yX2_tells]
def wsX2_threads_r2 : List Cond := [Cond.code yX2_tells cX2_tells 2 (some .int), Cond.fieldLink RX2 37 "TalkRebuilderModel" "thrown" "I"]
def wsX2_threads : List Cond := .code yX2_threads cX2_threads 1 (some .int) :: ((wsX2_threads_r1 ++ wsX2_threads_r2) ++ wsX20 ++ (vx_atM "java/lang/ArrayIndexOutOfBoundsException" ["java/lang/IndexOutOfBoundsException", "java/lang/RuntimeException", "java/lang/Exception"]).filter goodWord)
def wsX2_size_r1 : List Cond := [Cond.fieldLink RX2 41 "TalkRebuilderModel" "mails" "I", Cond.methodLink RX2 48 yX2_isMail, Cond.instanceMethod yX2_isMail, Cond.selects RX2 yX2_isMail yX2_isMail, Cond.initialized RX2, Cond.code yX2_isMail cX2_isMail 2 (some .boolean), Cond.methodLink RX2 44 yX2_in, Cond.static yX2_in, Cond.code yX2_in cX2_in 3 (some .boolean), Cond.methodLink RX2 56 yX2_fails, Cond.instanceMethod yX2_fails, Cond.selects RX2 yX2_fails yX2_fails, Cond.code yX2_fails cX2_fails 2 (some .int), Cond.fieldLink RX2 37 "TalkRebuilderModel" "thrown" "I", Cond.methodLink RX2 112 yX2_rootOf, Cond.instanceMethod yX2_rootOf, Cond.selects RX2 yX2_rootOf yX2_rootOf, Cond.code yX2_rootOf cX2_rootOf 3 (some .int), Cond.fieldLink RX2 16 "TalkRebuilderModel" "subject" "[I", Cond.methodLink RX2 66 yX2_parentOf, Cond.instanceMethod yX2_parentOf, Cond.selects RX2 yX2_parentOf yX2_parentOf, Cond.code yX2_parentOf cX2_parentOf 2 (some .int), Cond.fieldLink RX2 19 "TalkRebuilderModel" "answered" "[I"]
def wsX2_size_r2 : List Cond := [Cond.methodLink RX2 52 yX2_dated, Cond.instanceMethod yX2_dated, Cond.selects RX2 yX2_dated yX2_dated, Cond.code yX2_dated cX2_dated 4 (some .int), Cond.fieldLink RX2 7 "TalkRebuilderModel" "date" "[I", Cond.methodLink RX2 59 yX2_tells, Cond.instanceMethod yX2_tells, Cond.selects RX2 yX2_tells yX2_tells, Cond.code yX2_tells cX2_tells 2 (some .int)]
def wsX2_size : List Cond := .code yX2_size cX2_size 4 (some .int) :: ((wsX2_size_r1 ++ wsX2_size_r2) ++ wsX20 ++ (vx_atM "java/lang/ArrayIndexOutOfBoundsException" ["java/lang/IndexOutOfBoundsException", "java/lang/RuntimeException", "java/lang/Exception"]).filter goodWord)
def wsX2_newShare_r1 : List Cond := [Cond.fieldLink RX2 41 "TalkRebuilderModel" "mails" "I", Cond.fieldLink RX2 22 "TalkRebuilderModel" "many" "[I", Cond.fieldLink RX2 37 "TalkRebuilderModel" "thrown" "I", Cond.methodLink RX2 108 yX2_talkOf, Cond.instanceMethod yX2_talkOf, Cond.selects RX2 yX2_talkOf yX2_talkOf, Cond.initialized RX2, Cond.code yX2_talkOf cX2_talkOf 4 (some .int), Cond.methodLink RX2 79 yX2_alignsAll, Cond.instanceMethod yX2_alignsAll, Cond.selects RX2 yX2_alignsAll yX2_alignsAll, Cond.code yX2_alignsAll cX2_alignsAll 2 none, Cond.methodLink RX2 72 yX2_aligns, Cond.instanceMethod yX2_aligns, Cond.selects RX2 yX2_aligns yX2_aligns, Cond.code yX2_aligns cX2_aligns 9 none, Cond.fieldLink RX2 34 "TalkRebuilderModel" "best" "[I", Cond.fieldLink RX2 31 "TalkRebuilderModel" "partnerOf" "[I", Cond.methodLink RX2 66 yX2_parentOf, Cond.instanceMethod yX2_parentOf, Cond.selects RX2 yX2_parentOf yX2_parentOf, Cond.code yX2_parentOf cX2_parentOf 2 (some .int), Cond.fieldLink RX2 19 "TalkRebuilderModel" "answered" "[I", Cond.methodLink RX2 52 yX2_dated]
def wsX2_newShare_r2 : List Cond := [Cond.instanceMethod yX2_dated, Cond.selects RX2 yX2_dated yX2_dated, Cond.code yX2_dated cX2_dated 4 (some .int), Cond.fieldLink RX2 7 "TalkRebuilderModel" "date" "[I", Cond.methodLink RX2 69 yX2_fits, Cond.instanceMethod yX2_fits, Cond.selects RX2 yX2_fits yX2_fits, Cond.code yX2_fits cX2_fits 3 (some .boolean), Cond.fieldLink RX2 25 "TalkRebuilderModel" "marks" "[I", Cond.fieldLink RX2 28 "TalkRebuilderModel" "words" "[I", Cond.methodLink RX2 105 yX2_isTalk, Cond.instanceMethod yX2_isTalk, Cond.selects RX2 yX2_isTalk yX2_isTalk, Cond.code yX2_isTalk cX2_isTalk 3 (some .boolean), Cond.methodLink RX2 95 yX2_kindOf, Cond.instanceMethod yX2_kindOf, Cond.selects RX2 yX2_kindOf yX2_kindOf, Cond.code yX2_kindOf cX2_kindOf 4 (some .char), Cond.methodLink RX2 89 yX2_signed, Cond.instanceMethod yX2_signed, Cond.selects RX2 yX2_signed yX2_signed, Cond.code yX2_signed cX2_signed 5 (some .int), Cond.fieldLink RX2 13 "TalkRebuilderModel" "author" "[I", Cond.methodLink RX2 86 yX2_endAlike]
def wsX2_newShare_r3 : List Cond := [Cond.instanceMethod yX2_endAlike, Cond.selects RX2 yX2_endAlike yX2_endAlike, Cond.code yX2_endAlike cX2_endAlike 8 (some .boolean), Cond.methodLink RX2 92 yX2_stoodBefore, Cond.instanceMethod yX2_stoodBefore, Cond.selects RX2 yX2_stoodBefore yX2_stoodBefore, Cond.code yX2_stoodBefore cX2_stoodBefore 7 (some .boolean)]
def wsX2_newShare : List Cond := .code yX2_newShare cX2_newShare 3 (some .float) :: ((wsX2_newShare_r1 ++ (wsX2_newShare_r2 ++ wsX2_newShare_r3)) ++ wsX20 ++ (vx_atM "java/lang/ArrayIndexOutOfBoundsException" ["java/lang/IndexOutOfBoundsException", "java/lang/RuntimeException", "java/lang/Exception"]).filter goodWord)
def wsX2_meanSize : List Cond := .code yX2_meanSize cX2_meanSize 1 (some .double) :: ([.fieldLink RX2 41 "TalkRebuilderModel" "mails" "I", .fieldLink RX2 37 "TalkRebuilderModel" "thrown" "I", .methodLink RX2 115 yX2_heads, .instanceMethod yX2_heads, .selects RX2 yX2_heads yX2_heads, .initialized RX2, .code yX2_heads cX2_heads 3 (some .int), .methodLink RX2 112 yX2_rootOf, .instanceMethod yX2_rootOf, .selects RX2 yX2_rootOf yX2_rootOf, .code yX2_rootOf cX2_rootOf 3 (some .int), .fieldLink RX2 16 "TalkRebuilderModel" "subject" "[I", .methodLink RX2 66 yX2_parentOf, .instanceMethod yX2_parentOf, .selects RX2 yX2_parentOf yX2_parentOf, .code yX2_parentOf cX2_parentOf 2 (some .int), .fieldLink RX2 19 "TalkRebuilderModel" "answered" "[I", .methodLink RX2 52 yX2_dated, .instanceMethod yX2_dated, .selects RX2 yX2_dated yX2_dated, .code yX2_dated cX2_dated 4 (some .int), .fieldLink RX2 7 "TalkRebuilderModel" "date" "[I"] ++ wsX20 ++ (vx_atM "java/lang/ArrayIndexOutOfBoundsException" ["java/lang/IndexOutOfBoundsException", "java/lang/RuntimeException", "java/lang/Exception"]).filter goodWord)
def wsJx00060_init_a7421 : List Cond := .code yJx00060_init_a7421 cJx00060_init_a7421 2 none :: ([])
def wsJ9_max_7cf53 : List Cond := .code yJ9_max_7cf53 cJ9_max_7cf53 2 (some .int) :: ([])
def wsJ9_min_7cf53 : List Cond := .code yJ9_min_7cf53 cJ9_min_7cf53 2 (some .int) :: ([])
def wsL_arrive : List Cond := .codeWith yL_arrive cL_arrive 7 (some .int) [(0, 14, 17, 13), (0, 14, 21, 15)] :: ([.classLink RL 13 "java/lang/IllegalArgumentException", .classLink RL 15 "java/lang/IllegalStateException", .methodLink RL 7 yX1_arrive, .instanceMethod yX1_arrive, .selects RX1 yX1_arrive yX1_arrive, .initialized RX1, .code yX1_arrive cX1_arrive 6 (some .int), .classLink RX1 56 "java/lang/IllegalArgumentException", .initialized "java/lang/IllegalArgumentException", .classLink RX1 69 "java/lang/IllegalStateException", .initialized "java/lang/IllegalStateException", .fieldLink RX1 9 "TalkRebuilder" "mailCount" "I", .fieldLink RX1 13 "TalkRebuilder" "dates" "[I", .fieldLink RX1 17 "TalkRebuilder" "authors" "[I", .fieldLink RX1 20 "TalkRebuilder" "subjects" "[I", .fieldLink RX1 23 "TalkRebuilder" "answeredDates" "[I", .methodLink RX1 52 yX1_isWithin, .static yX1_isWithin, .code yX1_isWithin cX1_isWithin 3 (some .boolean), .methodLink RX1 63 yX1_mailOfDate, .instanceMethod yX1_mailOfDate, .selects RX1 yX1_mailOfDate yX1_mailOfDate, .code yX1_mailOfDate cX1_mailOfDate 3 (some .int)] ++ wsX10 ++ (vx_atM "java/lang/ArrayIndexOutOfBoundsException" ["java/lang/IndexOutOfBoundsException", "java/lang/RuntimeException", "java/lang/Exception"]).filter goodWord ++ (vx_atS RX1 60 "java/lang/IllegalArgumentException" ["java/lang/RuntimeException", "java/lang/Exception"]).filter goodWord ++ (vx_atS RX1 73 "java/lang/IllegalStateException" ["java/lang/RuntimeException", "java/lang/Exception"]).filter goodWord)
def wsL_addLine_r1 : List Cond := [Cond.classLink RL 21 "java/lang/IndexOutOfBoundsException", Cond.classLink RL 13 "java/lang/IllegalArgumentException", Cond.classLink RL 15 "java/lang/IllegalStateException", Cond.methodLink RL 17 yX1_addLine, Cond.instanceMethod yX1_addLine, Cond.selects RX1 yX1_addLine yX1_addLine, Cond.initialized RX1, Cond.code yX1_addLine cX1_addLine 5 (some .int), Cond.classLink RX1 56 "java/lang/IllegalArgumentException", Cond.initialized "java/lang/IllegalArgumentException", Cond.classLink RX1 69 "java/lang/IllegalStateException", Cond.initialized "java/lang/IllegalStateException", Cond.fieldLink RX1 26 "TalkRebuilder" "lineCounts" "[I", Cond.fieldLink RX1 29 "TalkRebuilder" "marksAt" "[I", Cond.fieldLink RX1 32 "TalkRebuilder" "wordsAt" "[I", Cond.methodLink RX1 74 yX1_requireMail, Cond.instanceMethod yX1_requireMail, Cond.selects RX1 yX1_requireMail yX1_requireMail, Cond.code yX1_requireMail cX1_requireMail 2 none, Cond.classLink RX1 184 "java/lang/IndexOutOfBoundsException", Cond.initialized "java/lang/IndexOutOfBoundsException", Cond.fieldLink RX1 9 "TalkRebuilder" "mailCount" "I", Cond.methodLink RX1 52 yX1_isWithin, Cond.static yX1_isWithin]
def wsL_addLine_r2 : List Cond := [Cond.code yX1_isWithin cX1_isWithin 3 (some .boolean), Cond.methodLink RX1 80 yX1_placeOf, Cond.static yX1_placeOf, Cond.code yX1_placeOf cX1_placeOf 2 (some .int), Cond.methodLink RX1 84 yX1_realignAround, Cond.instanceMethod yX1_realignAround, Cond.selects RX1 yX1_realignAround yX1_realignAround, Cond.code yX1_realignAround cX1_realignAround 3 none, Cond.methodLink RX1 93 yX1_parentOf, Cond.instanceMethod yX1_parentOf, Cond.selects RX1 yX1_parentOf yX1_parentOf, Cond.code yX1_parentOf cX1_parentOf 2 (some .int), Cond.fieldLink RX1 23 "TalkRebuilder" "answeredDates" "[I", Cond.methodLink RX1 63 yX1_mailOfDate, Cond.instanceMethod yX1_mailOfDate, Cond.selects RX1 yX1_mailOfDate yX1_mailOfDate, Cond.code yX1_mailOfDate cX1_mailOfDate 3 (some .int), Cond.fieldLink RX1 13 "TalkRebuilder" "dates" "[I", Cond.methodLink RX1 195 yX1_realign, Cond.instanceMethod yX1_realign, Cond.selects RX1 yX1_realign yX1_realign, Cond.code yX1_realign cX1_realign 6 none, Cond.fieldLink RX1 41 "TalkRebuilder" "alignment" "LTalkRebuilder$Alignment;", Cond.fieldLink RX1 35 "TalkRebuilder" "partnersAt" "[I"]
def wsL_addLine_r3 : List Cond := [Cond.methodLink RX1 108 yX1_faceParent, Cond.instanceMethod yX1_faceParent, Cond.selects RX1 yX1_faceParent yX1_faceParent, Cond.code yX1_faceParent cX1_faceParent 5 none, Cond.methodLink RX1 201 yX0_clear, Cond.instanceMethod yX0_clear, Cond.selects RX0 yX0_clear yX0_clear, Cond.initialized RX0, Cond.code yX0_clear cX0_clear 2 none, Cond.fieldLink RX0 9 "TalkRebuilder$Alignment" "wanted" "[I", Cond.fieldLink RX0 15 "TalkRebuilder$Alignment" "offered" "[I", Cond.methodLink RX1 204 yX0_putLine, Cond.instanceMethod yX0_putLine, Cond.selects RX0 yX0_putLine yX0_putLine, Cond.code yX0_putLine cX0_putLine 4 none, Cond.methodLink RX0 27 yX0_markedWord, Cond.static yX0_markedWord, Cond.code yX0_markedWord cX0_markedWord 2 (some .int), Cond.methodLink RX1 208 yX0_putParentLine, Cond.instanceMethod yX0_putParentLine, Cond.selects RX0 yX0_putParentLine yX0_putParentLine, Cond.code yX0_putParentLine cX0_putParentLine 4 none, Cond.methodLink RX1 111 yX0_fillTable, Cond.instanceMethod yX0_fillTable]
def wsL_addLine_r4 : List Cond := [Cond.selects RX0 yX0_fillTable yX0_fillTable, Cond.code yX0_fillTable cX0_fillTable 4 none, Cond.fieldLink RX0 20 "TalkRebuilder$Alignment" "most" "[[I", Cond.methodLink RX0 31 Lib.Math.max.name, Cond.static Lib.Math.max.name, Cond.initialized "java/lang/Math", Cond.code Lib.Math.max.name Lib.Math.max.code 2 (some .int), Cond.methodLink RX1 198 yX0_earliestPartner, Cond.instanceMethod yX0_earliestPartner, Cond.selects RX0 yX0_earliestPartner yX0_earliestPartner, Cond.code yX0_earliestPartner cX0_earliestPartner 4 (some .int)]
def wsL_addLine : List Cond := .codeWith yL_addLine cL_addLine 6 (some .int) [(0, 12, 15, 21), (0, 12, 19, 13), (0, 12, 23, 15)] :: ((wsL_addLine_r1 ++ (wsL_addLine_r2 ++ (wsL_addLine_r3 ++ wsL_addLine_r4))) ++ wsX10 ++ wsX00 ++ (vx_atM "java/lang/ArrayIndexOutOfBoundsException" ["java/lang/IndexOutOfBoundsException", "java/lang/RuntimeException", "java/lang/Exception"]).filter goodWord ++ (vx_atS RX1 60 "java/lang/IllegalArgumentException" ["java/lang/RuntimeException", "java/lang/Exception"]).filter goodWord ++ (vx_atS RX1 73 "java/lang/IllegalStateException" ["java/lang/RuntimeException", "java/lang/Exception"]).filter goodWord ++ (vx_atS RX1 188 "java/lang/IndexOutOfBoundsException" ["java/lang/RuntimeException", "java/lang/Exception"]).filter goodWord)
def wsL_removeLine_r1 : List Cond := [Cond.classLink RL 21 "java/lang/IndexOutOfBoundsException", Cond.classLink RL 15 "java/lang/IllegalStateException", Cond.methodLink RL 23 yX1_removeLine, Cond.instanceMethod yX1_removeLine, Cond.selects RX1 yX1_removeLine yX1_removeLine, Cond.initialized RX1, Cond.code yX1_removeLine cX1_removeLine 2 (some .int), Cond.classLink RX1 69 "java/lang/IllegalStateException", Cond.initialized "java/lang/IllegalStateException", Cond.fieldLink RX1 26 "TalkRebuilder" "lineCounts" "[I", Cond.methodLink RX1 74 yX1_requireMail, Cond.instanceMethod yX1_requireMail, Cond.selects RX1 yX1_requireMail yX1_requireMail, Cond.code yX1_requireMail cX1_requireMail 2 none, Cond.classLink RX1 184 "java/lang/IndexOutOfBoundsException", Cond.initialized "java/lang/IndexOutOfBoundsException", Cond.fieldLink RX1 9 "TalkRebuilder" "mailCount" "I", Cond.methodLink RX1 52 yX1_isWithin, Cond.static yX1_isWithin, Cond.code yX1_isWithin cX1_isWithin 3 (some .boolean), Cond.methodLink RX1 84 yX1_realignAround, Cond.instanceMethod yX1_realignAround, Cond.selects RX1 yX1_realignAround yX1_realignAround, Cond.code yX1_realignAround cX1_realignAround 3 none]
def wsL_removeLine_r2 : List Cond := [Cond.methodLink RX1 93 yX1_parentOf, Cond.instanceMethod yX1_parentOf, Cond.selects RX1 yX1_parentOf yX1_parentOf, Cond.code yX1_parentOf cX1_parentOf 2 (some .int), Cond.fieldLink RX1 23 "TalkRebuilder" "answeredDates" "[I", Cond.methodLink RX1 63 yX1_mailOfDate, Cond.instanceMethod yX1_mailOfDate, Cond.selects RX1 yX1_mailOfDate yX1_mailOfDate, Cond.code yX1_mailOfDate cX1_mailOfDate 3 (some .int), Cond.fieldLink RX1 13 "TalkRebuilder" "dates" "[I", Cond.methodLink RX1 195 yX1_realign, Cond.instanceMethod yX1_realign, Cond.selects RX1 yX1_realign yX1_realign, Cond.code yX1_realign cX1_realign 6 none, Cond.fieldLink RX1 41 "TalkRebuilder" "alignment" "LTalkRebuilder$Alignment;", Cond.fieldLink RX1 35 "TalkRebuilder" "partnersAt" "[I", Cond.methodLink RX1 108 yX1_faceParent, Cond.instanceMethod yX1_faceParent, Cond.selects RX1 yX1_faceParent yX1_faceParent, Cond.code yX1_faceParent cX1_faceParent 5 none, Cond.fieldLink RX1 29 "TalkRebuilder" "marksAt" "[I", Cond.fieldLink RX1 32 "TalkRebuilder" "wordsAt" "[I", Cond.methodLink RX1 201 yX0_clear, Cond.instanceMethod yX0_clear]
def wsL_removeLine_r3 : List Cond := [Cond.selects RX0 yX0_clear yX0_clear, Cond.initialized RX0, Cond.code yX0_clear cX0_clear 2 none, Cond.fieldLink RX0 9 "TalkRebuilder$Alignment" "wanted" "[I", Cond.fieldLink RX0 15 "TalkRebuilder$Alignment" "offered" "[I", Cond.methodLink RX1 80 yX1_placeOf, Cond.static yX1_placeOf, Cond.code yX1_placeOf cX1_placeOf 2 (some .int), Cond.methodLink RX1 204 yX0_putLine, Cond.instanceMethod yX0_putLine, Cond.selects RX0 yX0_putLine yX0_putLine, Cond.code yX0_putLine cX0_putLine 4 none, Cond.methodLink RX0 27 yX0_markedWord, Cond.static yX0_markedWord, Cond.code yX0_markedWord cX0_markedWord 2 (some .int), Cond.methodLink RX1 208 yX0_putParentLine, Cond.instanceMethod yX0_putParentLine, Cond.selects RX0 yX0_putParentLine yX0_putParentLine, Cond.code yX0_putParentLine cX0_putParentLine 4 none, Cond.methodLink RX1 111 yX0_fillTable, Cond.instanceMethod yX0_fillTable, Cond.selects RX0 yX0_fillTable yX0_fillTable, Cond.code yX0_fillTable cX0_fillTable 4 none, Cond.fieldLink RX0 20 "TalkRebuilder$Alignment" "most" "[[I"]
def wsL_removeLine_r4 : List Cond := [Cond.methodLink RX0 31 Lib.Math.max.name, Cond.static Lib.Math.max.name, Cond.initialized "java/lang/Math", Cond.code Lib.Math.max.name Lib.Math.max.code 2 (some .int), Cond.methodLink RX1 198 yX0_earliestPartner, Cond.instanceMethod yX0_earliestPartner, Cond.selects RX0 yX0_earliestPartner yX0_earliestPartner, Cond.code yX0_earliestPartner cX0_earliestPartner 4 (some .int)]
def wsL_removeLine : List Cond := .codeWith yL_removeLine cL_removeLine 4 (some .int) [(0, 9, 12, 21), (0, 9, 15, 15)] :: ((wsL_removeLine_r1 ++ (wsL_removeLine_r2 ++ (wsL_removeLine_r3 ++ wsL_removeLine_r4))) ++ wsX10 ++ wsX00 ++ (vx_atM "java/lang/ArrayIndexOutOfBoundsException" ["java/lang/IndexOutOfBoundsException", "java/lang/RuntimeException", "java/lang/Exception"]).filter goodWord ++ (vx_atS RX1 73 "java/lang/IllegalStateException" ["java/lang/RuntimeException", "java/lang/Exception"]).filter goodWord ++ (vx_atS RX1 188 "java/lang/IndexOutOfBoundsException" ["java/lang/RuntimeException", "java/lang/Exception"]).filter goodWord)
def wsL_lines : List Cond := .codeWith yL_lines cL_lines 4 (some .int) [(0, 9, 12, 21)] :: ([.classLink RL 21 "java/lang/IndexOutOfBoundsException", .methodLink RL 27 yX1_lines, .instanceMethod yX1_lines, .selects RX1 yX1_lines yX1_lines, .initialized RX1, .code yX1_lines cX1_lines 2 (some .int), .fieldLink RX1 26 "TalkRebuilder" "lineCounts" "[I", .methodLink RX1 74 yX1_requireMail, .instanceMethod yX1_requireMail, .selects RX1 yX1_requireMail yX1_requireMail, .code yX1_requireMail cX1_requireMail 2 none, .classLink RX1 184 "java/lang/IndexOutOfBoundsException", .initialized "java/lang/IndexOutOfBoundsException", .fieldLink RX1 9 "TalkRebuilder" "mailCount" "I", .methodLink RX1 52 yX1_isWithin, .static yX1_isWithin, .code yX1_isWithin cX1_isWithin 3 (some .boolean)] ++ wsX10 ++ (vx_atM "java/lang/ArrayIndexOutOfBoundsException" ["java/lang/IndexOutOfBoundsException", "java/lang/RuntimeException", "java/lang/Exception"]).filter goodWord ++ (vx_atS RX1 188 "java/lang/IndexOutOfBoundsException" ["java/lang/RuntimeException", "java/lang/Exception"]).filter goodWord)
def wsL_word_r1 : List Cond := [Cond.classLink RL 21 "java/lang/IndexOutOfBoundsException", Cond.methodLink RL 30 yX1_word, Cond.instanceMethod yX1_word, Cond.selects RX1 yX1_word yX1_word, Cond.initialized RX1, Cond.code yX1_word cX1_word 3 (some .int), Cond.fieldLink RX1 32 "TalkRebuilder" "wordsAt" "[I", Cond.methodLink RX1 89 yX1_requireLine, Cond.instanceMethod yX1_requireLine, Cond.selects RX1 yX1_requireLine yX1_requireLine, Cond.code yX1_requireLine cX1_requireLine 3 none, Cond.classLink RX1 184 "java/lang/IndexOutOfBoundsException", Cond.initialized "java/lang/IndexOutOfBoundsException", Cond.fieldLink RX1 26 "TalkRebuilder" "lineCounts" "[I", Cond.methodLink RX1 74 yX1_requireMail, Cond.instanceMethod yX1_requireMail, Cond.selects RX1 yX1_requireMail yX1_requireMail, Cond.code yX1_requireMail cX1_requireMail 2 none, Cond.fieldLink RX1 9 "TalkRebuilder" "mailCount" "I", Cond.methodLink RX1 52 yX1_isWithin, Cond.static yX1_isWithin, Cond.code yX1_isWithin cX1_isWithin 3 (some .boolean), Cond.methodLink RX1 80 yX1_placeOf, Cond.static yX1_placeOf]
def wsL_word_r2 : List Cond := [Cond.code yX1_placeOf cX1_placeOf 2 (some .int)]
def wsL_word : List Cond := .codeWith yL_word cL_word 5 (some .int) [(0, 10, 13, 21)] :: ((wsL_word_r1 ++ wsL_word_r2) ++ wsX10 ++ (vx_atM "java/lang/ArrayIndexOutOfBoundsException" ["java/lang/IndexOutOfBoundsException", "java/lang/RuntimeException", "java/lang/Exception"]).filter goodWord ++ (vx_atS RX1 188 "java/lang/IndexOutOfBoundsException" ["java/lang/RuntimeException", "java/lang/Exception"]).filter goodWord)
def wsL_parent_r1 : List Cond := [Cond.classLink RL 21 "java/lang/IndexOutOfBoundsException", Cond.classLink RL 37 "java/util/NoSuchElementException", Cond.methodLink RL 34 yX1_parent, Cond.instanceMethod yX1_parent, Cond.selects RX1 yX1_parent yX1_parent, Cond.initialized RX1, Cond.code yX1_parent cX1_parent 3 (some .int), Cond.classLink RX1 96 "java/util/NoSuchElementException", Cond.initialized "java/util/NoSuchElementException", Cond.methodLink RX1 74 yX1_requireMail, Cond.instanceMethod yX1_requireMail, Cond.selects RX1 yX1_requireMail yX1_requireMail, Cond.code yX1_requireMail cX1_requireMail 2 none, Cond.classLink RX1 184 "java/lang/IndexOutOfBoundsException", Cond.initialized "java/lang/IndexOutOfBoundsException", Cond.fieldLink RX1 9 "TalkRebuilder" "mailCount" "I", Cond.methodLink RX1 52 yX1_isWithin, Cond.static yX1_isWithin, Cond.code yX1_isWithin cX1_isWithin 3 (some .boolean), Cond.methodLink RX1 93 yX1_parentOf, Cond.instanceMethod yX1_parentOf, Cond.selects RX1 yX1_parentOf yX1_parentOf, Cond.code yX1_parentOf cX1_parentOf 2 (some .int), Cond.fieldLink RX1 23 "TalkRebuilder" "answeredDates" "[I"]
def wsL_parent_r2 : List Cond := [Cond.methodLink RX1 63 yX1_mailOfDate, Cond.instanceMethod yX1_mailOfDate, Cond.selects RX1 yX1_mailOfDate yX1_mailOfDate, Cond.code yX1_mailOfDate cX1_mailOfDate 3 (some .int), Cond.fieldLink RX1 13 "TalkRebuilder" "dates" "[I"]
def wsL_parent : List Cond := .codeWith yL_parent cL_parent 4 (some .int) [(0, 9, 12, 21), (0, 9, 15, 37)] :: ((wsL_parent_r1 ++ wsL_parent_r2) ++ wsX10 ++ (vx_atM "java/lang/ArrayIndexOutOfBoundsException" ["java/lang/IndexOutOfBoundsException", "java/lang/RuntimeException", "java/lang/Exception"]).filter goodWord ++ (vx_atS RX1 100 "java/util/NoSuchElementException" ["java/lang/RuntimeException", "java/lang/Exception"]).filter goodWord ++ (vx_atS RX1 188 "java/lang/IndexOutOfBoundsException" ["java/lang/RuntimeException", "java/lang/Exception"]).filter goodWord)
def wsL_aligned_r1 : List Cond := [Cond.classLink RL 21 "java/lang/IndexOutOfBoundsException", Cond.methodLink RL 39 yX1_aligned, Cond.instanceMethod yX1_aligned, Cond.selects RX1 yX1_aligned yX1_aligned, Cond.initialized RX1, Cond.code yX1_aligned cX1_aligned 2 (some .int), Cond.fieldLink RX1 41 "TalkRebuilder" "alignment" "LTalkRebuilder$Alignment;", Cond.methodLink RX1 74 yX1_requireMail, Cond.instanceMethod yX1_requireMail, Cond.selects RX1 yX1_requireMail yX1_requireMail, Cond.code yX1_requireMail cX1_requireMail 2 none, Cond.classLink RX1 184 "java/lang/IndexOutOfBoundsException", Cond.initialized "java/lang/IndexOutOfBoundsException", Cond.fieldLink RX1 9 "TalkRebuilder" "mailCount" "I", Cond.methodLink RX1 52 yX1_isWithin, Cond.static yX1_isWithin, Cond.code yX1_isWithin cX1_isWithin 3 (some .boolean), Cond.methodLink RX1 108 yX1_faceParent, Cond.instanceMethod yX1_faceParent, Cond.selects RX1 yX1_faceParent yX1_faceParent, Cond.code yX1_faceParent cX1_faceParent 5 none, Cond.fieldLink RX1 26 "TalkRebuilder" "lineCounts" "[I", Cond.fieldLink RX1 29 "TalkRebuilder" "marksAt" "[I", Cond.fieldLink RX1 32 "TalkRebuilder" "wordsAt" "[I"]
def wsL_aligned_r2 : List Cond := [Cond.methodLink RX1 201 yX0_clear, Cond.instanceMethod yX0_clear, Cond.selects RX0 yX0_clear yX0_clear, Cond.initialized RX0, Cond.code yX0_clear cX0_clear 2 none, Cond.fieldLink RX0 9 "TalkRebuilder$Alignment" "wanted" "[I", Cond.fieldLink RX0 15 "TalkRebuilder$Alignment" "offered" "[I", Cond.methodLink RX1 93 yX1_parentOf, Cond.instanceMethod yX1_parentOf, Cond.selects RX1 yX1_parentOf yX1_parentOf, Cond.code yX1_parentOf cX1_parentOf 2 (some .int), Cond.fieldLink RX1 23 "TalkRebuilder" "answeredDates" "[I", Cond.methodLink RX1 63 yX1_mailOfDate, Cond.instanceMethod yX1_mailOfDate, Cond.selects RX1 yX1_mailOfDate yX1_mailOfDate, Cond.code yX1_mailOfDate cX1_mailOfDate 3 (some .int), Cond.fieldLink RX1 13 "TalkRebuilder" "dates" "[I", Cond.methodLink RX1 80 yX1_placeOf, Cond.static yX1_placeOf, Cond.code yX1_placeOf cX1_placeOf 2 (some .int), Cond.methodLink RX1 204 yX0_putLine, Cond.instanceMethod yX0_putLine, Cond.selects RX0 yX0_putLine yX0_putLine, Cond.code yX0_putLine cX0_putLine 4 none]
def wsL_aligned_r3 : List Cond := [Cond.methodLink RX0 27 yX0_markedWord, Cond.static yX0_markedWord, Cond.code yX0_markedWord cX0_markedWord 2 (some .int), Cond.methodLink RX1 208 yX0_putParentLine, Cond.instanceMethod yX0_putParentLine, Cond.selects RX0 yX0_putParentLine yX0_putParentLine, Cond.code yX0_putParentLine cX0_putParentLine 4 none, Cond.methodLink RX1 111 yX0_fillTable, Cond.instanceMethod yX0_fillTable, Cond.selects RX0 yX0_fillTable yX0_fillTable, Cond.code yX0_fillTable cX0_fillTable 4 none, Cond.fieldLink RX0 20 "TalkRebuilder$Alignment" "most" "[[I", Cond.methodLink RX0 31 Lib.Math.max.name, Cond.static Lib.Math.max.name, Cond.initialized "java/lang/Math", Cond.code Lib.Math.max.name Lib.Math.max.code 2 (some .int), Cond.methodLink RX1 114 yX0_mostPartners, Cond.instanceMethod yX0_mostPartners, Cond.selects RX0 yX0_mostPartners yX0_mostPartners, Cond.code yX0_mostPartners cX0_mostPartners 1 (some .int)]
def wsL_aligned : List Cond := .codeWith yL_aligned cL_aligned 4 (some .int) [(0, 9, 12, 21)] :: ((wsL_aligned_r1 ++ (wsL_aligned_r2 ++ wsL_aligned_r3)) ++ wsX10 ++ wsX00 ++ (vx_atM "java/lang/ArrayIndexOutOfBoundsException" ["java/lang/IndexOutOfBoundsException", "java/lang/RuntimeException", "java/lang/Exception"]).filter goodWord ++ (vx_atS RX1 188 "java/lang/IndexOutOfBoundsException" ["java/lang/RuntimeException", "java/lang/Exception"]).filter goodWord)
def wsL_alignedByTrying_r1 : List Cond := [Cond.classLink RL 21 "java/lang/IndexOutOfBoundsException", Cond.methodLink RL 42 yX1_alignedByTrying, Cond.instanceMethod yX1_alignedByTrying, Cond.selects RX1 yX1_alignedByTrying yX1_alignedByTrying, Cond.initialized RX1, Cond.code yX1_alignedByTrying cX1_alignedByTrying 2 (some .int), Cond.fieldLink RX1 41 "TalkRebuilder" "alignment" "LTalkRebuilder$Alignment;", Cond.methodLink RX1 74 yX1_requireMail, Cond.instanceMethod yX1_requireMail, Cond.selects RX1 yX1_requireMail yX1_requireMail, Cond.code yX1_requireMail cX1_requireMail 2 none, Cond.classLink RX1 184 "java/lang/IndexOutOfBoundsException", Cond.initialized "java/lang/IndexOutOfBoundsException", Cond.fieldLink RX1 9 "TalkRebuilder" "mailCount" "I", Cond.methodLink RX1 52 yX1_isWithin, Cond.static yX1_isWithin, Cond.code yX1_isWithin cX1_isWithin 3 (some .boolean), Cond.methodLink RX1 108 yX1_faceParent, Cond.instanceMethod yX1_faceParent, Cond.selects RX1 yX1_faceParent yX1_faceParent, Cond.code yX1_faceParent cX1_faceParent 5 none, Cond.fieldLink RX1 26 "TalkRebuilder" "lineCounts" "[I", Cond.fieldLink RX1 29 "TalkRebuilder" "marksAt" "[I", Cond.fieldLink RX1 32 "TalkRebuilder" "wordsAt" "[I"]
def wsL_alignedByTrying_r2 : List Cond := [Cond.methodLink RX1 201 yX0_clear, Cond.instanceMethod yX0_clear, Cond.selects RX0 yX0_clear yX0_clear, Cond.initialized RX0, Cond.code yX0_clear cX0_clear 2 none, Cond.fieldLink RX0 9 "TalkRebuilder$Alignment" "wanted" "[I", Cond.fieldLink RX0 15 "TalkRebuilder$Alignment" "offered" "[I", Cond.methodLink RX1 93 yX1_parentOf, Cond.instanceMethod yX1_parentOf, Cond.selects RX1 yX1_parentOf yX1_parentOf, Cond.code yX1_parentOf cX1_parentOf 2 (some .int), Cond.fieldLink RX1 23 "TalkRebuilder" "answeredDates" "[I", Cond.methodLink RX1 63 yX1_mailOfDate, Cond.instanceMethod yX1_mailOfDate, Cond.selects RX1 yX1_mailOfDate yX1_mailOfDate, Cond.code yX1_mailOfDate cX1_mailOfDate 3 (some .int), Cond.fieldLink RX1 13 "TalkRebuilder" "dates" "[I", Cond.methodLink RX1 80 yX1_placeOf, Cond.static yX1_placeOf, Cond.code yX1_placeOf cX1_placeOf 2 (some .int), Cond.methodLink RX1 204 yX0_putLine, Cond.instanceMethod yX0_putLine, Cond.selects RX0 yX0_putLine yX0_putLine, Cond.code yX0_putLine cX0_putLine 4 none]
def wsL_alignedByTrying_r3 : List Cond := [Cond.methodLink RX0 27 yX0_markedWord, Cond.static yX0_markedWord, Cond.code yX0_markedWord cX0_markedWord 2 (some .int), Cond.methodLink RX1 208 yX0_putParentLine, Cond.instanceMethod yX0_putParentLine, Cond.selects RX0 yX0_putParentLine yX0_putParentLine, Cond.code yX0_putParentLine cX0_putParentLine 4 none, Cond.methodLink RX1 118 yX0_mostPartnersByTrying, Cond.instanceMethod yX0_mostPartnersByTrying, Cond.selects RX0 yX0_mostPartnersByTrying yX0_mostPartnersByTrying, Cond.code yX0_mostPartnersByTrying cX0_mostPartnersByTrying 1 (some .int), Cond.methodLink RX0 36 yX0_tryFrom, Cond.static yX0_tryFrom, Cond.code yX0_tryFrom cX0_tryFrom 6 (some .int), Cond.methodLink RX0 31 Lib.Math.max.name, Cond.static Lib.Math.max.name, Cond.initialized "java/lang/Math", Cond.code Lib.Math.max.name Lib.Math.max.code 2 (some .int)]
def wsL_alignedByTrying : List Cond := .codeWith yL_alignedByTrying cL_alignedByTrying 4 (some .int) [(0, 9, 12, 21)] :: ((wsL_alignedByTrying_r1 ++ (wsL_alignedByTrying_r2 ++ wsL_alignedByTrying_r3)) ++ wsX10 ++ wsX00 ++ (vx_atM "java/lang/ArrayIndexOutOfBoundsException" ["java/lang/IndexOutOfBoundsException", "java/lang/RuntimeException", "java/lang/Exception"]).filter goodWord ++ (vx_atS RX1 188 "java/lang/IndexOutOfBoundsException" ["java/lang/RuntimeException", "java/lang/Exception"]).filter goodWord)
def wsL_partner_r1 : List Cond := [Cond.classLink RL 21 "java/lang/IndexOutOfBoundsException", Cond.classLink RL 37 "java/util/NoSuchElementException", Cond.methodLink RL 45 yX1_partner, Cond.instanceMethod yX1_partner, Cond.selects RX1 yX1_partner yX1_partner, Cond.initialized RX1, Cond.code yX1_partner cX1_partner 4 (some .int), Cond.classLink RX1 96 "java/util/NoSuchElementException", Cond.initialized "java/util/NoSuchElementException", Cond.fieldLink RX1 35 "TalkRebuilder" "partnersAt" "[I", Cond.methodLink RX1 89 yX1_requireLine, Cond.instanceMethod yX1_requireLine, Cond.selects RX1 yX1_requireLine yX1_requireLine, Cond.code yX1_requireLine cX1_requireLine 3 none, Cond.classLink RX1 184 "java/lang/IndexOutOfBoundsException", Cond.initialized "java/lang/IndexOutOfBoundsException", Cond.fieldLink RX1 26 "TalkRebuilder" "lineCounts" "[I", Cond.methodLink RX1 74 yX1_requireMail, Cond.instanceMethod yX1_requireMail, Cond.selects RX1 yX1_requireMail yX1_requireMail, Cond.code yX1_requireMail cX1_requireMail 2 none, Cond.fieldLink RX1 9 "TalkRebuilder" "mailCount" "I", Cond.methodLink RX1 52 yX1_isWithin, Cond.static yX1_isWithin]
def wsL_partner_r2 : List Cond := [Cond.code yX1_isWithin cX1_isWithin 3 (some .boolean), Cond.methodLink RX1 80 yX1_placeOf, Cond.static yX1_placeOf, Cond.code yX1_placeOf cX1_placeOf 2 (some .int), Cond.methodLink RX1 121 yX1_hasPartner, Cond.instanceMethod yX1_hasPartner, Cond.selects RX1 yX1_hasPartner yX1_hasPartner, Cond.code yX1_hasPartner cX1_hasPartner 2 (some .boolean), Cond.methodLink RX1 154 yX1_isLine, Cond.instanceMethod yX1_isLine, Cond.selects RX1 yX1_isLine yX1_isLine, Cond.code yX1_isLine cX1_isLine 2 (some .boolean), Cond.methodLink RX1 126 yX1_lineAt, Cond.static yX1_lineAt, Cond.code yX1_lineAt cX1_lineAt 1 (some .int), Cond.methodLink RX1 132 yX1_mailAt, Cond.static yX1_mailAt, Cond.code yX1_mailAt cX1_mailAt 1 (some .int)]
def wsL_partner : List Cond := .codeWith yL_partner cL_partner 5 (some .int) [(0, 10, 13, 21), (0, 10, 17, 37)] :: ((wsL_partner_r1 ++ wsL_partner_r2) ++ wsX10 ++ (vx_atM "java/lang/ArrayIndexOutOfBoundsException" ["java/lang/IndexOutOfBoundsException", "java/lang/RuntimeException", "java/lang/Exception"]).filter goodWord ++ (vx_atS RX1 100 "java/util/NoSuchElementException" ["java/lang/RuntimeException", "java/lang/Exception"]).filter goodWord ++ (vx_atS RX1 188 "java/lang/IndexOutOfBoundsException" ["java/lang/RuntimeException", "java/lang/Exception"]).filter goodWord)
def wsL_originMail_r1 : List Cond := [Cond.classLink RL 21 "java/lang/IndexOutOfBoundsException", Cond.methodLink RL 48 yX1_originMail, Cond.instanceMethod yX1_originMail, Cond.selects RX1 yX1_originMail yX1_originMail, Cond.initialized RX1, Cond.code yX1_originMail cX1_originMail 3 (some .int), Cond.methodLink RX1 89 yX1_requireLine, Cond.instanceMethod yX1_requireLine, Cond.selects RX1 yX1_requireLine yX1_requireLine, Cond.code yX1_requireLine cX1_requireLine 3 none, Cond.classLink RX1 184 "java/lang/IndexOutOfBoundsException", Cond.initialized "java/lang/IndexOutOfBoundsException", Cond.fieldLink RX1 26 "TalkRebuilder" "lineCounts" "[I", Cond.methodLink RX1 74 yX1_requireMail, Cond.instanceMethod yX1_requireMail, Cond.selects RX1 yX1_requireMail yX1_requireMail, Cond.code yX1_requireMail cX1_requireMail 2 none, Cond.fieldLink RX1 9 "TalkRebuilder" "mailCount" "I", Cond.methodLink RX1 52 yX1_isWithin, Cond.static yX1_isWithin, Cond.code yX1_isWithin cX1_isWithin 3 (some .boolean), Cond.methodLink RX1 80 yX1_placeOf, Cond.static yX1_placeOf, Cond.code yX1_placeOf cX1_placeOf 2 (some .int)]
def wsL_originMail_r2 : List Cond := [Cond.methodLink RX1 129 yX1_originOf, Cond.instanceMethod yX1_originOf, Cond.selects RX1 yX1_originOf yX1_originOf, Cond.code yX1_originOf cX1_originOf 4 (some .int), Cond.fieldLink RX1 35 "TalkRebuilder" "partnersAt" "[I", Cond.methodLink RX1 121 yX1_hasPartner, Cond.instanceMethod yX1_hasPartner, Cond.selects RX1 yX1_hasPartner yX1_hasPartner, Cond.code yX1_hasPartner cX1_hasPartner 2 (some .boolean), Cond.methodLink RX1 154 yX1_isLine, Cond.instanceMethod yX1_isLine, Cond.selects RX1 yX1_isLine yX1_isLine, Cond.code yX1_isLine cX1_isLine 2 (some .boolean), Cond.methodLink RX1 126 yX1_lineAt, Cond.static yX1_lineAt, Cond.code yX1_lineAt cX1_lineAt 1 (some .int), Cond.methodLink RX1 132 yX1_mailAt, Cond.static yX1_mailAt, Cond.code yX1_mailAt cX1_mailAt 1 (some .int)]
def wsL_originMail : List Cond := .codeWith yL_originMail cL_originMail 5 (some .int) [(0, 10, 13, 21)] :: ((wsL_originMail_r1 ++ wsL_originMail_r2) ++ wsX10 ++ (vx_atM "java/lang/ArrayIndexOutOfBoundsException" ["java/lang/IndexOutOfBoundsException", "java/lang/RuntimeException", "java/lang/Exception"]).filter goodWord ++ (vx_atS RX1 188 "java/lang/IndexOutOfBoundsException" ["java/lang/RuntimeException", "java/lang/Exception"]).filter goodWord)
def wsL_originLine_r1 : List Cond := [Cond.classLink RL 21 "java/lang/IndexOutOfBoundsException", Cond.methodLink RL 51 yX1_originLine, Cond.instanceMethod yX1_originLine, Cond.selects RX1 yX1_originLine yX1_originLine, Cond.initialized RX1, Cond.code yX1_originLine cX1_originLine 3 (some .int), Cond.methodLink RX1 89 yX1_requireLine, Cond.instanceMethod yX1_requireLine, Cond.selects RX1 yX1_requireLine yX1_requireLine, Cond.code yX1_requireLine cX1_requireLine 3 none, Cond.classLink RX1 184 "java/lang/IndexOutOfBoundsException", Cond.initialized "java/lang/IndexOutOfBoundsException", Cond.fieldLink RX1 26 "TalkRebuilder" "lineCounts" "[I", Cond.methodLink RX1 74 yX1_requireMail, Cond.instanceMethod yX1_requireMail, Cond.selects RX1 yX1_requireMail yX1_requireMail, Cond.code yX1_requireMail cX1_requireMail 2 none, Cond.fieldLink RX1 9 "TalkRebuilder" "mailCount" "I", Cond.methodLink RX1 52 yX1_isWithin, Cond.static yX1_isWithin, Cond.code yX1_isWithin cX1_isWithin 3 (some .boolean), Cond.methodLink RX1 80 yX1_placeOf, Cond.static yX1_placeOf, Cond.code yX1_placeOf cX1_placeOf 2 (some .int)]
def wsL_originLine_r2 : List Cond := [Cond.methodLink RX1 129 yX1_originOf, Cond.instanceMethod yX1_originOf, Cond.selects RX1 yX1_originOf yX1_originOf, Cond.code yX1_originOf cX1_originOf 4 (some .int), Cond.fieldLink RX1 35 "TalkRebuilder" "partnersAt" "[I", Cond.methodLink RX1 121 yX1_hasPartner, Cond.instanceMethod yX1_hasPartner, Cond.selects RX1 yX1_hasPartner yX1_hasPartner, Cond.code yX1_hasPartner cX1_hasPartner 2 (some .boolean), Cond.methodLink RX1 154 yX1_isLine, Cond.instanceMethod yX1_isLine, Cond.selects RX1 yX1_isLine yX1_isLine, Cond.code yX1_isLine cX1_isLine 2 (some .boolean), Cond.methodLink RX1 126 yX1_lineAt, Cond.static yX1_lineAt, Cond.code yX1_lineAt cX1_lineAt 1 (some .int), Cond.methodLink RX1 132 yX1_mailAt, Cond.static yX1_mailAt, Cond.code yX1_mailAt cX1_mailAt 1 (some .int)]
def wsL_originLine : List Cond := .codeWith yL_originLine cL_originLine 5 (some .int) [(0, 10, 13, 21)] :: ((wsL_originLine_r1 ++ wsL_originLine_r2) ++ wsX10 ++ (vx_atM "java/lang/ArrayIndexOutOfBoundsException" ["java/lang/IndexOutOfBoundsException", "java/lang/RuntimeException", "java/lang/Exception"]).filter goodWord ++ (vx_atS RX1 188 "java/lang/IndexOutOfBoundsException" ["java/lang/RuntimeException", "java/lang/Exception"]).filter goodWord)
def wsL_kind_r1 : List Cond := [Cond.classLink RL 21 "java/lang/IndexOutOfBoundsException", Cond.methodLink RL 54 yX1_kind, Cond.instanceMethod yX1_kind, Cond.selects RX1 yX1_kind yX1_kind, Cond.initialized RX1, Cond.code yX1_kind cX1_kind 3 (some .char), Cond.methodLink RX1 89 yX1_requireLine, Cond.instanceMethod yX1_requireLine, Cond.selects RX1 yX1_requireLine yX1_requireLine, Cond.code yX1_requireLine cX1_requireLine 3 none, Cond.classLink RX1 184 "java/lang/IndexOutOfBoundsException", Cond.initialized "java/lang/IndexOutOfBoundsException", Cond.fieldLink RX1 26 "TalkRebuilder" "lineCounts" "[I", Cond.methodLink RX1 74 yX1_requireMail, Cond.instanceMethod yX1_requireMail, Cond.selects RX1 yX1_requireMail yX1_requireMail, Cond.code yX1_requireMail cX1_requireMail 2 none, Cond.fieldLink RX1 9 "TalkRebuilder" "mailCount" "I", Cond.methodLink RX1 52 yX1_isWithin, Cond.static yX1_isWithin, Cond.code yX1_isWithin cX1_isWithin 3 (some .boolean), Cond.methodLink RX1 80 yX1_placeOf, Cond.static yX1_placeOf, Cond.code yX1_placeOf cX1_placeOf 2 (some .int)]
def wsL_kind_r2 : List Cond := [Cond.methodLink RX1 135 yX1_kindAt, Cond.instanceMethod yX1_kindAt, Cond.selects RX1 yX1_kindAt yX1_kindAt, Cond.code yX1_kindAt cX1_kindAt 4 (some .char), Cond.fieldLink RX1 29 "TalkRebuilder" "marksAt" "[I", Cond.methodLink RX1 132 yX1_mailAt, Cond.static yX1_mailAt, Cond.code yX1_mailAt cX1_mailAt 1 (some .int), Cond.methodLink RX1 126 yX1_lineAt, Cond.static yX1_lineAt, Cond.code yX1_lineAt cX1_lineAt 1 (some .int), Cond.methodLink RX1 139 yX1_signatureLength, Cond.instanceMethod yX1_signatureLength, Cond.selects RX1 yX1_signatureLength yX1_signatureLength, Cond.code yX1_signatureLength cX1_signatureLength 4 (some .int), Cond.fieldLink RX1 17 "TalkRebuilder" "authors" "[I", Cond.methodLink RX1 221 Lib.Math.max.name, Cond.static Lib.Math.max.name, Cond.initialized "java/lang/Math", Cond.code Lib.Math.max.name Lib.Math.max.code 2 (some .int), Cond.methodLink RX1 218 yX1_commonEnd, Cond.instanceMethod yX1_commonEnd, Cond.selects RX1 yX1_commonEnd yX1_commonEnd, Cond.code yX1_commonEnd cX1_commonEnd 7 (some .int)]
def wsL_kind_r3 : List Cond := [Cond.methodLink RX1 226 Lib.Math.min.name, Cond.static Lib.Math.min.name, Cond.code Lib.Math.min.name Lib.Math.min.code 2 (some .int), Cond.fieldLink RX1 32 "TalkRebuilder" "wordsAt" "[I", Cond.methodLink RX1 121 yX1_hasPartner, Cond.instanceMethod yX1_hasPartner, Cond.selects RX1 yX1_hasPartner yX1_hasPartner, Cond.code yX1_hasPartner cX1_hasPartner 2 (some .boolean), Cond.fieldLink RX1 35 "TalkRebuilder" "partnersAt" "[I", Cond.methodLink RX1 154 yX1_isLine, Cond.instanceMethod yX1_isLine, Cond.selects RX1 yX1_isLine yX1_isLine, Cond.code yX1_isLine cX1_isLine 2 (some .boolean), Cond.methodLink RX1 101 yX1_answersMissing, Cond.instanceMethod yX1_answersMissing, Cond.selects RX1 yX1_answersMissing yX1_answersMissing, Cond.code yX1_answersMissing cX1_answersMissing 2 (some .boolean), Cond.fieldLink RX1 23 "TalkRebuilder" "answeredDates" "[I", Cond.methodLink RX1 93 yX1_parentOf, Cond.instanceMethod yX1_parentOf, Cond.selects RX1 yX1_parentOf yX1_parentOf, Cond.code yX1_parentOf cX1_parentOf 2 (some .int), Cond.methodLink RX1 63 yX1_mailOfDate, Cond.instanceMethod yX1_mailOfDate]
def wsL_kind_r4 : List Cond := [Cond.selects RX1 yX1_mailOfDate yX1_mailOfDate, Cond.code yX1_mailOfDate cX1_mailOfDate 3 (some .int), Cond.fieldLink RX1 13 "TalkRebuilder" "dates" "[I", Cond.methodLink RX1 211 yX1_isDouble, Cond.instanceMethod yX1_isDouble, Cond.selects RX1 yX1_isDouble yX1_isDouble, Cond.code yX1_isDouble cX1_isDouble 3 (some .boolean), Cond.methodLink RX1 214 yX1_isEarlier, Cond.instanceMethod yX1_isEarlier, Cond.selects RX1 yX1_isEarlier yX1_isEarlier, Cond.code yX1_isEarlier cX1_isEarlier 3 (some .boolean)]
def wsL_kind : List Cond := .codeWith yL_kind cL_kind 5 (some .int) [(0, 10, 13, 21)] :: ((wsL_kind_r1 ++ (wsL_kind_r2 ++ (wsL_kind_r3 ++ wsL_kind_r4))) ++ wsX10 ++ (vx_atM "java/lang/ArrayIndexOutOfBoundsException" ["java/lang/IndexOutOfBoundsException", "java/lang/RuntimeException", "java/lang/Exception"]).filter goodWord ++ (vx_atS RX1 188 "java/lang/IndexOutOfBoundsException" ["java/lang/RuntimeException", "java/lang/Exception"]).filter goodWord)
def wsL_signature_r1 : List Cond := [Cond.classLink RL 21 "java/lang/IndexOutOfBoundsException", Cond.methodLink RL 58 yX1_signature, Cond.instanceMethod yX1_signature, Cond.selects RX1 yX1_signature yX1_signature, Cond.initialized RX1, Cond.code yX1_signature cX1_signature 2 (some .int), Cond.methodLink RX1 74 yX1_requireMail, Cond.instanceMethod yX1_requireMail, Cond.selects RX1 yX1_requireMail yX1_requireMail, Cond.code yX1_requireMail cX1_requireMail 2 none, Cond.classLink RX1 184 "java/lang/IndexOutOfBoundsException", Cond.initialized "java/lang/IndexOutOfBoundsException", Cond.fieldLink RX1 9 "TalkRebuilder" "mailCount" "I", Cond.methodLink RX1 52 yX1_isWithin, Cond.static yX1_isWithin, Cond.code yX1_isWithin cX1_isWithin 3 (some .boolean), Cond.methodLink RX1 139 yX1_signatureLength, Cond.instanceMethod yX1_signatureLength, Cond.selects RX1 yX1_signatureLength yX1_signatureLength, Cond.code yX1_signatureLength cX1_signatureLength 4 (some .int), Cond.fieldLink RX1 17 "TalkRebuilder" "authors" "[I", Cond.methodLink RX1 221 Lib.Math.max.name, Cond.static Lib.Math.max.name, Cond.initialized "java/lang/Math"]
def wsL_signature_r2 : List Cond := [Cond.code Lib.Math.max.name Lib.Math.max.code 2 (some .int), Cond.methodLink RX1 218 yX1_commonEnd, Cond.instanceMethod yX1_commonEnd, Cond.selects RX1 yX1_commonEnd yX1_commonEnd, Cond.code yX1_commonEnd cX1_commonEnd 7 (some .int), Cond.fieldLink RX1 26 "TalkRebuilder" "lineCounts" "[I", Cond.methodLink RX1 226 Lib.Math.min.name, Cond.static Lib.Math.min.name, Cond.code Lib.Math.min.name Lib.Math.min.code 2 (some .int), Cond.fieldLink RX1 29 "TalkRebuilder" "marksAt" "[I", Cond.fieldLink RX1 32 "TalkRebuilder" "wordsAt" "[I", Cond.methodLink RX1 80 yX1_placeOf, Cond.static yX1_placeOf, Cond.code yX1_placeOf cX1_placeOf 2 (some .int)]
def wsL_signature : List Cond := .codeWith yL_signature cL_signature 4 (some .int) [(0, 9, 12, 21)] :: ((wsL_signature_r1 ++ wsL_signature_r2) ++ wsX10 ++ (vx_atM "java/lang/ArrayIndexOutOfBoundsException" ["java/lang/IndexOutOfBoundsException", "java/lang/RuntimeException", "java/lang/Exception"]).filter goodWord ++ (vx_atS RX1 188 "java/lang/IndexOutOfBoundsException" ["java/lang/RuntimeException", "java/lang/Exception"]).filter goodWord)
def wsL_answersMail_r1 : List Cond := [Cond.classLink RL 21 "java/lang/IndexOutOfBoundsException", Cond.classLink RL 64 "java/lang/UnsupportedOperationException", Cond.classLink RL 37 "java/util/NoSuchElementException", Cond.methodLink RL 61 yX1_answersMail, Cond.instanceMethod yX1_answersMail, Cond.selects RX1 yX1_answersMail yX1_answersMail, Cond.initialized RX1, Cond.code yX1_answersMail cX1_answersMail 3 (some .int), Cond.methodLink RX1 89 yX1_requireLine, Cond.instanceMethod yX1_requireLine, Cond.selects RX1 yX1_requireLine yX1_requireLine, Cond.code yX1_requireLine cX1_requireLine 3 none, Cond.classLink RX1 184 "java/lang/IndexOutOfBoundsException", Cond.initialized "java/lang/IndexOutOfBoundsException", Cond.fieldLink RX1 26 "TalkRebuilder" "lineCounts" "[I", Cond.methodLink RX1 74 yX1_requireMail, Cond.instanceMethod yX1_requireMail, Cond.selects RX1 yX1_requireMail yX1_requireMail, Cond.code yX1_requireMail cX1_requireMail 2 none, Cond.fieldLink RX1 9 "TalkRebuilder" "mailCount" "I", Cond.methodLink RX1 52 yX1_isWithin, Cond.static yX1_isWithin, Cond.code yX1_isWithin cX1_isWithin 3 (some .boolean), Cond.methodLink RX1 80 yX1_placeOf]
def wsL_answersMail_r2 : List Cond := [Cond.static yX1_placeOf, Cond.code yX1_placeOf cX1_placeOf 2 (some .int), Cond.methodLink RX1 142 yX1_requireAnswered, Cond.instanceMethod yX1_requireAnswered, Cond.selects RX1 yX1_requireAnswered yX1_requireAnswered, Cond.code yX1_requireAnswered cX1_requireAnswered 3 (some .int), Cond.classLink RX1 160 "java/lang/UnsupportedOperationException", Cond.initialized "java/lang/UnsupportedOperationException", Cond.classLink RX1 96 "java/util/NoSuchElementException", Cond.initialized "java/util/NoSuchElementException", Cond.methodLink RX1 145 yX1_isNew, Cond.instanceMethod yX1_isNew, Cond.selects RX1 yX1_isNew yX1_isNew, Cond.code yX1_isNew cX1_isNew 2 (some .boolean), Cond.methodLink RX1 154 yX1_isLine, Cond.instanceMethod yX1_isLine, Cond.selects RX1 yX1_isLine yX1_isLine, Cond.code yX1_isLine cX1_isLine 2 (some .boolean), Cond.methodLink RX1 126 yX1_lineAt, Cond.static yX1_lineAt, Cond.code yX1_lineAt cX1_lineAt 1 (some .int), Cond.methodLink RX1 132 yX1_mailAt, Cond.static yX1_mailAt, Cond.code yX1_mailAt cX1_mailAt 1 (some .int)]
def wsL_answersMail_r3 : List Cond := [Cond.methodLink RX1 135 yX1_kindAt, Cond.instanceMethod yX1_kindAt, Cond.selects RX1 yX1_kindAt yX1_kindAt, Cond.code yX1_kindAt cX1_kindAt 4 (some .char), Cond.fieldLink RX1 29 "TalkRebuilder" "marksAt" "[I", Cond.methodLink RX1 139 yX1_signatureLength, Cond.instanceMethod yX1_signatureLength, Cond.selects RX1 yX1_signatureLength yX1_signatureLength, Cond.code yX1_signatureLength cX1_signatureLength 4 (some .int), Cond.fieldLink RX1 17 "TalkRebuilder" "authors" "[I", Cond.methodLink RX1 221 Lib.Math.max.name, Cond.static Lib.Math.max.name, Cond.initialized "java/lang/Math", Cond.code Lib.Math.max.name Lib.Math.max.code 2 (some .int), Cond.methodLink RX1 218 yX1_commonEnd, Cond.instanceMethod yX1_commonEnd, Cond.selects RX1 yX1_commonEnd yX1_commonEnd, Cond.code yX1_commonEnd cX1_commonEnd 7 (some .int), Cond.methodLink RX1 226 Lib.Math.min.name, Cond.static Lib.Math.min.name, Cond.code Lib.Math.min.name Lib.Math.min.code 2 (some .int), Cond.fieldLink RX1 32 "TalkRebuilder" "wordsAt" "[I", Cond.methodLink RX1 121 yX1_hasPartner, Cond.instanceMethod yX1_hasPartner]
def wsL_answersMail_r4 : List Cond := [Cond.selects RX1 yX1_hasPartner yX1_hasPartner, Cond.code yX1_hasPartner cX1_hasPartner 2 (some .boolean), Cond.fieldLink RX1 35 "TalkRebuilder" "partnersAt" "[I", Cond.methodLink RX1 101 yX1_answersMissing, Cond.instanceMethod yX1_answersMissing, Cond.selects RX1 yX1_answersMissing yX1_answersMissing, Cond.code yX1_answersMissing cX1_answersMissing 2 (some .boolean), Cond.fieldLink RX1 23 "TalkRebuilder" "answeredDates" "[I", Cond.methodLink RX1 93 yX1_parentOf, Cond.instanceMethod yX1_parentOf, Cond.selects RX1 yX1_parentOf yX1_parentOf, Cond.code yX1_parentOf cX1_parentOf 2 (some .int), Cond.methodLink RX1 63 yX1_mailOfDate, Cond.instanceMethod yX1_mailOfDate, Cond.selects RX1 yX1_mailOfDate yX1_mailOfDate, Cond.code yX1_mailOfDate cX1_mailOfDate 3 (some .int), Cond.fieldLink RX1 13 "TalkRebuilder" "dates" "[I", Cond.methodLink RX1 211 yX1_isDouble, Cond.instanceMethod yX1_isDouble, Cond.selects RX1 yX1_isDouble yX1_isDouble, Cond.code yX1_isDouble cX1_isDouble 3 (some .boolean), Cond.methodLink RX1 214 yX1_isEarlier, Cond.instanceMethod yX1_isEarlier, Cond.selects RX1 yX1_isEarlier yX1_isEarlier]
def wsL_answersMail_r5 : List Cond := [Cond.code yX1_isEarlier cX1_isEarlier 3 (some .boolean), Cond.methodLink RX1 148 yX1_answeredBy, Cond.instanceMethod yX1_answeredBy, Cond.selects RX1 yX1_answeredBy yX1_answeredBy, Cond.code yX1_answeredBy cX1_answeredBy 4 (some .int), Cond.methodLink RX1 129 yX1_originOf, Cond.instanceMethod yX1_originOf, Cond.selects RX1 yX1_originOf yX1_originOf, Cond.code yX1_originOf cX1_originOf 4 (some .int)]
def wsL_answersMail : List Cond := .codeWith yL_answersMail cL_answersMail 5 (some .int) [(0, 10, 13, 21), (0, 10, 17, 64), (0, 10, 21, 37)] :: ((wsL_answersMail_r1 ++ (wsL_answersMail_r2 ++ (wsL_answersMail_r3 ++ (wsL_answersMail_r4 ++ wsL_answersMail_r5)))) ++ wsX10 ++ (vx_atM "java/lang/ArrayIndexOutOfBoundsException" ["java/lang/IndexOutOfBoundsException", "java/lang/RuntimeException", "java/lang/Exception"]).filter goodWord ++ (vx_atS RX1 188 "java/lang/IndexOutOfBoundsException" ["java/lang/RuntimeException", "java/lang/Exception"]).filter goodWord ++ (vx_atS RX1 164 "java/lang/UnsupportedOperationException" ["java/lang/RuntimeException", "java/lang/Exception"]).filter goodWord ++ (vx_atS RX1 100 "java/util/NoSuchElementException" ["java/lang/RuntimeException", "java/lang/Exception"]).filter goodWord)
def wsL_answersLine_r1 : List Cond := [Cond.classLink RL 21 "java/lang/IndexOutOfBoundsException", Cond.classLink RL 64 "java/lang/UnsupportedOperationException", Cond.classLink RL 37 "java/util/NoSuchElementException", Cond.methodLink RL 66 yX1_answersLine, Cond.instanceMethod yX1_answersLine, Cond.selects RX1 yX1_answersLine yX1_answersLine, Cond.initialized RX1, Cond.code yX1_answersLine cX1_answersLine 3 (some .int), Cond.methodLink RX1 89 yX1_requireLine, Cond.instanceMethod yX1_requireLine, Cond.selects RX1 yX1_requireLine yX1_requireLine, Cond.code yX1_requireLine cX1_requireLine 3 none, Cond.classLink RX1 184 "java/lang/IndexOutOfBoundsException", Cond.initialized "java/lang/IndexOutOfBoundsException", Cond.fieldLink RX1 26 "TalkRebuilder" "lineCounts" "[I", Cond.methodLink RX1 74 yX1_requireMail, Cond.instanceMethod yX1_requireMail, Cond.selects RX1 yX1_requireMail yX1_requireMail, Cond.code yX1_requireMail cX1_requireMail 2 none, Cond.fieldLink RX1 9 "TalkRebuilder" "mailCount" "I", Cond.methodLink RX1 52 yX1_isWithin, Cond.static yX1_isWithin, Cond.code yX1_isWithin cX1_isWithin 3 (some .boolean), Cond.methodLink RX1 80 yX1_placeOf]
def wsL_answersLine_r2 : List Cond := [Cond.static yX1_placeOf, Cond.code yX1_placeOf cX1_placeOf 2 (some .int), Cond.methodLink RX1 142 yX1_requireAnswered, Cond.instanceMethod yX1_requireAnswered, Cond.selects RX1 yX1_requireAnswered yX1_requireAnswered, Cond.code yX1_requireAnswered cX1_requireAnswered 3 (some .int), Cond.classLink RX1 160 "java/lang/UnsupportedOperationException", Cond.initialized "java/lang/UnsupportedOperationException", Cond.classLink RX1 96 "java/util/NoSuchElementException", Cond.initialized "java/util/NoSuchElementException", Cond.methodLink RX1 145 yX1_isNew, Cond.instanceMethod yX1_isNew, Cond.selects RX1 yX1_isNew yX1_isNew, Cond.code yX1_isNew cX1_isNew 2 (some .boolean), Cond.methodLink RX1 154 yX1_isLine, Cond.instanceMethod yX1_isLine, Cond.selects RX1 yX1_isLine yX1_isLine, Cond.code yX1_isLine cX1_isLine 2 (some .boolean), Cond.methodLink RX1 126 yX1_lineAt, Cond.static yX1_lineAt, Cond.code yX1_lineAt cX1_lineAt 1 (some .int), Cond.methodLink RX1 132 yX1_mailAt, Cond.static yX1_mailAt, Cond.code yX1_mailAt cX1_mailAt 1 (some .int)]
def wsL_answersLine_r3 : List Cond := [Cond.methodLink RX1 135 yX1_kindAt, Cond.instanceMethod yX1_kindAt, Cond.selects RX1 yX1_kindAt yX1_kindAt, Cond.code yX1_kindAt cX1_kindAt 4 (some .char), Cond.fieldLink RX1 29 "TalkRebuilder" "marksAt" "[I", Cond.methodLink RX1 139 yX1_signatureLength, Cond.instanceMethod yX1_signatureLength, Cond.selects RX1 yX1_signatureLength yX1_signatureLength, Cond.code yX1_signatureLength cX1_signatureLength 4 (some .int), Cond.fieldLink RX1 17 "TalkRebuilder" "authors" "[I", Cond.methodLink RX1 221 Lib.Math.max.name, Cond.static Lib.Math.max.name, Cond.initialized "java/lang/Math", Cond.code Lib.Math.max.name Lib.Math.max.code 2 (some .int), Cond.methodLink RX1 218 yX1_commonEnd, Cond.instanceMethod yX1_commonEnd, Cond.selects RX1 yX1_commonEnd yX1_commonEnd, Cond.code yX1_commonEnd cX1_commonEnd 7 (some .int), Cond.methodLink RX1 226 Lib.Math.min.name, Cond.static Lib.Math.min.name, Cond.code Lib.Math.min.name Lib.Math.min.code 2 (some .int), Cond.fieldLink RX1 32 "TalkRebuilder" "wordsAt" "[I", Cond.methodLink RX1 121 yX1_hasPartner, Cond.instanceMethod yX1_hasPartner]
def wsL_answersLine_r4 : List Cond := [Cond.selects RX1 yX1_hasPartner yX1_hasPartner, Cond.code yX1_hasPartner cX1_hasPartner 2 (some .boolean), Cond.fieldLink RX1 35 "TalkRebuilder" "partnersAt" "[I", Cond.methodLink RX1 101 yX1_answersMissing, Cond.instanceMethod yX1_answersMissing, Cond.selects RX1 yX1_answersMissing yX1_answersMissing, Cond.code yX1_answersMissing cX1_answersMissing 2 (some .boolean), Cond.fieldLink RX1 23 "TalkRebuilder" "answeredDates" "[I", Cond.methodLink RX1 93 yX1_parentOf, Cond.instanceMethod yX1_parentOf, Cond.selects RX1 yX1_parentOf yX1_parentOf, Cond.code yX1_parentOf cX1_parentOf 2 (some .int), Cond.methodLink RX1 63 yX1_mailOfDate, Cond.instanceMethod yX1_mailOfDate, Cond.selects RX1 yX1_mailOfDate yX1_mailOfDate, Cond.code yX1_mailOfDate cX1_mailOfDate 3 (some .int), Cond.fieldLink RX1 13 "TalkRebuilder" "dates" "[I", Cond.methodLink RX1 211 yX1_isDouble, Cond.instanceMethod yX1_isDouble, Cond.selects RX1 yX1_isDouble yX1_isDouble, Cond.code yX1_isDouble cX1_isDouble 3 (some .boolean), Cond.methodLink RX1 214 yX1_isEarlier, Cond.instanceMethod yX1_isEarlier, Cond.selects RX1 yX1_isEarlier yX1_isEarlier]
def wsL_answersLine_r5 : List Cond := [Cond.code yX1_isEarlier cX1_isEarlier 3 (some .boolean), Cond.methodLink RX1 148 yX1_answeredBy, Cond.instanceMethod yX1_answeredBy, Cond.selects RX1 yX1_answeredBy yX1_answeredBy, Cond.code yX1_answeredBy cX1_answeredBy 4 (some .int), Cond.methodLink RX1 129 yX1_originOf, Cond.instanceMethod yX1_originOf, Cond.selects RX1 yX1_originOf yX1_originOf, Cond.code yX1_originOf cX1_originOf 4 (some .int)]
def wsL_answersLine : List Cond := .codeWith yL_answersLine cL_answersLine 5 (some .int) [(0, 10, 13, 21), (0, 10, 17, 64), (0, 10, 21, 37)] :: ((wsL_answersLine_r1 ++ (wsL_answersLine_r2 ++ (wsL_answersLine_r3 ++ (wsL_answersLine_r4 ++ wsL_answersLine_r5)))) ++ wsX10 ++ (vx_atM "java/lang/ArrayIndexOutOfBoundsException" ["java/lang/IndexOutOfBoundsException", "java/lang/RuntimeException", "java/lang/Exception"]).filter goodWord ++ (vx_atS RX1 188 "java/lang/IndexOutOfBoundsException" ["java/lang/RuntimeException", "java/lang/Exception"]).filter goodWord ++ (vx_atS RX1 164 "java/lang/UnsupportedOperationException" ["java/lang/RuntimeException", "java/lang/Exception"]).filter goodWord ++ (vx_atS RX1 100 "java/util/NoSuchElementException" ["java/lang/RuntimeException", "java/lang/Exception"]).filter goodWord)
def wsL_answers_r1 : List Cond := [Cond.classLink RL 21 "java/lang/IndexOutOfBoundsException", Cond.methodLink RL 69 yX1_answers, Cond.instanceMethod yX1_answers, Cond.selects RX1 yX1_answers yX1_answers, Cond.initialized RX1, Cond.code yX1_answers cX1_answers 6 (some .int), Cond.methodLink RX1 89 yX1_requireLine, Cond.instanceMethod yX1_requireLine, Cond.selects RX1 yX1_requireLine yX1_requireLine, Cond.code yX1_requireLine cX1_requireLine 3 none, Cond.classLink RX1 184 "java/lang/IndexOutOfBoundsException", Cond.initialized "java/lang/IndexOutOfBoundsException", Cond.fieldLink RX1 26 "TalkRebuilder" "lineCounts" "[I", Cond.methodLink RX1 74 yX1_requireMail, Cond.instanceMethod yX1_requireMail, Cond.selects RX1 yX1_requireMail yX1_requireMail, Cond.code yX1_requireMail cX1_requireMail 2 none, Cond.fieldLink RX1 9 "TalkRebuilder" "mailCount" "I", Cond.methodLink RX1 52 yX1_isWithin, Cond.static yX1_isWithin, Cond.code yX1_isWithin cX1_isWithin 3 (some .boolean), Cond.methodLink RX1 80 yX1_placeOf, Cond.static yX1_placeOf, Cond.code yX1_placeOf cX1_placeOf 2 (some .int)]
def wsL_answers_r2 : List Cond := [Cond.methodLink RX1 145 yX1_isNew, Cond.instanceMethod yX1_isNew, Cond.selects RX1 yX1_isNew yX1_isNew, Cond.code yX1_isNew cX1_isNew 2 (some .boolean), Cond.methodLink RX1 154 yX1_isLine, Cond.instanceMethod yX1_isLine, Cond.selects RX1 yX1_isLine yX1_isLine, Cond.code yX1_isLine cX1_isLine 2 (some .boolean), Cond.methodLink RX1 126 yX1_lineAt, Cond.static yX1_lineAt, Cond.code yX1_lineAt cX1_lineAt 1 (some .int), Cond.methodLink RX1 132 yX1_mailAt, Cond.static yX1_mailAt, Cond.code yX1_mailAt cX1_mailAt 1 (some .int), Cond.methodLink RX1 135 yX1_kindAt, Cond.instanceMethod yX1_kindAt, Cond.selects RX1 yX1_kindAt yX1_kindAt, Cond.code yX1_kindAt cX1_kindAt 4 (some .char), Cond.fieldLink RX1 29 "TalkRebuilder" "marksAt" "[I", Cond.methodLink RX1 139 yX1_signatureLength, Cond.instanceMethod yX1_signatureLength, Cond.selects RX1 yX1_signatureLength yX1_signatureLength, Cond.code yX1_signatureLength cX1_signatureLength 4 (some .int), Cond.fieldLink RX1 17 "TalkRebuilder" "authors" "[I"]
def wsL_answers_r3 : List Cond := [Cond.methodLink RX1 221 Lib.Math.max.name, Cond.static Lib.Math.max.name, Cond.initialized "java/lang/Math", Cond.code Lib.Math.max.name Lib.Math.max.code 2 (some .int), Cond.methodLink RX1 218 yX1_commonEnd, Cond.instanceMethod yX1_commonEnd, Cond.selects RX1 yX1_commonEnd yX1_commonEnd, Cond.code yX1_commonEnd cX1_commonEnd 7 (some .int), Cond.methodLink RX1 226 Lib.Math.min.name, Cond.static Lib.Math.min.name, Cond.code Lib.Math.min.name Lib.Math.min.code 2 (some .int), Cond.fieldLink RX1 32 "TalkRebuilder" "wordsAt" "[I", Cond.methodLink RX1 121 yX1_hasPartner, Cond.instanceMethod yX1_hasPartner, Cond.selects RX1 yX1_hasPartner yX1_hasPartner, Cond.code yX1_hasPartner cX1_hasPartner 2 (some .boolean), Cond.fieldLink RX1 35 "TalkRebuilder" "partnersAt" "[I", Cond.methodLink RX1 101 yX1_answersMissing, Cond.instanceMethod yX1_answersMissing, Cond.selects RX1 yX1_answersMissing yX1_answersMissing, Cond.code yX1_answersMissing cX1_answersMissing 2 (some .boolean), Cond.fieldLink RX1 23 "TalkRebuilder" "answeredDates" "[I", Cond.methodLink RX1 93 yX1_parentOf, Cond.instanceMethod yX1_parentOf]
def wsL_answers_r4 : List Cond := [Cond.selects RX1 yX1_parentOf yX1_parentOf, Cond.code yX1_parentOf cX1_parentOf 2 (some .int), Cond.methodLink RX1 63 yX1_mailOfDate, Cond.instanceMethod yX1_mailOfDate, Cond.selects RX1 yX1_mailOfDate yX1_mailOfDate, Cond.code yX1_mailOfDate cX1_mailOfDate 3 (some .int), Cond.fieldLink RX1 13 "TalkRebuilder" "dates" "[I", Cond.methodLink RX1 211 yX1_isDouble, Cond.instanceMethod yX1_isDouble, Cond.selects RX1 yX1_isDouble yX1_isDouble, Cond.code yX1_isDouble cX1_isDouble 3 (some .boolean), Cond.methodLink RX1 214 yX1_isEarlier, Cond.instanceMethod yX1_isEarlier, Cond.selects RX1 yX1_isEarlier yX1_isEarlier, Cond.code yX1_isEarlier cX1_isEarlier 3 (some .boolean), Cond.methodLink RX1 148 yX1_answeredBy, Cond.instanceMethod yX1_answeredBy, Cond.selects RX1 yX1_answeredBy yX1_answeredBy, Cond.code yX1_answeredBy cX1_answeredBy 4 (some .int), Cond.methodLink RX1 129 yX1_originOf, Cond.instanceMethod yX1_originOf, Cond.selects RX1 yX1_originOf yX1_originOf, Cond.code yX1_originOf cX1_originOf 4 (some .int)]
def wsL_answers : List Cond := .codeWith yL_answers cL_answers 5 (some .int) [(0, 10, 13, 21)] :: ((wsL_answers_r1 ++ (wsL_answers_r2 ++ (wsL_answers_r3 ++ wsL_answers_r4))) ++ wsX10 ++ (vx_atM "java/lang/ArrayIndexOutOfBoundsException" ["java/lang/IndexOutOfBoundsException", "java/lang/RuntimeException", "java/lang/Exception"]).filter goodWord ++ (vx_atS RX1 188 "java/lang/IndexOutOfBoundsException" ["java/lang/RuntimeException", "java/lang/Exception"]).filter goodWord)
def wsL_copies_r1 : List Cond := [Cond.classLink RL 21 "java/lang/IndexOutOfBoundsException", Cond.classLink RL 64 "java/lang/UnsupportedOperationException", Cond.methodLink RL 72 yX1_copies, Cond.instanceMethod yX1_copies, Cond.selects RX1 yX1_copies yX1_copies, Cond.initialized RX1, Cond.code yX1_copies cX1_copies 6 (some .int), Cond.classLink RX1 160 "java/lang/UnsupportedOperationException", Cond.initialized "java/lang/UnsupportedOperationException", Cond.methodLink RX1 89 yX1_requireLine, Cond.instanceMethod yX1_requireLine, Cond.selects RX1 yX1_requireLine yX1_requireLine, Cond.code yX1_requireLine cX1_requireLine 3 none, Cond.classLink RX1 184 "java/lang/IndexOutOfBoundsException", Cond.initialized "java/lang/IndexOutOfBoundsException", Cond.fieldLink RX1 26 "TalkRebuilder" "lineCounts" "[I", Cond.methodLink RX1 74 yX1_requireMail, Cond.instanceMethod yX1_requireMail, Cond.selects RX1 yX1_requireMail yX1_requireMail, Cond.code yX1_requireMail cX1_requireMail 2 none, Cond.fieldLink RX1 9 "TalkRebuilder" "mailCount" "I", Cond.methodLink RX1 52 yX1_isWithin, Cond.static yX1_isWithin, Cond.code yX1_isWithin cX1_isWithin 3 (some .boolean)]
def wsL_copies_r2 : List Cond := [Cond.methodLink RX1 80 yX1_placeOf, Cond.static yX1_placeOf, Cond.code yX1_placeOf cX1_placeOf 2 (some .int), Cond.methodLink RX1 151 yX1_isInTalk, Cond.instanceMethod yX1_isInTalk, Cond.selects RX1 yX1_isInTalk yX1_isInTalk, Cond.code yX1_isInTalk cX1_isInTalk 3 (some .boolean), Cond.methodLink RX1 154 yX1_isLine, Cond.instanceMethod yX1_isLine, Cond.selects RX1 yX1_isLine yX1_isLine, Cond.code yX1_isLine cX1_isLine 2 (some .boolean), Cond.methodLink RX1 126 yX1_lineAt, Cond.static yX1_lineAt, Cond.code yX1_lineAt cX1_lineAt 1 (some .int), Cond.methodLink RX1 132 yX1_mailAt, Cond.static yX1_mailAt, Cond.code yX1_mailAt cX1_mailAt 1 (some .int), Cond.methodLink RX1 135 yX1_kindAt, Cond.instanceMethod yX1_kindAt, Cond.selects RX1 yX1_kindAt yX1_kindAt, Cond.code yX1_kindAt cX1_kindAt 4 (some .char), Cond.fieldLink RX1 29 "TalkRebuilder" "marksAt" "[I", Cond.methodLink RX1 139 yX1_signatureLength, Cond.instanceMethod yX1_signatureLength]
def wsL_copies_r3 : List Cond := [Cond.selects RX1 yX1_signatureLength yX1_signatureLength, Cond.code yX1_signatureLength cX1_signatureLength 4 (some .int), Cond.fieldLink RX1 17 "TalkRebuilder" "authors" "[I", Cond.methodLink RX1 221 Lib.Math.max.name, Cond.static Lib.Math.max.name, Cond.initialized "java/lang/Math", Cond.code Lib.Math.max.name Lib.Math.max.code 2 (some .int), Cond.methodLink RX1 218 yX1_commonEnd, Cond.instanceMethod yX1_commonEnd, Cond.selects RX1 yX1_commonEnd yX1_commonEnd, Cond.code yX1_commonEnd cX1_commonEnd 7 (some .int), Cond.methodLink RX1 226 Lib.Math.min.name, Cond.static Lib.Math.min.name, Cond.code Lib.Math.min.name Lib.Math.min.code 2 (some .int), Cond.fieldLink RX1 32 "TalkRebuilder" "wordsAt" "[I", Cond.methodLink RX1 121 yX1_hasPartner, Cond.instanceMethod yX1_hasPartner, Cond.selects RX1 yX1_hasPartner yX1_hasPartner, Cond.code yX1_hasPartner cX1_hasPartner 2 (some .boolean), Cond.fieldLink RX1 35 "TalkRebuilder" "partnersAt" "[I", Cond.methodLink RX1 101 yX1_answersMissing, Cond.instanceMethod yX1_answersMissing, Cond.selects RX1 yX1_answersMissing yX1_answersMissing, Cond.code yX1_answersMissing cX1_answersMissing 2 (some .boolean)]
def wsL_copies_r4 : List Cond := [Cond.fieldLink RX1 23 "TalkRebuilder" "answeredDates" "[I", Cond.methodLink RX1 93 yX1_parentOf, Cond.instanceMethod yX1_parentOf, Cond.selects RX1 yX1_parentOf yX1_parentOf, Cond.code yX1_parentOf cX1_parentOf 2 (some .int), Cond.methodLink RX1 63 yX1_mailOfDate, Cond.instanceMethod yX1_mailOfDate, Cond.selects RX1 yX1_mailOfDate yX1_mailOfDate, Cond.code yX1_mailOfDate cX1_mailOfDate 3 (some .int), Cond.fieldLink RX1 13 "TalkRebuilder" "dates" "[I", Cond.methodLink RX1 211 yX1_isDouble, Cond.instanceMethod yX1_isDouble, Cond.selects RX1 yX1_isDouble yX1_isDouble, Cond.code yX1_isDouble cX1_isDouble 3 (some .boolean), Cond.methodLink RX1 214 yX1_isEarlier, Cond.instanceMethod yX1_isEarlier, Cond.selects RX1 yX1_isEarlier yX1_isEarlier, Cond.code yX1_isEarlier cX1_isEarlier 3 (some .boolean), Cond.methodLink RX1 129 yX1_originOf, Cond.instanceMethod yX1_originOf, Cond.selects RX1 yX1_originOf yX1_originOf, Cond.code yX1_originOf cX1_originOf 4 (some .int)]
def wsL_copies : List Cond := .codeWith yL_copies cL_copies 5 (some .int) [(0, 10, 13, 21), (0, 10, 17, 64)] :: ((wsL_copies_r1 ++ (wsL_copies_r2 ++ (wsL_copies_r3 ++ wsL_copies_r4))) ++ wsX10 ++ (vx_atM "java/lang/ArrayIndexOutOfBoundsException" ["java/lang/IndexOutOfBoundsException", "java/lang/RuntimeException", "java/lang/Exception"]).filter goodWord ++ (vx_atS RX1 164 "java/lang/UnsupportedOperationException" ["java/lang/RuntimeException", "java/lang/Exception"]).filter goodWord ++ (vx_atS RX1 188 "java/lang/IndexOutOfBoundsException" ["java/lang/RuntimeException", "java/lang/Exception"]).filter goodWord)
def wsL_root_r1 : List Cond := [Cond.classLink RL 21 "java/lang/IndexOutOfBoundsException", Cond.methodLink RL 75 yX1_root, Cond.instanceMethod yX1_root, Cond.selects RX1 yX1_root yX1_root, Cond.initialized RX1, Cond.code yX1_root cX1_root 2 (some .int), Cond.methodLink RX1 74 yX1_requireMail, Cond.instanceMethod yX1_requireMail, Cond.selects RX1 yX1_requireMail yX1_requireMail, Cond.code yX1_requireMail cX1_requireMail 2 none, Cond.classLink RX1 184 "java/lang/IndexOutOfBoundsException", Cond.initialized "java/lang/IndexOutOfBoundsException", Cond.fieldLink RX1 9 "TalkRebuilder" "mailCount" "I", Cond.methodLink RX1 52 yX1_isWithin, Cond.static yX1_isWithin, Cond.code yX1_isWithin cX1_isWithin 3 (some .boolean), Cond.methodLink RX1 165 yX1_rootOf, Cond.instanceMethod yX1_rootOf, Cond.selects RX1 yX1_rootOf yX1_rootOf, Cond.code yX1_rootOf cX1_rootOf 5 (some .int), Cond.methodLink RX1 229 yX1_parentInThread, Cond.instanceMethod yX1_parentInThread, Cond.selects RX1 yX1_parentInThread yX1_parentInThread, Cond.code yX1_parentInThread cX1_parentInThread 4 (some .int)]
def wsL_root_r2 : List Cond := [Cond.fieldLink RX1 20 "TalkRebuilder" "subjects" "[I", Cond.methodLink RX1 93 yX1_parentOf, Cond.instanceMethod yX1_parentOf, Cond.selects RX1 yX1_parentOf yX1_parentOf, Cond.code yX1_parentOf cX1_parentOf 2 (some .int), Cond.fieldLink RX1 23 "TalkRebuilder" "answeredDates" "[I", Cond.methodLink RX1 63 yX1_mailOfDate, Cond.instanceMethod yX1_mailOfDate, Cond.selects RX1 yX1_mailOfDate yX1_mailOfDate, Cond.code yX1_mailOfDate cX1_mailOfDate 3 (some .int), Cond.fieldLink RX1 13 "TalkRebuilder" "dates" "[I"]
def wsL_root : List Cond := .codeWith yL_root cL_root 4 (some .int) [(0, 9, 12, 21)] :: ((wsL_root_r1 ++ wsL_root_r2) ++ wsX10 ++ (vx_atM "java/lang/ArrayIndexOutOfBoundsException" ["java/lang/IndexOutOfBoundsException", "java/lang/RuntimeException", "java/lang/Exception"]).filter goodWord ++ (vx_atS RX1 188 "java/lang/IndexOutOfBoundsException" ["java/lang/RuntimeException", "java/lang/Exception"]).filter goodWord)
def wsL_rootByRounds_r1 : List Cond := [Cond.classLink RL 21 "java/lang/IndexOutOfBoundsException", Cond.methodLink RL 78 yX1_rootByRounds, Cond.instanceMethod yX1_rootByRounds, Cond.selects RX1 yX1_rootByRounds yX1_rootByRounds, Cond.initialized RX1, Cond.code yX1_rootByRounds cX1_rootByRounds 3 (some .int), Cond.fieldLink RX1 9 "TalkRebuilder" "mailCount" "I", Cond.fieldLink RX1 49 "TalkRebuilder" "roots" "[I", Cond.methodLink RX1 74 yX1_requireMail, Cond.instanceMethod yX1_requireMail, Cond.selects RX1 yX1_requireMail yX1_requireMail, Cond.code yX1_requireMail cX1_requireMail 2 none, Cond.classLink RX1 184 "java/lang/IndexOutOfBoundsException", Cond.initialized "java/lang/IndexOutOfBoundsException", Cond.methodLink RX1 52 yX1_isWithin, Cond.static yX1_isWithin, Cond.code yX1_isWithin cX1_isWithin 3 (some .boolean), Cond.methodLink RX1 168 yX1_takeRootsOfParents, Cond.instanceMethod yX1_takeRootsOfParents, Cond.selects RX1 yX1_takeRootsOfParents yX1_takeRootsOfParents, Cond.code yX1_takeRootsOfParents cX1_takeRootsOfParents 3 none, Cond.methodLink RX1 229 yX1_parentInThread, Cond.instanceMethod yX1_parentInThread, Cond.selects RX1 yX1_parentInThread yX1_parentInThread]
def wsL_rootByRounds_r2 : List Cond := [Cond.code yX1_parentInThread cX1_parentInThread 4 (some .int), Cond.fieldLink RX1 20 "TalkRebuilder" "subjects" "[I", Cond.methodLink RX1 93 yX1_parentOf, Cond.instanceMethod yX1_parentOf, Cond.selects RX1 yX1_parentOf yX1_parentOf, Cond.code yX1_parentOf cX1_parentOf 2 (some .int), Cond.fieldLink RX1 23 "TalkRebuilder" "answeredDates" "[I", Cond.methodLink RX1 63 yX1_mailOfDate, Cond.instanceMethod yX1_mailOfDate, Cond.selects RX1 yX1_mailOfDate yX1_mailOfDate, Cond.code yX1_mailOfDate cX1_mailOfDate 3 (some .int), Cond.fieldLink RX1 13 "TalkRebuilder" "dates" "[I"]
def wsL_rootByRounds : List Cond := .codeWith yL_rootByRounds cL_rootByRounds 4 (some .int) [(0, 9, 12, 21)] :: ((wsL_rootByRounds_r1 ++ wsL_rootByRounds_r2) ++ wsX10 ++ (vx_atM "java/lang/ArrayIndexOutOfBoundsException" ["java/lang/IndexOutOfBoundsException", "java/lang/RuntimeException", "java/lang/Exception"]).filter goodWord ++ (vx_atS RX1 188 "java/lang/IndexOutOfBoundsException" ["java/lang/RuntimeException", "java/lang/Exception"]).filter goodWord)
def wsL_size_r1 : List Cond := [Cond.classLink RL 21 "java/lang/IndexOutOfBoundsException", Cond.methodLink RL 81 yX1_size, Cond.instanceMethod yX1_size, Cond.selects RX1 yX1_size yX1_size, Cond.initialized RX1, Cond.code yX1_size cX1_size 5 (some .int), Cond.fieldLink RX1 9 "TalkRebuilder" "mailCount" "I", Cond.methodLink RX1 74 yX1_requireMail, Cond.instanceMethod yX1_requireMail, Cond.selects RX1 yX1_requireMail yX1_requireMail, Cond.code yX1_requireMail cX1_requireMail 2 none, Cond.classLink RX1 184 "java/lang/IndexOutOfBoundsException", Cond.initialized "java/lang/IndexOutOfBoundsException", Cond.methodLink RX1 52 yX1_isWithin, Cond.static yX1_isWithin, Cond.code yX1_isWithin cX1_isWithin 3 (some .boolean), Cond.methodLink RX1 165 yX1_rootOf, Cond.instanceMethod yX1_rootOf, Cond.selects RX1 yX1_rootOf yX1_rootOf, Cond.code yX1_rootOf cX1_rootOf 5 (some .int), Cond.methodLink RX1 229 yX1_parentInThread, Cond.instanceMethod yX1_parentInThread, Cond.selects RX1 yX1_parentInThread yX1_parentInThread, Cond.code yX1_parentInThread cX1_parentInThread 4 (some .int)]
def wsL_size_r2 : List Cond := [Cond.fieldLink RX1 20 "TalkRebuilder" "subjects" "[I", Cond.methodLink RX1 93 yX1_parentOf, Cond.instanceMethod yX1_parentOf, Cond.selects RX1 yX1_parentOf yX1_parentOf, Cond.code yX1_parentOf cX1_parentOf 2 (some .int), Cond.fieldLink RX1 23 "TalkRebuilder" "answeredDates" "[I", Cond.methodLink RX1 63 yX1_mailOfDate, Cond.instanceMethod yX1_mailOfDate, Cond.selects RX1 yX1_mailOfDate yX1_mailOfDate, Cond.code yX1_mailOfDate cX1_mailOfDate 3 (some .int), Cond.fieldLink RX1 13 "TalkRebuilder" "dates" "[I"]
def wsL_size : List Cond := .codeWith yL_size cL_size 4 (some .int) [(0, 9, 12, 21)] :: ((wsL_size_r1 ++ wsL_size_r2) ++ wsX10 ++ (vx_atM "java/lang/ArrayIndexOutOfBoundsException" ["java/lang/IndexOutOfBoundsException", "java/lang/RuntimeException", "java/lang/Exception"]).filter goodWord ++ (vx_atS RX1 188 "java/lang/IndexOutOfBoundsException" ["java/lang/RuntimeException", "java/lang/Exception"]).filter goodWord)
def wsL_newShare_r1 : List Cond := [Cond.classLink RL 88 "java/lang/ArithmeticException", Cond.methodLink RL 84 yX1_newShare, Cond.instanceMethod yX1_newShare, Cond.selects RX1 yX1_newShare yX1_newShare, Cond.initialized RX1, Cond.code yX1_newShare cX1_newShare 3 (some .float), Cond.classLink RX1 171 "java/lang/ArithmeticException", Cond.initialized "java/lang/ArithmeticException", Cond.fieldLink RX1 9 "TalkRebuilder" "mailCount" "I", Cond.fieldLink RX1 26 "TalkRebuilder" "lineCounts" "[I", Cond.methodLink RX1 176 yX1_talk, Cond.instanceMethod yX1_talk, Cond.selects RX1 yX1_talk yX1_talk, Cond.code yX1_talk cX1_talk 3 (some .int), Cond.methodLink RX1 151 yX1_isInTalk, Cond.instanceMethod yX1_isInTalk, Cond.selects RX1 yX1_isInTalk yX1_isInTalk, Cond.code yX1_isInTalk cX1_isInTalk 3 (some .boolean), Cond.methodLink RX1 154 yX1_isLine, Cond.instanceMethod yX1_isLine, Cond.selects RX1 yX1_isLine yX1_isLine, Cond.code yX1_isLine cX1_isLine 2 (some .boolean), Cond.methodLink RX1 52 yX1_isWithin, Cond.static yX1_isWithin]
def wsL_newShare_r2 : List Cond := [Cond.code yX1_isWithin cX1_isWithin 3 (some .boolean), Cond.methodLink RX1 126 yX1_lineAt, Cond.static yX1_lineAt, Cond.code yX1_lineAt cX1_lineAt 1 (some .int), Cond.methodLink RX1 132 yX1_mailAt, Cond.static yX1_mailAt, Cond.code yX1_mailAt cX1_mailAt 1 (some .int), Cond.methodLink RX1 135 yX1_kindAt, Cond.instanceMethod yX1_kindAt, Cond.selects RX1 yX1_kindAt yX1_kindAt, Cond.code yX1_kindAt cX1_kindAt 4 (some .char), Cond.fieldLink RX1 29 "TalkRebuilder" "marksAt" "[I", Cond.methodLink RX1 139 yX1_signatureLength, Cond.instanceMethod yX1_signatureLength, Cond.selects RX1 yX1_signatureLength yX1_signatureLength, Cond.code yX1_signatureLength cX1_signatureLength 4 (some .int), Cond.fieldLink RX1 17 "TalkRebuilder" "authors" "[I", Cond.methodLink RX1 221 Lib.Math.max.name, Cond.static Lib.Math.max.name, Cond.initialized "java/lang/Math", Cond.code Lib.Math.max.name Lib.Math.max.code 2 (some .int), Cond.methodLink RX1 218 yX1_commonEnd, Cond.instanceMethod yX1_commonEnd, Cond.selects RX1 yX1_commonEnd yX1_commonEnd]
def wsL_newShare_r3 : List Cond := [Cond.code yX1_commonEnd cX1_commonEnd 7 (some .int), Cond.methodLink RX1 226 Lib.Math.min.name, Cond.static Lib.Math.min.name, Cond.code Lib.Math.min.name Lib.Math.min.code 2 (some .int), Cond.fieldLink RX1 32 "TalkRebuilder" "wordsAt" "[I", Cond.methodLink RX1 80 yX1_placeOf, Cond.static yX1_placeOf, Cond.code yX1_placeOf cX1_placeOf 2 (some .int), Cond.methodLink RX1 121 yX1_hasPartner, Cond.instanceMethod yX1_hasPartner, Cond.selects RX1 yX1_hasPartner yX1_hasPartner, Cond.code yX1_hasPartner cX1_hasPartner 2 (some .boolean), Cond.fieldLink RX1 35 "TalkRebuilder" "partnersAt" "[I", Cond.methodLink RX1 101 yX1_answersMissing, Cond.instanceMethod yX1_answersMissing, Cond.selects RX1 yX1_answersMissing yX1_answersMissing, Cond.code yX1_answersMissing cX1_answersMissing 2 (some .boolean), Cond.fieldLink RX1 23 "TalkRebuilder" "answeredDates" "[I", Cond.methodLink RX1 93 yX1_parentOf, Cond.instanceMethod yX1_parentOf, Cond.selects RX1 yX1_parentOf yX1_parentOf, Cond.code yX1_parentOf cX1_parentOf 2 (some .int), Cond.methodLink RX1 63 yX1_mailOfDate, Cond.instanceMethod yX1_mailOfDate]
def wsL_newShare_r4 : List Cond := [Cond.selects RX1 yX1_mailOfDate yX1_mailOfDate, Cond.code yX1_mailOfDate cX1_mailOfDate 3 (some .int), Cond.fieldLink RX1 13 "TalkRebuilder" "dates" "[I", Cond.methodLink RX1 211 yX1_isDouble, Cond.instanceMethod yX1_isDouble, Cond.selects RX1 yX1_isDouble yX1_isDouble, Cond.code yX1_isDouble cX1_isDouble 3 (some .boolean), Cond.methodLink RX1 214 yX1_isEarlier, Cond.instanceMethod yX1_isEarlier, Cond.selects RX1 yX1_isEarlier yX1_isEarlier, Cond.code yX1_isEarlier cX1_isEarlier 3 (some .boolean)]
def wsL_newShare : List Cond := .codeWith yL_newShare cL_newShare 3 (some .int) [(0, 8, 11, 88)] :: ((wsL_newShare_r1 ++ (wsL_newShare_r2 ++ (wsL_newShare_r3 ++ wsL_newShare_r4))) ++ wsX10 ++ (vx_atM "java/lang/ArrayIndexOutOfBoundsException" ["java/lang/IndexOutOfBoundsException", "java/lang/RuntimeException", "java/lang/Exception"]).filter goodWord ++ (vx_atS RX1 175 "java/lang/ArithmeticException" ["java/lang/RuntimeException", "java/lang/Exception"]).filter goodWord)
def wsL_meanSize_r1 : List Cond := [Cond.classLink RL 88 "java/lang/ArithmeticException", Cond.methodLink RL 90 yX1_meanSize, Cond.instanceMethod yX1_meanSize, Cond.selects RX1 yX1_meanSize yX1_meanSize, Cond.initialized RX1, Cond.code yX1_meanSize cX1_meanSize 2 (some .double), Cond.classLink RX1 171 "java/lang/ArithmeticException", Cond.initialized "java/lang/ArithmeticException", Cond.fieldLink RX1 9 "TalkRebuilder" "mailCount" "I", Cond.methodLink RX1 179 yX1_threads, Cond.instanceMethod yX1_threads, Cond.selects RX1 yX1_threads yX1_threads, Cond.code yX1_threads cX1_threads 3 (some .int), Cond.methodLink RX1 165 yX1_rootOf, Cond.instanceMethod yX1_rootOf, Cond.selects RX1 yX1_rootOf yX1_rootOf, Cond.code yX1_rootOf cX1_rootOf 5 (some .int), Cond.methodLink RX1 229 yX1_parentInThread, Cond.instanceMethod yX1_parentInThread, Cond.selects RX1 yX1_parentInThread yX1_parentInThread, Cond.code yX1_parentInThread cX1_parentInThread 4 (some .int), Cond.fieldLink RX1 20 "TalkRebuilder" "subjects" "[I", Cond.methodLink RX1 93 yX1_parentOf, Cond.instanceMethod yX1_parentOf]
def wsL_meanSize_r2 : List Cond := [Cond.selects RX1 yX1_parentOf yX1_parentOf, Cond.code yX1_parentOf cX1_parentOf 2 (some .int), Cond.fieldLink RX1 23 "TalkRebuilder" "answeredDates" "[I", Cond.methodLink RX1 63 yX1_mailOfDate, Cond.instanceMethod yX1_mailOfDate, Cond.selects RX1 yX1_mailOfDate yX1_mailOfDate, Cond.code yX1_mailOfDate cX1_mailOfDate 3 (some .int), Cond.fieldLink RX1 13 "TalkRebuilder" "dates" "[I"]
def wsL_meanSize : List Cond := .codeWith yL_meanSize cL_meanSize 3 (some .int) [(0, 7, 10, 88)] :: ((wsL_meanSize_r1 ++ wsL_meanSize_r2) ++ wsX10 ++ (vx_atM "java/lang/ArrayIndexOutOfBoundsException" ["java/lang/IndexOutOfBoundsException", "java/lang/RuntimeException", "java/lang/Exception"]).filter goodWord ++ (vx_atS RX1 175 "java/lang/ArithmeticException" ["java/lang/RuntimeException", "java/lang/Exception"]).filter goodWord)
def wsL_law0_r1 : List Cond := [Cond.classLink RL 8 RX1, Cond.instantiable RX1 12, Cond.initialized RX1, Cond.classLink RL 95 RX2, Cond.instantiable RX2 11, Cond.initialized RX2, Cond.arrayClass .long, Cond.arrayClass .double, Cond.methodLink RL 94 yX1_init, Cond.instanceMethod yX1_init, Cond.code yX1_init cX1_init 2 none, Cond.methodLink RX1 3 objectInit, Cond.instanceMethod objectInit, Cond.code objectInit ⟨#[0xb1]⟩ 1 none, Cond.fieldLink RX1 9 "TalkRebuilder" "mailCount" "I", Cond.arrayClass .int, Cond.fieldLink RX1 13 "TalkRebuilder" "dates" "[I", Cond.fieldLink RX1 17 "TalkRebuilder" "authors" "[I", Cond.fieldLink RX1 20 "TalkRebuilder" "subjects" "[I", Cond.fieldLink RX1 23 "TalkRebuilder" "answeredDates" "[I", Cond.fieldLink RX1 26 "TalkRebuilder" "lineCounts" "[I", Cond.fieldLink RX1 29 "TalkRebuilder" "marksAt" "[I", Cond.fieldLink RX1 32 "TalkRebuilder" "wordsAt" "[I", Cond.fieldLink RX1 35 "TalkRebuilder" "partnersAt" "[I"]
def wsL_law0_r2 : List Cond := [Cond.classLink RX1 38 RX0, Cond.instantiable RX0 3, Cond.initialized RX0, Cond.fieldLink RX1 41 "TalkRebuilder" "alignment" "LTalkRebuilder$Alignment;", Cond.arrayClass .boolean, Cond.fieldLink RX1 45 "TalkRebuilder" "counted" "[Z", Cond.fieldLink RX1 49 "TalkRebuilder" "roots" "[I", Cond.methodLink RX1 40 yX0_init, Cond.instanceMethod yX0_init, Cond.code yX0_init cX0_init 1 none, Cond.methodLink RX0 3 objectInit, Cond.fieldLink RX0 9 "TalkRebuilder$Alignment" "wanted" "[I", Cond.fieldLink RX0 15 "TalkRebuilder$Alignment" "offered" "[I", Cond.classLink RX0 18 "[[I", Cond.fieldLink RX0 20 "TalkRebuilder$Alignment" "most" "[[I", Cond.methodLink RL 97 yX2_init, Cond.instanceMethod yX2_init, Cond.code yX2_init cX2_init 1 none, Cond.methodLink RX2 1 objectInit, Cond.fieldLink RX2 7 "TalkRebuilderModel" "date" "[I", Cond.fieldLink RX2 13 "TalkRebuilderModel" "author" "[I", Cond.fieldLink RX2 16 "TalkRebuilderModel" "subject" "[I", Cond.fieldLink RX2 19 "TalkRebuilderModel" "answered" "[I", Cond.fieldLink RX2 22 "TalkRebuilderModel" "many" "[I"]
def wsL_law0_r3 : List Cond := [Cond.fieldLink RX2 25 "TalkRebuilderModel" "marks" "[I", Cond.fieldLink RX2 28 "TalkRebuilderModel" "words" "[I", Cond.fieldLink RX2 31 "TalkRebuilderModel" "partnerOf" "[I", Cond.fieldLink RX2 34 "TalkRebuilderModel" "best" "[I", Cond.methodLink RL 98 yL_arrive, Cond.static yL_arrive, Cond.initialized RL, Cond.codeWith yL_arrive cL_arrive 7 (some .int) [(0, 14, 17, 13), (0, 14, 21, 15)], Cond.classLink RL 13 "java/lang/IllegalArgumentException", Cond.classLink RL 15 "java/lang/IllegalStateException", Cond.methodLink RL 7 yX1_arrive, Cond.instanceMethod yX1_arrive, Cond.selects RX1 yX1_arrive yX1_arrive, Cond.code yX1_arrive cX1_arrive 6 (some .int), Cond.classLink RX1 56 "java/lang/IllegalArgumentException", Cond.initialized "java/lang/IllegalArgumentException", Cond.classLink RX1 69 "java/lang/IllegalStateException", Cond.initialized "java/lang/IllegalStateException", Cond.methodLink RX1 52 yX1_isWithin, Cond.static yX1_isWithin, Cond.code yX1_isWithin cX1_isWithin 3 (some .boolean), Cond.methodLink RX1 63 yX1_mailOfDate, Cond.instanceMethod yX1_mailOfDate, Cond.selects RX1 yX1_mailOfDate yX1_mailOfDate]
def wsL_law0_r4 : List Cond := [Cond.code yX1_mailOfDate cX1_mailOfDate 3 (some .int), Cond.methodLink RL 103 yX2_arrive, Cond.instanceMethod yX2_arrive, Cond.selects RX2 yX2_arrive yX2_arrive, Cond.code yX2_arrive cX2_arrive 5 (some .int), Cond.fieldLink RX2 41 "TalkRebuilderModel" "mails" "I", Cond.methodLink RX2 44 yX2_in, Cond.static yX2_in, Cond.code yX2_in cX2_in 3 (some .boolean), Cond.methodLink RX2 52 yX2_dated, Cond.instanceMethod yX2_dated, Cond.selects RX2 yX2_dated yX2_dated, Cond.code yX2_dated cX2_dated 4 (some .int), Cond.methodLink RX2 56 yX2_fails, Cond.instanceMethod yX2_fails, Cond.selects RX2 yX2_fails yX2_fails, Cond.code yX2_fails cX2_fails 2 (some .int), Cond.fieldLink RX2 37 "TalkRebuilderModel" "thrown" "I", Cond.methodLink RX2 59 yX2_tells, Cond.instanceMethod yX2_tells, Cond.selects RX2 yX2_tells yX2_tells, Cond.code yX2_tells cX2_tells 2 (some .int), Cond.methodLink RL 104 yX2_thrown, Cond.instanceMethod yX2_thrown]
def wsL_law0_r5 : List Cond := [Cond.selects RX2 yX2_thrown yX2_thrown, Cond.code yX2_thrown cX2_thrown 1 (some .int), Cond.methodLink RL 108 yL_addLine, Cond.static yL_addLine, Cond.codeWith yL_addLine cL_addLine 6 (some .int) [(0, 12, 15, 21), (0, 12, 19, 13), (0, 12, 23, 15)], Cond.classLink RL 21 "java/lang/IndexOutOfBoundsException", Cond.methodLink RL 17 yX1_addLine, Cond.instanceMethod yX1_addLine, Cond.selects RX1 yX1_addLine yX1_addLine, Cond.code yX1_addLine cX1_addLine 5 (some .int), Cond.methodLink RX1 74 yX1_requireMail, Cond.instanceMethod yX1_requireMail, Cond.selects RX1 yX1_requireMail yX1_requireMail, Cond.code yX1_requireMail cX1_requireMail 2 none, Cond.classLink RX1 184 "java/lang/IndexOutOfBoundsException", Cond.initialized "java/lang/IndexOutOfBoundsException", Cond.methodLink RX1 80 yX1_placeOf, Cond.static yX1_placeOf, Cond.code yX1_placeOf cX1_placeOf 2 (some .int), Cond.methodLink RX1 84 yX1_realignAround, Cond.instanceMethod yX1_realignAround, Cond.selects RX1 yX1_realignAround yX1_realignAround, Cond.code yX1_realignAround cX1_realignAround 3 none, Cond.methodLink RX1 93 yX1_parentOf]
def wsL_law0_r6 : List Cond := [Cond.instanceMethod yX1_parentOf, Cond.selects RX1 yX1_parentOf yX1_parentOf, Cond.code yX1_parentOf cX1_parentOf 2 (some .int), Cond.methodLink RX1 195 yX1_realign, Cond.instanceMethod yX1_realign, Cond.selects RX1 yX1_realign yX1_realign, Cond.code yX1_realign cX1_realign 6 none, Cond.methodLink RX1 108 yX1_faceParent, Cond.instanceMethod yX1_faceParent, Cond.selects RX1 yX1_faceParent yX1_faceParent, Cond.code yX1_faceParent cX1_faceParent 5 none, Cond.methodLink RX1 201 yX0_clear, Cond.instanceMethod yX0_clear, Cond.selects RX0 yX0_clear yX0_clear, Cond.code yX0_clear cX0_clear 2 none, Cond.methodLink RX1 204 yX0_putLine, Cond.instanceMethod yX0_putLine, Cond.selects RX0 yX0_putLine yX0_putLine, Cond.code yX0_putLine cX0_putLine 4 none, Cond.methodLink RX0 27 yX0_markedWord, Cond.static yX0_markedWord, Cond.code yX0_markedWord cX0_markedWord 2 (some .int), Cond.methodLink RX1 208 yX0_putParentLine, Cond.instanceMethod yX0_putParentLine]
def wsL_law0_r7 : List Cond := [Cond.selects RX0 yX0_putParentLine yX0_putParentLine, Cond.code yX0_putParentLine cX0_putParentLine 4 none, Cond.methodLink RX1 111 yX0_fillTable, Cond.instanceMethod yX0_fillTable, Cond.selects RX0 yX0_fillTable yX0_fillTable, Cond.code yX0_fillTable cX0_fillTable 4 none, Cond.methodLink RX0 31 Lib.Math.max.name, Cond.static Lib.Math.max.name, Cond.initialized "java/lang/Math", Cond.code Lib.Math.max.name Lib.Math.max.code 2 (some .int), Cond.methodLink RX1 198 yX0_earliestPartner, Cond.instanceMethod yX0_earliestPartner, Cond.selects RX0 yX0_earliestPartner yX0_earliestPartner, Cond.code yX0_earliestPartner cX0_earliestPartner 4 (some .int), Cond.methodLink RL 111 yX2_addLine, Cond.instanceMethod yX2_addLine, Cond.selects RX2 yX2_addLine yX2_addLine, Cond.code yX2_addLine cX2_addLine 4 (some .int), Cond.methodLink RX2 48 yX2_isMail, Cond.instanceMethod yX2_isMail, Cond.selects RX2 yX2_isMail yX2_isMail, Cond.code yX2_isMail cX2_isMail 2 (some .boolean), Cond.methodLink RL 112 yL_removeLine, Cond.static yL_removeLine]
def wsL_law0_r8 : List Cond := [Cond.codeWith yL_removeLine cL_removeLine 4 (some .int) [(0, 9, 12, 21), (0, 9, 15, 15)], Cond.methodLink RL 23 yX1_removeLine, Cond.instanceMethod yX1_removeLine, Cond.selects RX1 yX1_removeLine yX1_removeLine, Cond.code yX1_removeLine cX1_removeLine 2 (some .int), Cond.methodLink RL 115 yX2_removeLine, Cond.instanceMethod yX2_removeLine, Cond.selects RX2 yX2_removeLine yX2_removeLine, Cond.code yX2_removeLine cX2_removeLine 2 (some .int), Cond.methodLink RL 116 yX1_mails, Cond.instanceMethod yX1_mails, Cond.selects RX1 yX1_mails yX1_mails, Cond.code yX1_mails cX1_mails 1 (some .int), Cond.methodLink RL 119 yX2_mails, Cond.instanceMethod yX2_mails, Cond.selects RX2 yX2_mails yX2_mails, Cond.code yX2_mails cX2_mails 1 (some .int), Cond.methodLink RL 120 yL_lines, Cond.static yL_lines, Cond.codeWith yL_lines cL_lines 4 (some .int) [(0, 9, 12, 21)], Cond.methodLink RL 27 yX1_lines, Cond.instanceMethod yX1_lines, Cond.selects RX1 yX1_lines yX1_lines, Cond.code yX1_lines cX1_lines 2 (some .int)]
def wsL_law0_r9 : List Cond := [Cond.methodLink RL 122 yX2_lines, Cond.instanceMethod yX2_lines, Cond.selects RX2 yX2_lines yX2_lines, Cond.code yX2_lines cX2_lines 2 (some .int), Cond.methodLink RL 123 yL_word, Cond.static yL_word, Cond.codeWith yL_word cL_word 5 (some .int) [(0, 10, 13, 21)], Cond.methodLink RL 30 yX1_word, Cond.instanceMethod yX1_word, Cond.selects RX1 yX1_word yX1_word, Cond.code yX1_word cX1_word 3 (some .int), Cond.methodLink RX1 89 yX1_requireLine, Cond.instanceMethod yX1_requireLine, Cond.selects RX1 yX1_requireLine yX1_requireLine, Cond.code yX1_requireLine cX1_requireLine 3 none, Cond.methodLink RL 126 yX2_word, Cond.instanceMethod yX2_word, Cond.selects RX2 yX2_word yX2_word, Cond.code yX2_word cX2_word 3 (some .int), Cond.methodLink RX2 62 yX2_isLine, Cond.instanceMethod yX2_isLine, Cond.selects RX2 yX2_isLine yX2_isLine, Cond.code yX2_isLine cX2_isLine 3 (some .boolean), Cond.methodLink RL 127 yL_parent]
def wsL_law0_r10 : List Cond := [Cond.static yL_parent, Cond.codeWith yL_parent cL_parent 4 (some .int) [(0, 9, 12, 21), (0, 9, 15, 37)], Cond.classLink RL 37 "java/util/NoSuchElementException", Cond.methodLink RL 34 yX1_parent, Cond.instanceMethod yX1_parent, Cond.selects RX1 yX1_parent yX1_parent, Cond.code yX1_parent cX1_parent 3 (some .int), Cond.classLink RX1 96 "java/util/NoSuchElementException", Cond.initialized "java/util/NoSuchElementException", Cond.methodLink RL 129 yX2_parent, Cond.instanceMethod yX2_parent, Cond.selects RX2 yX2_parent yX2_parent, Cond.code yX2_parent cX2_parent 2 (some .int), Cond.methodLink RX2 66 yX2_parentOf, Cond.instanceMethod yX2_parentOf, Cond.selects RX2 yX2_parentOf yX2_parentOf, Cond.code yX2_parentOf cX2_parentOf 2 (some .int), Cond.methodLink RL 130 yX1_missing, Cond.instanceMethod yX1_missing, Cond.selects RX1 yX1_missing yX1_missing, Cond.code yX1_missing cX1_missing 3 (some .int), Cond.methodLink RX1 101 yX1_answersMissing, Cond.instanceMethod yX1_answersMissing, Cond.selects RX1 yX1_answersMissing yX1_answersMissing]
def wsL_law0_r11 : List Cond := [Cond.code yX1_answersMissing cX1_answersMissing 2 (some .boolean), Cond.methodLink RX1 105 yX1_isFirstToAnswerItsDate, Cond.instanceMethod yX1_isFirstToAnswerItsDate, Cond.selects RX1 yX1_isFirstToAnswerItsDate yX1_isFirstToAnswerItsDate, Cond.code yX1_isFirstToAnswerItsDate cX1_isFirstToAnswerItsDate 3 (some .boolean), Cond.methodLink RL 133 yX2_missing, Cond.instanceMethod yX2_missing, Cond.selects RX2 yX2_missing yX2_missing, Cond.code yX2_missing cX2_missing 5 (some .int), Cond.methodLink RL 134 yL_aligned, Cond.static yL_aligned, Cond.codeWith yL_aligned cL_aligned 4 (some .int) [(0, 9, 12, 21)], Cond.methodLink RL 39 yX1_aligned, Cond.instanceMethod yX1_aligned, Cond.selects RX1 yX1_aligned yX1_aligned, Cond.code yX1_aligned cX1_aligned 2 (some .int), Cond.methodLink RX1 114 yX0_mostPartners, Cond.instanceMethod yX0_mostPartners, Cond.selects RX0 yX0_mostPartners yX0_mostPartners, Cond.code yX0_mostPartners cX0_mostPartners 1 (some .int), Cond.methodLink RL 136 yX2_aligned, Cond.instanceMethod yX2_aligned, Cond.selects RX2 yX2_aligned yX2_aligned, Cond.code yX2_aligned cX2_aligned 2 (some .int)]
def wsL_law0_r12 : List Cond := [Cond.methodLink RX2 76 yX2_alignedOf, Cond.instanceMethod yX2_alignedOf, Cond.selects RX2 yX2_alignedOf yX2_alignedOf, Cond.code yX2_alignedOf cX2_alignedOf 4 (some .int), Cond.methodLink RX2 72 yX2_aligns, Cond.instanceMethod yX2_aligns, Cond.selects RX2 yX2_aligns yX2_aligns, Cond.code yX2_aligns cX2_aligns 9 none, Cond.methodLink RX2 69 yX2_fits, Cond.instanceMethod yX2_fits, Cond.selects RX2 yX2_fits yX2_fits, Cond.code yX2_fits cX2_fits 3 (some .boolean), Cond.methodLink RL 137 yL_alignedByTrying, Cond.static yL_alignedByTrying, Cond.codeWith yL_alignedByTrying cL_alignedByTrying 4 (some .int) [(0, 9, 12, 21)], Cond.methodLink RL 42 yX1_alignedByTrying, Cond.instanceMethod yX1_alignedByTrying, Cond.selects RX1 yX1_alignedByTrying yX1_alignedByTrying, Cond.code yX1_alignedByTrying cX1_alignedByTrying 2 (some .int), Cond.methodLink RX1 118 yX0_mostPartnersByTrying, Cond.instanceMethod yX0_mostPartnersByTrying, Cond.selects RX0 yX0_mostPartnersByTrying yX0_mostPartnersByTrying, Cond.code yX0_mostPartnersByTrying cX0_mostPartnersByTrying 1 (some .int), Cond.methodLink RX0 36 yX0_tryFrom]
def wsL_law0_r13 : List Cond := [Cond.static yX0_tryFrom, Cond.code yX0_tryFrom cX0_tryFrom 6 (some .int), Cond.methodLink RL 139 yX2_alignedByTrying, Cond.instanceMethod yX2_alignedByTrying, Cond.selects RX2 yX2_alignedByTrying yX2_alignedByTrying, Cond.code yX2_alignedByTrying cX2_alignedByTrying 2 (some .int), Cond.methodLink RL 140 yL_partner, Cond.static yL_partner, Cond.codeWith yL_partner cL_partner 5 (some .int) [(0, 10, 13, 21), (0, 10, 17, 37)], Cond.methodLink RL 45 yX1_partner, Cond.instanceMethod yX1_partner, Cond.selects RX1 yX1_partner yX1_partner, Cond.code yX1_partner cX1_partner 4 (some .int), Cond.methodLink RX1 121 yX1_hasPartner, Cond.instanceMethod yX1_hasPartner, Cond.selects RX1 yX1_hasPartner yX1_hasPartner, Cond.code yX1_hasPartner cX1_hasPartner 2 (some .boolean), Cond.methodLink RX1 154 yX1_isLine, Cond.instanceMethod yX1_isLine, Cond.selects RX1 yX1_isLine yX1_isLine, Cond.code yX1_isLine cX1_isLine 2 (some .boolean), Cond.methodLink RX1 126 yX1_lineAt, Cond.static yX1_lineAt, Cond.code yX1_lineAt cX1_lineAt 1 (some .int)]
def wsL_law0_r14 : List Cond := [Cond.methodLink RX1 132 yX1_mailAt, Cond.static yX1_mailAt, Cond.code yX1_mailAt cX1_mailAt 1 (some .int), Cond.methodLink RL 142 yX2_partner, Cond.instanceMethod yX2_partner, Cond.selects RX2 yX2_partner yX2_partner, Cond.code yX2_partner cX2_partner 3 (some .int), Cond.methodLink RL 143 yL_originMail, Cond.static yL_originMail, Cond.codeWith yL_originMail cL_originMail 5 (some .int) [(0, 10, 13, 21)], Cond.methodLink RL 48 yX1_originMail, Cond.instanceMethod yX1_originMail, Cond.selects RX1 yX1_originMail yX1_originMail, Cond.code yX1_originMail cX1_originMail 3 (some .int), Cond.methodLink RX1 129 yX1_originOf, Cond.instanceMethod yX1_originOf, Cond.selects RX1 yX1_originOf yX1_originOf, Cond.code yX1_originOf cX1_originOf 4 (some .int), Cond.methodLink RL 145 yX2_originMail, Cond.instanceMethod yX2_originMail, Cond.selects RX2 yX2_originMail yX2_originMail, Cond.code yX2_originMail cX2_originMail 3 (some .int), Cond.methodLink RX2 79 yX2_alignsAll, Cond.instanceMethod yX2_alignsAll]
def wsL_law0_r15 : List Cond := [Cond.selects RX2 yX2_alignsAll yX2_alignsAll, Cond.code yX2_alignsAll cX2_alignsAll 2 none, Cond.methodLink RX2 82 yX2_origin, Cond.instanceMethod yX2_origin, Cond.selects RX2 yX2_origin yX2_origin, Cond.code yX2_origin cX2_origin 5 (some .int), Cond.methodLink RL 146 yL_originLine, Cond.static yL_originLine, Cond.codeWith yL_originLine cL_originLine 5 (some .int) [(0, 10, 13, 21)], Cond.methodLink RL 51 yX1_originLine, Cond.instanceMethod yX1_originLine, Cond.selects RX1 yX1_originLine yX1_originLine, Cond.code yX1_originLine cX1_originLine 3 (some .int), Cond.methodLink RL 148 yX2_originLine, Cond.instanceMethod yX2_originLine, Cond.selects RX2 yX2_originLine yX2_originLine, Cond.code yX2_originLine cX2_originLine 3 (some .int), Cond.methodLink RL 149 yL_kind, Cond.static yL_kind, Cond.codeWith yL_kind cL_kind 5 (some .int) [(0, 10, 13, 21)], Cond.methodLink RL 54 yX1_kind, Cond.instanceMethod yX1_kind, Cond.selects RX1 yX1_kind yX1_kind, Cond.code yX1_kind cX1_kind 3 (some .char)]
def wsL_law0_r16 : List Cond := [Cond.methodLink RX1 135 yX1_kindAt, Cond.instanceMethod yX1_kindAt, Cond.selects RX1 yX1_kindAt yX1_kindAt, Cond.code yX1_kindAt cX1_kindAt 4 (some .char), Cond.methodLink RX1 139 yX1_signatureLength, Cond.instanceMethod yX1_signatureLength, Cond.selects RX1 yX1_signatureLength yX1_signatureLength, Cond.code yX1_signatureLength cX1_signatureLength 4 (some .int), Cond.methodLink RX1 221 Lib.Math.max.name, Cond.methodLink RX1 218 yX1_commonEnd, Cond.instanceMethod yX1_commonEnd, Cond.selects RX1 yX1_commonEnd yX1_commonEnd, Cond.code yX1_commonEnd cX1_commonEnd 7 (some .int), Cond.methodLink RX1 226 Lib.Math.min.name, Cond.static Lib.Math.min.name, Cond.code Lib.Math.min.name Lib.Math.min.code 2 (some .int), Cond.methodLink RX1 211 yX1_isDouble, Cond.instanceMethod yX1_isDouble, Cond.selects RX1 yX1_isDouble yX1_isDouble, Cond.code yX1_isDouble cX1_isDouble 3 (some .boolean), Cond.methodLink RX1 214 yX1_isEarlier, Cond.instanceMethod yX1_isEarlier, Cond.selects RX1 yX1_isEarlier yX1_isEarlier, Cond.code yX1_isEarlier cX1_isEarlier 3 (some .boolean)]
def wsL_law0_r17 : List Cond := [Cond.methodLink RL 151 yX2_kind, Cond.instanceMethod yX2_kind, Cond.selects RX2 yX2_kind yX2_kind, Cond.code yX2_kind cX2_kind 3 (some .char), Cond.methodLink RX2 95 yX2_kindOf, Cond.instanceMethod yX2_kindOf, Cond.selects RX2 yX2_kindOf yX2_kindOf, Cond.code yX2_kindOf cX2_kindOf 4 (some .char), Cond.methodLink RX2 89 yX2_signed, Cond.instanceMethod yX2_signed, Cond.selects RX2 yX2_signed yX2_signed, Cond.code yX2_signed cX2_signed 5 (some .int), Cond.methodLink RX2 86 yX2_endAlike, Cond.instanceMethod yX2_endAlike, Cond.selects RX2 yX2_endAlike yX2_endAlike, Cond.code yX2_endAlike cX2_endAlike 8 (some .boolean), Cond.methodLink RX2 92 yX2_stoodBefore, Cond.instanceMethod yX2_stoodBefore, Cond.selects RX2 yX2_stoodBefore yX2_stoodBefore, Cond.code yX2_stoodBefore cX2_stoodBefore 7 (some .boolean), Cond.methodLink RL 152 yL_signature, Cond.static yL_signature, Cond.codeWith yL_signature cL_signature 4 (some .int) [(0, 9, 12, 21)], Cond.methodLink RL 58 yX1_signature]
def wsL_law0_r18 : List Cond := [Cond.instanceMethod yX1_signature, Cond.selects RX1 yX1_signature yX1_signature, Cond.code yX1_signature cX1_signature 2 (some .int), Cond.methodLink RL 154 yX2_signature, Cond.instanceMethod yX2_signature, Cond.selects RX2 yX2_signature yX2_signature, Cond.code yX2_signature cX2_signature 2 (some .int), Cond.methodLink RL 155 yL_answersMail, Cond.static yL_answersMail, Cond.codeWith yL_answersMail cL_answersMail 5 (some .int) [(0, 10, 13, 21), (0, 10, 17, 64), (0, 10, 21, 37)], Cond.classLink RL 64 "java/lang/UnsupportedOperationException", Cond.methodLink RL 61 yX1_answersMail, Cond.instanceMethod yX1_answersMail, Cond.selects RX1 yX1_answersMail yX1_answersMail, Cond.code yX1_answersMail cX1_answersMail 3 (some .int), Cond.methodLink RX1 142 yX1_requireAnswered, Cond.instanceMethod yX1_requireAnswered, Cond.selects RX1 yX1_requireAnswered yX1_requireAnswered, Cond.code yX1_requireAnswered cX1_requireAnswered 3 (some .int), Cond.classLink RX1 160 "java/lang/UnsupportedOperationException", Cond.initialized "java/lang/UnsupportedOperationException", Cond.methodLink RX1 145 yX1_isNew, Cond.instanceMethod yX1_isNew, Cond.selects RX1 yX1_isNew yX1_isNew]
def wsL_law0_r19 : List Cond := [Cond.code yX1_isNew cX1_isNew 2 (some .boolean), Cond.methodLink RX1 148 yX1_answeredBy, Cond.instanceMethod yX1_answeredBy, Cond.selects RX1 yX1_answeredBy yX1_answeredBy, Cond.code yX1_answeredBy cX1_answeredBy 4 (some .int), Cond.methodLink RL 157 yX2_answersMail, Cond.instanceMethod yX2_answersMail, Cond.selects RX2 yX2_answersMail yX2_answersMail, Cond.code yX2_answersMail cX2_answersMail 4 (some .int), Cond.methodLink RX2 102 yX2_asksAnswered, Cond.instanceMethod yX2_asksAnswered, Cond.selects RX2 yX2_asksAnswered yX2_asksAnswered, Cond.code yX2_asksAnswered cX2_asksAnswered 4 (some .int), Cond.methodLink RX2 99 yX2_answersOf, Cond.instanceMethod yX2_answersOf, Cond.selects RX2 yX2_answersOf yX2_answersOf, Cond.code yX2_answersOf cX2_answersOf 5 (some .int), Cond.methodLink RL 158 yL_answersLine, Cond.static yL_answersLine, Cond.codeWith yL_answersLine cL_answersLine 5 (some .int) [(0, 10, 13, 21), (0, 10, 17, 64), (0, 10, 21, 37)], Cond.methodLink RL 66 yX1_answersLine, Cond.instanceMethod yX1_answersLine, Cond.selects RX1 yX1_answersLine yX1_answersLine, Cond.code yX1_answersLine cX1_answersLine 3 (some .int)]
def wsL_law0_r20 : List Cond := [Cond.methodLink RL 160 yX2_answersLine, Cond.instanceMethod yX2_answersLine, Cond.selects RX2 yX2_answersLine yX2_answersLine, Cond.code yX2_answersLine cX2_answersLine 4 (some .int), Cond.methodLink RL 161 yL_answers, Cond.static yL_answers, Cond.codeWith yL_answers cL_answers 5 (some .int) [(0, 10, 13, 21)], Cond.methodLink RL 69 yX1_answers, Cond.instanceMethod yX1_answers, Cond.selects RX1 yX1_answers yX1_answers, Cond.code yX1_answers cX1_answers 6 (some .int), Cond.methodLink RL 163 yX2_answers, Cond.instanceMethod yX2_answers, Cond.selects RX2 yX2_answers yX2_answers, Cond.code yX2_answers cX2_answers 6 (some .int), Cond.methodLink RL 164 yX1_talk, Cond.instanceMethod yX1_talk, Cond.selects RX1 yX1_talk yX1_talk, Cond.code yX1_talk cX1_talk 3 (some .int), Cond.methodLink RX1 151 yX1_isInTalk, Cond.instanceMethod yX1_isInTalk, Cond.selects RX1 yX1_isInTalk yX1_isInTalk, Cond.code yX1_isInTalk cX1_isInTalk 3 (some .boolean), Cond.methodLink RL 167 yX2_talk]
def wsL_law0_r21 : List Cond := [Cond.instanceMethod yX2_talk, Cond.selects RX2 yX2_talk yX2_talk, Cond.code yX2_talk cX2_talk 1 (some .int), Cond.methodLink RX2 108 yX2_talkOf, Cond.instanceMethod yX2_talkOf, Cond.selects RX2 yX2_talkOf yX2_talkOf, Cond.code yX2_talkOf cX2_talkOf 4 (some .int), Cond.methodLink RX2 105 yX2_isTalk, Cond.instanceMethod yX2_isTalk, Cond.selects RX2 yX2_isTalk yX2_isTalk, Cond.code yX2_isTalk cX2_isTalk 3 (some .boolean), Cond.methodLink RL 168 yX1_talkByOrigins, Cond.instanceMethod yX1_talkByOrigins, Cond.selects RX1 yX1_talkByOrigins yX1_talkByOrigins, Cond.code yX1_talkByOrigins cX1_talkByOrigins 3 (some .int), Cond.methodLink RX1 157 yX1_countOnce, Cond.instanceMethod yX1_countOnce, Cond.selects RX1 yX1_countOnce yX1_countOnce, Cond.code yX1_countOnce cX1_countOnce 2 (some .boolean), Cond.methodLink RL 171 yX2_talkByOrigins, Cond.instanceMethod yX2_talkByOrigins, Cond.selects RX2 yX2_talkByOrigins yX2_talkByOrigins, Cond.code yX2_talkByOrigins cX2_talkByOrigins 1 (some .int), Cond.methodLink RL 172 yL_copies]
def wsL_law0_r22 : List Cond := [Cond.static yL_copies, Cond.codeWith yL_copies cL_copies 5 (some .int) [(0, 10, 13, 21), (0, 10, 17, 64)], Cond.methodLink RL 72 yX1_copies, Cond.instanceMethod yX1_copies, Cond.selects RX1 yX1_copies yX1_copies, Cond.code yX1_copies cX1_copies 6 (some .int), Cond.methodLink RL 174 yX2_copies, Cond.instanceMethod yX2_copies, Cond.selects RX2 yX2_copies yX2_copies, Cond.code yX2_copies cX2_copies 6 (some .int), Cond.methodLink RL 175 yL_root, Cond.static yL_root, Cond.codeWith yL_root cL_root 4 (some .int) [(0, 9, 12, 21)], Cond.methodLink RL 75 yX1_root, Cond.instanceMethod yX1_root, Cond.selects RX1 yX1_root yX1_root, Cond.code yX1_root cX1_root 2 (some .int), Cond.methodLink RX1 165 yX1_rootOf, Cond.instanceMethod yX1_rootOf, Cond.selects RX1 yX1_rootOf yX1_rootOf, Cond.code yX1_rootOf cX1_rootOf 5 (some .int), Cond.methodLink RX1 229 yX1_parentInThread, Cond.instanceMethod yX1_parentInThread, Cond.selects RX1 yX1_parentInThread yX1_parentInThread]
def wsL_law0_r23 : List Cond := [Cond.code yX1_parentInThread cX1_parentInThread 4 (some .int), Cond.methodLink RL 177 yX2_root, Cond.instanceMethod yX2_root, Cond.selects RX2 yX2_root yX2_root, Cond.code yX2_root cX2_root 2 (some .int), Cond.methodLink RX2 112 yX2_rootOf, Cond.instanceMethod yX2_rootOf, Cond.selects RX2 yX2_rootOf yX2_rootOf, Cond.code yX2_rootOf cX2_rootOf 3 (some .int), Cond.methodLink RL 178 yL_rootByRounds, Cond.static yL_rootByRounds, Cond.codeWith yL_rootByRounds cL_rootByRounds 4 (some .int) [(0, 9, 12, 21)], Cond.methodLink RL 78 yX1_rootByRounds, Cond.instanceMethod yX1_rootByRounds, Cond.selects RX1 yX1_rootByRounds yX1_rootByRounds, Cond.code yX1_rootByRounds cX1_rootByRounds 3 (some .int), Cond.methodLink RX1 168 yX1_takeRootsOfParents, Cond.instanceMethod yX1_takeRootsOfParents, Cond.selects RX1 yX1_takeRootsOfParents yX1_takeRootsOfParents, Cond.code yX1_takeRootsOfParents cX1_takeRootsOfParents 3 none, Cond.methodLink RL 180 yX2_rootByRounds, Cond.instanceMethod yX2_rootByRounds, Cond.selects RX2 yX2_rootByRounds yX2_rootByRounds, Cond.code yX2_rootByRounds cX2_rootByRounds 2 (some .int)]
def wsL_law0_r24 : List Cond := [Cond.methodLink RL 181 yX1_threads, Cond.instanceMethod yX1_threads, Cond.selects RX1 yX1_threads yX1_threads, Cond.code yX1_threads cX1_threads 3 (some .int), Cond.methodLink RL 184 yX2_threads, Cond.instanceMethod yX2_threads, Cond.selects RX2 yX2_threads yX2_threads, Cond.code yX2_threads cX2_threads 1 (some .int), Cond.methodLink RX2 115 yX2_heads, Cond.instanceMethod yX2_heads, Cond.selects RX2 yX2_heads yX2_heads, Cond.code yX2_heads cX2_heads 3 (some .int), Cond.methodLink RL 185 yL_size, Cond.static yL_size, Cond.codeWith yL_size cL_size 4 (some .int) [(0, 9, 12, 21)], Cond.methodLink RL 81 yX1_size, Cond.instanceMethod yX1_size, Cond.selects RX1 yX1_size yX1_size, Cond.code yX1_size cX1_size 5 (some .int), Cond.methodLink RL 187 yX2_size, Cond.instanceMethod yX2_size, Cond.selects RX2 yX2_size yX2_size, Cond.code yX2_size cX2_size 4 (some .int), Cond.methodLink RL 188 yL_newShare]
def wsL_law0_r25 : List Cond := [Cond.static yL_newShare, Cond.codeWith yL_newShare cL_newShare 3 (some .int) [(0, 8, 11, 88)], Cond.classLink RL 88 "java/lang/ArithmeticException", Cond.methodLink RL 84 yX1_newShare, Cond.instanceMethod yX1_newShare, Cond.selects RX1 yX1_newShare yX1_newShare, Cond.code yX1_newShare cX1_newShare 3 (some .float), Cond.classLink RX1 171 "java/lang/ArithmeticException", Cond.initialized "java/lang/ArithmeticException", Cond.methodLink RX1 176 yX1_talk, Cond.methodLink RL 191 yX2_newShare, Cond.instanceMethod yX2_newShare, Cond.selects RX2 yX2_newShare yX2_newShare, Cond.code yX2_newShare cX2_newShare 3 (some .float), Cond.methodLink RL 192 yL_meanSize, Cond.static yL_meanSize, Cond.codeWith yL_meanSize cL_meanSize 3 (some .int) [(0, 7, 10, 88)], Cond.methodLink RL 90 yX1_meanSize, Cond.instanceMethod yX1_meanSize, Cond.selects RX1 yX1_meanSize yX1_meanSize, Cond.code yX1_meanSize cX1_meanSize 2 (some .double), Cond.methodLink RX1 179 yX1_threads, Cond.methodLink RL 194 yX2_meanSize, Cond.instanceMethod yX2_meanSize]
def wsL_law0_r26 : List Cond := [Cond.selects RX2 yX2_meanSize yX2_meanSize, Cond.code yX2_meanSize cX2_meanSize 1 (some .double)]
def wsL_law0 : List Cond := (wsL_law0_r1 ++ (wsL_law0_r2 ++ (wsL_law0_r3 ++ (wsL_law0_r4 ++ (wsL_law0_r5 ++ (wsL_law0_r6 ++ (wsL_law0_r7 ++ (wsL_law0_r8 ++ (wsL_law0_r9 ++ (wsL_law0_r10 ++ (wsL_law0_r11 ++ (wsL_law0_r12 ++ (wsL_law0_r13 ++ (wsL_law0_r14 ++ (wsL_law0_r15 ++ (wsL_law0_r16 ++ (wsL_law0_r17 ++ (wsL_law0_r18 ++ (wsL_law0_r19 ++ (wsL_law0_r20 ++ (wsL_law0_r21 ++ (wsL_law0_r22 ++ (wsL_law0_r23 ++ (wsL_law0_r24 ++ (wsL_law0_r25 ++ wsL_law0_r26))))))))))))))))))))))))) ++ wsX10 ++ wsX20 ++ wsX00 ++ ([] : List Cond)
def wsL_law : List Cond := wsL_law0 ++ (vx_atM "java/lang/ArrayIndexOutOfBoundsException" ["java/lang/IndexOutOfBoundsException", "java/lang/RuntimeException", "java/lang/Exception"]).filter goodWord ++ (vx_atS RX1 60 "java/lang/IllegalArgumentException" ["java/lang/RuntimeException", "java/lang/Exception"]).filter goodWord ++ (vx_atS RX1 73 "java/lang/IllegalStateException" ["java/lang/RuntimeException", "java/lang/Exception"]).filter goodWord ++ (vx_atS RX1 188 "java/lang/IndexOutOfBoundsException" ["java/lang/RuntimeException", "java/lang/Exception"]).filter goodWord ++ (vx_atS RX1 100 "java/util/NoSuchElementException" ["java/lang/RuntimeException", "java/lang/Exception"]).filter goodWord ++ (vx_atS RX1 164 "java/lang/UnsupportedOperationException" ["java/lang/RuntimeException", "java/lang/Exception"]).filter goodWord ++ (vx_atS RX1 175 "java/lang/ArithmeticException" ["java/lang/RuntimeException", "java/lang/Exception"]).filter goodWord
abbrev vwCl : List vw_C := [(RJ0, TJ0, 2), (RJx00060, TJx00060, 6), (RX0, TX0, 3), (RX1, TX1, 12), (RX2, TX2, 11)]
end
section
/-! my own rows: numbers as naturals, options, booleans; read-only calls -/
def oI (o : Option Nat) : Int32 := match o with
  | none => -1
  | some k => nI k
def bI (b : Bool) : Int32 := match b with
  | false => 0
  | true => 1
theorem bI_eq0 {b : Bool} : bI b = 0 ↔ b = false := by cases b <;> decide +kernel
theorem nI_nm1 {k : Nat} (h : k < 2 ^ 31) : ¬ nI k = -1 := by
  intro q
  have a := nI_toInt h
  rw [q] at a
  have b : ((-1 : Int32)).toInt = -1 := by decide +kernel
  rw [b] at a
  omega
theorem nI_one : nI 1 = 1 := by decide +kernel
theorem oI_none {o : Option Nat} (h : ∀ k, o = some k → k < 2 ^ 31) : oI o = oI none ↔ o = none := by
  cases o with
  | none => exact ⟨fun _ => rfl, fun _ => rfl⟩
  | some k => exact ⟨fun q => absurd q (nI_nm1 (h k rfl)), fun q => nomatch q⟩
theorem oI_some {o : Option Nat} (h : ∀ k, o = some k → k < 2 ^ 31) {b : Nat} (hb : b < 2 ^ 31) : oI o = nI b ↔ o = some b := by
  cases o with
  | none => exact ⟨fun q => absurd q.symm (nI_nm1 hb), fun q => nomatch q⟩
  | some k => exact ⟨fun q => congrArg some ((nI_eq (h k rfl) hb).mp q), fun q => by cases q; rfl⟩
theorem nI_upd (f : Nat → Nat) (i v : Nat) : upd (fun k => nI (f k)) i (nI v) = fun k => nI (va_up f i v k) := by
  funext k
  unfold upd va_up
  split <;> rfl
theorem oI_upd (f : Nat → Option Nat) (i : Nat) (v : Option Nat) : upd (fun k => oI (f k)) i (oI v) = fun k => oI (va_up f i v k) := by
  funext k
  unfold upd va_up
  split <;> rfl
theorem bI_upd (f : Nat → Bool) (i : Nat) (v : Bool) : upd (fun k => bI (f k)) i (bI v) = fun k => bI (va_up f i v k) := by
  funext k
  unfold upd va_up
  split <;> rfl
theorem bI_nar (b : Bool) : narrow .boolean (.int (bI b)) = .int (bI b) := by cases b <;> decide +kernel
theorem n_lts {a b : Nat} (h : a < b) : ¬ b ≤ a := Nat.not_le.mpr h
def PcR (D : va_G) (tys : List (ClassId × FieldType)) (w : va_W) (av : List Value) : Array Value → State → Prop := va_Pc av (fun U => va_P D vwCl w U.heap ∧ va_K D vwCl tys U)
theorem PcR_blind (D : va_G) (tys : List (ClassId × FieldType)) (w : va_W) (av : List Value) : FrameBlind (PcR D tys w av) := fun a U g mk q => ⟨q.1, q.2.1, va_K.moved (u := U) (U := U.calling g mk a) (Vm.Alike.refl U.vm) q.2.2⟩
def PcS (av : List Value) : Array Value → State → Prop := va_Pc av (fun _ => True)
theorem PcS_blind (av : List Value) : FrameBlind (PcS av) := fun _ _ _ _ q => q
section NL
variable {p : Program} {l : Launch} {e : Env} {R : Room} {s : State} {m : MethodId} {args : Array Value} {below : List Frame} {meth : Method} {c : Code} {H : Heap} {locs : List Loc} {cells slots : Nat} {Q : State → Prop} {cc : ByteArray} {pc : Nat} {ls : Array Slot} {rest : List Value}
theorem n_top {x y : Int32} (h : x = y) (k : W p l e R s m args below meth c H locs cells slots Q (F0 m pc ls (.int (y) :: rest))) : W p l e R s m args below meth c H locs cells slots Q (F0 m pc ls (.int (x) :: rest)) := by
  rw [h]; exact k
theorem n_topo {o : Option Nat} (k0 : o = none → W p l e R s m args below meth c H locs cells slots Q (F0 m pc ls (.int (oI none) :: rest))) (k1 : ∀ v, o = some v → W p l e R s m args below meth c H locs cells slots Q (F0 m pc ls (.int (nI v) :: rest))) : W p l e R s m args below meth c H locs cells slots Q (F0 m pc ls (.int (oI o) :: rest)) := by
  cases o with
  | none => exact k0 rfl
  | some v => exact k1 v rfl
theorem n_topb {b : Bool} (k0 : b = false → W p l e R s m args below meth c H locs cells slots Q (F0 m pc ls (.int (0) :: rest))) (k1 : b = true → W p l e R s m args below meth c H locs cells slots Q (F0 m pc ls (.int (1) :: rest))) : W p l e R s m args below meth c H locs cells slots Q (F0 m pc ls (.int (bI b) :: rest)) := by
  cases b with
  | false => exact k0 rfl
  | true => exact k1 rfl
theorem n_lt (hexec : p.tables.exec = Jvm.exec) (hb : c.code = cc) {a b : Nat} (ha : a < 2 ^ 31) (hb2 : b < 2 ^ 31) {off : Int} {tgt : Nat} (hdg : decode cc pc = .ok (.if_icmp .lt off, 3)) (ht : (pc : Int) + off = (tgt : Int)) (kt : a < b → W p l e R s m args below meth c H locs cells slots Q (F0 m tgt ls rest)) (kf : ¬ a < b → W p l e R s m args below meth c H locs cells slots Q (F0 m (pc + 3) ls rest)) : W p l e R s m args below meth c H locs cells slots Q (F0 m pc ls (.int (nI b) :: .int (nI a) :: rest)) :=
  lv_icmp_lt hexec hb hdg ht (fun q => kt ((nI_ltI ha hb2).mp q)) (fun q => kf (fun r => q ((nI_ltI ha hb2).mpr r)))
theorem n_ge (hexec : p.tables.exec = Jvm.exec) (hb : c.code = cc) {a b : Nat} (ha : a < 2 ^ 31) (hb2 : b < 2 ^ 31) {off : Int} {tgt : Nat} (hdg : decode cc pc = .ok (.if_icmp .ge off, 3)) (ht : (pc : Int) + off = (tgt : Int)) (kt : b ≤ a → W p l e R s m args below meth c H locs cells slots Q (F0 m tgt ls rest)) (kf : ¬ b ≤ a → W p l e R s m args below meth c H locs cells slots Q (F0 m (pc + 3) ls rest)) : W p l e R s m args below meth c H locs cells slots Q (F0 m pc ls (.int (nI b) :: .int (nI a) :: rest)) :=
  lv_icmp_ge hexec hb hdg ht (fun q => kt ((nI_leI hb2 ha).mp q)) (fun q => kf (fun r => q ((nI_leI hb2 ha).mpr r)))
theorem n_gt (hexec : p.tables.exec = Jvm.exec) (hb : c.code = cc) {a b : Nat} (ha : a < 2 ^ 31) (hb2 : b < 2 ^ 31) {off : Int} {tgt : Nat} (hdg : decode cc pc = .ok (.if_icmp .gt off, 3)) (ht : (pc : Int) + off = (tgt : Int)) (kt : b < a → W p l e R s m args below meth c H locs cells slots Q (F0 m tgt ls rest)) (kf : ¬ b < a → W p l e R s m args below meth c H locs cells slots Q (F0 m (pc + 3) ls rest)) : W p l e R s m args below meth c H locs cells slots Q (F0 m pc ls (.int (nI b) :: .int (nI a) :: rest)) :=
  lv_icmp_gt hexec hb hdg ht (fun q => kt ((nI_ltI hb2 ha).mp q)) (fun q => kf (fun r => q ((nI_ltI hb2 ha).mpr r)))
theorem n_le (hexec : p.tables.exec = Jvm.exec) (hb : c.code = cc) {a b : Nat} (ha : a < 2 ^ 31) (hb2 : b < 2 ^ 31) {off : Int} {tgt : Nat} (hdg : decode cc pc = .ok (.if_icmp .le off, 3)) (ht : (pc : Int) + off = (tgt : Int)) (kt : a ≤ b → W p l e R s m args below meth c H locs cells slots Q (F0 m tgt ls rest)) (kf : ¬ a ≤ b → W p l e R s m args below meth c H locs cells slots Q (F0 m (pc + 3) ls rest)) : W p l e R s m args below meth c H locs cells slots Q (F0 m pc ls (.int (nI b) :: .int (nI a) :: rest)) :=
  lv_icmp_le hexec hb hdg ht (fun q => kt ((nI_leI ha hb2).mp q)) (fun q => kf (fun r => q ((nI_leI ha hb2).mpr r)))
theorem n_eq (hexec : p.tables.exec = Jvm.exec) (hb : c.code = cc) {a b : Nat} (ha : a < 2 ^ 31) (hb2 : b < 2 ^ 31) {off : Int} {tgt : Nat} (hdg : decode cc pc = .ok (.if_icmp .eq off, 3)) (ht : (pc : Int) + off = (tgt : Int)) (kt : a = b → W p l e R s m args below meth c H locs cells slots Q (F0 m tgt ls rest)) (kf : ¬ a = b → W p l e R s m args below meth c H locs cells slots Q (F0 m (pc + 3) ls rest)) : W p l e R s m args below meth c H locs cells slots Q (F0 m pc ls (.int (nI b) :: .int (nI a) :: rest)) :=
  lv_icmp_eq hexec hb hdg ht (fun q => kt ((nI_eq ha hb2).mp q)) (fun q => kf (fun r => q ((nI_eq ha hb2).mpr r)))
theorem n_ne (hexec : p.tables.exec = Jvm.exec) (hb : c.code = cc) {a b : Nat} (ha : a < 2 ^ 31) (hb2 : b < 2 ^ 31) {off : Int} {tgt : Nat} (hdg : decode cc pc = .ok (.if_icmp .ne off, 3)) (ht : (pc : Int) + off = (tgt : Int)) (kt : ¬ a = b → W p l e R s m args below meth c H locs cells slots Q (F0 m tgt ls rest)) (kf : a = b → W p l e R s m args below meth c H locs cells slots Q (F0 m (pc + 3) ls rest)) : W p l e R s m args below meth c H locs cells slots Q (F0 m pc ls (.int (nI b) :: .int (nI a) :: rest)) :=
  lv_icmp_ne hexec hb hdg ht (fun q => kt (fun r => q ((nI_eq ha hb2).mpr r))) (fun q => kf ((nI_eq ha hb2).mp q))
theorem o_eq (hexec : p.tables.exec = Jvm.exec) (hb : c.code = cc) {o : Option Nat} (ho : ∀ k, o = some k → k < 2 ^ 31) {off : Int} {tgt : Nat} (hdg : decode cc pc = .ok (.if_icmp .eq off, 3)) (ht : (pc : Int) + off = (tgt : Int)) (kt : o = none → W p l e R s m args below meth c H locs cells slots Q (F0 m tgt ls rest)) (kf : ∀ k, o = some k → W p l e R s m args below meth c H locs cells slots Q (F0 m (pc + 3) ls rest)) : W p l e R s m args below meth c H locs cells slots Q (F0 m pc ls (.int (oI none) :: .int (oI o) :: rest)) :=
  lv_icmp_eq hexec hb hdg ht (fun q => kt ((oI_none ho).mp q)) (fun q => by cases o with | none => exact absurd rfl q | some k => exact kf k rfl)
theorem o_ne (hexec : p.tables.exec = Jvm.exec) (hb : c.code = cc) {o : Option Nat} (ho : ∀ k, o = some k → k < 2 ^ 31) {off : Int} {tgt : Nat} (hdg : decode cc pc = .ok (.if_icmp .ne off, 3)) (ht : (pc : Int) + off = (tgt : Int)) (kt : ∀ k, o = some k → W p l e R s m args below meth c H locs cells slots Q (F0 m tgt ls rest)) (kf : o = none → W p l e R s m args below meth c H locs cells slots Q (F0 m (pc + 3) ls rest)) : W p l e R s m args below meth c H locs cells slots Q (F0 m pc ls (.int (oI none) :: .int (oI o) :: rest)) :=
  lv_icmp_ne hexec hb hdg ht (fun q => by cases o with | none => exact absurd rfl q | some k => exact kt k rfl) (fun q => kf ((oI_none ho).mp q))
theorem p_eq (hexec : p.tables.exec = Jvm.exec) (hb : c.code = cc) {o : Option Nat} (ho : ∀ k, o = some k → k < 2 ^ 31) {b : Nat} (hb2 : b < 2 ^ 31) {off : Int} {tgt : Nat} (hdg : decode cc pc = .ok (.if_icmp .eq off, 3)) (ht : (pc : Int) + off = (tgt : Int)) (kt : o = some b → W p l e R s m args below meth c H locs cells slots Q (F0 m tgt ls rest)) (kf : ¬ o = some b → W p l e R s m args below meth c H locs cells slots Q (F0 m (pc + 3) ls rest)) : W p l e R s m args below meth c H locs cells slots Q (F0 m pc ls (.int (nI b) :: .int (oI o) :: rest)) :=
  lv_icmp_eq hexec hb hdg ht (fun q => kt ((oI_some ho hb2).mp q)) (fun q => kf (fun r => q ((oI_some ho hb2).mpr r)))
theorem p_ne (hexec : p.tables.exec = Jvm.exec) (hb : c.code = cc) {o : Option Nat} (ho : ∀ k, o = some k → k < 2 ^ 31) {b : Nat} (hb2 : b < 2 ^ 31) {off : Int} {tgt : Nat} (hdg : decode cc pc = .ok (.if_icmp .ne off, 3)) (ht : (pc : Int) + off = (tgt : Int)) (kt : ¬ o = some b → W p l e R s m args below meth c H locs cells slots Q (F0 m tgt ls rest)) (kf : o = some b → W p l e R s m args below meth c H locs cells slots Q (F0 m (pc + 3) ls rest)) : W p l e R s m args below meth c H locs cells slots Q (F0 m pc ls (.int (nI b) :: .int (oI o) :: rest)) :=
  lv_icmp_ne hexec hb hdg ht (fun q => kt (fun r => q ((oI_some ho hb2).mpr r))) (fun q => kf ((oI_some ho hb2).mp q))
theorem nI_z {a : Nat} (ha : a < 2 ^ 31) : nI a = 0 ↔ a = 0 := by rw [← nI_0]; exact nI_eq ha (by decide)
theorem nI_gz {a : Nat} (ha : a < 2 ^ 31) : 0 < nI a ↔ 0 < a := by rw [← nI_0]; exact nI_ltI (by decide) ha
theorem nI_lz {a : Nat} (ha : a < 2 ^ 31) : nI a ≤ 0 ↔ a = 0 := by rw [← nI_0, nI_leI ha (by decide)]; omega
theorem z_eq (hexec : p.tables.exec = Jvm.exec) (hb : c.code = cc) {a : Nat} (ha : a < 2 ^ 31) {off : Int} {tgt : Nat} (hdg : decode cc pc = .ok (.ifCond .eq off, 3)) (ht : (pc : Int) + off = (tgt : Int)) (kt : a = 0 → W p l e R s m args below meth c H locs cells slots Q (F0 m tgt ls rest)) (kf : ¬ a = 0 → W p l e R s m args below meth c H locs cells slots Q (F0 m (pc + 3) ls rest)) : W p l e R s m args below meth c H locs cells slots Q (F0 m pc ls (.int (nI a) :: rest)) :=
  lv_if_eq hexec hb hdg ht (fun q => kt ((nI_z ha).mp q)) (fun q => kf (fun r => q ((nI_z ha).mpr r)))
theorem z_ne (hexec : p.tables.exec = Jvm.exec) (hb : c.code = cc) {a : Nat} (ha : a < 2 ^ 31) {off : Int} {tgt : Nat} (hdg : decode cc pc = .ok (.ifCond .ne off, 3)) (ht : (pc : Int) + off = (tgt : Int)) (kt : ¬ a = 0 → W p l e R s m args below meth c H locs cells slots Q (F0 m tgt ls rest)) (kf : a = 0 → W p l e R s m args below meth c H locs cells slots Q (F0 m (pc + 3) ls rest)) : W p l e R s m args below meth c H locs cells slots Q (F0 m pc ls (.int (nI a) :: rest)) :=
  lv_if_ne hexec hb hdg ht (fun q => kt (fun r => q ((nI_z ha).mpr r))) (fun q => kf ((nI_z ha).mp q))
theorem z_gt (hexec : p.tables.exec = Jvm.exec) (hb : c.code = cc) {a : Nat} (ha : a < 2 ^ 31) {off : Int} {tgt : Nat} (hdg : decode cc pc = .ok (.ifCond .gt off, 3)) (ht : (pc : Int) + off = (tgt : Int)) (kt : 0 < a → W p l e R s m args below meth c H locs cells slots Q (F0 m tgt ls rest)) (kf : ¬ 0 < a → W p l e R s m args below meth c H locs cells slots Q (F0 m (pc + 3) ls rest)) : W p l e R s m args below meth c H locs cells slots Q (F0 m pc ls (.int (nI a) :: rest)) :=
  lv_if_gt hexec hb hdg ht (fun q => kt ((nI_gz ha).mp q)) (fun q => kf (fun r => q ((nI_gz ha).mpr r)))
theorem z_le (hexec : p.tables.exec = Jvm.exec) (hb : c.code = cc) {a : Nat} (ha : a < 2 ^ 31) {off : Int} {tgt : Nat} (hdg : decode cc pc = .ok (.ifCond .le off, 3)) (ht : (pc : Int) + off = (tgt : Int)) (kt : a = 0 → W p l e R s m args below meth c H locs cells slots Q (F0 m tgt ls rest)) (kf : ¬ a = 0 → W p l e R s m args below meth c H locs cells slots Q (F0 m (pc + 3) ls rest)) : W p l e R s m args below meth c H locs cells slots Q (F0 m pc ls (.int (nI a) :: rest)) :=
  lv_if_le hexec hb hdg ht (fun q => kt ((nI_lz ha).mp q)) (fun q => kf (fun r => q ((nI_lz ha).mpr r)))
theorem z_lt (hexec : p.tables.exec = Jvm.exec) (hb : c.code = cc) {a : Nat} (ha : a < 2 ^ 31) {off : Int} {tgt : Nat} (hdg : decode cc pc = .ok (.ifCond .lt off, 3)) (ht : (pc : Int) + off = (tgt : Int)) (kf : W p l e R s m args below meth c H locs cells slots Q (F0 m (pc + 3) ls rest)) : W p l e R s m args below meth c H locs cells slots Q (F0 m pc ls (.int (nI a) :: rest)) :=
  lv_if_lt hexec hb hdg ht (fun q => absurd q (nI_pos ha)) (fun _ => kf)
theorem nI_m1 (k : Nat) : nI (k + 1) - 1 = nI k := nI_pred k
theorem m_lt (hexec : p.tables.exec = Jvm.exec) (hb : c.code = cc) {k : Nat} (hk : k < 2 ^ 31) {off : Int} {tgt : Nat} (hdg : decode cc pc = .ok (.ifCond .lt off, 3)) (ht : (pc : Int) + off = (tgt : Int)) (kt : k = 0 → W p l e R s m args below meth c H locs cells slots Q (F0 m tgt ls rest)) (kf : ∀ j, k = j + 1 → W p l e R s m args below meth c H locs cells slots Q (F0 m (pc + 3) ls rest)) : W p l e R s m args below meth c H locs cells slots Q (F0 m pc ls (.int (nI k - 1) :: rest)) := by
  cases k with
  | zero => exact lv_if_lt hexec hb hdg ht (fun _ => kt rfl) (fun q => absurd (by decide +kernel) q)
  | succ j => exact lv_if_lt hexec hb hdg ht (fun q => absurd (by rw [nI_m1] at q; exact q) (nI_pos (by omega))) (fun _ => kf j rfl)
theorem y_eq (hexec : p.tables.exec = Jvm.exec) (hb : c.code = cc) {b : Bool} {off : Int} {tgt : Nat} (hdg : decode cc pc = .ok (.ifCond .eq off, 3)) (ht : (pc : Int) + off = (tgt : Int)) (kt : b = false → W p l e R s m args below meth c H locs cells slots Q (F0 m tgt ls rest)) (kf : b = true → W p l e R s m args below meth c H locs cells slots Q (F0 m (pc + 3) ls rest)) : W p l e R s m args below meth c H locs cells slots Q (F0 m pc ls (.int (bI b) :: rest)) :=
  lv_if_eq hexec hb hdg ht (fun q => kt (bI_eq0.mp q)) (fun q => kf (by cases b with | false => exact absurd rfl q | true => rfl))
theorem y_ne (hexec : p.tables.exec = Jvm.exec) (hb : c.code = cc) {b : Bool} {off : Int} {tgt : Nat} (hdg : decode cc pc = .ok (.ifCond .ne off, 3)) (ht : (pc : Int) + off = (tgt : Int)) (kt : b = true → W p l e R s m args below meth c H locs cells slots Q (F0 m tgt ls rest)) (kf : b = false → W p l e R s m args below meth c H locs cells slots Q (F0 m (pc + 3) ls rest)) : W p l e R s m args below meth c H locs cells slots Q (F0 m pc ls (.int (bI b) :: rest)) :=
  lv_if_ne hexec hb hdg ht (fun q => kt (by cases b with | false => exact absurd rfl q | true => rfl)) (fun q => kf (bI_eq0.mp q))
theorem n_iald (hexec : p.tables.exec = Jvm.exec) (hb : c.code = cc) {D : va_G} {cl : List vw_C} {ws : va_W} {tys : List (ClassId × FieldType)} {a : Nat} (hK : va_K D cl tys s) (hP : va_P D cl ws H) (q0 t0 : Nat) {cA : ClassId} {n : Nat} {f : Nat → Int32} (ha : ws[q0]? = some (a, .inl (cA, n, .inl f))) (ht : tys[t0]? = some (cA, .int)) {i : Nat} (hi : i < n) (hn : n < 2 ^ 31) (hdg : decode cc pc = .ok (.iaload, 1)) (kk : W p l e R s m args below meth c H locs cells slots Q (F0 m (pc + 1) ls (.int (f i) :: rest))) : W p l e R s m args below meth c H locs cells slots Q (F0 m pc ls (.int (nI i) :: .ref a :: rest)) := by
  refine va_iald hexec hb hK hP q0 t0 ha ht (vp_in_nI hi hn) hdg ?_
  rw [nI_clamp (by omega)]
  exact kk
theorem b_bald (hexec : p.tables.exec = Jvm.exec) (hb : c.code = cc) {D : va_G} {cl : List vw_C} {ws : va_W} {tys : List (ClassId × FieldType)} {a : Nat} (hK : va_K D cl tys s) (hP : va_P D cl ws H) (q0 t0 : Nat) {cA : ClassId} {n : Nat} {f : Nat → Int32} (ha : ws[q0]? = some (a, .inl (cA, n, .inl f))) (ht : tys[t0]? = some (cA, .boolean)) {i : Nat} (hi : i < n) (hn : n < 2 ^ 31) (hdg : decode cc pc = .ok (.baload, 1)) (kk : W p l e R s m args below meth c H locs cells slots Q (F0 m (pc + 1) ls (.int (f i) :: rest))) : W p l e R s m args below meth c H locs cells slots Q (F0 m pc ls (.int (nI i) :: .ref a :: rest)) := by
  refine va_zald hexec hb hK hP q0 t0 ha ht (vp_in_nI hi hn) hdg ?_
  rw [nI_clamp (by omega)]
  exact kk
theorem r_iast (hexec : p.tables.exec = Jvm.exec) (hb : c.code = cc) {D : va_G} {cl : List vw_C} {ws : va_W} {tys : List (ClassId × FieldType)} {a : Nat} {A : Nat → Prop} {H0 : Heap} (hK : va_K D cl tys s) (hP : va_P D cl ws H) (hD : va_D A ws) (hS : va_S A H0 H locs) (q0 t0 : Nat) {cA : ClassId} {n : Nat} {f g : Nat → Int32} (ha : ws[q0]? = some (a, .inl (cA, n, .inl f))) (ht : tys[t0]? = some (cA, .int)) {i : Nat} {x : Int32} (hi : i < n) (hn : n < 2 ^ 31) (hdg : decode cc pc = .ok (.iastore, 1)) {ws' : va_W} (hg : upd f i x = g) (hw : ws.set q0 (a, .inl (cA, n, .inl g)) = ws') (kk : ∀ (H1 : Heap) (locs1 : List Loc), va_P D cl ws' H1 → va_D A ws' → va_S A H0 H1 locs1 → W p l e R s m args below meth c H1 locs1 cells slots Q (F0 m (pc + 1) ls rest)) : W p l e R s m args below meth c H locs cells slots Q (F0 m pc ls (.int x :: .int (nI i) :: .ref a :: rest)) := by
  refine va_iast hexec hb hK hP hD hS q0 t0 ha ht (vp_in_nI hi hn) hdg (fun H1 locs1 h1 h2 h3 => ?_)
  rw [nI_clamp (by omega), hg, hw] at h1 h2
  exact kk H1 locs1 h1 h2 h3
theorem b_bast (hexec : p.tables.exec = Jvm.exec) (hb : c.code = cc) {D : va_G} {cl : List vw_C} {ws : va_W} {tys : List (ClassId × FieldType)} {a : Nat} {A : Nat → Prop} {H0 : Heap} (hK : va_K D cl tys s) (hP : va_P D cl ws H) (hD : va_D A ws) (hS : va_S A H0 H locs) (q0 t0 : Nat) {cA : ClassId} {n : Nat} {f g : Nat → Int32} (ha : ws[q0]? = some (a, .inl (cA, n, .inl f))) (ht : tys[t0]? = some (cA, .boolean)) {i : Nat} {x : Int32} (hx : vp_nar .boolean x = x) (hi : i < n) (hn : n < 2 ^ 31) (hdg : decode cc pc = .ok (.bastore, 1)) {ws' : va_W} (hg : upd f i x = g) (hw : ws.set q0 (a, .inl (cA, n, .inl g)) = ws') (kk : ∀ (H1 : Heap) (locs1 : List Loc), va_P D cl ws' H1 → va_D A ws' → va_S A H0 H1 locs1 → W p l e R s m args below meth c H1 locs1 cells slots Q (F0 m (pc + 1) ls rest)) : W p l e R s m args below meth c H locs cells slots Q (F0 m pc ls (.int x :: .int (nI i) :: .ref a :: rest)) := by
  refine va_zast hexec hb hK hP hD hS q0 t0 ha ht (vp_in_nI hi hn) hdg (fun H1 locs1 h1 h2 h3 => ?_)
  rw [nI_clamp (by omega), hx, hg, hw] at h1 h2
  exact kk H1 locs1 h1 h2 h3
theorem ro_V {y : MethodName} {bytes : ByteArray} {maxL nL k index : Nat} {ret : Option FieldType} {ws : List Cond} {rm : Room} {Ts : List Cond} {own C : String} {b : Nat} {As stk : List Value} {v : Int32} {D : va_G} {tys : List (ClassId × FieldType)} {w : va_W} {q0 ci : Nat} {fs : List Value} {cq : vw_C} (S : CallFix p m c cc nL s args Ts own) (hM : Met l y ws rm (PcR D tys w (.ref b :: As)) (vp_Si (fun r => r = v)) 0 0 (fun _ => False)) (cw : CallW R s args own C index y bytes maxL ret ws rm 0 0 k) (hK : va_K D vwCl tys s) (hP : va_P D vwCl w H) (hc : vwCl[ci]? = some cq) (he : w[q0]? = some (b, .inr (ci, fs))) (hC : cq.1 = C) (hn : As.length = k) (hsize : ls.size = nL) (hstk : stk = As.reverse ++ .ref b :: rest) (hW : (rest.map fun v => v.category).sum ≤ 8) (hdg : decode cc pc = .ok (.invokevirtual index, 3)) (hf : cells ≤ R.cells ∧ slots ≤ R.slots) (kk : W p l e R s m args below meth c H locs cells slots Q (F0 m (pc + 3) ls (.int v :: rest))) : W p l e R s m args below meth c H locs cells slots Q (F0 m pc ls stk) :=
  vp_callSi (va_Run.run (va_runV (As := As) (rest := rest) S hM cw ⟨PcR_blind _ _ _ _, hC ▸ va_recv hK hP hc he, fun U hU hW9 => ⟨rfl, by rw [hU]; exact hP, va_K.moved hW9.alike hK⟩⟩ rfl hn hsize hstk (lv_room hW) hdg hf)) (fun r hr => by rw [hr]; exact kk)
theorem ro_S {y : MethodName} {bytes : ByteArray} {maxL nL k index : Nat} {ret : Option FieldType} {ws : List Cond} {rm : Room} {Ts : List Cond} {own C : String} {b : Nat} {As stk : List Value} {v : Int32} (S : CallFix p m c cc nL s args Ts own) (hM : Met l y ws rm (PcS As) (vp_Si (fun r => r = v)) 0 0 (fun _ => False)) (cw : CallB R s args own index y bytes maxL ret ws rm 0 0 k ∧ (Cond.static y).before args s = true) (hn : As.length = k) (hsize : ls.size = nL) (hstk : stk = As.reverse ++ rest) (hW : (rest.map fun v => v.category).sum ≤ 8) (hdg : decode cc pc = .ok (.invokestatic index, 3)) (hf : cells ≤ R.cells ∧ slots ≤ R.slots) (kk : W p l e R s m args below meth c H locs cells slots Q (F0 m (pc + 3) ls (.int v :: rest))) : W p l e R s m args below meth c H locs cells slots Q (F0 m pc ls stk) :=
  vp_callSi (va_Run.run (va_runS (As := As) (rest := rest) S hM cw ⟨PcS_blind _, fun U hU hW9 => ⟨rfl, trivial⟩⟩ rfl hn hsize hstk (lv_room hW) hdg hf)) (fun r hr => by rw [hr]; exact kk)
end NL
/-- two parts of a world: the callee's behind the caller's others -/
theorem va_apP {D : va_G} {cl : List vw_C} {w1 w2 : va_W} {H : Heap} (h : va_P D cl (w1 ++ w2) H) : va_P D cl w1 H ∧ va_P D cl w2 H := by
  refine ⟨fun k q hk => h k q ?_, fun k q hk => h (w1.length + k) q ?_⟩
  · rw [List.getElem?_append_left (List.getElem?_eq_some_iff.mp hk).1]; exact hk
  · rw [List.getElem?_append_right (Nat.le_add_right _ _), Nat.add_sub_cancel_left]; exact hk
theorem va_apD {A : Nat → Prop} {w1 w2 : va_W} (h : va_D A (w1 ++ w2)) : va_D A w1 ∧ va_D A w2 ∧ ∀ (i j : Nat) (x y : Nat × va_E), w1[i]? = some x → w2[j]? = some y → x.1 ≠ y.1 := by
  have e1 : ∀ (k : Nat) (q : Nat × va_E), w1[k]? = some q → (w1 ++ w2)[k]? = some q := fun k q hk => by
    rw [List.getElem?_append_left (List.getElem?_eq_some_iff.mp hk).1]; exact hk
  have e2 : ∀ (k : Nat) (q : Nat × va_E), w2[k]? = some q → (w1 ++ w2)[w1.length + k]? = some q := fun k q hk => by
    rw [List.getElem?_append_right (Nat.le_add_right _ _), Nat.add_sub_cancel_left]; exact hk
  refine ⟨⟨fun i j p q hi hj h1 => h.1 i j p q (e1 i p hi) (e1 j q hj) h1, fun k q hk => h.2 k q (e1 k q hk)⟩, ⟨fun i j p q hi hj h1 => ?_, fun k q hk => h.2 _ q (e2 k q hk)⟩, fun i j x y hi hj h1 => ?_⟩
  · have := h.1 _ _ p q (e2 i p hi) (e2 j q hj) h1
    omega
  · have h2 := h.1 _ _ x y (e1 i x hi) (e2 j y hj) h1
    have h3 := (List.getElem?_eq_some_iff.mp hi).1
    omega
theorem va_cmP {D : va_G} {cl : List vw_C} {w1 w2 : va_W} {H : Heap} (h : va_P D cl (w1 ++ w2) H) : va_P D cl (w2 ++ w1) H := va_P.app (va_apP h).2 (va_apP h).1
theorem va_cmD {A : Nat → Prop} {w1 w2 : va_W} (h : va_D A (w1 ++ w2)) : va_D A (w2 ++ w1) := va_D.app (va_apD h).2.1 (va_apD h).1 (fun i j p q hp hq r => (va_apD h).2.2 j i q p hq hp r.symm)
theorem va_sub2 {w wr : va_W} {A0 : Nat → Prop} {H0 H : Heap} {locs : List Loc} (hD : va_D A0 (wr ++ w)) (hS : va_S A0 H0 H locs) (hA : ∀ q, H0.size ≤ q → A0 q) : ∀ q, va_A w H.size q → A0 q := by
  intro q h
  rcases h with ⟨k, e, h⟩ | h
  · exact (va_apD hD).2.1.2 k (q, e) h
  · exact hA q (Nat.le_trans hS.1 h)
theorem va_join2 {A0 : Nat → Prop} {D : va_G} {cl : List vw_C} {w wr w1 : va_W} {H H1 : Heap} (hP : va_P D cl (wr ++ w) H) (hD : va_D A0 (wr ++ w)) (hk : ∀ q : Nat, q < H.size → ¬ va_A w H.size q → H1[q]? = H[q]?) (hF : ∀ q, va_A w H.size q → A0 q) (hP1 : va_P D cl w1 H1) (hD1 : va_D (va_A w H.size) w1) : va_P D cl (wr ++ w1) H1 ∧ va_D A0 (wr ++ w1) := by
  obtain ⟨d1, d2, d3⟩ := va_apD hD
  have hr := (va_apP hP).1
  have apart : ∀ (k : Nat) (q : Nat × va_E), wr[k]? = some q → q.1 < H.size ∧ ¬ va_A w H.size q.1 := by
    intro k q hq
    have hl := (hr k q hq).lt
    refine ⟨hl, fun h => ?_⟩
    rcases h with ⟨j, e, h⟩ | h
    · exact d3 k j q (q.1, e) hq h rfl
    · omega
  refine ⟨va_P.app (fun k q hq => ?_) hP1, va_D.app d1 (hD1.weaken (fun k q _ h => hF q.1 h)) (fun i j x y hx hy hxy => ?_)⟩
  · obtain ⟨g1, g2⟩ := apart k q hq
    exact (hr k q hq).kept (hk q.1 g1 g2)
  · exact (apart i x hx).2 (by rw [hxy]; exact hD1.2 j y hy)
def PcM (D : va_G) (tys : List (ClassId × FieldType)) (w : va_W) (sz : Nat) (av : List Value) : Array Value → State → Prop := va_Pc av (fun U => U.heap.size = sz ∧ va_P D vwCl w U.heap ∧ va_K D vwCl tys U ∧ va_D (fun _ => True) w)
theorem PcM_blind (D : va_G) (tys : List (ClassId × FieldType)) (w : va_W) (sz : Nat) (av : List Value) : FrameBlind (PcM D tys w sz av) := fun a U g mk q => ⟨q.1, q.2.1, q.2.2.1, va_K.moved (u := U) (U := U.calling g mk a) (Vm.Alike.refl U.vm) q.2.2.2.1, q.2.2.2.2⟩
def AtW (D : va_G) (tys : List (ClassId × FieldType)) (A : Nat → Prop) (w : va_W) (t : State) : Prop := va_P D vwCl w t.heap ∧ va_K D vwCl tys t ∧ va_D A w
section NM
variable {p : Program} {l : Launch} {e : Env} {R : Room} {s : State} {m : MethodId} {args : Array Value} {below : List Frame} {meth : Method} {c : Code} {H : Heap} {locs : List Loc} {cells slots : Nat} {Q : State → Prop} {cc : ByteArray} {pc : Nat} {ls : Array Slot} {rest : List Value}
theorem mo_V {y : MethodName} {bytes : ByteArray} {maxL nL k index : Nat} {ret : Option FieldType} {ws : List Cond} {rm : Room} {Ts : List Cond} {own C : String} {b : Nat} {As stk : List Value} {ci : Nat} {cq : vw_C} {q0 : Nat} {fs : List Value} {D : va_G} {tys : List (ClassId × FieldType)} {w wr : va_W} {S : Type} {post : Int32 → S → Prop} {w' : S → va_W} {A : Nat → Prop} {H0 : Heap} {mc ms : Nat} (S0 : CallFix p m c cc nL s args Ts own) (hM : Met l y ws rm (PcM D tys w H.size (.ref b :: As)) (va_Qi post (fun u t => AtW D tys (va_A w H.size) (w' u) t) (va_A w H.size)) mc ms (va_A w H.size)) (cw : CallW R s args own C index y bytes maxL ret ws rm mc ms k) (hK : va_K D vwCl tys s) (hP : va_P D vwCl (wr ++ w) H) (hD : va_D A (wr ++ w)) (hS : va_S A H0 H locs) (hA : ∀ q, H0.size ≤ q → A q) (hc : vwCl[ci]? = some cq) (he : (wr ++ w)[q0]? = some (b, .inr (ci, fs))) (hC : cq.1 = C) (hn : As.length = k) (hsize : ls.size = nL) (hstk : stk = As.reverse ++ .ref b :: rest) (hW : (rest.map fun v => v.category).sum ≤ 8) (hdg : decode cc pc = .ok (.invokevirtual index, 3)) (hf : cells + mc ≤ R.cells ∧ slots + ms ≤ R.slots) (kk : ∀ (r : Int32) (u : S) (H1 : Heap) (locs1 : List Loc), post r u → va_P D vwCl (wr ++ w' u) H1 → va_D A (wr ++ w' u) → va_S A H0 H1 locs1 → W p l e R s m args below meth c H1 locs1 (cells + mc) (slots + ms) Q (F0 m (pc + 3) ls (.int r :: rest))) : W p l e R s m args below meth c H locs cells slots Q (F0 m pc ls stk) := by
  refine va_calli (va_runV (As := As) (rest := rest) S0 hM cw ⟨PcM_blind _ _ _ _ _, hC ▸ va_recv hK hP hc he, fun U hU hW9 => ⟨rfl, by rw [hU], by rw [hU]; exact (va_apP hP).2, va_K.moved hW9.alike hK, (va_apD hD).2.1.weaken (fun _ _ _ _ => trivial)⟩⟩ rfl hn hsize hstk (lv_room hW) hdg hf) hS (fun q _ h => va_sub2 hD hS hA q h) (va_sub2 hD hS hA) (fun r u t H1 locs1 ht hvm hw hB hz hk hS1 => ?_)
  obtain ⟨b1, b2, b3⟩ := hB
  rw [ht] at b1
  obtain ⟨j1, j2⟩ := va_join2 hP hD hk (va_sub2 hD hS hA) b1 b3
  exact kk r u H1 locs1 hw j1 j2 hS1
theorem mo_Vv {y : MethodName} {bytes : ByteArray} {maxL nL k index : Nat} {ret : Option FieldType} {ws : List Cond} {rm : Room} {Ts : List Cond} {own C : String} {b : Nat} {As stk : List Value} {ci : Nat} {cq : vw_C} {q0 : Nat} {fs : List Value} {D : va_G} {tys : List (ClassId × FieldType)} {w wr : va_W} {S : Type} {post : S → Prop} {w' : S → va_W} {A : Nat → Prop} {H0 : Heap} {mc ms : Nat} (S0 : CallFix p m c cc nL s args Ts own) (hM : Met l y ws rm (PcM D tys w H.size (.ref b :: As)) (va_Qv post (fun u t => AtW D tys (va_A w H.size) (w' u) t) (va_A w H.size)) mc ms (va_A w H.size)) (cw : CallW R s args own C index y bytes maxL ret ws rm mc ms k) (hK : va_K D vwCl tys s) (hP : va_P D vwCl (wr ++ w) H) (hD : va_D A (wr ++ w)) (hS : va_S A H0 H locs) (hA : ∀ q, H0.size ≤ q → A q) (hc : vwCl[ci]? = some cq) (he : (wr ++ w)[q0]? = some (b, .inr (ci, fs))) (hC : cq.1 = C) (hn : As.length = k) (hsize : ls.size = nL) (hstk : stk = As.reverse ++ .ref b :: rest) (hW : (rest.map fun v => v.category).sum ≤ 8) (hdg : decode cc pc = .ok (.invokevirtual index, 3)) (hf : cells + mc ≤ R.cells ∧ slots + ms ≤ R.slots) (kk : ∀ (u : S) (H1 : Heap) (locs1 : List Loc), post u → va_P D vwCl (wr ++ w' u) H1 → va_D A (wr ++ w' u) → va_S A H0 H1 locs1 → W p l e R s m args below meth c H1 locs1 (cells + mc) (slots + ms) Q (F0 m (pc + 3) ls (rest))) : W p l e R s m args below meth c H locs cells slots Q (F0 m pc ls stk) := by
  refine va_callv (va_runV (As := As) (rest := rest) S0 hM cw ⟨PcM_blind _ _ _ _ _, hC ▸ va_recv hK hP hc he, fun U hU hW9 => ⟨rfl, by rw [hU], by rw [hU]; exact (va_apP hP).2, va_K.moved hW9.alike hK, (va_apD hD).2.1.weaken (fun _ _ _ _ => trivial)⟩⟩ rfl hn hsize hstk (lv_room hW) hdg hf) hS (fun q _ h => va_sub2 hD hS hA q h) (va_sub2 hD hS hA) (fun u t H1 locs1 ht hvm hw hB hz hk hS1 => ?_)
  obtain ⟨b1, b2, b3⟩ := hB
  rw [ht] at b1
  obtain ⟨j1, j2⟩ := va_join2 hP hD hk (va_sub2 hD hS hA) b1 b3
  exact kk u H1 locs1 hw j1 j2 hS1
end NM
end
section
/-! what the mail box says, over naturals: n mails; B 0 dates, B 1 authors, B 2 subjects, B 3 answered, B 4 lines, B 5 marks, B 6 words -/
def Bok (n : Nat) (B : Nat → Nat → Nat) : Prop := n ≤ 10 ∧ (∀ i j, B i j ≤ 99) ∧ (∀ m, B 4 m ≤ 8) ∧ (∀ m, m < n → B 3 m < B 0 m) ∧ (∀ i j, i < j → j < n → B 0 i ≠ B 0 j) ∧ (∀ p, B 5 p ≤ 3) ∧ (∀ m, n ≤ m → B 4 m = 0)
/-- the box with one number written anew -/
def b_up (B : Nat → Nat → Nat) (a i v : Nat) : Nat → Nat → Nat := fun x => if x = a then va_up (B a) i v else B x
def an (p : Nat → Bool) : Nat → Bool
  | 0 => false
  | k + 1 => an p k || p k
def ct (p : Nat → Bool) : Nat → Nat
  | 0 => 0
  | k + 1 => ct p k + if p k then 1 else 0
theorem ct_le (p : Nat → Bool) : ∀ k, ct p k ≤ k
  | 0 => Nat.le_refl 0
  | k + 1 => by
    have h := ct_le p k
    simp only [ct]
    split <;> omega
def s_dated (f : Nat → Nat) (w : Nat) : Nat → Option Nat
  | 0 => none
  | m + 1 => if f m = w then some m else s_dated f w m
theorem s_dated_lt {f : Nat → Nat} {w : Nat} : ∀ {n k : Nat}, s_dated f w n = some k → k < n ∧ f k = w
  | 0, k, h => by simp [s_dated] at h
  | n + 1, k, h => by
    simp only [s_dated] at h
    split at h
    · cases h; exact ⟨Nat.lt_succ_self _, by assumption⟩
    · have := s_dated_lt h; exact ⟨by omega, this.2⟩
theorem s_dated_b {f : Nat → Nat} {w n : Nat} (hn : n ≤ 10) : ∀ k, s_dated f w n = some k → k < 2 ^ 31 := fun k h => by have := (s_dated_lt h).1; omega
def s_par (n : Nat) (B : Nat → Nat → Nat) (m : Nat) : Option Nat := if B 3 m = 0 then none else s_dated (B 0) (B 3 m) n
theorem s_par_lt {n : Nat} {B : Nat → Nat → Nat} {m k : Nat} (h : s_par n B m = some k) : k < n ∧ B 0 k = B 3 m := by
  unfold s_par at h
  split at h
  · cases h
  · exact s_dated_lt h
theorem s_par_b {n : Nat} {B : Nat → Nat → Nat} (hn : n ≤ 10) {m : Nat} : ∀ k, s_par n B m = some k → k < 2 ^ 31 := fun k h => by have := (s_par_lt h).1; omega
def s_fits (B : Nat → Nat → Nat) (a b : Nat) : Bool := decide (0 < B 5 a) && (decide (B 6 a = B 6 b) && decide (B 5 a = B 5 b + 1))
/-- the most partners of the lines from i on among the parent's from j on, by rows: r lines are left, c columns -/
def s_in2 (f : Nat → Bool) (nx : Nat → Nat) (C : Nat) : Nat → Nat
  | 0 => 0
  | c + 1 => max (if f (C - (c + 1)) then 1 + nx (C - (c + 1) + 1) else 0) (max (nx (C - (c + 1))) (s_in2 f nx C c))
def s_rw (f : Nat → Nat → Bool) (R C : Nat) : Nat → Nat → Nat
  | 0 => fun _ => 0
  | r + 1 => fun j => s_in2 (f (R - (r + 1))) (s_rw f R C r) C (C - j)
def s_L (f : Nat → Nat → Bool) (R C i j : Nat) : Nat := s_rw f R C (R - i) j
theorem s_L_R {f : Nat → Nat → Bool} {R C i j : Nat} (h : R ≤ i) : s_L f R C i j = 0 := by
  unfold s_L
  rw [Nat.sub_eq_zero_of_le h]; rfl
theorem s_L_C {f : Nat → Nat → Bool} {R C i j : Nat} (h : C ≤ j) : s_L f R C i j = 0 := by
  unfold s_L
  cases R - i with
  | zero => rfl
  | succ r => show s_in2 _ _ C (C - j) = 0; rw [Nat.sub_eq_zero_of_le h]; rfl
theorem s_L_s {f : Nat → Nat → Bool} {R C i j : Nat} (hi : i < R) (hj : j < C) : s_L f R C i j = max (if f i j then 1 + s_L f R C (i + 1) (j + 1) else 0) (max (s_L f R C (i + 1) j) (s_L f R C i (j + 1))) := by
  unfold s_L
  obtain ⟨r, hr⟩ : ∃ r, R - i = r + 1 := ⟨R - i - 1, by omega⟩
  obtain ⟨c, hc⟩ : ∃ c, C - j = c + 1 := ⟨C - j - 1, by omega⟩
  have h1 : R - (i + 1) = r := by omega
  have h2 : R - (r + 1) = i := by omega
  have h3 : C - (c + 1) = j := by omega
  have h4 : C - (j + 1) = c := by omega
  rw [h1, hr]
  show s_in2 (f (R - (r + 1))) (s_rw f R C r) C (C - j) = max _ (max _ (s_in2 (f (R - (r + 1))) (s_rw f R C r) C (C - (j + 1))))
  rw [hc, h4, h2]
  show max (if f i (C - (c + 1)) then 1 + s_rw f R C r (C - (c + 1) + 1) else 0) (max (s_rw f R C r (C - (c + 1))) (s_in2 (f i) (s_rw f R C r) C c)) = _
  rw [h3]
theorem s_L_le {f : Nat → Nat → Bool} {R C : Nat} : ∀ (r i j : Nat), R - i = r → s_L f R C i j ≤ r
  | 0, i, j, h => by rw [s_L_R (by omega)]; exact Nat.le_refl 0
  | r + 1, i, j, h => by
    obtain ⟨c, hc⟩ : ∃ c, C - j = c := ⟨_, rfl⟩
    induction c generalizing j with
    | zero => rw [s_L_C (by omega)]; exact Nat.zero_le _
    | succ c ih =>
      rw [s_L_s (by omega) (by omega)]
      have a1 := s_L_le (f := f) (R := R) (C := C) r (i + 1) (j + 1) (by omega)
      have a2 := s_L_le (f := f) (R := R) (C := C) r (i + 1) j (by omega)
      have a3 := ih (j + 1) (by omega)
      split <;> omega
/-- the first number from a on, among so many, of which p holds -/
def s_fst (p : Nat → Bool) (a : Nat) : Nat → Option Nat
  | 0 => none
  | c + 1 => match s_fst p a c with
    | some x => some x
    | none => if p (a + c) then some (a + c) else none
theorem s_fst_some {p : Nat → Bool} {a x : Nat} : ∀ {c : Nat}, s_fst p a c = some x → a ≤ x ∧ x < a + c ∧ p x = true
  | 0, h => by cases h
  | c + 1, h => by
    simp only [s_fst] at h
    cases hq : s_fst p a c with
    | some y =>
      rw [hq] at h; cases h
      have := s_fst_some hq
      exact ⟨this.1, by omega, this.2.2⟩
    | none =>
      rw [hq] at h
      simp only at h
      split at h
      · cases h; exact ⟨by omega, by omega, by assumption⟩
      · cases h
theorem s_fst_more {p : Nat → Bool} {a x c : Nat} (h : s_fst p a c = some x) : ∀ d, s_fst p a (c + d) = some x
  | 0 => h
  | d + 1 => by
    show (match s_fst p a (c + d) with | some x => some x | none => if p (a + (c + d)) then some (a + (c + d)) else none) = some x
    rw [s_fst_more h d]
def s_hit (f : Nat → Nat → Bool) (R C i a j : Nat) : Bool := f i j && decide (1 + s_L f R C (i + 1) (j + 1) = s_L f R C i a)
def s_pt (f : Nat → Nat → Bool) (R C i a : Nat) : Option Nat := s_fst (s_hit f R C i a) a (C - a)
def s_frm (f : Nat → Nat → Bool) (R C : Nat) : Nat → Nat
  | 0 => 0
  | i + 1 => match s_pt f R C i (s_frm f R C i) with
    | none => s_frm f R C i
    | some x => x + 1
theorem s_pt_some {f : Nat → Nat → Bool} {R C i a x : Nat} (h : s_pt f R C i a = some x) : a ≤ x ∧ x < C ∧ f i x = true := by
  have := s_fst_some h
  refine ⟨this.1, by omega, ?_⟩
  have h2 := this.2.2
  unfold s_hit at h2
  exact (Bool.and_eq_true_iff.mp h2).1
theorem s_frm_le {f : Nat → Nat → Bool} {R C : Nat} : ∀ i, s_frm f R C i ≤ C
  | 0 => Nat.zero_le _
  | i + 1 => by
    unfold s_frm
    cases h : s_pt f R C i (s_frm f R C i) with
    | none => exact s_frm_le i
    | some x => exact (s_pt_some h).2.1
def s_f (n : Nat) (B : Nat → Nat → Nat) (u : Nat) : Nat → Nat → Bool := fun i j => s_fits B (8 * u + i) (8 * (s_par n B u).getD 0 + j)
def s_col (n : Nat) (B : Nat → Nat → Nat) (u : Nat) : Nat := match s_par n B u with
  | none => 0
  | some q => B 4 q
theorem s_col_le {n : Nat} {B : Nat → Nat → Nat} (h : ∀ m, B 4 m ≤ 8) (u : Nat) : s_col n B u ≤ 8 := by
  unfold s_col
  split
  · omega
  · exact h _
/-- the partner of a line: the number of the parent's line -/
def s_pa (n : Nat) (B : Nat → Nat → Nat) (u i : Nat) : Option Nat := s_pt (s_f n B u) (B 4 u) (s_col n B u) i (s_frm (s_f n B u) (B 4 u) (s_col n B u) i)
def PA (n : Nat) (B : Nat → Nat → Nat) (P : Nat → Option Nat) : Prop := ∀ u i, u < n → i < B 4 u → P (8 * u + i) = s_pa n B u i
theorem s_pa_some {n : Nat} {B : Nat → Nat → Nat} {u i j : Nat} (h : s_pa n B u i = some j) : ∃ q, s_par n B u = some q ∧ q < n ∧ j < B 4 q ∧ B 5 (8 * q + j) + 1 = B 5 (8 * u + i) ∧ B 6 (8 * q + j) = B 6 (8 * u + i) := by
  have h1 := s_pt_some h
  unfold s_col at h1
  cases hp : s_par n B u with
  | none => rw [hp] at h1; exact absurd h1.2.1 (Nat.not_lt_zero _)
  | some q =>
    rw [hp] at h1
    have h2 := h1.2.2
    unfold s_f s_fits at h2
    rw [hp] at h2
    simp at h2
    exact ⟨q, rfl, (s_par_lt hp).1, h1.2.1, h2.2.2.symm, h2.2.1.symm⟩
theorem s_pa_b {n : Nat} {B : Nat → Nat → Nat} (h : ∀ m, B 4 m ≤ 8) {u i : Nat} : ∀ k, s_pa n B u i = some k → k < 2 ^ 31 := fun k hk => by
  obtain ⟨q, -, -, h2, -⟩ := s_pa_some hk
  have := h q
  omega
def s_tl (B : Nat → Nat → Nat) (a b k : Nat) : Bool := decide (B 5 (8 * a + B 4 a - k) = 0) && (decide (B 5 (8 * b + B 4 b - k) = 0) && decide (B 6 (8 * a + B 4 a - k) = B 6 (8 * b + B 4 b - k)))
def s_eq (B : Nat → Nat → Nat) (a b : Nat) : Nat → Bool
  | 0 => true
  | k + 1 => s_eq B a b k && s_tl B a b (k + 1)
theorem s_eq_mono {B : Nat → Nat → Nat} {a b : Nat} : ∀ {j k : Nat}, j ≤ k → s_eq B a b j = false → s_eq B a b k = false
  | j, 0, h, q => by
    have : j = 0 := by omega
    rw [this] at q; exact q
  | j, k + 1, h, q => by
    rcases Nat.lt_or_ge j (k + 1) with r | r
    · simp only [s_eq, s_eq_mono (Nat.le_of_lt_succ r) q, Bool.false_and]
    · have : j = k + 1 := by omega
      rw [this] at q; exact q
def s_ea (B : Nat → Nat → Nat) (a b n : Nat) : Bool := (decide (n ≤ B 4 a) && decide (n ≤ B 4 b)) && s_eq B a b n
def s_sgp (B : Nat → Nat → Nat) (a k m : Nat) : Bool := (decide (¬ m = a) && decide (B 1 m = B 1 a)) && s_ea B a m k
def s_sgN (n : Nat) (B : Nat → Nat → Nat) (a : Nat) : Nat → Nat
  | 0 => 0
  | k + 1 => if an (s_sgp B a (k + 1)) n then k + 1 else s_sgN n B a k
theorem s_sgN_le (n : Nat) (B : Nat → Nat → Nat) (a : Nat) : ∀ k, s_sgN n B a k ≤ k
  | 0 => Nat.le_refl 0
  | k + 1 => by
    have h := s_sgN_le n B a k
    simp only [s_sgN]
    split <;> omega
def s_sig (n : Nat) (B : Nat → Nat → Nat) (a : Nat) : Nat := s_sgN n B a 3
def s_sbk (B : Nat → Nat → Nat) (a i m k : Nat) : Bool := decide (B 5 (8 * m + k) = 1) && decide (B 6 (8 * m + k) = B 6 (8 * a + i))
def s_sbm (B : Nat → Nat → Nat) (a i m : Nat) : Bool := (decide (B 3 m = B 3 a) && decide (B 0 m ≤ B 0 a)) && an (s_sbk B a i m) (if m = a then i else B 4 m)
def s_sb (n : Nat) (B : Nat → Nat → Nat) (a i : Nat) : Bool := an (s_sbm B a i) n
/-- a line's kind as a character: s 115, n 110, q 113, x 120, d 100, r 114 -/
def s_knd (n : Nat) (B : Nat → Nat → Nat) (a i : Nat) : Nat :=
  if B 5 (8 * a + i) = 0 then (if B 4 a - s_sig n B a ≤ i then 115 else 110)
  else if s_pa n B a i ≠ none then 113
  else if 1 < B 5 (8 * a + i) ∨ B 3 a = 0 ∨ s_par n B a ≠ none then 120
  else if s_sb n B a i then 100 else 114
theorem s_knd_b (n : Nat) (B : Nat → Nat → Nat) (a i : Nat) : s_knd n B a i ≤ 120 := by
  unfold s_knd
  repeat (first | omega | split)
/-- the place of a line's origin: eight times the mail, and the line; at most so many steps -/
def s_or (n : Nat) (B : Nat → Nat → Nat) : Nat → Nat → Nat → Nat
  | 0, m, i => 8 * m + i
  | k + 1, m, i => match s_pa n B m i with
    | none => 8 * m + i
    | some j => s_or n B k ((s_par n B m).getD 0) j
def s_org (n : Nat) (B : Nat → Nat → Nat) (m i : Nat) : Nat := s_or n B 4 m i
theorem s_or_lt {n : Nat} {B : Nat → Nat → Nat} (h8 : ∀ m, B 4 m ≤ 8) : ∀ {k m i : Nat}, m < n → i < B 4 m → s_or n B k m i < 8 * n
  | 0, m, i, hm, hi => by have := h8 m; unfold s_or; omega
  | k + 1, m, i, hm, hi => by
    unfold s_or
    cases hp : s_pa n B m i with
    | none => have := h8 m; show 8 * m + i < _; omega
    | some j =>
      obtain ⟨q, hq, h1, h2, -⟩ := s_pa_some hp
      show s_or n B k ((s_par n B m).getD 0) j < _
      rw [hq]
      exact s_or_lt h8 h1 h2
def s_talk (n : Nat) (B : Nat → Nat → Nat) (a i : Nat) : Bool := decide (s_knd n B a i = 110) || decide (s_knd n B a i = 114)
def s_an (n : Nat) (B : Nat → Nat → Nat) (a : Nat) : Nat → Option Nat
  | 0 => none
  | k + 1 => if s_knd n B a k = 113 then some (s_org n B a k) else s_an n B a k
theorem s_an_b {n : Nat} {B : Nat → Nat → Nat} (hB : Bok n B) {a : Nat} (ha : a < n) : ∀ {i : Nat}, i ≤ B 4 a → ∀ k, s_an n B a i = some k → k < 80
  | 0, _, k, h => by cases h
  | i + 1, hi, k, h => by
    unfold s_an at h
    split at h
    · cases h
      have := s_or_lt hB.2.2.1 (k := 4) ha (show i < B 4 a by omega)
      have := hB.1
      unfold s_org; omega
    · exact s_an_b hB ha (by omega) k h
def s_pit (n : Nat) (B : Nat → Nat → Nat) (m : Nat) : Option Nat := match s_par n B m with
  | none => none
  | some q => if B 2 q = B 2 m then some q else none
def s_rt (n : Nat) (B : Nat → Nat → Nat) : Nat → Nat → Nat
  | 0, m => m
  | k + 1, m => match s_pit n B m with
    | none => m
    | some q => s_rt n B k q
def s_root (n : Nat) (B : Nat → Nat → Nat) (m : Nat) : Nat := s_rt n B 100 m
theorem s_pit_lt {n : Nat} {B : Nat → Nat → Nat} {m q : Nat} (h : s_pit n B m = some q) : q < n ∧ B 0 q = B 3 m := by
  unfold s_pit at h
  cases hp : s_par n B m with
  | none => rw [hp] at h; cases h
  | some r =>
    rw [hp] at h
    by_cases hq : B 2 r = B 2 m
    · simp [hq] at h; cases h; exact s_par_lt hp
    · simp [hq] at h
theorem s_rt_lt {n : Nat} {B : Nat → Nat → Nat} : ∀ {k m : Nat}, m < n → s_rt n B k m < n
  | 0, m, h => h
  | k + 1, m, h => by
    unfold s_rt
    cases hp : s_pit n B m with
    | none => exact h
    | some q => exact s_rt_lt (s_pit_lt hp).1
def s_heads (n : Nat) (B : Nat → Nat → Nat) : Nat := ct (fun m => decide (s_root n B m = m)) n
theorem oI_s (k : Nat) : oI (some k) = nI k := rfl
theorem bI_t : bI true = nI 1 := by decide +kernel
theorem bI_f : bI false = nI 0 := by decide +kernel
/-- the reference's world -/
abbrev wM (cI : ClassId) (ad : Nat → Nat) (th n : Nat) (B : Nat → Nat → Nat) (P : Nat → Option Nat) (bs : Nat → Nat) : va_W :=
  [(ad 0, .inr (4, [.int (nI th), .int (nI n), .ref (ad 1), .ref (ad 2), .ref (ad 3), .ref (ad 4), .ref (ad 5), .ref (ad 6), .ref (ad 7), .ref (ad 8), .ref (ad 9)])),
   (ad 1, .inl (cI, 10, .inl (fun k => nI (B 0 k)))), (ad 2, .inl (cI, 10, .inl (fun k => nI (B 1 k)))), (ad 3, .inl (cI, 10, .inl (fun k => nI (B 2 k)))), (ad 4, .inl (cI, 10, .inl (fun k => nI (B 3 k)))), (ad 5, .inl (cI, 10, .inl (fun k => nI (B 4 k)))),
   (ad 6, .inl (cI, 80, .inl (fun k => nI (B 5 k)))), (ad 7, .inl (cI, 80, .inl (fun k => nI (B 6 k)))), (ad 8, .inl (cI, 80, .inl (fun k => oI (P k)))), (ad 9, .inl (cI, 81, .inl (fun k => nI (bs k))))]
def s_in (v a b : Int32) : Bool := if v < a then false else if b < v then false else true
def s_ism (n : Nat) (v : Int32) : Bool := s_in v (nI 0) (nI n - 1)
def s_isl (n : Nat) (B : Nat → Nat → Nat) (v w : Int32) : Bool := s_ism n v && s_ism (B 4 v.toNatClampNeg) w
theorem s_ism_t {n : Nat} (hn : n ≤ 10) {v : Int32} (h : s_ism n v = true) : ∃ k, k < n ∧ v = nI k := by
  unfold s_ism s_in at h
  split at h
  · cases h
  · split at h
    · cases h
    · rename_i h1 h2
      rw [nI_0] at h1
      obtain ⟨k, hk, rfl⟩ := nI_of h1
      refine ⟨k, ?_, rfl⟩
      cases n with
      | zero => exact absurd (by
          show nI 0 - 1 < nI k
          rw [Int32.lt_iff_toInt_lt, nI_toInt hk, show (nI 0 - 1).toInt = -1 from by decide +kernel]
          omega) h2
      | succ n =>
        rw [nI_pred] at h2
        rcases Nat.lt_or_ge n k with q | q
        · exact absurd (nI_lt q hk) h2
        · omega
theorem s_ism_o {n k : Nat} (hn : n ≤ 10) (h : k < n) : s_ism n (nI k) = true := by
  unfold s_ism s_in
  rw [if_neg (by rw [nI_0]; exact nI_pos (by omega)), if_neg]
  cases n with
  | zero => omega
  | succ n => rw [nI_pred]; exact nI_nlt (by omega) (by omega)
theorem s_isl_o {n k : Nat} {B : Nat → Nat → Nat} (hn : n ≤ 10) (h : k < n) (w : Int32) : s_isl n B (nI k) w = s_ism (B 4 k) w := by
  unfold s_isl
  rw [s_ism_o hn h, nI_clamp (by omega), Bool.true_and]
theorem s_isl_t {n : Nat} {B : Nat → Nat → Nat} (hB : Bok n B) {v w : Int32} (h : s_isl n B v w = true) : ∃ k j, k < n ∧ j < B 4 k ∧ v = nI k ∧ w = nI j := by
  have h0 : s_ism n v = true := by
    unfold s_isl at h
    cases hq : s_ism n v with
    | false => rw [hq] at h; cases h
    | true => rfl
  obtain ⟨k, hk, rfl⟩ := s_ism_t hB.1 h0
  rw [s_isl_o hB.1 hk] at h
  obtain ⟨j, hj, rfl⟩ := s_ism_t (Nat.le_trans (hB.2.2.1 k) (by decide)) h
  exact ⟨k, j, hk, hj, rfl, rfl⟩
/-- what a call answers: 0 and a number, or the place of its exception -/
def s_lines (n : Nat) (B : Nat → Nat → Nat) (u : Int32) : Nat × Nat := if s_ism n u = true then (0, B 4 u.toNatClampNeg) else (1, 0)
def s_word (n : Nat) (B : Nat → Nat → Nat) (u w : Int32) : Nat × Nat := if s_isl n B u w = true then (0, B 6 (8 * u.toNatClampNeg + w.toNatClampNeg)) else (1, 0)
def s_ocode (c : Nat) (o : Option Nat) : Nat × Nat := match o with
  | none => (c, 0)
  | some q => (0, q)
def s_parent (n : Nat) (B : Nat → Nat → Nat) (u : Int32) : Nat × Nat := if s_ism n u = true then s_ocode 2 (s_par n B u.toNatClampNeg) else (1, 0)
end
section
theorem dX2_init_0 : decode cX2_init 0 = .ok (.aload_n 0, 1) := by decide +kernel
theorem dX2_init_1 : decode cX2_init 1 = .ok (.invokespecial 1, 3) := by decide +kernel
theorem dX2_init_4 : decode cX2_init 4 = .ok (.aload_n 0, 1) := by decide +kernel
theorem dX2_init_5 : decode cX2_init 5 = .ok (.bipush 10, 2) := by decide +kernel
theorem dX2_init_7 : decode cX2_init 7 = .ok (.newarray .int, 2) := by decide +kernel
theorem dX2_init_9 : decode cX2_init 9 = .ok (.putfield 7, 3) := by decide +kernel
theorem dX2_init_12 : decode cX2_init 12 = .ok (.aload_n 0, 1) := by decide +kernel
theorem dX2_init_13 : decode cX2_init 13 = .ok (.bipush 10, 2) := by decide +kernel
theorem dX2_init_15 : decode cX2_init 15 = .ok (.newarray .int, 2) := by decide +kernel
theorem dX2_init_17 : decode cX2_init 17 = .ok (.putfield 13, 3) := by decide +kernel
theorem dX2_init_20 : decode cX2_init 20 = .ok (.aload_n 0, 1) := by decide +kernel
theorem dX2_init_21 : decode cX2_init 21 = .ok (.bipush 10, 2) := by decide +kernel
theorem dX2_init_23 : decode cX2_init 23 = .ok (.newarray .int, 2) := by decide +kernel
theorem dX2_init_25 : decode cX2_init 25 = .ok (.putfield 16, 3) := by decide +kernel
theorem dX2_init_28 : decode cX2_init 28 = .ok (.aload_n 0, 1) := by decide +kernel
theorem dX2_init_29 : decode cX2_init 29 = .ok (.bipush 10, 2) := by decide +kernel
theorem dX2_init_31 : decode cX2_init 31 = .ok (.newarray .int, 2) := by decide +kernel
theorem dX2_init_33 : decode cX2_init 33 = .ok (.putfield 19, 3) := by decide +kernel
theorem dX2_init_36 : decode cX2_init 36 = .ok (.aload_n 0, 1) := by decide +kernel
theorem dX2_init_37 : decode cX2_init 37 = .ok (.bipush 10, 2) := by decide +kernel
theorem dX2_init_39 : decode cX2_init 39 = .ok (.newarray .int, 2) := by decide +kernel
theorem dX2_init_41 : decode cX2_init 41 = .ok (.putfield 22, 3) := by decide +kernel
theorem dX2_init_44 : decode cX2_init 44 = .ok (.aload_n 0, 1) := by decide +kernel
theorem dX2_init_45 : decode cX2_init 45 = .ok (.bipush 80, 2) := by decide +kernel
theorem dX2_init_47 : decode cX2_init 47 = .ok (.newarray .int, 2) := by decide +kernel
theorem dX2_init_49 : decode cX2_init 49 = .ok (.putfield 25, 3) := by decide +kernel
theorem dX2_init_52 : decode cX2_init 52 = .ok (.aload_n 0, 1) := by decide +kernel
theorem dX2_init_53 : decode cX2_init 53 = .ok (.bipush 80, 2) := by decide +kernel
theorem dX2_init_55 : decode cX2_init 55 = .ok (.newarray .int, 2) := by decide +kernel
theorem dX2_init_57 : decode cX2_init 57 = .ok (.putfield 28, 3) := by decide +kernel
theorem dX2_init_60 : decode cX2_init 60 = .ok (.aload_n 0, 1) := by decide +kernel
theorem dX2_init_61 : decode cX2_init 61 = .ok (.bipush 80, 2) := by decide +kernel
theorem dX2_init_63 : decode cX2_init 63 = .ok (.newarray .int, 2) := by decide +kernel
theorem dX2_init_65 : decode cX2_init 65 = .ok (.putfield 31, 3) := by decide +kernel
theorem dX2_init_68 : decode cX2_init 68 = .ok (.aload_n 0, 1) := by decide +kernel
theorem dX2_init_69 : decode cX2_init 69 = .ok (.bipush 81, 2) := by decide +kernel
theorem dX2_init_71 : decode cX2_init 71 = .ok (.newarray .int, 2) := by decide +kernel
theorem dX2_init_73 : decode cX2_init 73 = .ok (.putfield 34, 3) := by decide +kernel
theorem dX2_init_76 : decode cX2_init 76 = .ok (.return_, 1) := by decide +kernel
theorem dX2_thrown_0 : decode cX2_thrown 0 = .ok (.aload_n 0, 1) := by decide +kernel
theorem dX2_thrown_1 : decode cX2_thrown 1 = .ok (.getfield 37, 3) := by decide +kernel
theorem dX2_thrown_4 : decode cX2_thrown 4 = .ok (.ireturn, 1) := by decide +kernel
theorem dX2_in_0 : decode cX2_in 0 = .ok (.iload_n 0, 1) := by decide +kernel
theorem dX2_in_1 : decode cX2_in 1 = .ok (.iload_n 1, 1) := by decide +kernel
theorem dX2_in_2 : decode cX2_in 2 = .ok (.if_icmp .lt 12, 3) := by decide +kernel
theorem dX2_in_5 : decode cX2_in 5 = .ok (.iload_n 0, 1) := by decide +kernel
theorem dX2_in_6 : decode cX2_in 6 = .ok (.iload_n 2, 1) := by decide +kernel
theorem dX2_in_7 : decode cX2_in 7 = .ok (.if_icmp .gt 7, 3) := by decide +kernel
theorem dX2_in_10 : decode cX2_in 10 = .ok (.iconst 1, 1) := by decide +kernel
theorem dX2_in_11 : decode cX2_in 11 = .ok (.goto 4, 3) := by decide +kernel
theorem dX2_in_14 : decode cX2_in 14 = .ok (.iconst 0, 1) := by decide +kernel
theorem dX2_in_15 : decode cX2_in 15 = .ok (.ireturn, 1) := by decide +kernel
theorem dX2_fails_0 : decode cX2_fails 0 = .ok (.aload_n 0, 1) := by decide +kernel
theorem dX2_fails_1 : decode cX2_fails 1 = .ok (.iload_n 1, 1) := by decide +kernel
theorem dX2_fails_2 : decode cX2_fails 2 = .ok (.putfield 37, 3) := by decide +kernel
theorem dX2_fails_5 : decode cX2_fails 5 = .ok (.iconst 0, 1) := by decide +kernel
theorem dX2_fails_6 : decode cX2_fails 6 = .ok (.ireturn, 1) := by decide +kernel
theorem dX2_tells_0 : decode cX2_tells 0 = .ok (.aload_n 0, 1) := by decide +kernel
theorem dX2_tells_1 : decode cX2_tells 1 = .ok (.iconst 0, 1) := by decide +kernel
theorem dX2_tells_2 : decode cX2_tells 2 = .ok (.putfield 37, 3) := by decide +kernel
theorem dX2_tells_5 : decode cX2_tells 5 = .ok (.iload_n 1, 1) := by decide +kernel
theorem dX2_tells_6 : decode cX2_tells 6 = .ok (.ireturn, 1) := by decide +kernel
set_option maxRecDepth 20000 in
theorem ggX2_isMail_X2_in : GoodIn wsX2_isMail wsX2_in := goodIn_r _ [5] (by decide +kernel) (by decide +kernel)
set_option maxRecDepth 20000 in
theorem gX2_isMail_X2_in : GoodIn wsX2_isMail (va_wsS RX2 44 yX2_in wsX2_in) := goodIn_app (goodIn_of _ (by decide +kernel)) ggX2_isMail_X2_in
theorem dX2_isMail_0 : decode cX2_isMail 0 = .ok (.iload_n 1, 1) := by decide +kernel
theorem dX2_isMail_1 : decode cX2_isMail 1 = .ok (.iconst 0, 1) := by decide +kernel
theorem dX2_isMail_2 : decode cX2_isMail 2 = .ok (.aload_n 0, 1) := by decide +kernel
theorem dX2_isMail_3 : decode cX2_isMail 3 = .ok (.getfield 41, 3) := by decide +kernel
theorem dX2_isMail_6 : decode cX2_isMail 6 = .ok (.iconst 1, 1) := by decide +kernel
theorem dX2_isMail_7 : decode cX2_isMail 7 = .ok (.isub, 1) := by decide +kernel
theorem dX2_isMail_8 : decode cX2_isMail 8 = .ok (.invokestatic 44, 3) := by decide +kernel
theorem dX2_isMail_11 : decode cX2_isMail 11 = .ok (.ireturn, 1) := by decide +kernel
set_option maxRecDepth 20000 in
theorem ggX2_isLine_X2_isMail : GoodIn wsX2_isLine wsX2_isMail := goodIn_r _ [6, 7, 8, 9, 5, 10, 11, 12, 13, 14, 15, 16, 17, 18, 19, 20, 21] (by decide +kernel) (by decide +kernel)
set_option maxRecDepth 20000 in
theorem gX2_isLine_X2_isMail : GoodIn wsX2_isLine (wsV RX2 48 RX2 yX2_isMail wsX2_isMail) := goodIn_app (goodIn_of _ (by decide +kernel)) ggX2_isLine_X2_isMail
set_option maxRecDepth 20000 in
theorem ggX2_isLine_X2_in : GoodIn wsX2_isLine wsX2_in := goodIn_r _ [10] (by decide +kernel) (by decide +kernel)
set_option maxRecDepth 20000 in
theorem gX2_isLine_X2_in : GoodIn wsX2_isLine (va_wsS RX2 44 yX2_in wsX2_in) := goodIn_app (goodIn_of _ (by decide +kernel)) ggX2_isLine_X2_in
theorem dX2_isLine_0 : decode cX2_isLine 0 = .ok (.aload_n 0, 1) := by decide +kernel
theorem dX2_isLine_1 : decode cX2_isLine 1 = .ok (.iload_n 1, 1) := by decide +kernel
theorem dX2_isLine_2 : decode cX2_isLine 2 = .ok (.invokevirtual 48, 3) := by decide +kernel
theorem dX2_isLine_5 : decode cX2_isLine 5 = .ok (.ifCond .eq 23, 3) := by decide +kernel
theorem dX2_isLine_8 : decode cX2_isLine 8 = .ok (.iload_n 2, 1) := by decide +kernel
theorem dX2_isLine_9 : decode cX2_isLine 9 = .ok (.iconst 0, 1) := by decide +kernel
theorem dX2_isLine_10 : decode cX2_isLine 10 = .ok (.aload_n 0, 1) := by decide +kernel
theorem dX2_isLine_11 : decode cX2_isLine 11 = .ok (.getfield 22, 3) := by decide +kernel
theorem dX2_isLine_14 : decode cX2_isLine 14 = .ok (.iload_n 1, 1) := by decide +kernel
theorem dX2_isLine_15 : decode cX2_isLine 15 = .ok (.iaload, 1) := by decide +kernel
theorem dX2_isLine_16 : decode cX2_isLine 16 = .ok (.iconst 1, 1) := by decide +kernel
theorem dX2_isLine_17 : decode cX2_isLine 17 = .ok (.isub, 1) := by decide +kernel
theorem dX2_isLine_18 : decode cX2_isLine 18 = .ok (.invokestatic 44, 3) := by decide +kernel
theorem dX2_isLine_21 : decode cX2_isLine 21 = .ok (.ifCond .eq 7, 3) := by decide +kernel
theorem dX2_isLine_24 : decode cX2_isLine 24 = .ok (.iconst 1, 1) := by decide +kernel
theorem dX2_isLine_25 : decode cX2_isLine 25 = .ok (.goto 4, 3) := by decide +kernel
theorem dX2_isLine_28 : decode cX2_isLine 28 = .ok (.iconst 0, 1) := by decide +kernel
theorem dX2_isLine_29 : decode cX2_isLine 29 = .ok (.ireturn, 1) := by decide +kernel
theorem dX2_dated_0 : decode cX2_dated 0 = .ok (.iconst (-1), 1) := by decide +kernel
theorem dX2_dated_1 : decode cX2_dated 1 = .ok (.istore_n 2, 1) := by decide +kernel
theorem dX2_dated_2 : decode cX2_dated 2 = .ok (.iconst 0, 1) := by decide +kernel
theorem dX2_dated_3 : decode cX2_dated 3 = .ok (.istore_n 3, 1) := by decide +kernel
theorem dX2_dated_4 : decode cX2_dated 4 = .ok (.iload_n 3, 1) := by decide +kernel
theorem dX2_dated_5 : decode cX2_dated 5 = .ok (.aload_n 0, 1) := by decide +kernel
theorem dX2_dated_6 : decode cX2_dated 6 = .ok (.getfield 41, 3) := by decide +kernel
theorem dX2_dated_9 : decode cX2_dated 9 = .ok (.if_icmp .ge 25, 3) := by decide +kernel
theorem dX2_dated_12 : decode cX2_dated 12 = .ok (.aload_n 0, 1) := by decide +kernel
theorem dX2_dated_13 : decode cX2_dated 13 = .ok (.getfield 7, 3) := by decide +kernel
theorem dX2_dated_16 : decode cX2_dated 16 = .ok (.iload_n 3, 1) := by decide +kernel
theorem dX2_dated_17 : decode cX2_dated 17 = .ok (.iaload, 1) := by decide +kernel
theorem dX2_dated_18 : decode cX2_dated 18 = .ok (.iload_n 1, 1) := by decide +kernel
theorem dX2_dated_19 : decode cX2_dated 19 = .ok (.if_icmp .ne 7, 3) := by decide +kernel
theorem dX2_dated_22 : decode cX2_dated 22 = .ok (.iload_n 3, 1) := by decide +kernel
theorem dX2_dated_23 : decode cX2_dated 23 = .ok (.goto 4, 3) := by decide +kernel
theorem dX2_dated_26 : decode cX2_dated 26 = .ok (.iload_n 2, 1) := by decide +kernel
theorem dX2_dated_27 : decode cX2_dated 27 = .ok (.istore_n 2, 1) := by decide +kernel
theorem dX2_dated_28 : decode cX2_dated 28 = .ok (.iinc 3 1, 3) := by decide +kernel
theorem dX2_dated_31 : decode cX2_dated 31 = .ok (.goto (-27), 3) := by decide +kernel
theorem dX2_dated_34 : decode cX2_dated 34 = .ok (.iload_n 2, 1) := by decide +kernel
theorem dX2_dated_35 : decode cX2_dated 35 = .ok (.ireturn, 1) := by decide +kernel
set_option maxRecDepth 20000 in
theorem ggX2_arrive_X2_in : GoodIn wsX2_arrive wsX2_in := goodIn_r _ [9] (by decide +kernel) (by decide +kernel)
set_option maxRecDepth 20000 in
theorem gX2_arrive_X2_in : GoodIn wsX2_arrive (va_wsS RX2 44 yX2_in wsX2_in) := goodIn_app (goodIn_of _ (by decide +kernel)) ggX2_arrive_X2_in
set_option maxRecDepth 20000 in
theorem ggX2_arrive_X2_dated : GoodIn wsX2_arrive wsX2_dated := goodIn_ca (goodIn_r _ [13, 1, 2, 23, 24, 25, 26, 27, 28, 29, 30, 31, 32, 33] (by decide +kernel) (by decide +kernel)) (goodIn_sub (fun _ h => List.mem_cons_of_mem _ (List.mem_append_right _ h)) (by decide +kernel))
set_option maxRecDepth 20000 in
theorem gX2_arrive_X2_dated : GoodIn wsX2_arrive (wsV RX2 52 RX2 yX2_dated wsX2_dated) := goodIn_app (goodIn_of _ (by decide +kernel)) ggX2_arrive_X2_dated
set_option maxRecDepth 20000 in
theorem ggX2_arrive_X2_fails : GoodIn wsX2_arrive wsX2_fails := goodIn_r _ [17, 18, 23, 24, 25, 26, 27, 28, 29, 30, 31, 32, 33] (by decide +kernel) (by decide +kernel)
set_option maxRecDepth 20000 in
theorem gX2_arrive_X2_fails : GoodIn wsX2_arrive (wsV RX2 56 RX2 yX2_fails wsX2_fails) := goodIn_app (goodIn_of _ (by decide +kernel)) ggX2_arrive_X2_fails
set_option maxRecDepth 20000 in
theorem ggX2_arrive_X2_tells : GoodIn wsX2_arrive wsX2_tells := goodIn_r _ [22, 18, 23, 24, 25, 26, 27, 28, 29, 30, 31, 32, 33] (by decide +kernel) (by decide +kernel)
set_option maxRecDepth 20000 in
theorem gX2_arrive_X2_tells : GoodIn wsX2_arrive (wsV RX2 59 RX2 yX2_tells wsX2_tells) := goodIn_app (goodIn_of _ (by decide +kernel)) ggX2_arrive_X2_tells
theorem dX2_arrive_0 : decode cX2_arrive 0 = .ok (.iload_n 1, 1) := by decide +kernel
theorem dX2_arrive_1 : decode cX2_arrive 1 = .ok (.iconst 1, 1) := by decide +kernel
theorem dX2_arrive_2 : decode cX2_arrive 2 = .ok (.bipush 99, 2) := by decide +kernel
theorem dX2_arrive_4 : decode cX2_arrive 4 = .ok (.invokestatic 44, 3) := by decide +kernel
theorem dX2_arrive_7 : decode cX2_arrive 7 = .ok (.ifCond .eq 43, 3) := by decide +kernel
theorem dX2_arrive_10 : decode cX2_arrive 10 = .ok (.iload_n 2, 1) := by decide +kernel
theorem dX2_arrive_11 : decode cX2_arrive 11 = .ok (.iconst 0, 1) := by decide +kernel
theorem dX2_arrive_12 : decode cX2_arrive 12 = .ok (.iconst 5, 1) := by decide +kernel
theorem dX2_arrive_13 : decode cX2_arrive 13 = .ok (.invokestatic 44, 3) := by decide +kernel
theorem dX2_arrive_16 : decode cX2_arrive 16 = .ok (.ifCond .eq 34, 3) := by decide +kernel
theorem dX2_arrive_19 : decode cX2_arrive 19 = .ok (.iload_n 3, 1) := by decide +kernel
theorem dX2_arrive_20 : decode cX2_arrive 20 = .ok (.iconst 0, 1) := by decide +kernel
theorem dX2_arrive_21 : decode cX2_arrive 21 = .ok (.bipush 9, 2) := by decide +kernel
theorem dX2_arrive_23 : decode cX2_arrive 23 = .ok (.invokestatic 44, 3) := by decide +kernel
theorem dX2_arrive_26 : decode cX2_arrive 26 = .ok (.ifCond .eq 24, 3) := by decide +kernel
theorem dX2_arrive_29 : decode cX2_arrive 29 = .ok (.iload 4, 2) := by decide +kernel
theorem dX2_arrive_31 : decode cX2_arrive 31 = .ok (.iconst 0, 1) := by decide +kernel
theorem dX2_arrive_32 : decode cX2_arrive 32 = .ok (.iload_n 1, 1) := by decide +kernel
theorem dX2_arrive_33 : decode cX2_arrive 33 = .ok (.iconst 1, 1) := by decide +kernel
theorem dX2_arrive_34 : decode cX2_arrive 34 = .ok (.isub, 1) := by decide +kernel
theorem dX2_arrive_35 : decode cX2_arrive 35 = .ok (.invokestatic 44, 3) := by decide +kernel
theorem dX2_arrive_38 : decode cX2_arrive 38 = .ok (.ifCond .eq 12, 3) := by decide +kernel
theorem dX2_arrive_41 : decode cX2_arrive 41 = .ok (.aload_n 0, 1) := by decide +kernel
theorem dX2_arrive_42 : decode cX2_arrive 42 = .ok (.iload_n 1, 1) := by decide +kernel
theorem dX2_arrive_43 : decode cX2_arrive 43 = .ok (.invokevirtual 52, 3) := by decide +kernel
theorem dX2_arrive_46 : decode cX2_arrive 46 = .ok (.iconst (-1), 1) := by decide +kernel
theorem dX2_arrive_47 : decode cX2_arrive 47 = .ok (.if_icmp .eq 9, 3) := by decide +kernel
theorem dX2_arrive_50 : decode cX2_arrive 50 = .ok (.aload_n 0, 1) := by decide +kernel
theorem dX2_arrive_51 : decode cX2_arrive 51 = .ok (.iconst 1, 1) := by decide +kernel
theorem dX2_arrive_52 : decode cX2_arrive 52 = .ok (.invokevirtual 56, 3) := by decide +kernel
theorem dX2_arrive_55 : decode cX2_arrive 55 = .ok (.ireturn, 1) := by decide +kernel
theorem dX2_arrive_56 : decode cX2_arrive 56 = .ok (.aload_n 0, 1) := by decide +kernel
theorem dX2_arrive_57 : decode cX2_arrive 57 = .ok (.getfield 41, 3) := by decide +kernel
theorem dX2_arrive_60 : decode cX2_arrive 60 = .ok (.bipush 10, 2) := by decide +kernel
theorem dX2_arrive_62 : decode cX2_arrive 62 = .ok (.if_icmp .ne 9, 3) := by decide +kernel
theorem dX2_arrive_65 : decode cX2_arrive 65 = .ok (.aload_n 0, 1) := by decide +kernel
theorem dX2_arrive_66 : decode cX2_arrive 66 = .ok (.iconst 2, 1) := by decide +kernel
theorem dX2_arrive_67 : decode cX2_arrive 67 = .ok (.invokevirtual 56, 3) := by decide +kernel
theorem dX2_arrive_70 : decode cX2_arrive 70 = .ok (.ireturn, 1) := by decide +kernel
theorem dX2_arrive_71 : decode cX2_arrive 71 = .ok (.aload_n 0, 1) := by decide +kernel
theorem dX2_arrive_72 : decode cX2_arrive 72 = .ok (.getfield 7, 3) := by decide +kernel
theorem dX2_arrive_75 : decode cX2_arrive 75 = .ok (.aload_n 0, 1) := by decide +kernel
theorem dX2_arrive_76 : decode cX2_arrive 76 = .ok (.getfield 41, 3) := by decide +kernel
theorem dX2_arrive_79 : decode cX2_arrive 79 = .ok (.iload_n 1, 1) := by decide +kernel
theorem dX2_arrive_80 : decode cX2_arrive 80 = .ok (.iastore, 1) := by decide +kernel
theorem dX2_arrive_81 : decode cX2_arrive 81 = .ok (.aload_n 0, 1) := by decide +kernel
theorem dX2_arrive_82 : decode cX2_arrive 82 = .ok (.getfield 13, 3) := by decide +kernel
theorem dX2_arrive_85 : decode cX2_arrive 85 = .ok (.aload_n 0, 1) := by decide +kernel
theorem dX2_arrive_86 : decode cX2_arrive 86 = .ok (.getfield 41, 3) := by decide +kernel
theorem dX2_arrive_89 : decode cX2_arrive 89 = .ok (.iload_n 2, 1) := by decide +kernel
theorem dX2_arrive_90 : decode cX2_arrive 90 = .ok (.iastore, 1) := by decide +kernel
theorem dX2_arrive_91 : decode cX2_arrive 91 = .ok (.aload_n 0, 1) := by decide +kernel
theorem dX2_arrive_92 : decode cX2_arrive 92 = .ok (.getfield 16, 3) := by decide +kernel
theorem dX2_arrive_95 : decode cX2_arrive 95 = .ok (.aload_n 0, 1) := by decide +kernel
theorem dX2_arrive_96 : decode cX2_arrive 96 = .ok (.getfield 41, 3) := by decide +kernel
theorem dX2_arrive_99 : decode cX2_arrive 99 = .ok (.iload_n 3, 1) := by decide +kernel
theorem dX2_arrive_100 : decode cX2_arrive 100 = .ok (.iastore, 1) := by decide +kernel
theorem dX2_arrive_101 : decode cX2_arrive 101 = .ok (.aload_n 0, 1) := by decide +kernel
theorem dX2_arrive_102 : decode cX2_arrive 102 = .ok (.getfield 19, 3) := by decide +kernel
theorem dX2_arrive_105 : decode cX2_arrive 105 = .ok (.aload_n 0, 1) := by decide +kernel
theorem dX2_arrive_106 : decode cX2_arrive 106 = .ok (.getfield 41, 3) := by decide +kernel
theorem dX2_arrive_109 : decode cX2_arrive 109 = .ok (.iload 4, 2) := by decide +kernel
theorem dX2_arrive_111 : decode cX2_arrive 111 = .ok (.iastore, 1) := by decide +kernel
theorem dX2_arrive_112 : decode cX2_arrive 112 = .ok (.aload_n 0, 1) := by decide +kernel
theorem dX2_arrive_113 : decode cX2_arrive 113 = .ok (.dup, 1) := by decide +kernel
theorem dX2_arrive_114 : decode cX2_arrive 114 = .ok (.getfield 41, 3) := by decide +kernel
theorem dX2_arrive_117 : decode cX2_arrive 117 = .ok (.iconst 1, 1) := by decide +kernel
theorem dX2_arrive_118 : decode cX2_arrive 118 = .ok (.iadd, 1) := by decide +kernel
theorem dX2_arrive_119 : decode cX2_arrive 119 = .ok (.putfield 41, 3) := by decide +kernel
theorem dX2_arrive_122 : decode cX2_arrive 122 = .ok (.aload_n 0, 1) := by decide +kernel
theorem dX2_arrive_123 : decode cX2_arrive 123 = .ok (.aload_n 0, 1) := by decide +kernel
theorem dX2_arrive_124 : decode cX2_arrive 124 = .ok (.getfield 41, 3) := by decide +kernel
theorem dX2_arrive_127 : decode cX2_arrive 127 = .ok (.iconst 1, 1) := by decide +kernel
theorem dX2_arrive_128 : decode cX2_arrive 128 = .ok (.isub, 1) := by decide +kernel
theorem dX2_arrive_129 : decode cX2_arrive 129 = .ok (.invokevirtual 59, 3) := by decide +kernel
theorem dX2_arrive_132 : decode cX2_arrive 132 = .ok (.ireturn, 1) := by decide +kernel
set_option maxRecDepth 20000 in
theorem ggX2_addLine_X2_isMail : GoodIn wsX2_addLine wsX2_isMail := goodIn_r _ [8, 9, 10, 11, 7, 12, 22, 23, 24, 25, 26, 27, 28, 29, 30, 31, 32] (by decide +kernel) (by decide +kernel)
set_option maxRecDepth 20000 in
theorem gX2_addLine_X2_isMail : GoodIn wsX2_addLine (wsV RX2 48 RX2 yX2_isMail wsX2_isMail) := goodIn_app (goodIn_of _ (by decide +kernel)) ggX2_addLine_X2_isMail
set_option maxRecDepth 20000 in
theorem ggX2_addLine_X2_fails : GoodIn wsX2_addLine wsX2_fails := goodIn_r _ [16, 17, 22, 23, 24, 25, 26, 27, 28, 29, 30, 31, 32] (by decide +kernel) (by decide +kernel)
set_option maxRecDepth 20000 in
theorem gX2_addLine_X2_fails : GoodIn wsX2_addLine (wsV RX2 56 RX2 yX2_fails wsX2_fails) := goodIn_app (goodIn_of _ (by decide +kernel)) ggX2_addLine_X2_fails
set_option maxRecDepth 20000 in
theorem ggX2_addLine_X2_in : GoodIn wsX2_addLine wsX2_in := goodIn_r _ [12] (by decide +kernel) (by decide +kernel)
set_option maxRecDepth 20000 in
theorem gX2_addLine_X2_in : GoodIn wsX2_addLine (va_wsS RX2 44 yX2_in wsX2_in) := goodIn_app (goodIn_of _ (by decide +kernel)) ggX2_addLine_X2_in
set_option maxRecDepth 20000 in
theorem ggX2_addLine_X2_tells : GoodIn wsX2_addLine wsX2_tells := goodIn_r _ [21, 17, 22, 23, 24, 25, 26, 27, 28, 29, 30, 31, 32] (by decide +kernel) (by decide +kernel)
set_option maxRecDepth 20000 in
theorem gX2_addLine_X2_tells : GoodIn wsX2_addLine (wsV RX2 59 RX2 yX2_tells wsX2_tells) := goodIn_app (goodIn_of _ (by decide +kernel)) ggX2_addLine_X2_tells
theorem dX2_addLine_0 : decode cX2_addLine 0 = .ok (.aload_n 0, 1) := by decide +kernel
theorem dX2_addLine_1 : decode cX2_addLine 1 = .ok (.iload_n 1, 1) := by decide +kernel
theorem dX2_addLine_2 : decode cX2_addLine 2 = .ok (.invokevirtual 48, 3) := by decide +kernel
theorem dX2_addLine_5 : decode cX2_addLine 5 = .ok (.ifCond .ne 9, 3) := by decide +kernel
theorem dX2_addLine_8 : decode cX2_addLine 8 = .ok (.aload_n 0, 1) := by decide +kernel
theorem dX2_addLine_9 : decode cX2_addLine 9 = .ok (.iconst 1, 1) := by decide +kernel
theorem dX2_addLine_10 : decode cX2_addLine 10 = .ok (.invokevirtual 56, 3) := by decide +kernel
theorem dX2_addLine_13 : decode cX2_addLine 13 = .ok (.ireturn, 1) := by decide +kernel
theorem dX2_addLine_14 : decode cX2_addLine 14 = .ok (.iload_n 2, 1) := by decide +kernel
theorem dX2_addLine_15 : decode cX2_addLine 15 = .ok (.iconst 0, 1) := by decide +kernel
theorem dX2_addLine_16 : decode cX2_addLine 16 = .ok (.iconst 3, 1) := by decide +kernel
theorem dX2_addLine_17 : decode cX2_addLine 17 = .ok (.invokestatic 44, 3) := by decide +kernel
theorem dX2_addLine_20 : decode cX2_addLine 20 = .ok (.ifCond .eq 13, 3) := by decide +kernel
theorem dX2_addLine_23 : decode cX2_addLine 23 = .ok (.iload_n 3, 1) := by decide +kernel
theorem dX2_addLine_24 : decode cX2_addLine 24 = .ok (.iconst 1, 1) := by decide +kernel
theorem dX2_addLine_25 : decode cX2_addLine 25 = .ok (.bipush 99, 2) := by decide +kernel
theorem dX2_addLine_27 : decode cX2_addLine 27 = .ok (.invokestatic 44, 3) := by decide +kernel
theorem dX2_addLine_30 : decode cX2_addLine 30 = .ok (.ifCond .ne 9, 3) := by decide +kernel
theorem dX2_addLine_33 : decode cX2_addLine 33 = .ok (.aload_n 0, 1) := by decide +kernel
theorem dX2_addLine_34 : decode cX2_addLine 34 = .ok (.iconst 2, 1) := by decide +kernel
theorem dX2_addLine_35 : decode cX2_addLine 35 = .ok (.invokevirtual 56, 3) := by decide +kernel
theorem dX2_addLine_38 : decode cX2_addLine 38 = .ok (.ireturn, 1) := by decide +kernel
theorem dX2_addLine_39 : decode cX2_addLine 39 = .ok (.aload_n 0, 1) := by decide +kernel
theorem dX2_addLine_40 : decode cX2_addLine 40 = .ok (.getfield 22, 3) := by decide +kernel
theorem dX2_addLine_43 : decode cX2_addLine 43 = .ok (.iload_n 1, 1) := by decide +kernel
theorem dX2_addLine_44 : decode cX2_addLine 44 = .ok (.iaload, 1) := by decide +kernel
theorem dX2_addLine_45 : decode cX2_addLine 45 = .ok (.bipush 8, 2) := by decide +kernel
theorem dX2_addLine_47 : decode cX2_addLine 47 = .ok (.if_icmp .ne 9, 3) := by decide +kernel
theorem dX2_addLine_50 : decode cX2_addLine 50 = .ok (.aload_n 0, 1) := by decide +kernel
theorem dX2_addLine_51 : decode cX2_addLine 51 = .ok (.iconst 3, 1) := by decide +kernel
theorem dX2_addLine_52 : decode cX2_addLine 52 = .ok (.invokevirtual 56, 3) := by decide +kernel
theorem dX2_addLine_55 : decode cX2_addLine 55 = .ok (.ireturn, 1) := by decide +kernel
theorem dX2_addLine_56 : decode cX2_addLine 56 = .ok (.aload_n 0, 1) := by decide +kernel
theorem dX2_addLine_57 : decode cX2_addLine 57 = .ok (.getfield 25, 3) := by decide +kernel
theorem dX2_addLine_60 : decode cX2_addLine 60 = .ok (.bipush 8, 2) := by decide +kernel
theorem dX2_addLine_62 : decode cX2_addLine 62 = .ok (.iload_n 1, 1) := by decide +kernel
theorem dX2_addLine_63 : decode cX2_addLine 63 = .ok (.imul, 1) := by decide +kernel
theorem dX2_addLine_64 : decode cX2_addLine 64 = .ok (.aload_n 0, 1) := by decide +kernel
theorem dX2_addLine_65 : decode cX2_addLine 65 = .ok (.getfield 22, 3) := by decide +kernel
theorem dX2_addLine_68 : decode cX2_addLine 68 = .ok (.iload_n 1, 1) := by decide +kernel
theorem dX2_addLine_69 : decode cX2_addLine 69 = .ok (.iaload, 1) := by decide +kernel
theorem dX2_addLine_70 : decode cX2_addLine 70 = .ok (.iadd, 1) := by decide +kernel
theorem dX2_addLine_71 : decode cX2_addLine 71 = .ok (.iload_n 2, 1) := by decide +kernel
theorem dX2_addLine_72 : decode cX2_addLine 72 = .ok (.iastore, 1) := by decide +kernel
theorem dX2_addLine_73 : decode cX2_addLine 73 = .ok (.aload_n 0, 1) := by decide +kernel
theorem dX2_addLine_74 : decode cX2_addLine 74 = .ok (.getfield 28, 3) := by decide +kernel
theorem dX2_addLine_77 : decode cX2_addLine 77 = .ok (.bipush 8, 2) := by decide +kernel
theorem dX2_addLine_79 : decode cX2_addLine 79 = .ok (.iload_n 1, 1) := by decide +kernel
theorem dX2_addLine_80 : decode cX2_addLine 80 = .ok (.imul, 1) := by decide +kernel
theorem dX2_addLine_81 : decode cX2_addLine 81 = .ok (.aload_n 0, 1) := by decide +kernel
theorem dX2_addLine_82 : decode cX2_addLine 82 = .ok (.getfield 22, 3) := by decide +kernel
theorem dX2_addLine_85 : decode cX2_addLine 85 = .ok (.iload_n 1, 1) := by decide +kernel
theorem dX2_addLine_86 : decode cX2_addLine 86 = .ok (.iaload, 1) := by decide +kernel
theorem dX2_addLine_87 : decode cX2_addLine 87 = .ok (.iadd, 1) := by decide +kernel
theorem dX2_addLine_88 : decode cX2_addLine 88 = .ok (.iload_n 3, 1) := by decide +kernel
theorem dX2_addLine_89 : decode cX2_addLine 89 = .ok (.iastore, 1) := by decide +kernel
theorem dX2_addLine_90 : decode cX2_addLine 90 = .ok (.aload_n 0, 1) := by decide +kernel
theorem dX2_addLine_91 : decode cX2_addLine 91 = .ok (.getfield 22, 3) := by decide +kernel
theorem dX2_addLine_94 : decode cX2_addLine 94 = .ok (.iload_n 1, 1) := by decide +kernel
theorem dX2_addLine_95 : decode cX2_addLine 95 = .ok (.dup2, 1) := by decide +kernel
theorem dX2_addLine_96 : decode cX2_addLine 96 = .ok (.iaload, 1) := by decide +kernel
theorem dX2_addLine_97 : decode cX2_addLine 97 = .ok (.iconst 1, 1) := by decide +kernel
theorem dX2_addLine_98 : decode cX2_addLine 98 = .ok (.iadd, 1) := by decide +kernel
theorem dX2_addLine_99 : decode cX2_addLine 99 = .ok (.iastore, 1) := by decide +kernel
theorem dX2_addLine_100 : decode cX2_addLine 100 = .ok (.aload_n 0, 1) := by decide +kernel
theorem dX2_addLine_101 : decode cX2_addLine 101 = .ok (.aload_n 0, 1) := by decide +kernel
theorem dX2_addLine_102 : decode cX2_addLine 102 = .ok (.getfield 22, 3) := by decide +kernel
theorem dX2_addLine_105 : decode cX2_addLine 105 = .ok (.iload_n 1, 1) := by decide +kernel
theorem dX2_addLine_106 : decode cX2_addLine 106 = .ok (.iaload, 1) := by decide +kernel
theorem dX2_addLine_107 : decode cX2_addLine 107 = .ok (.invokevirtual 59, 3) := by decide +kernel
theorem dX2_addLine_110 : decode cX2_addLine 110 = .ok (.ireturn, 1) := by decide +kernel
set_option maxRecDepth 20000 in
theorem ggX2_removeLine_X2_isMail : GoodIn wsX2_removeLine wsX2_isMail := goodIn_r _ [6, 7, 8, 9, 5, 10, 20, 21, 22, 23, 24, 25, 26, 27, 28, 29, 30] (by decide +kernel) (by decide +kernel)
set_option maxRecDepth 20000 in
theorem gX2_removeLine_X2_isMail : GoodIn wsX2_removeLine (wsV RX2 48 RX2 yX2_isMail wsX2_isMail) := goodIn_app (goodIn_of _ (by decide +kernel)) ggX2_removeLine_X2_isMail
set_option maxRecDepth 20000 in
theorem ggX2_removeLine_X2_fails : GoodIn wsX2_removeLine wsX2_fails := goodIn_r _ [14, 15, 20, 21, 22, 23, 24, 25, 26, 27, 28, 29, 30] (by decide +kernel) (by decide +kernel)
set_option maxRecDepth 20000 in
theorem gX2_removeLine_X2_fails : GoodIn wsX2_removeLine (wsV RX2 56 RX2 yX2_fails wsX2_fails) := goodIn_app (goodIn_of _ (by decide +kernel)) ggX2_removeLine_X2_fails
set_option maxRecDepth 20000 in
theorem ggX2_removeLine_X2_tells : GoodIn wsX2_removeLine wsX2_tells := goodIn_r _ [19, 15, 20, 21, 22, 23, 24, 25, 26, 27, 28, 29, 30] (by decide +kernel) (by decide +kernel)
set_option maxRecDepth 20000 in
theorem gX2_removeLine_X2_tells : GoodIn wsX2_removeLine (wsV RX2 59 RX2 yX2_tells wsX2_tells) := goodIn_app (goodIn_of _ (by decide +kernel)) ggX2_removeLine_X2_tells
theorem dX2_removeLine_0 : decode cX2_removeLine 0 = .ok (.aload_n 0, 1) := by decide +kernel
theorem dX2_removeLine_1 : decode cX2_removeLine 1 = .ok (.iload_n 1, 1) := by decide +kernel
theorem dX2_removeLine_2 : decode cX2_removeLine 2 = .ok (.invokevirtual 48, 3) := by decide +kernel
theorem dX2_removeLine_5 : decode cX2_removeLine 5 = .ok (.ifCond .ne 9, 3) := by decide +kernel
theorem dX2_removeLine_8 : decode cX2_removeLine 8 = .ok (.aload_n 0, 1) := by decide +kernel
theorem dX2_removeLine_9 : decode cX2_removeLine 9 = .ok (.iconst 1, 1) := by decide +kernel
theorem dX2_removeLine_10 : decode cX2_removeLine 10 = .ok (.invokevirtual 56, 3) := by decide +kernel
theorem dX2_removeLine_13 : decode cX2_removeLine 13 = .ok (.ireturn, 1) := by decide +kernel
theorem dX2_removeLine_14 : decode cX2_removeLine 14 = .ok (.aload_n 0, 1) := by decide +kernel
theorem dX2_removeLine_15 : decode cX2_removeLine 15 = .ok (.getfield 22, 3) := by decide +kernel
theorem dX2_removeLine_18 : decode cX2_removeLine 18 = .ok (.iload_n 1, 1) := by decide +kernel
theorem dX2_removeLine_19 : decode cX2_removeLine 19 = .ok (.iaload, 1) := by decide +kernel
theorem dX2_removeLine_20 : decode cX2_removeLine 20 = .ok (.ifCond .ne 9, 3) := by decide +kernel
theorem dX2_removeLine_23 : decode cX2_removeLine 23 = .ok (.aload_n 0, 1) := by decide +kernel
theorem dX2_removeLine_24 : decode cX2_removeLine 24 = .ok (.iconst 2, 1) := by decide +kernel
theorem dX2_removeLine_25 : decode cX2_removeLine 25 = .ok (.invokevirtual 56, 3) := by decide +kernel
theorem dX2_removeLine_28 : decode cX2_removeLine 28 = .ok (.ireturn, 1) := by decide +kernel
theorem dX2_removeLine_29 : decode cX2_removeLine 29 = .ok (.aload_n 0, 1) := by decide +kernel
theorem dX2_removeLine_30 : decode cX2_removeLine 30 = .ok (.getfield 22, 3) := by decide +kernel
theorem dX2_removeLine_33 : decode cX2_removeLine 33 = .ok (.iload_n 1, 1) := by decide +kernel
theorem dX2_removeLine_34 : decode cX2_removeLine 34 = .ok (.dup2, 1) := by decide +kernel
theorem dX2_removeLine_35 : decode cX2_removeLine 35 = .ok (.iaload, 1) := by decide +kernel
theorem dX2_removeLine_36 : decode cX2_removeLine 36 = .ok (.iconst 1, 1) := by decide +kernel
theorem dX2_removeLine_37 : decode cX2_removeLine 37 = .ok (.isub, 1) := by decide +kernel
theorem dX2_removeLine_38 : decode cX2_removeLine 38 = .ok (.iastore, 1) := by decide +kernel
theorem dX2_removeLine_39 : decode cX2_removeLine 39 = .ok (.aload_n 0, 1) := by decide +kernel
theorem dX2_removeLine_40 : decode cX2_removeLine 40 = .ok (.aload_n 0, 1) := by decide +kernel
theorem dX2_removeLine_41 : decode cX2_removeLine 41 = .ok (.getfield 22, 3) := by decide +kernel
theorem dX2_removeLine_44 : decode cX2_removeLine 44 = .ok (.iload_n 1, 1) := by decide +kernel
theorem dX2_removeLine_45 : decode cX2_removeLine 45 = .ok (.iaload, 1) := by decide +kernel
theorem dX2_removeLine_46 : decode cX2_removeLine 46 = .ok (.invokevirtual 59, 3) := by decide +kernel
theorem dX2_removeLine_49 : decode cX2_removeLine 49 = .ok (.ireturn, 1) := by decide +kernel
set_option maxRecDepth 20000 in
theorem ggX2_mails_X2_tells : GoodIn wsX2_mails wsX2_tells := goodIn_r _ [6, 7, 8, 9, 10, 11, 12, 13, 14, 15, 16, 17, 18] (by decide +kernel) (by decide +kernel)
set_option maxRecDepth 20000 in
theorem gX2_mails_X2_tells : GoodIn wsX2_mails (wsV RX2 59 RX2 yX2_tells wsX2_tells) := goodIn_app (goodIn_of _ (by decide +kernel)) ggX2_mails_X2_tells
theorem dX2_mails_0 : decode cX2_mails 0 = .ok (.aload_n 0, 1) := by decide +kernel
theorem dX2_mails_1 : decode cX2_mails 1 = .ok (.aload_n 0, 1) := by decide +kernel
theorem dX2_mails_2 : decode cX2_mails 2 = .ok (.getfield 41, 3) := by decide +kernel
theorem dX2_mails_5 : decode cX2_mails 5 = .ok (.invokevirtual 59, 3) := by decide +kernel
theorem dX2_mails_8 : decode cX2_mails 8 = .ok (.ireturn, 1) := by decide +kernel
set_option maxRecDepth 20000 in
theorem ggX2_lines_X2_isMail : GoodIn wsX2_lines wsX2_isMail := goodIn_r _ [6, 7, 8, 9, 5, 10, 20, 21, 22, 23, 24, 25, 26, 27, 28, 29, 30] (by decide +kernel) (by decide +kernel)
set_option maxRecDepth 20000 in
theorem gX2_lines_X2_isMail : GoodIn wsX2_lines (wsV RX2 48 RX2 yX2_isMail wsX2_isMail) := goodIn_app (goodIn_of _ (by decide +kernel)) ggX2_lines_X2_isMail
set_option maxRecDepth 20000 in
theorem ggX2_lines_X2_tells : GoodIn wsX2_lines wsX2_tells := goodIn_r _ [14, 15, 20, 21, 22, 23, 24, 25, 26, 27, 28, 29, 30] (by decide +kernel) (by decide +kernel)
set_option maxRecDepth 20000 in
theorem gX2_lines_X2_tells : GoodIn wsX2_lines (wsV RX2 59 RX2 yX2_tells wsX2_tells) := goodIn_app (goodIn_of _ (by decide +kernel)) ggX2_lines_X2_tells
set_option maxRecDepth 20000 in
theorem ggX2_lines_X2_fails : GoodIn wsX2_lines wsX2_fails := goodIn_r _ [19, 15, 20, 21, 22, 23, 24, 25, 26, 27, 28, 29, 30] (by decide +kernel) (by decide +kernel)
set_option maxRecDepth 20000 in
theorem gX2_lines_X2_fails : GoodIn wsX2_lines (wsV RX2 56 RX2 yX2_fails wsX2_fails) := goodIn_app (goodIn_of _ (by decide +kernel)) ggX2_lines_X2_fails
theorem dX2_lines_0 : decode cX2_lines 0 = .ok (.aload_n 0, 1) := by decide +kernel
theorem dX2_lines_1 : decode cX2_lines 1 = .ok (.iload_n 1, 1) := by decide +kernel
theorem dX2_lines_2 : decode cX2_lines 2 = .ok (.invokevirtual 48, 3) := by decide +kernel
theorem dX2_lines_5 : decode cX2_lines 5 = .ok (.ifCond .eq 16, 3) := by decide +kernel
theorem dX2_lines_8 : decode cX2_lines 8 = .ok (.aload_n 0, 1) := by decide +kernel
theorem dX2_lines_9 : decode cX2_lines 9 = .ok (.aload_n 0, 1) := by decide +kernel
theorem dX2_lines_10 : decode cX2_lines 10 = .ok (.getfield 22, 3) := by decide +kernel
theorem dX2_lines_13 : decode cX2_lines 13 = .ok (.iload_n 1, 1) := by decide +kernel
theorem dX2_lines_14 : decode cX2_lines 14 = .ok (.iaload, 1) := by decide +kernel
theorem dX2_lines_15 : decode cX2_lines 15 = .ok (.invokevirtual 59, 3) := by decide +kernel
theorem dX2_lines_18 : decode cX2_lines 18 = .ok (.goto 8, 3) := by decide +kernel
theorem dX2_lines_21 : decode cX2_lines 21 = .ok (.aload_n 0, 1) := by decide +kernel
theorem dX2_lines_22 : decode cX2_lines 22 = .ok (.iconst 1, 1) := by decide +kernel
theorem dX2_lines_23 : decode cX2_lines 23 = .ok (.invokevirtual 56, 3) := by decide +kernel
theorem dX2_lines_26 : decode cX2_lines 26 = .ok (.ireturn, 1) := by decide +kernel
set_option maxRecDepth 20000 in
theorem ggX2_word_X2_isLine : GoodIn wsX2_word wsX2_isLine := goodIn_ca (goodIn_r _ [6, 7, 8, 9, 10, 5, 11, 12, 13, 14, 15, 25, 26, 27, 28, 29, 30, 31, 32, 33, 34, 35] (by decide +kernel) (by decide +kernel)) (goodIn_sub (fun _ h => List.mem_cons_of_mem _ (List.mem_append_right _ h)) (by decide +kernel))
set_option maxRecDepth 20000 in
theorem gX2_word_X2_isLine : GoodIn wsX2_word (wsV RX2 62 RX2 yX2_isLine wsX2_isLine) := goodIn_app (goodIn_of _ (by decide +kernel)) ggX2_word_X2_isLine
set_option maxRecDepth 20000 in
theorem ggX2_word_X2_tells : GoodIn wsX2_word wsX2_tells := goodIn_r _ [19, 20, 25, 26, 27, 28, 29, 30, 31, 32, 33, 34, 35] (by decide +kernel) (by decide +kernel)
set_option maxRecDepth 20000 in
theorem gX2_word_X2_tells : GoodIn wsX2_word (wsV RX2 59 RX2 yX2_tells wsX2_tells) := goodIn_app (goodIn_of _ (by decide +kernel)) ggX2_word_X2_tells
set_option maxRecDepth 20000 in
theorem ggX2_word_X2_fails : GoodIn wsX2_word wsX2_fails := goodIn_r _ [24, 20, 25, 26, 27, 28, 29, 30, 31, 32, 33, 34, 35] (by decide +kernel) (by decide +kernel)
set_option maxRecDepth 20000 in
theorem gX2_word_X2_fails : GoodIn wsX2_word (wsV RX2 56 RX2 yX2_fails wsX2_fails) := goodIn_app (goodIn_of _ (by decide +kernel)) ggX2_word_X2_fails
theorem dX2_word_0 : decode cX2_word 0 = .ok (.aload_n 0, 1) := by decide +kernel
theorem dX2_word_1 : decode cX2_word 1 = .ok (.iload_n 1, 1) := by decide +kernel
theorem dX2_word_2 : decode cX2_word 2 = .ok (.iload_n 2, 1) := by decide +kernel
theorem dX2_word_3 : decode cX2_word 3 = .ok (.invokevirtual 62, 3) := by decide +kernel
theorem dX2_word_6 : decode cX2_word 6 = .ok (.ifCond .eq 21, 3) := by decide +kernel
theorem dX2_word_9 : decode cX2_word 9 = .ok (.aload_n 0, 1) := by decide +kernel
theorem dX2_word_10 : decode cX2_word 10 = .ok (.aload_n 0, 1) := by decide +kernel
theorem dX2_word_11 : decode cX2_word 11 = .ok (.getfield 28, 3) := by decide +kernel
theorem dX2_word_14 : decode cX2_word 14 = .ok (.bipush 8, 2) := by decide +kernel
theorem dX2_word_16 : decode cX2_word 16 = .ok (.iload_n 1, 1) := by decide +kernel
theorem dX2_word_17 : decode cX2_word 17 = .ok (.imul, 1) := by decide +kernel
theorem dX2_word_18 : decode cX2_word 18 = .ok (.iload_n 2, 1) := by decide +kernel
theorem dX2_word_19 : decode cX2_word 19 = .ok (.iadd, 1) := by decide +kernel
theorem dX2_word_20 : decode cX2_word 20 = .ok (.iaload, 1) := by decide +kernel
theorem dX2_word_21 : decode cX2_word 21 = .ok (.invokevirtual 59, 3) := by decide +kernel
theorem dX2_word_24 : decode cX2_word 24 = .ok (.goto 8, 3) := by decide +kernel
theorem dX2_word_27 : decode cX2_word 27 = .ok (.aload_n 0, 1) := by decide +kernel
theorem dX2_word_28 : decode cX2_word 28 = .ok (.iconst 1, 1) := by decide +kernel
theorem dX2_word_29 : decode cX2_word 29 = .ok (.invokevirtual 56, 3) := by decide +kernel
theorem dX2_word_32 : decode cX2_word 32 = .ok (.ireturn, 1) := by decide +kernel
set_option maxRecDepth 20000 in
theorem ggX2_parentOf_X2_dated : GoodIn wsX2_parentOf wsX2_dated := goodIn_ca (goodIn_r _ [6, 7, 8, 9, 10, 11, 12, 13, 14, 15, 16, 17, 18, 19] (by decide +kernel) (by decide +kernel)) (goodIn_sub (fun _ h => List.mem_cons_of_mem _ (List.mem_append_right _ h)) (by decide +kernel))
set_option maxRecDepth 20000 in
theorem gX2_parentOf_X2_dated : GoodIn wsX2_parentOf (wsV RX2 52 RX2 yX2_dated wsX2_dated) := goodIn_app (goodIn_of _ (by decide +kernel)) ggX2_parentOf_X2_dated
theorem dX2_parentOf_0 : decode cX2_parentOf 0 = .ok (.aload_n 0, 1) := by decide +kernel
theorem dX2_parentOf_1 : decode cX2_parentOf 1 = .ok (.getfield 19, 3) := by decide +kernel
theorem dX2_parentOf_4 : decode cX2_parentOf 4 = .ok (.iload_n 1, 1) := by decide +kernel
theorem dX2_parentOf_5 : decode cX2_parentOf 5 = .ok (.iaload, 1) := by decide +kernel
theorem dX2_parentOf_6 : decode cX2_parentOf 6 = .ok (.ifCond .ne 7, 3) := by decide +kernel
theorem dX2_parentOf_9 : decode cX2_parentOf 9 = .ok (.iconst (-1), 1) := by decide +kernel
theorem dX2_parentOf_10 : decode cX2_parentOf 10 = .ok (.goto 13, 3) := by decide +kernel
theorem dX2_parentOf_13 : decode cX2_parentOf 13 = .ok (.aload_n 0, 1) := by decide +kernel
theorem dX2_parentOf_14 : decode cX2_parentOf 14 = .ok (.aload_n 0, 1) := by decide +kernel
theorem dX2_parentOf_15 : decode cX2_parentOf 15 = .ok (.getfield 19, 3) := by decide +kernel
theorem dX2_parentOf_18 : decode cX2_parentOf 18 = .ok (.iload_n 1, 1) := by decide +kernel
theorem dX2_parentOf_19 : decode cX2_parentOf 19 = .ok (.iaload, 1) := by decide +kernel
theorem dX2_parentOf_20 : decode cX2_parentOf 20 = .ok (.invokevirtual 52, 3) := by decide +kernel
theorem dX2_parentOf_23 : decode cX2_parentOf 23 = .ok (.ireturn, 1) := by decide +kernel
set_option maxRecDepth 20000 in
theorem ggX2_parent_X2_isMail : GoodIn wsX2_parent wsX2_isMail := goodIn_r _ [5, 6, 7, 8, 4, 9, 29, 30, 31, 32, 33, 34, 35, 36, 37, 38, 39] (by decide +kernel) (by decide +kernel)
set_option maxRecDepth 20000 in
theorem gX2_parent_X2_isMail : GoodIn wsX2_parent (wsV RX2 48 RX2 yX2_isMail wsX2_isMail) := goodIn_app (goodIn_of _ (by decide +kernel)) ggX2_parent_X2_isMail
set_option maxRecDepth 20000 in
theorem ggX2_parent_X2_fails : GoodIn wsX2_parent wsX2_fails := goodIn_r _ [13, 14, 29, 30, 31, 32, 33, 34, 35, 36, 37, 38, 39] (by decide +kernel) (by decide +kernel)
set_option maxRecDepth 20000 in
theorem gX2_parent_X2_fails : GoodIn wsX2_parent (wsV RX2 56 RX2 yX2_fails wsX2_fails) := goodIn_app (goodIn_of _ (by decide +kernel)) ggX2_parent_X2_fails
set_option maxRecDepth 20000 in
theorem ggX2_parent_X2_parentOf : GoodIn wsX2_parent wsX2_parentOf := goodIn_ca (goodIn_r _ [18, 19, 20, 21, 22, 4, 23, 6, 24, 29, 30, 31, 32, 33, 34, 35, 36, 37, 38, 39] (by decide +kernel) (by decide +kernel)) (goodIn_sub (fun _ h => List.mem_cons_of_mem _ (List.mem_append_right _ h)) (by decide +kernel))
set_option maxRecDepth 20000 in
theorem gX2_parent_X2_parentOf : GoodIn wsX2_parent (wsV RX2 66 RX2 yX2_parentOf wsX2_parentOf) := goodIn_app (goodIn_of _ (by decide +kernel)) ggX2_parent_X2_parentOf
set_option maxRecDepth 20000 in
theorem ggX2_parent_X2_tells : GoodIn wsX2_parent wsX2_tells := goodIn_r _ [28, 14, 29, 30, 31, 32, 33, 34, 35, 36, 37, 38, 39] (by decide +kernel) (by decide +kernel)
set_option maxRecDepth 20000 in
theorem gX2_parent_X2_tells : GoodIn wsX2_parent (wsV RX2 59 RX2 yX2_tells wsX2_tells) := goodIn_app (goodIn_of _ (by decide +kernel)) ggX2_parent_X2_tells
theorem dX2_parent_0 : decode cX2_parent 0 = .ok (.aload_n 0, 1) := by decide +kernel
theorem dX2_parent_1 : decode cX2_parent 1 = .ok (.iload_n 1, 1) := by decide +kernel
theorem dX2_parent_2 : decode cX2_parent 2 = .ok (.invokevirtual 48, 3) := by decide +kernel
theorem dX2_parent_5 : decode cX2_parent 5 = .ok (.ifCond .ne 9, 3) := by decide +kernel
theorem dX2_parent_8 : decode cX2_parent 8 = .ok (.aload_n 0, 1) := by decide +kernel
theorem dX2_parent_9 : decode cX2_parent 9 = .ok (.iconst 1, 1) := by decide +kernel
theorem dX2_parent_10 : decode cX2_parent 10 = .ok (.invokevirtual 56, 3) := by decide +kernel
theorem dX2_parent_13 : decode cX2_parent 13 = .ok (.ireturn, 1) := by decide +kernel
theorem dX2_parent_14 : decode cX2_parent 14 = .ok (.aload_n 0, 1) := by decide +kernel
theorem dX2_parent_15 : decode cX2_parent 15 = .ok (.iload_n 1, 1) := by decide +kernel
theorem dX2_parent_16 : decode cX2_parent 16 = .ok (.invokevirtual 66, 3) := by decide +kernel
theorem dX2_parent_19 : decode cX2_parent 19 = .ok (.iconst (-1), 1) := by decide +kernel
theorem dX2_parent_20 : decode cX2_parent 20 = .ok (.if_icmp .ne 11, 3) := by decide +kernel
theorem dX2_parent_23 : decode cX2_parent 23 = .ok (.aload_n 0, 1) := by decide +kernel
theorem dX2_parent_24 : decode cX2_parent 24 = .ok (.iconst 2, 1) := by decide +kernel
theorem dX2_parent_25 : decode cX2_parent 25 = .ok (.invokevirtual 56, 3) := by decide +kernel
theorem dX2_parent_28 : decode cX2_parent 28 = .ok (.goto 12, 3) := by decide +kernel
theorem dX2_parent_31 : decode cX2_parent 31 = .ok (.aload_n 0, 1) := by decide +kernel
theorem dX2_parent_32 : decode cX2_parent 32 = .ok (.aload_n 0, 1) := by decide +kernel
theorem dX2_parent_33 : decode cX2_parent 33 = .ok (.iload_n 1, 1) := by decide +kernel
theorem dX2_parent_34 : decode cX2_parent 34 = .ok (.invokevirtual 66, 3) := by decide +kernel
theorem dX2_parent_37 : decode cX2_parent 37 = .ok (.invokevirtual 59, 3) := by decide +kernel
theorem dX2_parent_40 : decode cX2_parent 40 = .ok (.ireturn, 1) := by decide +kernel
set_option maxRecDepth 20000 in
theorem ggX2_missing_X2_dated : GoodIn wsX2_missing wsX2_dated := goodIn_ca (goodIn_r _ [7, 1, 8, 14, 15, 16, 17, 18, 19, 20, 21, 22, 23, 24] (by decide +kernel) (by decide +kernel)) (goodIn_sub (fun _ h => List.mem_cons_of_mem _ (List.mem_append_right _ h)) (by decide +kernel))
set_option maxRecDepth 20000 in
theorem gX2_missing_X2_dated : GoodIn wsX2_missing (wsV RX2 52 RX2 yX2_dated wsX2_dated) := goodIn_app (goodIn_of _ (by decide +kernel)) ggX2_missing_X2_dated
set_option maxRecDepth 20000 in
theorem ggX2_missing_X2_tells : GoodIn wsX2_missing wsX2_tells := goodIn_r _ [12, 13, 14, 15, 16, 17, 18, 19, 20, 21, 22, 23, 24] (by decide +kernel) (by decide +kernel)
set_option maxRecDepth 20000 in
theorem gX2_missing_X2_tells : GoodIn wsX2_missing (wsV RX2 59 RX2 yX2_tells wsX2_tells) := goodIn_app (goodIn_of _ (by decide +kernel)) ggX2_missing_X2_tells
theorem dX2_missing_0 : decode cX2_missing 0 = .ok (.iconst 0, 1) := by decide +kernel
theorem dX2_missing_1 : decode cX2_missing 1 = .ok (.istore_n 1, 1) := by decide +kernel
theorem dX2_missing_2 : decode cX2_missing 2 = .ok (.iconst 1, 1) := by decide +kernel
theorem dX2_missing_3 : decode cX2_missing 3 = .ok (.istore_n 2, 1) := by decide +kernel
theorem dX2_missing_4 : decode cX2_missing 4 = .ok (.iload_n 2, 1) := by decide +kernel
theorem dX2_missing_5 : decode cX2_missing 5 = .ok (.bipush 99, 2) := by decide +kernel
theorem dX2_missing_7 : decode cX2_missing 7 = .ok (.if_icmp .ge 71, 3) := by decide +kernel
theorem dX2_missing_10 : decode cX2_missing 10 = .ok (.iconst 0, 1) := by decide +kernel
theorem dX2_missing_11 : decode cX2_missing 11 = .ok (.istore_n 3, 1) := by decide +kernel
theorem dX2_missing_12 : decode cX2_missing 12 = .ok (.iconst 0, 1) := by decide +kernel
theorem dX2_missing_13 : decode cX2_missing 13 = .ok (.istore 4, 2) := by decide +kernel
theorem dX2_missing_15 : decode cX2_missing 15 = .ok (.iload 4, 2) := by decide +kernel
theorem dX2_missing_17 : decode cX2_missing 17 = .ok (.aload_n 0, 1) := by decide +kernel
theorem dX2_missing_18 : decode cX2_missing 18 = .ok (.getfield 41, 3) := by decide +kernel
theorem dX2_missing_21 : decode cX2_missing 21 = .ok (.if_icmp .ge 30, 3) := by decide +kernel
theorem dX2_missing_24 : decode cX2_missing 24 = .ok (.iload_n 3, 1) := by decide +kernel
theorem dX2_missing_25 : decode cX2_missing 25 = .ok (.ifCond .ne 14, 3) := by decide +kernel
theorem dX2_missing_28 : decode cX2_missing 28 = .ok (.aload_n 0, 1) := by decide +kernel
theorem dX2_missing_29 : decode cX2_missing 29 = .ok (.getfield 19, 3) := by decide +kernel
theorem dX2_missing_32 : decode cX2_missing 32 = .ok (.iload 4, 2) := by decide +kernel
theorem dX2_missing_34 : decode cX2_missing 34 = .ok (.iaload, 1) := by decide +kernel
theorem dX2_missing_35 : decode cX2_missing 35 = .ok (.iload_n 2, 1) := by decide +kernel
theorem dX2_missing_36 : decode cX2_missing 36 = .ok (.if_icmp .ne 7, 3) := by decide +kernel
theorem dX2_missing_39 : decode cX2_missing 39 = .ok (.iconst 1, 1) := by decide +kernel
theorem dX2_missing_40 : decode cX2_missing 40 = .ok (.goto 4, 3) := by decide +kernel
theorem dX2_missing_43 : decode cX2_missing 43 = .ok (.iconst 0, 1) := by decide +kernel
theorem dX2_missing_44 : decode cX2_missing 44 = .ok (.istore_n 3, 1) := by decide +kernel
theorem dX2_missing_45 : decode cX2_missing 45 = .ok (.iinc 4 1, 3) := by decide +kernel
theorem dX2_missing_48 : decode cX2_missing 48 = .ok (.goto (-33), 3) := by decide +kernel
theorem dX2_missing_51 : decode cX2_missing 51 = .ok (.iload_n 1, 1) := by decide +kernel
theorem dX2_missing_52 : decode cX2_missing 52 = .ok (.iload_n 3, 1) := by decide +kernel
theorem dX2_missing_53 : decode cX2_missing 53 = .ok (.ifCond .eq 16, 3) := by decide +kernel
theorem dX2_missing_56 : decode cX2_missing 56 = .ok (.aload_n 0, 1) := by decide +kernel
theorem dX2_missing_57 : decode cX2_missing 57 = .ok (.iload_n 2, 1) := by decide +kernel
theorem dX2_missing_58 : decode cX2_missing 58 = .ok (.invokevirtual 52, 3) := by decide +kernel
theorem dX2_missing_61 : decode cX2_missing 61 = .ok (.iconst (-1), 1) := by decide +kernel
theorem dX2_missing_62 : decode cX2_missing 62 = .ok (.if_icmp .ne 7, 3) := by decide +kernel
theorem dX2_missing_65 : decode cX2_missing 65 = .ok (.iconst 1, 1) := by decide +kernel
theorem dX2_missing_66 : decode cX2_missing 66 = .ok (.goto 4, 3) := by decide +kernel
theorem dX2_missing_69 : decode cX2_missing 69 = .ok (.iconst 0, 1) := by decide +kernel
theorem dX2_missing_70 : decode cX2_missing 70 = .ok (.iadd, 1) := by decide +kernel
theorem dX2_missing_71 : decode cX2_missing 71 = .ok (.istore_n 1, 1) := by decide +kernel
theorem dX2_missing_72 : decode cX2_missing 72 = .ok (.iinc 2 1, 3) := by decide +kernel
theorem dX2_missing_75 : decode cX2_missing 75 = .ok (.goto (-71), 3) := by decide +kernel
theorem dX2_missing_78 : decode cX2_missing 78 = .ok (.aload_n 0, 1) := by decide +kernel
theorem dX2_missing_79 : decode cX2_missing 79 = .ok (.iload_n 1, 1) := by decide +kernel
theorem dX2_missing_80 : decode cX2_missing 80 = .ok (.invokevirtual 59, 3) := by decide +kernel
theorem dX2_missing_83 : decode cX2_missing 83 = .ok (.ireturn, 1) := by decide +kernel
theorem dX2_fits_0 : decode cX2_fits 0 = .ok (.aload_n 0, 1) := by decide +kernel
theorem dX2_fits_1 : decode cX2_fits 1 = .ok (.getfield 25, 3) := by decide +kernel
theorem dX2_fits_4 : decode cX2_fits 4 = .ok (.iload_n 1, 1) := by decide +kernel
theorem dX2_fits_5 : decode cX2_fits 5 = .ok (.iaload, 1) := by decide +kernel
theorem dX2_fits_6 : decode cX2_fits 6 = .ok (.ifCond .le 39, 3) := by decide +kernel
theorem dX2_fits_9 : decode cX2_fits 9 = .ok (.aload_n 0, 1) := by decide +kernel
theorem dX2_fits_10 : decode cX2_fits 10 = .ok (.getfield 28, 3) := by decide +kernel
theorem dX2_fits_13 : decode cX2_fits 13 = .ok (.iload_n 1, 1) := by decide +kernel
theorem dX2_fits_14 : decode cX2_fits 14 = .ok (.iaload, 1) := by decide +kernel
theorem dX2_fits_15 : decode cX2_fits 15 = .ok (.aload_n 0, 1) := by decide +kernel
theorem dX2_fits_16 : decode cX2_fits 16 = .ok (.getfield 28, 3) := by decide +kernel
theorem dX2_fits_19 : decode cX2_fits 19 = .ok (.iload_n 2, 1) := by decide +kernel
theorem dX2_fits_20 : decode cX2_fits 20 = .ok (.iaload, 1) := by decide +kernel
theorem dX2_fits_21 : decode cX2_fits 21 = .ok (.if_icmp .ne 24, 3) := by decide +kernel
theorem dX2_fits_24 : decode cX2_fits 24 = .ok (.aload_n 0, 1) := by decide +kernel
theorem dX2_fits_25 : decode cX2_fits 25 = .ok (.getfield 25, 3) := by decide +kernel
theorem dX2_fits_28 : decode cX2_fits 28 = .ok (.iload_n 1, 1) := by decide +kernel
theorem dX2_fits_29 : decode cX2_fits 29 = .ok (.iaload, 1) := by decide +kernel
theorem dX2_fits_30 : decode cX2_fits 30 = .ok (.aload_n 0, 1) := by decide +kernel
theorem dX2_fits_31 : decode cX2_fits 31 = .ok (.getfield 25, 3) := by decide +kernel
theorem dX2_fits_34 : decode cX2_fits 34 = .ok (.iload_n 2, 1) := by decide +kernel
theorem dX2_fits_35 : decode cX2_fits 35 = .ok (.iaload, 1) := by decide +kernel
theorem dX2_fits_36 : decode cX2_fits 36 = .ok (.iconst 1, 1) := by decide +kernel
theorem dX2_fits_37 : decode cX2_fits 37 = .ok (.iadd, 1) := by decide +kernel
theorem dX2_fits_38 : decode cX2_fits 38 = .ok (.if_icmp .ne 7, 3) := by decide +kernel
theorem dX2_fits_41 : decode cX2_fits 41 = .ok (.iconst 1, 1) := by decide +kernel
theorem dX2_fits_42 : decode cX2_fits 42 = .ok (.goto 4, 3) := by decide +kernel
theorem dX2_fits_45 : decode cX2_fits 45 = .ok (.iconst 0, 1) := by decide +kernel
theorem dX2_fits_46 : decode cX2_fits 46 = .ok (.ireturn, 1) := by decide +kernel
set_option maxRecDepth 20000 in
theorem ggX2_aligns_X2_parentOf : GoodIn wsX2_aligns wsX2_parentOf := goodIn_ca (goodIn_r _ [8, 9, 10, 11, 12, 7, 13, 14, 15, 22, 23, 24, 25, 26, 27, 28, 29, 30, 31, 32] (by decide +kernel) (by decide +kernel)) (goodIn_sub (fun _ h => List.mem_cons_of_mem _ (List.mem_append_right _ h)) (by decide +kernel))
set_option maxRecDepth 20000 in
theorem gX2_aligns_X2_parentOf : GoodIn wsX2_aligns (wsV RX2 66 RX2 yX2_parentOf wsX2_parentOf) := goodIn_app (goodIn_of _ (by decide +kernel)) ggX2_aligns_X2_parentOf
set_option maxRecDepth 20000 in
theorem ggX2_aligns_X2_fits : GoodIn wsX2_aligns wsX2_fits := goodIn_ca (goodIn_r _ [19, 20, 21, 22, 23, 24, 25, 26, 27, 28, 29, 30, 31, 32] (by decide +kernel) (by decide +kernel)) (goodIn_sub (fun _ h => List.mem_cons_of_mem _ (List.mem_append_right _ h)) (by decide +kernel))
set_option maxRecDepth 20000 in
theorem gX2_aligns_X2_fits : GoodIn wsX2_aligns (wsV RX2 69 RX2 yX2_fits wsX2_fits) := goodIn_app (goodIn_of _ (by decide +kernel)) ggX2_aligns_X2_fits
theorem dX2_aligns_0 : decode cX2_aligns 0 = .ok (.aload_n 0, 1) := by decide +kernel
theorem dX2_aligns_1 : decode cX2_aligns 1 = .ok (.iload_n 1, 1) := by decide +kernel
theorem dX2_aligns_2 : decode cX2_aligns 2 = .ok (.invokevirtual 66, 3) := by decide +kernel
theorem dX2_aligns_5 : decode cX2_aligns 5 = .ok (.istore_n 2, 1) := by decide +kernel
theorem dX2_aligns_6 : decode cX2_aligns 6 = .ok (.aload_n 0, 1) := by decide +kernel
theorem dX2_aligns_7 : decode cX2_aligns 7 = .ok (.getfield 22, 3) := by decide +kernel
theorem dX2_aligns_10 : decode cX2_aligns 10 = .ok (.iload_n 1, 1) := by decide +kernel
theorem dX2_aligns_11 : decode cX2_aligns 11 = .ok (.iaload, 1) := by decide +kernel
theorem dX2_aligns_12 : decode cX2_aligns 12 = .ok (.istore_n 3, 1) := by decide +kernel
theorem dX2_aligns_13 : decode cX2_aligns 13 = .ok (.iload_n 2, 1) := by decide +kernel
theorem dX2_aligns_14 : decode cX2_aligns 14 = .ok (.iconst (-1), 1) := by decide +kernel
theorem dX2_aligns_15 : decode cX2_aligns 15 = .ok (.if_icmp .ne 7, 3) := by decide +kernel
theorem dX2_aligns_18 : decode cX2_aligns 18 = .ok (.iconst 0, 1) := by decide +kernel
theorem dX2_aligns_19 : decode cX2_aligns 19 = .ok (.goto 9, 3) := by decide +kernel
theorem dX2_aligns_22 : decode cX2_aligns 22 = .ok (.aload_n 0, 1) := by decide +kernel
theorem dX2_aligns_23 : decode cX2_aligns 23 = .ok (.getfield 22, 3) := by decide +kernel
theorem dX2_aligns_26 : decode cX2_aligns 26 = .ok (.iload_n 2, 1) := by decide +kernel
theorem dX2_aligns_27 : decode cX2_aligns 27 = .ok (.iaload, 1) := by decide +kernel
theorem dX2_aligns_28 : decode cX2_aligns 28 = .ok (.istore 4, 2) := by decide +kernel
theorem dX2_aligns_30 : decode cX2_aligns 30 = .ok (.iconst 0, 1) := by decide +kernel
theorem dX2_aligns_31 : decode cX2_aligns 31 = .ok (.istore 5, 2) := by decide +kernel
theorem dX2_aligns_33 : decode cX2_aligns 33 = .ok (.iload 5, 2) := by decide +kernel
theorem dX2_aligns_35 : decode cX2_aligns 35 = .ok (.bipush 80, 2) := by decide +kernel
theorem dX2_aligns_37 : decode cX2_aligns 37 = .ok (.if_icmp .gt 17, 3) := by decide +kernel
theorem dX2_aligns_40 : decode cX2_aligns 40 = .ok (.aload_n 0, 1) := by decide +kernel
theorem dX2_aligns_41 : decode cX2_aligns 41 = .ok (.getfield 34, 3) := by decide +kernel
theorem dX2_aligns_44 : decode cX2_aligns 44 = .ok (.iload 5, 2) := by decide +kernel
theorem dX2_aligns_46 : decode cX2_aligns 46 = .ok (.iconst 0, 1) := by decide +kernel
theorem dX2_aligns_47 : decode cX2_aligns 47 = .ok (.iastore, 1) := by decide +kernel
theorem dX2_aligns_48 : decode cX2_aligns 48 = .ok (.iinc 5 1, 3) := by decide +kernel
theorem dX2_aligns_51 : decode cX2_aligns 51 = .ok (.goto (-18), 3) := by decide +kernel
theorem dX2_aligns_54 : decode cX2_aligns 54 = .ok (.iload_n 3, 1) := by decide +kernel
theorem dX2_aligns_55 : decode cX2_aligns 55 = .ok (.iconst 1, 1) := by decide +kernel
theorem dX2_aligns_56 : decode cX2_aligns 56 = .ok (.isub, 1) := by decide +kernel
theorem dX2_aligns_57 : decode cX2_aligns 57 = .ok (.istore 5, 2) := by decide +kernel
theorem dX2_aligns_59 : decode cX2_aligns 59 = .ok (.iload 5, 2) := by decide +kernel
theorem dX2_aligns_61 : decode cX2_aligns 61 = .ok (.ifCond .lt 167, 3) := by decide +kernel
theorem dX2_aligns_64 : decode cX2_aligns 64 = .ok (.iload 4, 2) := by decide +kernel
theorem dX2_aligns_66 : decode cX2_aligns 66 = .ok (.iconst 1, 1) := by decide +kernel
theorem dX2_aligns_67 : decode cX2_aligns 67 = .ok (.isub, 1) := by decide +kernel
theorem dX2_aligns_68 : decode cX2_aligns 68 = .ok (.istore 6, 2) := by decide +kernel
theorem dX2_aligns_70 : decode cX2_aligns 70 = .ok (.iload 6, 2) := by decide +kernel
theorem dX2_aligns_72 : decode cX2_aligns 72 = .ok (.ifCond .lt 150, 3) := by decide +kernel
theorem dX2_aligns_75 : decode cX2_aligns 75 = .ok (.aload_n 0, 1) := by decide +kernel
theorem dX2_aligns_76 : decode cX2_aligns 76 = .ok (.bipush 8, 2) := by decide +kernel
theorem dX2_aligns_78 : decode cX2_aligns 78 = .ok (.iload_n 1, 1) := by decide +kernel
theorem dX2_aligns_79 : decode cX2_aligns 79 = .ok (.imul, 1) := by decide +kernel
theorem dX2_aligns_80 : decode cX2_aligns 80 = .ok (.iload 5, 2) := by decide +kernel
theorem dX2_aligns_82 : decode cX2_aligns 82 = .ok (.iadd, 1) := by decide +kernel
theorem dX2_aligns_83 : decode cX2_aligns 83 = .ok (.bipush 8, 2) := by decide +kernel
theorem dX2_aligns_85 : decode cX2_aligns 85 = .ok (.iload_n 2, 1) := by decide +kernel
theorem dX2_aligns_86 : decode cX2_aligns 86 = .ok (.imul, 1) := by decide +kernel
theorem dX2_aligns_87 : decode cX2_aligns 87 = .ok (.iload 6, 2) := by decide +kernel
theorem dX2_aligns_89 : decode cX2_aligns 89 = .ok (.iadd, 1) := by decide +kernel
theorem dX2_aligns_90 : decode cX2_aligns 90 = .ok (.invokevirtual 69, 3) := by decide +kernel
theorem dX2_aligns_93 : decode cX2_aligns 93 = .ok (.ifCond .eq 25, 3) := by decide +kernel
theorem dX2_aligns_96 : decode cX2_aligns 96 = .ok (.iconst 1, 1) := by decide +kernel
theorem dX2_aligns_97 : decode cX2_aligns 97 = .ok (.aload_n 0, 1) := by decide +kernel
theorem dX2_aligns_98 : decode cX2_aligns 98 = .ok (.getfield 34, 3) := by decide +kernel
theorem dX2_aligns_101 : decode cX2_aligns 101 = .ok (.bipush 9, 2) := by decide +kernel
theorem dX2_aligns_103 : decode cX2_aligns 103 = .ok (.iload 5, 2) := by decide +kernel
theorem dX2_aligns_105 : decode cX2_aligns 105 = .ok (.iconst 1, 1) := by decide +kernel
theorem dX2_aligns_106 : decode cX2_aligns 106 = .ok (.iadd, 1) := by decide +kernel
theorem dX2_aligns_107 : decode cX2_aligns 107 = .ok (.imul, 1) := by decide +kernel
theorem dX2_aligns_108 : decode cX2_aligns 108 = .ok (.iload 6, 2) := by decide +kernel
theorem dX2_aligns_110 : decode cX2_aligns 110 = .ok (.iadd, 1) := by decide +kernel
theorem dX2_aligns_111 : decode cX2_aligns 111 = .ok (.iconst 1, 1) := by decide +kernel
theorem dX2_aligns_112 : decode cX2_aligns 112 = .ok (.iadd, 1) := by decide +kernel
theorem dX2_aligns_113 : decode cX2_aligns 113 = .ok (.iaload, 1) := by decide +kernel
theorem dX2_aligns_114 : decode cX2_aligns 114 = .ok (.iadd, 1) := by decide +kernel
theorem dX2_aligns_115 : decode cX2_aligns 115 = .ok (.goto 4, 3) := by decide +kernel
theorem dX2_aligns_118 : decode cX2_aligns 118 = .ok (.iconst 0, 1) := by decide +kernel
theorem dX2_aligns_119 : decode cX2_aligns 119 = .ok (.istore 7, 2) := by decide +kernel
theorem dX2_aligns_121 : decode cX2_aligns 121 = .ok (.aload_n 0, 1) := by decide +kernel
theorem dX2_aligns_122 : decode cX2_aligns 122 = .ok (.getfield 34, 3) := by decide +kernel
theorem dX2_aligns_125 : decode cX2_aligns 125 = .ok (.bipush 9, 2) := by decide +kernel
theorem dX2_aligns_127 : decode cX2_aligns 127 = .ok (.iload 5, 2) := by decide +kernel
theorem dX2_aligns_129 : decode cX2_aligns 129 = .ok (.iconst 1, 1) := by decide +kernel
theorem dX2_aligns_130 : decode cX2_aligns 130 = .ok (.iadd, 1) := by decide +kernel
theorem dX2_aligns_131 : decode cX2_aligns 131 = .ok (.imul, 1) := by decide +kernel
theorem dX2_aligns_132 : decode cX2_aligns 132 = .ok (.iload 6, 2) := by decide +kernel
theorem dX2_aligns_134 : decode cX2_aligns 134 = .ok (.iadd, 1) := by decide +kernel
theorem dX2_aligns_135 : decode cX2_aligns 135 = .ok (.iaload, 1) := by decide +kernel
theorem dX2_aligns_136 : decode cX2_aligns 136 = .ok (.aload_n 0, 1) := by decide +kernel
theorem dX2_aligns_137 : decode cX2_aligns 137 = .ok (.getfield 34, 3) := by decide +kernel
theorem dX2_aligns_140 : decode cX2_aligns 140 = .ok (.bipush 9, 2) := by decide +kernel
theorem dX2_aligns_142 : decode cX2_aligns 142 = .ok (.iload 5, 2) := by decide +kernel
theorem dX2_aligns_144 : decode cX2_aligns 144 = .ok (.imul, 1) := by decide +kernel
theorem dX2_aligns_145 : decode cX2_aligns 145 = .ok (.iload 6, 2) := by decide +kernel
theorem dX2_aligns_147 : decode cX2_aligns 147 = .ok (.iadd, 1) := by decide +kernel
theorem dX2_aligns_148 : decode cX2_aligns 148 = .ok (.iconst 1, 1) := by decide +kernel
theorem dX2_aligns_149 : decode cX2_aligns 149 = .ok (.iadd, 1) := by decide +kernel
theorem dX2_aligns_150 : decode cX2_aligns 150 = .ok (.iaload, 1) := by decide +kernel
theorem dX2_aligns_151 : decode cX2_aligns 151 = .ok (.if_icmp .le 21, 3) := by decide +kernel
theorem dX2_aligns_154 : decode cX2_aligns 154 = .ok (.aload_n 0, 1) := by decide +kernel
theorem dX2_aligns_155 : decode cX2_aligns 155 = .ok (.getfield 34, 3) := by decide +kernel
theorem dX2_aligns_158 : decode cX2_aligns 158 = .ok (.bipush 9, 2) := by decide +kernel
theorem dX2_aligns_160 : decode cX2_aligns 160 = .ok (.iload 5, 2) := by decide +kernel
theorem dX2_aligns_162 : decode cX2_aligns 162 = .ok (.iconst 1, 1) := by decide +kernel
theorem dX2_aligns_163 : decode cX2_aligns 163 = .ok (.iadd, 1) := by decide +kernel
theorem dX2_aligns_164 : decode cX2_aligns 164 = .ok (.imul, 1) := by decide +kernel
theorem dX2_aligns_165 : decode cX2_aligns 165 = .ok (.iload 6, 2) := by decide +kernel
theorem dX2_aligns_167 : decode cX2_aligns 167 = .ok (.iadd, 1) := by decide +kernel
theorem dX2_aligns_168 : decode cX2_aligns 168 = .ok (.iaload, 1) := by decide +kernel
theorem dX2_aligns_169 : decode cX2_aligns 169 = .ok (.goto 18, 3) := by decide +kernel
theorem dX2_aligns_172 : decode cX2_aligns 172 = .ok (.aload_n 0, 1) := by decide +kernel
theorem dX2_aligns_173 : decode cX2_aligns 173 = .ok (.getfield 34, 3) := by decide +kernel
theorem dX2_aligns_176 : decode cX2_aligns 176 = .ok (.bipush 9, 2) := by decide +kernel
theorem dX2_aligns_178 : decode cX2_aligns 178 = .ok (.iload 5, 2) := by decide +kernel
theorem dX2_aligns_180 : decode cX2_aligns 180 = .ok (.imul, 1) := by decide +kernel
theorem dX2_aligns_181 : decode cX2_aligns 181 = .ok (.iload 6, 2) := by decide +kernel
theorem dX2_aligns_183 : decode cX2_aligns 183 = .ok (.iadd, 1) := by decide +kernel
theorem dX2_aligns_184 : decode cX2_aligns 184 = .ok (.iconst 1, 1) := by decide +kernel
theorem dX2_aligns_185 : decode cX2_aligns 185 = .ok (.iadd, 1) := by decide +kernel
theorem dX2_aligns_186 : decode cX2_aligns 186 = .ok (.iaload, 1) := by decide +kernel
theorem dX2_aligns_187 : decode cX2_aligns 187 = .ok (.istore 8, 2) := by decide +kernel
theorem dX2_aligns_189 : decode cX2_aligns 189 = .ok (.aload_n 0, 1) := by decide +kernel
theorem dX2_aligns_190 : decode cX2_aligns 190 = .ok (.getfield 34, 3) := by decide +kernel
theorem dX2_aligns_193 : decode cX2_aligns 193 = .ok (.bipush 9, 2) := by decide +kernel
theorem dX2_aligns_195 : decode cX2_aligns 195 = .ok (.iload 5, 2) := by decide +kernel
theorem dX2_aligns_197 : decode cX2_aligns 197 = .ok (.imul, 1) := by decide +kernel
theorem dX2_aligns_198 : decode cX2_aligns 198 = .ok (.iload 6, 2) := by decide +kernel
theorem dX2_aligns_200 : decode cX2_aligns 200 = .ok (.iadd, 1) := by decide +kernel
theorem dX2_aligns_201 : decode cX2_aligns 201 = .ok (.iload 7, 2) := by decide +kernel
theorem dX2_aligns_203 : decode cX2_aligns 203 = .ok (.iload 8, 2) := by decide +kernel
theorem dX2_aligns_205 : decode cX2_aligns 205 = .ok (.if_icmp .le 8, 3) := by decide +kernel
theorem dX2_aligns_208 : decode cX2_aligns 208 = .ok (.iload 7, 2) := by decide +kernel
theorem dX2_aligns_210 : decode cX2_aligns 210 = .ok (.goto 5, 3) := by decide +kernel
theorem dX2_aligns_213 : decode cX2_aligns 213 = .ok (.iload 8, 2) := by decide +kernel
theorem dX2_aligns_215 : decode cX2_aligns 215 = .ok (.iastore, 1) := by decide +kernel
theorem dX2_aligns_216 : decode cX2_aligns 216 = .ok (.iinc 6 (-1), 3) := by decide +kernel
theorem dX2_aligns_219 : decode cX2_aligns 219 = .ok (.goto (-149), 3) := by decide +kernel
theorem dX2_aligns_222 : decode cX2_aligns 222 = .ok (.iinc 5 (-1), 3) := by decide +kernel
theorem dX2_aligns_225 : decode cX2_aligns 225 = .ok (.goto (-166), 3) := by decide +kernel
theorem dX2_aligns_228 : decode cX2_aligns 228 = .ok (.iconst 0, 1) := by decide +kernel
theorem dX2_aligns_229 : decode cX2_aligns 229 = .ok (.istore 5, 2) := by decide +kernel
theorem dX2_aligns_231 : decode cX2_aligns 231 = .ok (.iconst 0, 1) := by decide +kernel
theorem dX2_aligns_232 : decode cX2_aligns 232 = .ok (.istore 6, 2) := by decide +kernel
theorem dX2_aligns_234 : decode cX2_aligns 234 = .ok (.iload 6, 2) := by decide +kernel
theorem dX2_aligns_236 : decode cX2_aligns 236 = .ok (.iload_n 3, 1) := by decide +kernel
theorem dX2_aligns_237 : decode cX2_aligns 237 = .ok (.if_icmp .ge 126, 3) := by decide +kernel
theorem dX2_aligns_240 : decode cX2_aligns 240 = .ok (.iconst (-1), 1) := by decide +kernel
theorem dX2_aligns_241 : decode cX2_aligns 241 = .ok (.istore 7, 2) := by decide +kernel
theorem dX2_aligns_243 : decode cX2_aligns 243 = .ok (.iload 5, 2) := by decide +kernel
theorem dX2_aligns_245 : decode cX2_aligns 245 = .ok (.istore 8, 2) := by decide +kernel
theorem dX2_aligns_247 : decode cX2_aligns 247 = .ok (.iload 8, 2) := by decide +kernel
theorem dX2_aligns_249 : decode cX2_aligns 249 = .ok (.iload 4, 2) := by decide +kernel
theorem dX2_aligns_251 : decode cX2_aligns 251 = .ok (.if_icmp .ge 75, 3) := by decide +kernel
theorem dX2_aligns_254 : decode cX2_aligns 254 = .ok (.iload 7, 2) := by decide +kernel
theorem dX2_aligns_256 : decode cX2_aligns 256 = .ok (.iconst (-1), 1) := by decide +kernel
theorem dX2_aligns_257 : decode cX2_aligns 257 = .ok (.if_icmp .ne 69, 3) := by decide +kernel
theorem dX2_aligns_260 : decode cX2_aligns 260 = .ok (.aload_n 0, 1) := by decide +kernel
theorem dX2_aligns_261 : decode cX2_aligns 261 = .ok (.bipush 8, 2) := by decide +kernel
theorem dX2_aligns_263 : decode cX2_aligns 263 = .ok (.iload_n 1, 1) := by decide +kernel
theorem dX2_aligns_264 : decode cX2_aligns 264 = .ok (.imul, 1) := by decide +kernel
theorem dX2_aligns_265 : decode cX2_aligns 265 = .ok (.iload 6, 2) := by decide +kernel
theorem dX2_aligns_267 : decode cX2_aligns 267 = .ok (.iadd, 1) := by decide +kernel
theorem dX2_aligns_268 : decode cX2_aligns 268 = .ok (.bipush 8, 2) := by decide +kernel
theorem dX2_aligns_270 : decode cX2_aligns 270 = .ok (.iload_n 2, 1) := by decide +kernel
theorem dX2_aligns_271 : decode cX2_aligns 271 = .ok (.imul, 1) := by decide +kernel
theorem dX2_aligns_272 : decode cX2_aligns 272 = .ok (.iload 8, 2) := by decide +kernel
theorem dX2_aligns_274 : decode cX2_aligns 274 = .ok (.iadd, 1) := by decide +kernel
theorem dX2_aligns_275 : decode cX2_aligns 275 = .ok (.invokevirtual 69, 3) := by decide +kernel
theorem dX2_aligns_278 : decode cX2_aligns 278 = .ok (.ifCond .eq 42, 3) := by decide +kernel
theorem dX2_aligns_281 : decode cX2_aligns 281 = .ok (.iconst 1, 1) := by decide +kernel
theorem dX2_aligns_282 : decode cX2_aligns 282 = .ok (.aload_n 0, 1) := by decide +kernel
theorem dX2_aligns_283 : decode cX2_aligns 283 = .ok (.getfield 34, 3) := by decide +kernel
theorem dX2_aligns_286 : decode cX2_aligns 286 = .ok (.bipush 9, 2) := by decide +kernel
theorem dX2_aligns_288 : decode cX2_aligns 288 = .ok (.iload 6, 2) := by decide +kernel
theorem dX2_aligns_290 : decode cX2_aligns 290 = .ok (.iconst 1, 1) := by decide +kernel
theorem dX2_aligns_291 : decode cX2_aligns 291 = .ok (.iadd, 1) := by decide +kernel
theorem dX2_aligns_292 : decode cX2_aligns 292 = .ok (.imul, 1) := by decide +kernel
theorem dX2_aligns_293 : decode cX2_aligns 293 = .ok (.iload 8, 2) := by decide +kernel
theorem dX2_aligns_295 : decode cX2_aligns 295 = .ok (.iadd, 1) := by decide +kernel
theorem dX2_aligns_296 : decode cX2_aligns 296 = .ok (.iconst 1, 1) := by decide +kernel
theorem dX2_aligns_297 : decode cX2_aligns 297 = .ok (.iadd, 1) := by decide +kernel
theorem dX2_aligns_298 : decode cX2_aligns 298 = .ok (.iaload, 1) := by decide +kernel
theorem dX2_aligns_299 : decode cX2_aligns 299 = .ok (.iadd, 1) := by decide +kernel
theorem dX2_aligns_300 : decode cX2_aligns 300 = .ok (.aload_n 0, 1) := by decide +kernel
theorem dX2_aligns_301 : decode cX2_aligns 301 = .ok (.getfield 34, 3) := by decide +kernel
theorem dX2_aligns_304 : decode cX2_aligns 304 = .ok (.bipush 9, 2) := by decide +kernel
theorem dX2_aligns_306 : decode cX2_aligns 306 = .ok (.iload 6, 2) := by decide +kernel
theorem dX2_aligns_308 : decode cX2_aligns 308 = .ok (.imul, 1) := by decide +kernel
theorem dX2_aligns_309 : decode cX2_aligns 309 = .ok (.iload 5, 2) := by decide +kernel
theorem dX2_aligns_311 : decode cX2_aligns 311 = .ok (.iadd, 1) := by decide +kernel
theorem dX2_aligns_312 : decode cX2_aligns 312 = .ok (.iaload, 1) := by decide +kernel
theorem dX2_aligns_313 : decode cX2_aligns 313 = .ok (.if_icmp .ne 7, 3) := by decide +kernel
theorem dX2_aligns_316 : decode cX2_aligns 316 = .ok (.iload 8, 2) := by decide +kernel
theorem dX2_aligns_318 : decode cX2_aligns 318 = .ok (.istore 7, 2) := by decide +kernel
theorem dX2_aligns_320 : decode cX2_aligns 320 = .ok (.iinc 8 1, 3) := by decide +kernel
theorem dX2_aligns_323 : decode cX2_aligns 323 = .ok (.goto (-76), 3) := by decide +kernel
theorem dX2_aligns_326 : decode cX2_aligns 326 = .ok (.aload_n 0, 1) := by decide +kernel
theorem dX2_aligns_327 : decode cX2_aligns 327 = .ok (.getfield 31, 3) := by decide +kernel
theorem dX2_aligns_330 : decode cX2_aligns 330 = .ok (.bipush 8, 2) := by decide +kernel
theorem dX2_aligns_332 : decode cX2_aligns 332 = .ok (.iload_n 1, 1) := by decide +kernel
theorem dX2_aligns_333 : decode cX2_aligns 333 = .ok (.imul, 1) := by decide +kernel
theorem dX2_aligns_334 : decode cX2_aligns 334 = .ok (.iload 6, 2) := by decide +kernel
theorem dX2_aligns_336 : decode cX2_aligns 336 = .ok (.iadd, 1) := by decide +kernel
theorem dX2_aligns_337 : decode cX2_aligns 337 = .ok (.iload 7, 2) := by decide +kernel
theorem dX2_aligns_339 : decode cX2_aligns 339 = .ok (.iastore, 1) := by decide +kernel
theorem dX2_aligns_340 : decode cX2_aligns 340 = .ok (.iload 7, 2) := by decide +kernel
theorem dX2_aligns_342 : decode cX2_aligns 342 = .ok (.iconst (-1), 1) := by decide +kernel
theorem dX2_aligns_343 : decode cX2_aligns 343 = .ok (.if_icmp .ne 8, 3) := by decide +kernel
theorem dX2_aligns_346 : decode cX2_aligns 346 = .ok (.iload 5, 2) := by decide +kernel
theorem dX2_aligns_348 : decode cX2_aligns 348 = .ok (.goto 7, 3) := by decide +kernel
theorem dX2_aligns_351 : decode cX2_aligns 351 = .ok (.iload 7, 2) := by decide +kernel
theorem dX2_aligns_353 : decode cX2_aligns 353 = .ok (.iconst 1, 1) := by decide +kernel
theorem dX2_aligns_354 : decode cX2_aligns 354 = .ok (.iadd, 1) := by decide +kernel
theorem dX2_aligns_355 : decode cX2_aligns 355 = .ok (.istore 5, 2) := by decide +kernel
theorem dX2_aligns_357 : decode cX2_aligns 357 = .ok (.iinc 6 1, 3) := by decide +kernel
theorem dX2_aligns_360 : decode cX2_aligns 360 = .ok (.goto (-126), 3) := by decide +kernel
theorem dX2_aligns_363 : decode cX2_aligns 363 = .ok (.return_, 1) := by decide +kernel
set_option maxRecDepth 20000 in
theorem ggX2_alignsAll_X2_aligns : GoodIn wsX2_alignsAll wsX2_aligns := goodIn_ca (goodIn_r _ [6, 7, 8, 9, 10, 11, 12, 5, 13, 14, 15, 16, 17, 18, 1, 19, 20, 21, 22, 23, 24, 25, 26, 27, 28, 29, 30, 31, 32, 33, 34, 35, 36] (by decide +kernel) (by decide +kernel)) (goodIn_sub (fun _ h => List.mem_cons_of_mem _ (List.mem_append_right _ h)) (by decide +kernel))
set_option maxRecDepth 20000 in
theorem gX2_alignsAll_X2_aligns : GoodIn wsX2_alignsAll (wsV RX2 72 RX2 yX2_aligns wsX2_aligns) := goodIn_app (goodIn_of _ (by decide +kernel)) ggX2_alignsAll_X2_aligns
theorem dX2_alignsAll_0 : decode cX2_alignsAll 0 = .ok (.iconst 0, 1) := by decide +kernel
theorem dX2_alignsAll_1 : decode cX2_alignsAll 1 = .ok (.istore_n 1, 1) := by decide +kernel
theorem dX2_alignsAll_2 : decode cX2_alignsAll 2 = .ok (.iload_n 1, 1) := by decide +kernel
theorem dX2_alignsAll_3 : decode cX2_alignsAll 3 = .ok (.aload_n 0, 1) := by decide +kernel
theorem dX2_alignsAll_4 : decode cX2_alignsAll 4 = .ok (.getfield 41, 3) := by decide +kernel
theorem dX2_alignsAll_7 : decode cX2_alignsAll 7 = .ok (.if_icmp .ge 14, 3) := by decide +kernel
theorem dX2_alignsAll_10 : decode cX2_alignsAll 10 = .ok (.aload_n 0, 1) := by decide +kernel
theorem dX2_alignsAll_11 : decode cX2_alignsAll 11 = .ok (.iload_n 1, 1) := by decide +kernel
theorem dX2_alignsAll_12 : decode cX2_alignsAll 12 = .ok (.invokevirtual 72, 3) := by decide +kernel
theorem dX2_alignsAll_15 : decode cX2_alignsAll 15 = .ok (.iinc 1 1, 3) := by decide +kernel
theorem dX2_alignsAll_18 : decode cX2_alignsAll 18 = .ok (.goto (-16), 3) := by decide +kernel
theorem dX2_alignsAll_21 : decode cX2_alignsAll 21 = .ok (.return_, 1) := by decide +kernel
set_option maxRecDepth 20000 in
theorem ggX2_alignedOf_X2_isMail : GoodIn wsX2_alignedOf wsX2_isMail := goodIn_r _ [7, 8, 9, 10, 6, 11, 42, 43, 44, 45, 46, 47, 48, 49, 50, 51, 52] (by decide +kernel) (by decide +kernel)
set_option maxRecDepth 20000 in
theorem gX2_alignedOf_X2_isMail : GoodIn wsX2_alignedOf (wsV RX2 48 RX2 yX2_isMail wsX2_isMail) := goodIn_app (goodIn_of _ (by decide +kernel)) ggX2_alignedOf_X2_isMail
set_option maxRecDepth 20000 in
theorem ggX2_alignedOf_X2_fails : GoodIn wsX2_alignedOf wsX2_fails := goodIn_r _ [15, 16, 42, 43, 44, 45, 46, 47, 48, 49, 50, 51, 52] (by decide +kernel) (by decide +kernel)
set_option maxRecDepth 20000 in
theorem gX2_alignedOf_X2_fails : GoodIn wsX2_alignedOf (wsV RX2 56 RX2 yX2_fails wsX2_fails) := goodIn_app (goodIn_of _ (by decide +kernel)) ggX2_alignedOf_X2_fails
set_option maxRecDepth 20000 in
theorem ggX2_alignedOf_X2_aligns : GoodIn wsX2_alignedOf wsX2_aligns := goodIn_ca (goodIn_r _ [20, 1, 21, 2, 22, 23, 24, 6, 25, 26, 27, 28, 29, 30, 8, 31, 32, 33, 34, 35, 36, 37, 42, 43, 44, 45, 46, 47, 48, 49, 50, 51, 52] (by decide +kernel) (by decide +kernel)) (goodIn_sub (fun _ h => List.mem_cons_of_mem _ (List.mem_append_right _ h)) (by decide +kernel))
set_option maxRecDepth 20000 in
theorem gX2_alignedOf_X2_aligns : GoodIn wsX2_alignedOf (wsV RX2 72 RX2 yX2_aligns wsX2_aligns) := goodIn_app (goodIn_of _ (by decide +kernel)) ggX2_alignedOf_X2_aligns
set_option maxRecDepth 20000 in
theorem ggX2_alignedOf_X2_tells : GoodIn wsX2_alignedOf wsX2_tells := goodIn_r _ [41, 16, 42, 43, 44, 45, 46, 47, 48, 49, 50, 51, 52] (by decide +kernel) (by decide +kernel)
set_option maxRecDepth 20000 in
theorem gX2_alignedOf_X2_tells : GoodIn wsX2_alignedOf (wsV RX2 59 RX2 yX2_tells wsX2_tells) := goodIn_app (goodIn_of _ (by decide +kernel)) ggX2_alignedOf_X2_tells
theorem dX2_alignedOf_0 : decode cX2_alignedOf 0 = .ok (.aload_n 0, 1) := by decide +kernel
theorem dX2_alignedOf_1 : decode cX2_alignedOf 1 = .ok (.iload_n 1, 1) := by decide +kernel
theorem dX2_alignedOf_2 : decode cX2_alignedOf 2 = .ok (.invokevirtual 48, 3) := by decide +kernel
theorem dX2_alignedOf_5 : decode cX2_alignedOf 5 = .ok (.ifCond .ne 9, 3) := by decide +kernel
theorem dX2_alignedOf_8 : decode cX2_alignedOf 8 = .ok (.aload_n 0, 1) := by decide +kernel
theorem dX2_alignedOf_9 : decode cX2_alignedOf 9 = .ok (.iconst 1, 1) := by decide +kernel
theorem dX2_alignedOf_10 : decode cX2_alignedOf 10 = .ok (.invokevirtual 56, 3) := by decide +kernel
theorem dX2_alignedOf_13 : decode cX2_alignedOf 13 = .ok (.ireturn, 1) := by decide +kernel
theorem dX2_alignedOf_14 : decode cX2_alignedOf 14 = .ok (.aload_n 0, 1) := by decide +kernel
theorem dX2_alignedOf_15 : decode cX2_alignedOf 15 = .ok (.iload_n 1, 1) := by decide +kernel
theorem dX2_alignedOf_16 : decode cX2_alignedOf 16 = .ok (.invokevirtual 72, 3) := by decide +kernel
theorem dX2_alignedOf_19 : decode cX2_alignedOf 19 = .ok (.iconst 0, 1) := by decide +kernel
theorem dX2_alignedOf_20 : decode cX2_alignedOf 20 = .ok (.istore_n 2, 1) := by decide +kernel
theorem dX2_alignedOf_21 : decode cX2_alignedOf 21 = .ok (.iconst 0, 1) := by decide +kernel
theorem dX2_alignedOf_22 : decode cX2_alignedOf 22 = .ok (.istore_n 3, 1) := by decide +kernel
theorem dX2_alignedOf_23 : decode cX2_alignedOf 23 = .ok (.iload_n 3, 1) := by decide +kernel
theorem dX2_alignedOf_24 : decode cX2_alignedOf 24 = .ok (.aload_n 0, 1) := by decide +kernel
theorem dX2_alignedOf_25 : decode cX2_alignedOf 25 = .ok (.getfield 22, 3) := by decide +kernel
theorem dX2_alignedOf_28 : decode cX2_alignedOf 28 = .ok (.iload_n 1, 1) := by decide +kernel
theorem dX2_alignedOf_29 : decode cX2_alignedOf 29 = .ok (.iaload, 1) := by decide +kernel
theorem dX2_alignedOf_30 : decode cX2_alignedOf 30 = .ok (.if_icmp .ge 32, 3) := by decide +kernel
theorem dX2_alignedOf_33 : decode cX2_alignedOf 33 = .ok (.iload_n 2, 1) := by decide +kernel
theorem dX2_alignedOf_34 : decode cX2_alignedOf 34 = .ok (.aload_n 0, 1) := by decide +kernel
theorem dX2_alignedOf_35 : decode cX2_alignedOf 35 = .ok (.getfield 31, 3) := by decide +kernel
theorem dX2_alignedOf_38 : decode cX2_alignedOf 38 = .ok (.bipush 8, 2) := by decide +kernel
theorem dX2_alignedOf_40 : decode cX2_alignedOf 40 = .ok (.iload_n 1, 1) := by decide +kernel
theorem dX2_alignedOf_41 : decode cX2_alignedOf 41 = .ok (.imul, 1) := by decide +kernel
theorem dX2_alignedOf_42 : decode cX2_alignedOf 42 = .ok (.iload_n 3, 1) := by decide +kernel
theorem dX2_alignedOf_43 : decode cX2_alignedOf 43 = .ok (.iadd, 1) := by decide +kernel
theorem dX2_alignedOf_44 : decode cX2_alignedOf 44 = .ok (.iaload, 1) := by decide +kernel
theorem dX2_alignedOf_45 : decode cX2_alignedOf 45 = .ok (.iconst (-1), 1) := by decide +kernel
theorem dX2_alignedOf_46 : decode cX2_alignedOf 46 = .ok (.if_icmp .ne 7, 3) := by decide +kernel
theorem dX2_alignedOf_49 : decode cX2_alignedOf 49 = .ok (.iconst 0, 1) := by decide +kernel
theorem dX2_alignedOf_50 : decode cX2_alignedOf 50 = .ok (.goto 4, 3) := by decide +kernel
theorem dX2_alignedOf_53 : decode cX2_alignedOf 53 = .ok (.iconst 1, 1) := by decide +kernel
theorem dX2_alignedOf_54 : decode cX2_alignedOf 54 = .ok (.iadd, 1) := by decide +kernel
theorem dX2_alignedOf_55 : decode cX2_alignedOf 55 = .ok (.istore_n 2, 1) := by decide +kernel
theorem dX2_alignedOf_56 : decode cX2_alignedOf 56 = .ok (.iinc 3 1, 3) := by decide +kernel
theorem dX2_alignedOf_59 : decode cX2_alignedOf 59 = .ok (.goto (-36), 3) := by decide +kernel
theorem dX2_alignedOf_62 : decode cX2_alignedOf 62 = .ok (.aload_n 0, 1) := by decide +kernel
theorem dX2_alignedOf_63 : decode cX2_alignedOf 63 = .ok (.iload_n 2, 1) := by decide +kernel
theorem dX2_alignedOf_64 : decode cX2_alignedOf 64 = .ok (.invokevirtual 59, 3) := by decide +kernel
theorem dX2_alignedOf_67 : decode cX2_alignedOf 67 = .ok (.ireturn, 1) := by decide +kernel
set_option maxRecDepth 20000 in
theorem ggX2_aligned_X2_alignedOf : GoodIn wsX2_aligned wsX2_alignedOf := goodIn_ca (goodIn_r _ [5, 6, 7, 8, 9, 10, 4, 11, 12, 13, 14, 15, 16, 17, 18, 19, 20, 21, 22, 23, 24, 25, 26, 27, 28, 29, 30, 31, 32, 33, 34, 35, 36, 37, 38, 39, 40, 41, 42, 43, 44, 45, 46, 47, 48, 49, 50, 51, 52, 53, 54, 55, 56] (by decide +kernel) (by decide +kernel)) (goodIn_sub (fun _ h => List.mem_cons_of_mem _ (List.mem_append_right _ h)) (by decide +kernel))
set_option maxRecDepth 20000 in
theorem gX2_aligned_X2_alignedOf : GoodIn wsX2_aligned (wsV RX2 76 RX2 yX2_alignedOf wsX2_alignedOf) := goodIn_app (goodIn_of _ (by decide +kernel)) ggX2_aligned_X2_alignedOf
theorem dX2_aligned_0 : decode cX2_aligned 0 = .ok (.aload_n 0, 1) := by decide +kernel
theorem dX2_aligned_1 : decode cX2_aligned 1 = .ok (.iload_n 1, 1) := by decide +kernel
theorem dX2_aligned_2 : decode cX2_aligned 2 = .ok (.invokevirtual 76, 3) := by decide +kernel
theorem dX2_aligned_5 : decode cX2_aligned 5 = .ok (.ireturn, 1) := by decide +kernel
set_option maxRecDepth 20000 in
theorem ggX2_alignedByTrying_X2_alignedOf : GoodIn wsX2_alignedByTrying wsX2_alignedOf := goodIn_ca (goodIn_r _ [5, 6, 7, 8, 9, 10, 4, 11, 12, 13, 14, 15, 16, 17, 18, 19, 20, 21, 22, 23, 24, 25, 26, 27, 28, 29, 30, 31, 32, 33, 34, 35, 36, 37, 38, 39, 40, 41, 42, 43, 44, 45, 46, 47, 48, 49, 50, 51, 52, 53, 54, 55, 56] (by decide +kernel) (by decide +kernel)) (goodIn_sub (fun _ h => List.mem_cons_of_mem _ (List.mem_append_right _ h)) (by decide +kernel))
set_option maxRecDepth 20000 in
theorem gX2_alignedByTrying_X2_alignedOf : GoodIn wsX2_alignedByTrying (wsV RX2 76 RX2 yX2_alignedOf wsX2_alignedOf) := goodIn_app (goodIn_of _ (by decide +kernel)) ggX2_alignedByTrying_X2_alignedOf
theorem dX2_alignedByTrying_0 : decode cX2_alignedByTrying 0 = .ok (.aload_n 0, 1) := by decide +kernel
theorem dX2_alignedByTrying_1 : decode cX2_alignedByTrying 1 = .ok (.iload_n 1, 1) := by decide +kernel
theorem dX2_alignedByTrying_2 : decode cX2_alignedByTrying 2 = .ok (.invokevirtual 76, 3) := by decide +kernel
theorem dX2_alignedByTrying_5 : decode cX2_alignedByTrying 5 = .ok (.ireturn, 1) := by decide +kernel
set_option maxRecDepth 20000 in
theorem ggX2_partner_X2_isLine : GoodIn wsX2_partner wsX2_isLine := goodIn_ca (goodIn_r _ [6, 7, 8, 9, 10, 5, 11, 12, 13, 14, 15, 46, 47, 48, 49, 50, 51, 52, 53, 54, 55, 56] (by decide +kernel) (by decide +kernel)) (goodIn_sub (fun _ h => List.mem_cons_of_mem _ (List.mem_append_right _ h)) (by decide +kernel))
set_option maxRecDepth 20000 in
theorem gX2_partner_X2_isLine : GoodIn wsX2_partner (wsV RX2 62 RX2 yX2_isLine wsX2_isLine) := goodIn_app (goodIn_of _ (by decide +kernel)) ggX2_partner_X2_isLine
set_option maxRecDepth 20000 in
theorem ggX2_partner_X2_fails : GoodIn wsX2_partner wsX2_fails := goodIn_r _ [19, 20, 46, 47, 48, 49, 50, 51, 52, 53, 54, 55, 56] (by decide +kernel) (by decide +kernel)
set_option maxRecDepth 20000 in
theorem gX2_partner_X2_fails : GoodIn wsX2_partner (wsV RX2 56 RX2 yX2_fails wsX2_fails) := goodIn_app (goodIn_of _ (by decide +kernel)) ggX2_partner_X2_fails
set_option maxRecDepth 20000 in
theorem ggX2_partner_X2_aligns : GoodIn wsX2_partner wsX2_aligns := goodIn_ca (goodIn_r _ [24, 7, 25, 1, 26, 27, 28, 5, 29, 30, 31, 32, 33, 34, 12, 35, 36, 37, 38, 39, 40, 41, 46, 47, 48, 49, 50, 51, 52, 53, 54, 55, 56] (by decide +kernel) (by decide +kernel)) (goodIn_sub (fun _ h => List.mem_cons_of_mem _ (List.mem_append_right _ h)) (by decide +kernel))
set_option maxRecDepth 20000 in
theorem gX2_partner_X2_aligns : GoodIn wsX2_partner (wsV RX2 72 RX2 yX2_aligns wsX2_aligns) := goodIn_app (goodIn_of _ (by decide +kernel)) ggX2_partner_X2_aligns
set_option maxRecDepth 20000 in
theorem ggX2_partner_X2_tells : GoodIn wsX2_partner wsX2_tells := goodIn_r _ [45, 20, 46, 47, 48, 49, 50, 51, 52, 53, 54, 55, 56] (by decide +kernel) (by decide +kernel)
set_option maxRecDepth 20000 in
theorem gX2_partner_X2_tells : GoodIn wsX2_partner (wsV RX2 59 RX2 yX2_tells wsX2_tells) := goodIn_app (goodIn_of _ (by decide +kernel)) ggX2_partner_X2_tells
theorem dX2_partner_0 : decode cX2_partner 0 = .ok (.aload_n 0, 1) := by decide +kernel
theorem dX2_partner_1 : decode cX2_partner 1 = .ok (.iload_n 1, 1) := by decide +kernel
theorem dX2_partner_2 : decode cX2_partner 2 = .ok (.iload_n 2, 1) := by decide +kernel
theorem dX2_partner_3 : decode cX2_partner 3 = .ok (.invokevirtual 62, 3) := by decide +kernel
theorem dX2_partner_6 : decode cX2_partner 6 = .ok (.ifCond .ne 9, 3) := by decide +kernel
theorem dX2_partner_9 : decode cX2_partner 9 = .ok (.aload_n 0, 1) := by decide +kernel
theorem dX2_partner_10 : decode cX2_partner 10 = .ok (.iconst 1, 1) := by decide +kernel
theorem dX2_partner_11 : decode cX2_partner 11 = .ok (.invokevirtual 56, 3) := by decide +kernel
theorem dX2_partner_14 : decode cX2_partner 14 = .ok (.ireturn, 1) := by decide +kernel
theorem dX2_partner_15 : decode cX2_partner 15 = .ok (.aload_n 0, 1) := by decide +kernel
theorem dX2_partner_16 : decode cX2_partner 16 = .ok (.iload_n 1, 1) := by decide +kernel
theorem dX2_partner_17 : decode cX2_partner 17 = .ok (.invokevirtual 72, 3) := by decide +kernel
theorem dX2_partner_20 : decode cX2_partner 20 = .ok (.aload_n 0, 1) := by decide +kernel
theorem dX2_partner_21 : decode cX2_partner 21 = .ok (.getfield 31, 3) := by decide +kernel
theorem dX2_partner_24 : decode cX2_partner 24 = .ok (.bipush 8, 2) := by decide +kernel
theorem dX2_partner_26 : decode cX2_partner 26 = .ok (.iload_n 1, 1) := by decide +kernel
theorem dX2_partner_27 : decode cX2_partner 27 = .ok (.imul, 1) := by decide +kernel
theorem dX2_partner_28 : decode cX2_partner 28 = .ok (.iload_n 2, 1) := by decide +kernel
theorem dX2_partner_29 : decode cX2_partner 29 = .ok (.iadd, 1) := by decide +kernel
theorem dX2_partner_30 : decode cX2_partner 30 = .ok (.iaload, 1) := by decide +kernel
theorem dX2_partner_31 : decode cX2_partner 31 = .ok (.iconst (-1), 1) := by decide +kernel
theorem dX2_partner_32 : decode cX2_partner 32 = .ok (.if_icmp .ne 11, 3) := by decide +kernel
theorem dX2_partner_35 : decode cX2_partner 35 = .ok (.aload_n 0, 1) := by decide +kernel
theorem dX2_partner_36 : decode cX2_partner 36 = .ok (.iconst 2, 1) := by decide +kernel
theorem dX2_partner_37 : decode cX2_partner 37 = .ok (.invokevirtual 56, 3) := by decide +kernel
theorem dX2_partner_40 : decode cX2_partner 40 = .ok (.goto 18, 3) := by decide +kernel
theorem dX2_partner_43 : decode cX2_partner 43 = .ok (.aload_n 0, 1) := by decide +kernel
theorem dX2_partner_44 : decode cX2_partner 44 = .ok (.aload_n 0, 1) := by decide +kernel
theorem dX2_partner_45 : decode cX2_partner 45 = .ok (.getfield 31, 3) := by decide +kernel
theorem dX2_partner_48 : decode cX2_partner 48 = .ok (.bipush 8, 2) := by decide +kernel
theorem dX2_partner_50 : decode cX2_partner 50 = .ok (.iload_n 1, 1) := by decide +kernel
theorem dX2_partner_51 : decode cX2_partner 51 = .ok (.imul, 1) := by decide +kernel
theorem dX2_partner_52 : decode cX2_partner 52 = .ok (.iload_n 2, 1) := by decide +kernel
theorem dX2_partner_53 : decode cX2_partner 53 = .ok (.iadd, 1) := by decide +kernel
theorem dX2_partner_54 : decode cX2_partner 54 = .ok (.iaload, 1) := by decide +kernel
theorem dX2_partner_55 : decode cX2_partner 55 = .ok (.invokevirtual 59, 3) := by decide +kernel
theorem dX2_partner_58 : decode cX2_partner 58 = .ok (.ireturn, 1) := by decide +kernel
set_option maxRecDepth 20000 in
theorem ggX2_origin_X2_parentOf : GoodIn wsX2_origin wsX2_parentOf := goodIn_ca (goodIn_r _ [6, 7, 8, 9, 10, 5, 11, 12, 13, 14, 15, 16, 17, 18, 19, 20, 21, 22, 23, 24] (by decide +kernel) (by decide +kernel)) (goodIn_sub (fun _ h => List.mem_cons_of_mem _ (List.mem_append_right _ h)) (by decide +kernel))
set_option maxRecDepth 20000 in
theorem gX2_origin_X2_parentOf : GoodIn wsX2_origin (wsV RX2 66 RX2 yX2_parentOf wsX2_parentOf) := goodIn_app (goodIn_of _ (by decide +kernel)) ggX2_origin_X2_parentOf
theorem dX2_origin_0 : decode cX2_origin 0 = .ok (.iload_n 1, 1) := by decide +kernel
theorem dX2_origin_1 : decode cX2_origin 1 = .ok (.istore_n 3, 1) := by decide +kernel
theorem dX2_origin_2 : decode cX2_origin 2 = .ok (.iload_n 2, 1) := by decide +kernel
theorem dX2_origin_3 : decode cX2_origin 3 = .ok (.istore 4, 2) := by decide +kernel
theorem dX2_origin_5 : decode cX2_origin 5 = .ok (.aload_n 0, 1) := by decide +kernel
theorem dX2_origin_6 : decode cX2_origin 6 = .ok (.getfield 31, 3) := by decide +kernel
theorem dX2_origin_9 : decode cX2_origin 9 = .ok (.bipush 8, 2) := by decide +kernel
theorem dX2_origin_11 : decode cX2_origin 11 = .ok (.iload_n 3, 1) := by decide +kernel
theorem dX2_origin_12 : decode cX2_origin 12 = .ok (.imul, 1) := by decide +kernel
theorem dX2_origin_13 : decode cX2_origin 13 = .ok (.iload 4, 2) := by decide +kernel
theorem dX2_origin_15 : decode cX2_origin 15 = .ok (.iadd, 1) := by decide +kernel
theorem dX2_origin_16 : decode cX2_origin 16 = .ok (.iaload, 1) := by decide +kernel
theorem dX2_origin_17 : decode cX2_origin 17 = .ok (.iconst (-1), 1) := by decide +kernel
theorem dX2_origin_18 : decode cX2_origin 18 = .ok (.if_icmp .eq 26, 3) := by decide +kernel
theorem dX2_origin_21 : decode cX2_origin 21 = .ok (.aload_n 0, 1) := by decide +kernel
theorem dX2_origin_22 : decode cX2_origin 22 = .ok (.getfield 31, 3) := by decide +kernel
theorem dX2_origin_25 : decode cX2_origin 25 = .ok (.bipush 8, 2) := by decide +kernel
theorem dX2_origin_27 : decode cX2_origin 27 = .ok (.iload_n 3, 1) := by decide +kernel
theorem dX2_origin_28 : decode cX2_origin 28 = .ok (.imul, 1) := by decide +kernel
theorem dX2_origin_29 : decode cX2_origin 29 = .ok (.iload 4, 2) := by decide +kernel
theorem dX2_origin_31 : decode cX2_origin 31 = .ok (.iadd, 1) := by decide +kernel
theorem dX2_origin_32 : decode cX2_origin 32 = .ok (.iaload, 1) := by decide +kernel
theorem dX2_origin_33 : decode cX2_origin 33 = .ok (.istore 4, 2) := by decide +kernel
theorem dX2_origin_35 : decode cX2_origin 35 = .ok (.aload_n 0, 1) := by decide +kernel
theorem dX2_origin_36 : decode cX2_origin 36 = .ok (.iload_n 3, 1) := by decide +kernel
theorem dX2_origin_37 : decode cX2_origin 37 = .ok (.invokevirtual 66, 3) := by decide +kernel
theorem dX2_origin_40 : decode cX2_origin 40 = .ok (.istore_n 3, 1) := by decide +kernel
theorem dX2_origin_41 : decode cX2_origin 41 = .ok (.goto (-36), 3) := by decide +kernel
theorem dX2_origin_44 : decode cX2_origin 44 = .ok (.bipush 8, 2) := by decide +kernel
theorem dX2_origin_46 : decode cX2_origin 46 = .ok (.iload_n 3, 1) := by decide +kernel
theorem dX2_origin_47 : decode cX2_origin 47 = .ok (.imul, 1) := by decide +kernel
theorem dX2_origin_48 : decode cX2_origin 48 = .ok (.iload 4, 2) := by decide +kernel
theorem dX2_origin_50 : decode cX2_origin 50 = .ok (.iadd, 1) := by decide +kernel
theorem dX2_origin_51 : decode cX2_origin 51 = .ok (.ireturn, 1) := by decide +kernel
set_option maxRecDepth 20000 in
theorem ggX2_originMail_X2_isLine : GoodIn wsX2_originMail wsX2_isLine := goodIn_ca (goodIn_r _ [5, 6, 7, 8, 9, 4, 10, 11, 12, 13, 14, 54, 55, 56, 57, 58, 59, 60, 61, 62, 63, 64] (by decide +kernel) (by decide +kernel)) (goodIn_sub (fun _ h => List.mem_cons_of_mem _ (List.mem_append_right _ h)) (by decide +kernel))
set_option maxRecDepth 20000 in
theorem gX2_originMail_X2_isLine : GoodIn wsX2_originMail (wsV RX2 62 RX2 yX2_isLine wsX2_isLine) := goodIn_app (goodIn_of _ (by decide +kernel)) ggX2_originMail_X2_isLine
set_option maxRecDepth 20000 in
theorem ggX2_originMail_X2_fails : GoodIn wsX2_originMail wsX2_fails := goodIn_r _ [18, 19, 54, 55, 56, 57, 58, 59, 60, 61, 62, 63, 64] (by decide +kernel) (by decide +kernel)
set_option maxRecDepth 20000 in
theorem gX2_originMail_X2_fails : GoodIn wsX2_originMail (wsV RX2 56 RX2 yX2_fails wsX2_fails) := goodIn_app (goodIn_of _ (by decide +kernel)) ggX2_originMail_X2_fails
set_option maxRecDepth 20000 in
theorem ggX2_originMail_X2_alignsAll : GoodIn wsX2_originMail wsX2_alignsAll := goodIn_ca (goodIn_r _ [23, 11, 24, 25, 26, 4, 27, 6, 28, 29, 30, 31, 32, 33, 34, 35, 36, 37, 38, 39, 40, 41, 42, 43, 44, 45, 54, 55, 56, 57, 58, 59, 60, 61, 62, 63, 64] (by decide +kernel) (by decide +kernel)) (goodIn_sub (fun _ h => List.mem_cons_of_mem _ (List.mem_append_right _ h)) (by decide +kernel))
set_option maxRecDepth 20000 in
theorem gX2_originMail_X2_alignsAll : GoodIn wsX2_originMail (wsV RX2 79 RX2 yX2_alignsAll wsX2_alignsAll) := goodIn_app (goodIn_of _ (by decide +kernel)) ggX2_originMail_X2_alignsAll
set_option maxRecDepth 20000 in
theorem ggX2_originMail_X2_origin : GoodIn wsX2_originMail wsX2_origin := goodIn_ca (goodIn_r _ [49, 29, 30, 31, 32, 4, 33, 34, 35, 36, 37, 38, 11, 39, 54, 55, 56, 57, 58, 59, 60, 61, 62, 63, 64] (by decide +kernel) (by decide +kernel)) (goodIn_sub (fun _ h => List.mem_cons_of_mem _ (List.mem_append_right _ h)) (by decide +kernel))
set_option maxRecDepth 20000 in
theorem gX2_originMail_X2_origin : GoodIn wsX2_originMail (wsV RX2 82 RX2 yX2_origin wsX2_origin) := goodIn_app (goodIn_of _ (by decide +kernel)) ggX2_originMail_X2_origin
set_option maxRecDepth 20000 in
theorem ggX2_originMail_X2_tells : GoodIn wsX2_originMail wsX2_tells := goodIn_r _ [53, 19, 54, 55, 56, 57, 58, 59, 60, 61, 62, 63, 64] (by decide +kernel) (by decide +kernel)
set_option maxRecDepth 20000 in
theorem gX2_originMail_X2_tells : GoodIn wsX2_originMail (wsV RX2 59 RX2 yX2_tells wsX2_tells) := goodIn_app (goodIn_of _ (by decide +kernel)) ggX2_originMail_X2_tells
theorem dX2_originMail_0 : decode cX2_originMail 0 = .ok (.aload_n 0, 1) := by decide +kernel
theorem dX2_originMail_1 : decode cX2_originMail 1 = .ok (.iload_n 1, 1) := by decide +kernel
theorem dX2_originMail_2 : decode cX2_originMail 2 = .ok (.iload_n 2, 1) := by decide +kernel
theorem dX2_originMail_3 : decode cX2_originMail 3 = .ok (.invokevirtual 62, 3) := by decide +kernel
theorem dX2_originMail_6 : decode cX2_originMail 6 = .ok (.ifCond .ne 9, 3) := by decide +kernel
theorem dX2_originMail_9 : decode cX2_originMail 9 = .ok (.aload_n 0, 1) := by decide +kernel
theorem dX2_originMail_10 : decode cX2_originMail 10 = .ok (.iconst 1, 1) := by decide +kernel
theorem dX2_originMail_11 : decode cX2_originMail 11 = .ok (.invokevirtual 56, 3) := by decide +kernel
theorem dX2_originMail_14 : decode cX2_originMail 14 = .ok (.ireturn, 1) := by decide +kernel
theorem dX2_originMail_15 : decode cX2_originMail 15 = .ok (.aload_n 0, 1) := by decide +kernel
theorem dX2_originMail_16 : decode cX2_originMail 16 = .ok (.invokevirtual 79, 3) := by decide +kernel
theorem dX2_originMail_19 : decode cX2_originMail 19 = .ok (.aload_n 0, 1) := by decide +kernel
theorem dX2_originMail_20 : decode cX2_originMail 20 = .ok (.aload_n 0, 1) := by decide +kernel
theorem dX2_originMail_21 : decode cX2_originMail 21 = .ok (.iload_n 1, 1) := by decide +kernel
theorem dX2_originMail_22 : decode cX2_originMail 22 = .ok (.iload_n 2, 1) := by decide +kernel
theorem dX2_originMail_23 : decode cX2_originMail 23 = .ok (.invokevirtual 82, 3) := by decide +kernel
theorem dX2_originMail_26 : decode cX2_originMail 26 = .ok (.bipush 8, 2) := by decide +kernel
theorem dX2_originMail_28 : decode cX2_originMail 28 = .ok (.idiv, 1) := by decide +kernel
theorem dX2_originMail_29 : decode cX2_originMail 29 = .ok (.invokevirtual 59, 3) := by decide +kernel
theorem dX2_originMail_32 : decode cX2_originMail 32 = .ok (.ireturn, 1) := by decide +kernel
set_option maxRecDepth 20000 in
theorem ggX2_originLine_X2_isLine : GoodIn wsX2_originLine wsX2_isLine := goodIn_ca (goodIn_r _ [5, 6, 7, 8, 9, 4, 10, 11, 12, 13, 14, 54, 55, 56, 57, 58, 59, 60, 61, 62, 63, 64] (by decide +kernel) (by decide +kernel)) (goodIn_sub (fun _ h => List.mem_cons_of_mem _ (List.mem_append_right _ h)) (by decide +kernel))
set_option maxRecDepth 20000 in
theorem gX2_originLine_X2_isLine : GoodIn wsX2_originLine (wsV RX2 62 RX2 yX2_isLine wsX2_isLine) := goodIn_app (goodIn_of _ (by decide +kernel)) ggX2_originLine_X2_isLine
set_option maxRecDepth 20000 in
theorem ggX2_originLine_X2_fails : GoodIn wsX2_originLine wsX2_fails := goodIn_r _ [18, 19, 54, 55, 56, 57, 58, 59, 60, 61, 62, 63, 64] (by decide +kernel) (by decide +kernel)
set_option maxRecDepth 20000 in
theorem gX2_originLine_X2_fails : GoodIn wsX2_originLine (wsV RX2 56 RX2 yX2_fails wsX2_fails) := goodIn_app (goodIn_of _ (by decide +kernel)) ggX2_originLine_X2_fails
set_option maxRecDepth 20000 in
theorem ggX2_originLine_X2_alignsAll : GoodIn wsX2_originLine wsX2_alignsAll := goodIn_ca (goodIn_r _ [23, 11, 24, 25, 26, 4, 27, 6, 28, 29, 30, 31, 32, 33, 34, 35, 36, 37, 38, 39, 40, 41, 42, 43, 44, 45, 54, 55, 56, 57, 58, 59, 60, 61, 62, 63, 64] (by decide +kernel) (by decide +kernel)) (goodIn_sub (fun _ h => List.mem_cons_of_mem _ (List.mem_append_right _ h)) (by decide +kernel))
set_option maxRecDepth 20000 in
theorem gX2_originLine_X2_alignsAll : GoodIn wsX2_originLine (wsV RX2 79 RX2 yX2_alignsAll wsX2_alignsAll) := goodIn_app (goodIn_of _ (by decide +kernel)) ggX2_originLine_X2_alignsAll
set_option maxRecDepth 20000 in
theorem ggX2_originLine_X2_origin : GoodIn wsX2_originLine wsX2_origin := goodIn_ca (goodIn_r _ [49, 29, 30, 31, 32, 4, 33, 34, 35, 36, 37, 38, 11, 39, 54, 55, 56, 57, 58, 59, 60, 61, 62, 63, 64] (by decide +kernel) (by decide +kernel)) (goodIn_sub (fun _ h => List.mem_cons_of_mem _ (List.mem_append_right _ h)) (by decide +kernel))
set_option maxRecDepth 20000 in
theorem gX2_originLine_X2_origin : GoodIn wsX2_originLine (wsV RX2 82 RX2 yX2_origin wsX2_origin) := goodIn_app (goodIn_of _ (by decide +kernel)) ggX2_originLine_X2_origin
set_option maxRecDepth 20000 in
theorem ggX2_originLine_X2_tells : GoodIn wsX2_originLine wsX2_tells := goodIn_r _ [53, 19, 54, 55, 56, 57, 58, 59, 60, 61, 62, 63, 64] (by decide +kernel) (by decide +kernel)
set_option maxRecDepth 20000 in
theorem gX2_originLine_X2_tells : GoodIn wsX2_originLine (wsV RX2 59 RX2 yX2_tells wsX2_tells) := goodIn_app (goodIn_of _ (by decide +kernel)) ggX2_originLine_X2_tells
theorem dX2_originLine_0 : decode cX2_originLine 0 = .ok (.aload_n 0, 1) := by decide +kernel
theorem dX2_originLine_1 : decode cX2_originLine 1 = .ok (.iload_n 1, 1) := by decide +kernel
theorem dX2_originLine_2 : decode cX2_originLine 2 = .ok (.iload_n 2, 1) := by decide +kernel
theorem dX2_originLine_3 : decode cX2_originLine 3 = .ok (.invokevirtual 62, 3) := by decide +kernel
theorem dX2_originLine_6 : decode cX2_originLine 6 = .ok (.ifCond .ne 9, 3) := by decide +kernel
theorem dX2_originLine_9 : decode cX2_originLine 9 = .ok (.aload_n 0, 1) := by decide +kernel
theorem dX2_originLine_10 : decode cX2_originLine 10 = .ok (.iconst 1, 1) := by decide +kernel
theorem dX2_originLine_11 : decode cX2_originLine 11 = .ok (.invokevirtual 56, 3) := by decide +kernel
theorem dX2_originLine_14 : decode cX2_originLine 14 = .ok (.ireturn, 1) := by decide +kernel
theorem dX2_originLine_15 : decode cX2_originLine 15 = .ok (.aload_n 0, 1) := by decide +kernel
theorem dX2_originLine_16 : decode cX2_originLine 16 = .ok (.invokevirtual 79, 3) := by decide +kernel
theorem dX2_originLine_19 : decode cX2_originLine 19 = .ok (.aload_n 0, 1) := by decide +kernel
theorem dX2_originLine_20 : decode cX2_originLine 20 = .ok (.aload_n 0, 1) := by decide +kernel
theorem dX2_originLine_21 : decode cX2_originLine 21 = .ok (.iload_n 1, 1) := by decide +kernel
theorem dX2_originLine_22 : decode cX2_originLine 22 = .ok (.iload_n 2, 1) := by decide +kernel
theorem dX2_originLine_23 : decode cX2_originLine 23 = .ok (.invokevirtual 82, 3) := by decide +kernel
theorem dX2_originLine_26 : decode cX2_originLine 26 = .ok (.bipush 8, 2) := by decide +kernel
theorem dX2_originLine_28 : decode cX2_originLine 28 = .ok (.irem, 1) := by decide +kernel
theorem dX2_originLine_29 : decode cX2_originLine 29 = .ok (.invokevirtual 59, 3) := by decide +kernel
theorem dX2_originLine_32 : decode cX2_originLine 32 = .ok (.ireturn, 1) := by decide +kernel
theorem dX2_endAlike_0 : decode cX2_endAlike 0 = .ok (.iload_n 3, 1) := by decide +kernel
theorem dX2_endAlike_1 : decode cX2_endAlike 1 = .ok (.aload_n 0, 1) := by decide +kernel
theorem dX2_endAlike_2 : decode cX2_endAlike 2 = .ok (.getfield 22, 3) := by decide +kernel
theorem dX2_endAlike_5 : decode cX2_endAlike 5 = .ok (.iload_n 1, 1) := by decide +kernel
theorem dX2_endAlike_6 : decode cX2_endAlike 6 = .ok (.iaload, 1) := by decide +kernel
theorem dX2_endAlike_7 : decode cX2_endAlike 7 = .ok (.if_icmp .gt 17, 3) := by decide +kernel
theorem dX2_endAlike_10 : decode cX2_endAlike 10 = .ok (.iload_n 3, 1) := by decide +kernel
theorem dX2_endAlike_11 : decode cX2_endAlike 11 = .ok (.aload_n 0, 1) := by decide +kernel
theorem dX2_endAlike_12 : decode cX2_endAlike 12 = .ok (.getfield 22, 3) := by decide +kernel
theorem dX2_endAlike_15 : decode cX2_endAlike 15 = .ok (.iload_n 2, 1) := by decide +kernel
theorem dX2_endAlike_16 : decode cX2_endAlike 16 = .ok (.iaload, 1) := by decide +kernel
theorem dX2_endAlike_17 : decode cX2_endAlike 17 = .ok (.if_icmp .gt 7, 3) := by decide +kernel
theorem dX2_endAlike_20 : decode cX2_endAlike 20 = .ok (.iconst 1, 1) := by decide +kernel
theorem dX2_endAlike_21 : decode cX2_endAlike 21 = .ok (.goto 4, 3) := by decide +kernel
theorem dX2_endAlike_24 : decode cX2_endAlike 24 = .ok (.iconst 0, 1) := by decide +kernel
theorem dX2_endAlike_25 : decode cX2_endAlike 25 = .ok (.istore 4, 2) := by decide +kernel
theorem dX2_endAlike_27 : decode cX2_endAlike 27 = .ok (.iconst 1, 1) := by decide +kernel
theorem dX2_endAlike_28 : decode cX2_endAlike 28 = .ok (.istore 5, 2) := by decide +kernel
theorem dX2_endAlike_30 : decode cX2_endAlike 30 = .ok (.iload 5, 2) := by decide +kernel
theorem dX2_endAlike_32 : decode cX2_endAlike 32 = .ok (.iload_n 3, 1) := by decide +kernel
theorem dX2_endAlike_33 : decode cX2_endAlike 33 = .ok (.if_icmp .gt 90, 3) := by decide +kernel
theorem dX2_endAlike_36 : decode cX2_endAlike 36 = .ok (.iload 4, 2) := by decide +kernel
theorem dX2_endAlike_38 : decode cX2_endAlike 38 = .ok (.ifCond .eq 85, 3) := by decide +kernel
theorem dX2_endAlike_41 : decode cX2_endAlike 41 = .ok (.bipush 8, 2) := by decide +kernel
theorem dX2_endAlike_43 : decode cX2_endAlike 43 = .ok (.iload_n 1, 1) := by decide +kernel
theorem dX2_endAlike_44 : decode cX2_endAlike 44 = .ok (.imul, 1) := by decide +kernel
theorem dX2_endAlike_45 : decode cX2_endAlike 45 = .ok (.aload_n 0, 1) := by decide +kernel
theorem dX2_endAlike_46 : decode cX2_endAlike 46 = .ok (.getfield 22, 3) := by decide +kernel
theorem dX2_endAlike_49 : decode cX2_endAlike 49 = .ok (.iload_n 1, 1) := by decide +kernel
theorem dX2_endAlike_50 : decode cX2_endAlike 50 = .ok (.iaload, 1) := by decide +kernel
theorem dX2_endAlike_51 : decode cX2_endAlike 51 = .ok (.iadd, 1) := by decide +kernel
theorem dX2_endAlike_52 : decode cX2_endAlike 52 = .ok (.iload 5, 2) := by decide +kernel
theorem dX2_endAlike_54 : decode cX2_endAlike 54 = .ok (.isub, 1) := by decide +kernel
theorem dX2_endAlike_55 : decode cX2_endAlike 55 = .ok (.istore 6, 2) := by decide +kernel
theorem dX2_endAlike_57 : decode cX2_endAlike 57 = .ok (.bipush 8, 2) := by decide +kernel
theorem dX2_endAlike_59 : decode cX2_endAlike 59 = .ok (.iload_n 2, 1) := by decide +kernel
theorem dX2_endAlike_60 : decode cX2_endAlike 60 = .ok (.imul, 1) := by decide +kernel
theorem dX2_endAlike_61 : decode cX2_endAlike 61 = .ok (.aload_n 0, 1) := by decide +kernel
theorem dX2_endAlike_62 : decode cX2_endAlike 62 = .ok (.getfield 22, 3) := by decide +kernel
theorem dX2_endAlike_65 : decode cX2_endAlike 65 = .ok (.iload_n 2, 1) := by decide +kernel
theorem dX2_endAlike_66 : decode cX2_endAlike 66 = .ok (.iaload, 1) := by decide +kernel
theorem dX2_endAlike_67 : decode cX2_endAlike 67 = .ok (.iadd, 1) := by decide +kernel
theorem dX2_endAlike_68 : decode cX2_endAlike 68 = .ok (.iload 5, 2) := by decide +kernel
theorem dX2_endAlike_70 : decode cX2_endAlike 70 = .ok (.isub, 1) := by decide +kernel
theorem dX2_endAlike_71 : decode cX2_endAlike 71 = .ok (.istore 7, 2) := by decide +kernel
theorem dX2_endAlike_73 : decode cX2_endAlike 73 = .ok (.aload_n 0, 1) := by decide +kernel
theorem dX2_endAlike_74 : decode cX2_endAlike 74 = .ok (.getfield 25, 3) := by decide +kernel
theorem dX2_endAlike_77 : decode cX2_endAlike 77 = .ok (.iload 6, 2) := by decide +kernel
theorem dX2_endAlike_79 : decode cX2_endAlike 79 = .ok (.iaload, 1) := by decide +kernel
theorem dX2_endAlike_80 : decode cX2_endAlike 80 = .ok (.ifCond .ne 34, 3) := by decide +kernel
theorem dX2_endAlike_83 : decode cX2_endAlike 83 = .ok (.aload_n 0, 1) := by decide +kernel
theorem dX2_endAlike_84 : decode cX2_endAlike 84 = .ok (.getfield 25, 3) := by decide +kernel
theorem dX2_endAlike_87 : decode cX2_endAlike 87 = .ok (.iload 7, 2) := by decide +kernel
theorem dX2_endAlike_89 : decode cX2_endAlike 89 = .ok (.iaload, 1) := by decide +kernel
theorem dX2_endAlike_90 : decode cX2_endAlike 90 = .ok (.ifCond .ne 24, 3) := by decide +kernel
theorem dX2_endAlike_93 : decode cX2_endAlike 93 = .ok (.aload_n 0, 1) := by decide +kernel
theorem dX2_endAlike_94 : decode cX2_endAlike 94 = .ok (.getfield 28, 3) := by decide +kernel
theorem dX2_endAlike_97 : decode cX2_endAlike 97 = .ok (.iload 6, 2) := by decide +kernel
theorem dX2_endAlike_99 : decode cX2_endAlike 99 = .ok (.iaload, 1) := by decide +kernel
theorem dX2_endAlike_100 : decode cX2_endAlike 100 = .ok (.aload_n 0, 1) := by decide +kernel
theorem dX2_endAlike_101 : decode cX2_endAlike 101 = .ok (.getfield 28, 3) := by decide +kernel
theorem dX2_endAlike_104 : decode cX2_endAlike 104 = .ok (.iload 7, 2) := by decide +kernel
theorem dX2_endAlike_106 : decode cX2_endAlike 106 = .ok (.iaload, 1) := by decide +kernel
theorem dX2_endAlike_107 : decode cX2_endAlike 107 = .ok (.if_icmp .ne 7, 3) := by decide +kernel
theorem dX2_endAlike_110 : decode cX2_endAlike 110 = .ok (.iconst 1, 1) := by decide +kernel
theorem dX2_endAlike_111 : decode cX2_endAlike 111 = .ok (.goto 4, 3) := by decide +kernel
theorem dX2_endAlike_114 : decode cX2_endAlike 114 = .ok (.iconst 0, 1) := by decide +kernel
theorem dX2_endAlike_115 : decode cX2_endAlike 115 = .ok (.istore 4, 2) := by decide +kernel
theorem dX2_endAlike_117 : decode cX2_endAlike 117 = .ok (.iinc 5 1, 3) := by decide +kernel
theorem dX2_endAlike_120 : decode cX2_endAlike 120 = .ok (.goto (-90), 3) := by decide +kernel
theorem dX2_endAlike_123 : decode cX2_endAlike 123 = .ok (.iload 4, 2) := by decide +kernel
theorem dX2_endAlike_125 : decode cX2_endAlike 125 = .ok (.ireturn, 1) := by decide +kernel
set_option maxRecDepth 20000 in
theorem ggX2_signed_X2_endAlike : GoodIn wsX2_signed wsX2_endAlike := goodIn_ca (goodIn_r _ [7, 8, 9, 10, 11, 12, 13, 14, 15, 16, 17, 18, 19, 20, 21] (by decide +kernel) (by decide +kernel)) (goodIn_sub (fun _ h => List.mem_cons_of_mem _ (List.mem_append_right _ h)) (by decide +kernel))
set_option maxRecDepth 20000 in
theorem gX2_signed_X2_endAlike : GoodIn wsX2_signed (wsV RX2 86 RX2 yX2_endAlike wsX2_endAlike) := goodIn_app (goodIn_of _ (by decide +kernel)) ggX2_signed_X2_endAlike
theorem dX2_signed_0 : decode cX2_signed 0 = .ok (.iconst 0, 1) := by decide +kernel
theorem dX2_signed_1 : decode cX2_signed 1 = .ok (.istore_n 2, 1) := by decide +kernel
theorem dX2_signed_2 : decode cX2_signed 2 = .ok (.iconst 1, 1) := by decide +kernel
theorem dX2_signed_3 : decode cX2_signed 3 = .ok (.istore_n 3, 1) := by decide +kernel
theorem dX2_signed_4 : decode cX2_signed 4 = .ok (.iload_n 3, 1) := by decide +kernel
theorem dX2_signed_5 : decode cX2_signed 5 = .ok (.iconst 3, 1) := by decide +kernel
theorem dX2_signed_6 : decode cX2_signed 6 = .ok (.if_icmp .gt 62, 3) := by decide +kernel
theorem dX2_signed_9 : decode cX2_signed 9 = .ok (.iconst 0, 1) := by decide +kernel
theorem dX2_signed_10 : decode cX2_signed 10 = .ok (.istore 4, 2) := by decide +kernel
theorem dX2_signed_12 : decode cX2_signed 12 = .ok (.iload 4, 2) := by decide +kernel
theorem dX2_signed_14 : decode cX2_signed 14 = .ok (.aload_n 0, 1) := by decide +kernel
theorem dX2_signed_15 : decode cX2_signed 15 = .ok (.getfield 41, 3) := by decide +kernel
theorem dX2_signed_18 : decode cX2_signed 18 = .ok (.if_icmp .ge 44, 3) := by decide +kernel
theorem dX2_signed_21 : decode cX2_signed 21 = .ok (.iload 4, 2) := by decide +kernel
theorem dX2_signed_23 : decode cX2_signed 23 = .ok (.iload_n 1, 1) := by decide +kernel
theorem dX2_signed_24 : decode cX2_signed 24 = .ok (.if_icmp .eq 32, 3) := by decide +kernel
theorem dX2_signed_27 : decode cX2_signed 27 = .ok (.aload_n 0, 1) := by decide +kernel
theorem dX2_signed_28 : decode cX2_signed 28 = .ok (.getfield 13, 3) := by decide +kernel
theorem dX2_signed_31 : decode cX2_signed 31 = .ok (.iload 4, 2) := by decide +kernel
theorem dX2_signed_33 : decode cX2_signed 33 = .ok (.iaload, 1) := by decide +kernel
theorem dX2_signed_34 : decode cX2_signed 34 = .ok (.aload_n 0, 1) := by decide +kernel
theorem dX2_signed_35 : decode cX2_signed 35 = .ok (.getfield 13, 3) := by decide +kernel
theorem dX2_signed_38 : decode cX2_signed 38 = .ok (.iload_n 1, 1) := by decide +kernel
theorem dX2_signed_39 : decode cX2_signed 39 = .ok (.iaload, 1) := by decide +kernel
theorem dX2_signed_40 : decode cX2_signed 40 = .ok (.if_icmp .ne 16, 3) := by decide +kernel
theorem dX2_signed_43 : decode cX2_signed 43 = .ok (.aload_n 0, 1) := by decide +kernel
theorem dX2_signed_44 : decode cX2_signed 44 = .ok (.iload_n 1, 1) := by decide +kernel
theorem dX2_signed_45 : decode cX2_signed 45 = .ok (.iload 4, 2) := by decide +kernel
theorem dX2_signed_47 : decode cX2_signed 47 = .ok (.iload_n 3, 1) := by decide +kernel
theorem dX2_signed_48 : decode cX2_signed 48 = .ok (.invokevirtual 86, 3) := by decide +kernel
theorem dX2_signed_51 : decode cX2_signed 51 = .ok (.ifCond .eq 5, 3) := by decide +kernel
theorem dX2_signed_54 : decode cX2_signed 54 = .ok (.iload_n 3, 1) := by decide +kernel
theorem dX2_signed_55 : decode cX2_signed 55 = .ok (.istore_n 2, 1) := by decide +kernel
theorem dX2_signed_56 : decode cX2_signed 56 = .ok (.iinc 4 1, 3) := by decide +kernel
theorem dX2_signed_59 : decode cX2_signed 59 = .ok (.goto (-47), 3) := by decide +kernel
theorem dX2_signed_62 : decode cX2_signed 62 = .ok (.iinc 3 1, 3) := by decide +kernel
theorem dX2_signed_65 : decode cX2_signed 65 = .ok (.goto (-61), 3) := by decide +kernel
theorem dX2_signed_68 : decode cX2_signed 68 = .ok (.iload_n 2, 1) := by decide +kernel
theorem dX2_signed_69 : decode cX2_signed 69 = .ok (.ireturn, 1) := by decide +kernel
theorem dX2_stoodBefore_0 : decode cX2_stoodBefore 0 = .ok (.iconst 0, 1) := by decide +kernel
theorem dX2_stoodBefore_1 : decode cX2_stoodBefore 1 = .ok (.istore_n 3, 1) := by decide +kernel
theorem dX2_stoodBefore_2 : decode cX2_stoodBefore 2 = .ok (.iconst 0, 1) := by decide +kernel
theorem dX2_stoodBefore_3 : decode cX2_stoodBefore 3 = .ok (.istore 4, 2) := by decide +kernel
theorem dX2_stoodBefore_5 : decode cX2_stoodBefore 5 = .ok (.iload 4, 2) := by decide +kernel
theorem dX2_stoodBefore_7 : decode cX2_stoodBefore 7 = .ok (.aload_n 0, 1) := by decide +kernel
theorem dX2_stoodBefore_8 : decode cX2_stoodBefore 8 = .ok (.getfield 41, 3) := by decide +kernel
theorem dX2_stoodBefore_11 : decode cX2_stoodBefore 11 = .ok (.if_icmp .ge 133, 3) := by decide +kernel
theorem dX2_stoodBefore_14 : decode cX2_stoodBefore 14 = .ok (.aload_n 0, 1) := by decide +kernel
theorem dX2_stoodBefore_15 : decode cX2_stoodBefore 15 = .ok (.getfield 19, 3) := by decide +kernel
theorem dX2_stoodBefore_18 : decode cX2_stoodBefore 18 = .ok (.iload 4, 2) := by decide +kernel
theorem dX2_stoodBefore_20 : decode cX2_stoodBefore 20 = .ok (.iaload, 1) := by decide +kernel
theorem dX2_stoodBefore_21 : decode cX2_stoodBefore 21 = .ok (.aload_n 0, 1) := by decide +kernel
theorem dX2_stoodBefore_22 : decode cX2_stoodBefore 22 = .ok (.getfield 19, 3) := by decide +kernel
theorem dX2_stoodBefore_25 : decode cX2_stoodBefore 25 = .ok (.iload_n 1, 1) := by decide +kernel
theorem dX2_stoodBefore_26 : decode cX2_stoodBefore 26 = .ok (.iaload, 1) := by decide +kernel
theorem dX2_stoodBefore_27 : decode cX2_stoodBefore 27 = .ok (.if_icmp .ne 111, 3) := by decide +kernel
theorem dX2_stoodBefore_30 : decode cX2_stoodBefore 30 = .ok (.aload_n 0, 1) := by decide +kernel
theorem dX2_stoodBefore_31 : decode cX2_stoodBefore 31 = .ok (.getfield 7, 3) := by decide +kernel
theorem dX2_stoodBefore_34 : decode cX2_stoodBefore 34 = .ok (.iload 4, 2) := by decide +kernel
theorem dX2_stoodBefore_36 : decode cX2_stoodBefore 36 = .ok (.iaload, 1) := by decide +kernel
theorem dX2_stoodBefore_37 : decode cX2_stoodBefore 37 = .ok (.aload_n 0, 1) := by decide +kernel
theorem dX2_stoodBefore_38 : decode cX2_stoodBefore 38 = .ok (.getfield 7, 3) := by decide +kernel
theorem dX2_stoodBefore_41 : decode cX2_stoodBefore 41 = .ok (.iload_n 1, 1) := by decide +kernel
theorem dX2_stoodBefore_42 : decode cX2_stoodBefore 42 = .ok (.iaload, 1) := by decide +kernel
theorem dX2_stoodBefore_43 : decode cX2_stoodBefore 43 = .ok (.if_icmp .le 6, 3) := by decide +kernel
theorem dX2_stoodBefore_46 : decode cX2_stoodBefore 46 = .ok (.goto 92, 3) := by decide +kernel
theorem dX2_stoodBefore_49 : decode cX2_stoodBefore 49 = .ok (.iload 4, 2) := by decide +kernel
theorem dX2_stoodBefore_51 : decode cX2_stoodBefore 51 = .ok (.iload_n 1, 1) := by decide +kernel
theorem dX2_stoodBefore_52 : decode cX2_stoodBefore 52 = .ok (.if_icmp .ne 7, 3) := by decide +kernel
theorem dX2_stoodBefore_55 : decode cX2_stoodBefore 55 = .ok (.iload_n 2, 1) := by decide +kernel
theorem dX2_stoodBefore_56 : decode cX2_stoodBefore 56 = .ok (.goto 10, 3) := by decide +kernel
theorem dX2_stoodBefore_59 : decode cX2_stoodBefore 59 = .ok (.aload_n 0, 1) := by decide +kernel
theorem dX2_stoodBefore_60 : decode cX2_stoodBefore 60 = .ok (.getfield 22, 3) := by decide +kernel
theorem dX2_stoodBefore_63 : decode cX2_stoodBefore 63 = .ok (.iload 4, 2) := by decide +kernel
theorem dX2_stoodBefore_65 : decode cX2_stoodBefore 65 = .ok (.iaload, 1) := by decide +kernel
theorem dX2_stoodBefore_66 : decode cX2_stoodBefore 66 = .ok (.istore 5, 2) := by decide +kernel
theorem dX2_stoodBefore_68 : decode cX2_stoodBefore 68 = .ok (.iconst 0, 1) := by decide +kernel
theorem dX2_stoodBefore_69 : decode cX2_stoodBefore 69 = .ok (.istore 6, 2) := by decide +kernel
theorem dX2_stoodBefore_71 : decode cX2_stoodBefore 71 = .ok (.iload 6, 2) := by decide +kernel
theorem dX2_stoodBefore_73 : decode cX2_stoodBefore 73 = .ok (.iload 5, 2) := by decide +kernel
theorem dX2_stoodBefore_75 : decode cX2_stoodBefore 75 = .ok (.if_icmp .ge 63, 3) := by decide +kernel
theorem dX2_stoodBefore_78 : decode cX2_stoodBefore 78 = .ok (.iload_n 3, 1) := by decide +kernel
theorem dX2_stoodBefore_79 : decode cX2_stoodBefore 79 = .ok (.ifCond .ne 47, 3) := by decide +kernel
theorem dX2_stoodBefore_82 : decode cX2_stoodBefore 82 = .ok (.aload_n 0, 1) := by decide +kernel
theorem dX2_stoodBefore_83 : decode cX2_stoodBefore 83 = .ok (.getfield 25, 3) := by decide +kernel
theorem dX2_stoodBefore_86 : decode cX2_stoodBefore 86 = .ok (.bipush 8, 2) := by decide +kernel
theorem dX2_stoodBefore_88 : decode cX2_stoodBefore 88 = .ok (.iload 4, 2) := by decide +kernel
theorem dX2_stoodBefore_90 : decode cX2_stoodBefore 90 = .ok (.imul, 1) := by decide +kernel
theorem dX2_stoodBefore_91 : decode cX2_stoodBefore 91 = .ok (.iload 6, 2) := by decide +kernel
theorem dX2_stoodBefore_93 : decode cX2_stoodBefore 93 = .ok (.iadd, 1) := by decide +kernel
theorem dX2_stoodBefore_94 : decode cX2_stoodBefore 94 = .ok (.iaload, 1) := by decide +kernel
theorem dX2_stoodBefore_95 : decode cX2_stoodBefore 95 = .ok (.iconst 1, 1) := by decide +kernel
theorem dX2_stoodBefore_96 : decode cX2_stoodBefore 96 = .ok (.if_icmp .ne 34, 3) := by decide +kernel
theorem dX2_stoodBefore_99 : decode cX2_stoodBefore 99 = .ok (.aload_n 0, 1) := by decide +kernel
theorem dX2_stoodBefore_100 : decode cX2_stoodBefore 100 = .ok (.getfield 28, 3) := by decide +kernel
theorem dX2_stoodBefore_103 : decode cX2_stoodBefore 103 = .ok (.bipush 8, 2) := by decide +kernel
theorem dX2_stoodBefore_105 : decode cX2_stoodBefore 105 = .ok (.iload 4, 2) := by decide +kernel
theorem dX2_stoodBefore_107 : decode cX2_stoodBefore 107 = .ok (.imul, 1) := by decide +kernel
theorem dX2_stoodBefore_108 : decode cX2_stoodBefore 108 = .ok (.iload 6, 2) := by decide +kernel
theorem dX2_stoodBefore_110 : decode cX2_stoodBefore 110 = .ok (.iadd, 1) := by decide +kernel
theorem dX2_stoodBefore_111 : decode cX2_stoodBefore 111 = .ok (.iaload, 1) := by decide +kernel
theorem dX2_stoodBefore_112 : decode cX2_stoodBefore 112 = .ok (.aload_n 0, 1) := by decide +kernel
theorem dX2_stoodBefore_113 : decode cX2_stoodBefore 113 = .ok (.getfield 28, 3) := by decide +kernel
theorem dX2_stoodBefore_116 : decode cX2_stoodBefore 116 = .ok (.bipush 8, 2) := by decide +kernel
theorem dX2_stoodBefore_118 : decode cX2_stoodBefore 118 = .ok (.iload_n 1, 1) := by decide +kernel
theorem dX2_stoodBefore_119 : decode cX2_stoodBefore 119 = .ok (.imul, 1) := by decide +kernel
theorem dX2_stoodBefore_120 : decode cX2_stoodBefore 120 = .ok (.iload_n 2, 1) := by decide +kernel
theorem dX2_stoodBefore_121 : decode cX2_stoodBefore 121 = .ok (.iadd, 1) := by decide +kernel
theorem dX2_stoodBefore_122 : decode cX2_stoodBefore 122 = .ok (.iaload, 1) := by decide +kernel
theorem dX2_stoodBefore_123 : decode cX2_stoodBefore 123 = .ok (.if_icmp .ne 7, 3) := by decide +kernel
theorem dX2_stoodBefore_126 : decode cX2_stoodBefore 126 = .ok (.iconst 1, 1) := by decide +kernel
theorem dX2_stoodBefore_127 : decode cX2_stoodBefore 127 = .ok (.goto 4, 3) := by decide +kernel
theorem dX2_stoodBefore_130 : decode cX2_stoodBefore 130 = .ok (.iconst 0, 1) := by decide +kernel
theorem dX2_stoodBefore_131 : decode cX2_stoodBefore 131 = .ok (.istore_n 3, 1) := by decide +kernel
theorem dX2_stoodBefore_132 : decode cX2_stoodBefore 132 = .ok (.iinc 6 1, 3) := by decide +kernel
theorem dX2_stoodBefore_135 : decode cX2_stoodBefore 135 = .ok (.goto (-64), 3) := by decide +kernel
theorem dX2_stoodBefore_138 : decode cX2_stoodBefore 138 = .ok (.iinc 4 1, 3) := by decide +kernel
theorem dX2_stoodBefore_141 : decode cX2_stoodBefore 141 = .ok (.goto (-136), 3) := by decide +kernel
theorem dX2_stoodBefore_144 : decode cX2_stoodBefore 144 = .ok (.iload_n 3, 1) := by decide +kernel
theorem dX2_stoodBefore_145 : decode cX2_stoodBefore 145 = .ok (.ireturn, 1) := by decide +kernel
set_option maxRecDepth 20000 in
theorem ggX2_kindOf_X2_signed : GoodIn wsX2_kindOf wsX2_signed := goodIn_ca (goodIn_r _ [9, 10, 11, 12, 13, 14, 8, 15, 2, 1, 16, 30, 31, 32, 33, 34, 35, 36, 37, 38, 39, 40] (by decide +kernel) (by decide +kernel)) (goodIn_sub (fun _ h => List.mem_cons_of_mem _ (List.mem_append_right _ h)) (by decide +kernel))
set_option maxRecDepth 20000 in
theorem gX2_kindOf_X2_signed : GoodIn wsX2_kindOf (wsV RX2 89 RX2 yX2_signed wsX2_signed) := goodIn_app (goodIn_of _ (by decide +kernel)) ggX2_kindOf_X2_signed
set_option maxRecDepth 20000 in
theorem ggX2_kindOf_X2_parentOf : GoodIn wsX2_kindOf wsX2_parentOf := goodIn_ca (goodIn_r _ [20, 4, 21, 22, 23, 8, 24, 10, 25, 30, 31, 32, 33, 34, 35, 36, 37, 38, 39, 40] (by decide +kernel) (by decide +kernel)) (goodIn_sub (fun _ h => List.mem_cons_of_mem _ (List.mem_append_right _ h)) (by decide +kernel))
set_option maxRecDepth 20000 in
theorem gX2_kindOf_X2_parentOf : GoodIn wsX2_kindOf (wsV RX2 66 RX2 yX2_parentOf wsX2_parentOf) := goodIn_app (goodIn_of _ (by decide +kernel)) ggX2_kindOf_X2_parentOf
set_option maxRecDepth 20000 in
theorem ggX2_kindOf_X2_stoodBefore : GoodIn wsX2_kindOf wsX2_stoodBefore := goodIn_ca (goodIn_r _ [29, 10, 4, 25, 2, 1, 16, 30, 31, 32, 33, 34, 35, 36, 37, 38, 39, 40] (by decide +kernel) (by decide +kernel)) (goodIn_sub (fun _ h => List.mem_cons_of_mem _ (List.mem_append_right _ h)) (by decide +kernel))
set_option maxRecDepth 20000 in
theorem gX2_kindOf_X2_stoodBefore : GoodIn wsX2_kindOf (wsV RX2 92 RX2 yX2_stoodBefore wsX2_stoodBefore) := goodIn_app (goodIn_of _ (by decide +kernel)) ggX2_kindOf_X2_stoodBefore
theorem dX2_kindOf_0 : decode cX2_kindOf 0 = .ok (.bipush 8, 2) := by decide +kernel
theorem dX2_kindOf_2 : decode cX2_kindOf 2 = .ok (.iload_n 1, 1) := by decide +kernel
theorem dX2_kindOf_3 : decode cX2_kindOf 3 = .ok (.imul, 1) := by decide +kernel
theorem dX2_kindOf_4 : decode cX2_kindOf 4 = .ok (.iload_n 2, 1) := by decide +kernel
theorem dX2_kindOf_5 : decode cX2_kindOf 5 = .ok (.iadd, 1) := by decide +kernel
theorem dX2_kindOf_6 : decode cX2_kindOf 6 = .ok (.istore_n 3, 1) := by decide +kernel
theorem dX2_kindOf_7 : decode cX2_kindOf 7 = .ok (.aload_n 0, 1) := by decide +kernel
theorem dX2_kindOf_8 : decode cX2_kindOf 8 = .ok (.getfield 25, 3) := by decide +kernel
theorem dX2_kindOf_11 : decode cX2_kindOf 11 = .ok (.iload_n 3, 1) := by decide +kernel
theorem dX2_kindOf_12 : decode cX2_kindOf 12 = .ok (.iaload, 1) := by decide +kernel
theorem dX2_kindOf_13 : decode cX2_kindOf 13 = .ok (.ifCond .ne 27, 3) := by decide +kernel
theorem dX2_kindOf_16 : decode cX2_kindOf 16 = .ok (.iload_n 2, 1) := by decide +kernel
theorem dX2_kindOf_17 : decode cX2_kindOf 17 = .ok (.aload_n 0, 1) := by decide +kernel
theorem dX2_kindOf_18 : decode cX2_kindOf 18 = .ok (.getfield 22, 3) := by decide +kernel
theorem dX2_kindOf_21 : decode cX2_kindOf 21 = .ok (.iload_n 1, 1) := by decide +kernel
theorem dX2_kindOf_22 : decode cX2_kindOf 22 = .ok (.iaload, 1) := by decide +kernel
theorem dX2_kindOf_23 : decode cX2_kindOf 23 = .ok (.aload_n 0, 1) := by decide +kernel
theorem dX2_kindOf_24 : decode cX2_kindOf 24 = .ok (.iload_n 1, 1) := by decide +kernel
theorem dX2_kindOf_25 : decode cX2_kindOf 25 = .ok (.invokevirtual 89, 3) := by decide +kernel
theorem dX2_kindOf_28 : decode cX2_kindOf 28 = .ok (.isub, 1) := by decide +kernel
theorem dX2_kindOf_29 : decode cX2_kindOf 29 = .ok (.if_icmp .lt 8, 3) := by decide +kernel
theorem dX2_kindOf_32 : decode cX2_kindOf 32 = .ok (.bipush 115, 2) := by decide +kernel
theorem dX2_kindOf_34 : decode cX2_kindOf 34 = .ok (.goto 5, 3) := by decide +kernel
theorem dX2_kindOf_37 : decode cX2_kindOf 37 = .ok (.bipush 110, 2) := by decide +kernel
theorem dX2_kindOf_39 : decode cX2_kindOf 39 = .ok (.ireturn, 1) := by decide +kernel
theorem dX2_kindOf_40 : decode cX2_kindOf 40 = .ok (.aload_n 0, 1) := by decide +kernel
theorem dX2_kindOf_41 : decode cX2_kindOf 41 = .ok (.getfield 31, 3) := by decide +kernel
theorem dX2_kindOf_44 : decode cX2_kindOf 44 = .ok (.iload_n 3, 1) := by decide +kernel
theorem dX2_kindOf_45 : decode cX2_kindOf 45 = .ok (.iaload, 1) := by decide +kernel
theorem dX2_kindOf_46 : decode cX2_kindOf 46 = .ok (.iconst (-1), 1) := by decide +kernel
theorem dX2_kindOf_47 : decode cX2_kindOf 47 = .ok (.if_icmp .eq 6, 3) := by decide +kernel
theorem dX2_kindOf_50 : decode cX2_kindOf 50 = .ok (.bipush 113, 2) := by decide +kernel
theorem dX2_kindOf_52 : decode cX2_kindOf 52 = .ok (.ireturn, 1) := by decide +kernel
theorem dX2_kindOf_53 : decode cX2_kindOf 53 = .ok (.aload_n 0, 1) := by decide +kernel
theorem dX2_kindOf_54 : decode cX2_kindOf 54 = .ok (.getfield 25, 3) := by decide +kernel
theorem dX2_kindOf_57 : decode cX2_kindOf 57 = .ok (.iload_n 3, 1) := by decide +kernel
theorem dX2_kindOf_58 : decode cX2_kindOf 58 = .ok (.iaload, 1) := by decide +kernel
theorem dX2_kindOf_59 : decode cX2_kindOf 59 = .ok (.iconst 1, 1) := by decide +kernel
theorem dX2_kindOf_60 : decode cX2_kindOf 60 = .ok (.if_icmp .gt 21, 3) := by decide +kernel
theorem dX2_kindOf_63 : decode cX2_kindOf 63 = .ok (.aload_n 0, 1) := by decide +kernel
theorem dX2_kindOf_64 : decode cX2_kindOf 64 = .ok (.getfield 19, 3) := by decide +kernel
theorem dX2_kindOf_67 : decode cX2_kindOf 67 = .ok (.iload_n 1, 1) := by decide +kernel
theorem dX2_kindOf_68 : decode cX2_kindOf 68 = .ok (.iaload, 1) := by decide +kernel
theorem dX2_kindOf_69 : decode cX2_kindOf 69 = .ok (.ifCond .eq 12, 3) := by decide +kernel
theorem dX2_kindOf_72 : decode cX2_kindOf 72 = .ok (.aload_n 0, 1) := by decide +kernel
theorem dX2_kindOf_73 : decode cX2_kindOf 73 = .ok (.iload_n 1, 1) := by decide +kernel
theorem dX2_kindOf_74 : decode cX2_kindOf 74 = .ok (.invokevirtual 66, 3) := by decide +kernel
theorem dX2_kindOf_77 : decode cX2_kindOf 77 = .ok (.iconst (-1), 1) := by decide +kernel
theorem dX2_kindOf_78 : decode cX2_kindOf 78 = .ok (.if_icmp .eq 6, 3) := by decide +kernel
theorem dX2_kindOf_81 : decode cX2_kindOf 81 = .ok (.bipush 120, 2) := by decide +kernel
theorem dX2_kindOf_83 : decode cX2_kindOf 83 = .ok (.ireturn, 1) := by decide +kernel
theorem dX2_kindOf_84 : decode cX2_kindOf 84 = .ok (.aload_n 0, 1) := by decide +kernel
theorem dX2_kindOf_85 : decode cX2_kindOf 85 = .ok (.iload_n 1, 1) := by decide +kernel
theorem dX2_kindOf_86 : decode cX2_kindOf 86 = .ok (.iload_n 2, 1) := by decide +kernel
theorem dX2_kindOf_87 : decode cX2_kindOf 87 = .ok (.invokevirtual 92, 3) := by decide +kernel
theorem dX2_kindOf_90 : decode cX2_kindOf 90 = .ok (.ifCond .eq 8, 3) := by decide +kernel
theorem dX2_kindOf_93 : decode cX2_kindOf 93 = .ok (.bipush 100, 2) := by decide +kernel
theorem dX2_kindOf_95 : decode cX2_kindOf 95 = .ok (.goto 5, 3) := by decide +kernel
theorem dX2_kindOf_98 : decode cX2_kindOf 98 = .ok (.bipush 114, 2) := by decide +kernel
theorem dX2_kindOf_100 : decode cX2_kindOf 100 = .ok (.ireturn, 1) := by decide +kernel
set_option maxRecDepth 20000 in
theorem ggX2_isTalk_X2_kindOf : GoodIn wsX2_isTalk wsX2_kindOf := goodIn_ca (goodIn_r _ [5, 6, 7, 8, 9, 10, 11, 12, 4, 13, 14, 15, 16, 17, 18, 19, 20, 21, 22, 23, 24, 25, 26, 27, 28, 29, 30, 31, 32, 33, 34, 35, 36, 37, 38, 39, 40, 41, 42, 43, 44] (by decide +kernel) (by decide +kernel)) (goodIn_sub (fun _ h => List.mem_cons_of_mem _ (List.mem_append_right _ h)) (by decide +kernel))
set_option maxRecDepth 20000 in
theorem gX2_isTalk_X2_kindOf : GoodIn wsX2_isTalk (wsV RX2 95 RX2 yX2_kindOf wsX2_kindOf) := goodIn_app (goodIn_of _ (by decide +kernel)) ggX2_isTalk_X2_kindOf
theorem dX2_isTalk_0 : decode cX2_isTalk 0 = .ok (.aload_n 0, 1) := by decide +kernel
theorem dX2_isTalk_1 : decode cX2_isTalk 1 = .ok (.iload_n 1, 1) := by decide +kernel
theorem dX2_isTalk_2 : decode cX2_isTalk 2 = .ok (.iload_n 2, 1) := by decide +kernel
theorem dX2_isTalk_3 : decode cX2_isTalk 3 = .ok (.invokevirtual 95, 3) := by decide +kernel
theorem dX2_isTalk_6 : decode cX2_isTalk 6 = .ok (.bipush 110, 2) := by decide +kernel
theorem dX2_isTalk_8 : decode cX2_isTalk 8 = .ok (.if_icmp .eq 14, 3) := by decide +kernel
theorem dX2_isTalk_11 : decode cX2_isTalk 11 = .ok (.aload_n 0, 1) := by decide +kernel
theorem dX2_isTalk_12 : decode cX2_isTalk 12 = .ok (.iload_n 1, 1) := by decide +kernel
theorem dX2_isTalk_13 : decode cX2_isTalk 13 = .ok (.iload_n 2, 1) := by decide +kernel
theorem dX2_isTalk_14 : decode cX2_isTalk 14 = .ok (.invokevirtual 95, 3) := by decide +kernel
theorem dX2_isTalk_17 : decode cX2_isTalk 17 = .ok (.bipush 114, 2) := by decide +kernel
theorem dX2_isTalk_19 : decode cX2_isTalk 19 = .ok (.if_icmp .ne 7, 3) := by decide +kernel
theorem dX2_isTalk_22 : decode cX2_isTalk 22 = .ok (.iconst 1, 1) := by decide +kernel
theorem dX2_isTalk_23 : decode cX2_isTalk 23 = .ok (.goto 4, 3) := by decide +kernel
theorem dX2_isTalk_26 : decode cX2_isTalk 26 = .ok (.iconst 0, 1) := by decide +kernel
theorem dX2_isTalk_27 : decode cX2_isTalk 27 = .ok (.ireturn, 1) := by decide +kernel
set_option maxRecDepth 20000 in
theorem ggX2_kind_X2_isLine : GoodIn wsX2_kind wsX2_isLine := goodIn_ca (goodIn_r _ [6, 7, 8, 9, 10, 5, 11, 12, 13, 14, 15, 59, 60, 61, 62, 63, 64, 65, 66, 67, 68, 69] (by decide +kernel) (by decide +kernel)) (goodIn_sub (fun _ h => List.mem_cons_of_mem _ (List.mem_append_right _ h)) (by decide +kernel))
set_option maxRecDepth 20000 in
theorem gX2_kind_X2_isLine : GoodIn wsX2_kind (wsV RX2 62 RX2 yX2_isLine wsX2_isLine) := goodIn_app (goodIn_of _ (by decide +kernel)) ggX2_kind_X2_isLine
set_option maxRecDepth 20000 in
theorem ggX2_kind_X2_alignsAll : GoodIn wsX2_kind wsX2_alignsAll := goodIn_ca (goodIn_r _ [19, 12, 20, 21, 22, 5, 23, 7, 24, 25, 26, 27, 28, 29, 30, 31, 32, 33, 34, 35, 36, 37, 38, 39, 40, 41, 59, 60, 61, 62, 63, 64, 65, 66, 67, 68, 69] (by decide +kernel) (by decide +kernel)) (goodIn_sub (fun _ h => List.mem_cons_of_mem _ (List.mem_append_right _ h)) (by decide +kernel))
set_option maxRecDepth 20000 in
theorem gX2_kind_X2_alignsAll : GoodIn wsX2_kind (wsV RX2 79 RX2 yX2_alignsAll wsX2_alignsAll) := goodIn_app (goodIn_of _ (by decide +kernel)) ggX2_kind_X2_alignsAll
set_option maxRecDepth 20000 in
theorem ggX2_kind_X2_kindOf : GoodIn wsX2_kind wsX2_kindOf := goodIn_ca (goodIn_r _ [45, 40, 7, 25, 30, 46, 47, 48, 5, 49, 12, 50, 51, 52, 53, 54, 41, 26, 27, 28, 29, 31, 32, 33, 34, 35, 55, 56, 57, 58, 59, 60, 61, 62, 63, 64, 65, 66, 67, 68, 69] (by decide +kernel) (by decide +kernel)) (goodIn_sub (fun _ h => List.mem_cons_of_mem _ (List.mem_append_right _ h)) (by decide +kernel))
set_option maxRecDepth 20000 in
theorem gX2_kind_X2_kindOf : GoodIn wsX2_kind (wsV RX2 95 RX2 yX2_kindOf wsX2_kindOf) := goodIn_app (goodIn_of _ (by decide +kernel)) ggX2_kind_X2_kindOf
theorem dX2_kind_0 : decode cX2_kind 0 = .ok (.aload_n 0, 1) := by decide +kernel
theorem dX2_kind_1 : decode cX2_kind 1 = .ok (.aload_n 0, 1) := by decide +kernel
theorem dX2_kind_2 : decode cX2_kind 2 = .ok (.iload_n 1, 1) := by decide +kernel
theorem dX2_kind_3 : decode cX2_kind 3 = .ok (.iload_n 2, 1) := by decide +kernel
theorem dX2_kind_4 : decode cX2_kind 4 = .ok (.invokevirtual 62, 3) := by decide +kernel
theorem dX2_kind_7 : decode cX2_kind 7 = .ok (.ifCond .eq 7, 3) := by decide +kernel
theorem dX2_kind_10 : decode cX2_kind 10 = .ok (.iconst 0, 1) := by decide +kernel
theorem dX2_kind_11 : decode cX2_kind 11 = .ok (.goto 4, 3) := by decide +kernel
theorem dX2_kind_14 : decode cX2_kind 14 = .ok (.iconst 1, 1) := by decide +kernel
theorem dX2_kind_15 : decode cX2_kind 15 = .ok (.putfield 37, 3) := by decide +kernel
theorem dX2_kind_18 : decode cX2_kind 18 = .ok (.aload_n 0, 1) := by decide +kernel
theorem dX2_kind_19 : decode cX2_kind 19 = .ok (.getfield 37, 3) := by decide +kernel
theorem dX2_kind_22 : decode cX2_kind 22 = .ok (.ifCond .le 6, 3) := by decide +kernel
theorem dX2_kind_25 : decode cX2_kind 25 = .ok (.bipush 97, 2) := by decide +kernel
theorem dX2_kind_27 : decode cX2_kind 27 = .ok (.ireturn, 1) := by decide +kernel
theorem dX2_kind_28 : decode cX2_kind 28 = .ok (.aload_n 0, 1) := by decide +kernel
theorem dX2_kind_29 : decode cX2_kind 29 = .ok (.invokevirtual 79, 3) := by decide +kernel
theorem dX2_kind_32 : decode cX2_kind 32 = .ok (.aload_n 0, 1) := by decide +kernel
theorem dX2_kind_33 : decode cX2_kind 33 = .ok (.iload_n 1, 1) := by decide +kernel
theorem dX2_kind_34 : decode cX2_kind 34 = .ok (.iload_n 2, 1) := by decide +kernel
theorem dX2_kind_35 : decode cX2_kind 35 = .ok (.invokevirtual 95, 3) := by decide +kernel
theorem dX2_kind_38 : decode cX2_kind 38 = .ok (.ireturn, 1) := by decide +kernel
set_option maxRecDepth 20000 in
theorem ggX2_signature_X2_isMail : GoodIn wsX2_signature wsX2_isMail := goodIn_r _ [5, 6, 7, 8, 4, 9, 31, 32, 33, 34, 35, 36, 37, 38, 39, 40, 41] (by decide +kernel) (by decide +kernel)
set_option maxRecDepth 20000 in
theorem gX2_signature_X2_isMail : GoodIn wsX2_signature (wsV RX2 48 RX2 yX2_isMail wsX2_isMail) := goodIn_app (goodIn_of _ (by decide +kernel)) ggX2_signature_X2_isMail
set_option maxRecDepth 20000 in
theorem ggX2_signature_X2_signed : GoodIn wsX2_signature wsX2_signed := goodIn_ca (goodIn_r _ [13, 6, 14, 15, 16, 17, 4, 18, 19, 20, 21, 31, 32, 33, 34, 35, 36, 37, 38, 39, 40, 41] (by decide +kernel) (by decide +kernel)) (goodIn_sub (fun _ h => List.mem_cons_of_mem _ (List.mem_append_right _ h)) (by decide +kernel))
set_option maxRecDepth 20000 in
theorem gX2_signature_X2_signed : GoodIn wsX2_signature (wsV RX2 89 RX2 yX2_signed wsX2_signed) := goodIn_app (goodIn_of _ (by decide +kernel)) ggX2_signature_X2_signed
set_option maxRecDepth 20000 in
theorem ggX2_signature_X2_tells : GoodIn wsX2_signature wsX2_tells := goodIn_r _ [25, 26, 31, 32, 33, 34, 35, 36, 37, 38, 39, 40, 41] (by decide +kernel) (by decide +kernel)
set_option maxRecDepth 20000 in
theorem gX2_signature_X2_tells : GoodIn wsX2_signature (wsV RX2 59 RX2 yX2_tells wsX2_tells) := goodIn_app (goodIn_of _ (by decide +kernel)) ggX2_signature_X2_tells
set_option maxRecDepth 20000 in
theorem ggX2_signature_X2_fails : GoodIn wsX2_signature wsX2_fails := goodIn_r _ [30, 26, 31, 32, 33, 34, 35, 36, 37, 38, 39, 40, 41] (by decide +kernel) (by decide +kernel)
set_option maxRecDepth 20000 in
theorem gX2_signature_X2_fails : GoodIn wsX2_signature (wsV RX2 56 RX2 yX2_fails wsX2_fails) := goodIn_app (goodIn_of _ (by decide +kernel)) ggX2_signature_X2_fails
theorem dX2_signature_0 : decode cX2_signature 0 = .ok (.aload_n 0, 1) := by decide +kernel
theorem dX2_signature_1 : decode cX2_signature 1 = .ok (.iload_n 1, 1) := by decide +kernel
theorem dX2_signature_2 : decode cX2_signature 2 = .ok (.invokevirtual 48, 3) := by decide +kernel
theorem dX2_signature_5 : decode cX2_signature 5 = .ok (.ifCond .eq 15, 3) := by decide +kernel
theorem dX2_signature_8 : decode cX2_signature 8 = .ok (.aload_n 0, 1) := by decide +kernel
theorem dX2_signature_9 : decode cX2_signature 9 = .ok (.aload_n 0, 1) := by decide +kernel
theorem dX2_signature_10 : decode cX2_signature 10 = .ok (.iload_n 1, 1) := by decide +kernel
theorem dX2_signature_11 : decode cX2_signature 11 = .ok (.invokevirtual 89, 3) := by decide +kernel
theorem dX2_signature_14 : decode cX2_signature 14 = .ok (.invokevirtual 59, 3) := by decide +kernel
theorem dX2_signature_17 : decode cX2_signature 17 = .ok (.goto 8, 3) := by decide +kernel
theorem dX2_signature_20 : decode cX2_signature 20 = .ok (.aload_n 0, 1) := by decide +kernel
theorem dX2_signature_21 : decode cX2_signature 21 = .ok (.iconst 1, 1) := by decide +kernel
theorem dX2_signature_22 : decode cX2_signature 22 = .ok (.invokevirtual 56, 3) := by decide +kernel
theorem dX2_signature_25 : decode cX2_signature 25 = .ok (.ireturn, 1) := by decide +kernel
set_option maxRecDepth 20000 in
theorem ggX2_answersOf_X2_kindOf : GoodIn wsX2_answersOf wsX2_kindOf := goodIn_ca (goodIn_r _ [5, 6, 7, 8, 9, 10, 11, 12, 4, 13, 14, 15, 16, 17, 18, 19, 20, 21, 22, 23, 24, 25, 26, 27, 28, 29, 30, 31, 32, 33, 38, 39, 40, 41, 42, 43, 44, 45, 46, 47, 48] (by decide +kernel) (by decide +kernel)) (goodIn_sub (fun _ h => List.mem_cons_of_mem _ (List.mem_append_right _ h)) (by decide +kernel))
set_option maxRecDepth 20000 in
theorem gX2_answersOf_X2_kindOf : GoodIn wsX2_answersOf (wsV RX2 95 RX2 yX2_kindOf wsX2_kindOf) := goodIn_app (goodIn_of _ (by decide +kernel)) ggX2_answersOf_X2_kindOf
set_option maxRecDepth 20000 in
theorem ggX2_answersOf_X2_origin : GoodIn wsX2_answersOf wsX2_origin := goodIn_ca (goodIn_r _ [37, 8, 21, 22, 23, 4, 24, 9, 25, 26, 27, 28, 14, 29, 38, 39, 40, 41, 42, 43, 44, 45, 46, 47, 48] (by decide +kernel) (by decide +kernel)) (goodIn_sub (fun _ h => List.mem_cons_of_mem _ (List.mem_append_right _ h)) (by decide +kernel))
set_option maxRecDepth 20000 in
theorem gX2_answersOf_X2_origin : GoodIn wsX2_answersOf (wsV RX2 82 RX2 yX2_origin wsX2_origin) := goodIn_app (goodIn_of _ (by decide +kernel)) ggX2_answersOf_X2_origin
theorem dX2_answersOf_0 : decode cX2_answersOf 0 = .ok (.iconst (-1), 1) := by decide +kernel
theorem dX2_answersOf_1 : decode cX2_answersOf 1 = .ok (.istore_n 3, 1) := by decide +kernel
theorem dX2_answersOf_2 : decode cX2_answersOf 2 = .ok (.iconst 0, 1) := by decide +kernel
theorem dX2_answersOf_3 : decode cX2_answersOf 3 = .ok (.istore 4, 2) := by decide +kernel
theorem dX2_answersOf_5 : decode cX2_answersOf 5 = .ok (.iload 4, 2) := by decide +kernel
theorem dX2_answersOf_7 : decode cX2_answersOf 7 = .ok (.iload_n 2, 1) := by decide +kernel
theorem dX2_answersOf_8 : decode cX2_answersOf 8 = .ok (.if_icmp .ge 33, 3) := by decide +kernel
theorem dX2_answersOf_11 : decode cX2_answersOf 11 = .ok (.aload_n 0, 1) := by decide +kernel
theorem dX2_answersOf_12 : decode cX2_answersOf 12 = .ok (.iload_n 1, 1) := by decide +kernel
theorem dX2_answersOf_13 : decode cX2_answersOf 13 = .ok (.iload 4, 2) := by decide +kernel
theorem dX2_answersOf_15 : decode cX2_answersOf 15 = .ok (.invokevirtual 95, 3) := by decide +kernel
theorem dX2_answersOf_18 : decode cX2_answersOf 18 = .ok (.bipush 113, 2) := by decide +kernel
theorem dX2_answersOf_20 : decode cX2_answersOf 20 = .ok (.if_icmp .ne 13, 3) := by decide +kernel
theorem dX2_answersOf_23 : decode cX2_answersOf 23 = .ok (.aload_n 0, 1) := by decide +kernel
theorem dX2_answersOf_24 : decode cX2_answersOf 24 = .ok (.iload_n 1, 1) := by decide +kernel
theorem dX2_answersOf_25 : decode cX2_answersOf 25 = .ok (.iload 4, 2) := by decide +kernel
theorem dX2_answersOf_27 : decode cX2_answersOf 27 = .ok (.invokevirtual 82, 3) := by decide +kernel
theorem dX2_answersOf_30 : decode cX2_answersOf 30 = .ok (.goto 4, 3) := by decide +kernel
theorem dX2_answersOf_33 : decode cX2_answersOf 33 = .ok (.iload_n 3, 1) := by decide +kernel
theorem dX2_answersOf_34 : decode cX2_answersOf 34 = .ok (.istore_n 3, 1) := by decide +kernel
theorem dX2_answersOf_35 : decode cX2_answersOf 35 = .ok (.iinc 4 1, 3) := by decide +kernel
theorem dX2_answersOf_38 : decode cX2_answersOf 38 = .ok (.goto (-33), 3) := by decide +kernel
theorem dX2_answersOf_41 : decode cX2_answersOf 41 = .ok (.iload_n 3, 1) := by decide +kernel
theorem dX2_answersOf_42 : decode cX2_answersOf 42 = .ok (.ireturn, 1) := by decide +kernel
set_option maxRecDepth 20000 in
theorem ggX2_asksAnswered_X2_isLine : GoodIn wsX2_asksAnswered wsX2_isLine := goodIn_ca (goodIn_r _ [5, 6, 7, 8, 9, 4, 10, 11, 12, 13, 14, 75, 76, 77, 78, 79, 80, 81, 82, 83, 84, 85] (by decide +kernel) (by decide +kernel)) (goodIn_sub (fun _ h => List.mem_cons_of_mem _ (List.mem_append_right _ h)) (by decide +kernel))
set_option maxRecDepth 20000 in
theorem gX2_asksAnswered_X2_isLine : GoodIn wsX2_asksAnswered (wsV RX2 62 RX2 yX2_isLine wsX2_isLine) := goodIn_app (goodIn_of _ (by decide +kernel)) ggX2_asksAnswered_X2_isLine
set_option maxRecDepth 20000 in
theorem ggX2_asksAnswered_X2_fails : GoodIn wsX2_asksAnswered wsX2_fails := goodIn_r _ [18, 19, 75, 76, 77, 78, 79, 80, 81, 82, 83, 84, 85] (by decide +kernel) (by decide +kernel)
set_option maxRecDepth 20000 in
theorem gX2_asksAnswered_X2_fails : GoodIn wsX2_asksAnswered (wsV RX2 56 RX2 yX2_fails wsX2_fails) := goodIn_app (goodIn_of _ (by decide +kernel)) ggX2_asksAnswered_X2_fails
set_option maxRecDepth 20000 in
theorem ggX2_asksAnswered_X2_alignsAll : GoodIn wsX2_asksAnswered wsX2_alignsAll := goodIn_ca (goodIn_r _ [23, 11, 24, 25, 26, 4, 27, 6, 28, 29, 30, 31, 32, 33, 34, 35, 36, 37, 38, 39, 40, 41, 42, 43, 44, 45, 75, 76, 77, 78, 79, 80, 81, 82, 83, 84, 85] (by decide +kernel) (by decide +kernel)) (goodIn_sub (fun _ h => List.mem_cons_of_mem _ (List.mem_append_right _ h)) (by decide +kernel))
set_option maxRecDepth 20000 in
theorem gX2_asksAnswered_X2_alignsAll : GoodIn wsX2_asksAnswered (wsV RX2 79 RX2 yX2_alignsAll wsX2_alignsAll) := goodIn_app (goodIn_of _ (by decide +kernel)) ggX2_asksAnswered_X2_alignsAll
set_option maxRecDepth 20000 in
theorem ggX2_asksAnswered_X2_kindOf : GoodIn wsX2_asksAnswered wsX2_kindOf := goodIn_ca (goodIn_r _ [49, 44, 6, 29, 34, 50, 51, 52, 4, 53, 11, 54, 55, 56, 57, 58, 45, 30, 31, 32, 33, 35, 36, 37, 38, 39, 59, 60, 61, 62, 75, 76, 77, 78, 79, 80, 81, 82, 83, 84, 85] (by decide +kernel) (by decide +kernel)) (goodIn_sub (fun _ h => List.mem_cons_of_mem _ (List.mem_append_right _ h)) (by decide +kernel))
set_option maxRecDepth 20000 in
theorem gX2_asksAnswered_X2_kindOf : GoodIn wsX2_asksAnswered (wsV RX2 95 RX2 yX2_kindOf wsX2_kindOf) := goodIn_app (goodIn_of _ (by decide +kernel)) ggX2_asksAnswered_X2_kindOf
set_option maxRecDepth 20000 in
theorem ggX2_asksAnswered_X2_answersOf : GoodIn wsX2_asksAnswered wsX2_answersOf := goodIn_ca (goodIn_r _ [66, 46, 47, 48, 4, 49, 44, 6, 29, 34, 50, 51, 52, 53, 11, 54, 55, 56, 57, 58, 45, 30, 31, 32, 33, 35, 36, 37, 38, 39, 59, 60, 61, 62, 67, 68, 69, 70, 75, 76, 77, 78, 79, 80, 81, 82, 83, 84, 85] (by decide +kernel) (by decide +kernel)) (goodIn_sub (fun _ h => List.mem_cons_of_mem _ (List.mem_append_right _ h)) (by decide +kernel))
set_option maxRecDepth 20000 in
theorem gX2_asksAnswered_X2_answersOf : GoodIn wsX2_asksAnswered (wsV RX2 99 RX2 yX2_answersOf wsX2_answersOf) := goodIn_app (goodIn_of _ (by decide +kernel)) ggX2_asksAnswered_X2_answersOf
set_option maxRecDepth 20000 in
theorem ggX2_asksAnswered_X2_tells : GoodIn wsX2_asksAnswered wsX2_tells := goodIn_r _ [74, 19, 75, 76, 77, 78, 79, 80, 81, 82, 83, 84, 85] (by decide +kernel) (by decide +kernel)
set_option maxRecDepth 20000 in
theorem gX2_asksAnswered_X2_tells : GoodIn wsX2_asksAnswered (wsV RX2 59 RX2 yX2_tells wsX2_tells) := goodIn_app (goodIn_of _ (by decide +kernel)) ggX2_asksAnswered_X2_tells
theorem dX2_asksAnswered_0 : decode cX2_asksAnswered 0 = .ok (.aload_n 0, 1) := by decide +kernel
theorem dX2_asksAnswered_1 : decode cX2_asksAnswered 1 = .ok (.iload_n 1, 1) := by decide +kernel
theorem dX2_asksAnswered_2 : decode cX2_asksAnswered 2 = .ok (.iload_n 2, 1) := by decide +kernel
theorem dX2_asksAnswered_3 : decode cX2_asksAnswered 3 = .ok (.invokevirtual 62, 3) := by decide +kernel
theorem dX2_asksAnswered_6 : decode cX2_asksAnswered 6 = .ok (.ifCond .ne 9, 3) := by decide +kernel
theorem dX2_asksAnswered_9 : decode cX2_asksAnswered 9 = .ok (.aload_n 0, 1) := by decide +kernel
theorem dX2_asksAnswered_10 : decode cX2_asksAnswered 10 = .ok (.iconst 1, 1) := by decide +kernel
theorem dX2_asksAnswered_11 : decode cX2_asksAnswered 11 = .ok (.invokevirtual 56, 3) := by decide +kernel
theorem dX2_asksAnswered_14 : decode cX2_asksAnswered 14 = .ok (.ireturn, 1) := by decide +kernel
theorem dX2_asksAnswered_15 : decode cX2_asksAnswered 15 = .ok (.aload_n 0, 1) := by decide +kernel
theorem dX2_asksAnswered_16 : decode cX2_asksAnswered 16 = .ok (.invokevirtual 79, 3) := by decide +kernel
theorem dX2_asksAnswered_19 : decode cX2_asksAnswered 19 = .ok (.aload_n 0, 1) := by decide +kernel
theorem dX2_asksAnswered_20 : decode cX2_asksAnswered 20 = .ok (.iload_n 1, 1) := by decide +kernel
theorem dX2_asksAnswered_21 : decode cX2_asksAnswered 21 = .ok (.iload_n 2, 1) := by decide +kernel
theorem dX2_asksAnswered_22 : decode cX2_asksAnswered 22 = .ok (.invokevirtual 95, 3) := by decide +kernel
theorem dX2_asksAnswered_25 : decode cX2_asksAnswered 25 = .ok (.bipush 110, 2) := by decide +kernel
theorem dX2_asksAnswered_27 : decode cX2_asksAnswered 27 = .ok (.if_icmp .eq 9, 3) := by decide +kernel
theorem dX2_asksAnswered_30 : decode cX2_asksAnswered 30 = .ok (.aload_n 0, 1) := by decide +kernel
theorem dX2_asksAnswered_31 : decode cX2_asksAnswered 31 = .ok (.iconst 2, 1) := by decide +kernel
theorem dX2_asksAnswered_32 : decode cX2_asksAnswered 32 = .ok (.invokevirtual 56, 3) := by decide +kernel
theorem dX2_asksAnswered_35 : decode cX2_asksAnswered 35 = .ok (.ireturn, 1) := by decide +kernel
theorem dX2_asksAnswered_36 : decode cX2_asksAnswered 36 = .ok (.aload_n 0, 1) := by decide +kernel
theorem dX2_asksAnswered_37 : decode cX2_asksAnswered 37 = .ok (.iload_n 1, 1) := by decide +kernel
theorem dX2_asksAnswered_38 : decode cX2_asksAnswered 38 = .ok (.iload_n 2, 1) := by decide +kernel
theorem dX2_asksAnswered_39 : decode cX2_asksAnswered 39 = .ok (.invokevirtual 99, 3) := by decide +kernel
theorem dX2_asksAnswered_42 : decode cX2_asksAnswered 42 = .ok (.istore_n 3, 1) := by decide +kernel
theorem dX2_asksAnswered_43 : decode cX2_asksAnswered 43 = .ok (.iload_n 3, 1) := by decide +kernel
theorem dX2_asksAnswered_44 : decode cX2_asksAnswered 44 = .ok (.iconst (-1), 1) := by decide +kernel
theorem dX2_asksAnswered_45 : decode cX2_asksAnswered 45 = .ok (.if_icmp .ne 9, 3) := by decide +kernel
theorem dX2_asksAnswered_48 : decode cX2_asksAnswered 48 = .ok (.aload_n 0, 1) := by decide +kernel
theorem dX2_asksAnswered_49 : decode cX2_asksAnswered 49 = .ok (.iconst 3, 1) := by decide +kernel
theorem dX2_asksAnswered_50 : decode cX2_asksAnswered 50 = .ok (.invokevirtual 56, 3) := by decide +kernel
theorem dX2_asksAnswered_53 : decode cX2_asksAnswered 53 = .ok (.ireturn, 1) := by decide +kernel
theorem dX2_asksAnswered_54 : decode cX2_asksAnswered 54 = .ok (.aload_n 0, 1) := by decide +kernel
theorem dX2_asksAnswered_55 : decode cX2_asksAnswered 55 = .ok (.iload_n 3, 1) := by decide +kernel
theorem dX2_asksAnswered_56 : decode cX2_asksAnswered 56 = .ok (.invokevirtual 59, 3) := by decide +kernel
theorem dX2_asksAnswered_59 : decode cX2_asksAnswered 59 = .ok (.ireturn, 1) := by decide +kernel
set_option maxRecDepth 20000 in
theorem ggX2_answersMail_X2_asksAnswered : GoodIn wsX2_answersMail wsX2_asksAnswered := goodIn_ca (goodIn_r _ [6, 7, 8, 9, 5, 10, 11, 12, 13, 14, 15, 16, 17, 18, 19, 20, 21, 22, 23, 1, 24, 25, 26, 27, 28, 29, 30, 31, 32, 33, 34, 35, 36, 37, 38, 39, 40, 41, 42, 43, 44, 45, 46, 47, 48, 49, 50, 51, 52, 53, 54, 55, 56, 57, 58, 59, 60, 61, 62, 63, 64, 65, 66, 67, 68, 69, 70, 71, 72, 73, 74, 75, 76, 77, 78, 79, 80, 81, 82, 83, 84, 85, 86, 87, 88, 89] (by decide +kernel) (by decide +kernel)) (goodIn_sub (fun _ h => List.mem_cons_of_mem _ (List.mem_append_right _ h)) (by decide +kernel))
set_option maxRecDepth 20000 in
theorem gX2_answersMail_X2_asksAnswered : GoodIn wsX2_answersMail (wsV RX2 102 RX2 yX2_asksAnswered wsX2_asksAnswered) := goodIn_app (goodIn_of _ (by decide +kernel)) ggX2_answersMail_X2_asksAnswered
theorem dX2_answersMail_0 : decode cX2_answersMail 0 = .ok (.aload_n 0, 1) := by decide +kernel
theorem dX2_answersMail_1 : decode cX2_answersMail 1 = .ok (.iload_n 1, 1) := by decide +kernel
theorem dX2_answersMail_2 : decode cX2_answersMail 2 = .ok (.iload_n 2, 1) := by decide +kernel
theorem dX2_answersMail_3 : decode cX2_answersMail 3 = .ok (.invokevirtual 102, 3) := by decide +kernel
theorem dX2_answersMail_6 : decode cX2_answersMail 6 = .ok (.istore_n 3, 1) := by decide +kernel
theorem dX2_answersMail_7 : decode cX2_answersMail 7 = .ok (.aload_n 0, 1) := by decide +kernel
theorem dX2_answersMail_8 : decode cX2_answersMail 8 = .ok (.getfield 37, 3) := by decide +kernel
theorem dX2_answersMail_11 : decode cX2_answersMail 11 = .ok (.ifCond .le 7, 3) := by decide +kernel
theorem dX2_answersMail_14 : decode cX2_answersMail 14 = .ok (.iconst 0, 1) := by decide +kernel
theorem dX2_answersMail_15 : decode cX2_answersMail 15 = .ok (.goto 7, 3) := by decide +kernel
theorem dX2_answersMail_18 : decode cX2_answersMail 18 = .ok (.iload_n 3, 1) := by decide +kernel
theorem dX2_answersMail_19 : decode cX2_answersMail 19 = .ok (.bipush 8, 2) := by decide +kernel
theorem dX2_answersMail_21 : decode cX2_answersMail 21 = .ok (.idiv, 1) := by decide +kernel
theorem dX2_answersMail_22 : decode cX2_answersMail 22 = .ok (.ireturn, 1) := by decide +kernel
set_option maxRecDepth 20000 in
theorem ggX2_answersLine_X2_asksAnswered : GoodIn wsX2_answersLine wsX2_asksAnswered := goodIn_ca (goodIn_r _ [6, 7, 8, 9, 5, 10, 11, 12, 13, 14, 15, 16, 17, 18, 19, 20, 21, 22, 23, 1, 24, 25, 26, 27, 28, 29, 30, 31, 32, 33, 34, 35, 36, 37, 38, 39, 40, 41, 42, 43, 44, 45, 46, 47, 48, 49, 50, 51, 52, 53, 54, 55, 56, 57, 58, 59, 60, 61, 62, 63, 64, 65, 66, 67, 68, 69, 70, 71, 72, 73, 74, 75, 76, 77, 78, 79, 80, 81, 82, 83, 84, 85, 86, 87, 88, 89] (by decide +kernel) (by decide +kernel)) (goodIn_sub (fun _ h => List.mem_cons_of_mem _ (List.mem_append_right _ h)) (by decide +kernel))
set_option maxRecDepth 20000 in
theorem gX2_answersLine_X2_asksAnswered : GoodIn wsX2_answersLine (wsV RX2 102 RX2 yX2_asksAnswered wsX2_asksAnswered) := goodIn_app (goodIn_of _ (by decide +kernel)) ggX2_answersLine_X2_asksAnswered
theorem dX2_answersLine_0 : decode cX2_answersLine 0 = .ok (.aload_n 0, 1) := by decide +kernel
theorem dX2_answersLine_1 : decode cX2_answersLine 1 = .ok (.iload_n 1, 1) := by decide +kernel
theorem dX2_answersLine_2 : decode cX2_answersLine 2 = .ok (.iload_n 2, 1) := by decide +kernel
theorem dX2_answersLine_3 : decode cX2_answersLine 3 = .ok (.invokevirtual 102, 3) := by decide +kernel
theorem dX2_answersLine_6 : decode cX2_answersLine 6 = .ok (.istore_n 3, 1) := by decide +kernel
theorem dX2_answersLine_7 : decode cX2_answersLine 7 = .ok (.aload_n 0, 1) := by decide +kernel
theorem dX2_answersLine_8 : decode cX2_answersLine 8 = .ok (.getfield 37, 3) := by decide +kernel
theorem dX2_answersLine_11 : decode cX2_answersLine 11 = .ok (.ifCond .le 7, 3) := by decide +kernel
theorem dX2_answersLine_14 : decode cX2_answersLine 14 = .ok (.iconst 0, 1) := by decide +kernel
theorem dX2_answersLine_15 : decode cX2_answersLine 15 = .ok (.goto 7, 3) := by decide +kernel
theorem dX2_answersLine_18 : decode cX2_answersLine 18 = .ok (.iload_n 3, 1) := by decide +kernel
theorem dX2_answersLine_19 : decode cX2_answersLine 19 = .ok (.bipush 8, 2) := by decide +kernel
theorem dX2_answersLine_21 : decode cX2_answersLine 21 = .ok (.irem, 1) := by decide +kernel
theorem dX2_answersLine_22 : decode cX2_answersLine 22 = .ok (.ireturn, 1) := by decide +kernel
set_option maxRecDepth 20000 in
theorem ggX2_answers_X2_isLine : GoodIn wsX2_answers wsX2_isLine := goodIn_ca (goodIn_r _ [7, 2, 8, 9, 10, 6, 11, 1, 12, 13, 14, 75, 76, 77, 78, 79, 80, 81, 82, 83, 84, 85] (by decide +kernel) (by decide +kernel)) (goodIn_sub (fun _ h => List.mem_cons_of_mem _ (List.mem_append_right _ h)) (by decide +kernel))
set_option maxRecDepth 20000 in
theorem gX2_answers_X2_isLine : GoodIn wsX2_answers (wsV RX2 62 RX2 yX2_isLine wsX2_isLine) := goodIn_app (goodIn_of _ (by decide +kernel)) ggX2_answers_X2_isLine
set_option maxRecDepth 20000 in
theorem ggX2_answers_X2_fails : GoodIn wsX2_answers wsX2_fails := goodIn_r _ [18, 19, 75, 76, 77, 78, 79, 80, 81, 82, 83, 84, 85] (by decide +kernel) (by decide +kernel)
set_option maxRecDepth 20000 in
theorem gX2_answers_X2_fails : GoodIn wsX2_answers (wsV RX2 56 RX2 yX2_fails wsX2_fails) := goodIn_app (goodIn_of _ (by decide +kernel)) ggX2_answers_X2_fails
set_option maxRecDepth 20000 in
theorem ggX2_answers_X2_alignsAll : GoodIn wsX2_answers wsX2_alignsAll := goodIn_ca (goodIn_r _ [23, 1, 24, 25, 26, 6, 27, 2, 28, 29, 30, 31, 32, 33, 34, 35, 36, 37, 38, 39, 40, 41, 42, 43, 44, 45, 75, 76, 77, 78, 79, 80, 81, 82, 83, 84, 85] (by decide +kernel) (by decide +kernel)) (goodIn_sub (fun _ h => List.mem_cons_of_mem _ (List.mem_append_right _ h)) (by decide +kernel))
set_option maxRecDepth 20000 in
theorem gX2_answers_X2_alignsAll : GoodIn wsX2_answers (wsV RX2 79 RX2 yX2_alignsAll wsX2_alignsAll) := goodIn_app (goodIn_of _ (by decide +kernel)) ggX2_answers_X2_alignsAll
set_option maxRecDepth 20000 in
theorem ggX2_answers_X2_kindOf : GoodIn wsX2_answers wsX2_kindOf := goodIn_ca (goodIn_r _ [49, 44, 2, 29, 34, 50, 51, 52, 6, 53, 1, 54, 55, 56, 57, 58, 45, 30, 31, 32, 33, 35, 36, 37, 38, 39, 59, 60, 61, 62, 75, 76, 77, 78, 79, 80, 81, 82, 83, 84, 85] (by decide +kernel) (by decide +kernel)) (goodIn_sub (fun _ h => List.mem_cons_of_mem _ (List.mem_append_right _ h)) (by decide +kernel))
set_option maxRecDepth 20000 in
theorem gX2_answers_X2_kindOf : GoodIn wsX2_answers (wsV RX2 95 RX2 yX2_kindOf wsX2_kindOf) := goodIn_app (goodIn_of _ (by decide +kernel)) ggX2_answers_X2_kindOf
set_option maxRecDepth 20000 in
theorem ggX2_answers_X2_answersOf : GoodIn wsX2_answers wsX2_answersOf := goodIn_ca (goodIn_r _ [66, 46, 47, 48, 6, 49, 44, 2, 29, 34, 50, 51, 52, 53, 1, 54, 55, 56, 57, 58, 45, 30, 31, 32, 33, 35, 36, 37, 38, 39, 59, 60, 61, 62, 67, 68, 69, 70, 75, 76, 77, 78, 79, 80, 81, 82, 83, 84, 85] (by decide +kernel) (by decide +kernel)) (goodIn_sub (fun _ h => List.mem_cons_of_mem _ (List.mem_append_right _ h)) (by decide +kernel))
set_option maxRecDepth 20000 in
theorem gX2_answers_X2_answersOf : GoodIn wsX2_answers (wsV RX2 99 RX2 yX2_answersOf wsX2_answersOf) := goodIn_app (goodIn_of _ (by decide +kernel)) ggX2_answers_X2_answersOf
set_option maxRecDepth 20000 in
theorem ggX2_answers_X2_tells : GoodIn wsX2_answers wsX2_tells := goodIn_r _ [74, 19, 75, 76, 77, 78, 79, 80, 81, 82, 83, 84, 85] (by decide +kernel) (by decide +kernel)
set_option maxRecDepth 20000 in
theorem gX2_answers_X2_tells : GoodIn wsX2_answers (wsV RX2 59 RX2 yX2_tells wsX2_tells) := goodIn_app (goodIn_of _ (by decide +kernel)) ggX2_answers_X2_tells
theorem dX2_answers_0 : decode cX2_answers 0 = .ok (.aload_n 0, 1) := by decide +kernel
theorem dX2_answers_1 : decode cX2_answers 1 = .ok (.iload_n 1, 1) := by decide +kernel
theorem dX2_answers_2 : decode cX2_answers 2 = .ok (.iload_n 2, 1) := by decide +kernel
theorem dX2_answers_3 : decode cX2_answers 3 = .ok (.invokevirtual 62, 3) := by decide +kernel
theorem dX2_answers_6 : decode cX2_answers 6 = .ok (.ifCond .ne 9, 3) := by decide +kernel
theorem dX2_answers_9 : decode cX2_answers 9 = .ok (.aload_n 0, 1) := by decide +kernel
theorem dX2_answers_10 : decode cX2_answers 10 = .ok (.iconst 1, 1) := by decide +kernel
theorem dX2_answers_11 : decode cX2_answers 11 = .ok (.invokevirtual 56, 3) := by decide +kernel
theorem dX2_answers_14 : decode cX2_answers 14 = .ok (.ireturn, 1) := by decide +kernel
theorem dX2_answers_15 : decode cX2_answers 15 = .ok (.aload_n 0, 1) := by decide +kernel
theorem dX2_answers_16 : decode cX2_answers 16 = .ok (.invokevirtual 79, 3) := by decide +kernel
theorem dX2_answers_19 : decode cX2_answers 19 = .ok (.iconst 0, 1) := by decide +kernel
theorem dX2_answers_20 : decode cX2_answers 20 = .ok (.istore_n 3, 1) := by decide +kernel
theorem dX2_answers_21 : decode cX2_answers 21 = .ok (.iconst 0, 1) := by decide +kernel
theorem dX2_answers_22 : decode cX2_answers 22 = .ok (.istore 4, 2) := by decide +kernel
theorem dX2_answers_24 : decode cX2_answers 24 = .ok (.iload 4, 2) := by decide +kernel
theorem dX2_answers_26 : decode cX2_answers 26 = .ok (.aload_n 0, 1) := by decide +kernel
theorem dX2_answers_27 : decode cX2_answers 27 = .ok (.getfield 41, 3) := by decide +kernel
theorem dX2_answers_30 : decode cX2_answers 30 = .ok (.if_icmp .ge 68, 3) := by decide +kernel
theorem dX2_answers_33 : decode cX2_answers 33 = .ok (.iconst 0, 1) := by decide +kernel
theorem dX2_answers_34 : decode cX2_answers 34 = .ok (.istore 5, 2) := by decide +kernel
theorem dX2_answers_36 : decode cX2_answers 36 = .ok (.iload 5, 2) := by decide +kernel
theorem dX2_answers_38 : decode cX2_answers 38 = .ok (.aload_n 0, 1) := by decide +kernel
theorem dX2_answers_39 : decode cX2_answers 39 = .ok (.getfield 22, 3) := by decide +kernel
theorem dX2_answers_42 : decode cX2_answers 42 = .ok (.iload 4, 2) := by decide +kernel
theorem dX2_answers_44 : decode cX2_answers 44 = .ok (.iaload, 1) := by decide +kernel
theorem dX2_answers_45 : decode cX2_answers 45 = .ok (.if_icmp .ge 47, 3) := by decide +kernel
theorem dX2_answers_48 : decode cX2_answers 48 = .ok (.iload_n 3, 1) := by decide +kernel
theorem dX2_answers_49 : decode cX2_answers 49 = .ok (.aload_n 0, 1) := by decide +kernel
theorem dX2_answers_50 : decode cX2_answers 50 = .ok (.iload 4, 2) := by decide +kernel
theorem dX2_answers_52 : decode cX2_answers 52 = .ok (.iload 5, 2) := by decide +kernel
theorem dX2_answers_54 : decode cX2_answers 54 = .ok (.invokevirtual 95, 3) := by decide +kernel
theorem dX2_answers_57 : decode cX2_answers 57 = .ok (.bipush 110, 2) := by decide +kernel
theorem dX2_answers_59 : decode cX2_answers 59 = .ok (.if_icmp .ne 24, 3) := by decide +kernel
theorem dX2_answers_62 : decode cX2_answers 62 = .ok (.aload_n 0, 1) := by decide +kernel
theorem dX2_answers_63 : decode cX2_answers 63 = .ok (.iload 4, 2) := by decide +kernel
theorem dX2_answers_65 : decode cX2_answers 65 = .ok (.iload 5, 2) := by decide +kernel
theorem dX2_answers_67 : decode cX2_answers 67 = .ok (.invokevirtual 99, 3) := by decide +kernel
theorem dX2_answers_70 : decode cX2_answers 70 = .ok (.bipush 8, 2) := by decide +kernel
theorem dX2_answers_72 : decode cX2_answers 72 = .ok (.iload_n 1, 1) := by decide +kernel
theorem dX2_answers_73 : decode cX2_answers 73 = .ok (.imul, 1) := by decide +kernel
theorem dX2_answers_74 : decode cX2_answers 74 = .ok (.iload_n 2, 1) := by decide +kernel
theorem dX2_answers_75 : decode cX2_answers 75 = .ok (.iadd, 1) := by decide +kernel
theorem dX2_answers_76 : decode cX2_answers 76 = .ok (.if_icmp .ne 7, 3) := by decide +kernel
theorem dX2_answers_79 : decode cX2_answers 79 = .ok (.iconst 1, 1) := by decide +kernel
theorem dX2_answers_80 : decode cX2_answers 80 = .ok (.goto 4, 3) := by decide +kernel
theorem dX2_answers_83 : decode cX2_answers 83 = .ok (.iconst 0, 1) := by decide +kernel
theorem dX2_answers_84 : decode cX2_answers 84 = .ok (.iadd, 1) := by decide +kernel
theorem dX2_answers_85 : decode cX2_answers 85 = .ok (.istore_n 3, 1) := by decide +kernel
theorem dX2_answers_86 : decode cX2_answers 86 = .ok (.iinc 5 1, 3) := by decide +kernel
theorem dX2_answers_89 : decode cX2_answers 89 = .ok (.goto (-53), 3) := by decide +kernel
theorem dX2_answers_92 : decode cX2_answers 92 = .ok (.iinc 4 1, 3) := by decide +kernel
theorem dX2_answers_95 : decode cX2_answers 95 = .ok (.goto (-71), 3) := by decide +kernel
theorem dX2_answers_98 : decode cX2_answers 98 = .ok (.aload_n 0, 1) := by decide +kernel
theorem dX2_answers_99 : decode cX2_answers 99 = .ok (.iload_n 3, 1) := by decide +kernel
theorem dX2_answers_100 : decode cX2_answers 100 = .ok (.invokevirtual 59, 3) := by decide +kernel
theorem dX2_answers_103 : decode cX2_answers 103 = .ok (.ireturn, 1) := by decide +kernel
set_option maxRecDepth 20000 in
theorem ggX2_talkOf_X2_alignsAll : GoodIn wsX2_talkOf wsX2_alignsAll := goodIn_ca (goodIn_r _ [7, 1, 8, 9, 10, 6, 11, 2, 12, 13, 14, 15, 16, 17, 18, 19, 20, 21, 22, 23, 24, 25, 26, 27, 28, 29, 51, 52, 53, 54, 55, 56, 57, 58, 59, 60, 61] (by decide +kernel) (by decide +kernel)) (goodIn_sub (fun _ h => List.mem_cons_of_mem _ (List.mem_append_right _ h)) (by decide +kernel))
set_option maxRecDepth 20000 in
theorem gX2_talkOf_X2_alignsAll : GoodIn wsX2_talkOf (wsV RX2 79 RX2 yX2_alignsAll wsX2_alignsAll) := goodIn_app (goodIn_of _ (by decide +kernel)) ggX2_talkOf_X2_alignsAll
set_option maxRecDepth 20000 in
theorem ggX2_talkOf_X2_isTalk : GoodIn wsX2_talkOf wsX2_isTalk := goodIn_ca (goodIn_r _ [33, 34, 35, 36, 6, 37, 28, 2, 13, 18, 38, 39, 40, 41, 1, 42, 43, 44, 45, 46, 29, 14, 15, 16, 17, 19, 20, 21, 22, 23, 47, 48, 49, 50, 51, 52, 53, 54, 55, 56, 57, 58, 59, 60, 61] (by decide +kernel) (by decide +kernel)) (goodIn_sub (fun _ h => List.mem_cons_of_mem _ (List.mem_append_right _ h)) (by decide +kernel))
set_option maxRecDepth 20000 in
theorem gX2_talkOf_X2_isTalk : GoodIn wsX2_talkOf (wsV RX2 105 RX2 yX2_isTalk wsX2_isTalk) := goodIn_app (goodIn_of _ (by decide +kernel)) ggX2_talkOf_X2_isTalk
theorem dX2_talkOf_0 : decode cX2_talkOf 0 = .ok (.aload_n 0, 1) := by decide +kernel
theorem dX2_talkOf_1 : decode cX2_talkOf 1 = .ok (.invokevirtual 79, 3) := by decide +kernel
theorem dX2_talkOf_4 : decode cX2_talkOf 4 = .ok (.iconst 0, 1) := by decide +kernel
theorem dX2_talkOf_5 : decode cX2_talkOf 5 = .ok (.istore_n 1, 1) := by decide +kernel
theorem dX2_talkOf_6 : decode cX2_talkOf 6 = .ok (.iconst 0, 1) := by decide +kernel
theorem dX2_talkOf_7 : decode cX2_talkOf 7 = .ok (.istore_n 2, 1) := by decide +kernel
theorem dX2_talkOf_8 : decode cX2_talkOf 8 = .ok (.iload_n 2, 1) := by decide +kernel
theorem dX2_talkOf_9 : decode cX2_talkOf 9 = .ok (.aload_n 0, 1) := by decide +kernel
theorem dX2_talkOf_10 : decode cX2_talkOf 10 = .ok (.getfield 41, 3) := by decide +kernel
theorem dX2_talkOf_13 : decode cX2_talkOf 13 = .ok (.if_icmp .ge 44, 3) := by decide +kernel
theorem dX2_talkOf_16 : decode cX2_talkOf 16 = .ok (.iconst 0, 1) := by decide +kernel
theorem dX2_talkOf_17 : decode cX2_talkOf 17 = .ok (.istore_n 3, 1) := by decide +kernel
theorem dX2_talkOf_18 : decode cX2_talkOf 18 = .ok (.iload_n 3, 1) := by decide +kernel
theorem dX2_talkOf_19 : decode cX2_talkOf 19 = .ok (.aload_n 0, 1) := by decide +kernel
theorem dX2_talkOf_20 : decode cX2_talkOf 20 = .ok (.getfield 22, 3) := by decide +kernel
theorem dX2_talkOf_23 : decode cX2_talkOf 23 = .ok (.iload_n 2, 1) := by decide +kernel
theorem dX2_talkOf_24 : decode cX2_talkOf 24 = .ok (.iaload, 1) := by decide +kernel
theorem dX2_talkOf_25 : decode cX2_talkOf 25 = .ok (.if_icmp .ge 26, 3) := by decide +kernel
theorem dX2_talkOf_28 : decode cX2_talkOf 28 = .ok (.iload_n 1, 1) := by decide +kernel
theorem dX2_talkOf_29 : decode cX2_talkOf 29 = .ok (.aload_n 0, 1) := by decide +kernel
theorem dX2_talkOf_30 : decode cX2_talkOf 30 = .ok (.iload_n 2, 1) := by decide +kernel
theorem dX2_talkOf_31 : decode cX2_talkOf 31 = .ok (.iload_n 3, 1) := by decide +kernel
theorem dX2_talkOf_32 : decode cX2_talkOf 32 = .ok (.invokevirtual 105, 3) := by decide +kernel
theorem dX2_talkOf_35 : decode cX2_talkOf 35 = .ok (.ifCond .eq 7, 3) := by decide +kernel
theorem dX2_talkOf_38 : decode cX2_talkOf 38 = .ok (.iconst 1, 1) := by decide +kernel
theorem dX2_talkOf_39 : decode cX2_talkOf 39 = .ok (.goto 4, 3) := by decide +kernel
theorem dX2_talkOf_42 : decode cX2_talkOf 42 = .ok (.iconst 0, 1) := by decide +kernel
theorem dX2_talkOf_43 : decode cX2_talkOf 43 = .ok (.iadd, 1) := by decide +kernel
theorem dX2_talkOf_44 : decode cX2_talkOf 44 = .ok (.istore_n 1, 1) := by decide +kernel
theorem dX2_talkOf_45 : decode cX2_talkOf 45 = .ok (.iinc 3 1, 3) := by decide +kernel
theorem dX2_talkOf_48 : decode cX2_talkOf 48 = .ok (.goto (-30), 3) := by decide +kernel
theorem dX2_talkOf_51 : decode cX2_talkOf 51 = .ok (.iinc 2 1, 3) := by decide +kernel
theorem dX2_talkOf_54 : decode cX2_talkOf 54 = .ok (.goto (-46), 3) := by decide +kernel
theorem dX2_talkOf_57 : decode cX2_talkOf 57 = .ok (.iload_n 1, 1) := by decide +kernel
theorem dX2_talkOf_58 : decode cX2_talkOf 58 = .ok (.ireturn, 1) := by decide +kernel
set_option maxRecDepth 20000 in
theorem ggX2_talk_X2_talkOf : GoodIn wsX2_talk wsX2_talkOf := goodIn_ca (goodIn_r _ [5, 6, 7, 8, 9, 10, 4, 11, 12, 13, 14, 15, 16, 17, 18, 19, 20, 21, 22, 23, 24, 25, 26, 27, 28, 29, 30, 31, 32, 33, 34, 35, 36, 37, 38, 39, 40, 41, 42, 43, 44, 45, 46, 47, 48, 49, 50, 51, 52, 53, 54, 60, 61, 62, 63, 64, 65, 66, 67, 68, 69, 70] (by decide +kernel) (by decide +kernel)) (goodIn_sub (fun _ h => List.mem_cons_of_mem _ (List.mem_append_right _ h)) (by decide +kernel))
set_option maxRecDepth 20000 in
theorem gX2_talk_X2_talkOf : GoodIn wsX2_talk (wsV RX2 108 RX2 yX2_talkOf wsX2_talkOf) := goodIn_app (goodIn_of _ (by decide +kernel)) ggX2_talk_X2_talkOf
set_option maxRecDepth 20000 in
theorem ggX2_talk_X2_tells : GoodIn wsX2_talk wsX2_tells := goodIn_r _ [58, 59, 60, 61, 62, 63, 64, 65, 66, 67, 68, 69, 70] (by decide +kernel) (by decide +kernel)
set_option maxRecDepth 20000 in
theorem gX2_talk_X2_tells : GoodIn wsX2_talk (wsV RX2 59 RX2 yX2_tells wsX2_tells) := goodIn_app (goodIn_of _ (by decide +kernel)) ggX2_talk_X2_tells
theorem dX2_talk_0 : decode cX2_talk 0 = .ok (.aload_n 0, 1) := by decide +kernel
theorem dX2_talk_1 : decode cX2_talk 1 = .ok (.aload_n 0, 1) := by decide +kernel
theorem dX2_talk_2 : decode cX2_talk 2 = .ok (.invokevirtual 108, 3) := by decide +kernel
theorem dX2_talk_5 : decode cX2_talk 5 = .ok (.invokevirtual 59, 3) := by decide +kernel
theorem dX2_talk_8 : decode cX2_talk 8 = .ok (.ireturn, 1) := by decide +kernel
set_option maxRecDepth 20000 in
theorem ggX2_talkByOrigins_X2_talkOf : GoodIn wsX2_talkByOrigins wsX2_talkOf := goodIn_ca (goodIn_r _ [5, 6, 7, 8, 9, 10, 4, 11, 12, 13, 14, 15, 16, 17, 18, 19, 20, 21, 22, 23, 24, 25, 26, 27, 28, 29, 30, 31, 32, 33, 34, 35, 36, 37, 38, 39, 40, 41, 42, 43, 44, 45, 46, 47, 48, 49, 50, 51, 52, 53, 54, 60, 61, 62, 63, 64, 65, 66, 67, 68, 69, 70] (by decide +kernel) (by decide +kernel)) (goodIn_sub (fun _ h => List.mem_cons_of_mem _ (List.mem_append_right _ h)) (by decide +kernel))
set_option maxRecDepth 20000 in
theorem gX2_talkByOrigins_X2_talkOf : GoodIn wsX2_talkByOrigins (wsV RX2 108 RX2 yX2_talkOf wsX2_talkOf) := goodIn_app (goodIn_of _ (by decide +kernel)) ggX2_talkByOrigins_X2_talkOf
set_option maxRecDepth 20000 in
theorem ggX2_talkByOrigins_X2_tells : GoodIn wsX2_talkByOrigins wsX2_tells := goodIn_r _ [58, 59, 60, 61, 62, 63, 64, 65, 66, 67, 68, 69, 70] (by decide +kernel) (by decide +kernel)
set_option maxRecDepth 20000 in
theorem gX2_talkByOrigins_X2_tells : GoodIn wsX2_talkByOrigins (wsV RX2 59 RX2 yX2_tells wsX2_tells) := goodIn_app (goodIn_of _ (by decide +kernel)) ggX2_talkByOrigins_X2_tells
theorem dX2_talkByOrigins_0 : decode cX2_talkByOrigins 0 = .ok (.aload_n 0, 1) := by decide +kernel
theorem dX2_talkByOrigins_1 : decode cX2_talkByOrigins 1 = .ok (.aload_n 0, 1) := by decide +kernel
theorem dX2_talkByOrigins_2 : decode cX2_talkByOrigins 2 = .ok (.invokevirtual 108, 3) := by decide +kernel
theorem dX2_talkByOrigins_5 : decode cX2_talkByOrigins 5 = .ok (.invokevirtual 59, 3) := by decide +kernel
theorem dX2_talkByOrigins_8 : decode cX2_talkByOrigins 8 = .ok (.ireturn, 1) := by decide +kernel
set_option maxRecDepth 20000 in
theorem ggX2_copies_X2_isLine : GoodIn wsX2_copies wsX2_isLine := goodIn_ca (goodIn_r _ [7, 2, 8, 9, 10, 6, 11, 1, 12, 13, 14, 75, 76, 77, 78, 79, 80, 81, 82, 83, 84, 85] (by decide +kernel) (by decide +kernel)) (goodIn_sub (fun _ h => List.mem_cons_of_mem _ (List.mem_append_right _ h)) (by decide +kernel))
set_option maxRecDepth 20000 in
theorem gX2_copies_X2_isLine : GoodIn wsX2_copies (wsV RX2 62 RX2 yX2_isLine wsX2_isLine) := goodIn_app (goodIn_of _ (by decide +kernel)) ggX2_copies_X2_isLine
set_option maxRecDepth 20000 in
theorem ggX2_copies_X2_fails : GoodIn wsX2_copies wsX2_fails := goodIn_r _ [18, 19, 75, 76, 77, 78, 79, 80, 81, 82, 83, 84, 85] (by decide +kernel) (by decide +kernel)
set_option maxRecDepth 20000 in
theorem gX2_copies_X2_fails : GoodIn wsX2_copies (wsV RX2 56 RX2 yX2_fails wsX2_fails) := goodIn_app (goodIn_of _ (by decide +kernel)) ggX2_copies_X2_fails
set_option maxRecDepth 20000 in
theorem ggX2_copies_X2_alignsAll : GoodIn wsX2_copies wsX2_alignsAll := goodIn_ca (goodIn_r _ [23, 1, 24, 25, 26, 6, 27, 2, 28, 29, 30, 31, 32, 33, 34, 35, 36, 37, 38, 39, 40, 41, 42, 43, 44, 45, 75, 76, 77, 78, 79, 80, 81, 82, 83, 84, 85] (by decide +kernel) (by decide +kernel)) (goodIn_sub (fun _ h => List.mem_cons_of_mem _ (List.mem_append_right _ h)) (by decide +kernel))
set_option maxRecDepth 20000 in
theorem gX2_copies_X2_alignsAll : GoodIn wsX2_copies (wsV RX2 79 RX2 yX2_alignsAll wsX2_alignsAll) := goodIn_app (goodIn_of _ (by decide +kernel)) ggX2_copies_X2_alignsAll
set_option maxRecDepth 20000 in
theorem ggX2_copies_X2_isTalk : GoodIn wsX2_copies wsX2_isTalk := goodIn_ca (goodIn_r _ [49, 50, 51, 52, 6, 53, 44, 2, 29, 34, 54, 55, 56, 57, 1, 58, 59, 60, 61, 62, 45, 30, 31, 32, 33, 35, 36, 37, 38, 39, 63, 64, 65, 66, 75, 76, 77, 78, 79, 80, 81, 82, 83, 84, 85] (by decide +kernel) (by decide +kernel)) (goodIn_sub (fun _ h => List.mem_cons_of_mem _ (List.mem_append_right _ h)) (by decide +kernel))
set_option maxRecDepth 20000 in
theorem gX2_copies_X2_isTalk : GoodIn wsX2_copies (wsV RX2 105 RX2 yX2_isTalk wsX2_isTalk) := goodIn_app (goodIn_of _ (by decide +kernel)) ggX2_copies_X2_isTalk
set_option maxRecDepth 20000 in
theorem ggX2_copies_X2_origin : GoodIn wsX2_copies wsX2_origin := goodIn_ca (goodIn_r _ [70, 29, 30, 31, 32, 6, 33, 34, 35, 36, 37, 38, 1, 39, 75, 76, 77, 78, 79, 80, 81, 82, 83, 84, 85] (by decide +kernel) (by decide +kernel)) (goodIn_sub (fun _ h => List.mem_cons_of_mem _ (List.mem_append_right _ h)) (by decide +kernel))
set_option maxRecDepth 20000 in
theorem gX2_copies_X2_origin : GoodIn wsX2_copies (wsV RX2 82 RX2 yX2_origin wsX2_origin) := goodIn_app (goodIn_of _ (by decide +kernel)) ggX2_copies_X2_origin
set_option maxRecDepth 20000 in
theorem ggX2_copies_X2_tells : GoodIn wsX2_copies wsX2_tells := goodIn_r _ [74, 19, 75, 76, 77, 78, 79, 80, 81, 82, 83, 84, 85] (by decide +kernel) (by decide +kernel)
set_option maxRecDepth 20000 in
theorem gX2_copies_X2_tells : GoodIn wsX2_copies (wsV RX2 59 RX2 yX2_tells wsX2_tells) := goodIn_app (goodIn_of _ (by decide +kernel)) ggX2_copies_X2_tells
theorem dX2_copies_0 : decode cX2_copies 0 = .ok (.aload_n 0, 1) := by decide +kernel
theorem dX2_copies_1 : decode cX2_copies 1 = .ok (.iload_n 1, 1) := by decide +kernel
theorem dX2_copies_2 : decode cX2_copies 2 = .ok (.iload_n 2, 1) := by decide +kernel
theorem dX2_copies_3 : decode cX2_copies 3 = .ok (.invokevirtual 62, 3) := by decide +kernel
theorem dX2_copies_6 : decode cX2_copies 6 = .ok (.ifCond .ne 9, 3) := by decide +kernel
theorem dX2_copies_9 : decode cX2_copies 9 = .ok (.aload_n 0, 1) := by decide +kernel
theorem dX2_copies_10 : decode cX2_copies 10 = .ok (.iconst 1, 1) := by decide +kernel
theorem dX2_copies_11 : decode cX2_copies 11 = .ok (.invokevirtual 56, 3) := by decide +kernel
theorem dX2_copies_14 : decode cX2_copies 14 = .ok (.ireturn, 1) := by decide +kernel
theorem dX2_copies_15 : decode cX2_copies 15 = .ok (.aload_n 0, 1) := by decide +kernel
theorem dX2_copies_16 : decode cX2_copies 16 = .ok (.invokevirtual 79, 3) := by decide +kernel
theorem dX2_copies_19 : decode cX2_copies 19 = .ok (.aload_n 0, 1) := by decide +kernel
theorem dX2_copies_20 : decode cX2_copies 20 = .ok (.iload_n 1, 1) := by decide +kernel
theorem dX2_copies_21 : decode cX2_copies 21 = .ok (.iload_n 2, 1) := by decide +kernel
theorem dX2_copies_22 : decode cX2_copies 22 = .ok (.invokevirtual 105, 3) := by decide +kernel
theorem dX2_copies_25 : decode cX2_copies 25 = .ok (.ifCond .ne 9, 3) := by decide +kernel
theorem dX2_copies_28 : decode cX2_copies 28 = .ok (.aload_n 0, 1) := by decide +kernel
theorem dX2_copies_29 : decode cX2_copies 29 = .ok (.iconst 2, 1) := by decide +kernel
theorem dX2_copies_30 : decode cX2_copies 30 = .ok (.invokevirtual 56, 3) := by decide +kernel
theorem dX2_copies_33 : decode cX2_copies 33 = .ok (.ireturn, 1) := by decide +kernel
theorem dX2_copies_34 : decode cX2_copies 34 = .ok (.iconst 0, 1) := by decide +kernel
theorem dX2_copies_35 : decode cX2_copies 35 = .ok (.istore_n 3, 1) := by decide +kernel
theorem dX2_copies_36 : decode cX2_copies 36 = .ok (.iconst 0, 1) := by decide +kernel
theorem dX2_copies_37 : decode cX2_copies 37 = .ok (.istore 4, 2) := by decide +kernel
theorem dX2_copies_39 : decode cX2_copies 39 = .ok (.iload 4, 2) := by decide +kernel
theorem dX2_copies_41 : decode cX2_copies 41 = .ok (.aload_n 0, 1) := by decide +kernel
theorem dX2_copies_42 : decode cX2_copies 42 = .ok (.getfield 41, 3) := by decide +kernel
theorem dX2_copies_45 : decode cX2_copies 45 = .ok (.if_icmp .ge 55, 3) := by decide +kernel
theorem dX2_copies_48 : decode cX2_copies 48 = .ok (.iconst 0, 1) := by decide +kernel
theorem dX2_copies_49 : decode cX2_copies 49 = .ok (.istore 5, 2) := by decide +kernel
theorem dX2_copies_51 : decode cX2_copies 51 = .ok (.iload 5, 2) := by decide +kernel
theorem dX2_copies_53 : decode cX2_copies 53 = .ok (.aload_n 0, 1) := by decide +kernel
theorem dX2_copies_54 : decode cX2_copies 54 = .ok (.getfield 22, 3) := by decide +kernel
theorem dX2_copies_57 : decode cX2_copies 57 = .ok (.iload 4, 2) := by decide +kernel
theorem dX2_copies_59 : decode cX2_copies 59 = .ok (.iaload, 1) := by decide +kernel
theorem dX2_copies_60 : decode cX2_copies 60 = .ok (.if_icmp .ge 34, 3) := by decide +kernel
theorem dX2_copies_63 : decode cX2_copies 63 = .ok (.iload_n 3, 1) := by decide +kernel
theorem dX2_copies_64 : decode cX2_copies 64 = .ok (.aload_n 0, 1) := by decide +kernel
theorem dX2_copies_65 : decode cX2_copies 65 = .ok (.iload 4, 2) := by decide +kernel
theorem dX2_copies_67 : decode cX2_copies 67 = .ok (.iload 5, 2) := by decide +kernel
theorem dX2_copies_69 : decode cX2_copies 69 = .ok (.invokevirtual 82, 3) := by decide +kernel
theorem dX2_copies_72 : decode cX2_copies 72 = .ok (.bipush 8, 2) := by decide +kernel
theorem dX2_copies_74 : decode cX2_copies 74 = .ok (.iload_n 1, 1) := by decide +kernel
theorem dX2_copies_75 : decode cX2_copies 75 = .ok (.imul, 1) := by decide +kernel
theorem dX2_copies_76 : decode cX2_copies 76 = .ok (.iload_n 2, 1) := by decide +kernel
theorem dX2_copies_77 : decode cX2_copies 77 = .ok (.iadd, 1) := by decide +kernel
theorem dX2_copies_78 : decode cX2_copies 78 = .ok (.if_icmp .ne 7, 3) := by decide +kernel
theorem dX2_copies_81 : decode cX2_copies 81 = .ok (.iconst 1, 1) := by decide +kernel
theorem dX2_copies_82 : decode cX2_copies 82 = .ok (.goto 4, 3) := by decide +kernel
theorem dX2_copies_85 : decode cX2_copies 85 = .ok (.iconst 0, 1) := by decide +kernel
theorem dX2_copies_86 : decode cX2_copies 86 = .ok (.iadd, 1) := by decide +kernel
theorem dX2_copies_87 : decode cX2_copies 87 = .ok (.istore_n 3, 1) := by decide +kernel
theorem dX2_copies_88 : decode cX2_copies 88 = .ok (.iinc 5 1, 3) := by decide +kernel
theorem dX2_copies_91 : decode cX2_copies 91 = .ok (.goto (-40), 3) := by decide +kernel
theorem dX2_copies_94 : decode cX2_copies 94 = .ok (.iinc 4 1, 3) := by decide +kernel
theorem dX2_copies_97 : decode cX2_copies 97 = .ok (.goto (-58), 3) := by decide +kernel
theorem dX2_copies_100 : decode cX2_copies 100 = .ok (.aload_n 0, 1) := by decide +kernel
theorem dX2_copies_101 : decode cX2_copies 101 = .ok (.iload_n 3, 1) := by decide +kernel
theorem dX2_copies_102 : decode cX2_copies 102 = .ok (.invokevirtual 59, 3) := by decide +kernel
theorem dX2_copies_105 : decode cX2_copies 105 = .ok (.ireturn, 1) := by decide +kernel
set_option maxRecDepth 20000 in
theorem ggX2_rootOf_X2_parentOf : GoodIn wsX2_rootOf wsX2_parentOf := goodIn_ca (goodIn_r _ [6, 7, 8, 9, 10, 5, 11, 12, 13, 14, 15, 16, 17, 18, 19, 20, 21, 22, 23, 24] (by decide +kernel) (by decide +kernel)) (goodIn_sub (fun _ h => List.mem_cons_of_mem _ (List.mem_append_right _ h)) (by decide +kernel))
set_option maxRecDepth 20000 in
theorem gX2_rootOf_X2_parentOf : GoodIn wsX2_rootOf (wsV RX2 66 RX2 yX2_parentOf wsX2_parentOf) := goodIn_app (goodIn_of _ (by decide +kernel)) ggX2_rootOf_X2_parentOf
theorem dX2_rootOf_0 : decode cX2_rootOf 0 = .ok (.iload_n 1, 1) := by decide +kernel
theorem dX2_rootOf_1 : decode cX2_rootOf 1 = .ok (.istore_n 2, 1) := by decide +kernel
theorem dX2_rootOf_2 : decode cX2_rootOf 2 = .ok (.aload_n 0, 1) := by decide +kernel
theorem dX2_rootOf_3 : decode cX2_rootOf 3 = .ok (.iload_n 2, 1) := by decide +kernel
theorem dX2_rootOf_4 : decode cX2_rootOf 4 = .ok (.invokevirtual 66, 3) := by decide +kernel
theorem dX2_rootOf_7 : decode cX2_rootOf 7 = .ok (.iconst (-1), 1) := by decide +kernel
theorem dX2_rootOf_8 : decode cX2_rootOf 8 = .ok (.if_icmp .eq 31, 3) := by decide +kernel
theorem dX2_rootOf_11 : decode cX2_rootOf 11 = .ok (.aload_n 0, 1) := by decide +kernel
theorem dX2_rootOf_12 : decode cX2_rootOf 12 = .ok (.getfield 16, 3) := by decide +kernel
theorem dX2_rootOf_15 : decode cX2_rootOf 15 = .ok (.aload_n 0, 1) := by decide +kernel
theorem dX2_rootOf_16 : decode cX2_rootOf 16 = .ok (.iload_n 2, 1) := by decide +kernel
theorem dX2_rootOf_17 : decode cX2_rootOf 17 = .ok (.invokevirtual 66, 3) := by decide +kernel
theorem dX2_rootOf_20 : decode cX2_rootOf 20 = .ok (.iaload, 1) := by decide +kernel
theorem dX2_rootOf_21 : decode cX2_rootOf 21 = .ok (.aload_n 0, 1) := by decide +kernel
theorem dX2_rootOf_22 : decode cX2_rootOf 22 = .ok (.getfield 16, 3) := by decide +kernel
theorem dX2_rootOf_25 : decode cX2_rootOf 25 = .ok (.iload_n 2, 1) := by decide +kernel
theorem dX2_rootOf_26 : decode cX2_rootOf 26 = .ok (.iaload, 1) := by decide +kernel
theorem dX2_rootOf_27 : decode cX2_rootOf 27 = .ok (.if_icmp .ne 12, 3) := by decide +kernel
theorem dX2_rootOf_30 : decode cX2_rootOf 30 = .ok (.aload_n 0, 1) := by decide +kernel
theorem dX2_rootOf_31 : decode cX2_rootOf 31 = .ok (.iload_n 2, 1) := by decide +kernel
theorem dX2_rootOf_32 : decode cX2_rootOf 32 = .ok (.invokevirtual 66, 3) := by decide +kernel
theorem dX2_rootOf_35 : decode cX2_rootOf 35 = .ok (.istore_n 2, 1) := by decide +kernel
theorem dX2_rootOf_36 : decode cX2_rootOf 36 = .ok (.goto (-34), 3) := by decide +kernel
theorem dX2_rootOf_39 : decode cX2_rootOf 39 = .ok (.iload_n 2, 1) := by decide +kernel
theorem dX2_rootOf_40 : decode cX2_rootOf 40 = .ok (.ireturn, 1) := by decide +kernel
set_option maxRecDepth 20000 in
theorem ggX2_root_X2_isMail : GoodIn wsX2_root wsX2_isMail := goodIn_r _ [5, 6, 7, 8, 4, 9, 34, 35, 36, 37, 38, 39, 40, 41, 42, 43, 44] (by decide +kernel) (by decide +kernel)
set_option maxRecDepth 20000 in
theorem gX2_root_X2_isMail : GoodIn wsX2_root (wsV RX2 48 RX2 yX2_isMail wsX2_isMail) := goodIn_app (goodIn_of _ (by decide +kernel)) ggX2_root_X2_isMail
set_option maxRecDepth 20000 in
theorem ggX2_root_X2_rootOf : GoodIn wsX2_root wsX2_rootOf := goodIn_ca (goodIn_r _ [13, 14, 15, 16, 17, 4, 18, 19, 20, 21, 22, 23, 6, 24, 34, 35, 36, 37, 38, 39, 40, 41, 42, 43, 44] (by decide +kernel) (by decide +kernel)) (goodIn_sub (fun _ h => List.mem_cons_of_mem _ (List.mem_append_right _ h)) (by decide +kernel))
set_option maxRecDepth 20000 in
theorem gX2_root_X2_rootOf : GoodIn wsX2_root (wsV RX2 112 RX2 yX2_rootOf wsX2_rootOf) := goodIn_app (goodIn_of _ (by decide +kernel)) ggX2_root_X2_rootOf
set_option maxRecDepth 20000 in
theorem ggX2_root_X2_tells : GoodIn wsX2_root wsX2_tells := goodIn_r _ [28, 29, 34, 35, 36, 37, 38, 39, 40, 41, 42, 43, 44] (by decide +kernel) (by decide +kernel)
set_option maxRecDepth 20000 in
theorem gX2_root_X2_tells : GoodIn wsX2_root (wsV RX2 59 RX2 yX2_tells wsX2_tells) := goodIn_app (goodIn_of _ (by decide +kernel)) ggX2_root_X2_tells
set_option maxRecDepth 20000 in
theorem ggX2_root_X2_fails : GoodIn wsX2_root wsX2_fails := goodIn_r _ [33, 29, 34, 35, 36, 37, 38, 39, 40, 41, 42, 43, 44] (by decide +kernel) (by decide +kernel)
set_option maxRecDepth 20000 in
theorem gX2_root_X2_fails : GoodIn wsX2_root (wsV RX2 56 RX2 yX2_fails wsX2_fails) := goodIn_app (goodIn_of _ (by decide +kernel)) ggX2_root_X2_fails
theorem dX2_root_0 : decode cX2_root 0 = .ok (.aload_n 0, 1) := by decide +kernel
theorem dX2_root_1 : decode cX2_root 1 = .ok (.iload_n 1, 1) := by decide +kernel
theorem dX2_root_2 : decode cX2_root 2 = .ok (.invokevirtual 48, 3) := by decide +kernel
theorem dX2_root_5 : decode cX2_root 5 = .ok (.ifCond .eq 15, 3) := by decide +kernel
theorem dX2_root_8 : decode cX2_root 8 = .ok (.aload_n 0, 1) := by decide +kernel
theorem dX2_root_9 : decode cX2_root 9 = .ok (.aload_n 0, 1) := by decide +kernel
theorem dX2_root_10 : decode cX2_root 10 = .ok (.iload_n 1, 1) := by decide +kernel
theorem dX2_root_11 : decode cX2_root 11 = .ok (.invokevirtual 112, 3) := by decide +kernel
theorem dX2_root_14 : decode cX2_root 14 = .ok (.invokevirtual 59, 3) := by decide +kernel
theorem dX2_root_17 : decode cX2_root 17 = .ok (.goto 8, 3) := by decide +kernel
theorem dX2_root_20 : decode cX2_root 20 = .ok (.aload_n 0, 1) := by decide +kernel
theorem dX2_root_21 : decode cX2_root 21 = .ok (.iconst 1, 1) := by decide +kernel
theorem dX2_root_22 : decode cX2_root 22 = .ok (.invokevirtual 56, 3) := by decide +kernel
theorem dX2_root_25 : decode cX2_root 25 = .ok (.ireturn, 1) := by decide +kernel
set_option maxRecDepth 20000 in
theorem ggX2_rootByRounds_X2_isMail : GoodIn wsX2_rootByRounds wsX2_isMail := goodIn_r _ [5, 6, 7, 8, 4, 9, 34, 35, 36, 37, 38, 39, 40, 41, 42, 43, 44] (by decide +kernel) (by decide +kernel)
set_option maxRecDepth 20000 in
theorem gX2_rootByRounds_X2_isMail : GoodIn wsX2_rootByRounds (wsV RX2 48 RX2 yX2_isMail wsX2_isMail) := goodIn_app (goodIn_of _ (by decide +kernel)) ggX2_rootByRounds_X2_isMail
set_option maxRecDepth 20000 in
theorem ggX2_rootByRounds_X2_rootOf : GoodIn wsX2_rootByRounds wsX2_rootOf := goodIn_ca (goodIn_r _ [13, 14, 15, 16, 17, 4, 18, 19, 20, 21, 22, 23, 6, 24, 34, 35, 36, 37, 38, 39, 40, 41, 42, 43, 44] (by decide +kernel) (by decide +kernel)) (goodIn_sub (fun _ h => List.mem_cons_of_mem _ (List.mem_append_right _ h)) (by decide +kernel))
set_option maxRecDepth 20000 in
theorem gX2_rootByRounds_X2_rootOf : GoodIn wsX2_rootByRounds (wsV RX2 112 RX2 yX2_rootOf wsX2_rootOf) := goodIn_app (goodIn_of _ (by decide +kernel)) ggX2_rootByRounds_X2_rootOf
set_option maxRecDepth 20000 in
theorem ggX2_rootByRounds_X2_tells : GoodIn wsX2_rootByRounds wsX2_tells := goodIn_r _ [28, 29, 34, 35, 36, 37, 38, 39, 40, 41, 42, 43, 44] (by decide +kernel) (by decide +kernel)
set_option maxRecDepth 20000 in
theorem gX2_rootByRounds_X2_tells : GoodIn wsX2_rootByRounds (wsV RX2 59 RX2 yX2_tells wsX2_tells) := goodIn_app (goodIn_of _ (by decide +kernel)) ggX2_rootByRounds_X2_tells
set_option maxRecDepth 20000 in
theorem ggX2_rootByRounds_X2_fails : GoodIn wsX2_rootByRounds wsX2_fails := goodIn_r _ [33, 29, 34, 35, 36, 37, 38, 39, 40, 41, 42, 43, 44] (by decide +kernel) (by decide +kernel)
set_option maxRecDepth 20000 in
theorem gX2_rootByRounds_X2_fails : GoodIn wsX2_rootByRounds (wsV RX2 56 RX2 yX2_fails wsX2_fails) := goodIn_app (goodIn_of _ (by decide +kernel)) ggX2_rootByRounds_X2_fails
theorem dX2_rootByRounds_0 : decode cX2_rootByRounds 0 = .ok (.aload_n 0, 1) := by decide +kernel
theorem dX2_rootByRounds_1 : decode cX2_rootByRounds 1 = .ok (.iload_n 1, 1) := by decide +kernel
theorem dX2_rootByRounds_2 : decode cX2_rootByRounds 2 = .ok (.invokevirtual 48, 3) := by decide +kernel
theorem dX2_rootByRounds_5 : decode cX2_rootByRounds 5 = .ok (.ifCond .eq 15, 3) := by decide +kernel
theorem dX2_rootByRounds_8 : decode cX2_rootByRounds 8 = .ok (.aload_n 0, 1) := by decide +kernel
theorem dX2_rootByRounds_9 : decode cX2_rootByRounds 9 = .ok (.aload_n 0, 1) := by decide +kernel
theorem dX2_rootByRounds_10 : decode cX2_rootByRounds 10 = .ok (.iload_n 1, 1) := by decide +kernel
theorem dX2_rootByRounds_11 : decode cX2_rootByRounds 11 = .ok (.invokevirtual 112, 3) := by decide +kernel
theorem dX2_rootByRounds_14 : decode cX2_rootByRounds 14 = .ok (.invokevirtual 59, 3) := by decide +kernel
theorem dX2_rootByRounds_17 : decode cX2_rootByRounds 17 = .ok (.goto 8, 3) := by decide +kernel
theorem dX2_rootByRounds_20 : decode cX2_rootByRounds 20 = .ok (.aload_n 0, 1) := by decide +kernel
theorem dX2_rootByRounds_21 : decode cX2_rootByRounds 21 = .ok (.iconst 1, 1) := by decide +kernel
theorem dX2_rootByRounds_22 : decode cX2_rootByRounds 22 = .ok (.invokevirtual 56, 3) := by decide +kernel
theorem dX2_rootByRounds_25 : decode cX2_rootByRounds 25 = .ok (.ireturn, 1) := by decide +kernel
set_option maxRecDepth 20000 in
theorem ggX2_heads_X2_rootOf : GoodIn wsX2_heads wsX2_rootOf := goodIn_ca (goodIn_r _ [6, 7, 8, 9, 10, 5, 11, 12, 13, 14, 15, 16, 1, 17, 18, 19, 20, 21, 22, 23, 24, 25, 26, 27, 28] (by decide +kernel) (by decide +kernel)) (goodIn_sub (fun _ h => List.mem_cons_of_mem _ (List.mem_append_right _ h)) (by decide +kernel))
set_option maxRecDepth 20000 in
theorem gX2_heads_X2_rootOf : GoodIn wsX2_heads (wsV RX2 112 RX2 yX2_rootOf wsX2_rootOf) := goodIn_app (goodIn_of _ (by decide +kernel)) ggX2_heads_X2_rootOf
theorem dX2_heads_0 : decode cX2_heads 0 = .ok (.iconst 0, 1) := by decide +kernel
theorem dX2_heads_1 : decode cX2_heads 1 = .ok (.istore_n 1, 1) := by decide +kernel
theorem dX2_heads_2 : decode cX2_heads 2 = .ok (.iconst 0, 1) := by decide +kernel
theorem dX2_heads_3 : decode cX2_heads 3 = .ok (.istore_n 2, 1) := by decide +kernel
theorem dX2_heads_4 : decode cX2_heads 4 = .ok (.iload_n 2, 1) := by decide +kernel
theorem dX2_heads_5 : decode cX2_heads 5 = .ok (.aload_n 0, 1) := by decide +kernel
theorem dX2_heads_6 : decode cX2_heads 6 = .ok (.getfield 41, 3) := by decide +kernel
theorem dX2_heads_9 : decode cX2_heads 9 = .ok (.if_icmp .ge 26, 3) := by decide +kernel
theorem dX2_heads_12 : decode cX2_heads 12 = .ok (.iload_n 1, 1) := by decide +kernel
theorem dX2_heads_13 : decode cX2_heads 13 = .ok (.aload_n 0, 1) := by decide +kernel
theorem dX2_heads_14 : decode cX2_heads 14 = .ok (.iload_n 2, 1) := by decide +kernel
theorem dX2_heads_15 : decode cX2_heads 15 = .ok (.invokevirtual 112, 3) := by decide +kernel
theorem dX2_heads_18 : decode cX2_heads 18 = .ok (.iload_n 2, 1) := by decide +kernel
theorem dX2_heads_19 : decode cX2_heads 19 = .ok (.if_icmp .ne 7, 3) := by decide +kernel
theorem dX2_heads_22 : decode cX2_heads 22 = .ok (.iconst 1, 1) := by decide +kernel
theorem dX2_heads_23 : decode cX2_heads 23 = .ok (.goto 4, 3) := by decide +kernel
theorem dX2_heads_26 : decode cX2_heads 26 = .ok (.iconst 0, 1) := by decide +kernel
theorem dX2_heads_27 : decode cX2_heads 27 = .ok (.iadd, 1) := by decide +kernel
theorem dX2_heads_28 : decode cX2_heads 28 = .ok (.istore_n 1, 1) := by decide +kernel
theorem dX2_heads_29 : decode cX2_heads 29 = .ok (.iinc 2 1, 3) := by decide +kernel
theorem dX2_heads_32 : decode cX2_heads 32 = .ok (.goto (-28), 3) := by decide +kernel
theorem dX2_heads_35 : decode cX2_heads 35 = .ok (.iload_n 1, 1) := by decide +kernel
theorem dX2_heads_36 : decode cX2_heads 36 = .ok (.ireturn, 1) := by decide +kernel
set_option maxRecDepth 20000 in
theorem ggX2_threads_X2_heads : GoodIn wsX2_threads wsX2_heads := goodIn_ca (goodIn_r _ [5, 6, 7, 8, 9, 4, 10, 11, 12, 13, 14, 15, 16, 17, 18, 19, 20, 21, 27, 28, 29, 30, 31, 32, 33, 34, 35, 36, 37] (by decide +kernel) (by decide +kernel)) (goodIn_sub (fun _ h => List.mem_cons_of_mem _ (List.mem_append_right _ h)) (by decide +kernel))
set_option maxRecDepth 20000 in
theorem gX2_threads_X2_heads : GoodIn wsX2_threads (wsV RX2 115 RX2 yX2_heads wsX2_heads) := goodIn_app (goodIn_of _ (by decide +kernel)) ggX2_threads_X2_heads
set_option maxRecDepth 20000 in
theorem ggX2_threads_X2_tells : GoodIn wsX2_threads wsX2_tells := goodIn_r _ [25, 26, 27, 28, 29, 30, 31, 32, 33, 34, 35, 36, 37] (by decide +kernel) (by decide +kernel)
set_option maxRecDepth 20000 in
theorem gX2_threads_X2_tells : GoodIn wsX2_threads (wsV RX2 59 RX2 yX2_tells wsX2_tells) := goodIn_app (goodIn_of _ (by decide +kernel)) ggX2_threads_X2_tells
theorem dX2_threads_0 : decode cX2_threads 0 = .ok (.aload_n 0, 1) := by decide +kernel
theorem dX2_threads_1 : decode cX2_threads 1 = .ok (.aload_n 0, 1) := by decide +kernel
theorem dX2_threads_2 : decode cX2_threads 2 = .ok (.invokevirtual 115, 3) := by decide +kernel
theorem dX2_threads_5 : decode cX2_threads 5 = .ok (.invokevirtual 59, 3) := by decide +kernel
theorem dX2_threads_8 : decode cX2_threads 8 = .ok (.ireturn, 1) := by decide +kernel
set_option maxRecDepth 20000 in
theorem ggX2_size_X2_isMail : GoodIn wsX2_size wsX2_isMail := goodIn_r _ [6, 1, 7, 8, 5, 9, 34, 35, 36, 37, 38, 39, 40, 41, 42, 43, 44] (by decide +kernel) (by decide +kernel)
set_option maxRecDepth 20000 in
theorem gX2_size_X2_isMail : GoodIn wsX2_size (wsV RX2 48 RX2 yX2_isMail wsX2_isMail) := goodIn_app (goodIn_of _ (by decide +kernel)) ggX2_size_X2_isMail
set_option maxRecDepth 20000 in
theorem ggX2_size_X2_fails : GoodIn wsX2_size wsX2_fails := goodIn_r _ [13, 14, 34, 35, 36, 37, 38, 39, 40, 41, 42, 43, 44] (by decide +kernel) (by decide +kernel)
set_option maxRecDepth 20000 in
theorem gX2_size_X2_fails : GoodIn wsX2_size (wsV RX2 56 RX2 yX2_fails wsX2_fails) := goodIn_app (goodIn_of _ (by decide +kernel)) ggX2_size_X2_fails
set_option maxRecDepth 20000 in
theorem ggX2_size_X2_rootOf : GoodIn wsX2_size wsX2_rootOf := goodIn_ca (goodIn_r _ [18, 19, 20, 21, 22, 5, 23, 24, 25, 26, 27, 28, 1, 29, 34, 35, 36, 37, 38, 39, 40, 41, 42, 43, 44] (by decide +kernel) (by decide +kernel)) (goodIn_sub (fun _ h => List.mem_cons_of_mem _ (List.mem_append_right _ h)) (by decide +kernel))
set_option maxRecDepth 20000 in
theorem gX2_size_X2_rootOf : GoodIn wsX2_size (wsV RX2 112 RX2 yX2_rootOf wsX2_rootOf) := goodIn_app (goodIn_of _ (by decide +kernel)) ggX2_size_X2_rootOf
set_option maxRecDepth 20000 in
theorem ggX2_size_X2_tells : GoodIn wsX2_size wsX2_tells := goodIn_r _ [33, 14, 34, 35, 36, 37, 38, 39, 40, 41, 42, 43, 44] (by decide +kernel) (by decide +kernel)
set_option maxRecDepth 20000 in
theorem gX2_size_X2_tells : GoodIn wsX2_size (wsV RX2 59 RX2 yX2_tells wsX2_tells) := goodIn_app (goodIn_of _ (by decide +kernel)) ggX2_size_X2_tells
theorem dX2_size_0 : decode cX2_size 0 = .ok (.aload_n 0, 1) := by decide +kernel
theorem dX2_size_1 : decode cX2_size 1 = .ok (.iload_n 1, 1) := by decide +kernel
theorem dX2_size_2 : decode cX2_size 2 = .ok (.invokevirtual 48, 3) := by decide +kernel
theorem dX2_size_5 : decode cX2_size 5 = .ok (.ifCond .ne 9, 3) := by decide +kernel
theorem dX2_size_8 : decode cX2_size 8 = .ok (.aload_n 0, 1) := by decide +kernel
theorem dX2_size_9 : decode cX2_size 9 = .ok (.iconst 1, 1) := by decide +kernel
theorem dX2_size_10 : decode cX2_size 10 = .ok (.invokevirtual 56, 3) := by decide +kernel
theorem dX2_size_13 : decode cX2_size 13 = .ok (.ireturn, 1) := by decide +kernel
theorem dX2_size_14 : decode cX2_size 14 = .ok (.iconst 0, 1) := by decide +kernel
theorem dX2_size_15 : decode cX2_size 15 = .ok (.istore_n 2, 1) := by decide +kernel
theorem dX2_size_16 : decode cX2_size 16 = .ok (.iconst 0, 1) := by decide +kernel
theorem dX2_size_17 : decode cX2_size 17 = .ok (.istore_n 3, 1) := by decide +kernel
theorem dX2_size_18 : decode cX2_size 18 = .ok (.iload_n 3, 1) := by decide +kernel
theorem dX2_size_19 : decode cX2_size 19 = .ok (.aload_n 0, 1) := by decide +kernel
theorem dX2_size_20 : decode cX2_size 20 = .ok (.getfield 41, 3) := by decide +kernel
theorem dX2_size_23 : decode cX2_size 23 = .ok (.if_icmp .ge 30, 3) := by decide +kernel
theorem dX2_size_26 : decode cX2_size 26 = .ok (.iload_n 2, 1) := by decide +kernel
theorem dX2_size_27 : decode cX2_size 27 = .ok (.aload_n 0, 1) := by decide +kernel
theorem dX2_size_28 : decode cX2_size 28 = .ok (.iload_n 3, 1) := by decide +kernel
theorem dX2_size_29 : decode cX2_size 29 = .ok (.invokevirtual 112, 3) := by decide +kernel
theorem dX2_size_32 : decode cX2_size 32 = .ok (.aload_n 0, 1) := by decide +kernel
theorem dX2_size_33 : decode cX2_size 33 = .ok (.iload_n 1, 1) := by decide +kernel
theorem dX2_size_34 : decode cX2_size 34 = .ok (.invokevirtual 112, 3) := by decide +kernel
theorem dX2_size_37 : decode cX2_size 37 = .ok (.if_icmp .ne 7, 3) := by decide +kernel
theorem dX2_size_40 : decode cX2_size 40 = .ok (.iconst 1, 1) := by decide +kernel
theorem dX2_size_41 : decode cX2_size 41 = .ok (.goto 4, 3) := by decide +kernel
theorem dX2_size_44 : decode cX2_size 44 = .ok (.iconst 0, 1) := by decide +kernel
theorem dX2_size_45 : decode cX2_size 45 = .ok (.iadd, 1) := by decide +kernel
theorem dX2_size_46 : decode cX2_size 46 = .ok (.istore_n 2, 1) := by decide +kernel
theorem dX2_size_47 : decode cX2_size 47 = .ok (.iinc 3 1, 3) := by decide +kernel
theorem dX2_size_50 : decode cX2_size 50 = .ok (.goto (-32), 3) := by decide +kernel
theorem dX2_size_53 : decode cX2_size 53 = .ok (.aload_n 0, 1) := by decide +kernel
theorem dX2_size_54 : decode cX2_size 54 = .ok (.iload_n 2, 1) := by decide +kernel
theorem dX2_size_55 : decode cX2_size 55 = .ok (.invokevirtual 59, 3) := by decide +kernel
theorem dX2_size_58 : decode cX2_size 58 = .ok (.ireturn, 1) := by decide +kernel
set_option maxRecDepth 20000 in
theorem ggX2_newShare_X2_talkOf : GoodIn wsX2_newShare wsX2_talkOf := goodIn_ca (goodIn_r _ [8, 1, 2, 9, 10, 11, 7, 12, 13, 14, 15, 16, 17, 18, 19, 20, 21, 22, 23, 24, 25, 26, 27, 28, 29, 30, 31, 32, 33, 34, 35, 36, 37, 38, 39, 40, 41, 42, 43, 44, 45, 46, 47, 48, 49, 50, 51, 52, 53, 54, 55, 56, 57, 58, 59, 60, 61, 62, 63, 64, 65, 66] (by decide +kernel) (by decide +kernel)) (goodIn_sub (fun _ h => List.mem_cons_of_mem _ (List.mem_append_right _ h)) (by decide +kernel))
set_option maxRecDepth 20000 in
theorem gX2_newShare_X2_talkOf : GoodIn wsX2_newShare (wsV RX2 108 RX2 yX2_talkOf wsX2_talkOf) := goodIn_app (goodIn_of _ (by decide +kernel)) ggX2_newShare_X2_talkOf
theorem dX2_newShare_0 : decode cX2_newShare 0 = .ok (.iconst 0, 1) := by decide +kernel
theorem dX2_newShare_1 : decode cX2_newShare 1 = .ok (.istore_n 1, 1) := by decide +kernel
theorem dX2_newShare_2 : decode cX2_newShare 2 = .ok (.iconst 0, 1) := by decide +kernel
theorem dX2_newShare_3 : decode cX2_newShare 3 = .ok (.istore_n 2, 1) := by decide +kernel
theorem dX2_newShare_4 : decode cX2_newShare 4 = .ok (.iload_n 2, 1) := by decide +kernel
theorem dX2_newShare_5 : decode cX2_newShare 5 = .ok (.aload_n 0, 1) := by decide +kernel
theorem dX2_newShare_6 : decode cX2_newShare 6 = .ok (.getfield 41, 3) := by decide +kernel
theorem dX2_newShare_9 : decode cX2_newShare 9 = .ok (.if_icmp .ge 18, 3) := by decide +kernel
theorem dX2_newShare_12 : decode cX2_newShare 12 = .ok (.iload_n 1, 1) := by decide +kernel
theorem dX2_newShare_13 : decode cX2_newShare 13 = .ok (.aload_n 0, 1) := by decide +kernel
theorem dX2_newShare_14 : decode cX2_newShare 14 = .ok (.getfield 22, 3) := by decide +kernel
theorem dX2_newShare_17 : decode cX2_newShare 17 = .ok (.iload_n 2, 1) := by decide +kernel
theorem dX2_newShare_18 : decode cX2_newShare 18 = .ok (.iaload, 1) := by decide +kernel
theorem dX2_newShare_19 : decode cX2_newShare 19 = .ok (.iadd, 1) := by decide +kernel
theorem dX2_newShare_20 : decode cX2_newShare 20 = .ok (.istore_n 1, 1) := by decide +kernel
theorem dX2_newShare_21 : decode cX2_newShare 21 = .ok (.iinc 2 1, 3) := by decide +kernel
theorem dX2_newShare_24 : decode cX2_newShare 24 = .ok (.goto (-20), 3) := by decide +kernel
theorem dX2_newShare_27 : decode cX2_newShare 27 = .ok (.aload_n 0, 1) := by decide +kernel
theorem dX2_newShare_28 : decode cX2_newShare 28 = .ok (.iload_n 1, 1) := by decide +kernel
theorem dX2_newShare_29 : decode cX2_newShare 29 = .ok (.ifCond .ne 7, 3) := by decide +kernel
theorem dX2_newShare_32 : decode cX2_newShare 32 = .ok (.iconst 1, 1) := by decide +kernel
theorem dX2_newShare_33 : decode cX2_newShare 33 = .ok (.goto 4, 3) := by decide +kernel
theorem dX2_newShare_36 : decode cX2_newShare 36 = .ok (.iconst 0, 1) := by decide +kernel
theorem dX2_newShare_37 : decode cX2_newShare 37 = .ok (.putfield 37, 3) := by decide +kernel
theorem dX2_newShare_40 : decode cX2_newShare 40 = .ok (.iload_n 1, 1) := by decide +kernel
theorem dX2_newShare_41 : decode cX2_newShare 41 = .ok (.ifCond .ne 7, 3) := by decide +kernel
theorem dX2_newShare_44 : decode cX2_newShare 44 = .ok (.fconst 0, 1) := by decide +kernel
theorem dX2_newShare_45 : decode cX2_newShare 45 = .ok (.goto 11, 3) := by decide +kernel
theorem dX2_newShare_48 : decode cX2_newShare 48 = .ok (.aload_n 0, 1) := by decide +kernel
theorem dX2_newShare_49 : decode cX2_newShare 49 = .ok (.invokevirtual 108, 3) := by decide +kernel
theorem dX2_newShare_52 : decode cX2_newShare 52 = .ok (.i2f, 1) := by decide +kernel
theorem dX2_newShare_53 : decode cX2_newShare 53 = .ok (.iload_n 1, 1) := by decide +kernel
theorem dX2_newShare_54 : decode cX2_newShare 54 = .ok (.i2f, 1) := by decide +kernel
theorem dX2_newShare_55 : decode cX2_newShare 55 = .ok (.fdiv, 1) := by decide +kernel
theorem dX2_newShare_56 : decode cX2_newShare 56 = .ok (.freturn, 1) := by decide +kernel
set_option maxRecDepth 20000 in
theorem ggX2_meanSize_X2_heads : GoodIn wsX2_meanSize wsX2_heads := goodIn_ca (goodIn_r _ [7, 1, 8, 9, 10, 6, 11, 12, 13, 14, 15, 16, 17, 18, 19, 20, 21, 22, 23, 24, 25, 26, 27, 28, 29, 30, 31, 32, 33] (by decide +kernel) (by decide +kernel)) (goodIn_sub (fun _ h => List.mem_cons_of_mem _ (List.mem_append_right _ h)) (by decide +kernel))
set_option maxRecDepth 20000 in
theorem gX2_meanSize_X2_heads : GoodIn wsX2_meanSize (wsV RX2 115 RX2 yX2_heads wsX2_heads) := goodIn_app (goodIn_of _ (by decide +kernel)) ggX2_meanSize_X2_heads
theorem dX2_meanSize_0 : decode cX2_meanSize 0 = .ok (.aload_n 0, 1) := by decide +kernel
theorem dX2_meanSize_1 : decode cX2_meanSize 1 = .ok (.aload_n 0, 1) := by decide +kernel
theorem dX2_meanSize_2 : decode cX2_meanSize 2 = .ok (.getfield 41, 3) := by decide +kernel
theorem dX2_meanSize_5 : decode cX2_meanSize 5 = .ok (.ifCond .ne 7, 3) := by decide +kernel
theorem dX2_meanSize_8 : decode cX2_meanSize 8 = .ok (.iconst 1, 1) := by decide +kernel
theorem dX2_meanSize_9 : decode cX2_meanSize 9 = .ok (.goto 4, 3) := by decide +kernel
theorem dX2_meanSize_12 : decode cX2_meanSize 12 = .ok (.iconst 0, 1) := by decide +kernel
theorem dX2_meanSize_13 : decode cX2_meanSize 13 = .ok (.putfield 37, 3) := by decide +kernel
theorem dX2_meanSize_16 : decode cX2_meanSize 16 = .ok (.aload_n 0, 1) := by decide +kernel
theorem dX2_meanSize_17 : decode cX2_meanSize 17 = .ok (.getfield 41, 3) := by decide +kernel
theorem dX2_meanSize_20 : decode cX2_meanSize 20 = .ok (.ifCond .ne 7, 3) := by decide +kernel
theorem dX2_meanSize_23 : decode cX2_meanSize 23 = .ok (.dconst 0, 1) := by decide +kernel
theorem dX2_meanSize_24 : decode cX2_meanSize 24 = .ok (.goto 14, 3) := by decide +kernel
theorem dX2_meanSize_27 : decode cX2_meanSize 27 = .ok (.aload_n 0, 1) := by decide +kernel
theorem dX2_meanSize_28 : decode cX2_meanSize 28 = .ok (.getfield 41, 3) := by decide +kernel
theorem dX2_meanSize_31 : decode cX2_meanSize 31 = .ok (.i2d, 1) := by decide +kernel
theorem dX2_meanSize_32 : decode cX2_meanSize 32 = .ok (.aload_n 0, 1) := by decide +kernel
theorem dX2_meanSize_33 : decode cX2_meanSize 33 = .ok (.invokevirtual 115, 3) := by decide +kernel
theorem dX2_meanSize_36 : decode cX2_meanSize 36 = .ok (.i2d, 1) := by decide +kernel
theorem dX2_meanSize_37 : decode cX2_meanSize 37 = .ok (.ddiv, 1) := by decide +kernel
theorem dX2_meanSize_38 : decode cX2_meanSize 38 = .ok (.dreturn, 1) := by decide +kernel
end
section
set_option maxHeartbeats 4000000 in
set_option maxRecDepth 100000 in
theorem kX2_in (l : Launch) (v : Int32) (lo : Int32) (hi : Int32) : Met l yX2_in wsX2_in ({ frames := 0, cells := 0, slots := 0, locals := 0 }) (PcS [.int (v), .int (lo), .int (hi)]) (vp_Si (fun r => r = (bI (s_in v lo hi)))) 0 0 (fun _ => False) := by
  refine Met.ofW (cc := cX2_in) (maxL := 3) (ret := (some .boolean)) (by decide) rfl ?_
  intro p e s m args below meth c s₁ BL hml hv
  obtain ⟨rfl, -⟩ := hv
  have hx := BL.exec
  have hb := BL.bytes
  have hr := BL.returns
  have hts := atoms_spec (ws := wsX2_in) BL.pre
  have hown : s.vm.findClass RX2 = some m.cls := findClass_of_methodNamed BL.named
  have hlocks := BL.notSynchronized
  have hl := lv_entry ([.int (v), .int (lo), .int (hi)]) (n := 3) (Nat.le_of_ble_eq_true rfl)
  rw [lg_entry_eq]
  generalize (lg_sl ([.int (v), .int (lo), .int (hi)]) ++ List.replicate (3 - (lg_sl ([.int (v), .int (lo), .int (hi)])).length) Slot.unset).toArray = ls at hl ⊢
  have hl : lv_has ls 3 [(0, .int (v)), (1, .int (lo)), (2, .int (hi))] := hl
  refine lv_iload_n hx hb dX2_in_0 rfl (lv_at hl 0 rfl) ?_
  refine lv_iload_n hx hb dX2_in_1 rfl (lv_at hl 1 rfl) ?_
  refine lv_icmp_lt (tgt := 14) hx hb dX2_in_2 (by decide) (fun c_1 => ?_) (fun c_1 => ?_)
  · refine lv_iconst (v := (nI (0))) hx hb dX2_in_14 (by decide +kernel) ?_
    exact W.zret (v := (nI (0))) hx hb hr (by decide +kernel) (fun t ht hW => ⟨_, rfl, by first | rfl | (simp [oI_s, bI_t, bI_f, s_in, c_1]; done) | (simp [oI_s, bI_t, bI_f, s_in, c_1]; omega), ht⟩) (fun _ h => nomatch h) dX2_in_15
  refine lv_iload_n hx hb dX2_in_5 rfl (lv_at hl 0 rfl) ?_
  refine lv_iload_n hx hb dX2_in_6 rfl (lv_at hl 2 rfl) ?_
  refine lv_icmp_gt (tgt := 14) hx hb dX2_in_7 (by decide) (fun c_2 => ?_) (fun c_2 => ?_)
  · refine lv_iconst (v := (nI (0))) hx hb dX2_in_14 (by decide +kernel) ?_
    exact W.zret (v := (nI (0))) hx hb hr (by decide +kernel) (fun t ht hW => ⟨_, rfl, by first | rfl | (simp [oI_s, bI_t, bI_f, s_in, c_1, c_2]; done) | (simp [oI_s, bI_t, bI_f, s_in, c_1, c_2]; omega), ht⟩) (fun _ h => nomatch h) dX2_in_15
  refine lv_iconst (v := (nI (1))) hx hb dX2_in_10 (by decide +kernel) ?_
  refine lv_goto (tgt := 15) hx hb dX2_in_11 (by decide) ?_
  exact W.zret (v := (nI (1))) hx hb hr (by decide +kernel) (fun t ht hW => ⟨_, rfl, by first | rfl | (simp [oI_s, bI_t, bI_f, s_in, c_1, c_2]; done) | (simp [oI_s, bI_t, bI_f, s_in, c_1, c_2]; omega), ht⟩) (fun _ h => nomatch h) dX2_in_15
theorem hsX2_in : yX2_in.cls ≠ "java/lang/invoke/MethodHandle" ∧ yX2_in.cls ≠ "java/lang/invoke/VarHandle" ∧ (parseMethodDescriptor yX2_in.desc).map (fun d => d.parameters.length) = some 3 := by decide +kernel
set_option maxHeartbeats 4000000 in
set_option maxRecDepth 100000 in
theorem kX2_isMail (l : Launch) (D : va_G) (cI : ClassId) (ad : Nat → Nat) (th : Nat) (n : Nat) (B : Nat → Nat → Nat) (P : Nat → Option Nat) (bs : Nat → Nat) (v : Int32) (hB : Bok n B) : Met l yX2_isMail wsX2_isMail ({ frames := 1, cells := 0, slots := 0, locals := 22 }) (PcR D [(cI, .int)] (wM cI ad th n B P bs) [.ref (ad 0), .int (v)]) (vp_Si (fun r => r = (bI (s_ism n v)))) 0 0 (fun _ => False) := by
  refine Met.ofW (cc := cX2_isMail) (maxL := 2) (ret := (some .boolean)) (by decide) rfl ?_
  intro p e s m args below meth c s₁ BL hml hv
  obtain ⟨rfl, hP, hK⟩ := hv
  have hx := BL.exec
  have hb := BL.bytes
  have hr := BL.returns
  have hts := atoms_spec (ws := wsX2_isMail) BL.pre
  have hown : s.vm.findClass RX2 = some m.cls := findClass_of_methodNamed BL.named
  have hlocks := BL.notSynchronized
  have hin : ∀ w ∈ wsX20, w ∈ wsX2_isMail := by decide +kernel
  have hf_41 := hts (.fieldLink RX2 41 "TalkRebuilderModel" "mails" "I") (by decide +kernel)
  have hl := lv_entry ([.ref (ad 0), .int (v)]) (n := 2) (Nat.le_of_ble_eq_true rfl)
  rw [lg_entry_eq]
  generalize (lg_sl ([.ref (ad 0), .int (v)]) ++ List.replicate (2 - (lg_sl ([.ref (ad 0), .int (v)])).length) Slot.unset).toArray = ls at hl ⊢
  have hl : lv_has ls 2 [(0, .ref (ad 0)), (1, .int (v))] := hl
  have hn10 := hB.1
  refine lv_iload_n hx hb dX2_isMail_0 rfl (lv_at hl 1 rfl) ?_
  refine lv_iconst (v := (nI (0))) hx hb dX2_isMail_1 (by decide +kernel) ?_
  refine lv_aload_n hx hb dX2_isMail_2 rfl (lv_at hl 0 rfl) ?_
  refine va_get (D := D) (ci := 4) (v := .int (nI (n))) (C := RX2) (T := TX2) (N := 11) hx hb hts hin hown hK hP 0 rfl rfl 1 (by decide) hf_41 (fun _ h9 => h9) rfl dX2_isMail_3 ?_
  refine lv_iconst (v := (nI (1))) hx hb dX2_isMail_6 (by decide +kernel) ?_
  refine lv_isub hx hb dX2_isMail_7 ?_
  refine n_top (y := (nI (n) - 1)) (by rw [nI_one]) ?_
  refine ro_S (As := [.int (v), .int (nI (0)), .int (nI (n) - 1)]) (v := (bI (s_in v (nI (0)) (nI (n) - 1)))) ⟨hx, hb, hml, hown, hts⟩ (kX2_in l (v) (nI (0)) (nI (n) - 1) ) (va_cwS 3 hts gX2_isMail_X2_in rfl rfl rfl hsX2_in ⟨Nat.le_of_ble_eq_true rfl, Nat.le_of_ble_eq_true rfl⟩) rfl hl.1 rfl (Nat.le_of_ble_eq_true rfl) dX2_isMail_8 ⟨Nat.zero_le _, Nat.zero_le _⟩ ?_
  exact W.zret (v := (bI (s_in v (nI (0)) (nI (n) - 1)))) hx hb hr (bI_nar _) (fun t ht hW => ⟨_, rfl, by first | rfl | (simp [oI_s, bI_t, bI_f, s_ism]; done) | (simp [oI_s, bI_t, bI_f, s_ism]; omega), ht⟩) (fun _ h => nomatch h) dX2_isMail_11
theorem hdX2_isMail : yX2_isMail.cls = RX2 ∧ yX2_isMail.cls ≠ "java/lang/invoke/MethodHandle" ∧ yX2_isMail.cls ≠ "java/lang/invoke/VarHandle" ∧ (parseMethodDescriptor yX2_isMail.desc).map (fun d => d.parameters.length) = some 1 := by decide +kernel
set_option maxHeartbeats 4000000 in
set_option maxRecDepth 100000 in
theorem kX2_isLine (l : Launch) (D : va_G) (cI : ClassId) (ad : Nat → Nat) (th : Nat) (n : Nat) (B : Nat → Nat → Nat) (P : Nat → Option Nat) (bs : Nat → Nat) (v : Int32) (w : Int32) (hB : Bok n B) : Met l yX2_isLine wsX2_isLine ({ frames := 2, cells := 0, slots := 0, locals := 43 }) (PcR D [(cI, .int)] (wM cI ad th n B P bs) [.ref (ad 0), .int (v), .int (w)]) (vp_Si (fun r => r = (bI (s_isl n B v w)))) 0 0 (fun _ => False) := by
  refine Met.ofW (cc := cX2_isLine) (maxL := 3) (ret := (some .boolean)) (by decide) rfl ?_
  intro p e s m args below meth c s₁ BL hml hv
  obtain ⟨rfl, hP, hK⟩ := hv
  have hx := BL.exec
  have hb := BL.bytes
  have hr := BL.returns
  have hts := atoms_spec (ws := wsX2_isLine) BL.pre
  have hown : s.vm.findClass RX2 = some m.cls := findClass_of_methodNamed BL.named
  have hlocks := BL.notSynchronized
  have hin : ∀ w ∈ wsX20, w ∈ wsX2_isLine := by decide +kernel
  have hf_22 := hts (.fieldLink RX2 22 "TalkRebuilderModel" "many" "[I") (by decide +kernel)
  have hl := lv_entry ([.ref (ad 0), .int (v), .int (w)]) (n := 3) (Nat.le_of_ble_eq_true rfl)
  rw [lg_entry_eq]
  generalize (lg_sl ([.ref (ad 0), .int (v), .int (w)]) ++ List.replicate (3 - (lg_sl ([.ref (ad 0), .int (v), .int (w)])).length) Slot.unset).toArray = ls at hl ⊢
  have hl : lv_has ls 3 [(0, .ref (ad 0)), (1, .int (v)), (2, .int (w))] := hl
  have hn10 := hB.1
  refine lv_aload_n hx hb dX2_isLine_0 rfl (lv_at hl 0 rfl) ?_
  refine lv_iload_n hx hb dX2_isLine_1 rfl (lv_at hl 1 rfl) ?_
  refine ro_V (As := [.int (v)]) (v := (bI (s_ism n v))) ⟨hx, hb, hml, hown, hts⟩ (kX2_isMail l D cI ad th n B P bs (v) hB) (cwV 1 hts gX2_isLine_X2_isMail rfl rfl rfl hdX2_isMail ⟨Nat.le_of_ble_eq_true rfl, Nat.le_of_ble_eq_true rfl⟩) hK hP (ci := 4) rfl (q0 := 0) rfl rfl rfl hl.1 rfl (Nat.le_of_ble_eq_true rfl) dX2_isLine_2 ⟨Nat.zero_le _, Nat.zero_le _⟩ ?_
  refine y_eq (tgt := 28) hx hb dX2_isLine_5 (by decide) (fun c_1 => ?_) (fun c_1 => ?_)
  · refine lv_iconst (v := (nI (0))) hx hb dX2_isLine_28 (by decide +kernel) ?_
    exact W.zret (v := (nI (0))) hx hb hr (by decide +kernel) (fun t ht hW => ⟨_, rfl, by first | rfl | (simp [oI_s, bI_t, bI_f, s_isl, s_ism, c_1]; done) | (simp [oI_s, bI_t, bI_f, s_isl, s_ism, c_1]; omega), ht⟩) (fun _ h => nomatch h) dX2_isLine_29
  obtain ⟨k1, hk1, rfl⟩ := s_ism_t hB.1 c_1
  refine lv_iload_n hx hb dX2_isLine_8 rfl (lv_at hl 2 rfl) ?_
  refine lv_iconst (v := (nI (0))) hx hb dX2_isLine_9 (by decide +kernel) ?_
  refine lv_aload_n hx hb dX2_isLine_10 rfl (lv_at hl 0 rfl) ?_
  refine va_get (D := D) (ci := 4) (v := .ref (ad 5)) (C := RX2) (T := TX2) (N := 11) hx hb hts hin hown hK hP 0 rfl rfl 6 (by decide) hf_22 (fun _ h9 => h9) rfl dX2_isLine_11 ?_
  refine lv_iload_n hx hb dX2_isLine_14 rfl (lv_at hl 1 rfl) ?_
  refine n_iald hx hb hK hP 5 0 rfl rfl (i := k1) (by omega) (by decide) dX2_isLine_15 ?_
  have hq_2 := hB.2.2.1 k1
  refine lv_iconst (v := (nI (1))) hx hb dX2_isLine_16 (by decide +kernel) ?_
  refine lv_isub hx hb dX2_isLine_17 ?_
  refine n_top (y := (nI (B 4 k1) - 1)) (by rw [nI_one]) ?_
  refine ro_S (As := [.int (w), .int (nI (0)), .int (nI (B 4 k1) - 1)]) (v := (bI (s_in w (nI (0)) (nI (B 4 k1) - 1)))) ⟨hx, hb, hml, hown, hts⟩ (kX2_in l (w) (nI (0)) (nI (B 4 k1) - 1) ) (va_cwS 3 hts gX2_isLine_X2_in rfl rfl rfl hsX2_in ⟨Nat.le_of_ble_eq_true rfl, Nat.le_of_ble_eq_true rfl⟩) rfl hl.1 rfl (Nat.le_of_ble_eq_true rfl) dX2_isLine_18 ⟨Nat.zero_le _, Nat.zero_le _⟩ ?_
  refine y_eq (tgt := 28) hx hb dX2_isLine_21 (by decide) (fun c_3 => ?_) (fun c_3 => ?_)
  · refine lv_iconst (v := (nI (0))) hx hb dX2_isLine_28 (by decide +kernel) ?_
    exact W.zret (v := (nI (0))) hx hb hr (by decide +kernel) (fun t ht hW => ⟨_, rfl, by first | rfl | (simp [oI_s, bI_t, bI_f, s_isl, s_ism, c_1, s_isl_o hB.1 hk1, c_3]; done) | (simp [oI_s, bI_t, bI_f, s_isl, s_ism, c_1, s_isl_o hB.1 hk1, c_3]; omega), ht⟩) (fun _ h => nomatch h) dX2_isLine_29
  refine lv_iconst (v := (nI (1))) hx hb dX2_isLine_24 (by decide +kernel) ?_
  refine lv_goto (tgt := 29) hx hb dX2_isLine_25 (by decide) ?_
  exact W.zret (v := (nI (1))) hx hb hr (by decide +kernel) (fun t ht hW => ⟨_, rfl, by first | rfl | (simp [oI_s, bI_t, bI_f, s_isl, s_ism, c_1, s_isl_o hB.1 hk1, c_3]; done) | (simp [oI_s, bI_t, bI_f, s_isl, s_ism, c_1, s_isl_o hB.1 hk1, c_3]; omega), ht⟩) (fun _ h => nomatch h) dX2_isLine_29
theorem hdX2_isLine : yX2_isLine.cls = RX2 ∧ yX2_isLine.cls ≠ "java/lang/invoke/MethodHandle" ∧ yX2_isLine.cls ≠ "java/lang/invoke/VarHandle" ∧ (parseMethodDescriptor yX2_isLine.desc).map (fun d => d.parameters.length) = some 2 := by decide +kernel
set_option maxHeartbeats 4000000 in
set_option maxRecDepth 100000 in
theorem kX2_dated (l : Launch) (D : va_G) (cI : ClassId) (ad : Nat → Nat) (th : Nat) (n : Nat) (B : Nat → Nat → Nat) (P : Nat → Option Nat) (bs : Nat → Nat) (w : Nat) (hB : Bok n B) (h_w : w ≤ 99) : Met l yX2_dated wsX2_dated ({ frames := 0, cells := 0, slots := 0, locals := 0 }) (PcR D [(cI, .int)] (wM cI ad th n B P bs) [.ref (ad 0), .int (nI (w))]) (vp_Si (fun r => r = (oI (s_dated (B 0) w n)))) 0 0 (fun _ => False) := by
  refine Met.ofW (cc := cX2_dated) (maxL := 4) (ret := (some .int)) (by decide) rfl ?_
  intro p e s m args below meth c s₁ BL hml hv
  obtain ⟨rfl, hP, hK⟩ := hv
  have hx := BL.exec
  have hb := BL.bytes
  have hr := BL.returns
  have hts := atoms_spec (ws := wsX2_dated) BL.pre
  have hown : s.vm.findClass RX2 = some m.cls := findClass_of_methodNamed BL.named
  have hlocks := BL.notSynchronized
  have hin : ∀ w ∈ wsX20, w ∈ wsX2_dated := by decide +kernel
  have hf_7 := hts (.fieldLink RX2 7 "TalkRebuilderModel" "date" "[I") (by decide +kernel)
  have hf_41 := hts (.fieldLink RX2 41 "TalkRebuilderModel" "mails" "I") (by decide +kernel)
  have hl := lv_entry ([.ref (ad 0), .int (nI (w))]) (n := 4) (Nat.le_of_ble_eq_true rfl)
  rw [lg_entry_eq]
  generalize (lg_sl ([.ref (ad 0), .int (nI (w))]) ++ List.replicate (4 - (lg_sl ([.ref (ad 0), .int (nI (w))])).length) Slot.unset).toArray = ls at hl ⊢
  have hl : lv_has ls 4 [(0, .ref (ad 0)), (1, .int (nI (w)))] := hl
  have hn10 := hB.1
  refine lv_iconst (v := (oI (none))) hx hb dX2_dated_0 (by decide +kernel) ?_
  refine lv_istore_n (lv' := [(2, .int (oI (none))), (0, .ref (ad 0)), (1, .int (nI (w)))]) hx hb dX2_dated_1 rfl hl (by decide) rfl (fun ls hl => ?_)
  refine lv_iconst (v := (nI (0))) hx hb dX2_dated_2 (by decide +kernel) ?_
  refine lv_istore_n (lv' := [(3, .int (nI (0))), (2, .int (oI (none))), (0, .ref (ad 0)), (1, .int (nI (w)))]) hx hb dX2_dated_3 rfl hl (by decide) rfl (fun ls hl => ?_)
  have loop_4 : ∀ (N : Nat) (z : Nat), n - z < N → z ≤ n → ∀ (ls : Array Slot), lv_has ls 4 [(0, .ref (ad 0)), (1, .int (nI (w))), (2, .int (oI (s_dated (B 0) w z))), (3, .int (nI (z)))] → W p l e (headSpec wsX2_dated ({ frames := 0, cells := 0, slots := 0, locals := 0 })).room s m ([.ref (ad 0), .int (nI (w))] : List Value).toArray below meth c s.heap [] 0 0 (MQ below (vp_Si (fun r => r = (oI (s_dated (B 0) w n)))) ([.ref (ad 0), .int (nI (w))] : List Value).toArray s 0 0 (fun _ => False)) (F0 m 4 ls []) := by
    intro N
    induction N with
    | zero => intro z hmu; exact absurd hmu (Nat.not_lt_zero _)
    | succ N ih_4 =>
      intro z hmu_4 h_z ls hl
      refine lv_iload_n hx hb dX2_dated_4 rfl (lv_at hl 3 rfl) ?_
      refine lv_aload_n hx hb dX2_dated_5 rfl (lv_at hl 0 rfl) ?_
      refine va_get (D := D) (ci := 4) (v := .int (nI (n))) (C := RX2) (T := TX2) (N := 11) hx hb hts hin hown hK hP 0 rfl rfl 1 (by decide) hf_41 (fun _ h9 => h9) rfl dX2_dated_6 ?_
      refine n_ge (tgt := 34) hx hb (by omega) (by omega) dX2_dated_9 (by decide) (fun c_1 => ?_) (fun c_1 => ?_)
      · have hzn : z = n := by omega
        refine lv_iload_n hx hb dX2_dated_34 rfl (lv_at hl 2 rfl) ?_
        exact W.iret (v := (oI (s_dated (B 0) w z))) hx hb hr (fun t ht hW => ⟨_, rfl, by first | rfl | (simp [oI_s, bI_t, bI_f, c_1, hzn]; done) | (simp [oI_s, bI_t, bI_f, c_1, hzn]; omega), ht⟩) (fun _ h => nomatch h) dX2_dated_35
      refine lv_aload_n hx hb dX2_dated_12 rfl (lv_at hl 0 rfl) ?_
      refine va_get (D := D) (ci := 4) (v := .ref (ad 1)) (C := RX2) (T := TX2) (N := 11) hx hb hts hin hown hK hP 0 rfl rfl 2 (by decide) hf_7 (fun _ h9 => h9) rfl dX2_dated_13 ?_
      refine lv_iload_n hx hb dX2_dated_16 rfl (lv_at hl 3 rfl) ?_
      refine n_iald hx hb hK hP 1 0 rfl rfl (i := z) (by omega) (by decide) dX2_dated_17 ?_
      have hq_2 := hB.2.1 0 z
      refine lv_iload_n hx hb dX2_dated_18 rfl (lv_at hl 1 rfl) ?_
      refine n_ne (tgt := 26) hx hb (by omega) (by omega) dX2_dated_19 (by decide) (fun c_3 => ?_) (fun c_3 => ?_)
      · refine lv_iload_n hx hb dX2_dated_26 rfl (lv_at hl 2 rfl) ?_
        refine lv_istore_n (lv' := [(2, .int (oI (s_dated (B 0) w z))), (0, .ref (ad 0)), (1, .int (nI (w))), (3, .int (nI (z)))]) hx hb dX2_dated_27 rfl hl (by decide) rfl (fun ls hl => ?_)
        refine lv_iinc (v := (nI (z + 1))) (lv' := [(3, .int (nI (z + 1))), (2, .int (oI (s_dated (B 0) w z))), (0, .ref (ad 0)), (1, .int (nI (w)))]) hx hb dX2_dated_28 hl (k := 3) rfl (nI_1 _) (by decide) rfl (fun ls hl => ?_)
        refine lv_goto (tgt := 4) hx hb dX2_dated_31 (by decide) ?_
        have e_4 : ((oI (s_dated (B 0) w z)) : Int32) = (oI (s_dated (B 0) w (z + 1))) := by first | rfl | (simp [oI_s, bI_t, bI_f, s_dated, c_1, c_3]; done) | (simp [oI_s, bI_t, bI_f, s_dated, c_1, c_3]; omega)
        exact ih_4 (z + 1) (by omega) (by omega) _ (show lv_has ls 4 [(0, .ref (ad 0)), (1, .int (nI (w))), (2, .int (oI (s_dated (B 0) w (z + 1)))), (3, .int (nI (z + 1)))] from by rw [← e_4]; exact lv_sub hl [2, 3, 1, 0] rfl)
      refine lv_iload_n hx hb dX2_dated_22 rfl (lv_at hl 3 rfl) ?_
      refine lv_goto (tgt := 27) hx hb dX2_dated_23 (by decide) ?_
      refine lv_istore_n (lv' := [(2, .int (nI (z))), (0, .ref (ad 0)), (1, .int (nI (w))), (3, .int (nI (z)))]) hx hb dX2_dated_27 rfl hl (by decide) rfl (fun ls hl => ?_)
      refine lv_iinc (v := (nI (z + 1))) (lv' := [(3, .int (nI (z + 1))), (2, .int (nI (z))), (0, .ref (ad 0)), (1, .int (nI (w)))]) hx hb dX2_dated_28 hl (k := 3) rfl (nI_1 _) (by decide) rfl (fun ls hl => ?_)
      refine lv_goto (tgt := 4) hx hb dX2_dated_31 (by decide) ?_
      have e_5 : ((nI (z)) : Int32) = (oI (s_dated (B 0) w (z + 1))) := by first | rfl | (simp [oI_s, bI_t, bI_f, s_dated, c_1, c_3]; done) | (simp [oI_s, bI_t, bI_f, s_dated, c_1, c_3]; omega)
      exact ih_4 (z + 1) (by omega) (by omega) _ (show lv_has ls 4 [(0, .ref (ad 0)), (1, .int (nI (w))), (2, .int (oI (s_dated (B 0) w (z + 1)))), (3, .int (nI (z + 1)))] from by rw [← e_5]; exact lv_sub hl [2, 3, 1, 0] rfl)
  have e_6 : ((oI (none)) : Int32) = (oI (s_dated (B 0) w 0)) := by first | rfl | (simp [oI_s, bI_t, bI_f, s_dated]; done) | (simp [oI_s, bI_t, bI_f, s_dated]; omega)
  exact loop_4 (n - 0 + 1) 0 (by omega) (by omega) _ (show lv_has ls 4 [(0, .ref (ad 0)), (1, .int (nI (w))), (2, .int (oI (s_dated (B 0) w 0))), (3, .int (nI (0)))] from by rw [← e_6]; exact lv_sub hl [2, 3, 1, 0] rfl)
theorem hdX2_dated : yX2_dated.cls = RX2 ∧ yX2_dated.cls ≠ "java/lang/invoke/MethodHandle" ∧ yX2_dated.cls ≠ "java/lang/invoke/VarHandle" ∧ (parseMethodDescriptor yX2_dated.desc).map (fun d => d.parameters.length) = some 1 := by decide +kernel
set_option maxHeartbeats 4000000 in
set_option maxRecDepth 100000 in
theorem kX2_parentOf (l : Launch) (D : va_G) (cI : ClassId) (ad : Nat → Nat) (th : Nat) (n : Nat) (B : Nat → Nat → Nat) (P : Nat → Option Nat) (bs : Nat → Nat) (u : Nat) (hB : Bok n B) (h_u : u < n) : Met l yX2_parentOf wsX2_parentOf ({ frames := 1, cells := 0, slots := 0, locals := 23 }) (PcR D [(cI, .int)] (wM cI ad th n B P bs) [.ref (ad 0), .int (nI (u))]) (vp_Si (fun r => r = (oI (s_par n B u)))) 0 0 (fun _ => False) := by
  refine Met.ofW (cc := cX2_parentOf) (maxL := 2) (ret := (some .int)) (by decide) rfl ?_
  intro p e s m args below meth c s₁ BL hml hv
  obtain ⟨rfl, hP, hK⟩ := hv
  have hx := BL.exec
  have hb := BL.bytes
  have hr := BL.returns
  have hts := atoms_spec (ws := wsX2_parentOf) BL.pre
  have hown : s.vm.findClass RX2 = some m.cls := findClass_of_methodNamed BL.named
  have hlocks := BL.notSynchronized
  have hin : ∀ w ∈ wsX20, w ∈ wsX2_parentOf := by decide +kernel
  have hf_19 := hts (.fieldLink RX2 19 "TalkRebuilderModel" "answered" "[I") (by decide +kernel)
  have hl := lv_entry ([.ref (ad 0), .int (nI (u))]) (n := 2) (Nat.le_of_ble_eq_true rfl)
  rw [lg_entry_eq]
  generalize (lg_sl ([.ref (ad 0), .int (nI (u))]) ++ List.replicate (2 - (lg_sl ([.ref (ad 0), .int (nI (u))])).length) Slot.unset).toArray = ls at hl ⊢
  have hl : lv_has ls 2 [(0, .ref (ad 0)), (1, .int (nI (u)))] := hl
  have hn10 := hB.1
  refine lv_aload_n hx hb dX2_parentOf_0 rfl (lv_at hl 0 rfl) ?_
  refine va_get (D := D) (ci := 4) (v := .ref (ad 4)) (C := RX2) (T := TX2) (N := 11) hx hb hts hin hown hK hP 0 rfl rfl 5 (by decide) hf_19 (fun _ h9 => h9) rfl dX2_parentOf_1 ?_
  refine lv_iload_n hx hb dX2_parentOf_4 rfl (lv_at hl 1 rfl) ?_
  refine n_iald hx hb hK hP 4 0 rfl rfl (i := u) (by omega) (by decide) dX2_parentOf_5 ?_
  have hq_1 := hB.2.1 3 u
  refine z_ne (tgt := 13) hx hb (by omega) dX2_parentOf_6 (by decide) (fun c_2 => ?_) (fun c_2 => ?_)
  · refine lv_aload_n hx hb dX2_parentOf_13 rfl (lv_at hl 0 rfl) ?_
    refine lv_aload_n hx hb dX2_parentOf_14 rfl (lv_at hl 0 rfl) ?_
    refine va_get (D := D) (ci := 4) (v := .ref (ad 4)) (C := RX2) (T := TX2) (N := 11) hx hb hts hin hown hK hP 0 rfl rfl 5 (by decide) hf_19 (fun _ h9 => h9) rfl dX2_parentOf_15 ?_
    refine lv_iload_n hx hb dX2_parentOf_18 rfl (lv_at hl 1 rfl) ?_
    refine n_iald hx hb hK hP 4 0 rfl rfl (i := u) (by omega) (by decide) dX2_parentOf_19 ?_
    have hq_3 := hB.2.1 3 u
    refine ro_V (As := [.int (nI (B 3 u))]) (v := (oI (s_dated (B 0) (B 3 u) n))) ⟨hx, hb, hml, hown, hts⟩ (kX2_dated l D cI ad th n B P bs (B 3 u) hB (by omega)) (cwV 1 hts gX2_parentOf_X2_dated rfl rfl rfl hdX2_dated ⟨Nat.le_of_ble_eq_true rfl, Nat.le_of_ble_eq_true rfl⟩) hK hP (ci := 4) rfl (q0 := 0) rfl rfl rfl hl.1 rfl (Nat.le_of_ble_eq_true rfl) dX2_parentOf_20 ⟨Nat.zero_le _, Nat.zero_le _⟩ ?_
    exact W.iret (v := (oI (s_dated (B 0) (B 3 u) n))) hx hb hr (fun t ht hW => ⟨_, rfl, by first | rfl | (simp [oI_s, bI_t, bI_f, s_par, c_2]; done) | (simp [oI_s, bI_t, bI_f, s_par, c_2]; omega), ht⟩) (fun _ h => nomatch h) dX2_parentOf_23
  refine lv_iconst (v := (oI (none))) hx hb dX2_parentOf_9 (by decide +kernel) ?_
  refine lv_goto (tgt := 23) hx hb dX2_parentOf_10 (by decide) ?_
  exact W.iret (v := (oI (none))) hx hb hr (fun t ht hW => ⟨_, rfl, by first | rfl | (simp [oI_s, bI_t, bI_f, s_par, c_2]; done) | (simp [oI_s, bI_t, bI_f, s_par, c_2]; omega), ht⟩) (fun _ h => nomatch h) dX2_parentOf_23
theorem hdX2_parentOf : yX2_parentOf.cls = RX2 ∧ yX2_parentOf.cls ≠ "java/lang/invoke/MethodHandle" ∧ yX2_parentOf.cls ≠ "java/lang/invoke/VarHandle" ∧ (parseMethodDescriptor yX2_parentOf.desc).map (fun d => d.parameters.length) = some 1 := by decide +kernel
set_option maxHeartbeats 4000000 in
set_option maxRecDepth 100000 in
theorem kX2_fits (l : Launch) (D : va_G) (cI : ClassId) (ad : Nat → Nat) (th : Nat) (n : Nat) (B : Nat → Nat → Nat) (P : Nat → Option Nat) (bs : Nat → Nat) (x : Nat) (y : Nat) (hB : Bok n B) (h_x : x < 80) (h_y : y < 80) : Met l yX2_fits wsX2_fits ({ frames := 0, cells := 0, slots := 0, locals := 0 }) (PcR D [(cI, .int)] (wM cI ad th n B P bs) [.ref (ad 0), .int (nI (x)), .int (nI (y))]) (vp_Si (fun r => r = (bI (s_fits B x y)))) 0 0 (fun _ => False) := by
  refine Met.ofW (cc := cX2_fits) (maxL := 3) (ret := (some .boolean)) (by decide) rfl ?_
  intro p e s m args below meth c s₁ BL hml hv
  obtain ⟨rfl, hP, hK⟩ := hv
  have hx := BL.exec
  have hb := BL.bytes
  have hr := BL.returns
  have hts := atoms_spec (ws := wsX2_fits) BL.pre
  have hown : s.vm.findClass RX2 = some m.cls := findClass_of_methodNamed BL.named
  have hlocks := BL.notSynchronized
  have hin : ∀ w ∈ wsX20, w ∈ wsX2_fits := by decide +kernel
  have hf_25 := hts (.fieldLink RX2 25 "TalkRebuilderModel" "marks" "[I") (by decide +kernel)
  have hf_28 := hts (.fieldLink RX2 28 "TalkRebuilderModel" "words" "[I") (by decide +kernel)
  have hl := lv_entry ([.ref (ad 0), .int (nI (x)), .int (nI (y))]) (n := 3) (Nat.le_of_ble_eq_true rfl)
  rw [lg_entry_eq]
  generalize (lg_sl ([.ref (ad 0), .int (nI (x)), .int (nI (y))]) ++ List.replicate (3 - (lg_sl ([.ref (ad 0), .int (nI (x)), .int (nI (y))])).length) Slot.unset).toArray = ls at hl ⊢
  have hl : lv_has ls 3 [(0, .ref (ad 0)), (1, .int (nI (x))), (2, .int (nI (y)))] := hl
  have hn10 := hB.1
  refine lv_aload_n hx hb dX2_fits_0 rfl (lv_at hl 0 rfl) ?_
  refine va_get (D := D) (ci := 4) (v := .ref (ad 6)) (C := RX2) (T := TX2) (N := 11) hx hb hts hin hown hK hP 0 rfl rfl 7 (by decide) hf_25 (fun _ h9 => h9) rfl dX2_fits_1 ?_
  refine lv_iload_n hx hb dX2_fits_4 rfl (lv_at hl 1 rfl) ?_
  refine n_iald hx hb hK hP 6 0 rfl rfl (i := x) (by omega) (by decide) dX2_fits_5 ?_
  have hq_1 := hB.2.2.2.2.2.1 x
  refine z_le (tgt := 45) hx hb (by omega) dX2_fits_6 (by decide) (fun c_2 => ?_) (fun c_2 => ?_)
  · refine lv_iconst (v := (nI (0))) hx hb dX2_fits_45 (by decide +kernel) ?_
    exact W.zret (v := (nI (0))) hx hb hr (by decide +kernel) (fun t ht hW => ⟨_, rfl, by first | rfl | (simp [oI_s, bI_t, bI_f, s_fits, c_2]; done) | (simp [oI_s, bI_t, bI_f, s_fits, c_2]; omega), ht⟩) (fun _ h => nomatch h) dX2_fits_46
  refine lv_aload_n hx hb dX2_fits_9 rfl (lv_at hl 0 rfl) ?_
  refine va_get (D := D) (ci := 4) (v := .ref (ad 7)) (C := RX2) (T := TX2) (N := 11) hx hb hts hin hown hK hP 0 rfl rfl 8 (by decide) hf_28 (fun _ h9 => h9) rfl dX2_fits_10 ?_
  refine lv_iload_n hx hb dX2_fits_13 rfl (lv_at hl 1 rfl) ?_
  refine n_iald hx hb hK hP 7 0 rfl rfl (i := x) (by omega) (by decide) dX2_fits_14 ?_
  have hq_3 := hB.2.1 6 x
  refine lv_aload_n hx hb dX2_fits_15 rfl (lv_at hl 0 rfl) ?_
  refine va_get (D := D) (ci := 4) (v := .ref (ad 7)) (C := RX2) (T := TX2) (N := 11) hx hb hts hin hown hK hP 0 rfl rfl 8 (by decide) hf_28 (fun _ h9 => h9) rfl dX2_fits_16 ?_
  refine lv_iload_n hx hb dX2_fits_19 rfl (lv_at hl 2 rfl) ?_
  refine n_iald hx hb hK hP 7 0 rfl rfl (i := y) (by omega) (by decide) dX2_fits_20 ?_
  have hq_4 := hB.2.1 6 y
  refine n_ne (tgt := 45) hx hb (by omega) (by omega) dX2_fits_21 (by decide) (fun c_5 => ?_) (fun c_5 => ?_)
  · refine lv_iconst (v := (nI (0))) hx hb dX2_fits_45 (by decide +kernel) ?_
    exact W.zret (v := (nI (0))) hx hb hr (by decide +kernel) (fun t ht hW => ⟨_, rfl, by first | rfl | (simp [oI_s, bI_t, bI_f, s_fits, c_2, c_5]; done) | (simp [oI_s, bI_t, bI_f, s_fits, c_2, c_5]; omega), ht⟩) (fun _ h => nomatch h) dX2_fits_46
  refine lv_aload_n hx hb dX2_fits_24 rfl (lv_at hl 0 rfl) ?_
  refine va_get (D := D) (ci := 4) (v := .ref (ad 6)) (C := RX2) (T := TX2) (N := 11) hx hb hts hin hown hK hP 0 rfl rfl 7 (by decide) hf_25 (fun _ h9 => h9) rfl dX2_fits_25 ?_
  refine lv_iload_n hx hb dX2_fits_28 rfl (lv_at hl 1 rfl) ?_
  refine n_iald hx hb hK hP 6 0 rfl rfl (i := x) (by omega) (by decide) dX2_fits_29 ?_
  have hq_6 := hB.2.2.2.2.2.1 x
  refine lv_aload_n hx hb dX2_fits_30 rfl (lv_at hl 0 rfl) ?_
  refine va_get (D := D) (ci := 4) (v := .ref (ad 6)) (C := RX2) (T := TX2) (N := 11) hx hb hts hin hown hK hP 0 rfl rfl 7 (by decide) hf_25 (fun _ h9 => h9) rfl dX2_fits_31 ?_
  refine lv_iload_n hx hb dX2_fits_34 rfl (lv_at hl 2 rfl) ?_
  refine n_iald hx hb hK hP 6 0 rfl rfl (i := y) (by omega) (by decide) dX2_fits_35 ?_
  have hq_7 := hB.2.2.2.2.2.1 y
  refine lv_iconst (v := (nI (1))) hx hb dX2_fits_36 (by decide +kernel) ?_
  refine lv_iadd hx hb dX2_fits_37 ?_
  refine n_top (y := (nI (B 5 y + 1))) (nI_add _ _) ?_
  refine n_ne (tgt := 45) hx hb (by omega) (by omega) dX2_fits_38 (by decide) (fun c_8 => ?_) (fun c_8 => ?_)
  · refine lv_iconst (v := (nI (0))) hx hb dX2_fits_45 (by decide +kernel) ?_
    exact W.zret (v := (nI (0))) hx hb hr (by decide +kernel) (fun t ht hW => ⟨_, rfl, by first | rfl | (simp [oI_s, bI_t, bI_f, s_fits, c_2, c_5, c_8]; done) | (simp [oI_s, bI_t, bI_f, s_fits, c_2, c_5, c_8]; omega), ht⟩) (fun _ h => nomatch h) dX2_fits_46
  refine lv_iconst (v := (nI (1))) hx hb dX2_fits_41 (by decide +kernel) ?_
  refine lv_goto (tgt := 46) hx hb dX2_fits_42 (by decide) ?_
  exact W.zret (v := (nI (1))) hx hb hr (by decide +kernel) (fun t ht hW => ⟨_, rfl, by first | rfl | (simp [oI_s, bI_t, bI_f, s_fits, c_2, c_5, c_8]; done) | (simp [oI_s, bI_t, bI_f, s_fits, c_2, c_5, c_8]; omega), ht⟩) (fun _ h => nomatch h) dX2_fits_46
theorem hdX2_fits : yX2_fits.cls = RX2 ∧ yX2_fits.cls ≠ "java/lang/invoke/MethodHandle" ∧ yX2_fits.cls ≠ "java/lang/invoke/VarHandle" ∧ (parseMethodDescriptor yX2_fits.desc).map (fun d => d.parameters.length) = some 2 := by decide +kernel
set_option maxHeartbeats 4000000 in
set_option maxRecDepth 100000 in
theorem kX2_fails (l : Launch) (D : va_G) (cI : ClassId) (ad : Nat → Nat) (th : Nat) (n : Nat) (B : Nat → Nat → Nat) (P : Nat → Option Nat) (bs : Nat → Nat) (sz : Nat) (pl : Nat) : Met l yX2_fails wsX2_fails ({ frames := 0, cells := 0, slots := 0, locals := 0 }) (PcM D [(cI, .int)] (wM cI ad th n B P bs) sz [.ref (ad 0), .int (nI (pl))]) (va_Qi (fun (r : Int32) (u9 : Unit) => r = (nI (0))) (fun (u9 : Unit) t => AtW D [(cI, .int)] (va_A (wM cI ad th n B P bs) sz) (wM cI ad pl n B P bs) t) (va_A (wM cI ad th n B P bs) sz)) 0 0 (va_A (wM cI ad th n B P bs) sz) := by
  refine Met.ofW (cc := cX2_fails) (maxL := 2) (ret := (some .int)) (by decide) rfl ?_
  intro p e s m args below meth c s₁ BL hml hv
  obtain ⟨rfl, hsz, hP, hK, hD0⟩ := hv
  have hx := BL.exec
  have hb := BL.bytes
  have hr := BL.returns
  have hts := atoms_spec (ws := wsX2_fails) BL.pre
  have hown : s.vm.findClass RX2 = some m.cls := findClass_of_methodNamed BL.named
  have hlocks := BL.notSynchronized
  have hin : ∀ w ∈ wsX20, w ∈ wsX2_fails := by decide +kernel
  have hf_37 := hts (.fieldLink RX2 37 "TalkRebuilderModel" "thrown" "I") (by decide +kernel)
  have hl := lv_entry ([.ref (ad 0), .int (nI (pl))]) (n := 2) (Nat.le_of_ble_eq_true rfl)
  rw [lg_entry_eq]
  generalize (lg_sl ([.ref (ad 0), .int (nI (pl))]) ++ List.replicate (2 - (lg_sl ([.ref (ad 0), .int (nI (pl))])).length) Slot.unset).toArray = ls at hl ⊢
  have hl : lv_has ls 2 [(0, .ref (ad 0)), (1, .int (nI (pl)))] := hl
  subst hsz
  have hD := hD0.self (sz := s.heap.size)
  generalize hAe : va_A (wM cI ad th n B P bs) s.heap.size = A at hD ⊢
  have hA : ∀ q : Nat, s.heap.size ≤ q → A q := fun q h => by rw [← hAe]; exact Or.inr h
  have hS : va_S A s.heap s.heap [] := va_S.rf
  have hP : va_P D vwCl (wM cI ad th n B P bs) s.heap := hP
  have hD : va_D A (wM cI ad th n B P bs) := hD
  refine lv_aload_n hx hb dX2_fails_0 rfl (lv_at hl 0 rfl) ?_
  refine lv_iload_n hx hb dX2_fails_1 rfl (lv_at hl 1 rfl) ?_
  refine va_put (D := D) (ci := 4) (v := .int (nI (pl))) (ty := .int) (C := RX2) (T := TX2) (N := 11) hx hb hts hin tyX2 tyX2_ok nmX2 hown hK hP hD hS 0 rfl rfl 0 (by decide) hf_37 (fun _ h9 => h9) rfl (by decide +kernel) rfl rfl (Nat.le_of_ble_eq_true rfl) dX2_fails_2 (fun H locs hP hD hS => ?_)
  have hP : va_P D vwCl (wM cI ad pl n B P bs) H := hP
  have hD : va_D A (wM cI ad pl n B P bs) := hD
  refine lv_iconst (v := (nI (0))) hx hb dX2_fails_5 (by decide +kernel) ?_
  exact W.iret (v := (nI (0))) hx hb hr (fun t ht hW => ⟨⟨_, (), rfl, rfl, by rw [ht]; exact hP, va_K.moved hW.alike hK, hD⟩, hS.F ht⟩) hS.2.2 dX2_fails_6
theorem hdX2_fails : yX2_fails.cls = RX2 ∧ yX2_fails.cls ≠ "java/lang/invoke/MethodHandle" ∧ yX2_fails.cls ≠ "java/lang/invoke/VarHandle" ∧ (parseMethodDescriptor yX2_fails.desc).map (fun d => d.parameters.length) = some 1 := by decide +kernel
set_option maxHeartbeats 4000000 in
set_option maxRecDepth 100000 in
theorem kX2_tells (l : Launch) (D : va_G) (cI : ClassId) (ad : Nat → Nat) (th : Nat) (n : Nat) (B : Nat → Nat → Nat) (P : Nat → Option Nat) (bs : Nat → Nat) (sz : Nat) (v : Int32) : Met l yX2_tells wsX2_tells ({ frames := 0, cells := 0, slots := 0, locals := 0 }) (PcM D [(cI, .int)] (wM cI ad th n B P bs) sz [.ref (ad 0), .int (v)]) (va_Qi (fun (r : Int32) (u9 : Unit) => r = (v)) (fun (u9 : Unit) t => AtW D [(cI, .int)] (va_A (wM cI ad th n B P bs) sz) (wM cI ad 0 n B P bs) t) (va_A (wM cI ad th n B P bs) sz)) 0 0 (va_A (wM cI ad th n B P bs) sz) := by
  refine Met.ofW (cc := cX2_tells) (maxL := 2) (ret := (some .int)) (by decide) rfl ?_
  intro p e s m args below meth c s₁ BL hml hv
  obtain ⟨rfl, hsz, hP, hK, hD0⟩ := hv
  have hx := BL.exec
  have hb := BL.bytes
  have hr := BL.returns
  have hts := atoms_spec (ws := wsX2_tells) BL.pre
  have hown : s.vm.findClass RX2 = some m.cls := findClass_of_methodNamed BL.named
  have hlocks := BL.notSynchronized
  have hin : ∀ w ∈ wsX20, w ∈ wsX2_tells := by decide +kernel
  have hf_37 := hts (.fieldLink RX2 37 "TalkRebuilderModel" "thrown" "I") (by decide +kernel)
  have hl := lv_entry ([.ref (ad 0), .int (v)]) (n := 2) (Nat.le_of_ble_eq_true rfl)
  rw [lg_entry_eq]
  generalize (lg_sl ([.ref (ad 0), .int (v)]) ++ List.replicate (2 - (lg_sl ([.ref (ad 0), .int (v)])).length) Slot.unset).toArray = ls at hl ⊢
  have hl : lv_has ls 2 [(0, .ref (ad 0)), (1, .int (v))] := hl
  subst hsz
  have hD := hD0.self (sz := s.heap.size)
  generalize hAe : va_A (wM cI ad th n B P bs) s.heap.size = A at hD ⊢
  have hA : ∀ q : Nat, s.heap.size ≤ q → A q := fun q h => by rw [← hAe]; exact Or.inr h
  have hS : va_S A s.heap s.heap [] := va_S.rf
  have hP : va_P D vwCl (wM cI ad th n B P bs) s.heap := hP
  have hD : va_D A (wM cI ad th n B P bs) := hD
  refine lv_aload_n hx hb dX2_tells_0 rfl (lv_at hl 0 rfl) ?_
  refine lv_iconst (v := (nI (0))) hx hb dX2_tells_1 (by decide +kernel) ?_
  refine va_put (D := D) (ci := 4) (v := .int (nI (0))) (ty := .int) (C := RX2) (T := TX2) (N := 11) hx hb hts hin tyX2 tyX2_ok nmX2 hown hK hP hD hS 0 rfl rfl 0 (by decide) hf_37 (fun _ h9 => h9) rfl (by decide +kernel) rfl rfl (Nat.le_of_ble_eq_true rfl) dX2_tells_2 (fun H locs hP hD hS => ?_)
  have hP : va_P D vwCl (wM cI ad 0 n B P bs) H := hP
  have hD : va_D A (wM cI ad 0 n B P bs) := hD
  refine lv_iload_n hx hb dX2_tells_5 rfl (lv_at hl 1 rfl) ?_
  exact W.iret (v := (v)) hx hb hr (fun t ht hW => ⟨⟨_, (), rfl, rfl, by rw [ht]; exact hP, va_K.moved hW.alike hK, hD⟩, hS.F ht⟩) hS.2.2 dX2_tells_6
theorem hdX2_tells : yX2_tells.cls = RX2 ∧ yX2_tells.cls ≠ "java/lang/invoke/MethodHandle" ∧ yX2_tells.cls ≠ "java/lang/invoke/VarHandle" ∧ (parseMethodDescriptor yX2_tells.desc).map (fun d => d.parameters.length) = some 1 := by decide +kernel
set_option maxHeartbeats 4000000 in
set_option maxRecDepth 100000 in
theorem kX2_thrown (l : Launch) (D : va_G) (cI : ClassId) (ad : Nat → Nat) (th : Nat) (n : Nat) (B : Nat → Nat → Nat) (P : Nat → Option Nat) (bs : Nat → Nat) : Met l yX2_thrown wsX2_thrown ({ frames := 0, cells := 0, slots := 0, locals := 0 }) (PcR D [(cI, .int)] (wM cI ad th n B P bs) [.ref (ad 0)]) (vp_Si (fun r => r = (nI (th)))) 0 0 (fun _ => False) := by
  refine Met.ofW (cc := cX2_thrown) (maxL := 1) (ret := (some .int)) (by decide) rfl ?_
  intro p e s m args below meth c s₁ BL hml hv
  obtain ⟨rfl, hP, hK⟩ := hv
  have hx := BL.exec
  have hb := BL.bytes
  have hr := BL.returns
  have hts := atoms_spec (ws := wsX2_thrown) BL.pre
  have hown : s.vm.findClass RX2 = some m.cls := findClass_of_methodNamed BL.named
  have hlocks := BL.notSynchronized
  have hin : ∀ w ∈ wsX20, w ∈ wsX2_thrown := by decide +kernel
  have hf_37 := hts (.fieldLink RX2 37 "TalkRebuilderModel" "thrown" "I") (by decide +kernel)
  have hl := lv_entry ([.ref (ad 0)]) (n := 1) (Nat.le_of_ble_eq_true rfl)
  rw [lg_entry_eq]
  generalize (lg_sl ([.ref (ad 0)]) ++ List.replicate (1 - (lg_sl ([.ref (ad 0)])).length) Slot.unset).toArray = ls at hl ⊢
  have hl : lv_has ls 1 [(0, .ref (ad 0))] := hl
  refine lv_aload_n hx hb dX2_thrown_0 rfl (lv_at hl 0 rfl) ?_
  refine va_get (D := D) (ci := 4) (v := .int (nI (th))) (C := RX2) (T := TX2) (N := 11) hx hb hts hin hown hK hP 0 rfl rfl 0 (by decide) hf_37 (fun _ h9 => h9) rfl dX2_thrown_1 ?_
  exact W.iret (v := (nI (th))) hx hb hr (fun t ht hW => ⟨_, rfl, rfl, ht⟩) (fun _ h => nomatch h) dX2_thrown_4
theorem hdX2_thrown : yX2_thrown.cls = RX2 ∧ yX2_thrown.cls ≠ "java/lang/invoke/MethodHandle" ∧ yX2_thrown.cls ≠ "java/lang/invoke/VarHandle" ∧ (parseMethodDescriptor yX2_thrown.desc).map (fun d => d.parameters.length) = some 0 := by decide +kernel
set_option maxHeartbeats 4000000 in
set_option maxRecDepth 100000 in
theorem kX2_mails (l : Launch) (D : va_G) (cI : ClassId) (ad : Nat → Nat) (th : Nat) (n : Nat) (B : Nat → Nat → Nat) (P : Nat → Option Nat) (bs : Nat → Nat) (sz : Nat) : Met l yX2_mails wsX2_mails ({ frames := 1, cells := 0, slots := 0, locals := 21 }) (PcM D [(cI, .int)] (wM cI ad th n B P bs) sz [.ref (ad 0)]) (va_Qi (fun (r : Int32) (u9 : Unit) => r = (nI (n))) (fun (u9 : Unit) t => AtW D [(cI, .int)] (va_A (wM cI ad th n B P bs) sz) (wM cI ad 0 n B P bs) t) (va_A (wM cI ad th n B P bs) sz)) 0 0 (va_A (wM cI ad th n B P bs) sz) := by
  refine Met.ofW (cc := cX2_mails) (maxL := 1) (ret := (some .int)) (by decide) rfl ?_
  intro p e s m args below meth c s₁ BL hml hv
  obtain ⟨rfl, hsz, hP, hK, hD0⟩ := hv
  have hx := BL.exec
  have hb := BL.bytes
  have hr := BL.returns
  have hts := atoms_spec (ws := wsX2_mails) BL.pre
  have hown : s.vm.findClass RX2 = some m.cls := findClass_of_methodNamed BL.named
  have hlocks := BL.notSynchronized
  have hin : ∀ w ∈ wsX20, w ∈ wsX2_mails := by decide +kernel
  have hf_41 := hts (.fieldLink RX2 41 "TalkRebuilderModel" "mails" "I") (by decide +kernel)
  have hl := lv_entry ([.ref (ad 0)]) (n := 1) (Nat.le_of_ble_eq_true rfl)
  rw [lg_entry_eq]
  generalize (lg_sl ([.ref (ad 0)]) ++ List.replicate (1 - (lg_sl ([.ref (ad 0)])).length) Slot.unset).toArray = ls at hl ⊢
  have hl : lv_has ls 1 [(0, .ref (ad 0))] := hl
  subst hsz
  have hD := hD0.self (sz := s.heap.size)
  generalize hAe : va_A (wM cI ad th n B P bs) s.heap.size = A at hD ⊢
  have hA : ∀ q : Nat, s.heap.size ≤ q → A q := fun q h => by rw [← hAe]; exact Or.inr h
  have hS : va_S A s.heap s.heap [] := va_S.rf
  have hP : va_P D vwCl (wM cI ad th n B P bs) s.heap := hP
  have hD : va_D A (wM cI ad th n B P bs) := hD
  refine lv_aload_n hx hb dX2_mails_0 rfl (lv_at hl 0 rfl) ?_
  refine lv_aload_n hx hb dX2_mails_1 rfl (lv_at hl 0 rfl) ?_
  refine va_get (D := D) (ci := 4) (v := .int (nI (n))) (C := RX2) (T := TX2) (N := 11) hx hb hts hin hown hK hP 0 rfl rfl 1 (by decide) hf_41 (fun _ h9 => h9) rfl dX2_mails_2 ?_
  refine mo_V (wr := []) (As := [.int (nI (n))]) ⟨hx, hb, hml, hown, hts⟩ (kX2_tells l D cI ad th n B P bs s.heap.size (nI (n)) ) (cwV 1 hts gX2_mails_X2_tells rfl rfl rfl hdX2_tells ⟨Nat.le_of_ble_eq_true rfl, Nat.le_of_ble_eq_true rfl⟩) hK hP hD hS hA (ci := 4) rfl (q0 := 0) rfl rfl rfl hl.1 rfl (Nat.le_of_ble_eq_true rfl) dX2_mails_5 ⟨Nat.zero_le _, Nat.zero_le _⟩ (fun r_1 (u9 : Unit) H locs hw_1 hP hD hS => ?_)
  subst hw_1
  have hP : va_P D vwCl (wM cI ad 0 n B P bs) H := hP
  have hD : va_D A (wM cI ad 0 n B P bs) := hD
  exact W.iret (v := (nI (n))) hx hb hr (fun t ht hW => ⟨⟨_, (), rfl, rfl, by rw [ht]; exact hP, va_K.moved hW.alike hK, hD⟩, hS.F ht⟩) hS.2.2 dX2_mails_8
theorem hdX2_mails : yX2_mails.cls = RX2 ∧ yX2_mails.cls ≠ "java/lang/invoke/MethodHandle" ∧ yX2_mails.cls ≠ "java/lang/invoke/VarHandle" ∧ (parseMethodDescriptor yX2_mails.desc).map (fun d => d.parameters.length) = some 0 := by decide +kernel
set_option maxHeartbeats 4000000 in
set_option maxRecDepth 100000 in
theorem kX2_lines (l : Launch) (D : va_G) (cI : ClassId) (ad : Nat → Nat) (th : Nat) (n : Nat) (B : Nat → Nat → Nat) (P : Nat → Option Nat) (bs : Nat → Nat) (sz : Nat) (u : Int32) (hB : Bok n B) : Met l yX2_lines wsX2_lines ({ frames := 2, cells := 0, slots := 0, locals := 43 }) (PcM D [(cI, .int)] (wM cI ad th n B P bs) sz [.ref (ad 0), .int (u)]) (va_Qi (fun (r : Int32) (u9 : Unit) => r = (nI ((s_lines n B u).2))) (fun (u9 : Unit) t => AtW D [(cI, .int)] (va_A (wM cI ad th n B P bs) sz) (wM cI ad ((s_lines n B u).1) n B P bs) t) (va_A (wM cI ad th n B P bs) sz)) 0 0 (va_A (wM cI ad th n B P bs) sz) := by
  refine Met.ofW (cc := cX2_lines) (maxL := 2) (ret := (some .int)) (by decide) rfl ?_
  intro p e s m args below meth c s₁ BL hml hv
  obtain ⟨rfl, hsz, hP, hK, hD0⟩ := hv
  have hx := BL.exec
  have hb := BL.bytes
  have hr := BL.returns
  have hts := atoms_spec (ws := wsX2_lines) BL.pre
  have hown : s.vm.findClass RX2 = some m.cls := findClass_of_methodNamed BL.named
  have hlocks := BL.notSynchronized
  have hin : ∀ w ∈ wsX20, w ∈ wsX2_lines := by decide +kernel
  have hf_22 := hts (.fieldLink RX2 22 "TalkRebuilderModel" "many" "[I") (by decide +kernel)
  have hl := lv_entry ([.ref (ad 0), .int (u)]) (n := 2) (Nat.le_of_ble_eq_true rfl)
  rw [lg_entry_eq]
  generalize (lg_sl ([.ref (ad 0), .int (u)]) ++ List.replicate (2 - (lg_sl ([.ref (ad 0), .int (u)])).length) Slot.unset).toArray = ls at hl ⊢
  have hl : lv_has ls 2 [(0, .ref (ad 0)), (1, .int (u))] := hl
  subst hsz
  have hD := hD0.self (sz := s.heap.size)
  generalize hAe : va_A (wM cI ad th n B P bs) s.heap.size = A at hD ⊢
  have hA : ∀ q : Nat, s.heap.size ≤ q → A q := fun q h => by rw [← hAe]; exact Or.inr h
  have hS : va_S A s.heap s.heap [] := va_S.rf
  have hP : va_P D vwCl (wM cI ad th n B P bs) s.heap := hP
  have hD : va_D A (wM cI ad th n B P bs) := hD
  have hn10 := hB.1
  refine lv_aload_n hx hb dX2_lines_0 rfl (lv_at hl 0 rfl) ?_
  refine lv_iload_n hx hb dX2_lines_1 rfl (lv_at hl 1 rfl) ?_
  refine ro_V (As := [.int (u)]) (v := (bI (s_ism n u))) ⟨hx, hb, hml, hown, hts⟩ (kX2_isMail l D cI ad th n B P bs (u) hB) (cwV 1 hts gX2_lines_X2_isMail rfl rfl rfl hdX2_isMail ⟨Nat.le_of_ble_eq_true rfl, Nat.le_of_ble_eq_true rfl⟩) hK hP (ci := 4) rfl (q0 := 0) rfl rfl rfl hl.1 rfl (Nat.le_of_ble_eq_true rfl) dX2_lines_2 ⟨Nat.zero_le _, Nat.zero_le _⟩ ?_
  refine y_eq (tgt := 21) hx hb dX2_lines_5 (by decide) (fun c_1 => ?_) (fun c_1 => ?_)
  · refine lv_aload_n hx hb dX2_lines_21 rfl (lv_at hl 0 rfl) ?_
    refine lv_iconst (v := (nI (1))) hx hb dX2_lines_22 (by decide +kernel) ?_
    refine mo_V (wr := []) (As := [.int (nI (1))]) ⟨hx, hb, hml, hown, hts⟩ (kX2_fails l D cI ad th n B P bs s.heap.size 1 ) (cwV 1 hts gX2_lines_X2_fails rfl rfl rfl hdX2_fails ⟨Nat.le_of_ble_eq_true rfl, Nat.le_of_ble_eq_true rfl⟩) hK hP hD hS hA (ci := 4) rfl (q0 := 0) rfl rfl rfl hl.1 rfl (Nat.le_of_ble_eq_true rfl) dX2_lines_23 ⟨Nat.zero_le _, Nat.zero_le _⟩ (fun r_2 (u9 : Unit) H locs hw_2 hP hD hS => ?_)
    subst hw_2
    have hP : va_P D vwCl (wM cI ad 1 n B P bs) H := hP
    have hD : va_D A (wM cI ad 1 n B P bs) := hD
    have ew_3 : 1 = ((s_lines n B u).1) := by first | rfl | (simp [oI_s, bI_t, bI_f, s_lines, c_1]; done) | (simp [oI_s, bI_t, bI_f, s_lines, c_1]; omega)
    have hP : va_P D vwCl (wM cI ad ((s_lines n B u).1) n B P bs) H := by rw [← ew_3]; exact hP
    have hD : va_D A (wM cI ad ((s_lines n B u).1) n B P bs) := by rw [← ew_3]; exact hD
    exact W.iret (v := (nI (0))) hx hb hr (fun t ht hW => ⟨⟨_, (), rfl, (by first | rfl | (simp [oI_s, bI_t, bI_f, s_lines, c_1]; done) | (simp [oI_s, bI_t, bI_f, s_lines, c_1]; omega)), by rw [ht]; exact hP, va_K.moved hW.alike hK, hD⟩, hS.F ht⟩) hS.2.2 dX2_lines_26
  obtain ⟨k_u, hk_u, rfl⟩ := s_ism_t hB.1 c_1
  have hc_k_u : (nI k_u).toNatClampNeg = k_u := nI_clamp (by omega)
  refine lv_aload_n hx hb dX2_lines_8 rfl (lv_at hl 0 rfl) ?_
  refine lv_aload_n hx hb dX2_lines_9 rfl (lv_at hl 0 rfl) ?_
  refine va_get (D := D) (ci := 4) (v := .ref (ad 5)) (C := RX2) (T := TX2) (N := 11) hx hb hts hin hown hK hP 0 rfl rfl 6 (by decide) hf_22 (fun _ h9 => h9) rfl dX2_lines_10 ?_
  refine lv_iload_n hx hb dX2_lines_13 rfl (lv_at hl 1 rfl) ?_
  refine n_iald hx hb hK hP 5 0 rfl rfl (i := k_u) (by omega) (by decide) dX2_lines_14 ?_
  have hq_4 := hB.2.2.1 k_u
  refine mo_V (wr := []) (As := [.int (nI (B 4 k_u))]) ⟨hx, hb, hml, hown, hts⟩ (kX2_tells l D cI ad th n B P bs s.heap.size (nI (B 4 k_u)) ) (cwV 1 hts gX2_lines_X2_tells rfl rfl rfl hdX2_tells ⟨Nat.le_of_ble_eq_true rfl, Nat.le_of_ble_eq_true rfl⟩) hK hP hD hS hA (ci := 4) rfl (q0 := 0) rfl rfl rfl hl.1 rfl (Nat.le_of_ble_eq_true rfl) dX2_lines_15 ⟨Nat.zero_le _, Nat.zero_le _⟩ (fun r_5 (u9 : Unit) H locs hw_5 hP hD hS => ?_)
  subst hw_5
  have hP : va_P D vwCl (wM cI ad 0 n B P bs) H := hP
  have hD : va_D A (wM cI ad 0 n B P bs) := hD
  refine lv_goto (tgt := 26) hx hb dX2_lines_18 (by decide) ?_
  have ew_6 : 0 = ((s_lines n B (nI k_u)).1) := by first | rfl | (simp [oI_s, bI_t, bI_f, s_lines, c_1, hc_k_u]; done) | (simp [oI_s, bI_t, bI_f, s_lines, c_1, hc_k_u]; omega)
  have hP : va_P D vwCl (wM cI ad ((s_lines n B (nI k_u)).1) n B P bs) H := by rw [← ew_6]; exact hP
  have hD : va_D A (wM cI ad ((s_lines n B (nI k_u)).1) n B P bs) := by rw [← ew_6]; exact hD
  exact W.iret (v := (nI (B 4 k_u))) hx hb hr (fun t ht hW => ⟨⟨_, (), rfl, (by first | rfl | (simp [oI_s, bI_t, bI_f, s_lines, c_1, hc_k_u]; done) | (simp [oI_s, bI_t, bI_f, s_lines, c_1, hc_k_u]; omega)), by rw [ht]; exact hP, va_K.moved hW.alike hK, hD⟩, hS.F ht⟩) hS.2.2 dX2_lines_26
theorem hdX2_lines : yX2_lines.cls = RX2 ∧ yX2_lines.cls ≠ "java/lang/invoke/MethodHandle" ∧ yX2_lines.cls ≠ "java/lang/invoke/VarHandle" ∧ (parseMethodDescriptor yX2_lines.desc).map (fun d => d.parameters.length) = some 1 := by decide +kernel
set_option maxHeartbeats 4000000 in
set_option maxRecDepth 100000 in
theorem kX2_word (l : Launch) (D : va_G) (cI : ClassId) (ad : Nat → Nat) (th : Nat) (n : Nat) (B : Nat → Nat → Nat) (P : Nat → Option Nat) (bs : Nat → Nat) (sz : Nat) (u : Int32) (w : Int32) (hB : Bok n B) : Met l yX2_word wsX2_word ({ frames := 3, cells := 0, slots := 0, locals := 65 }) (PcM D [(cI, .int)] (wM cI ad th n B P bs) sz [.ref (ad 0), .int (u), .int (w)]) (va_Qi (fun (r : Int32) (u9 : Unit) => r = (nI ((s_word n B u w).2))) (fun (u9 : Unit) t => AtW D [(cI, .int)] (va_A (wM cI ad th n B P bs) sz) (wM cI ad ((s_word n B u w).1) n B P bs) t) (va_A (wM cI ad th n B P bs) sz)) 0 0 (va_A (wM cI ad th n B P bs) sz) := by
  refine Met.ofW (cc := cX2_word) (maxL := 3) (ret := (some .int)) (by decide) rfl ?_
  intro p e s m args below meth c s₁ BL hml hv
  obtain ⟨rfl, hsz, hP, hK, hD0⟩ := hv
  have hx := BL.exec
  have hb := BL.bytes
  have hr := BL.returns
  have hts := atoms_spec (ws := wsX2_word) BL.pre
  have hown : s.vm.findClass RX2 = some m.cls := findClass_of_methodNamed BL.named
  have hlocks := BL.notSynchronized
  have hin : ∀ w ∈ wsX20, w ∈ wsX2_word := by decide +kernel
  have hf_28 := hts (.fieldLink RX2 28 "TalkRebuilderModel" "words" "[I") (by decide +kernel)
  have hl := lv_entry ([.ref (ad 0), .int (u), .int (w)]) (n := 3) (Nat.le_of_ble_eq_true rfl)
  rw [lg_entry_eq]
  generalize (lg_sl ([.ref (ad 0), .int (u), .int (w)]) ++ List.replicate (3 - (lg_sl ([.ref (ad 0), .int (u), .int (w)])).length) Slot.unset).toArray = ls at hl ⊢
  have hl : lv_has ls 3 [(0, .ref (ad 0)), (1, .int (u)), (2, .int (w))] := hl
  subst hsz
  have hD := hD0.self (sz := s.heap.size)
  generalize hAe : va_A (wM cI ad th n B P bs) s.heap.size = A at hD ⊢
  have hA : ∀ q : Nat, s.heap.size ≤ q → A q := fun q h => by rw [← hAe]; exact Or.inr h
  have hS : va_S A s.heap s.heap [] := va_S.rf
  have hP : va_P D vwCl (wM cI ad th n B P bs) s.heap := hP
  have hD : va_D A (wM cI ad th n B P bs) := hD
  have hn10 := hB.1
  refine lv_aload_n hx hb dX2_word_0 rfl (lv_at hl 0 rfl) ?_
  refine lv_iload_n hx hb dX2_word_1 rfl (lv_at hl 1 rfl) ?_
  refine lv_iload_n hx hb dX2_word_2 rfl (lv_at hl 2 rfl) ?_
  refine ro_V (As := [.int (u), .int (w)]) (v := (bI (s_isl n B u w))) ⟨hx, hb, hml, hown, hts⟩ (kX2_isLine l D cI ad th n B P bs (u) (w) hB) (cwV 2 hts gX2_word_X2_isLine rfl rfl rfl hdX2_isLine ⟨Nat.le_of_ble_eq_true rfl, Nat.le_of_ble_eq_true rfl⟩) hK hP (ci := 4) rfl (q0 := 0) rfl rfl rfl hl.1 rfl (Nat.le_of_ble_eq_true rfl) dX2_word_3 ⟨Nat.zero_le _, Nat.zero_le _⟩ ?_
  refine y_eq (tgt := 27) hx hb dX2_word_6 (by decide) (fun c_1 => ?_) (fun c_1 => ?_)
  · refine lv_aload_n hx hb dX2_word_27 rfl (lv_at hl 0 rfl) ?_
    refine lv_iconst (v := (nI (1))) hx hb dX2_word_28 (by decide +kernel) ?_
    refine mo_V (wr := []) (As := [.int (nI (1))]) ⟨hx, hb, hml, hown, hts⟩ (kX2_fails l D cI ad th n B P bs s.heap.size 1 ) (cwV 1 hts gX2_word_X2_fails rfl rfl rfl hdX2_fails ⟨Nat.le_of_ble_eq_true rfl, Nat.le_of_ble_eq_true rfl⟩) hK hP hD hS hA (ci := 4) rfl (q0 := 0) rfl rfl rfl hl.1 rfl (Nat.le_of_ble_eq_true rfl) dX2_word_29 ⟨Nat.zero_le _, Nat.zero_le _⟩ (fun r_2 (u9 : Unit) H locs hw_2 hP hD hS => ?_)
    subst hw_2
    have hP : va_P D vwCl (wM cI ad 1 n B P bs) H := hP
    have hD : va_D A (wM cI ad 1 n B P bs) := hD
    have ew_3 : 1 = ((s_word n B u w).1) := by first | rfl | (simp [oI_s, bI_t, bI_f, s_word, c_1]; done) | (simp [oI_s, bI_t, bI_f, s_word, c_1]; omega)
    have hP : va_P D vwCl (wM cI ad ((s_word n B u w).1) n B P bs) H := by rw [← ew_3]; exact hP
    have hD : va_D A (wM cI ad ((s_word n B u w).1) n B P bs) := by rw [← ew_3]; exact hD
    exact W.iret (v := (nI (0))) hx hb hr (fun t ht hW => ⟨⟨_, (), rfl, (by first | rfl | (simp [oI_s, bI_t, bI_f, s_word, c_1]; done) | (simp [oI_s, bI_t, bI_f, s_word, c_1]; omega)), by rw [ht]; exact hP, va_K.moved hW.alike hK, hD⟩, hS.F ht⟩) hS.2.2 dX2_word_32
  obtain ⟨k_u, k_w, hk_u, hk_w, rfl, rfl⟩ := s_isl_t hB c_1
  have h8_u := hB.2.2.1 k_u
  have hc_k_u : (nI k_u).toNatClampNeg = k_u := nI_clamp (by omega)
  have hc_k_w : (nI k_w).toNatClampNeg = k_w := nI_clamp (by omega)
  refine lv_aload_n hx hb dX2_word_9 rfl (lv_at hl 0 rfl) ?_
  refine lv_aload_n hx hb dX2_word_10 rfl (lv_at hl 0 rfl) ?_
  refine va_get (D := D) (ci := 4) (v := .ref (ad 7)) (C := RX2) (T := TX2) (N := 11) hx hb hts hin hown hK hP 0 rfl rfl 8 (by decide) hf_28 (fun _ h9 => h9) rfl dX2_word_11 ?_
  refine lv_bipush (v := (nI (8))) hx hb dX2_word_14 (by decide +kernel) ?_
  refine lv_iload_n hx hb dX2_word_16 rfl (lv_at hl 1 rfl) ?_
  refine lv_imul hx hb dX2_word_17 ?_
  refine n_top (y := (nI (8 * k_u))) (pk_mul _ _) ?_
  refine lv_iload_n hx hb dX2_word_18 rfl (lv_at hl 2 rfl) ?_
  refine lv_iadd hx hb dX2_word_19 ?_
  refine n_top (y := (nI (8 * k_u + k_w))) (nI_add _ _) ?_
  refine n_iald hx hb hK hP 7 0 rfl rfl (i := 8 * k_u + k_w) (by omega) (by decide) dX2_word_20 ?_
  have hq_4 := hB.2.1 6 (8 * k_u + k_w)
  refine mo_V (wr := []) (As := [.int (nI (B 6 (8 * k_u + k_w)))]) ⟨hx, hb, hml, hown, hts⟩ (kX2_tells l D cI ad th n B P bs s.heap.size (nI (B 6 (8 * k_u + k_w))) ) (cwV 1 hts gX2_word_X2_tells rfl rfl rfl hdX2_tells ⟨Nat.le_of_ble_eq_true rfl, Nat.le_of_ble_eq_true rfl⟩) hK hP hD hS hA (ci := 4) rfl (q0 := 0) rfl rfl rfl hl.1 rfl (Nat.le_of_ble_eq_true rfl) dX2_word_21 ⟨Nat.zero_le _, Nat.zero_le _⟩ (fun r_5 (u9 : Unit) H locs hw_5 hP hD hS => ?_)
  subst hw_5
  have hP : va_P D vwCl (wM cI ad 0 n B P bs) H := hP
  have hD : va_D A (wM cI ad 0 n B P bs) := hD
  refine lv_goto (tgt := 32) hx hb dX2_word_24 (by decide) ?_
  have ew_6 : 0 = ((s_word n B (nI k_u) (nI k_w)).1) := by first | rfl | (simp [oI_s, bI_t, bI_f, s_word, c_1, hc_k_u, hc_k_w]; done) | (simp [oI_s, bI_t, bI_f, s_word, c_1, hc_k_u, hc_k_w]; omega)
  have hP : va_P D vwCl (wM cI ad ((s_word n B (nI k_u) (nI k_w)).1) n B P bs) H := by rw [← ew_6]; exact hP
  have hD : va_D A (wM cI ad ((s_word n B (nI k_u) (nI k_w)).1) n B P bs) := by rw [← ew_6]; exact hD
  exact W.iret (v := (nI (B 6 (8 * k_u + k_w)))) hx hb hr (fun t ht hW => ⟨⟨_, (), rfl, (by first | rfl | (simp [oI_s, bI_t, bI_f, s_word, c_1, hc_k_u, hc_k_w]; done) | (simp [oI_s, bI_t, bI_f, s_word, c_1, hc_k_u, hc_k_w]; omega)), by rw [ht]; exact hP, va_K.moved hW.alike hK, hD⟩, hS.F ht⟩) hS.2.2 dX2_word_32
theorem hdX2_word : yX2_word.cls = RX2 ∧ yX2_word.cls ≠ "java/lang/invoke/MethodHandle" ∧ yX2_word.cls ≠ "java/lang/invoke/VarHandle" ∧ (parseMethodDescriptor yX2_word.desc).map (fun d => d.parameters.length) = some 2 := by decide +kernel
set_option maxHeartbeats 4000000 in
set_option maxRecDepth 100000 in
theorem kX2_parent (l : Launch) (D : va_G) (cI : ClassId) (ad : Nat → Nat) (th : Nat) (n : Nat) (B : Nat → Nat → Nat) (P : Nat → Option Nat) (bs : Nat → Nat) (sz : Nat) (u : Int32) (hB : Bok n B) : Met l yX2_parent wsX2_parent ({ frames := 2, cells := 0, slots := 0, locals := 44 }) (PcM D [(cI, .int)] (wM cI ad th n B P bs) sz [.ref (ad 0), .int (u)]) (va_Qi (fun (r : Int32) (u9 : Unit) => r = (nI ((s_parent n B u).2))) (fun (u9 : Unit) t => AtW D [(cI, .int)] (va_A (wM cI ad th n B P bs) sz) (wM cI ad ((s_parent n B u).1) n B P bs) t) (va_A (wM cI ad th n B P bs) sz)) 0 0 (va_A (wM cI ad th n B P bs) sz) := by
  refine Met.ofW (cc := cX2_parent) (maxL := 2) (ret := (some .int)) (by decide) rfl ?_
  intro p e s m args below meth c s₁ BL hml hv
  obtain ⟨rfl, hsz, hP, hK, hD0⟩ := hv
  have hx := BL.exec
  have hb := BL.bytes
  have hr := BL.returns
  have hts := atoms_spec (ws := wsX2_parent) BL.pre
  have hown : s.vm.findClass RX2 = some m.cls := findClass_of_methodNamed BL.named
  have hlocks := BL.notSynchronized
  have hl := lv_entry ([.ref (ad 0), .int (u)]) (n := 2) (Nat.le_of_ble_eq_true rfl)
  rw [lg_entry_eq]
  generalize (lg_sl ([.ref (ad 0), .int (u)]) ++ List.replicate (2 - (lg_sl ([.ref (ad 0), .int (u)])).length) Slot.unset).toArray = ls at hl ⊢
  have hl : lv_has ls 2 [(0, .ref (ad 0)), (1, .int (u))] := hl
  subst hsz
  have hD := hD0.self (sz := s.heap.size)
  generalize hAe : va_A (wM cI ad th n B P bs) s.heap.size = A at hD ⊢
  have hA : ∀ q : Nat, s.heap.size ≤ q → A q := fun q h => by rw [← hAe]; exact Or.inr h
  have hS : va_S A s.heap s.heap [] := va_S.rf
  have hP : va_P D vwCl (wM cI ad th n B P bs) s.heap := hP
  have hD : va_D A (wM cI ad th n B P bs) := hD
  have hn10 := hB.1
  refine lv_aload_n hx hb dX2_parent_0 rfl (lv_at hl 0 rfl) ?_
  refine lv_iload_n hx hb dX2_parent_1 rfl (lv_at hl 1 rfl) ?_
  refine ro_V (As := [.int (u)]) (v := (bI (s_ism n u))) ⟨hx, hb, hml, hown, hts⟩ (kX2_isMail l D cI ad th n B P bs (u) hB) (cwV 1 hts gX2_parent_X2_isMail rfl rfl rfl hdX2_isMail ⟨Nat.le_of_ble_eq_true rfl, Nat.le_of_ble_eq_true rfl⟩) hK hP (ci := 4) rfl (q0 := 0) rfl rfl rfl hl.1 rfl (Nat.le_of_ble_eq_true rfl) dX2_parent_2 ⟨Nat.zero_le _, Nat.zero_le _⟩ ?_
  refine y_ne (tgt := 14) hx hb dX2_parent_5 (by decide) (fun c_1 => ?_) (fun c_1 => ?_)
  · obtain ⟨k_u, hk_u, rfl⟩ := s_ism_t hB.1 c_1
    have hc_k_u : (nI k_u).toNatClampNeg = k_u := nI_clamp (by omega)
    refine lv_aload_n hx hb dX2_parent_14 rfl (lv_at hl 0 rfl) ?_
    refine lv_iload_n hx hb dX2_parent_15 rfl (lv_at hl 1 rfl) ?_
    refine ro_V (As := [.int (nI (k_u))]) (v := (oI (s_par n B k_u))) ⟨hx, hb, hml, hown, hts⟩ (kX2_parentOf l D cI ad th n B P bs k_u hB (by omega)) (cwV 1 hts gX2_parent_X2_parentOf rfl rfl rfl hdX2_parentOf ⟨Nat.le_of_ble_eq_true rfl, Nat.le_of_ble_eq_true rfl⟩) hK hP (ci := 4) rfl (q0 := 0) rfl rfl rfl hl.1 rfl (Nat.le_of_ble_eq_true rfl) dX2_parent_16 ⟨Nat.zero_le _, Nat.zero_le _⟩ ?_
    refine lv_iconst (v := (oI (none))) hx hb dX2_parent_19 (by decide +kernel) ?_
    refine o_ne (tgt := 31) hx hb (s_par_b hB.1) dX2_parent_20 (by decide) (fun kc_2 c_2 => ?_) (fun c_2 => ?_)
    · refine lv_aload_n hx hb dX2_parent_31 rfl (lv_at hl 0 rfl) ?_
      refine lv_aload_n hx hb dX2_parent_32 rfl (lv_at hl 0 rfl) ?_
      refine lv_iload_n hx hb dX2_parent_33 rfl (lv_at hl 1 rfl) ?_
      refine ro_V (As := [.int (nI (k_u))]) (v := (oI (s_par n B k_u))) ⟨hx, hb, hml, hown, hts⟩ (kX2_parentOf l D cI ad th n B P bs k_u hB (by omega)) (cwV 1 hts gX2_parent_X2_parentOf rfl rfl rfl hdX2_parentOf ⟨Nat.le_of_ble_eq_true rfl, Nat.le_of_ble_eq_true rfl⟩) hK hP (ci := 4) rfl (q0 := 0) rfl rfl rfl hl.1 rfl (Nat.le_of_ble_eq_true rfl) dX2_parent_34 ⟨Nat.zero_le _, Nat.zero_le _⟩ ?_
      refine mo_V (wr := []) (As := [.int (oI (s_par n B k_u))]) ⟨hx, hb, hml, hown, hts⟩ (kX2_tells l D cI ad th n B P bs s.heap.size (oI (s_par n B k_u)) ) (cwV 1 hts gX2_parent_X2_tells rfl rfl rfl hdX2_tells ⟨Nat.le_of_ble_eq_true rfl, Nat.le_of_ble_eq_true rfl⟩) hK hP hD hS hA (ci := 4) rfl (q0 := 0) rfl rfl rfl hl.1 rfl (Nat.le_of_ble_eq_true rfl) dX2_parent_37 ⟨Nat.zero_le _, Nat.zero_le _⟩ (fun r_3 (u9 : Unit) H locs hw_3 hP hD hS => ?_)
      subst hw_3
      have hP : va_P D vwCl (wM cI ad 0 n B P bs) H := hP
      have hD : va_D A (wM cI ad 0 n B P bs) := hD
      have ew_4 : 0 = ((s_parent n B (nI k_u)).1) := by first | rfl | (simp [oI_s, bI_t, bI_f, s_parent, s_ocode, c_1, hc_k_u, c_2]; done) | (simp [oI_s, bI_t, bI_f, s_parent, s_ocode, c_1, hc_k_u, c_2]; omega)
      have hP : va_P D vwCl (wM cI ad ((s_parent n B (nI k_u)).1) n B P bs) H := by rw [← ew_4]; exact hP
      have hD : va_D A (wM cI ad ((s_parent n B (nI k_u)).1) n B P bs) := by rw [← ew_4]; exact hD
      exact W.iret (v := (oI (s_par n B k_u))) hx hb hr (fun t ht hW => ⟨⟨_, (), rfl, (by first | rfl | (simp [oI_s, bI_t, bI_f, s_parent, s_ocode, c_1, hc_k_u, c_2]; done) | (simp [oI_s, bI_t, bI_f, s_parent, s_ocode, c_1, hc_k_u, c_2]; omega)), by rw [ht]; exact hP, va_K.moved hW.alike hK, hD⟩, hS.F ht⟩) hS.2.2 dX2_parent_40
    refine lv_aload_n hx hb dX2_parent_23 rfl (lv_at hl 0 rfl) ?_
    refine lv_iconst (v := (nI (2))) hx hb dX2_parent_24 (by decide +kernel) ?_
    refine mo_V (wr := []) (As := [.int (nI (2))]) ⟨hx, hb, hml, hown, hts⟩ (kX2_fails l D cI ad th n B P bs s.heap.size 2 ) (cwV 1 hts gX2_parent_X2_fails rfl rfl rfl hdX2_fails ⟨Nat.le_of_ble_eq_true rfl, Nat.le_of_ble_eq_true rfl⟩) hK hP hD hS hA (ci := 4) rfl (q0 := 0) rfl rfl rfl hl.1 rfl (Nat.le_of_ble_eq_true rfl) dX2_parent_25 ⟨Nat.zero_le _, Nat.zero_le _⟩ (fun r_5 (u9 : Unit) H locs hw_5 hP hD hS => ?_)
    subst hw_5
    have hP : va_P D vwCl (wM cI ad 2 n B P bs) H := hP
    have hD : va_D A (wM cI ad 2 n B P bs) := hD
    refine lv_goto (tgt := 40) hx hb dX2_parent_28 (by decide) ?_
    have ew_6 : 2 = ((s_parent n B (nI k_u)).1) := by first | rfl | (simp [oI_s, bI_t, bI_f, s_parent, s_ocode, c_1, hc_k_u, c_2]; done) | (simp [oI_s, bI_t, bI_f, s_parent, s_ocode, c_1, hc_k_u, c_2]; omega)
    have hP : va_P D vwCl (wM cI ad ((s_parent n B (nI k_u)).1) n B P bs) H := by rw [← ew_6]; exact hP
    have hD : va_D A (wM cI ad ((s_parent n B (nI k_u)).1) n B P bs) := by rw [← ew_6]; exact hD
    exact W.iret (v := (nI (0))) hx hb hr (fun t ht hW => ⟨⟨_, (), rfl, (by first | rfl | (simp [oI_s, bI_t, bI_f, s_parent, s_ocode, c_1, hc_k_u, c_2]; done) | (simp [oI_s, bI_t, bI_f, s_parent, s_ocode, c_1, hc_k_u, c_2]; omega)), by rw [ht]; exact hP, va_K.moved hW.alike hK, hD⟩, hS.F ht⟩) hS.2.2 dX2_parent_40
  refine lv_aload_n hx hb dX2_parent_8 rfl (lv_at hl 0 rfl) ?_
  refine lv_iconst (v := (nI (1))) hx hb dX2_parent_9 (by decide +kernel) ?_
  refine mo_V (wr := []) (As := [.int (nI (1))]) ⟨hx, hb, hml, hown, hts⟩ (kX2_fails l D cI ad th n B P bs s.heap.size 1 ) (cwV 1 hts gX2_parent_X2_fails rfl rfl rfl hdX2_fails ⟨Nat.le_of_ble_eq_true rfl, Nat.le_of_ble_eq_true rfl⟩) hK hP hD hS hA (ci := 4) rfl (q0 := 0) rfl rfl rfl hl.1 rfl (Nat.le_of_ble_eq_true rfl) dX2_parent_10 ⟨Nat.zero_le _, Nat.zero_le _⟩ (fun r_7 (u9 : Unit) H locs hw_7 hP hD hS => ?_)
  subst hw_7
  have hP : va_P D vwCl (wM cI ad 1 n B P bs) H := hP
  have hD : va_D A (wM cI ad 1 n B P bs) := hD
  have ew_8 : 1 = ((s_parent n B u).1) := by first | rfl | (simp [oI_s, bI_t, bI_f, s_parent, s_ocode, c_1]; done) | (simp [oI_s, bI_t, bI_f, s_parent, s_ocode, c_1]; omega)
  have hP : va_P D vwCl (wM cI ad ((s_parent n B u).1) n B P bs) H := by rw [← ew_8]; exact hP
  have hD : va_D A (wM cI ad ((s_parent n B u).1) n B P bs) := by rw [← ew_8]; exact hD
  exact W.iret (v := (nI (0))) hx hb hr (fun t ht hW => ⟨⟨_, (), rfl, (by first | rfl | (simp [oI_s, bI_t, bI_f, s_parent, s_ocode, c_1]; done) | (simp [oI_s, bI_t, bI_f, s_parent, s_ocode, c_1]; omega)), by rw [ht]; exact hP, va_K.moved hW.alike hK, hD⟩, hS.F ht⟩) hS.2.2 dX2_parent_13
theorem hdX2_parent : yX2_parent.cls = RX2 ∧ yX2_parent.cls ≠ "java/lang/invoke/MethodHandle" ∧ yX2_parent.cls ≠ "java/lang/invoke/VarHandle" ∧ (parseMethodDescriptor yX2_parent.desc).map (fun d => d.parameters.length) = some 1 := by decide +kernel
end
