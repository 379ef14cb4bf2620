section
-- ===== PART A: goes FIRST, ahead of the names: the tables' words, and 'selects' of the private methods out of them =====
/-- a private method of a class that the tables say can be made, by its rows of tables_1 -/
def lw_okq (q : MethodName × Nat) : Prop := (q.1.cls ≠ "java/lang/invoke/MethodHandle" ∧ q.1.cls ≠ "java/lang/invoke/VarHandle") ∧ Cond.instantiable q.1.cls q.2 ∈ tables_1 ∧ Cond.privateMethod q.1 ∈ tables_1 ∧ Cond.instanceMethod q.1 ∈ tables_1
theorem lw_p0 : lw_okq (⟨"java/lang/Throwable", "fillInStackTrace", "(I)Ljava/lang/Throwable;"⟩, 6) := ⟨⟨by decide +kernel, by decide +kernel⟩, List.mem_of_getElem? (i := 304) (by decide +kernel), List.mem_of_getElem? (i := 302) (by decide +kernel), List.mem_of_getElem? (i := 303) (by decide +kernel)⟩
theorem lw_p1 : lw_okq (⟨"FramedTalk", "hearRequest", "(I)V"⟩, 10) := ⟨⟨by decide +kernel, by decide +kernel⟩, List.mem_of_getElem? (i := 23) (by decide +kernel), List.mem_of_getElem? (i := 344) (by decide +kernel), List.mem_of_getElem? (i := 345) (by decide +kernel)⟩
theorem lw_p2 : lw_okq (⟨"FramedTalk$Request", "isLineEnd", "(I)Z"⟩, 4) := ⟨⟨by decide +kernel, by decide +kernel⟩, List.mem_of_getElem? (i := 31) (by decide +kernel), List.mem_of_getElem? (i := 358) (by decide +kernel), List.mem_of_getElem? (i := 359) (by decide +kernel)⟩
theorem lw_p3 : lw_okq (⟨"FramedTalk$Request", "readLines", "()Z"⟩, 4) := ⟨⟨by decide +kernel, by decide +kernel⟩, List.mem_of_getElem? (i := 31) (by decide +kernel), List.mem_of_getElem? (i := 370) (by decide +kernel), List.mem_of_getElem? (i := 371) (by decide +kernel)⟩
theorem lw_p4 : lw_okq (⟨"FramedTalk$Request", "isFirstLine", "(I)Z"⟩, 4) := ⟨⟨by decide +kernel, by decide +kernel⟩, List.mem_of_getElem? (i := 31) (by decide +kernel), List.mem_of_getElem? (i := 374) (by decide +kernel), List.mem_of_getElem? (i := 375) (by decide +kernel)⟩
theorem lw_p5 : lw_okq (⟨"FramedTalk$Request", "isExactly", "(ILjava/lang/String;)Z"⟩, 4) := ⟨⟨by decide +kernel, by decide +kernel⟩, List.mem_of_getElem? (i := 31) (by decide +kernel), List.mem_of_getElem? (i := 379) (by decide +kernel), List.mem_of_getElem? (i := 380) (by decide +kernel)⟩
theorem lw_p6 : lw_okq (⟨"FramedTalk$Request", "allWithin", "(III)Z"⟩, 4) := ⟨⟨by decide +kernel, by decide +kernel⟩, List.mem_of_getElem? (i := 31) (by decide +kernel), List.mem_of_getElem? (i := 432) (by decide +kernel), List.mem_of_getElem? (i := 433) (by decide +kernel)⟩
theorem lw_p7 : lw_okq (⟨"FramedTalk$Request", "readField", "(II)Z"⟩, 4) := ⟨⟨by decide +kernel, by decide +kernel⟩, List.mem_of_getElem? (i := 31) (by decide +kernel), List.mem_of_getElem? (i := 436) (by decide +kernel), List.mem_of_getElem? (i := 437) (by decide +kernel)⟩
theorem lw_p8 : lw_okq (⟨"FramedTalk$Request", "nameNumber", "(II)I"⟩, 4) := ⟨⟨by decide +kernel, by decide +kernel⟩, List.mem_of_getElem? (i := 31) (by decide +kernel), List.mem_of_getElem? (i := 446) (by decide +kernel), List.mem_of_getElem? (i := 447) (by decide +kernel)⟩
theorem lw_p9 : lw_okq (⟨"FramedTalk$Request", "isSame", "(IILjava/lang/String;)Z"⟩, 4) := ⟨⟨by decide +kernel, by decide +kernel⟩, List.mem_of_getElem? (i := 31) (by decide +kernel), List.mem_of_getElem? (i := 451) (by decide +kernel), List.mem_of_getElem? (i := 452) (by decide +kernel)⟩
theorem lw_p10 : lw_okq (⟨"FramedTalk$Request", "keepField", "(III)V"⟩, 4) := ⟨⟨by decide +kernel, by decide +kernel⟩, List.mem_of_getElem? (i := 31) (by decide +kernel), List.mem_of_getElem? (i := 462) (by decide +kernel), List.mem_of_getElem? (i := 463) (by decide +kernel)⟩
theorem lw_p11 : lw_okq (⟨"FramedTalk$Request", "skipBlanks", "(II)I"⟩, 4) := ⟨⟨by decide +kernel, by decide +kernel⟩, List.mem_of_getElem? (i := 31) (by decide +kernel), List.mem_of_getElem? (i := 466) (by decide +kernel), List.mem_of_getElem? (i := 467) (by decide +kernel)⟩
theorem lw_p12 : lw_okq (⟨"FramedTalk$Request", "skipBlanksBack", "(II)I"⟩, 4) := ⟨⟨by decide +kernel, by decide +kernel⟩, List.mem_of_getElem? (i := 31) (by decide +kernel), List.mem_of_getElem? (i := 473) (by decide +kernel), List.mem_of_getElem? (i := 474) (by decide +kernel)⟩
theorem lw_p13 : lw_okq (⟨"FramedTalk$Request", "hasDueFields", "()Z"⟩, 4) := ⟨⟨by decide +kernel, by decide +kernel⟩, List.mem_of_getElem? (i := 31) (by decide +kernel), List.mem_of_getElem? (i := 477) (by decide +kernel), List.mem_of_getElem? (i := 478) (by decide +kernel)⟩
theorem lw_p14 : lw_okq (⟨"FramedTalk$Request", "hasWord", "(ILjava/lang/String;)Z"⟩, 4) := ⟨⟨by decide +kernel, by decide +kernel⟩, List.mem_of_getElem? (i := 31) (by decide +kernel), List.mem_of_getElem? (i := 482) (by decide +kernel), List.mem_of_getElem? (i := 483) (by decide +kernel)⟩
theorem lw_p15 : lw_okq (⟨"FramedTalk$Request", "isKey", "(II)Z"⟩, 4) := ⟨⟨by decide +kernel, by decide +kernel⟩, List.mem_of_getElem? (i := 31) (by decide +kernel), List.mem_of_getElem? (i := 486) (by decide +kernel), List.mem_of_getElem? (i := 487) (by decide +kernel)⟩
def lw_privs_1 : List (MethodName × Nat) := [(⟨"java/lang/Throwable", "fillInStackTrace", "(I)Ljava/lang/Throwable;"⟩, 6), (⟨"FramedTalk", "hearRequest", "(I)V"⟩, 10), (⟨"FramedTalk$Request", "isLineEnd", "(I)Z"⟩, 4), (⟨"FramedTalk$Request", "readLines", "()Z"⟩, 4), (⟨"FramedTalk$Request", "isFirstLine", "(I)Z"⟩, 4), (⟨"FramedTalk$Request", "isExactly", "(ILjava/lang/String;)Z"⟩, 4), (⟨"FramedTalk$Request", "allWithin", "(III)Z"⟩, 4), (⟨"FramedTalk$Request", "readField", "(II)Z"⟩, 4), (⟨"FramedTalk$Request", "nameNumber", "(II)I"⟩, 4), (⟨"FramedTalk$Request", "isSame", "(IILjava/lang/String;)Z"⟩, 4), (⟨"FramedTalk$Request", "keepField", "(III)V"⟩, 4), (⟨"FramedTalk$Request", "skipBlanks", "(II)I"⟩, 4), (⟨"FramedTalk$Request", "skipBlanksBack", "(II)I"⟩, 4), (⟨"FramedTalk$Request", "hasDueFields", "()Z"⟩, 4), (⟨"FramedTalk$Request", "hasWord", "(ILjava/lang/String;)Z"⟩, 4), (⟨"FramedTalk$Request", "isKey", "(II)Z"⟩, 4)]
theorem lw_r1 : ∀ q ∈ lw_privs_1, lw_okq q := List.forall_mem_cons.mpr ⟨lw_p0, List.forall_mem_cons.mpr ⟨lw_p1, List.forall_mem_cons.mpr ⟨lw_p2, List.forall_mem_cons.mpr ⟨lw_p3, List.forall_mem_cons.mpr ⟨lw_p4, List.forall_mem_cons.mpr ⟨lw_p5, List.forall_mem_cons.mpr ⟨lw_p6, List.forall_mem_cons.mpr ⟨lw_p7, List.forall_mem_cons.mpr ⟨lw_p8, List.forall_mem_cons.mpr ⟨lw_p9, List.forall_mem_cons.mpr ⟨lw_p10, List.forall_mem_cons.mpr ⟨lw_p11, List.forall_mem_cons.mpr ⟨lw_p12, List.forall_mem_cons.mpr ⟨lw_p13, List.forall_mem_cons.mpr ⟨lw_p14, List.forall_mem_cons.mpr ⟨lw_p15, fun _ h => absurd h List.not_mem_nil⟩⟩⟩⟩⟩⟩⟩⟩⟩⟩⟩⟩⟩⟩⟩⟩
theorem lw_p16 : lw_okq (⟨"FramedTalk", "answerRequest", "(I)V"⟩, 10) := ⟨⟨by decide +kernel, by decide +kernel⟩, List.mem_of_getElem? (i := 23) (by decide +kernel), List.mem_of_getElem? (i := 492) (by decide +kernel), List.mem_of_getElem? (i := 493) (by decide +kernel)⟩
theorem lw_p17 : lw_okq (⟨"FramedTalk$Proof", "pad", "()V"⟩, 3) := ⟨⟨by decide +kernel, by decide +kernel⟩, List.mem_of_getElem? (i := 504) (by decide +kernel), List.mem_of_getElem? (i := 538) (by decide +kernel), List.mem_of_getElem? (i := 539) (by decide +kernel)⟩
theorem lw_p18 : lw_okq (⟨"FramedTalk$Proof", "startWords", "()V"⟩, 3) := ⟨⟨by decide +kernel, by decide +kernel⟩, List.mem_of_getElem? (i := 504) (by decide +kernel), List.mem_of_getElem? (i := 544) (by decide +kernel), List.mem_of_getElem? (i := 545) (by decide +kernel)⟩
theorem lw_p19 : lw_okq (⟨"FramedTalk$Proof", "spread", "(I)V"⟩, 3) := ⟨⟨by decide +kernel, by decide +kernel⟩, List.mem_of_getElem? (i := 504) (by decide +kernel), List.mem_of_getElem? (i := 553) (by decide +kernel), List.mem_of_getElem? (i := 554) (by decide +kernel)⟩
theorem lw_p20 : lw_okq (⟨"FramedTalk$Proof", "mix", "()V"⟩, 3) := ⟨⟨by decide +kernel, by decide +kernel⟩, List.mem_of_getElem? (i := 504) (by decide +kernel), List.mem_of_getElem? (i := 561) (by decide +kernel), List.mem_of_getElem? (i := 562) (by decide +kernel)⟩
theorem lw_p21 : lw_okq (⟨"FramedTalk$Proof", "putBase64", "(LFramedTalk$ByteRow;)V"⟩, 3) := ⟨⟨by decide +kernel, by decide +kernel⟩, List.mem_of_getElem? (i := 504) (by decide +kernel), List.mem_of_getElem? (i := 572) (by decide +kernel), List.mem_of_getElem? (i := 573) (by decide +kernel)⟩
theorem lw_p22 : lw_okq (⟨"FramedTalk$Proof", "digestByte", "(I)I"⟩, 3) := ⟨⟨by decide +kernel, by decide +kernel⟩, List.mem_of_getElem? (i := 504) (by decide +kernel), List.mem_of_getElem? (i := 576) (by decide +kernel), List.mem_of_getElem? (i := 577) (by decide +kernel)⟩
theorem lw_p23 : lw_okq (⟨"FramedTalk", "hearFrame", "(I)V"⟩, 10) := ⟨⟨by decide +kernel, by decide +kernel⟩, List.mem_of_getElem? (i := 23) (by decide +kernel), List.mem_of_getElem? (i := 596) (by decide +kernel), List.mem_of_getElem? (i := 597) (by decide +kernel)⟩
theorem lw_p24 : lw_okq (⟨"FramedTalk$Frames", "readPart", "(I)I"⟩, 15) := ⟨⟨by decide +kernel, by decide +kernel⟩, List.mem_of_getElem? (i := 64) (by decide +kernel), List.mem_of_getElem? (i := 604) (by decide +kernel), List.mem_of_getElem? (i := 605) (by decide +kernel)⟩
theorem lw_p25 : lw_okq (⟨"FramedTalk$Frames", "readFirst", "(I)I"⟩, 15) := ⟨⟨by decide +kernel, by decide +kernel⟩, List.mem_of_getElem? (i := 64) (by decide +kernel), List.mem_of_getElem? (i := 608) (by decide +kernel), List.mem_of_getElem? (i := 609) (by decide +kernel)⟩
theorem lw_p26 : lw_okq (⟨"FramedTalk$Frames", "mayComeNow", "()Z"⟩, 15) := ⟨⟨by decide +kernel, by decide +kernel⟩, List.mem_of_getElem? (i := 64) (by decide +kernel), List.mem_of_getElem? (i := 612) (by decide +kernel), List.mem_of_getElem? (i := 613) (by decide +kernel)⟩
theorem lw_p27 : lw_okq (⟨"FramedTalk$Frames", "isShort", "()Z"⟩, 15) := ⟨⟨by decide +kernel, by decide +kernel⟩, List.mem_of_getElem? (i := 64) (by decide +kernel), List.mem_of_getElem? (i := 616) (by decide +kernel), List.mem_of_getElem? (i := 617) (by decide +kernel)⟩
theorem lw_p28 : lw_okq (⟨"FramedTalk$Frames", "beginMessage", "()V"⟩, 15) := ⟨⟨by decide +kernel, by decide +kernel⟩, List.mem_of_getElem? (i := 64) (by decide +kernel), List.mem_of_getElem? (i := 621) (by decide +kernel), List.mem_of_getElem? (i := 622) (by decide +kernel)⟩
theorem lw_p29 : lw_okq (⟨"FramedTalk$Frames", "readSecond", "(I)I"⟩, 15) := ⟨⟨by decide +kernel, by decide +kernel⟩, List.mem_of_getElem? (i := 64) (by decide +kernel), List.mem_of_getElem? (i := 629) (by decide +kernel), List.mem_of_getElem? (i := 630) (by decide +kernel)⟩
theorem lw_p30 : lw_okq (⟨"FramedTalk$Frames", "judgeLength", "()I"⟩, 15) := ⟨⟨by decide +kernel, by decide +kernel⟩, List.mem_of_getElem? (i := 64) (by decide +kernel), List.mem_of_getElem? (i := 633) (by decide +kernel), List.mem_of_getElem? (i := 634) (by decide +kernel)⟩
theorem lw_p31 : lw_okq (⟨"FramedTalk$Frames", "readLength", "(I)I"⟩, 15) := ⟨⟨by decide +kernel, by decide +kernel⟩, List.mem_of_getElem? (i := 64) (by decide +kernel), List.mem_of_getElem? (i := 638) (by decide +kernel), List.mem_of_getElem? (i := 639) (by decide +kernel)⟩
def lw_privs_2 : List (MethodName × Nat) := [(⟨"FramedTalk", "answerRequest", "(I)V"⟩, 10), (⟨"FramedTalk$Proof", "pad", "()V"⟩, 3), (⟨"FramedTalk$Proof", "startWords", "()V"⟩, 3), (⟨"FramedTalk$Proof", "spread", "(I)V"⟩, 3), (⟨"FramedTalk$Proof", "mix", "()V"⟩, 3), (⟨"FramedTalk$Proof", "putBase64", "(LFramedTalk$ByteRow;)V"⟩, 3), (⟨"FramedTalk$Proof", "digestByte", "(I)I"⟩, 3), (⟨"FramedTalk", "hearFrame", "(I)V"⟩, 10), (⟨"FramedTalk$Frames", "readPart", "(I)I"⟩, 15), (⟨"FramedTalk$Frames", "readFirst", "(I)I"⟩, 15), (⟨"FramedTalk$Frames", "mayComeNow", "()Z"⟩, 15), (⟨"FramedTalk$Frames", "isShort", "()Z"⟩, 15), (⟨"FramedTalk$Frames", "beginMessage", "()V"⟩, 15), (⟨"FramedTalk$Frames", "readSecond", "(I)I"⟩, 15), (⟨"FramedTalk$Frames", "judgeLength", "()I"⟩, 15), (⟨"FramedTalk$Frames", "readLength", "(I)I"⟩, 15)]
theorem lw_r2 : ∀ q ∈ lw_privs_2, lw_okq q := List.forall_mem_cons.mpr ⟨lw_p16, List.forall_mem_cons.mpr ⟨lw_p17, List.forall_mem_cons.mpr ⟨lw_p18, List.forall_mem_cons.mpr ⟨lw_p19, List.forall_mem_cons.mpr ⟨lw_p20, List.forall_mem_cons.mpr ⟨lw_p21, List.forall_mem_cons.mpr ⟨lw_p22, List.forall_mem_cons.mpr ⟨lw_p23, List.forall_mem_cons.mpr ⟨lw_p24, List.forall_mem_cons.mpr ⟨lw_p25, List.forall_mem_cons.mpr ⟨lw_p26, List.forall_mem_cons.mpr ⟨lw_p27, List.forall_mem_cons.mpr ⟨lw_p28, List.forall_mem_cons.mpr ⟨lw_p29, List.forall_mem_cons.mpr ⟨lw_p30, List.forall_mem_cons.mpr ⟨lw_p31, fun _ h => absurd h List.not_mem_nil⟩⟩⟩⟩⟩⟩⟩⟩⟩⟩⟩⟩⟩⟩⟩⟩
theorem lw_p32 : lw_okq (⟨"FramedTalk$Frames", "readMask", "(I)I"⟩, 15) := ⟨⟨by decide +kernel, by decide +kernel⟩, List.mem_of_getElem? (i := 64) (by decide +kernel), List.mem_of_getElem? (i := 643) (by decide +kernel), List.mem_of_getElem? (i := 644) (by decide +kernel)⟩
theorem lw_p33 : lw_okq (⟨"FramedTalk$Frames", "readContent", "(I)I"⟩, 15) := ⟨⟨by decide +kernel, by decide +kernel⟩, List.mem_of_getElem? (i := 64) (by decide +kernel), List.mem_of_getElem? (i := 647) (by decide +kernel), List.mem_of_getElem? (i := 648) (by decide +kernel)⟩
theorem lw_p34 : lw_okq (⟨"FramedTalk$TextCheck", "begins", "(I)Z"⟩, 3) := ⟨⟨by decide +kernel, by decide +kernel⟩, List.mem_of_getElem? (i := 72) (by decide +kernel), List.mem_of_getElem? (i := 656) (by decide +kernel), List.mem_of_getElem? (i := 657) (by decide +kernel)⟩
theorem lw_p35 : lw_okq (⟨"FramedTalk$Frames", "judgeFrame", "()I"⟩, 15) := ⟨⟨by decide +kernel, by decide +kernel⟩, List.mem_of_getElem? (i := 64) (by decide +kernel), List.mem_of_getElem? (i := 660) (by decide +kernel), List.mem_of_getElem? (i := 661) (by decide +kernel)⟩
theorem lw_p36 : lw_okq (⟨"FramedTalk$Frames", "judgeClose", "()I"⟩, 15) := ⟨⟨by decide +kernel, by decide +kernel⟩, List.mem_of_getElem? (i := 64) (by decide +kernel), List.mem_of_getElem? (i := 664) (by decide +kernel), List.mem_of_getElem? (i := 665) (by decide +kernel)⟩
theorem lw_p37 : lw_okq (⟨"FramedTalk", "finishFrame", "()V"⟩, 10) := ⟨⟨by decide +kernel, by decide +kernel⟩, List.mem_of_getElem? (i := 23) (by decide +kernel), List.mem_of_getElem? (i := 688) (by decide +kernel), List.mem_of_getElem? (i := 689) (by decide +kernel)⟩
theorem lw_p38 : lw_okq (⟨"FramedTalk", "hearClose", "(LFramedTalk$ByteRow;)V"⟩, 10) := ⟨⟨by decide +kernel, by decide +kernel⟩, List.mem_of_getElem? (i := 23) (by decide +kernel), List.mem_of_getElem? (i := 700) (by decide +kernel), List.mem_of_getElem? (i := 701) (by decide +kernel)⟩
theorem lw_p39 : lw_okq (⟨"FramedTalk", "say", "(ILFramedTalk$ByteRow;II)V"⟩, 10) := ⟨⟨by decide +kernel, by decide +kernel⟩, List.mem_of_getElem? (i := 23) (by decide +kernel), List.mem_of_getElem? (i := 704) (by decide +kernel), List.mem_of_getElem? (i := 705) (by decide +kernel)⟩
theorem lw_p40 : lw_okq (⟨"FramedTalk", "sayHead", "(II)V"⟩, 10) := ⟨⟨by decide +kernel, by decide +kernel⟩, List.mem_of_getElem? (i := 23) (by decide +kernel), List.mem_of_getElem? (i := 708) (by decide +kernel), List.mem_of_getElem? (i := 709) (by decide +kernel)⟩
theorem lw_p41 : lw_okq (⟨"FramedTalk", "endWith", "(I)V"⟩, 10) := ⟨⟨by decide +kernel, by decide +kernel⟩, List.mem_of_getElem? (i := 23) (by decide +kernel), List.mem_of_getElem? (i := 714) (by decide +kernel), List.mem_of_getElem? (i := 715) (by decide +kernel)⟩
theorem lw_p42 : lw_okq (⟨"FramedTalk", "hearPing", "(LFramedTalk$ByteRow;)V"⟩, 10) := ⟨⟨by decide +kernel, by decide +kernel⟩, List.mem_of_getElem? (i := 23) (by decide +kernel), List.mem_of_getElem? (i := 718) (by decide +kernel), List.mem_of_getElem? (i := 719) (by decide +kernel)⟩
theorem lw_p43 : lw_okq (⟨"FramedTalk$Waiting", "placeOf", "(I)I"⟩, 5) := ⟨⟨by decide +kernel, by decide +kernel⟩, List.mem_of_getElem? (i := 134) (by decide +kernel), List.mem_of_getElem? (i := 738) (by decide +kernel), List.mem_of_getElem? (i := 739) (by decide +kernel)⟩
theorem lw_p44 : lw_okq (⟨"FramedTalk", "violate", "(I)V"⟩, 10) := ⟨⟨by decide +kernel, by decide +kernel⟩, List.mem_of_getElem? (i := 23) (by decide +kernel), List.mem_of_getElem? (i := 750) (by decide +kernel), List.mem_of_getElem? (i := 751) (by decide +kernel)⟩
theorem lw_p45 : lw_okq (⟨"FramedTalk", "sayCode", "(I)V"⟩, 10) := ⟨⟨by decide +kernel, by decide +kernel⟩, List.mem_of_getElem? (i := 23) (by decide +kernel), List.mem_of_getElem? (i := 754) (by decide +kernel), List.mem_of_getElem? (i := 755) (by decide +kernel)⟩
theorem lw_p46 : lw_okq (⟨"FramedTalk", "maySay", "(I)Z"⟩, 10) := ⟨⟨by decide +kernel, by decide +kernel⟩, List.mem_of_getElem? (i := 23) (by decide +kernel), List.mem_of_getElem? (i := 858) (by decide +kernel), List.mem_of_getElem? (i := 859) (by decide +kernel)⟩
theorem lw_p47 : lw_okq (⟨"FramedTalk", "sayPieces", "(III)V"⟩, 10) := ⟨⟨by decide +kernel, by decide +kernel⟩, List.mem_of_getElem? (i := 23) (by decide +kernel), List.mem_of_getElem? (i := 862) (by decide +kernel), List.mem_of_getElem? (i := 863) (by decide +kernel)⟩
def lw_privs_3 : List (MethodName × Nat) := [(⟨"FramedTalk$Frames", "readMask", "(I)I"⟩, 15), (⟨"FramedTalk$Frames", "readContent", "(I)I"⟩, 15), (⟨"FramedTalk$TextCheck", "begins", "(I)Z"⟩, 3), (⟨"FramedTalk$Frames", "judgeFrame", "()I"⟩, 15), (⟨"FramedTalk$Frames", "judgeClose", "()I"⟩, 15), (⟨"FramedTalk", "finishFrame", "()V"⟩, 10), (⟨"FramedTalk", "hearClose", "(LFramedTalk$ByteRow;)V"⟩, 10), (⟨"FramedTalk", "say", "(ILFramedTalk$ByteRow;II)V"⟩, 10), (⟨"FramedTalk", "sayHead", "(II)V"⟩, 10), (⟨"FramedTalk", "endWith", "(I)V"⟩, 10), (⟨"FramedTalk", "hearPing", "(LFramedTalk$ByteRow;)V"⟩, 10), (⟨"FramedTalk$Waiting", "placeOf", "(I)I"⟩, 5), (⟨"FramedTalk", "violate", "(I)V"⟩, 10), (⟨"FramedTalk", "sayCode", "(I)V"⟩, 10), (⟨"FramedTalk", "maySay", "(I)Z"⟩, 10), (⟨"FramedTalk", "sayPieces", "(III)V"⟩, 10)]
theorem lw_r3 : ∀ q ∈ lw_privs_3, lw_okq q := List.forall_mem_cons.mpr ⟨lw_p32, List.forall_mem_cons.mpr ⟨lw_p33, List.forall_mem_cons.mpr ⟨lw_p34, List.forall_mem_cons.mpr ⟨lw_p35, List.forall_mem_cons.mpr ⟨lw_p36, List.forall_mem_cons.mpr ⟨lw_p37, List.forall_mem_cons.mpr ⟨lw_p38, List.forall_mem_cons.mpr ⟨lw_p39, List.forall_mem_cons.mpr ⟨lw_p40, List.forall_mem_cons.mpr ⟨lw_p41, List.forall_mem_cons.mpr ⟨lw_p42, List.forall_mem_cons.mpr ⟨lw_p43, List.forall_mem_cons.mpr ⟨lw_p44, List.forall_mem_cons.mpr ⟨lw_p45, List.forall_mem_cons.mpr ⟨lw_p46, List.forall_mem_cons.mpr ⟨lw_p47, fun _ h => absurd h List.not_mem_nil⟩⟩⟩⟩⟩⟩⟩⟩⟩⟩⟩⟩⟩⟩⟩⟩
theorem lw_p48 : lw_okq (⟨"FramedTalkModel", "fail", "(I)I"⟩, 36) := ⟨⟨by decide +kernel, by decide +kernel⟩, List.mem_of_getElem? (i := 884) (by decide +kernel), List.mem_of_getElem? (i := 1007) (by decide +kernel), List.mem_of_getElem? (i := 1008) (by decide +kernel)⟩
theorem lw_p49 : lw_okq (⟨"FramedTalkModel", "come", "(I)V"⟩, 36) := ⟨⟨by decide +kernel, by decide +kernel⟩, List.mem_of_getElem? (i := 884) (by decide +kernel), List.mem_of_getElem? (i := 1012) (by decide +kernel), List.mem_of_getElem? (i := 1013) (by decide +kernel)⟩
theorem lw_p50 : lw_okq (⟨"FramedTalkModel", "ask", "(I)V"⟩, 36) := ⟨⟨by decide +kernel, by decide +kernel⟩, List.mem_of_getElem? (i := 884) (by decide +kernel), List.mem_of_getElem? (i := 1016) (by decide +kernel), List.mem_of_getElem? (i := 1017) (by decide +kernel)⟩
theorem lw_p51 : lw_okq (⟨"FramedTalkModel", "answer", "(Z)V"⟩, 36) := ⟨⟨by decide +kernel, by decide +kernel⟩, List.mem_of_getElem? (i := 884) (by decide +kernel), List.mem_of_getElem? (i := 1020) (by decide +kernel), List.mem_of_getElem? (i := 1021) (by decide +kernel)⟩
theorem lw_p52 : lw_okq (⟨"FramedTalkModel", "isRequest", "(I)Z"⟩, 36) := ⟨⟨by decide +kernel, by decide +kernel⟩, List.mem_of_getElem? (i := 884) (by decide +kernel), List.mem_of_getElem? (i := 1024) (by decide +kernel), List.mem_of_getElem? (i := 1025) (by decide +kernel)⟩
theorem lw_p53 : lw_okq (⟨"FramedTalkModel", "isFirst", "(I)Z"⟩, 36) := ⟨⟨by decide +kernel, by decide +kernel⟩, List.mem_of_getElem? (i := 884) (by decide +kernel), List.mem_of_getElem? (i := 1028) (by decide +kernel), List.mem_of_getElem? (i := 1029) (by decide +kernel)⟩
theorem lw_p54 : lw_okq (⟨"FramedTalkModel", "takeLine", "(II)Z"⟩, 36) := ⟨⟨by decide +kernel, by decide +kernel⟩, List.mem_of_getElem? (i := 884) (by decide +kernel), List.mem_of_getElem? (i := 1032) (by decide +kernel), List.mem_of_getElem? (i := 1033) (by decide +kernel)⟩
theorem lw_p55 : lw_okq (⟨"FramedTalkModel", "isWord", "(III)Z"⟩, 36) := ⟨⟨by decide +kernel, by decide +kernel⟩, List.mem_of_getElem? (i := 884) (by decide +kernel), List.mem_of_getElem? (i := 1045) (by decide +kernel), List.mem_of_getElem? (i := 1046) (by decide +kernel)⟩
theorem lw_p56 : lw_okq (⟨"FramedTalkModel", "begin", "(II)I"⟩, 36) := ⟨⟨by decide +kernel, by decide +kernel⟩, List.mem_of_getElem? (i := 884) (by decide +kernel), List.mem_of_getElem? (i := 1066) (by decide +kernel), List.mem_of_getElem? (i := 1067) (by decide +kernel)⟩
theorem lw_p57 : lw_okq (⟨"FramedTalkModel", "end", "(II)I"⟩, 36) := ⟨⟨by decide +kernel, by decide +kernel⟩, List.mem_of_getElem? (i := 884) (by decide +kernel), List.mem_of_getElem? (i := 1073) (by decide +kernel), List.mem_of_getElem? (i := 1074) (by decide +kernel)⟩
theorem lw_p58 : lw_okq (⟨"FramedTalkModel", "hasWord", "(II)Z"⟩, 36) := ⟨⟨by decide +kernel, by decide +kernel⟩, List.mem_of_getElem? (i := 884) (by decide +kernel), List.mem_of_getElem? (i := 1077) (by decide +kernel), List.mem_of_getElem? (i := 1078) (by decide +kernel)⟩
theorem lw_p59 : lw_okq (⟨"FramedTalkModel", "isKey", "(II)Z"⟩, 36) := ⟨⟨by decide +kernel, by decide +kernel⟩, List.mem_of_getElem? (i := 884) (by decide +kernel), List.mem_of_getElem? (i := 1081) (by decide +kernel), List.mem_of_getElem? (i := 1082) (by decide +kernel)⟩
theorem lw_p60 : lw_okq (⟨"FramedTalkModel", "text", "(J)V"⟩, 36) := ⟨⟨by decide +kernel, by decide +kernel⟩, List.mem_of_getElem? (i := 884) (by decide +kernel), List.mem_of_getElem? (i := 1089) (by decide +kernel), List.mem_of_getElem? (i := 1090) (by decide +kernel)⟩
theorem lw_p61 : lw_okq (⟨"FramedTalkModel", "put", "(I)V"⟩, 36) := ⟨⟨by decide +kernel, by decide +kernel⟩, List.mem_of_getElem? (i := 884) (by decide +kernel), List.mem_of_getElem? (i := 1093) (by decide +kernel), List.mem_of_getElem? (i := 1094) (by decide +kernel)⟩
theorem lw_p62 : lw_okq (⟨"FramedTalkModel", "line", "()V"⟩, 36) := ⟨⟨by decide +kernel, by decide +kernel⟩, List.mem_of_getElem? (i := 884) (by decide +kernel), List.mem_of_getElem? (i := 1099) (by decide +kernel), List.mem_of_getElem? (i := 1100) (by decide +kernel)⟩
theorem lw_p63 : lw_okq (⟨"FramedTalkModel", "proof", "()V"⟩, 36) := ⟨⟨by decide +kernel, by decide +kernel⟩, List.mem_of_getElem? (i := 884) (by decide +kernel), List.mem_of_getElem? (i := 1121) (by decide +kernel), List.mem_of_getElem? (i := 1122) (by decide +kernel)⟩
def lw_privs_4 : List (MethodName × Nat) := [(⟨"FramedTalkModel", "fail", "(I)I"⟩, 36), (⟨"FramedTalkModel", "come", "(I)V"⟩, 36), (⟨"FramedTalkModel", "ask", "(I)V"⟩, 36), (⟨"FramedTalkModel", "answer", "(Z)V"⟩, 36), (⟨"FramedTalkModel", "isRequest", "(I)Z"⟩, 36), (⟨"FramedTalkModel", "isFirst", "(I)Z"⟩, 36), (⟨"FramedTalkModel", "takeLine", "(II)Z"⟩, 36), (⟨"FramedTalkModel", "isWord", "(III)Z"⟩, 36), (⟨"FramedTalkModel", "begin", "(II)I"⟩, 36), (⟨"FramedTalkModel", "end", "(II)I"⟩, 36), (⟨"FramedTalkModel", "hasWord", "(II)Z"⟩, 36), (⟨"FramedTalkModel", "isKey", "(II)Z"⟩, 36), (⟨"FramedTalkModel", "text", "(J)V"⟩, 36), (⟨"FramedTalkModel", "put", "(I)V"⟩, 36), (⟨"FramedTalkModel", "line", "()V"⟩, 36), (⟨"FramedTalkModel", "proof", "()V"⟩, 36)]
theorem lw_r4 : ∀ q ∈ lw_privs_4, lw_okq q := List.forall_mem_cons.mpr ⟨lw_p48, List.forall_mem_cons.mpr ⟨lw_p49, List.forall_mem_cons.mpr ⟨lw_p50, List.forall_mem_cons.mpr ⟨lw_p51, List.forall_mem_cons.mpr ⟨lw_p52, List.forall_mem_cons.mpr ⟨lw_p53, List.forall_mem_cons.mpr ⟨lw_p54, List.forall_mem_cons.mpr ⟨lw_p55, List.forall_mem_cons.mpr ⟨lw_p56, List.forall_mem_cons.mpr ⟨lw_p57, List.forall_mem_cons.mpr ⟨lw_p58, List.forall_mem_cons.mpr ⟨lw_p59, List.forall_mem_cons.mpr ⟨lw_p60, List.forall_mem_cons.mpr ⟨lw_p61, List.forall_mem_cons.mpr ⟨lw_p62, List.forall_mem_cons.mpr ⟨lw_p63, fun _ h => absurd h List.not_mem_nil⟩⟩⟩⟩⟩⟩⟩⟩⟩⟩⟩⟩⟩⟩⟩⟩
theorem lw_p64 : lw_okq (⟨"FramedTalkModel", "digest", "()V"⟩, 36) := ⟨⟨by decide +kernel, by decide +kernel⟩, List.mem_of_getElem? (i := 884) (by decide +kernel), List.mem_of_getElem? (i := 1125) (by decide +kernel), List.mem_of_getElem? (i := 1126) (by decide +kernel)⟩
theorem lw_p65 : lw_okq (⟨"FramedTalkModel", "signs", "(JI)I"⟩, 36) := ⟨⟨by decide +kernel, by decide +kernel⟩, List.mem_of_getElem? (i := 884) (by decide +kernel), List.mem_of_getElem? (i := 1130) (by decide +kernel), List.mem_of_getElem? (i := 1131) (by decide +kernel)⟩
theorem lw_p66 : lw_okq (⟨"FramedTalkModel", "mix", "(I)V"⟩, 36) := ⟨⟨by decide +kernel, by decide +kernel⟩, List.mem_of_getElem? (i := 884) (by decide +kernel), List.mem_of_getElem? (i := 1143) (by decide +kernel), List.mem_of_getElem? (i := 1144) (by decide +kernel)⟩
theorem lw_p67 : lw_okq (⟨"FramedTalkModel", "digestByte", "(I)I"⟩, 36) := ⟨⟨by decide +kernel, by decide +kernel⟩, List.mem_of_getElem? (i := 884) (by decide +kernel), List.mem_of_getElem? (i := 1154) (by decide +kernel), List.mem_of_getElem? (i := 1155) (by decide +kernel)⟩
theorem lw_p68 : lw_okq (⟨"FramedTalkModel", "first", "(I)V"⟩, 36) := ⟨⟨by decide +kernel, by decide +kernel⟩, List.mem_of_getElem? (i := 884) (by decide +kernel), List.mem_of_getElem? (i := 1161) (by decide +kernel), List.mem_of_getElem? (i := 1162) (by decide +kernel)⟩
theorem lw_p69 : lw_okq (⟨"FramedTalkModel", "violate", "(I)V"⟩, 36) := ⟨⟨by decide +kernel, by decide +kernel⟩, List.mem_of_getElem? (i := 884) (by decide +kernel), List.mem_of_getElem? (i := 1165) (by decide +kernel), List.mem_of_getElem? (i := 1166) (by decide +kernel)⟩
theorem lw_p70 : lw_okq (⟨"FramedTalkModel", "sayClose", "(I)V"⟩, 36) := ⟨⟨by decide +kernel, by decide +kernel⟩, List.mem_of_getElem? (i := 884) (by decide +kernel), List.mem_of_getElem? (i := 1169) (by decide +kernel), List.mem_of_getElem? (i := 1170) (by decide +kernel)⟩
theorem lw_p71 : lw_okq (⟨"FramedTalkModel", "head", "(IZI)V"⟩, 36) := ⟨⟨by decide +kernel, by decide +kernel⟩, List.mem_of_getElem? (i := 884) (by decide +kernel), List.mem_of_getElem? (i := 1173) (by decide +kernel), List.mem_of_getElem? (i := 1174) (by decide +kernel)⟩
theorem lw_p72 : lw_okq (⟨"FramedTalkModel", "beginCharacters", "()V"⟩, 36) := ⟨⟨by decide +kernel, by decide +kernel⟩, List.mem_of_getElem? (i := 884) (by decide +kernel), List.mem_of_getElem? (i := 1177) (by decide +kernel), List.mem_of_getElem? (i := 1178) (by decide +kernel)⟩
theorem lw_p73 : lw_okq (⟨"FramedTalkModel", "second", "(I)V"⟩, 36) := ⟨⟨by decide +kernel, by decide +kernel⟩, List.mem_of_getElem? (i := 884) (by decide +kernel), List.mem_of_getElem? (i := 1181) (by decide +kernel), List.mem_of_getElem? (i := 1182) (by decide +kernel)⟩
theorem lw_p74 : lw_okq (⟨"FramedTalkModel", "isBrief", "()Z"⟩, 36) := ⟨⟨by decide +kernel, by decide +kernel⟩, List.mem_of_getElem? (i := 884) (by decide +kernel), List.mem_of_getElem? (i := 1185) (by decide +kernel), List.mem_of_getElem? (i := 1186) (by decide +kernel)⟩
theorem lw_p75 : lw_okq (⟨"FramedTalkModel", "measured", "()V"⟩, 36) := ⟨⟨by decide +kernel, by decide +kernel⟩, List.mem_of_getElem? (i := 884) (by decide +kernel), List.mem_of_getElem? (i := 1189) (by decide +kernel), List.mem_of_getElem? (i := 1190) (by decide +kernel)⟩
theorem lw_p76 : lw_okq (⟨"FramedTalkModel", "lengthByte", "(I)V"⟩, 36) := ⟨⟨by decide +kernel, by decide +kernel⟩, List.mem_of_getElem? (i := 884) (by decide +kernel), List.mem_of_getElem? (i := 1194) (by decide +kernel), List.mem_of_getElem? (i := 1195) (by decide +kernel)⟩
theorem lw_p77 : lw_okq (⟨"FramedTalkModel", "maskByte", "(I)V"⟩, 36) := ⟨⟨by decide +kernel, by decide +kernel⟩, List.mem_of_getElem? (i := 884) (by decide +kernel), List.mem_of_getElem? (i := 1200) (by decide +kernel), List.mem_of_getElem? (i := 1201) (by decide +kernel)⟩
theorem lw_p78 : lw_okq (⟨"FramedTalkModel", "whole", "()V"⟩, 36) := ⟨⟨by decide +kernel, by decide +kernel⟩, List.mem_of_getElem? (i := 884) (by decide +kernel), List.mem_of_getElem? (i := 1204) (by decide +kernel), List.mem_of_getElem? (i := 1205) (by decide +kernel)⟩
theorem lw_p79 : lw_okq (⟨"FramedTalkModel", "closed", "()V"⟩, 36) := ⟨⟨by decide +kernel, by decide +kernel⟩, List.mem_of_getElem? (i := 884) (by decide +kernel), List.mem_of_getElem? (i := 1208) (by decide +kernel), List.mem_of_getElem? (i := 1209) (by decide +kernel)⟩
def lw_privs_5 : List (MethodName × Nat) := [(⟨"FramedTalkModel", "digest", "()V"⟩, 36), (⟨"FramedTalkModel", "signs", "(JI)I"⟩, 36), (⟨"FramedTalkModel", "mix", "(I)V"⟩, 36), (⟨"FramedTalkModel", "digestByte", "(I)I"⟩, 36), (⟨"FramedTalkModel", "first", "(I)V"⟩, 36), (⟨"FramedTalkModel", "violate", "(I)V"⟩, 36), (⟨"FramedTalkModel", "sayClose", "(I)V"⟩, 36), (⟨"FramedTalkModel", "head", "(IZI)V"⟩, 36), (⟨"FramedTalkModel", "beginCharacters", "()V"⟩, 36), (⟨"FramedTalkModel", "second", "(I)V"⟩, 36), (⟨"FramedTalkModel", "isBrief", "()Z"⟩, 36), (⟨"FramedTalkModel", "measured", "()V"⟩, 36), (⟨"FramedTalkModel", "lengthByte", "(I)V"⟩, 36), (⟨"FramedTalkModel", "maskByte", "(I)V"⟩, 36), (⟨"FramedTalkModel", "whole", "()V"⟩, 36), (⟨"FramedTalkModel", "closed", "()V"⟩, 36)]
theorem lw_r5 : ∀ q ∈ lw_privs_5, lw_okq q := List.forall_mem_cons.mpr ⟨lw_p64, List.forall_mem_cons.mpr ⟨lw_p65, List.forall_mem_cons.mpr ⟨lw_p66, List.forall_mem_cons.mpr ⟨lw_p67, List.forall_mem_cons.mpr ⟨lw_p68, List.forall_mem_cons.mpr ⟨lw_p69, List.forall_mem_cons.mpr ⟨lw_p70, List.forall_mem_cons.mpr ⟨lw_p71, List.forall_mem_cons.mpr ⟨lw_p72, List.forall_mem_cons.mpr ⟨lw_p73, List.forall_mem_cons.mpr ⟨lw_p74, List.forall_mem_cons.mpr ⟨lw_p75, List.forall_mem_cons.mpr ⟨lw_p76, List.forall_mem_cons.mpr ⟨lw_p77, List.forall_mem_cons.mpr ⟨lw_p78, List.forall_mem_cons.mpr ⟨lw_p79, fun _ h => absurd h List.not_mem_nil⟩⟩⟩⟩⟩⟩⟩⟩⟩⟩⟩⟩⟩⟩⟩⟩
theorem lw_p80 : lw_okq (⟨"FramedTalkModel", "isReason", "()Z"⟩, 36) := ⟨⟨by decide +kernel, by decide +kernel⟩, List.mem_of_getElem? (i := 884) (by decide +kernel), List.mem_of_getElem? (i := 1215) (by decide +kernel), List.mem_of_getElem? (i := 1216) (by decide +kernel)⟩
theorem lw_p81 : lw_okq (⟨"FramedTalkModel", "character", "(I)Z"⟩, 36) := ⟨⟨by decide +kernel, by decide +kernel⟩, List.mem_of_getElem? (i := 884) (by decide +kernel), List.mem_of_getElem? (i := 1219) (by decide +kernel), List.mem_of_getElem? (i := 1220) (by decide +kernel)⟩
theorem lw_p82 : lw_okq (⟨"FramedTalkModel", "deliver", "()V"⟩, 36) := ⟨⟨by decide +kernel, by decide +kernel⟩, List.mem_of_getElem? (i := 884) (by decide +kernel), List.mem_of_getElem? (i := 1223) (by decide +kernel), List.mem_of_getElem? (i := 1224) (by decide +kernel)⟩
theorem lw_p83 : lw_okq (⟨"FramedTalkModel", "contentByte", "(I)V"⟩, 36) := ⟨⟨by decide +kernel, by decide +kernel⟩, List.mem_of_getElem? (i := 884) (by decide +kernel), List.mem_of_getElem? (i := 1227) (by decide +kernel), List.mem_of_getElem? (i := 1228) (by decide +kernel)⟩
theorem lw_p84 : lw_okq (⟨"FramedTalkModel", "isMessage", "(I)Z"⟩, 36) := ⟨⟨by decide +kernel, by decide +kernel⟩, List.mem_of_getElem? (i := 884) (by decide +kernel), List.mem_of_getElem? (i := 1263) (by decide +kernel), List.mem_of_getElem? (i := 1264) (by decide +kernel)⟩
theorem lw_p85 : lw_okq (⟨"FramedTalkModel", "isDraftText", "()Z"⟩, 36) := ⟨⟨by decide +kernel, by decide +kernel⟩, List.mem_of_getElem? (i := 884) (by decide +kernel), List.mem_of_getElem? (i := 1295) (by decide +kernel), List.mem_of_getElem? (i := 1296) (by decide +kernel)⟩
theorem lw_p86 : lw_okq (⟨"FramedTalkModel", "putDraft", "()V"⟩, 36) := ⟨⟨by decide +kernel, by decide +kernel⟩, List.mem_of_getElem? (i := 884) (by decide +kernel), List.mem_of_getElem? (i := 1303) (by decide +kernel), List.mem_of_getElem? (i := 1304) (by decide +kernel)⟩
def lw_privs_6 : List (MethodName × Nat) := [(⟨"FramedTalkModel", "isReason", "()Z"⟩, 36), (⟨"FramedTalkModel", "character", "(I)Z"⟩, 36), (⟨"FramedTalkModel", "deliver", "()V"⟩, 36), (⟨"FramedTalkModel", "contentByte", "(I)V"⟩, 36), (⟨"FramedTalkModel", "isMessage", "(I)Z"⟩, 36), (⟨"FramedTalkModel", "isDraftText", "()Z"⟩, 36), (⟨"FramedTalkModel", "putDraft", "()V"⟩, 36)]
theorem lw_r6 : ∀ q ∈ lw_privs_6, lw_okq q := List.forall_mem_cons.mpr ⟨lw_p80, List.forall_mem_cons.mpr ⟨lw_p81, List.forall_mem_cons.mpr ⟨lw_p82, List.forall_mem_cons.mpr ⟨lw_p83, List.forall_mem_cons.mpr ⟨lw_p84, List.forall_mem_cons.mpr ⟨lw_p85, List.forall_mem_cons.mpr ⟨lw_p86, fun _ h => absurd h List.not_mem_nil⟩⟩⟩⟩⟩⟩⟩
def lw_privs : List (MethodName × Nat) := lw_privs_1 ++ (lw_privs_2 ++ (lw_privs_3 ++ (lw_privs_4 ++ (lw_privs_5 ++ (lw_privs_6)))))
def lw_tbl : List Cond := k2_sels lw_privs ++ tables_1
theorem lw_privs_ok : ∀ q ∈ lw_privs, lw_okq q := by
  show ∀ q ∈ lw_privs_1 ++ (lw_privs_2 ++ (lw_privs_3 ++ (lw_privs_4 ++ (lw_privs_5 ++ (lw_privs_6))))), lw_okq q
  exact List.forall_mem_append.mpr ⟨lw_r1, List.forall_mem_append.mpr ⟨lw_r2, List.forall_mem_append.mpr ⟨lw_r3, List.forall_mem_append.mpr ⟨lw_r4, List.forall_mem_append.mpr ⟨lw_r5, lw_r6⟩⟩⟩⟩⟩
-- ===== end of PART A; then your names; then what follows =====
end
section
/-! ===== BEGIN words of one list among another's, by their places ===== -/
theorem goodIn_r {big : List Cond} (ws : List Cond) (ps : List Nat) (hp : ws = ps.filterMap (fun i => big[i]?)) (h : ws.all goodWord = true) : GoodIn big ws := by
  intro w hw
  have h1 := List.all_eq_true.mp h w hw
  rw [hp] at hw
  obtain ⟨i, -, hi⟩ := List.mem_filterMap.mp hw
  have hm : w ∈ big := by first | exact List.mem_of_getElem? hi | exact List.getElem?_mem hi
  exact ⟨hm, good_of_word h1⟩
theorem goodIn_app {big a b : List Cond} (ha : GoodIn big a) (hb : GoodIn big b) : GoodIn big (a ++ b) := fun w h => (List.mem_append.mp h).elim (ha w) (hb w)
theorem goodIn_ca {big a b : List Cond} {c : Cond} (ha : GoodIn big (c :: a)) (hb : GoodIn big b) : GoodIn big (c :: (a ++ b)) := fun w h => (List.mem_cons.mp h).elim (fun e => ha w (List.mem_cons.mpr (Or.inl e))) (fun h => (List.mem_append.mp h).elim (fun h => ha w (List.mem_cons.mpr (Or.inr h))) (hb w))
theorem goodIn_sub {big ws : List Cond} (hm : ∀ w ∈ ws, w ∈ big) (h : ws.all goodWord = true) : GoodIn big ws := fun w hw => ⟨hm w hw, good_of_word (List.all_eq_true.mp h w hw)⟩
/-! ===== END ===== -/

/-! ===== BEGIN exceptions that leave a method, and their catching by the caller (launches without stack traces) ===== -/
section VXA
/-! The laws vx_back, vx_callV, vx_callS, vx_callSW, vx_throw0, vx_throwS follow proofs of the library, with one case more: JvmDerived/Free/Laws.lean (Back.of_free), Shelf42/LK1.lean (callV, callS), Shelf/KitTraced.lean (throwNew0V, throwNewS). -/

/-- where a method has thrown q: the class by its name, the cell, what was written, the world -/
def vx_T (XC : String → State → State → Prop) (st : State) (q : Addr) (t : State) (mc ms : Nat) (free : Addr → Prop) : Prop :=
  ∃ (E : String) (ce : Cell) (L : List Loc), XC E st t ∧ t.heap[q]? = some ce ∧ ce.vm = .none ∧ st.vm.findClass E = some ce.cls ∧ st.WarmedH t.vm ∧ st.sameButNew ({ t with vm := st.vm } : State) L mc ms ∧ ∀ z ∈ L, free z.base
def vx_Q (Qc : Array Value → State → Outcome → State → Prop) (XC : String → State → State → Prop) (mc ms : Nat) (free : Addr → Prop) : Array Value → State → Outcome → State → Prop := fun a st o t =>
  (Qc a st o t ∧ ∃ L, FrameEnd st o t L mc ms ∧ ∀ q ∈ L, free q.base) ∨ ∃ q, o = .threw q ∧ vx_T XC st q t mc ms free
/-- a callee that returns or throws -/
def vx_Met (l : Launch) (y : MethodName) (ws : List Cond) (rm : Room) (Pc : Array Value → State → Prop) (Qc : Array Value → State → Outcome → State → Prop) (XC : String → State → State → Prop) (mc ms : Nat) (free : Addr → Prop) : Prop :=
  MetFree l y (headSpec ws rm) Pc (fun _ _ _ _ _ => True) (vx_Q Qc XC mc ms free)
def vx_Post (XC : String → State → State → Prop) (mc ms : Nat) (free : Addr → Prop) : Pt → Array Value → Addr → Pt → Prop := fun A a q B =>
  ∃ (g : JFrame) (mk : MethodId) (t : State) (L : List Loc) (E : String) (ce : Cell), B.U.heap = t.heap ∧ B.U.vm = t.vm ∧ XC E (A.U.calling g mk a) t ∧ t.heap[q]? = some ce ∧ ce.vm = .none ∧ A.U.vm.findClass E = some ce.cls ∧ B.locs = A.locs ++ L ∧ (∀ z ∈ L, free z.base) ∧ B.cells = A.cells + mc ∧ B.slots = A.slots + ms
def vx_Back (l : Launch) (R : Room) (p : Program) (e : Env) (below : List Frame) (s : State) (sargs : Array Value) (y : MethodName) (len W9 : Nat)
    (Pre : Pt → Array Value → Prop) (Post : Pt → Array Value → Option Value → Pt → Prop) (PostX : Pt → Array Value → Addr → Pt → Prop) : Prop :=
  ∀ (m : MethodId) (meth : Method) (c : Code) (A : Pt) (g : JFrame) (ig : Instr) (mk : MethodId) (a : Array Value),
    Stand p l e R s m sargs below meth c A.U A.locs A.cells A.slots → g.method = m → g.locals.size = c.maxLocals → decode c.code g.pc = .ok (ig, len) →
    2 * g.monitorRoom + (g.stack.map fun v => v.category).sum ≤ W9 → A.U.methodNamed? y = some mk → Pre A a →
    (∃ (v : Option Value) (B : Pt), Stand p l e R s m sargs below meth c B.U B.locs B.cells B.slots ∧ Post A a v B ∧
      Steps p.tables e below (doInvoke e (A.U.setTop g) [] mk a).1 (B.U.setTop { g with pc := g.pc + len, stack := v.toList ++ g.stack })) ∨
    (∃ (q : Addr) (B : Pt), Stand p l e R s m sargs below meth c B.U B.locs B.cells B.slots ∧ PostX A a q B ∧
      Steps p.tables e below (doInvoke e (A.U.setTop g) [] mk a).1 ((B.U.setTop g).pushFrame (.throwing q)))
section Payer
variable {l : Launch} {R : Room} {p : Program} {e : Env} {below : List Frame} {s : State} {sargs : Array Value} {y : MethodName} {len W9 : Nat}
theorem vx_back {ws : List Cond} {rm : Room} {Pc : Array Value → State → Prop} {Qc : Array Value → State → Outcome → State → Prop} {XC : String → State → State → Prop} {mc ms : Nat} {free : Addr → Prop} {bytes : ByteArray} {maxL : Nat} {ret : Option FieldType}
    (hM : vx_Met l y ws rm Pc Qc XC mc ms free) (hblind : FrameBlind Pc) (hrc : rm.cells = mc) (hrs : rm.slots = ms)
    (hframes : rm.frames + 1 ≤ R.frames) (hlocals : W9 + (maxL + 11) + rm.locals ≤ R.locals)
    (hws : ∀ w ∈ ws, ∀ a' U, s.WarmedH U.vm → w.before a' U = true) (hcode : Cond.code y bytes maxL ret ∈ ws) (hinit : ∀ a' U, s.WarmedH U.vm → (Cond.initialized y.cls).before a' U = true) :
    vx_Back l R p e below s sargs y len W9 (PreOf R mc ms Pc) (PostOf Qc mc ms free) (vx_Post XC mc ms free) := by
  intro m meth c A g ig mk a X hg hsize hdg hW hn hp
  have h1 : (headSpec ws rm).pre.before a A.U = true := atoms_intro fun w hw => hws w hw _ _ X.warmed
  have h2 : (Cond.code y bytes maxL ret).before a A.U = true := hws _ hcode _ _ X.warmed
  have h3 : (Cond.initialized y.cls).before a A.U = true := hinit _ _ X.warmed
  have h4 : A.cells + (headSpec ws rm).room.cells ≤ R.cells := by rw [show (headSpec ws rm).room.cells = mc from hrc]; exact hp.1
  have h5 : A.slots + (headSpec ws rm).room.slots ≤ R.slots := by rw [show (headSpec ws rm).room.slots = ms from hrs]; exact hp.2.1
  have hPc : Pc a (A.U.calling g mk a) := hblind _ _ _ _ hp.2.2
  obtain ⟨U, Ls, c0, s0⟩ := A
  dsimp only [Pt.U, Pt.locs, Pt.cells, Pt.slots] at h1 h2 h3 h4 h5 X hn hPc ⊢
  obtain ⟨methY, cY, hmY, hcY, -, hlY, -, -, -, -⟩ := Cond.code_spec hn h2
  obtain ⟨kY, hkY, -⟩ := className_of_methodNamed hn
  have hinitY : kY.init = .initialized := Cond.initialized_spec (findClass_of_methodNamed hn) hkY h3
  have h : At U g.method c below := by rw [hg]; exact X.here
  have hlocals9 : W9 + (maxL + 11) + (headSpec ws rm).room.locals ≤ R.locals := hlocals
  have happ : (headSpec ws rm).appliesLoose y e.platform (U.calling g mk a) = true :=
    Spec.appliesLoose_calling (g := g) h hdg hn hkY hinitY
      (X.room_calling (g := g) (R' := (headSpec ws rm).room) hsize hmY hcY hframes (by rw [hlY]; omega) h4 h5) h1
  obtain ⟨mid, hmid⟩ := h.above
  have hfr : (U.setTop g).frames = (.java g :: mid) ++ below := by rw [State.frames_setTop' g h.top, hmid]; rfl
  obtain ⟨o, s₂, hsteps, -, hend, hq⟩ := Steps.callFree hM p X.admits X.cas X.clock (acts := []) hfr happ hPc trivial
  have hq' : vx_Q Qc XC mc ms free a (U.calling g mk a) o s₂ := hq
  rw [State.frames_setTop' g h.top] at hend
  obtain ⟨g₀, hg0⟩ := Option.isSome_iff_exists.mp h.top
  obtain ⟨r, hr⟩ := State.topJava?_eq_some.mp hg0
  have hr' : (({ U with heap := s₂.heap, slotsUsed := s₂.slotsUsed } : State).setVm s₂.vm).frames = .java g₀ :: r := hr
  rcases hq' with ⟨hqc, L, hfe, hL⟩ | ⟨q, rfl, E, ce, L, hx, hce, hcv, hcl, hW₂, hsm, hL⟩
  · obtain ⟨⟨v, rfl⟩, hW₂, e2, q2, q3, q4, q5, q6⟩ := id hfe
    have e3 : s₂ = ({ (U.calling g mk a).setFrames s₂.frames with heap := s₂.heap, slotsUsed := s₂.slotsUsed } : State).setVm s₂.vm := by
      have : s₂ = ({ s₂ with vm := (U.calling g mk a).vm } : State).setVm s₂.vm := rfl
      rw [e2] at this
      exact this
    obtain ⟨c₂, i₂, len₂, hc₂, hd₂, hf₂⟩ := hend
    have hW' : U.WarmedH s₂.vm := hW₂
    have hcc : c₂ = c := by
      have h1 : s₂.code? g.method = U.code? g.method := by
        rw [State.code?_eq, State.code?_eq, hW'.alike.method?]
      exact Option.some.inj (hc₂.symm.trans (h1.trans h.code))
    subst hcc
    have hlen : len₂ = len := by rw [hdg] at hd₂; cases hd₂; rfl
    subst hlen
    have hs₂ : s₂ = (({ U with heap := s₂.heap, slotsUsed := s₂.slotsUsed } : State).setVm s₂.vm).setTop { g with pc := g.pc + len₂, stack := v.toList ++ g.stack } := by
      refine e3.trans ?_
      rw [hf₂, State.calling_eq h.top, State.setFrames_setFrames, State.setTop_of_frames _ hr', hr]
      rfl
    have hsame : U.sameButNew ({ U with heap := s₂.heap, slotsUsed := s₂.slotsUsed } : State) L mc ms := by
      refine ⟨?_, q2, q3, q4, q5, q6⟩
      obtain ⟨t, ht, -⟩ := State.frames_cons hr
      show ({ U with heap := s₂.heap, slotsUsed := s₂.slotsUsed } : State) = { U.setFrames U.frames with heap := s₂.heap, slotsUsed := s₂.slotsUsed }
      rw [State.setFrames_self ht]
    subst hg
    refine Or.inl ⟨v, ⟨(({ U with heap := s₂.heap, slotsUsed := s₂.slotsUsed } : State).setVm s₂.vm), Ls ++ L, c0 + mc, s0 + ms⟩,
      ⟨X.admits, X.cas, X.clock, X.frames, X.room, X.hears, X.method, X.code, (X.here.setHeapUsed s₂.heap s₂.slotsUsed).setVm hW'.alike, X.tail, State.WarmedH.trans X.warmed hW', X.limits, X.bytes, X.same.trans (hsame.setVm s.vm)⟩,
      ⟨g, mk, s₂, L, rfl, rfl, hqc, rfl, hL, rfl, rfl⟩, ?_⟩
    show Steps p.tables e below _ ((({ U with heap := s₂.heap, slotsUsed := s₂.slotsUsed } : State).setVm s₂.vm).setTop { g with pc := g.pc + len₂, stack := v.toList ++ g.stack })
    rw [← hs₂]
    exact hsteps
  · obtain ⟨e2, q2, q3, q4, q5, q6⟩ := id hsm
    have e3 : s₂ = ({ (U.calling g mk a).setFrames s₂.frames with heap := s₂.heap, slotsUsed := s₂.slotsUsed } : State).setVm s₂.vm := by
      have : s₂ = ({ s₂ with vm := (U.calling g mk a).vm } : State).setVm s₂.vm := rfl
      rw [e2] at this
      exact this
    have hf₂ : s₂.frames = .throwing q :: .java g :: U.frames.tail := hend
    have hW' : U.WarmedH s₂.vm := hW₂
    have hs₂ : s₂ = ((({ U with heap := s₂.heap, slotsUsed := s₂.slotsUsed } : State).setVm s₂.vm).setTop g).pushFrame (.throwing q) := by
      refine e3.trans ?_
      rw [hf₂, State.calling_eq h.top, State.setFrames_setFrames, State.pushFrame, State.frames_setTop _ hr', State.setTop_of_frames _ hr', State.setFrames_setFrames, hr]
      rfl
    have hsame : U.sameButNew ({ U with heap := s₂.heap, slotsUsed := s₂.slotsUsed } : State) L mc ms := by
      refine ⟨?_, q2, q3, q4, q5, q6⟩
      obtain ⟨t, ht, -⟩ := State.frames_cons hr
      show ({ U with heap := s₂.heap, slotsUsed := s₂.slotsUsed } : State) = { U.setFrames U.frames with heap := s₂.heap, slotsUsed := s₂.slotsUsed }
      rw [State.setFrames_self ht]
    subst hg
    refine Or.inr ⟨q, ⟨(({ U with heap := s₂.heap, slotsUsed := s₂.slotsUsed } : State).setVm s₂.vm), Ls ++ L, c0 + mc, s0 + ms⟩,
      ⟨X.admits, X.cas, X.clock, X.frames, X.room, X.hears, X.method, X.code, (X.here.setHeapUsed s₂.heap s₂.slotsUsed).setVm hW'.alike, X.tail, State.WarmedH.trans X.warmed hW', X.limits, X.bytes, X.same.trans (hsame.setVm s.vm)⟩,
      ⟨g, mk, s₂, L, E, ce, rfl, rfl, hx, hce, hcv, hcl, rfl, hL, rfl, rfl⟩, ?_⟩
    show Steps p.tables e below _ (((({ U with heap := s₂.heap, slotsUsed := s₂.slotsUsed } : State).setVm s₂.vm).setTop g).pushFrame (.throwing q))
    rw [← hs₂]
    exact hsteps
end Payer
section Calls
variable {p : Program} {l : Launch} {e : Env} {R : Room} {s : State} {m : MethodId} {args : Array Value} {below : List Frame} {meth : Method} {c : Code} {T : State} {locs : List Loc} {cells slots : Nat}
theorem vx_callV (X : Stand p l e R s m args below meth c T locs cells slots) (hexec : p.tables.exec = Jvm.exec) {own C : String} {index : Nat} {y : MethodName} {bytes : ByteArray} {maxL : Nat} {ret : Option FieldType}
    (hown : s.vm.findClass own = some m.cls) (hlink : (Cond.methodLink own index y).before args s = true) (hinst : (Cond.instanceMethod y).before args s = true) (hsel : (Cond.selects C y y).before args s = true)
    (hcode : (Cond.code y bytes maxL ret).before args s = true) (hy : y.cls ≠ "java/lang/invoke/MethodHandle" ∧ y.cls ≠ "java/lang/invoke/VarHandle")
    {W9 : Nat} {Pre : Pt → Array Value → Prop} {Post : Pt → Array Value → Option Value → Pt → Prop} {PostX : Pt → Array Value → Addr → Pt → Prop} (hK : vx_Back l R p e below s args y 3 W9 Pre Post PostX)
    {b : Addr} {cellB : Cell} (hcell : T.heap[b]? = some cellB) (hobj : cellB.vm.isStatics = false) (hcls : s.vm.findClass C = some cellB.cls)
    {g : JFrame} (hg : g.method = m) (hsize : g.locals.size = c.maxLocals) {argsL rest : List Value} (hlen : ∀ sig, parseMethodDescriptor y.desc = some sig → argsL.length = sig.parameters.length)
    (hstack : g.stack = argsL.reverse ++ .ref b :: rest) (hW : 2 * g.monitorRoom + (rest.map fun v => v.category).sum ≤ W9) (hdg : decode c.code g.pc = .ok (.invokevirtual index, 3))
    (hpre : ∀ vm₁, s.WarmedH vm₁ → Pre ⟨T.setVm vm₁, locs, cells, slots⟩ (Value.ref b :: argsL).toArray) :
    (∃ (v : Option Value) (vm₁ : Vm) (B : Pt), s.WarmedH vm₁ ∧ Stand p l e R s m args below meth c B.U B.locs B.cells B.slots ∧ Post ⟨T.setVm vm₁, locs, cells, slots⟩ (Value.ref b :: argsL).toArray v B ∧
      ∀ target, Steps p.tables e below (B.U.setTop { g with pc := g.pc + 3, stack := v.toList ++ rest }) target → Steps p.tables e below (T.setTop g) target) ∨
    (∃ (q : Addr) (vm₁ : Vm) (B : Pt), s.WarmedH vm₁ ∧ Stand p l e R s m args below meth c B.U B.locs B.cells B.slots ∧ PostX ⟨T.setVm vm₁, locs, cells, slots⟩ (Value.ref b :: argsL).toArray q B ∧
      Steps p.tables e below (T.setTop g) ((B.U.setTop { g with stack := rest }).pushFrame (.throwing q))) := by
  obtain ⟨mk, methM, hnamed, hmethM, hstM, habM⟩ := Cond.instanceMethod_spec hinst
  obtain ⟨methM', cM, hmethM', -, -, -, -, -, -, hsigM⟩ := Cond.code_spec hnamed hcode
  cases hmethM.symm.trans hmethM'
  obtain ⟨c2, r2, m2, q1, q2, q3, q4, kP, hkP, hkPi⟩ := Cond.selects_spec hsel
  cases hcls.symm.trans q1
  cases (State.methodFound?_of_named hnamed hy).symm.trans q2
  cases hnamed.symm.trans q3
  have hselP : selectMethod e.platform s.vm cellB.cls mk = .method mk := by rw [Launch.admits_selectMethod X.admits]; exact q4
  obtain ⟨vm₁, X₁, hstep₁⟩ := X.invokevirtual hexec hown hlink hnamed hmethM hstM hkP hkPi hy (a := b) (cell := cellB) hcell
    (fun z h => by rw [h] at hobj; cases hobj) hselP hmethM habM hkP hkPi (g := g) hg (argsL := argsL) (rest := rest) (hlen _ hsigM) hstack hdg
  rcases hK m meth c ⟨T.setVm vm₁, locs, cells, slots⟩ { g with stack := rest } (.invokevirtual index) mk (Value.ref b :: argsL).toArray X₁ hg hsize hdg hW (X₁.named hnamed) (hpre vm₁ X₁.warmed) with ⟨v, B, X', hpost, hsteps⟩ | ⟨q, B, X', hpost, hsteps⟩
  · exact Or.inl ⟨v, vm₁, B, X₁.warmed, X', hpost, fun target h => hstep₁ _ fun acts => by rw [doInvoke_state]; exact hsteps.trans h⟩
  · exact Or.inr ⟨q, vm₁, B, X₁.warmed, X', hpost, hstep₁ _ fun acts => by rw [doInvoke_state]; exact hsteps⟩
theorem vx_callS (X : Stand p l e R s m args below meth c T locs cells slots) (hexec : p.tables.exec = Jvm.exec) {own : String} {index : Nat} {y : MethodName} {bytes : ByteArray} {maxL : Nat} {ret : Option FieldType}
    (hown : s.vm.findClass own = some m.cls) (hlink : (Cond.methodLink own index y).before args s = true) (hstat : (Cond.static y).before args s = true) (hinit : (Cond.initialized y.cls).before args s = true)
    (hcode : (Cond.code y bytes maxL ret).before args s = true) (hy : y.cls ≠ "java/lang/invoke/MethodHandle" ∧ y.cls ≠ "java/lang/invoke/VarHandle")
    {W9 : Nat} {Pre : Pt → Array Value → Prop} {Post : Pt → Array Value → Option Value → Pt → Prop} {PostX : Pt → Array Value → Addr → Pt → Prop} (hK : vx_Back l R p e below s args y 3 W9 Pre Post PostX)
    {g : JFrame} (hg : g.method = m) (hsize : g.locals.size = c.maxLocals) {argsL rest : List Value} (hlen : ∀ sig, parseMethodDescriptor y.desc = some sig → argsL.length = sig.parameters.length)
    (hstack : g.stack = argsL.reverse ++ rest) (hW : 2 * g.monitorRoom + (rest.map fun v => v.category).sum ≤ W9) (hdg : decode c.code g.pc = .ok (.invokestatic index, 3))
    (hpre : ∀ vm₁, s.WarmedH vm₁ → Pre ⟨T.setVm vm₁, locs, cells, slots⟩ argsL.toArray) :
    (∃ (v : Option Value) (vm₁ : Vm) (B : Pt), s.WarmedH vm₁ ∧ Stand p l e R s m args below meth c B.U B.locs B.cells B.slots ∧ Post ⟨T.setVm vm₁, locs, cells, slots⟩ argsL.toArray v B ∧
      ∀ target, Steps p.tables e below (B.U.setTop { g with pc := g.pc + 3, stack := v.toList ++ rest }) target → Steps p.tables e below (T.setTop g) target) ∨
    (∃ (q : Addr) (vm₁ : Vm) (B : Pt), s.WarmedH vm₁ ∧ Stand p l e R s m args below meth c B.U B.locs B.cells B.slots ∧ PostX ⟨T.setVm vm₁, locs, cells, slots⟩ argsL.toArray q B ∧
      Steps p.tables e below (T.setTop g) ((B.U.setTop { g with stack := rest }).pushFrame (.throwing q))) := by
  obtain ⟨mk, hnamed⟩ := Cond.code_named hcode
  obtain ⟨methM, cM, hmethM, -, -, -, -, -, -, hsigM⟩ := Cond.code_spec hnamed hcode
  have hstatic : methM.isStatic = true := Cond.static_spec hnamed hmethM hstat
  obtain ⟨kP, hkP, -⟩ := className_of_methodNamed hnamed
  have hinitP : kP.init = .initialized := Cond.initialized_spec (findClass_of_methodNamed hnamed) hkP hinit
  obtain ⟨vm₁, X₁, hstep₁⟩ := X.invokestatic hexec hown hlink hnamed hmethM hstatic hkP hinitP hy (g := g) hg (argsL := argsL) (rest := rest) (hlen _ hsigM) hstack hdg
  rcases hK m meth c ⟨T.setVm vm₁, locs, cells, slots⟩ { g with stack := rest } (.invokestatic index) mk argsL.toArray X₁ hg hsize hdg hW (X₁.named hnamed) (hpre vm₁ X₁.warmed) with ⟨v, B, X', hpost, hsteps⟩ | ⟨q, B, X', hpost, hsteps⟩
  · exact Or.inl ⟨v, vm₁, B, X₁.warmed, X', hpost, fun target h => hstep₁ _ fun acts => by rw [doInvoke_state]; exact hsteps.trans h⟩
  · exact Or.inr ⟨q, vm₁, B, X₁.warmed, X', hpost, hstep₁ _ fun acts => by rw [doInvoke_state]; exact hsteps⟩
end Calls
theorem vx_cls {s : State} {T : State} {vm₁ : Vm} {E : String} {k : ClassId} (hW : s.WarmedH vm₁) (h : (T.setVm vm₁).vm.findClass E = some k) : s.vm.findClass E = some k := by
  have h1 : vm₁.findClass E = some k := h
  rw [hW.alike.findClass] at h1
  exact h1
/-- the method's frame g, with q thrown over it -/
def vx_W (p : Program) (l : Launch) (e : Env) (R : Room) (s : State) (m : MethodId) (args : Array Value) (below : List Frame) (meth : Method) (c : Code) (H : Heap) (locs : List Loc) (cells slots : Nat) (Q : State → Prop) (g : JFrame) (q : Addr) : Prop :=
  ∀ T : State, T.heap = H → Stand p l e R s m args below meth c T locs cells slots → ∃ t, Steps p.tables e below ((T.setTop g).pushFrame (.throwing q)) t ∧ Q t
def vx_Run (p : Program) (l : Launch) (e : Env) (R : Room) (s : State) (m : MethodId) (args : Array Value) (below : List Frame) (meth : Method) (c : Code) (H : Heap) (locs : List Loc) (cells slots mc ms : Nat) (g : JFrame) (rest : List Value) (Qa : State → Outcome → State → Prop) (XC : String → State → State → Prop) (free : Addr → Prop) : Prop :=
  ∀ T : State, T.heap = H → Stand p l e R s m args below meth c T locs cells slots →
    (∃ (v : Option Value) (st₀ t T' : State) (L : List Loc), st₀.heap = H ∧ Stand p l e R s m args below meth c T' (locs ++ L) (cells + mc) (slots + ms) ∧ (∀ q ∈ L, free q.base) ∧ T'.heap = t.heap ∧ T'.vm = t.vm ∧ Qa st₀ (.returned v) t ∧
      Goes p e below T g T' { g with pc := g.pc + 3, stack := v.toList ++ rest }) ∨
    (∃ (q : Addr) (st₀ t T' : State) (L : List Loc) (E : String) (ce : Cell), st₀.heap = H ∧ Stand p l e R s m args below meth c T' (locs ++ L) (cells + mc) (slots + ms) ∧ (∀ z ∈ L, free z.base) ∧ T'.heap = t.heap ∧ T'.vm = t.vm ∧ XC E st₀ t ∧ t.heap[q]? = some ce ∧ ce.vm = .none ∧ s.vm.findClass E = some ce.cls ∧
      Steps p.tables e below (T.setTop g) ((T'.setTop { g with stack := rest }).pushFrame (.throwing q)))
def vx_X {S : Type} (px : S → Prop) (B : String → S → State → Prop) (A : Nat → Prop) : String → State → State → Prop := fun E st t => ∃ u : S, px u ∧ B E u t ∧ va_F A st t
section Runs
variable {p : Program} {l : Launch} {e : Env} {R : Room} {s : State} {m : MethodId} {args : Array Value} {below : List Frame} {meth : Method} {c : Code} {H : Heap} {locs : List Loc} {cells slots : Nat}
variable {y : MethodName} {bytes cc : ByteArray} {maxL nL mc ms n index : Nat} {ret : Option FieldType} {ws : List Cond} {rm : Room} {Pc : Array Value → State → Prop} {Qc : Array Value → State → Outcome → State → Prop} {XC : String → State → State → Prop} {free : Addr → Prop} {Ts : List Cond} {own C : String} {b : Addr} {As rest : List Value} {g : JFrame}
theorem vx_callBack (cb : CallB R s args own index y bytes maxL ret ws rm mc ms n) (hM : vx_Met l y ws rm Pc Qc XC mc ms free) (hbl : FrameBlind Pc) : vx_Back l R p e below s args y 3 8 (PreOf R mc ms Pc) (PostOf Qc mc ms free) (vx_Post XC mc ms free) := by
  obtain ⟨hrc, hrs, hfr, hlo, hws, hcw, -, hini, -⟩ := cb
  exact vx_back (bytes := bytes) (maxL := maxL) (ret := ret) hM hbl hrc hrs hfr hlo hws hcw (fun a' U hW => word_at hW (Or.inl (by first | rfl | simp [Cond.onTables, Cond.keeps, Cond.steady])) hini)
theorem vx_runV (S : CallFix p m c cc nL s args Ts own) (hM : vx_Met l y ws rm Pc Qc XC mc ms free) (cw : CallW R s args own C index y bytes maxL ret ws rm mc ms n) (hp : PreV s H C b Pc As)
    (hg : g.method = m) (hn : As.length = n) (hsize : g.locals.size = nL) (hstack : g.stack = As.reverse ++ .ref b :: rest) (hW : 2 * g.monitorRoom + (rest.map fun v => v.category).sum ≤ 8) (hdg : decode cc g.pc = .ok (.invokevirtual index, 3)) (hf : cells + mc ≤ R.cells ∧ slots + ms ≤ R.slots) :
    vx_Run p l e R s m args below meth c H locs cells slots mc ms g rest (Qc (Value.ref b :: As).toArray) XC free := by
  have hK : vx_Back l R p e below s args y 3 8 (PreOf R mc ms Pc) (PostOf Qc mc ms free) (vx_Post XC mc ms free) := vx_callBack cw.1 hM hp.1
  obtain ⟨⟨-, -, -, -, -, -, hcode, -, hy, hlen, hl⟩, hin, hse⟩ := cw
  obtain ⟨hx, hb, hml, ho, -⟩ := S
  obtain ⟨-, ⟨cellB, hcB, hoB, hclB⟩, hPc⟩ := hp
  intro T hT X
  rcases vx_callV X hx (C := C) (bytes := bytes) (maxL := maxL) (ret := ret) ho hl hin hse hcode hy hK (by rw [hT]; exact hcB) hoB hclB hg (hsize.trans hml.symm) (argsL := As) (rest := rest) (fun sig h => hn.trans (hlen sig h)) hstack hW (by rw [hb]; exact hdg)
    (fun vm₁ hW₁ => ⟨hf.1, hf.2, hPc (T.setVm vm₁) hT hW₁⟩) with ⟨v, vm₁, ⟨U', l2, c2, s2⟩, hW₁, X', ⟨g', mk, t, L, e1, e2, hq, h1, hL, h2, h3⟩, st⟩ | ⟨q, vm₁, ⟨U', l2, c2, s2⟩, hW₁, X', ⟨g', mk, t, L, E, ce, e1, e2, hq, hce, hcv, hcl, h1, hL, h2, h3⟩, st⟩
  · dsimp only [Pt.U, Pt.locs, Pt.cells, Pt.slots] at X' e1 e2 h1 h2 h3 st
    subst h1; subst h2; subst h3
    exact Or.inl ⟨v, (T.setVm vm₁).calling g' mk (Value.ref b :: As).toArray, t, U', L, hT, X', hL, e1, e2, hq, st⟩
  · dsimp only [Pt.U, Pt.locs, Pt.cells, Pt.slots] at X' e1 e2 h1 h2 h3 st hcl
    subst h1; subst h2; subst h3
    exact Or.inr ⟨q, (T.setVm vm₁).calling g' mk (Value.ref b :: As).toArray, t, U', L, E, ce, hT, X', hL, e1, e2, hq, hce, hcv, vx_cls hW₁ hcl, st⟩
theorem vx_runS (S : CallFix p m c cc nL s args Ts own) (hM : vx_Met l y ws rm Pc Qc XC mc ms free) (cw : CallB R s args own index y bytes maxL ret ws rm mc ms n ∧ (Cond.static y).before args s = true) (hp : PreS s H Pc As)
    (hg : g.method = m) (hn : As.length = n) (hsize : g.locals.size = nL) (hstack : g.stack = As.reverse ++ rest) (hW : 2 * g.monitorRoom + (rest.map fun v => v.category).sum ≤ 8) (hdg : decode cc g.pc = .ok (.invokestatic index, 3)) (hf : cells + mc ≤ R.cells ∧ slots + ms ≤ R.slots) :
    vx_Run p l e R s m args below meth c H locs cells slots mc ms g rest (Qc As.toArray) XC free := by
  have hK : vx_Back l R p e below s args y 3 8 (PreOf R mc ms Pc) (PostOf Qc mc ms free) (vx_Post XC mc ms free) := vx_callBack cw.1 hM hp.1
  obtain ⟨⟨-, -, -, -, -, -, hcode, hini, hy, hlen, hl⟩, hstt⟩ := cw
  obtain ⟨hx, hb, hml, ho, -⟩ := S
  intro T hT X
  rcases vx_callS X hx (bytes := bytes) (maxL := maxL) (ret := ret) ho hl hstt hini hcode hy hK hg (hsize.trans hml.symm) (argsL := As) (rest := rest) (fun sig h => hn.trans (hlen sig h)) hstack hW (by rw [hb]; exact hdg)
    (fun vm₁ hW₁ => ⟨hf.1, hf.2, hp.2 (T.setVm vm₁) hT hW₁⟩) with ⟨v, vm₁, ⟨U', l2, c2, s2⟩, hW₁, X', ⟨g', mk, t, L, e1, e2, hq, h1, hL, h2, h3⟩, st⟩ | ⟨q, vm₁, ⟨U', l2, c2, s2⟩, hW₁, X', ⟨g', mk, t, L, E, ce, e1, e2, hq, hce, hcv, hcl, h1, hL, h2, h3⟩, st⟩
  · dsimp only [Pt.U, Pt.locs, Pt.cells, Pt.slots] at X' e1 e2 h1 h2 h3 st
    subst h1; subst h2; subst h3
    exact Or.inl ⟨v, (T.setVm vm₁).calling g' mk As.toArray, t, U', L, hT, X', hL, e1, e2, hq, st⟩
  · dsimp only [Pt.U, Pt.locs, Pt.cells, Pt.slots] at X' e1 e2 h1 h2 h3 st hcl
    subst h1; subst h2; subst h3
    exact Or.inr ⟨q, (T.setVm vm₁).calling g' mk As.toArray, t, U', L, E, ce, hT, X', hL, e1, e2, hq, hce, hcv, vx_cls hW₁ hcl, st⟩
end Runs
section Rows
variable {p : Program} {l : Launch} {e : Env} {R : Room} {s : State} {m : MethodId} {args : Array Value} {below : List Frame} {meth : Method} {c : Code} {H : Heap} {locs : List Loc} {cells slots : Nat} {Q : State → Prop}
variable {mc ms : Nat} {free : Addr → Prop} {A0 A1 : Nat → Prop} {H0 : Heap} {a : Array Value} {pc : Nat} {ls : Array Slot} {st0 rest : List Value}
theorem vx_keep {st₀ t T' : State} {L : List Loc} (h0 : st₀.heap = H) (e1 : T'.heap = t.heap) (hS : va_S A0 H0 H locs) (hA : ∀ q, q < H.size → A1 q → A0 q) (hf : ∀ q, free q → A0 q) (hL : ∀ q ∈ L, free q.base) (hF : va_F A1 st₀ t) :
    H.size ≤ T'.heap.size ∧ (∀ q : Nat, q < H.size → ¬ A1 q → T'.heap[q]? = H[q]?) ∧ va_S A0 H0 T'.heap (locs ++ L) := by
  obtain ⟨hz, hk⟩ := hF
  rw [h0] at hz hk
  exact ⟨by rw [e1]; exact hz, fun q h1 h2 => by rw [e1]; exact hk q h1 h2,
    ⟨Nat.le_trans hS.1 (by rw [e1]; exact hz), fun q h1 h2 => by rw [e1, hk q (Nat.lt_of_lt_of_le h1 hS.1) (fun z => h2 (hA q (Nat.lt_of_lt_of_le h1 hS.1) z))]; exact hS.2.1 q h1 h2, fun q hq => by
      rcases List.mem_append.mp hq with h | h
      · exact hS.2.2 q h
      · exact hf _ (hL q h)⟩⟩
theorem vx_calli {S SX : Type} {post : Int32 → S → Prop} {px : SX → Prop} {B : S → State → Prop} {BX : String → SX → State → Prop} {AX : Nat → Prop} (hr : vx_Run p l e R s m args below meth c H locs cells slots mc ms (F0 m pc ls st0) rest (va_Qi post B A1 a) (vx_X px BX AX) free) (hS : va_S A0 H0 H locs) (hA : ∀ q, q < H.size → A1 q → A0 q) (hf : ∀ q, free q → A0 q) (hAX : ∀ q, q < H.size → AX q → A0 q)
    (kx : ∀ (E : String) (ce : Cell) (q9 : Addr) (u : SX) (t : State) (H1 : Heap) (locs1 : List Loc), t.heap = H1 → s.vm.Alike t.vm → px u → BX E u t → H.size ≤ H1.size → (∀ q : Nat, q < H.size → ¬ AX q → H1[q]? = H[q]?) → va_S A0 H0 H1 locs1 → H1[q9]? = some ce → ce.vm = .none → s.vm.findClass E = some ce.cls → vx_W p l e R s m args below meth c H1 locs1 (cells + mc) (slots + ms) Q (F0 m pc ls rest) q9)
    (kk : ∀ (r : Int32) (u : S) (t : State) (H1 : Heap) (locs1 : List Loc), t.heap = H1 → s.vm.Alike t.vm → post r u → B u t → H.size ≤ H1.size → (∀ q : Nat, q < H.size → ¬ A1 q → H1[q]? = H[q]?) → va_S A0 H0 H1 locs1 → W p l e R s m args below meth c H1 locs1 (cells + mc) (slots + ms) Q (F0 m (pc + 3) ls (.int r :: rest))) : W p l e R s m args below meth c H locs cells slots Q (F0 m pc ls st0) := by
  intro T hT X
  rcases hr T hT X with ⟨v, st₀, t, T', L, h0, X', hL, e1, e2, ⟨⟨r, u, hv, hp, hb⟩, hF⟩, st⟩ | ⟨q, st₀, t, T', L, E, ce, h0, X', hL, e1, e2, ⟨u, hp, hb, hF⟩, hce, hcv, hcl, st⟩
  · cases hv
    obtain ⟨k1, k2, k3⟩ := vx_keep h0 e1 hS hA hf hL hF
    obtain ⟨t2, a1, b1⟩ := kk r u t T'.heap (locs ++ L) e1.symm (by rw [← e2]; exact X'.warmed.alike) hp hb k1 k2 k3 T' rfl X'
    exact ⟨t2, st t2 a1, b1⟩
  · obtain ⟨k1, k2, k3⟩ := vx_keep h0 e1 hS hAX hf hL hF
    obtain ⟨t2, a1, b1⟩ := kx E ce q u t T'.heap (locs ++ L) e1.symm (by rw [← e2]; exact X'.warmed.alike) hp hb k1 k2 k3 (by rw [e1]; exact hce) hcv hcl T' rfl X'
    exact ⟨t2, st.trans a1, b1⟩
theorem vx_calll {S SX : Type} {post : Int64 → S → Prop} {px : SX → Prop} {B : S → State → Prop} {BX : String → SX → State → Prop} {AX : Nat → Prop} (hr : vx_Run p l e R s m args below meth c H locs cells slots mc ms (F0 m pc ls st0) rest (va_Ql post B A1 a) (vx_X px BX AX) free) (hS : va_S A0 H0 H locs) (hA : ∀ q, q < H.size → A1 q → A0 q) (hf : ∀ q, free q → A0 q) (hAX : ∀ q, q < H.size → AX q → A0 q)
    (kx : ∀ (E : String) (ce : Cell) (q9 : Addr) (u : SX) (t : State) (H1 : Heap) (locs1 : List Loc), t.heap = H1 → s.vm.Alike t.vm → px u → BX E u t → H.size ≤ H1.size → (∀ q : Nat, q < H.size → ¬ AX q → H1[q]? = H[q]?) → va_S A0 H0 H1 locs1 → H1[q9]? = some ce → ce.vm = .none → s.vm.findClass E = some ce.cls → vx_W p l e R s m args below meth c H1 locs1 (cells + mc) (slots + ms) Q (F0 m pc ls rest) q9)
    (kk : ∀ (r : Int64) (u : S) (t : State) (H1 : Heap) (locs1 : List Loc), t.heap = H1 → s.vm.Alike t.vm → post r u → B u t → H.size ≤ H1.size → (∀ q : Nat, q < H.size → ¬ A1 q → H1[q]? = H[q]?) → va_S A0 H0 H1 locs1 → W p l e R s m args below meth c H1 locs1 (cells + mc) (slots + ms) Q (F0 m (pc + 3) ls (.long r :: rest))) : W p l e R s m args below meth c H locs cells slots Q (F0 m pc ls st0) := by
  intro T hT X
  rcases hr T hT X with ⟨v, st₀, t, T', L, h0, X', hL, e1, e2, ⟨⟨r, u, hv, hp, hb⟩, hF⟩, st⟩ | ⟨q, st₀, t, T', L, E, ce, h0, X', hL, e1, e2, ⟨u, hp, hb, hF⟩, hce, hcv, hcl, st⟩
  · cases hv
    obtain ⟨k1, k2, k3⟩ := vx_keep h0 e1 hS hA hf hL hF
    obtain ⟨t2, a1, b1⟩ := kk r u t T'.heap (locs ++ L) e1.symm (by rw [← e2]; exact X'.warmed.alike) hp hb k1 k2 k3 T' rfl X'
    exact ⟨t2, st t2 a1, b1⟩
  · obtain ⟨k1, k2, k3⟩ := vx_keep h0 e1 hS hAX hf hL hF
    obtain ⟨t2, a1, b1⟩ := kx E ce q u t T'.heap (locs ++ L) e1.symm (by rw [← e2]; exact X'.warmed.alike) hp hb k1 k2 k3 (by rw [e1]; exact hce) hcv hcl T' rfl X'
    exact ⟨t2, st.trans a1, b1⟩
theorem vx_callf {S SX : Type} {post : UInt32 → S → Prop} {px : SX → Prop} {B : S → State → Prop} {BX : String → SX → State → Prop} {AX : Nat → Prop} (hr : vx_Run p l e R s m args below meth c H locs cells slots mc ms (F0 m pc ls st0) rest (va_Qf post B A1 a) (vx_X px BX AX) free) (hS : va_S A0 H0 H locs) (hA : ∀ q, q < H.size → A1 q → A0 q) (hf : ∀ q, free q → A0 q) (hAX : ∀ q, q < H.size → AX q → A0 q)
    (kx : ∀ (E : String) (ce : Cell) (q9 : Addr) (u : SX) (t : State) (H1 : Heap) (locs1 : List Loc), t.heap = H1 → s.vm.Alike t.vm → px u → BX E u t → H.size ≤ H1.size → (∀ q : Nat, q < H.size → ¬ AX q → H1[q]? = H[q]?) → va_S A0 H0 H1 locs1 → H1[q9]? = some ce → ce.vm = .none → s.vm.findClass E = some ce.cls → vx_W p l e R s m args below meth c H1 locs1 (cells + mc) (slots + ms) Q (F0 m pc ls rest) q9)
    (kk : ∀ (r : UInt32) (u : S) (t : State) (H1 : Heap) (locs1 : List Loc), t.heap = H1 → s.vm.Alike t.vm → post r u → B u t → H.size ≤ H1.size → (∀ q : Nat, q < H.size → ¬ A1 q → H1[q]? = H[q]?) → va_S A0 H0 H1 locs1 → W p l e R s m args below meth c H1 locs1 (cells + mc) (slots + ms) Q (F0 m (pc + 3) ls (.float r :: rest))) : W p l e R s m args below meth c H locs cells slots Q (F0 m pc ls st0) := by
  intro T hT X
  rcases hr T hT X with ⟨v, st₀, t, T', L, h0, X', hL, e1, e2, ⟨⟨r, u, hv, hp, hb⟩, hF⟩, st⟩ | ⟨q, st₀, t, T', L, E, ce, h0, X', hL, e1, e2, ⟨u, hp, hb, hF⟩, hce, hcv, hcl, st⟩
  · cases hv
    obtain ⟨k1, k2, k3⟩ := vx_keep h0 e1 hS hA hf hL hF
    obtain ⟨t2, a1, b1⟩ := kk r u t T'.heap (locs ++ L) e1.symm (by rw [← e2]; exact X'.warmed.alike) hp hb k1 k2 k3 T' rfl X'
    exact ⟨t2, st t2 a1, b1⟩
  · obtain ⟨k1, k2, k3⟩ := vx_keep h0 e1 hS hAX hf hL hF
    obtain ⟨t2, a1, b1⟩ := kx E ce q u t T'.heap (locs ++ L) e1.symm (by rw [← e2]; exact X'.warmed.alike) hp hb k1 k2 k3 (by rw [e1]; exact hce) hcv hcl T' rfl X'
    exact ⟨t2, st.trans a1, b1⟩
theorem vx_calld {S SX : Type} {post : UInt64 → S → Prop} {px : SX → Prop} {B : S → State → Prop} {BX : String → SX → State → Prop} {AX : Nat → Prop} (hr : vx_Run p l e R s m args below meth c H locs cells slots mc ms (F0 m pc ls st0) rest (va_Qd post B A1 a) (vx_X px BX AX) free) (hS : va_S A0 H0 H locs) (hA : ∀ q, q < H.size → A1 q → A0 q) (hf : ∀ q, free q → A0 q) (hAX : ∀ q, q < H.size → AX q → A0 q)
    (kx : ∀ (E : String) (ce : Cell) (q9 : Addr) (u : SX) (t : State) (H1 : Heap) (locs1 : List Loc), t.heap = H1 → s.vm.Alike t.vm → px u → BX E u t → H.size ≤ H1.size → (∀ q : Nat, q < H.size → ¬ AX q → H1[q]? = H[q]?) → va_S A0 H0 H1 locs1 → H1[q9]? = some ce → ce.vm = .none → s.vm.findClass E = some ce.cls → vx_W p l e R s m args below meth c H1 locs1 (cells + mc) (slots + ms) Q (F0 m pc ls rest) q9)
    (kk : ∀ (r : UInt64) (u : S) (t : State) (H1 : Heap) (locs1 : List Loc), t.heap = H1 → s.vm.Alike t.vm → post r u → B u t → H.size ≤ H1.size → (∀ q : Nat, q < H.size → ¬ A1 q → H1[q]? = H[q]?) → va_S A0 H0 H1 locs1 → W p l e R s m args below meth c H1 locs1 (cells + mc) (slots + ms) Q (F0 m (pc + 3) ls (.double r :: rest))) : W p l e R s m args below meth c H locs cells slots Q (F0 m pc ls st0) := by
  intro T hT X
  rcases hr T hT X with ⟨v, st₀, t, T', L, h0, X', hL, e1, e2, ⟨⟨r, u, hv, hp, hb⟩, hF⟩, st⟩ | ⟨q, st₀, t, T', L, E, ce, h0, X', hL, e1, e2, ⟨u, hp, hb, hF⟩, hce, hcv, hcl, st⟩
  · cases hv
    obtain ⟨k1, k2, k3⟩ := vx_keep h0 e1 hS hA hf hL hF
    obtain ⟨t2, a1, b1⟩ := kk r u t T'.heap (locs ++ L) e1.symm (by rw [← e2]; exact X'.warmed.alike) hp hb k1 k2 k3 T' rfl X'
    exact ⟨t2, st t2 a1, b1⟩
  · obtain ⟨k1, k2, k3⟩ := vx_keep h0 e1 hS hAX hf hL hF
    obtain ⟨t2, a1, b1⟩ := kx E ce q u t T'.heap (locs ++ L) e1.symm (by rw [← e2]; exact X'.warmed.alike) hp hb k1 k2 k3 (by rw [e1]; exact hce) hcv hcl T' rfl X'
    exact ⟨t2, st.trans a1, b1⟩
theorem vx_callv {S SX : Type} {post : S → Prop} {px : SX → Prop} {B : S → State → Prop} {BX : String → SX → State → Prop} {AX : Nat → Prop} (hr : vx_Run p l e R s m args below meth c H locs cells slots mc ms (F0 m pc ls st0) rest (va_Qv post B A1 a) (vx_X px BX AX) free) (hS : va_S A0 H0 H locs) (hA : ∀ q, q < H.size → A1 q → A0 q) (hf : ∀ q, free q → A0 q) (hAX : ∀ q, q < H.size → AX q → A0 q)
    (kx : ∀ (E : String) (ce : Cell) (q9 : Addr) (u : SX) (t : State) (H1 : Heap) (locs1 : List Loc), t.heap = H1 → s.vm.Alike t.vm → px u → BX E u t → H.size ≤ H1.size → (∀ q : Nat, q < H.size → ¬ AX q → H1[q]? = H[q]?) → va_S A0 H0 H1 locs1 → H1[q9]? = some ce → ce.vm = .none → s.vm.findClass E = some ce.cls → vx_W p l e R s m args below meth c H1 locs1 (cells + mc) (slots + ms) Q (F0 m pc ls rest) q9)
    (kk : ∀ (u : S) (t : State) (H1 : Heap) (locs1 : List Loc), t.heap = H1 → s.vm.Alike t.vm → post u → B u t → H.size ≤ H1.size → (∀ q : Nat, q < H.size → ¬ A1 q → H1[q]? = H[q]?) → va_S A0 H0 H1 locs1 → W p l e R s m args below meth c H1 locs1 (cells + mc) (slots + ms) Q (F0 m (pc + 3) ls (rest))) : W p l e R s m args below meth c H locs cells slots Q (F0 m pc ls st0) := by
  intro T hT X
  rcases hr T hT X with ⟨v, st₀, t, T', L, h0, X', hL, e1, e2, ⟨⟨u, hv, hp, hb⟩, hF⟩, st⟩ | ⟨q, st₀, t, T', L, E, ce, h0, X', hL, e1, e2, ⟨u, hp, hb, hF⟩, hce, hcv, hcl, st⟩
  · cases hv
    obtain ⟨k1, k2, k3⟩ := vx_keep h0 e1 hS hA hf hL hF
    obtain ⟨t2, a1, b1⟩ := kk u t T'.heap (locs ++ L) e1.symm (by rw [← e2]; exact X'.warmed.alike) hp hb k1 k2 k3 T' rfl X'
    exact ⟨t2, st t2 a1, b1⟩
  · obtain ⟨k1, k2, k3⟩ := vx_keep h0 e1 hS hAX hf hL hF
    obtain ⟨t2, a1, b1⟩ := kx E ce q u t T'.heap (locs ++ L) e1.symm (by rw [← e2]; exact X'.warmed.alike) hp hb k1 k2 k3 (by rw [e1]; exact hce) hcv hcl T' rfl X'
    exact ⟨t2, st.trans a1, b1⟩
end Rows
section Ends
variable {p : Program} {l : Launch} {e : Env} {R : Room} {s : State} {m : MethodId} {args : Array Value} {below : List Frame} {meth : Method} {c : Code} {H : Heap} {locs : List Loc} {cells slots : Nat} {Q : State → Prop}
variable {mc ms : Nat} {free : Addr → Prop} {A0 A1 : Nat → Prop} {H0 : Heap} {a : Array Value} {ls : Array Slot} {st0 rest : List Value}
variable {Qc : Array Value → State → Outcome → State → Prop} {XC : String → State → State → Prop}
/-- what a body that may throw owes at its end -/
def vx_MQ (below : List Frame) (Qc : Array Value → State → Outcome → State → Prop) (XC : String → State → State → Prop) (a : Array Value) (s : State) (mc ms : Nat) (free : Addr → Prop) : State → Prop := fun t =>
  ∃ o, t.status = .running ∧ Ended t below o ∧ vx_Q Qc XC mc ms free a s o t
theorem vx_ret {g : JFrame} {mc ms : Nat} (k : W p l e R s m args below meth c H locs cells slots (MQ below Qc args s mc ms free) g) : W p l e R s m args below meth c H locs cells slots (vx_MQ below Qc XC args s mc ms free) g := by
  intro T hT X
  obtain ⟨t, a1, o, b1, b2, b3, b4⟩ := k T hT X
  exact ⟨t, a1, o, b1, b2, Or.inl ⟨b3, b4⟩⟩
/-- not caught here: it goes on to the caller -/
theorem vx_widen {g : JFrame} {q : Addr} {k n : Nat} (h1 : cells ≤ k) (h2 : slots ≤ n) (kk : vx_W p l e R s m args below meth c H locs k n Q g q) : vx_W p l e R s m args below meth c H locs cells slots Q g q := fun T hT X => kk T hT (stand_widen X h1 h2)
theorem vx_out {pc : Nat} {E : String} {ce : Cell} {q : Addr} {mc ms : Nat} (hout : ∀ x ∈ c.exceptionTable.toList, covers x pc = false) (hlocks : meth.locks = false) (hcell : H[q]? = some ce) (hv : ce.vm = .none) (hcl : s.vm.findClass E = some ce.cls)
    (hx : ∀ t : State, t.heap = H → s.vm.Alike t.vm → XC E s t) (hf : ∀ z ∈ locs, free z.base) (hc : cells ≤ mc) (hs : slots ≤ ms) :
    vx_W p l e R s m args below meth c H locs cells slots (vx_MQ below Qc XC args s mc ms free) (F0 m pc ls rest) q := by
  intro T hT X
  obtain ⟨st1, hrun, hend, hW, hsm⟩ := X.leaveThrown q (g := F0 m pc ls rest) rfl rfl rfl hout hlocks
  have hcell9 : (T.setFrames (.throwing q :: below)).heap[q]? = some ce := by
    show T.heap[q]? = some ce
    rw [hT]; exact hcell
  exact ⟨_, st1, .threw q, hrun, hend, Or.inr ⟨q, rfl, E, ce, locs, hx _ hT hW.alike, hcell9, hv, hcl, hW, hsm.mono hc hs, hf⟩⟩
theorem vx_frame {U : State} {k n : Nat} (h : s.sameButNew ({ U with vm := s.vm } : State) locs k n) : s.heap.size ≤ U.heap.size ∧ ∀ q : Nat, q < s.heap.size → (∀ z ∈ locs, z.base ≠ q) → U.heap[q]? = s.heap[q]? := by
  obtain ⟨-, h2, -, -, -, h6⟩ := h
  refine ⟨h2, fun q hq hz => ?_⟩
  obtain ⟨c9, e1, e2, e3, e4⟩ := h6 q _ (Array.getElem?_eq_getElem hq)
  have hs : c9.slots = (s.heap[q]).slots := Array.ext_getElem? fun i => e4 i fun hm => hz _ hm rfl
  have h9 : c9 = s.heap[q] := by
    rw [hs] at e2
    exact e2
  have e5 : U.heap[q]? = some c9 := e1
  rw [e5, h9, Array.getElem?_eq_getElem hq]
/-- the words of a throw but the four that speak of the heap -/
def vx_no (w : Cond) : Bool := decide (w ≠ .isRef (.static Bundle.tN "UNASSIGNED_STACK" Bundle.steD)) && decide (w ≠ .isRef (.static Bundle.tN "SUPPRESSED_SENTINEL" Bundle.listD)) && decide (w ≠ .laysStatic Bundle.tN "UNASSIGNED_STACK" Bundle.steD) && decide (w ≠ .laysStatic Bundle.tN "SUPPRESSED_SENTINEL" Bundle.listD)
def vx_at0 (own : String) (ic : Nat) (X : String) (names : List String) : List Cond := (Bundle.ownAtoms0 own ic X names).filter vx_no
def vx_atS (own : String) (ic : Nat) (X : String) (names : List String) : List Cond := (Bundle.ownAtoms own ic X names).filter vx_no
/-- a word that the tables alone decide, or a good one -/
def vx_ot (w : Cond) : Bool := w.onTables || goodWord w
theorem vx_ot_at {args a' : Array Value} {s U : State} {w : Cond} (hW : s.WarmedH U.vm) (hvm : s.vm = U.vm) (hg : vx_ot w = true) (h : w.before args s = true) : w.before a' U = true := by
  simp only [vx_ot, Bool.or_eq_true] at hg
  rcases hg with hg | hg
  · exact va_tabs hg hvm h
  · exact word_at hW (good_of_word hg) h
/-- a list's words: the good ones out of the method's own list, the others by premises of their own -/
theorem vx_hat {args : Array Value} {s : State} {L B : List Cond} (h1 : ∀ w ∈ L.filter goodWord, w.before args s = true) (h2 : ∀ w ∈ L.filter (fun w => !goodWord w), w ∈ B) (h3 : ∀ w ∈ B, w.before args s = true) : ∀ w ∈ L, w.before args s = true := by
  intro w hw
  by_cases g : goodWord w = true
  · exact h1 w (List.mem_filter.mpr ⟨hw, g⟩)
  · refine h3 w (h2 w (List.mem_filter.mpr ⟨hw, ?_⟩))
    show (!goodWord w) = true
    cases hgw : goodWord w
    · rfl
    · exact absurd hgw g
theorem vx_c {args : Array Value} {s : State} {w : Cond} {B : List Cond} (h : w.before args s = true) (t : ∀ w ∈ B, w.before args s = true) : ∀ w' ∈ w :: B, w'.before args s = true := fun w' h' => (List.mem_cons.mp h').elim (fun e => by rw [e]; exact h) (t w')
theorem vx_n {args : Array Value} {s : State} : ∀ w ∈ ([] : List Cond), w.before args s = true := fun _ h => nomatch h
theorem vx_own {args : Array Value} {s : State} {L : List Cond} (h1 : ∀ w ∈ L.filter vx_no, w.before args s = true)
    (hU : (Cond.isRef (.static Bundle.tN "UNASSIGNED_STACK" Bundle.steD)).before args s = true) (hN : (Cond.isRef (.static Bundle.tN "SUPPRESSED_SENTINEL" Bundle.listD)).before args s = true)
    (lU : (Cond.laysStatic Bundle.tN "UNASSIGNED_STACK" Bundle.steD).before args s = true) (lN : (Cond.laysStatic Bundle.tN "SUPPRESSED_SENTINEL" Bundle.listD).before args s = true) : ∀ w ∈ L, w.before args s = true := by
  intro w hw
  by_cases e1 : w = .isRef (.static Bundle.tN "UNASSIGNED_STACK" Bundle.steD)
  · rw [e1]; exact hU
  · by_cases e2 : w = .isRef (.static Bundle.tN "SUPPRESSED_SENTINEL" Bundle.listD)
    · rw [e2]; exact hN
    · by_cases e3 : w = .laysStatic Bundle.tN "UNASSIGNED_STACK" Bundle.steD
      · rw [e3]; exact lU
      · by_cases e4 : w = .laysStatic Bundle.tN "SUPPRESSED_SENTINEL" Bundle.listD
        · rw [e4]; exact lN
        · exact h1 w (List.mem_filter.mpr ⟨hw, by unfold vx_no; rw [decide_eq_true e1, decide_eq_true e2, decide_eq_true e3, decide_eq_true e4]; rfl⟩)
/-- where a static field lies, its class's statics cell in H -/
def vx_L (C n d : String) (A : Nat → Prop) (U : State) (H : Heap) : Prop := ∃ (c : ClassId) (k : Class) (i : Nat) (f : Field) (a : Nat) (cell : Cell), U.vm.findClass C = some c ∧ U.fieldFound? C n d = some (c, k, i, f) ∧ f.isStatic = true ∧ k.statics = some a ∧ H[a]? = some cell ∧ cell.vm.isStatics = true ∧ cell.cls = c ∧ f.slot < cell.slots.size ∧ k.staticTypes[f.slot]? = some f.type ∧ ¬ A a
theorem vx_L.moved {C n d : String} {A : Nat → Prop} {u U : State} {H : Heap} (hvm : u.vm.Alike U.vm) (h : vx_L C n d A u H) : vx_L C n d A U H := by
  obtain ⟨c, k, i, f, a, cell, h1, h2, h3, h4, h5, h6, h7, h8, h9, h10⟩ := h
  obtain ⟨k', hi', he⟩ := State.fieldFound?_setVm hvm h2
  exact ⟨c, k', i, f, a, cell, by rw [hvm.findClass]; exact h1, hi', h3, by rw [he]; exact h4, h5, h6, h7, h8, by rw [he]; exact h9, h10⟩
theorem vx_L.kept {C n d : String} {A : Nat → Prop} {U : State} {H H1 : Heap} (h : vx_L C n d A U H) (hq : ∀ a : Nat, a < H.size → ¬ A a → H1[a]? = H[a]?) : vx_L C n d A U H1 := by
  obtain ⟨c, k, i, f, a, cell, h1, h2, h3, h4, h5, h6, h7, h8, h9, h10⟩ := h
  exact ⟨c, k, i, f, a, cell, h1, h2, h3, h4, by rw [hq a (Array.getElem?_eq_some_iff.mp h5).1 h10]; exact h5, h6, h7, h8, h9, h10⟩
theorem vx_L.narrow {C n d : String} {A B : Nat → Prop} {U : State} {H : Heap} (h : vx_L C n d A U H) (hAB : ∀ q, B q → A q) : vx_L C n d B U H := by
  obtain ⟨c, k, i, f, a, cell, h1, h2, h3, h4, h5, h6, h7, h8, h9, h10⟩ := h
  exact ⟨c, k, i, f, a, cell, h1, h2, h3, h4, h5, h6, h7, h8, h9, fun z => h10 (hAB _ z)⟩
theorem vx_L.word {C n d : String} {A : Nat → Prop} {s : State} {args : Array Value} (h : vx_L C n d A s s.heap) : (Cond.laysStatic C n d).before args s = true := by
  obtain ⟨c, k, i, f, a, cell, h1, h2, h3, h4, h5, h6, h7, h8, h9, -⟩ := h
  show (Cond.laysStatic C n d).holds args s none s [] = true
  exact Cond.laysStatic_of h1 h2 h3 h4 h5 h6 h7 h8 h9
/-- .. and what it holds: null or some reference -/
def vx_Zq (C n d : String) (A : Nat → Prop) (U : State) (H : Heap) : Prop := va_Zq C n d A U H ∧ vx_L C n d A U H
theorem vx_Zq.moved {C n d : String} {A : Nat → Prop} {u U : State} {H : Heap} (hvm : u.vm.Alike U.vm) (h : vx_Zq C n d A u H) : vx_Zq C n d A U H := ⟨va_Zq.moved hvm h.1, vx_L.moved hvm h.2⟩
theorem vx_Zq.kept {C n d : String} {A : Nat → Prop} {U : State} {H H1 : Heap} (h : vx_Zq C n d A U H) (hq : ∀ a : Nat, a < H.size → ¬ A a → H1[a]? = H[a]?) : vx_Zq C n d A U H1 := ⟨va_Zq.kept h.1 hq, vx_L.kept h.2 hq⟩
theorem vx_Zq.narrow {C n d : String} {A B : Nat → Prop} {U : State} {H : Heap} (h : vx_Zq C n d A U H) (hAB : ∀ q, B q → A q) : vx_Zq C n d B U H := ⟨va_Zq.narrow h.1 hAB, vx_L.narrow h.2 hAB⟩
theorem vx_Zqof {args : Array Value} {s : State} {C n d : String} {A : Nat → Prop} (hl : (Cond.laysStatic C n d).before args s = true) (hini : (Cond.initialized C).before args s = true) (h : (Cond.isRef (.static C n d)).before args s = true) (hA : ∀ a : Nat, a < s.heap.size → ¬ A a) : vx_Zq C n d A s s.heap := by
  refine ⟨va_Zqof hl hini h hA, ?_⟩
  obtain ⟨c, k, i, f, a, cell, h1, h2, h3, h4, h5, h6, h7, h8, h9⟩ := Cond.laysStatic_spec hl
  exact ⟨c, k, i, f, a, cell, h1, h2, h3, h4, h5, h6, h7, h8, h9, hA a (Array.getElem?_eq_some_iff.mp h5).1⟩
theorem vx_isRef {C n d : String} {v : Value} {A : Nat → Prop} {s : State} {args : Array Value} (h : va_Z C n d v A s s.heap) (hv : v.isRef = true) : (Cond.isRef (.static C n d)).before args s = true := by
  obtain ⟨cf, kf, fi, f, a, cell, h1, h2, h3, h4, h5, h6, h7, -⟩ := h
  have he : (Term.static C n d).eval args s none [] s = some v := by
    simp [Term.eval, State.fieldNamed?, h1, h2, h4, h5, h6, h7]
  simp only [Cond.before, Cond.holds, Cond.value, he]
  cases v <;> simp_all [Value.isRef]
theorem vx_isRefq {C n d : String} {A : Nat → Prop} {s : State} {args : Array Value} (h : va_Zq C n d A s s.heap) : (Cond.isRef (.static C n d)).before args s = true := by
  rcases h with h | ⟨t, h⟩
  · exact vx_isRef h rfl
  · exact vx_isRef h rfl
/-- the same frame, seen from here: as if the method were called anew in this heap -/
theorem vx_rebase {T : State} (X : Stand p l e R s m args below meth c T locs cells slots) {R' : Room} (hf : R'.frames ≤ R.frames) (hl : R'.locals ≤ R.locals) (hc : cells + R'.cells ≤ R.cells) (hs : slots + R'.slots ≤ R.slots) :
    Stand p l e R' ((T.setVm s.vm).setFrames (.invoking m args :: below)) m args below meth c T [] 0 0 := by
  have htop : (T.setVm s.vm).topJava?.isSome := X.here.top
  have hF : ((T.setVm s.vm).setFrames (.invoking m args :: below)).frames = .invoking m args :: below := State.frames_setFrames _ (State.cur_lt_of_top htop)
  obtain ⟨g₀, hg0⟩ := Option.isSome_iff_exists.mp htop
  obtain ⟨r, hr⟩ := State.topJava?_eq_some.mp hg0
  have hl9 : e.platform.stackLimits (T.setVm s.vm).me = e.platform.stackLimits s.me := X.limits
  have hb9 : (T.setVm s.vm).me.stackBytes = s.me.stackBytes := X.bytes
  refine ⟨X.admits, X.cas, X.clock, hF, ?_, X.hears, X.method, X.code, X.here, X.tail, X.warmed, ?_, ?_, ?_⟩
  · have h := X.room
    have hU : ((T.setVm s.vm).setFrames (.invoking m args :: below)).localsInUse = s.localsInUse := by
      rw [State.localsInUse_invoking hF (meth := meth) (c := c) X.method X.code, State.localsInUse_invoking X.frames X.method X.code]
    simp only [State.hasRoom, Bool.and_eq_true, decide_eq_true_eq] at h ⊢
    obtain ⟨⟨⟨⟨h1, h2, h3, h4, h5, h6⟩, h7⟩, h8⟩, h9⟩ := h
    rw [X.frames, List.length_cons] at h2 h3
    have q1 := X.heapSize
    have q2 := X.used
    simp only [hF, hU, List.length_cons, State.stackLimits_setFrames, State.stackBytes_setFrames, hl9, hb9]
    refine ⟨⟨⟨⟨by omega, by omega, by omega, by omega, by omega, h6⟩, ?_⟩, ?_⟩, X.book⟩
    · show T.heap.size + R'.cells ≤ e.platform.maxCells
      omega
    · show T.slotsUsed + R'.slots ≤ e.platform.maxSlots
      omega
  · rw [State.stackLimits_setFrames]; rfl
  · rw [State.stackBytes_setFrames]; rfl
  · refine ⟨?_, Nat.le_refl _, Nat.le_refl _, ?_, ?_, fun a c9 h9 => ⟨c9, h9, rfl, rfl, fun _ _ => rfl⟩⟩
    · obtain ⟨t, ht, -⟩ := State.frames_cons hr
      show T.setVm s.vm = { ((T.setVm s.vm).setFrames (.invoking m args :: below)).setFrames (T.setVm s.vm).frames with heap := T.heap, slotsUsed := T.slotsUsed }
      rw [State.setFrames_setFrames, State.setFrames_self ht]
      rfl
    · show T.slotsUsed = T.slotsUsed + ((T.heap.toList.drop T.heap.size).map (·.slots.size)).sum
      rw [List.drop_eq_nil_of_le (Nat.le_of_eq Array.length_toList)]
      rfl
    · show ((T.heap.toList.drop T.heap.size).map (·.slots.size)).sum ≤ 0
      rw [List.drop_eq_nil_of_le (Nat.le_of_eq Array.length_toList)]
      exact Nat.le_refl _
/-- 'throw new E()': new; dup; invokespecial; athrow -/
theorem vx_throw0 {cc : ByteArray} {pc : Nat} (hexec : p.tables.exec = Jvm.exec) (hb : c.code = cc) (hl : l.stackTraces = false) {own cls : String} {names : List String} {ik ic mc ms : Nat} {A : Nat → Prop}
    (hown : s.vm.findClass own = some m.cls) (hcls : Bundle.fit cls = true) (hnames : ∀ n ∈ names, Bundle.fit n = true)
    (hk : (Cond.classLink own ik cls).before args s = true) (hini : (Cond.initialized cls).before args s = true) (hat : ∀ w ∈ vx_at0 own ic cls names, w.before args s = true)
    (hgood : ∀ w ∈ Cond.classLink own ik cls :: Cond.initialized cls :: vx_at0 own ic cls names, vx_ot w = true)
    (hU : vx_Zq Bundle.tN "UNASSIGNED_STACK" Bundle.steD A s s.heap) (hN : vx_Zq Bundle.tN "SUPPRESSED_SENTINEL" Bundle.listD A s s.heap) (hS : va_S A s.heap H locs) (hsize : ls.size = c.maxLocals)
    (d0 : decode cc pc = .ok (.new ik, 3)) (d3 : decode cc (pc + 3) = .ok (.dup, 1)) (d4 : decode cc (pc + 4) = .ok (.invokespecial ic, 3)) (d7 : decode cc (pc + 7) = .ok (.athrow, 1))
    (hout : ∀ x ∈ c.exceptionTable.toList, covers x (pc + 7) = false)
    (hRframes : names.length + 3 < R.frames) (hRlocals : (rest.map fun v => v.category).sum + (13 * (names.length + 1) + 42) ≤ R.locals) (hRcells : cells + 1 ≤ R.cells) (hRslots : slots + 6 ≤ R.slots) (hlocks : meth.locks = false)
    (hx : ∀ t : State, s.vm.Alike t.vm → H.size ≤ t.heap.size → (∀ q : Nat, q < H.size → t.heap[q]? = H[q]?) → XC cls s t)
    (hf : ∀ z ∈ locs, free z.base) (hc : cells + 1 ≤ mc) (hs : slots + 6 ≤ ms) :
    W p l e R s m args below meth c H locs cells slots (vx_MQ below Qc XC args s mc ms free) (F0 m pc ls rest) := by
  intro T hT X
  have htr : e.platform.stackTraces = false := (show e.platform.stackTraces = l.stackTraces by rw [X.admits.platform]).trans hl
  have Y := vx_rebase X (R' := { frames := R.frames, locals := R.locals, cells := 1, slots := 6 }) (Nat.le_refl _) (Nat.le_refl _) hRcells hRslots
  obtain ⟨s', hA⟩ : ∃ z, z = (T.setVm s.vm).setFrames (.invoking m args :: below) := ⟨_, rfl⟩
  rw [← hA] at Y
  have hvm : s'.vm = s.vm := by rw [hA]; rfl
  have hhp : s'.heap = H := by rw [hA]; exact hT
  have hW0 : s.WarmedH s'.vm := by rw [hvm]; exact State.WarmedH.refl s
  have hat' : ∀ w ∈ vx_at0 own ic cls names, w.before args s' = true := fun w hw => vx_ot_at hW0 hvm.symm (hgood w (List.mem_cons_of_mem _ (List.mem_cons_of_mem _ hw))) (hat w hw)
  have hk' : (Cond.classLink own ik cls).before args s' = true := vx_ot_at hW0 hvm.symm (hgood _ List.mem_cons_self) hk
  have hini' : (Cond.initialized cls).before args s' = true := vx_ot_at hW0 hvm.symm (hgood _ (List.mem_cons_of_mem _ List.mem_cons_self)) hini
  have hU' : vx_Zq Bundle.tN "UNASSIGNED_STACK" Bundle.steD A s' s'.heap := by rw [hhp]; exact vx_Zq.moved hW0.alike (hU.kept hS.2.1)
  have hN' : vx_Zq Bundle.tN "SUPPRESSED_SENTINEL" Bundle.listD A s' s'.heap := by rw [hhp]; exact vx_Zq.moved hW0.alike (hN.kept hS.2.1)
  have h : ∀ w ∈ Bundle.ownAtoms0 own ic cls names, w.before args s' = true := vx_own hat' (vx_isRefq hU'.1) (vx_isRefq hN'.1) hU'.2.word hN'.2.word
  have hown' : s'.vm.findClass own = some m.cls := by rw [hvm]; exact hown
  have hins : (Cond.instantiable cls 6).before args s' = true := h _ (by simp [Bundle.ownAtoms0])
  obtain ⟨vm₁, cX, kX, hfX, hkX, -, -, X₁, st1⟩ := Y.newCold hexec (own := own) (C := cls) (index := ik) (n := 6) hown' hk' hins hini'
    (g := F0 m pc ls rest) rfl (by rw [hb]; exact d0) (Nat.le_refl _) (Nat.le_refl _)
  generalize hT1 : (T.setVm vm₁).pushCell { cls := cX, slots := kX.instanceTypes.map defaultValue, vm := .none } = T1 at X₁ st1
  have hcat : (Value.ref T.heap.size).category = 1 := rfl
  have hcellA : T1.heap[T.heap.size]? = some (freshCell cX kX) := by rw [← hT1]; exact State.heap_pushCell_size _ _
  have d3' : decode c.code (pc + 3) = .ok (.dup, 1) := by rw [hb]; exact d3
  obtain ⟨U, hsteps, hrun, hend, hW, hsame, ce, hce, hO⟩ := X₁.ctorThrow0 hexec htr (own := own) (cls := cls) (names := names) (ic := ic) hown' hcls hnames h (fun x hx => nomatch hx) hfX hkX hcellA (by rw [hhp, hT]; exact Nat.le_refl _)
    (g := { method := m, pc := pc + 4, locals := ls, stack := .ref T.heap.size :: .ref T.heap.size :: rest, locked := none }) rfl hsize rfl rfl (rest := rest) rfl
    (by rw [hb]; exact d4) (by rw [hb]; exact d7) hout hRframes (by simp only [List.map_cons, List.sum_cons, hcat]; omega) hlocks
  obtain ⟨f1, f2⟩ := vx_frame hsame
  rw [hhp] at f1 f2
  have hWs : s.WarmedH U.vm := State.WarmedH.trans hW0 hW
  have hcl : s.vm.findClass cls = some ce.cls := by
    have h9 := hO.cls
    rw [hvm] at h9
    exact h9
  have hall : s.sameButNew ({ U with vm := s.vm } : State) locs mc ms := by
    subst hA
    obtain ⟨e1, e2⟩ := hsame
    rw [State.setFrames_setFrames] at e1
    have h2 : (T.setVm s.vm).sameButNew ({ U with vm := s.vm } : State) [] (0 + 1) (0 + 6) := ⟨e1, e2⟩
    have h3 := X.same.trans h2
    rw [List.append_nil] at h3
    exact h3.mono hc hs
  refine ⟨U, ?_, .threw T.heap.size, hrun, hend, Or.inr ⟨T.heap.size, rfl, cls, ce, locs, hx U hWs.alike f1 (fun q hq => f2 q hq (fun z hz => nomatch hz)), hce, hO.vm, hcl, hWs, hall, hf⟩⟩
  refine st1 _ ?_
  show Steps p.tables e below (T1.setTop { method := m, pc := pc + 3, locals := ls, stack := .ref T.heap.size :: rest, locked := none }) _
  jvm_step X₁.here [X₁.here.top, hexec, d3', Value.category]
  exact hsteps
/-- 'throw new E("text")': new; dup; ldc; invokespecial; athrow -/
theorem vx_throwS {cc : ByteArray} {pc : Nat} (hexec : p.tables.exec = Jvm.exec) (hb : c.code = cc) (hl : l.stackTraces = false) {own cls text : String} {names : List String} {ik is ic mc ms sa : Nat} {A : Nat → Prop}
    (hown : s.vm.findClass own = some m.cls) (hcls : Bundle.fit cls = true) (hnames : ∀ n ∈ names, Bundle.fit n = true)
    (hk : (Cond.classLink own ik cls).before args s = true) (hini : (Cond.initialized cls).before args s = true) (hstr : vk_R own is text sa s) (hat : ∀ w ∈ vx_atS own ic cls names, w.before args s = true)
    (hgood : ∀ w ∈ Cond.classLink own ik cls :: Cond.initialized cls :: vx_atS own ic cls names, vx_ot w = true)
    (hU : vx_Zq Bundle.tN "UNASSIGNED_STACK" Bundle.steD A s s.heap) (hN : vx_Zq Bundle.tN "SUPPRESSED_SENTINEL" Bundle.listD A s s.heap) (hS : va_S A s.heap H locs) (hsize : ls.size = c.maxLocals)
    (d0 : decode cc pc = .ok (.new ik, 3)) (d3 : decode cc (pc + 3) = .ok (.dup, 1)) (d4 : decode cc (pc + 4) = .ok (.ldc is, 2)) (d6 : decode cc (pc + 6) = .ok (.invokespecial ic, 3)) (d9 : decode cc (pc + 9) = .ok (.athrow, 1))
    (hout : ∀ x ∈ c.exceptionTable.toList, covers x (pc + 9) = false)
    (hRframes : names.length + 3 < R.frames) (hRlocals : (rest.map fun v => v.category).sum + (13 * (names.length + 1) + 43) ≤ R.locals) (hRcells : cells + 1 ≤ R.cells) (hRslots : slots + 6 ≤ R.slots) (hlocks : meth.locks = false)
    (hx : ∀ t : State, s.vm.Alike t.vm → H.size ≤ t.heap.size → (∀ q : Nat, q < H.size → t.heap[q]? = H[q]?) → XC cls s t)
    (hf : ∀ z ∈ locs, free z.base) (hc : cells + 1 ≤ mc) (hs : slots + 6 ≤ ms) :
    W p l e R s m args below meth c H locs cells slots (vx_MQ below Qc XC args s mc ms free) (F0 m pc ls rest) := by
  intro T hT X
  have htr : e.platform.stackTraces = false := (show e.platform.stackTraces = l.stackTraces by rw [X.admits.platform]).trans hl
  have Y := vx_rebase X (R' := { frames := R.frames, locals := R.locals, cells := 1, slots := 6 }) (Nat.le_refl _) (Nat.le_refl _) hRcells hRslots
  obtain ⟨s', hA⟩ : ∃ z, z = (T.setVm s.vm).setFrames (.invoking m args :: below) := ⟨_, rfl⟩
  rw [← hA] at Y
  have hvm : s'.vm = s.vm := by rw [hA]; rfl
  have hhp : s'.heap = H := by rw [hA]; exact hT
  have hW0 : s.WarmedH s'.vm := by rw [hvm]; exact State.WarmedH.refl s
  have hat' : ∀ w ∈ vx_atS own ic cls names, w.before args s' = true := fun w hw => vx_ot_at hW0 hvm.symm (hgood w (List.mem_cons_of_mem _ (List.mem_cons_of_mem _ hw))) (hat w hw)
  have hk' : (Cond.classLink own ik cls).before args s' = true := vx_ot_at hW0 hvm.symm (hgood _ List.mem_cons_self) hk
  have hini' : (Cond.initialized cls).before args s' = true := vx_ot_at hW0 hvm.symm (hgood _ (List.mem_cons_of_mem _ List.mem_cons_self)) hini
  have hU' : vx_Zq Bundle.tN "UNASSIGNED_STACK" Bundle.steD A s' s'.heap := by rw [hhp]; exact vx_Zq.moved hW0.alike (hU.kept hS.2.1)
  have hN' : vx_Zq Bundle.tN "SUPPRESSED_SENTINEL" Bundle.listD A s' s'.heap := by rw [hhp]; exact vx_Zq.moved hW0.alike (hN.kept hS.2.1)
  have h : ∀ w ∈ Bundle.ownAtoms own ic cls names, w.before args s' = true := vx_own hat' (vx_isRefq hU'.1) (vx_isRefq hN'.1) hU'.2.word hN'.2.word
  have hown' : s'.vm.findClass own = some m.cls := by rw [hvm]; exact hown
  have hins : (Cond.instantiable cls 6).before args s' = true := h _ (by simp [Bundle.ownAtoms])
  obtain ⟨vm₁, cX, kX, hfX, hkX, -, -, X₁, st1⟩ := Y.newCold hexec (own := own) (C := cls) (index := ik) (n := 6) hown' hk' hins hini'
    (g := F0 m pc ls rest) rfl (by rw [hb]; exact d0) (Nat.le_refl _) (Nat.le_refl _)
  generalize hT1 : (T.setVm vm₁).pushCell { cls := cX, slots := kX.instanceTypes.map defaultValue, vm := .none } = T1 at X₁ st1
  have hcat : (Value.ref T.heap.size).category = 1 := rfl
  have hcellA : T1.heap[T.heap.size]? = some (freshCell cX kX) := by rw [← hT1]; exact State.heap_pushCell_size _ _
  have d3' : decode c.code (pc + 3) = .ok (.dup, 1) := by rw [hb]; exact d3
  have d4' : decode c.code (pc + 4) = .ok (.ldc is, 2) := by rw [hb]; exact d4
  have hstr' : vk_R own is text sa s' := vk_R.warm hW0 hstr
  obtain ⟨U, hsteps, hrun, hend, hW, hsame, ce, hce, hO⟩ := X₁.ctorThrowS hexec htr (own := own) (cls := cls) (names := names) (ic := ic) hown' hcls hnames h (fun x hx => nomatch hx) hfX hkX hcellA (by rw [hhp, hT]; exact Nat.le_refl _) (msg := .ref sa) rfl
    (g := { method := m, pc := pc + 6, locals := ls, stack := .ref sa :: .ref T.heap.size :: .ref T.heap.size :: rest, locked := none }) rfl hsize rfl rfl (rest := rest) rfl
    (by rw [hb]; exact d6) (by rw [hb]; exact d9) hout hRframes (by simp only [List.map_cons, List.sum_cons, hcat]; omega) hlocks
  obtain ⟨f1, f2⟩ := vx_frame hsame
  rw [hhp] at f1 f2
  have hWs : s.WarmedH U.vm := State.WarmedH.trans hW0 hW
  have hcl : s.vm.findClass cls = some ce.cls := by
    have h9 := hO.cls
    rw [hvm] at h9
    exact h9
  have hall : s.sameButNew ({ U with vm := s.vm } : State) locs mc ms := by
    subst hA
    obtain ⟨e1, e2⟩ := hsame
    rw [State.setFrames_setFrames] at e1
    have h2 : (T.setVm s.vm).sameButNew ({ U with vm := s.vm } : State) [] (0 + 1) (0 + 6) := ⟨e1, e2⟩
    have h3 := X.same.trans h2
    rw [List.append_nil] at h3
    exact h3.mono hc hs
  refine ⟨U, ?_, .threw T.heap.size, hrun, hend, Or.inr ⟨T.heap.size, rfl, cls, ce, locs, hx U hWs.alike f1 (fun q hq => f2 q hq (fun z hz => nomatch hz)), hce, hO.vm, hcl, hWs, hall, hf⟩⟩
  refine st1 _ ?_
  show Steps p.tables e below (T1.setTop { method := m, pc := pc + 3, locals := ls, stack := .ref T.heap.size :: rest, locked := none }) _
  jvm_step X₁.here [X₁.here.top, hexec, d3', Value.category]
  exact X₁.ldcString hexec (own := own) (text := text) (index := is) (a := sa) hown' hstr'.1 hstr'.2
    (g := { method := m, pc := pc + 4, locals := ls, stack := .ref T.heap.size :: .ref T.heap.size :: rest, locked := none }) rfl d4' _ hsteps
/-- 'throw new E("text")', the text by a wide index -/
theorem vx_throwSW {cc : ByteArray} {pc : Nat} (hexec : p.tables.exec = Jvm.exec) (hb : c.code = cc) (hl : l.stackTraces = false) {own cls text : String} {names : List String} {ik is ic mc ms sa : Nat} {A : Nat → Prop}
    (hown : s.vm.findClass own = some m.cls) (hcls : Bundle.fit cls = true) (hnames : ∀ n ∈ names, Bundle.fit n = true)
    (hk : (Cond.classLink own ik cls).before args s = true) (hini : (Cond.initialized cls).before args s = true) (hstr : vk_R own is text sa s) (hat : ∀ w ∈ vx_atS own ic cls names, w.before args s = true)
    (hgood : ∀ w ∈ Cond.classLink own ik cls :: Cond.initialized cls :: vx_atS own ic cls names, vx_ot w = true)
    (hU : vx_Zq Bundle.tN "UNASSIGNED_STACK" Bundle.steD A s s.heap) (hN : vx_Zq Bundle.tN "SUPPRESSED_SENTINEL" Bundle.listD A s s.heap) (hS : va_S A s.heap H locs) (hsize : ls.size = c.maxLocals)
    (d0 : decode cc pc = .ok (.new ik, 3)) (d3 : decode cc (pc + 3) = .ok (.dup, 1)) (d4 : decode cc (pc + 4) = .ok (.ldc_w is, 3)) (d7 : decode cc (pc + 7) = .ok (.invokespecial ic, 3)) (d10 : decode cc (pc + 10) = .ok (.athrow, 1))
    (hout : ∀ x ∈ c.exceptionTable.toList, covers x (pc + 10) = false)
    (hRframes : names.length + 3 < R.frames) (hRlocals : (rest.map fun v => v.category).sum + (13 * (names.length + 1) + 43) ≤ R.locals) (hRcells : cells + 1 ≤ R.cells) (hRslots : slots + 6 ≤ R.slots) (hlocks : meth.locks = false)
    (hx : ∀ t : State, s.vm.Alike t.vm → H.size ≤ t.heap.size → (∀ q : Nat, q < H.size → t.heap[q]? = H[q]?) → XC cls s t)
    (hf : ∀ z ∈ locs, free z.base) (hc : cells + 1 ≤ mc) (hs : slots + 6 ≤ ms) :
    W p l e R s m args below meth c H locs cells slots (vx_MQ below Qc XC args s mc ms free) (F0 m pc ls rest) := by
  intro T hT X
  have htr : e.platform.stackTraces = false := (show e.platform.stackTraces = l.stackTraces by rw [X.admits.platform]).trans hl
  have Y := vx_rebase X (R' := { frames := R.frames, locals := R.locals, cells := 1, slots := 6 }) (Nat.le_refl _) (Nat.le_refl _) hRcells hRslots
  obtain ⟨s', hA⟩ : ∃ z, z = (T.setVm s.vm).setFrames (.invoking m args :: below) := ⟨_, rfl⟩
  rw [← hA] at Y
  have hvm : s'.vm = s.vm := by rw [hA]; rfl
  have hhp : s'.heap = H := by rw [hA]; exact hT
  have hW0 : s.WarmedH s'.vm := by rw [hvm]; exact State.WarmedH.refl s
  have hat' : ∀ w ∈ vx_atS own ic cls names, w.before args s' = true := fun w hw => vx_ot_at hW0 hvm.symm (hgood w (List.mem_cons_of_mem _ (List.mem_cons_of_mem _ hw))) (hat w hw)
  have hk' : (Cond.classLink own ik cls).before args s' = true := vx_ot_at hW0 hvm.symm (hgood _ List.mem_cons_self) hk
  have hini' : (Cond.initialized cls).before args s' = true := vx_ot_at hW0 hvm.symm (hgood _ (List.mem_cons_of_mem _ List.mem_cons_self)) hini
  have hU' : vx_Zq Bundle.tN "UNASSIGNED_STACK" Bundle.steD A s' s'.heap := by rw [hhp]; exact vx_Zq.moved hW0.alike (hU.kept hS.2.1)
  have hN' : vx_Zq Bundle.tN "SUPPRESSED_SENTINEL" Bundle.listD A s' s'.heap := by rw [hhp]; exact vx_Zq.moved hW0.alike (hN.kept hS.2.1)
  have h : ∀ w ∈ Bundle.ownAtoms own ic cls names, w.before args s' = true := vx_own hat' (vx_isRefq hU'.1) (vx_isRefq hN'.1) hU'.2.word hN'.2.word
  have hown' : s'.vm.findClass own = some m.cls := by rw [hvm]; exact hown
  have hins : (Cond.instantiable cls 6).before args s' = true := h _ (by simp [Bundle.ownAtoms])
  obtain ⟨vm₁, cX, kX, hfX, hkX, -, -, X₁, st1⟩ := Y.newCold hexec (own := own) (C := cls) (index := ik) (n := 6) hown' hk' hins hini'
    (g := F0 m pc ls rest) rfl (by rw [hb]; exact d0) (Nat.le_refl _) (Nat.le_refl _)
  generalize hT1 : (T.setVm vm₁).pushCell { cls := cX, slots := kX.instanceTypes.map defaultValue, vm := .none } = T1 at X₁ st1
  have hcat : (Value.ref T.heap.size).category = 1 := rfl
  have hcellA : T1.heap[T.heap.size]? = some (freshCell cX kX) := by rw [← hT1]; exact State.heap_pushCell_size _ _
  have d3' : decode c.code (pc + 3) = .ok (.dup, 1) := by rw [hb]; exact d3
  have d4' : decode c.code (pc + 4) = .ok (.ldc_w is, 3) := by rw [hb]; exact d4
  have hstr' : vk_R own is text sa s' := vk_R.warm hW0 hstr
  obtain ⟨U, hsteps, hrun, hend, hW, hsame, ce, hce, hO⟩ := X₁.ctorThrowS hexec htr (own := own) (cls := cls) (names := names) (ic := ic) hown' hcls hnames h (fun x hx => nomatch hx) hfX hkX hcellA (by rw [hhp, hT]; exact Nat.le_refl _) (msg := .ref sa) rfl
    (g := { method := m, pc := pc + 7, locals := ls, stack := .ref sa :: .ref T.heap.size :: .ref T.heap.size :: rest, locked := none }) rfl hsize rfl rfl (rest := rest) rfl
    (by rw [hb]; exact d7) (by rw [hb]; exact d10) hout hRframes (by simp only [List.map_cons, List.sum_cons, hcat]; omega) hlocks
  obtain ⟨f1, f2⟩ := vx_frame hsame
  rw [hhp] at f1 f2
  have hWs : s.WarmedH U.vm := State.WarmedH.trans hW0 hW
  have hcl : s.vm.findClass cls = some ce.cls := by
    have h9 := hO.cls
    rw [hvm] at h9
    exact h9
  have hall : s.sameButNew ({ U with vm := s.vm } : State) locs mc ms := by
    subst hA
    obtain ⟨e1, e2⟩ := hsame
    rw [State.setFrames_setFrames] at e1
    have h2 : (T.setVm s.vm).sameButNew ({ U with vm := s.vm } : State) [] (0 + 1) (0 + 6) := ⟨e1, e2⟩
    have h3 := X.same.trans h2
    rw [List.append_nil] at h3
    exact h3.mono hc hs
  refine ⟨U, ?_, .threw T.heap.size, hrun, hend, Or.inr ⟨T.heap.size, rfl, cls, ce, locs, hx U hWs.alike f1 (fun q hq => f2 q hq (fun z hz => nomatch hz)), hce, hO.vm, hcl, hWs, hall, hf⟩⟩
  refine st1 _ ?_
  show Steps p.tables e below (T1.setTop { method := m, pc := pc + 3, locals := ls, stack := .ref T.heap.size :: rest, locked := none }) _
  jvm_step X₁.here [X₁.here.top, hexec, d3', Value.category]
  exact X₁.ldcStringW hexec (own := own) (text := text) (index := is) (a := sa) hown' hstr'.1 hstr'.2
    (g := { method := m, pc := pc + 4, locals := ls, stack := .ref T.heap.size :: .ref T.heap.size :: rest, locked := none }) rfl d4' _ hsteps
end Ends
section Bodies
variable {l : Launch}
theorem vx_ofW {y : MethodName} {ws ws' : List Cond} {rm : Room} {Pc : Array Value → State → Prop} {Qc : Array Value → State → Outcome → State → Prop} {XC : String → State → State → Prop} {mc ms : Nat} {free : Addr → Prop} {cc : ByteArray} {maxL : Nat} {ret : Option FieldType}
    (hy : plainName y.cls = true) (hw : ws = Cond.code y cc maxL ret :: ws')
    (body : ∀ p e s m args below meth c s₁, BodyLoose p l y (headSpec ws rm) cc maxL ret e s m args below meth c s₁ → c.maxLocals = maxL → (∀ x ∈ c.exceptionTable.toList, False) → Pc args s →
      W p l e (headSpec ws rm).room s m args below meth c s.heap [] 0 0 (vx_MQ below Qc XC args s mc ms free) (entryFrame m args maxL)) : vx_Met l y ws rm Pc Qc XC mc ms free := by
  refine MetFree.of_bodyS (code := cc) (maxLocals := maxL) (ret := ret) hy ?_ ?_
  · intro args s m h hn
    obtain ⟨meth, c, h1, h2, h3, h4, h5, h6, -, -⟩ := Cond.code_spec hn (atoms_spec (ws := ws) h _ (by rw [hw]; exact List.mem_cons_self))
    exact ⟨meth, c, h1, h2, h3, h4, h5, h6⟩
  · intro p e s m args below meth c s₁ B hml hP _
    have hh0 : s₁.heap = s.heap := by rw [B.state]; rfl
    have ht : ∀ x ∈ c.exceptionTable.toList, False := by
      obtain ⟨meth9, c9, h1, h2, -, -, -, -, h7, -⟩ := Cond.code_spec B.named (atoms_spec (ws := ws) B.pre _ (by rw [hw]; exact List.mem_cons_self))
      cases Option.some.inj (h1.symm.trans B.method)
      cases Option.some.inj (h2.symm.trans (Stand.of_body B).code)
      intro x hx
      rw [Array.isEmpty_iff.mp h7] at hx
      cases hx
    obtain ⟨t, a1, o, b1, b2, b3⟩ := body p e s m args below meth c s₁ B hml ht hP s₁ hh0 (Stand.of_body B)
    exact ⟨t, o, a1, b1, b2, b3⟩
/-- the table of a body with handlers -/
theorem vx_table {p : Program} {x y : MethodName} {S : Spec} {cc bytes : ByteArray} {maxL maxL' : Nat} {ret ret' : Option FieldType} {e : Env} {s s₁ : State} {m : MethodId} {args : Array Value} {below : List Frame} {meth : Method} {c : Code} {hh : List (Nat × Nat × Nat × Nat)}
    (B : BodyLoose p l y S cc maxL ret e s m args below meth c s₁) (h : (Cond.codeWith y bytes maxL' ret' hh).before args s = true) : c.exceptionTable.toList = tableOf hh := by
  obtain ⟨m9, meth9, c9, hn9, h1, h2, -, -, h6, -⟩ := Cond.codeWith_spec h
  cases Option.some.inj (hn9.symm.trans B.named)
  cases Option.some.inj (h1.symm.trans B.method)
  cases Option.some.inj (h2.symm.trans (Stand.of_body B).code)
  rw [← h6, table_eq]
end Bodies
end VXA
/-! ===== END ===== -/
/-! ===== BEGIN a static call of a method with an exception table ===== -/
section VXS
variable {p : Program} {l : Launch} {e : Env} {R : Room} {s : State} {m : MethodId} {args : Array Value} {below : List Frame} {meth : Method} {c : Code} {T : State} {H : Heap} {locs : List Loc} {cells slots : Nat}
abbrev vx_CSW (R : Room) (s : State) (args : Array Value) (own : String) (index : Nat) (y : MethodName) (bytes : ByteArray) (maxL : Nat) (ret : Option FieldType) (hh : List (Nat × Nat × Nat × Nat)) (ws : List Cond) (rm : Room) (mc ms n : Nat) : Prop :=
  (rm.cells = mc ∧ rm.slots = ms ∧ rm.frames + 1 ≤ R.frames ∧ 8 + (maxL + 11) + rm.locals ≤ R.locals ∧ (∀ w ∈ ws, ∀ (a' : Array Value) (U : State), s.WarmedH U.vm → w.before a' U = true) ∧ Cond.codeWith y bytes maxL ret hh ∈ ws) ∧
  (Cond.codeWith y bytes maxL ret hh).before args s = true ∧ (Cond.initialized y.cls).before args s = true ∧ (y.cls ≠ "java/lang/invoke/MethodHandle" ∧ y.cls ≠ "java/lang/invoke/VarHandle") ∧
  (∀ sig, parseMethodDescriptor y.desc = some sig → n = sig.parameters.length) ∧ (Cond.methodLink own index y).before args s = true ∧ (Cond.static y).before args s = true
theorem vx_cwSW {own : String} {index maxL mc ms : Nat} {y : MethodName} {bytes : ByteArray} {ret : Option FieldType} {hh : List (Nat × Nat × Nat × Nat)} {Ts ws ws' : List Cond} {rm : Room} (n : Nat) (ht : ∀ w ∈ Ts, w.before args s = true) (hT : GoodIn Ts (va_wsS own index y ws)) (hw : ws = Cond.codeWith y bytes maxL ret hh :: ws') (hrc : rm.cells = mc) (hrs : rm.slots = ms)
    (hd : y.cls ≠ "java/lang/invoke/MethodHandle" ∧ y.cls ≠ "java/lang/invoke/VarHandle" ∧ (parseMethodDescriptor y.desc).map (fun d => d.parameters.length) = some n) (hR : rm.frames + 1 ≤ R.frames ∧ 8 + (maxL + 11) + rm.locals ≤ R.locals) :
    vx_CSW R s args own index y bytes maxL ret hh ws rm mc ms n := by
  have ok : ∀ w ∈ va_wsS own index y ws, w.before args s = true := fun w h => ht w (hT w h).1
  have hG : GoodIn Ts ws := fun w h => hT w (by unfold va_wsS; exact List.mem_append_right _ h)
  have hc : Cond.codeWith y bytes maxL ret hh ∈ ws := by rw [hw]; exact List.mem_cons_self
  refine ⟨⟨hrc, hrs, hR.1, hR.2, pay_in ht hG, hc⟩, ht _ (hG _ hc).1, ok _ (by simp [va_wsS]), ⟨hd.1, hd.2.1⟩, fun sig h => ?_, ok _ (by simp [va_wsS]), ok _ (by simp [va_wsS])⟩
  have h2 := hd.2.2
  rw [h] at h2
  exact (Option.some.inj h2).symm
theorem vx_callSW (X : Stand p l e R s m args below meth c T locs cells slots) (hexec : p.tables.exec = Jvm.exec) {own : String} {index : Nat} {y : MethodName} {bytes : ByteArray} {maxL : Nat} {ret : Option FieldType} {hh : List (Nat × Nat × Nat × Nat)}
    (hown : s.vm.findClass own = some m.cls) (hlink : (Cond.methodLink own index y).before args s = true) (hstat : (Cond.static y).before args s = true) (hinit : (Cond.initialized y.cls).before args s = true)
    (hcode : (Cond.codeWith y bytes maxL ret hh).before args s = true) (hy : y.cls ≠ "java/lang/invoke/MethodHandle" ∧ y.cls ≠ "java/lang/invoke/VarHandle")
    {W9 : Nat} {Pre : Pt → Array Value → Prop} {Post : Pt → Array Value → Option Value → Pt → Prop} (hK : Back l R p e below s args y 3 W9 Pre Post)
    {g : JFrame} (hg : g.method = m) (hsize : g.locals.size = c.maxLocals) {argsL rest : List Value} (hlen : ∀ sig, parseMethodDescriptor y.desc = some sig → argsL.length = sig.parameters.length)
    (hstack : g.stack = argsL.reverse ++ rest) (hW : 2 * g.monitorRoom + (rest.map fun v => v.category).sum ≤ W9) (hdg : decode c.code g.pc = .ok (.invokestatic index, 3))
    (hpre : ∀ vm₁, s.WarmedH vm₁ → Pre ⟨T.setVm vm₁, locs, cells, slots⟩ argsL.toArray) :
    ∃ (v : Option Value) (vm₁ : Vm) (B : Pt), s.WarmedH vm₁ ∧ Stand p l e R s m args below meth c B.U B.locs B.cells B.slots ∧ Post ⟨T.setVm vm₁, locs, cells, slots⟩ argsL.toArray v B ∧
      ∀ target, Steps p.tables e below (B.U.setTop { g with pc := g.pc + 3, stack := v.toList ++ rest }) target → Steps p.tables e below (T.setTop g) target := by
  obtain ⟨mk, methM, cM, hnamed, hmethM, -, -, -, -, -, -, hsigM⟩ := Cond.codeWith_spec hcode
  have hstatic : methM.isStatic = true := Cond.static_spec hnamed hmethM hstat
  obtain ⟨kP, hkP, -⟩ := className_of_methodNamed hnamed
  have hinitP : kP.init = .initialized := Cond.initialized_spec (findClass_of_methodNamed hnamed) hkP hinit
  obtain ⟨vm₁, X₁, hstep₁⟩ := X.invokestatic hexec hown hlink hnamed hmethM hstatic hkP hinitP hy (g := g) hg (argsL := argsL) (rest := rest) (hlen _ hsigM) hstack hdg
  obtain ⟨v, B, X', hpost, hsteps⟩ := hK m meth c ⟨T.setVm vm₁, locs, cells, slots⟩ { g with stack := rest } (.invokestatic index) mk argsL.toArray X₁ hg hsize hdg hW (X₁.named hnamed) (hpre vm₁ X₁.warmed)
  exact ⟨v, vm₁, B, X₁.warmed, X', hpost, fun target h => hstep₁ _ fun acts => by rw [doInvoke_state]; exact hsteps.trans h⟩
theorem vx_runSW {y : MethodName} {bytes cc : ByteArray} {maxL nL mc ms n index : Nat} {ret : Option FieldType} {hh : List (Nat × Nat × Nat × Nat)} {ws : List Cond} {rm : Room} {Pc : Array Value → State → Prop} {Qc : Array Value → State → Outcome → State → Prop} {free : Addr → Prop} {Ts : List Cond} {own : String} {As rest : List Value} {g : JFrame}
    (S : CallFix p m c cc nL s args Ts own) (hM : Met l y ws rm Pc Qc mc ms free) (cw : vx_CSW R s args own index y bytes maxL ret hh ws rm mc ms n) (hp : PreS s H Pc As)
    (hg : g.method = m) (hn : As.length = n) (hsize : g.locals.size = nL) (hstack : g.stack = As.reverse ++ rest) (hW : 2 * g.monitorRoom + (rest.map fun v => v.category).sum ≤ 8) (hdg : decode cc g.pc = .ok (.invokestatic index, 3)) (hf : cells + mc ≤ R.cells ∧ slots + ms ≤ R.slots) :
    va_Run p l e R s m args below meth c H locs cells slots mc ms g rest (Qc As.toArray) (free) := by
  obtain ⟨⟨hrc, hrs, hfr, hlo, hws, hcw⟩, hcode, hini, hy, hlen, hl, hstt⟩ := cw
  have hK : Back l R p e below s args y 3 8 (PreOf R mc ms Pc) (PostOf Qc mc ms free) := va_backW (hh := hh) (bytes := bytes) (maxL := maxL) (ret := ret) hM hp.1 hrc hrs hfr hlo hws hcw (fun a' U hW => word_at hW (Or.inl (by first | rfl | simp [Cond.onTables, Cond.keeps, Cond.steady])) hini)
  obtain ⟨hx, hb, hml, ho, -⟩ := S
  intro T hT X
  obtain ⟨v, vm₁, ⟨U', l2, c2, s2⟩, hW₁, X', ⟨g', mk, t, L, e1, e2, hq, h1, hL, h2, h3⟩, st⟩ := vx_callSW X hx (hh := hh) (bytes := bytes) (maxL := maxL) (ret := ret) ho hl hstt hini hcode hy hK hg (hsize.trans hml.symm) (argsL := As) (rest := rest) (fun sig h => hn.trans (hlen sig h)) hstack hW (by rw [hb]; exact hdg)
    (fun vm₁ hW₁ => ⟨hf.1, hf.2, hp.2 (T.setVm vm₁) hT hW₁⟩)
  dsimp only [Pt.U, Pt.locs, Pt.cells, Pt.slots] at X' e1 e2 h1 h2 h3 st
  subst h1; subst h2; subst h3
  exact ⟨v, (T.setVm vm₁).calling g' mk As.toArray, t, U', L, hT, X', hL, e1, e2, hq, st⟩
/-- a thing of a world lies in the heap -/
theorem vx_lt {D : va_G} {cl : List vw_C} {ws : va_W} {H1 : Heap} (h : va_P D cl ws H1) {k : Nat} {q : Nat × va_E} (hk : ws[k]? = some q) : q.1 < H1.size := (h k q hk).lt
end VXS
/-! ===== END ===== -/
/-! ===== BEGIN methods with a table of their own: called by a name, returning or throwing ===== -/
section VXH
/-! vx_backW, vx_callVX, vx_callSX, vx_callVW, vx_runVW, vx_runVX, vx_runSX, vx_ofWH follow the same proofs as their sisters above (Free/Laws.lean, Shelf42/LK1.lean); vx_outP calls Shelf42/NT130.lean (outThrough). -/
section
variable {l : Launch} {R : Room} {p : Program} {e : Env} {below : List Frame} {s : State} {sargs : Array Value} {y : MethodName} {len W9 : Nat}
theorem vx_backW {ws : List Cond} {rm : Room} {Pc : Array Value → State → Prop} {Qc : Array Value → State → Outcome → State → Prop} {XC : String → State → State → Prop} {mc ms : Nat} {free : Addr → Prop} {bytes : ByteArray} {maxL : Nat} {ret : Option FieldType} {hh : List (Nat × Nat × Nat × Nat)}
    (hM : vx_Met l y ws rm Pc Qc XC mc ms free) (hblind : FrameBlind Pc) (hrc : rm.cells = mc) (hrs : rm.slots = ms)
    (hframes : rm.frames + 1 ≤ R.frames) (hlocals : W9 + (maxL + 11) + rm.locals ≤ R.locals)
    (hws : ∀ w ∈ ws, ∀ a' U, s.WarmedH U.vm → w.before a' U = true) (hcode : Cond.codeWith y bytes maxL ret hh ∈ ws) (hinit : ∀ a' U, s.WarmedH U.vm → (Cond.initialized y.cls).before a' U = true) :
    vx_Back l R p e below s sargs y len W9 (PreOf R mc ms Pc) (PostOf Qc mc ms free) (vx_Post XC mc ms free) := by
  intro m meth c A g ig mk a X hg hsize hdg hW hn hp
  have h1 : (headSpec ws rm).pre.before a A.U = true := atoms_intro fun w hw => hws w hw _ _ X.warmed
  have h2 : (Cond.codeWith y bytes maxL ret hh).before a A.U = true := hws _ hcode _ _ X.warmed
  have h3 : (Cond.initialized y.cls).before a A.U = true := hinit _ _ X.warmed
  have h4 : A.cells + (headSpec ws rm).room.cells ≤ R.cells := by rw [show (headSpec ws rm).room.cells = mc from hrc]; exact hp.1
  have h5 : A.slots + (headSpec ws rm).room.slots ≤ R.slots := by rw [show (headSpec ws rm).room.slots = ms from hrs]; exact hp.2.1
  have hPc : Pc a (A.U.calling g mk a) := hblind _ _ _ _ hp.2.2
  obtain ⟨U, Ls, c0, s0⟩ := A
  dsimp only [Pt.U, Pt.locs, Pt.cells, Pt.slots] at h1 h2 h3 h4 h5 X hn hPc ⊢
  obtain ⟨m9, methY, cY, hn9, hmY, hcY, -, hlY, -⟩ := Cond.codeWith_spec h2
  cases Option.some.inj (hn9.symm.trans hn)
  obtain ⟨kY, hkY, -⟩ := className_of_methodNamed hn
  have hinitY : kY.init = .initialized := Cond.initialized_spec (findClass_of_methodNamed hn) hkY h3
  have h : At U g.method c below := by rw [hg]; exact X.here
  have hlocals9 : W9 + (maxL + 11) + (headSpec ws rm).room.locals ≤ R.locals := hlocals
  have happ : (headSpec ws rm).appliesLoose y e.platform (U.calling g mk a) = true :=
    Spec.appliesLoose_calling (g := g) h hdg hn hkY hinitY
      (X.room_calling (g := g) (R' := (headSpec ws rm).room) hsize hmY hcY hframes (by rw [hlY]; omega) h4 h5) h1
  obtain ⟨mid, hmid⟩ := h.above
  have hfr : (U.setTop g).frames = (.java g :: mid) ++ below := by rw [State.frames_setTop' g h.top, hmid]; rfl
  obtain ⟨o, s₂, hsteps, -, hend, hq⟩ := Steps.callFree hM p X.admits X.cas X.clock (acts := []) hfr happ hPc trivial
  have hq' : vx_Q Qc XC mc ms free a (U.calling g mk a) o s₂ := hq
  rw [State.frames_setTop' g h.top] at hend
  obtain ⟨g₀, hg0⟩ := Option.isSome_iff_exists.mp h.top
  obtain ⟨r, hr⟩ := State.topJava?_eq_some.mp hg0
  have hr' : (({ U with heap := s₂.heap, slotsUsed := s₂.slotsUsed } : State).setVm s₂.vm).frames = .java g₀ :: r := hr
  rcases hq' with ⟨hqc, L, hfe, hL⟩ | ⟨q, rfl, E, ce, L, hx, hce, hcv, hcl, hW₂, hsm, hL⟩
  · obtain ⟨⟨v, rfl⟩, hW₂, e2, q2, q3, q4, q5, q6⟩ := id hfe
    have e3 : s₂ = ({ (U.calling g mk a).setFrames s₂.frames with heap := s₂.heap, slotsUsed := s₂.slotsUsed } : State).setVm s₂.vm := by
      have : s₂ = ({ s₂ with vm := (U.calling g mk a).vm } : State).setVm s₂.vm := rfl
      rw [e2] at this
      exact this
    obtain ⟨c₂, i₂, len₂, hc₂, hd₂, hf₂⟩ := hend
    have hW' : U.WarmedH s₂.vm := hW₂
    have hcc : c₂ = c := by
      have h1 : s₂.code? g.method = U.code? g.method := by
        rw [State.code?_eq, State.code?_eq, hW'.alike.method?]
      exact Option.some.inj (hc₂.symm.trans (h1.trans h.code))
    subst hcc
    have hlen : len₂ = len := by rw [hdg] at hd₂; cases hd₂; rfl
    subst hlen
    have hs₂ : s₂ = (({ U with heap := s₂.heap, slotsUsed := s₂.slotsUsed } : State).setVm s₂.vm).setTop { g with pc := g.pc + len₂, stack := v.toList ++ g.stack } := by
      refine e3.trans ?_
      rw [hf₂, State.calling_eq h.top, State.setFrames_setFrames, State.setTop_of_frames _ hr', hr]
      rfl
    have hsame : U.sameButNew ({ U with heap := s₂.heap, slotsUsed := s₂.slotsUsed } : State) L mc ms := by
      refine ⟨?_, q2, q3, q4, q5, q6⟩
      obtain ⟨t, ht, -⟩ := State.frames_cons hr
      show ({ U with heap := s₂.heap, slotsUsed := s₂.slotsUsed } : State) = { U.setFrames U.frames with heap := s₂.heap, slotsUsed := s₂.slotsUsed }
      rw [State.setFrames_self ht]
    subst hg
    refine Or.inl ⟨v, ⟨(({ U with heap := s₂.heap, slotsUsed := s₂.slotsUsed } : State).setVm s₂.vm), Ls ++ L, c0 + mc, s0 + ms⟩,
      ⟨X.admits, X.cas, X.clock, X.frames, X.room, X.hears, X.method, X.code, (X.here.setHeapUsed s₂.heap s₂.slotsUsed).setVm hW'.alike, X.tail, State.WarmedH.trans X.warmed hW', X.limits, X.bytes, X.same.trans (hsame.setVm s.vm)⟩,
      ⟨g, mk, s₂, L, rfl, rfl, hqc, rfl, hL, rfl, rfl⟩, ?_⟩
    show Steps p.tables e below _ ((({ U with heap := s₂.heap, slotsUsed := s₂.slotsUsed } : State).setVm s₂.vm).setTop { g with pc := g.pc + len₂, stack := v.toList ++ g.stack })
    rw [← hs₂]
    exact hsteps
  · obtain ⟨e2, q2, q3, q4, q5, q6⟩ := id hsm
    have e3 : s₂ = ({ (U.calling g mk a).setFrames s₂.frames with heap := s₂.heap, slotsUsed := s₂.slotsUsed } : State).setVm s₂.vm := by
      have : s₂ = ({ s₂ with vm := (U.calling g mk a).vm } : State).setVm s₂.vm := rfl
      rw [e2] at this
      exact this
    have hf₂ : s₂.frames = .throwing q :: .java g :: U.frames.tail := hend
    have hW' : U.WarmedH s₂.vm := hW₂
    have hs₂ : s₂ = ((({ U with heap := s₂.heap, slotsUsed := s₂.slotsUsed } : State).setVm s₂.vm).setTop g).pushFrame (.throwing q) := by
      refine e3.trans ?_
      rw [hf₂, State.calling_eq h.top, State.setFrames_setFrames, State.pushFrame, State.frames_setTop _ hr', State.setTop_of_frames _ hr', State.setFrames_setFrames, hr]
      rfl
    have hsame : U.sameButNew ({ U with heap := s₂.heap, slotsUsed := s₂.slotsUsed } : State) L mc ms := by
      refine ⟨?_, q2, q3, q4, q5, q6⟩
      obtain ⟨t, ht, -⟩ := State.frames_cons hr
      show ({ U with heap := s₂.heap, slotsUsed := s₂.slotsUsed } : State) = { U.setFrames U.frames with heap := s₂.heap, slotsUsed := s₂.slotsUsed }
      rw [State.setFrames_self ht]
    subst hg
    refine Or.inr ⟨q, ⟨(({ U with heap := s₂.heap, slotsUsed := s₂.slotsUsed } : State).setVm s₂.vm), Ls ++ L, c0 + mc, s0 + ms⟩,
      ⟨X.admits, X.cas, X.clock, X.frames, X.room, X.hears, X.method, X.code, (X.here.setHeapUsed s₂.heap s₂.slotsUsed).setVm hW'.alike, X.tail, State.WarmedH.trans X.warmed hW', X.limits, X.bytes, X.same.trans (hsame.setVm s.vm)⟩,
      ⟨g, mk, s₂, L, E, ce, rfl, rfl, hx, hce, hcv, hcl, rfl, hL, rfl, rfl⟩, ?_⟩
    show Steps p.tables e below _ (((({ U with heap := s₂.heap, slotsUsed := s₂.slotsUsed } : State).setVm s₂.vm).setTop g).pushFrame (.throwing q))
    rw [← hs₂]
    exact hsteps
end
variable {p : Program} {l : Launch} {e : Env} {R : Room} {s : State} {m : MethodId} {args : Array Value} {below : List Frame} {meth : Method} {c : Code} {T : State} {H : Heap} {locs : List Loc} {cells slots : Nat}
theorem vx_callVX (X : Stand p l e R s m args below meth c T locs cells slots) (hexec : p.tables.exec = Jvm.exec) {own C : String} {index : Nat} {y : MethodName} {bytes : ByteArray} {maxL : Nat} {ret : Option FieldType} {hh : List (Nat × Nat × Nat × Nat)}
    (hown : s.vm.findClass own = some m.cls) (hlink : (Cond.methodLink own index y).before args s = true) (hinst : (Cond.instanceMethod y).before args s = true) (hsel : (Cond.selects C y y).before args s = true)
    (hcode : (Cond.codeWith y bytes maxL ret hh).before args s = true) (hy : y.cls ≠ "java/lang/invoke/MethodHandle" ∧ y.cls ≠ "java/lang/invoke/VarHandle")
    {W9 : Nat} {Pre : Pt → Array Value → Prop} {Post : Pt → Array Value → Option Value → Pt → Prop} {PostX : Pt → Array Value → Addr → Pt → Prop} (hK : vx_Back l R p e below s args y 3 W9 Pre Post PostX)
    {b : Addr} {cellB : Cell} (hcell : T.heap[b]? = some cellB) (hobj : cellB.vm.isStatics = false) (hcls : s.vm.findClass C = some cellB.cls)
    {g : JFrame} (hg : g.method = m) (hsize : g.locals.size = c.maxLocals) {argsL rest : List Value} (hlen : ∀ sig, parseMethodDescriptor y.desc = some sig → argsL.length = sig.parameters.length)
    (hstack : g.stack = argsL.reverse ++ .ref b :: rest) (hW : 2 * g.monitorRoom + (rest.map fun v => v.category).sum ≤ W9) (hdg : decode c.code g.pc = .ok (.invokevirtual index, 3))
    (hpre : ∀ vm₁, s.WarmedH vm₁ → Pre ⟨T.setVm vm₁, locs, cells, slots⟩ (Value.ref b :: argsL).toArray) :
    (∃ (v : Option Value) (vm₁ : Vm) (B : Pt), s.WarmedH vm₁ ∧ Stand p l e R s m args below meth c B.U B.locs B.cells B.slots ∧ Post ⟨T.setVm vm₁, locs, cells, slots⟩ (Value.ref b :: argsL).toArray v B ∧
      ∀ target, Steps p.tables e below (B.U.setTop { g with pc := g.pc + 3, stack := v.toList ++ rest }) target → Steps p.tables e below (T.setTop g) target) ∨
    (∃ (q : Addr) (vm₁ : Vm) (B : Pt), s.WarmedH vm₁ ∧ Stand p l e R s m args below meth c B.U B.locs B.cells B.slots ∧ PostX ⟨T.setVm vm₁, locs, cells, slots⟩ (Value.ref b :: argsL).toArray q B ∧
      Steps p.tables e below (T.setTop g) ((B.U.setTop { g with stack := rest }).pushFrame (.throwing q))) := by
  obtain ⟨mk, methM, hnamed, hmethM, hstM, habM⟩ := Cond.instanceMethod_spec hinst
  obtain ⟨m8, methM', cM, hn8, hmethM', -, -, -, -, -, -, hsigM⟩ := Cond.codeWith_spec hcode
  cases Option.some.inj (hn8.symm.trans hnamed)
  cases hmethM.symm.trans hmethM'
  obtain ⟨c2, r2, m2, q1, q2, q3, q4, kP, hkP, hkPi⟩ := Cond.selects_spec hsel
  cases hcls.symm.trans q1
  cases (State.methodFound?_of_named hnamed hy).symm.trans q2
  cases hnamed.symm.trans q3
  have hselP : selectMethod e.platform s.vm cellB.cls mk = .method mk := by rw [Launch.admits_selectMethod X.admits]; exact q4
  obtain ⟨vm₁, X₁, hstep₁⟩ := X.invokevirtual hexec hown hlink hnamed hmethM hstM hkP hkPi hy (a := b) (cell := cellB) hcell
    (fun z h => by rw [h] at hobj; cases hobj) hselP hmethM habM hkP hkPi (g := g) hg (argsL := argsL) (rest := rest) (hlen _ hsigM) hstack hdg
  rcases hK m meth c ⟨T.setVm vm₁, locs, cells, slots⟩ { g with stack := rest } (.invokevirtual index) mk (Value.ref b :: argsL).toArray X₁ hg hsize hdg hW (X₁.named hnamed) (hpre vm₁ X₁.warmed) with ⟨v, B, X', hpost, hsteps⟩ | ⟨q, B, X', hpost, hsteps⟩
  · exact Or.inl ⟨v, vm₁, B, X₁.warmed, X', hpost, fun target h => hstep₁ _ fun acts => by rw [doInvoke_state]; exact hsteps.trans h⟩
  · exact Or.inr ⟨q, vm₁, B, X₁.warmed, X', hpost, hstep₁ _ fun acts => by rw [doInvoke_state]; exact hsteps⟩
theorem vx_callSX (X : Stand p l e R s m args below meth c T locs cells slots) (hexec : p.tables.exec = Jvm.exec) {own : String} {index : Nat} {y : MethodName} {bytes : ByteArray} {maxL : Nat} {ret : Option FieldType} {hh : List (Nat × Nat × Nat × Nat)}
    (hown : s.vm.findClass own = some m.cls) (hlink : (Cond.methodLink own index y).before args s = true) (hstat : (Cond.static y).before args s = true) (hinit : (Cond.initialized y.cls).before args s = true)
    (hcode : (Cond.codeWith y bytes maxL ret hh).before args s = true) (hy : y.cls ≠ "java/lang/invoke/MethodHandle" ∧ y.cls ≠ "java/lang/invoke/VarHandle")
    {W9 : Nat} {Pre : Pt → Array Value → Prop} {Post : Pt → Array Value → Option Value → Pt → Prop} {PostX : Pt → Array Value → Addr → Pt → Prop} (hK : vx_Back l R p e below s args y 3 W9 Pre Post PostX)
    {g : JFrame} (hg : g.method = m) (hsize : g.locals.size = c.maxLocals) {argsL rest : List Value} (hlen : ∀ sig, parseMethodDescriptor y.desc = some sig → argsL.length = sig.parameters.length)
    (hstack : g.stack = argsL.reverse ++ rest) (hW : 2 * g.monitorRoom + (rest.map fun v => v.category).sum ≤ W9) (hdg : decode c.code g.pc = .ok (.invokestatic index, 3))
    (hpre : ∀ vm₁, s.WarmedH vm₁ → Pre ⟨T.setVm vm₁, locs, cells, slots⟩ argsL.toArray) :
    (∃ (v : Option Value) (vm₁ : Vm) (B : Pt), s.WarmedH vm₁ ∧ Stand p l e R s m args below meth c B.U B.locs B.cells B.slots ∧ Post ⟨T.setVm vm₁, locs, cells, slots⟩ argsL.toArray v B ∧
      ∀ target, Steps p.tables e below (B.U.setTop { g with pc := g.pc + 3, stack := v.toList ++ rest }) target → Steps p.tables e below (T.setTop g) target) ∨
    (∃ (q : Addr) (vm₁ : Vm) (B : Pt), s.WarmedH vm₁ ∧ Stand p l e R s m args below meth c B.U B.locs B.cells B.slots ∧ PostX ⟨T.setVm vm₁, locs, cells, slots⟩ argsL.toArray q B ∧
      Steps p.tables e below (T.setTop g) ((B.U.setTop { g with stack := rest }).pushFrame (.throwing q))) := by
  obtain ⟨mk, methM, cM, hnamed, hmethM, -, -, -, -, -, -, hsigM⟩ := Cond.codeWith_spec hcode
  have hstatic : methM.isStatic = true := Cond.static_spec hnamed hmethM hstat
  obtain ⟨kP, hkP, -⟩ := className_of_methodNamed hnamed
  have hinitP : kP.init = .initialized := Cond.initialized_spec (findClass_of_methodNamed hnamed) hkP hinit
  obtain ⟨vm₁, X₁, hstep₁⟩ := X.invokestatic hexec hown hlink hnamed hmethM hstatic hkP hinitP hy (g := g) hg (argsL := argsL) (rest := rest) (hlen _ hsigM) hstack hdg
  rcases hK m meth c ⟨T.setVm vm₁, locs, cells, slots⟩ { g with stack := rest } (.invokestatic index) mk argsL.toArray X₁ hg hsize hdg hW (X₁.named hnamed) (hpre vm₁ X₁.warmed) with ⟨v, B, X', hpost, hsteps⟩ | ⟨q, B, X', hpost, hsteps⟩
  · exact Or.inl ⟨v, vm₁, B, X₁.warmed, X', hpost, fun target h => hstep₁ _ fun acts => by rw [doInvoke_state]; exact hsteps.trans h⟩
  · exact Or.inr ⟨q, vm₁, B, X₁.warmed, X', hpost, hstep₁ _ fun acts => by rw [doInvoke_state]; exact hsteps⟩
theorem vx_callVW (X : Stand p l e R s m args below meth c T locs cells slots) (hexec : p.tables.exec = Jvm.exec) {own C : String} {index : Nat} {y : MethodName} {bytes : ByteArray} {maxL : Nat} {ret : Option FieldType} {hh : List (Nat × Nat × Nat × Nat)}
    (hown : s.vm.findClass own = some m.cls) (hlink : (Cond.methodLink own index y).before args s = true) (hinst : (Cond.instanceMethod y).before args s = true) (hsel : (Cond.selects C y y).before args s = true)
    (hcode : (Cond.codeWith y bytes maxL ret hh).before args s = true) (hy : y.cls ≠ "java/lang/invoke/MethodHandle" ∧ y.cls ≠ "java/lang/invoke/VarHandle")
    {W9 : Nat} {Pre : Pt → Array Value → Prop} {Post : Pt → Array Value → Option Value → Pt → Prop} (hK : Back l R p e below s args y 3 W9 Pre Post)
    {b : Addr} {cellB : Cell} (hcell : T.heap[b]? = some cellB) (hobj : cellB.vm.isStatics = false) (hcls : s.vm.findClass C = some cellB.cls)
    {g : JFrame} (hg : g.method = m) (hsize : g.locals.size = c.maxLocals) {argsL rest : List Value} (hlen : ∀ sig, parseMethodDescriptor y.desc = some sig → argsL.length = sig.parameters.length)
    (hstack : g.stack = argsL.reverse ++ .ref b :: rest) (hW : 2 * g.monitorRoom + (rest.map fun v => v.category).sum ≤ W9) (hdg : decode c.code g.pc = .ok (.invokevirtual index, 3))
    (hpre : ∀ vm₁, s.WarmedH vm₁ → Pre ⟨T.setVm vm₁, locs, cells, slots⟩ (Value.ref b :: argsL).toArray) :
    ∃ (v : Option Value) (vm₁ : Vm) (B : Pt), s.WarmedH vm₁ ∧ Stand p l e R s m args below meth c B.U B.locs B.cells B.slots ∧ Post ⟨T.setVm vm₁, locs, cells, slots⟩ (Value.ref b :: argsL).toArray v B ∧
      ∀ target, Steps p.tables e below (B.U.setTop { g with pc := g.pc + 3, stack := v.toList ++ rest }) target → Steps p.tables e below (T.setTop g) target := by
  obtain ⟨mk, methM, hnamed, hmethM, hstM, habM⟩ := Cond.instanceMethod_spec hinst
  obtain ⟨m8, methM', cM, hn8, hmethM', -, -, -, -, -, -, hsigM⟩ := Cond.codeWith_spec hcode
  cases Option.some.inj (hn8.symm.trans hnamed)
  cases hmethM.symm.trans hmethM'
  obtain ⟨c2, r2, m2, q1, q2, q3, q4, kP, hkP, hkPi⟩ := Cond.selects_spec hsel
  cases hcls.symm.trans q1
  cases (State.methodFound?_of_named hnamed hy).symm.trans q2
  cases hnamed.symm.trans q3
  have hselP : selectMethod e.platform s.vm cellB.cls mk = .method mk := by rw [Launch.admits_selectMethod X.admits]; exact q4
  obtain ⟨vm₁, X₁, hstep₁⟩ := X.invokevirtual hexec hown hlink hnamed hmethM hstM hkP hkPi hy (a := b) (cell := cellB) hcell
    (fun z h => by rw [h] at hobj; cases hobj) hselP hmethM habM hkP hkPi (g := g) hg (argsL := argsL) (rest := rest) (hlen _ hsigM) hstack hdg
  obtain ⟨v, B, X', hpost, hsteps⟩ := hK m meth c ⟨T.setVm vm₁, locs, cells, slots⟩ { g with stack := rest } (.invokevirtual index) mk (Value.ref b :: argsL).toArray X₁ hg hsize hdg hW (X₁.named hnamed) (hpre vm₁ X₁.warmed)
  exact ⟨v, vm₁, B, X₁.warmed, X', hpost, fun target h => hstep₁ _ fun acts => by rw [doInvoke_state]; exact hsteps.trans h⟩
abbrev vx_CVW (R : Room) (s : State) (args : Array Value) (own C : String) (index : Nat) (y : MethodName) (bytes : ByteArray) (maxL : Nat) (ret : Option FieldType) (hh : List (Nat × Nat × Nat × Nat)) (ws : List Cond) (rm : Room) (mc ms n : Nat) : Prop :=
  (rm.cells = mc ∧ rm.slots = ms ∧ rm.frames + 1 ≤ R.frames ∧ 8 + (maxL + 11) + rm.locals ≤ R.locals ∧ (∀ w ∈ ws, ∀ (a' : Array Value) (U : State), s.WarmedH U.vm → w.before a' U = true) ∧ Cond.codeWith y bytes maxL ret hh ∈ ws) ∧
  (Cond.codeWith y bytes maxL ret hh).before args s = true ∧ (Cond.initialized y.cls).before args s = true ∧ (y.cls ≠ "java/lang/invoke/MethodHandle" ∧ y.cls ≠ "java/lang/invoke/VarHandle") ∧
  (∀ sig, parseMethodDescriptor y.desc = some sig → n = sig.parameters.length) ∧ (Cond.methodLink own index y).before args s = true ∧ (Cond.instanceMethod y).before args s = true ∧ (Cond.selects C y y).before args s = true
theorem vx_cwVW {own C : String} {index maxL mc ms : Nat} {y : MethodName} {bytes : ByteArray} {ret : Option FieldType} {hh : List (Nat × Nat × Nat × Nat)} {Ts ws ws' : List Cond} {rm : Room} (n : Nat) (ht : ∀ w ∈ Ts, w.before args s = true) (hT : GoodIn Ts (wsV own index C y ws)) (hw : ws = Cond.codeWith y bytes maxL ret hh :: ws') (hrc : rm.cells = mc) (hrs : rm.slots = ms)
    (hd : y.cls = C ∧ y.cls ≠ "java/lang/invoke/MethodHandle" ∧ y.cls ≠ "java/lang/invoke/VarHandle" ∧ (parseMethodDescriptor y.desc).map (fun d => d.parameters.length) = some n) (hR : rm.frames + 1 ≤ R.frames ∧ 8 + (maxL + 11) + rm.locals ≤ R.locals) :
    vx_CVW R s args own C index y bytes maxL ret hh ws rm mc ms n := by
  obtain ⟨hC, hd⟩ := hd
  subst hC
  have ok : ∀ w ∈ wsV own index y.cls y ws, w.before args s = true := fun w h => ht w (hT w h).1
  have hG : GoodIn Ts ws := fun w h => hT w (by unfold wsV; exact List.mem_append_right _ h)
  have hc : Cond.codeWith y bytes maxL ret hh ∈ ws := by rw [hw]; exact List.mem_cons_self
  refine ⟨⟨hrc, hrs, hR.1, hR.2, pay_in ht hG, hc⟩, ht _ (hG _ hc).1, ok _ (by simp [wsV]), ⟨hd.1, hd.2.1⟩, fun sig h => ?_, ok _ (by simp [wsV]), ok _ (by simp [wsV]), ok _ (by simp [wsV])⟩
  have h2 := hd.2.2
  rw [h] at h2
  exact (Option.some.inj h2).symm
theorem vx_runVW {y : MethodName} {bytes cc : ByteArray} {maxL nL mc ms n index : Nat} {ret : Option FieldType} {hh : List (Nat × Nat × Nat × Nat)} {ws : List Cond} {rm : Room} {Pc : Array Value → State → Prop} {Qc : Array Value → State → Outcome → State → Prop} {free : Addr → Prop} {Ts : List Cond} {own C : String} {b : Addr} {As rest : List Value} {g : JFrame}
    (S : CallFix p m c cc nL s args Ts own) (hM : Met l y ws rm Pc Qc mc ms free) (cw : vx_CVW R s args own C index y bytes maxL ret hh ws rm mc ms n) (hp : PreV s H C b Pc As)
    (hg : g.method = m) (hn : As.length = n) (hsize : g.locals.size = nL) (hstack : g.stack = As.reverse ++ .ref b :: rest) (hW : 2 * g.monitorRoom + (rest.map fun v => v.category).sum ≤ 8) (hdg : decode cc g.pc = .ok (.invokevirtual index, 3)) (hf : cells + mc ≤ R.cells ∧ slots + ms ≤ R.slots) :
    va_Run p l e R s m args below meth c H locs cells slots mc ms g rest (Qc (Value.ref b :: As).toArray) free := by
  obtain ⟨⟨hrc, hrs, hfr, hlo, hws, hcw⟩, hcode, hini, hy, hlen, hl, hin, hse⟩ := cw
  have hK : Back l R p e below s args y 3 8 (PreOf R mc ms Pc) (PostOf Qc mc ms free) := va_backW (hh := hh) (bytes := bytes) (maxL := maxL) (ret := ret) hM hp.1 hrc hrs hfr hlo hws hcw (fun a' U hW => word_at hW (Or.inl (by first | rfl | simp [Cond.onTables, Cond.keeps, Cond.steady])) hini)
  obtain ⟨hx, hb, hml, ho, -⟩ := S
  obtain ⟨-, ⟨cellB, hcB, hoB, hclB⟩, hPc⟩ := hp
  intro T hT X
  obtain ⟨v, vm₁, ⟨U', l2, c2, s2⟩, hW₁, X', ⟨g', mk, t, L, e1, e2, hq, h1, hL, h2, h3⟩, st⟩ := vx_callVW X hx (C := C) (hh := hh) (bytes := bytes) (maxL := maxL) (ret := ret) ho hl hin hse hcode hy hK (by rw [hT]; exact hcB) hoB hclB hg (hsize.trans hml.symm) (argsL := As) (rest := rest) (fun sig h => hn.trans (hlen sig h)) hstack hW (by rw [hb]; exact hdg)
    (fun vm₁ hW₁ => ⟨hf.1, hf.2, hPc (T.setVm vm₁) hT hW₁⟩)
  dsimp only [Pt.U, Pt.locs, Pt.cells, Pt.slots] at X' e1 e2 h1 h2 h3 st
  subst h1; subst h2; subst h3
  exact ⟨v, (T.setVm vm₁).calling g' mk (Value.ref b :: As).toArray, t, U', L, hT, X', hL, e1, e2, hq, st⟩
section
variable {y : MethodName} {bytes cc : ByteArray} {maxL nL mc ms n index : Nat} {ret : Option FieldType} {ws : List Cond} {rm : Room} {Pc : Array Value → State → Prop} {Qc : Array Value → State → Outcome → State → Prop} {XC : String → State → State → Prop} {free : Addr → Prop} {Ts : List Cond} {own C : String} {b : Addr} {As rest : List Value} {g : JFrame}
theorem vx_runVX {hh : List (Nat × Nat × Nat × Nat)} (S : CallFix p m c cc nL s args Ts own) (hM : vx_Met l y ws rm Pc Qc XC mc ms free) (cw : vx_CVW R s args own C index y bytes maxL ret hh ws rm mc ms n) (hp : PreV s H C b Pc As)
    (hg : g.method = m) (hn : As.length = n) (hsize : g.locals.size = nL) (hstack : g.stack = As.reverse ++ .ref b :: rest) (hW : 2 * g.monitorRoom + (rest.map fun v => v.category).sum ≤ 8) (hdg : decode cc g.pc = .ok (.invokevirtual index, 3)) (hf : cells + mc ≤ R.cells ∧ slots + ms ≤ R.slots) :
    vx_Run p l e R s m args below meth c H locs cells slots mc ms g rest (Qc (Value.ref b :: As).toArray) XC free := by
  obtain ⟨⟨hrc, hrs, hfr, hlo, hws, hcw⟩, hcode, hini, hy, hlen, hl, hin, hse⟩ := cw
  have hK : vx_Back l R p e below s args y 3 8 (PreOf R mc ms Pc) (PostOf Qc mc ms free) (vx_Post XC mc ms free) := vx_backW (hh := hh) (bytes := bytes) (maxL := maxL) (ret := ret) hM hp.1 hrc hrs hfr hlo hws hcw (fun a' U hW => word_at hW (Or.inl (by first | rfl | simp [Cond.onTables, Cond.keeps, Cond.steady])) hini)
  obtain ⟨hx, hb, hml, ho, -⟩ := S
  obtain ⟨-, ⟨cellB, hcB, hoB, hclB⟩, hPc⟩ := hp
  intro T hT X
  rcases vx_callVX X hx (C := C) (hh := hh) (bytes := bytes) (maxL := maxL) (ret := ret) ho hl hin hse hcode hy hK (by rw [hT]; exact hcB) hoB hclB hg (hsize.trans hml.symm) (argsL := As) (rest := rest) (fun sig h => hn.trans (hlen sig h)) hstack hW (by rw [hb]; exact hdg)
    (fun vm₁ hW₁ => ⟨hf.1, hf.2, hPc (T.setVm vm₁) hT hW₁⟩) with ⟨v, vm₁, ⟨U', l2, c2, s2⟩, hW₁, X', ⟨g', mk, t, L, e1, e2, hq, h1, hL, h2, h3⟩, st⟩ | ⟨q, vm₁, ⟨U', l2, c2, s2⟩, hW₁, X', ⟨g', mk, t, L, E, ce, e1, e2, hq, hce, hcv, hcl, h1, hL, h2, h3⟩, st⟩
  · dsimp only [Pt.U, Pt.locs, Pt.cells, Pt.slots] at X' e1 e2 h1 h2 h3 st
    subst h1; subst h2; subst h3
    exact Or.inl ⟨v, (T.setVm vm₁).calling g' mk (Value.ref b :: As).toArray, t, U', L, hT, X', hL, e1, e2, hq, st⟩
  · dsimp only [Pt.U, Pt.locs, Pt.cells, Pt.slots] at X' e1 e2 h1 h2 h3 st hcl
    subst h1; subst h2; subst h3
    exact Or.inr ⟨q, (T.setVm vm₁).calling g' mk (Value.ref b :: As).toArray, t, U', L, E, ce, hT, X', hL, e1, e2, hq, hce, hcv, vx_cls hW₁ hcl, st⟩
theorem vx_runSX {hh : List (Nat × Nat × Nat × Nat)} (S : CallFix p m c cc nL s args Ts own) (hM : vx_Met l y ws rm Pc Qc XC mc ms free) (cw : vx_CSW R s args own index y bytes maxL ret hh ws rm mc ms n) (hp : PreS s H Pc As)
    (hg : g.method = m) (hn : As.length = n) (hsize : g.locals.size = nL) (hstack : g.stack = As.reverse ++ rest) (hW : 2 * g.monitorRoom + (rest.map fun v => v.category).sum ≤ 8) (hdg : decode cc g.pc = .ok (.invokestatic index, 3)) (hf : cells + mc ≤ R.cells ∧ slots + ms ≤ R.slots) :
    vx_Run p l e R s m args below meth c H locs cells slots mc ms g rest (Qc As.toArray) XC free := by
  obtain ⟨⟨hrc, hrs, hfr, hlo, hws, hcw⟩, hcode, hini, hy, hlen, hl, hstt⟩ := cw
  have hK : vx_Back l R p e below s args y 3 8 (PreOf R mc ms Pc) (PostOf Qc mc ms free) (vx_Post XC mc ms free) := vx_backW (hh := hh) (bytes := bytes) (maxL := maxL) (ret := ret) hM hp.1 hrc hrs hfr hlo hws hcw (fun a' U hW => word_at hW (Or.inl (by first | rfl | simp [Cond.onTables, Cond.keeps, Cond.steady])) hini)
  obtain ⟨hx, hb, hml, ho, -⟩ := S
  intro T hT X
  rcases vx_callSX X hx (hh := hh) (bytes := bytes) (maxL := maxL) (ret := ret) ho hl hstt hini hcode hy hK hg (hsize.trans hml.symm) (argsL := As) (rest := rest) (fun sig h => hn.trans (hlen sig h)) hstack hW (by rw [hb]; exact hdg)
    (fun vm₁ hW₁ => ⟨hf.1, hf.2, hp.2 (T.setVm vm₁) hT hW₁⟩) with ⟨v, vm₁, ⟨U', l2, c2, s2⟩, hW₁, X', ⟨g', mk, t, L, e1, e2, hq, h1, hL, h2, h3⟩, st⟩ | ⟨q, vm₁, ⟨U', l2, c2, s2⟩, hW₁, X', ⟨g', mk, t, L, E, ce, e1, e2, hq, hce, hcv, hcl, h1, hL, h2, h3⟩, st⟩
  · dsimp only [Pt.U, Pt.locs, Pt.cells, Pt.slots] at X' e1 e2 h1 h2 h3 st
    subst h1; subst h2; subst h3
    exact Or.inl ⟨v, (T.setVm vm₁).calling g' mk As.toArray, t, U', L, hT, X', hL, e1, e2, hq, st⟩
  · dsimp only [Pt.U, Pt.locs, Pt.cells, Pt.slots] at X' e1 e2 h1 h2 h3 st hcl
    subst h1; subst h2; subst h3
    exact Or.inr ⟨q, (T.setVm vm₁).calling g' mk As.toArray, t, U', L, E, ce, hT, X', hL, e1, e2, hq, hce, hcv, vx_cls hW₁ hcl, st⟩
end
end VXH
theorem vx_ofWH {l : Launch} {y : MethodName} {ws ws' : List Cond} {rm : Room} {Pc : Array Value → State → Prop} {Qc : Array Value → State → Outcome → State → Prop} {XC : String → State → State → Prop} {mc ms : Nat} {free : Addr → Prop} {cc : ByteArray} {maxL : Nat} {ret : Option FieldType} {hh : List (Nat × Nat × Nat × Nat)}
    (hy : plainName y.cls = true) (hw : ws = Cond.codeWith y cc maxL ret hh :: ws')
    (body : ∀ p e s m args below meth c s₁, BodyLoose p l y (headSpec ws rm) cc maxL ret e s m args below meth c s₁ → c.maxLocals = maxL → Pc args s →
      W p l e (headSpec ws rm).room s m args below meth c s.heap [] 0 0 (vx_MQ below Qc XC args s mc ms free) (entryFrame m args maxL)) : vx_Met l y ws rm Pc Qc XC mc ms free := by
  refine MetFree.of_bodyS (code := cc) (maxLocals := maxL) (ret := ret) hy ?_ ?_
  · intro args s m h hn
    obtain ⟨m9, meth, c, hn9, h1, h2, h3, h4, -, h5, h6, -⟩ := Cond.codeWith_spec (atoms_spec (ws := ws) h _ (by rw [hw]; exact List.mem_cons_self))
    cases hn.symm.trans hn9
    exact ⟨meth, c, h1, h2, h3, h4, h5, h6⟩
  · intro p e s m args below meth c s₁ B hml hP _
    have hh0 : s₁.heap = s.heap := by rw [B.state]; rfl
    obtain ⟨t, a1, o, b1, b2, b3⟩ := body p e s m args below meth c s₁ B hml hP s₁ hh0 (Stand.of_body B)
    exact ⟨t, o, a1, b1, b2, b3⟩
/-! ===== END ===== -/
end
section
def RX0 : String := "FramedTalk$ByteRow"
def TX0 : u_T := fun k => match k with
  | 0 => ("FramedTalk$ByteRow", "row", "[I", true)
  | _ => ("FramedTalk$ByteRow", "count", "I", false)
def tyX0 : Nat → FieldType := fun k => match k with
  | 0 => .array .int
  | _ => .int
abbrev wsX00 : List Cond := u_ws RX0 TX0 2
theorem nmX0 : ∀ a, a < 2 → ∀ b, b < 2 → a ≠ b → (TX0 a).2.1 ≠ (TX0 b).2.1 := by decide +kernel
theorem tyX0_ok : ∀ k, k < 2 → parseFieldDescriptor (TX0 k).2.2.1 = some (tyX0 k) := by decide +kernel
abbrev cX0_init : ByteArray := prog_2_method_1_code
def yX0_init : MethodName := ⟨RX0, "<init>", "(I)V"⟩
abbrev cX0_size : ByteArray := prog_2_method_2_code
def yX0_size : MethodName := ⟨RX0, "size", "()I"⟩
abbrev cX0_has : ByteArray := prog_2_method_3_code
def yX0_has : MethodName := ⟨RX0, "has", "(I)Z"⟩
abbrev cX0_at : ByteArray := prog_2_method_4_code
def yX0_at : MethodName := ⟨RX0, "at", "(I)I"⟩
abbrev cX0_pairAtStart : ByteArray := prog_2_method_5_code
def yX0_pairAtStart : MethodName := ⟨RX0, "pairAtStart", "()I"⟩
abbrev cX0_isFull : ByteArray := prog_2_method_6_code
def yX0_isFull : MethodName := ⟨RX0, "isFull", "()Z"⟩
abbrev cX0_empty : ByteArray := prog_2_method_7_code
def yX0_empty : MethodName := ⟨RX0, "empty", "()V"⟩
abbrev cX0_add : ByteArray := prog_2_method_8_code
def yX0_add : MethodName := ⟨RX0, "add", "(I)V"⟩
abbrev cX0_addText : ByteArray := prog_2_method_9_code
def yX0_addText : MethodName := ⟨RX0, "addText", "(Ljava/lang/String;)V"⟩
abbrev cX0_addPart : ByteArray := prog_2_method_10_code
def yX0_addPart : MethodName := ⟨RX0, "addPart", "(LFramedTalk$ByteRow;II)V"⟩
abbrev cX0_cutFront : ByteArray := prog_2_method_11_code
def yX0_cutFront : MethodName := ⟨RX0, "cutFront", "(I)Z"⟩
abbrev cX0_copyTo : ByteArray := prog_2_method_12_code
def yX0_copyTo : MethodName := ⟨RX0, "copyTo", "([II)V"⟩
def RX1 : String := "FramedTalk$Frames"
def TX1 : u_T := fun k => match k with
  | 0 => ("FramedTalk$Frames", "mask", "[I", true)
  | 1 => ("FramedTalk$Frames", "message", "LFramedTalk$ByteRow;", true)
  | 2 => ("FramedTalk$Frames", "shortContent", "LFramedTalk$ByteRow;", true)
  | 3 => ("FramedTalk$Frames", "messageCheck", "LFramedTalk$TextCheck;", true)
  | 4 => ("FramedTalk$Frames", "reasonCheck", "LFramedTalk$TextCheck;", true)
  | 5 => ("FramedTalk$Frames", "place", "I", false)
  | 6 => ("FramedTalk$Frames", "frameKind", "I", false)
  | 7 => ("FramedTalk$Frames", "last", "Z", false)
  | 8 => ("FramedTalk$Frames", "underWay", "Z", false)
  | 9 => ("FramedTalk$Frames", "messageKind", "I", false)
  | 10 => ("FramedTalk$Frames", "lengthSize", "I", false)
  | 11 => ("FramedTalk$Frames", "lengthRead", "I", false)
  | 12 => ("FramedTalk$Frames", "contentLength", "J", false)
  | 13 => ("FramedTalk$Frames", "maskRead", "I", false)
  | _ => ("FramedTalk$Frames", "contentRead", "I", false)
def tyX1 : Nat → FieldType := fun k => match k with
  | 0 => .array .int
  | 1 => .object "FramedTalk$ByteRow"
  | 2 => .object "FramedTalk$ByteRow"
  | 3 => .object "FramedTalk$TextCheck"
  | 4 => .object "FramedTalk$TextCheck"
  | 5 => .int
  | 6 => .int
  | 7 => .boolean
  | 8 => .boolean
  | 9 => .int
  | 10 => .int
  | 11 => .int
  | 12 => .long
  | 13 => .int
  | _ => .int
abbrev wsX10 : List Cond := u_ws RX1 TX1 15
theorem nmX1 : ∀ a, a < 15 → ∀ b, b < 15 → a ≠ b → (TX1 a).2.1 ≠ (TX1 b).2.1 := by decide +kernel
theorem tyX1_ok : ∀ k, k < 15 → parseFieldDescriptor (TX1 k).2.2.1 = some (tyX1 k) := by decide +kernel
abbrev cX1_init : ByteArray := prog_3_method_1_code
def yX1_init : MethodName := ⟨RX1, "<init>", "()V"⟩
abbrev cX1_frameKind : ByteArray := prog_3_method_2_code
def yX1_frameKind : MethodName := ⟨RX1, "frameKind", "()I"⟩
abbrev cX1_isLast : ByteArray := prog_3_method_3_code
def yX1_isLast : MethodName := ⟨RX1, "isLast", "()Z"⟩
abbrev cX1_messageKind : ByteArray := prog_3_method_4_code
def yX1_messageKind : MethodName := ⟨RX1, "messageKind", "()I"⟩
abbrev cX1_message : ByteArray := prog_3_method_5_code
def yX1_message : MethodName := ⟨RX1, "message", "()LFramedTalk$ByteRow;"⟩
abbrev cX1_shortContent : ByteArray := prog_3_method_6_code
def yX1_shortContent : MethodName := ⟨RX1, "shortContent", "()LFramedTalk$ByteRow;"⟩
abbrev cX1_read : ByteArray := prog_3_method_7_code
def yX1_read : MethodName := ⟨RX1, "read", "(I)I"⟩
abbrev cX1_readPart : ByteArray := prog_3_method_8_code
def yX1_readPart : MethodName := ⟨RX1, "readPart", "(I)I"⟩
abbrev cX1_readFirst : ByteArray := prog_3_method_9_code
def yX1_readFirst : MethodName := ⟨RX1, "readFirst", "(I)I"⟩
abbrev cX1_isShort : ByteArray := prog_3_method_10_code
def yX1_isShort : MethodName := ⟨RX1, "isShort", "()Z"⟩
abbrev cX1_mayComeNow : ByteArray := prog_3_method_11_code
def yX1_mayComeNow : MethodName := ⟨RX1, "mayComeNow", "()Z"⟩
abbrev cX1_beginMessage : ByteArray := prog_3_method_12_code
def yX1_beginMessage : MethodName := ⟨RX1, "beginMessage", "()V"⟩
abbrev cX1_readSecond : ByteArray := prog_3_method_13_code
def yX1_readSecond : MethodName := ⟨RX1, "readSecond", "(I)I"⟩
abbrev cX1_readLength : ByteArray := prog_3_method_14_code
def yX1_readLength : MethodName := ⟨RX1, "readLength", "(I)I"⟩
abbrev cX1_judgeLength : ByteArray := prog_3_method_15_code
def yX1_judgeLength : MethodName := ⟨RX1, "judgeLength", "()I"⟩
abbrev cX1_readMask : ByteArray := prog_3_method_16_code
def yX1_readMask : MethodName := ⟨RX1, "readMask", "(I)I"⟩
abbrev cX1_readContent : ByteArray := prog_3_method_17_code
def yX1_readContent : MethodName := ⟨RX1, "readContent", "(I)I"⟩
abbrev cX1_judgeFrame : ByteArray := prog_3_method_18_code
def yX1_judgeFrame : MethodName := ⟨RX1, "judgeFrame", "()I"⟩
abbrev cX1_judgeClose : ByteArray := prog_3_method_19_code
def yX1_judgeClose : MethodName := ⟨RX1, "judgeClose", "()I"⟩
def RX2 : String := "FramedTalk$Proof"
def TX2 : u_T := fun k => match k with
  | 0 => ("FramedTalk$Proof", "bytes", "LFramedTalk$ByteRow;", true)
  | 1 => ("FramedTalk$Proof", "w", "[I", true)
  | _ => ("FramedTalk$Proof", "h", "[I", true)
def tyX2 : Nat → FieldType := fun k => match k with
  | 0 => .object "FramedTalk$ByteRow"
  | 1 => .array .int
  | _ => .array .int
abbrev wsX20 : List Cond := u_ws RX2 TX2 3
theorem nmX2 : ∀ a, a < 3 → ∀ b, b < 3 → a ≠ b → (TX2 a).2.1 ≠ (TX2 b).2.1 := by decide +kernel
theorem tyX2_ok : ∀ k, k < 3 → parseFieldDescriptor (TX2 k).2.2.1 = some (tyX2 k) := by decide +kernel
abbrev cX2_init : ByteArray := prog_4_method_1_code
def yX2_init : MethodName := ⟨RX2, "<init>", "()V"⟩
abbrev cX2_putInto : ByteArray := prog_4_method_2_code
def yX2_putInto : MethodName := ⟨RX2, "putInto", "(LFramedTalk$ByteRow;LFramedTalk$Request;)V"⟩
abbrev cX2_pad : ByteArray := prog_4_method_3_code
def yX2_pad : MethodName := ⟨RX2, "pad", "()V"⟩
abbrev cX2_startWords : ByteArray := prog_4_method_4_code
def yX2_startWords : MethodName := ⟨RX2, "startWords", "()V"⟩
abbrev cX2_spread : ByteArray := prog_4_method_5_code
def yX2_spread : MethodName := ⟨RX2, "spread", "(I)V"⟩
abbrev cX2_mix : ByteArray := prog_4_method_6_code
def yX2_mix : MethodName := ⟨RX2, "mix", "()V"⟩
abbrev cX2_rotated : ByteArray := prog_4_method_7_code
def yX2_rotated : MethodName := ⟨RX2, "rotated", "(II)I"⟩
abbrev cX2_blend : ByteArray := prog_4_method_8_code
def yX2_blend : MethodName := ⟨RX2, "blend", "(IIII)I"⟩
abbrev cX2_putBase64 : ByteArray := prog_4_method_9_code
def yX2_putBase64 : MethodName := ⟨RX2, "putBase64", "(LFramedTalk$ByteRow;)V"⟩
abbrev cX2_digestByte : ByteArray := prog_4_method_10_code
def yX2_digestByte : MethodName := ⟨RX2, "digestByte", "(I)I"⟩
abbrev cX2_putSigns : ByteArray := prog_4_method_11_code
def yX2_putSigns : MethodName := ⟨RX2, "putSigns", "(LFramedTalk$ByteRow;II)V"⟩
def RX3 : String := "FramedTalk$Request"
def TX3 : u_T := fun k => match k with
  | 0 => ("FramedTalk$Request", "bytes", "LFramedTalk$ByteRow;", true)
  | 1 => ("FramedTalk$Request", "seen", "[I", true)
  | 2 => ("FramedTalk$Request", "starts", "[I", true)
  | _ => ("FramedTalk$Request", "ends", "[I", true)
def tyX3 : Nat → FieldType := fun k => match k with
  | 0 => .object "FramedTalk$ByteRow"
  | 1 => .array .int
  | 2 => .array .int
  | _ => .array .int
abbrev wsX30 : List Cond := u_ws RX3 TX3 4
theorem nmX3 : ∀ a, a < 4 → ∀ b, b < 4 → a ≠ b → (TX3 a).2.1 ≠ (TX3 b).2.1 := by decide +kernel
theorem tyX3_ok : ∀ k, k < 4 → parseFieldDescriptor (TX3 k).2.2.1 = some (tyX3 k) := by decide +kernel
abbrev cX3_init : ByteArray := prog_5_method_1_code
def yX3_init : MethodName := ⟨RX3, "<init>", "()V"⟩
abbrev cX3_gather : ByteArray := prog_5_method_2_code
def yX3_gather : MethodName := ⟨RX3, "gather", "(I)V"⟩
abbrev cX3_isAtLimit : ByteArray := prog_5_method_3_code
def yX3_isAtLimit : MethodName := ⟨RX3, "isAtLimit", "()Z"⟩
abbrev cX3_isComplete : ByteArray := prog_5_method_4_code
def yX3_isComplete : MethodName := ⟨RX3, "isComplete", "()Z"⟩
abbrev cX3_judge : ByteArray := prog_5_method_5_code
def yX3_judge : MethodName := ⟨RX3, "judge", "()I"⟩
abbrev cX3_putKeyInto : ByteArray := prog_5_method_6_code
def yX3_putKeyInto : MethodName := ⟨RX3, "putKeyInto", "(LFramedTalk$ByteRow;)V"⟩
abbrev cX3_isLineEnd : ByteArray := prog_5_method_7_code
def yX3_isLineEnd : MethodName := ⟨RX3, "isLineEnd", "(I)Z"⟩
abbrev cX3_readLines : ByteArray := prog_5_method_8_code
def yX3_readLines : MethodName := ⟨RX3, "readLines", "()Z"⟩
abbrev cX3_isFirstLine : ByteArray := prog_5_method_9_code
def yX3_isFirstLine : MethodName := ⟨RX3, "isFirstLine", "(I)Z"⟩
abbrev cX3_isExactly : ByteArray := prog_5_method_10_code
def yX3_isExactly : MethodName := ⟨RX3, "isExactly", "(ILjava/lang/String;)Z"⟩
abbrev cX3_allWithin : ByteArray := prog_5_method_11_code
def yX3_allWithin : MethodName := ⟨RX3, "allWithin", "(III)Z"⟩
abbrev cX3_readField : ByteArray := prog_5_method_12_code
def yX3_readField : MethodName := ⟨RX3, "readField", "(II)Z"⟩
abbrev cX3_isNameSign : ByteArray := prog_5_method_13_code
def yX3_isNameSign : MethodName := ⟨RX3, "isNameSign", "(I)Z"⟩
abbrev cX3_isLetterOrDigit : ByteArray := prog_5_method_14_code
def yX3_isLetterOrDigit : MethodName := ⟨RX3, "isLetterOrDigit", "(I)Z"⟩
abbrev cX3_nameNumber : ByteArray := prog_5_method_15_code
def yX3_nameNumber : MethodName := ⟨RX3, "nameNumber", "(II)I"⟩
abbrev cX3_keepField : ByteArray := prog_5_method_16_code
def yX3_keepField : MethodName := ⟨RX3, "keepField", "(III)V"⟩
abbrev cX3_isSame : ByteArray := prog_5_method_17_code
def yX3_isSame : MethodName := ⟨RX3, "isSame", "(IILjava/lang/String;)Z"⟩
abbrev cX3_asSmall : ByteArray := prog_5_method_18_code
def yX3_asSmall : MethodName := ⟨RX3, "asSmall", "(I)I"⟩
abbrev cX3_skipBlanks : ByteArray := prog_5_method_19_code
def yX3_skipBlanks : MethodName := ⟨RX3, "skipBlanks", "(II)I"⟩
abbrev cX3_skipBlanksBack : ByteArray := prog_5_method_20_code
def yX3_skipBlanksBack : MethodName := ⟨RX3, "skipBlanksBack", "(II)I"⟩
abbrev cX3_isBlank : ByteArray := prog_5_method_21_code
def yX3_isBlank : MethodName := ⟨RX3, "isBlank", "(I)Z"⟩
abbrev cX3_hasDueFields : ByteArray := prog_5_method_22_code
def yX3_hasDueFields : MethodName := ⟨RX3, "hasDueFields", "()Z"⟩
abbrev cX3_hasWord : ByteArray := prog_5_method_23_code
def yX3_hasWord : MethodName := ⟨RX3, "hasWord", "(ILjava/lang/String;)Z"⟩
abbrev cX3_isKey : ByteArray := prog_5_method_24_code
def yX3_isKey : MethodName := ⟨RX3, "isKey", "(II)Z"⟩
def RX4 : String := "FramedTalk$TextCheck"
def TX4 : u_T := fun k => match k with
  | 0 => ("FramedTalk$TextCheck", "due", "I", false)
  | 1 => ("FramedTalk$TextCheck", "lowest", "I", false)
  | _ => ("FramedTalk$TextCheck", "highest", "I", false)
def tyX4 : Nat → FieldType := fun k => match k with
  | 0 => .int
  | 1 => .int
  | _ => .int
abbrev wsX40 : List Cond := u_ws RX4 TX4 3
theorem nmX4 : ∀ a, a < 3 → ∀ b, b < 3 → a ≠ b → (TX4 a).2.1 ≠ (TX4 b).2.1 := by decide +kernel
theorem tyX4_ok : ∀ k, k < 3 → parseFieldDescriptor (TX4 k).2.2.1 = some (tyX4 k) := by decide +kernel
abbrev cX4_init : ByteArray := prog_6_method_1_code
def yX4_init : MethodName := ⟨RX4, "<init>", "()V"⟩
abbrev cX4_restart : ByteArray := prog_6_method_2_code
def yX4_restart : MethodName := ⟨RX4, "restart", "()V"⟩
abbrev cX4_isWhole : ByteArray := prog_6_method_3_code
def yX4_isWhole : MethodName := ⟨RX4, "isWhole", "()Z"⟩
abbrev cX4_accepts : ByteArray := prog_6_method_4_code
def yX4_accepts : MethodName := ⟨RX4, "accepts", "(I)Z"⟩
abbrev cX4_isText : ByteArray := prog_6_method_5_code
def yX4_isText : MethodName := ⟨RX4, "isText", "(LFramedTalk$ByteRow;I)Z"⟩
abbrev cX4_begins : ByteArray := prog_6_method_6_code
def yX4_begins : MethodName := ⟨RX4, "begins", "(I)Z"⟩
def RX5 : String := "FramedTalk$Waiting"
def TX5 : u_T := fun k => match k with
  | 0 => ("FramedTalk$Waiting", "contents", "[I", true)
  | 1 => ("FramedTalk$Waiting", "kinds", "[I", true)
  | 2 => ("FramedTalk$Waiting", "lengths", "[I", true)
  | 3 => ("FramedTalk$Waiting", "oldest", "I", false)
  | _ => ("FramedTalk$Waiting", "count", "I", false)
def tyX5 : Nat → FieldType := fun k => match k with
  | 0 => .array .int
  | 1 => .array .int
  | 2 => .array .int
  | 3 => .int
  | _ => .int
abbrev wsX50 : List Cond := u_ws RX5 TX5 5
theorem nmX5 : ∀ a, a < 5 → ∀ b, b < 5 → a ≠ b → (TX5 a).2.1 ≠ (TX5 b).2.1 := by decide +kernel
theorem tyX5_ok : ∀ k, k < 5 → parseFieldDescriptor (TX5 k).2.2.1 = some (tyX5 k) := by decide +kernel
abbrev cX5_init : ByteArray := prog_7_method_1_code
def yX5_init : MethodName := ⟨RX5, "<init>", "()V"⟩
abbrev cX5_size : ByteArray := prog_7_method_2_code
def yX5_size : MethodName := ⟨RX5, "size", "()I"⟩
abbrev cX5_has : ByteArray := prog_7_method_3_code
def yX5_has : MethodName := ⟨RX5, "has", "(I)Z"⟩
abbrev cX5_kindOf : ByteArray := prog_7_method_4_code
def yX5_kindOf : MethodName := ⟨RX5, "kindOf", "(I)I"⟩
abbrev cX5_lengthOf : ByteArray := prog_7_method_5_code
def yX5_lengthOf : MethodName := ⟨RX5, "lengthOf", "(I)I"⟩
abbrev cX5_contentAt : ByteArray := prog_7_method_6_code
def yX5_contentAt : MethodName := ⟨RX5, "contentAt", "(II)I"⟩
abbrev cX5_put : ByteArray := prog_7_method_7_code
def yX5_put : MethodName := ⟨RX5, "put", "(ILFramedTalk$ByteRow;)V"⟩
abbrev cX5_removeOldest : ByteArray := prog_7_method_8_code
def yX5_removeOldest : MethodName := ⟨RX5, "removeOldest", "()V"⟩
abbrev cX5_placeOf : ByteArray := prog_7_method_9_code
def yX5_placeOf : MethodName := ⟨RX5, "placeOf", "(I)I"⟩
def RX6 : String := "FramedTalk"
def TX6 : u_T := fun k => match k with
  | 0 => ("FramedTalk", "request", "LFramedTalk$Request;", true)
  | 1 => ("FramedTalk", "frames", "LFramedTalk$Frames;", true)
  | 2 => ("FramedTalk", "waiting", "LFramedTalk$Waiting;", true)
  | 3 => ("FramedTalk", "out", "LFramedTalk$ByteRow;", true)
  | 4 => ("FramedTalk", "draft", "LFramedTalk$ByteRow;", true)
  | 5 => ("FramedTalk", "draftCheck", "LFramedTalk$TextCheck;", true)
  | 6 => ("FramedTalk", "state", "I", false)
  | 7 => ("FramedTalk", "endCode", "I", false)
  | 8 => ("FramedTalk", "delivered", "I", false)
  | _ => ("FramedTalk", "pongs", "I", false)
def tyX6 : Nat → FieldType := fun k => match k with
  | 0 => .object "FramedTalk$Request"
  | 1 => .object "FramedTalk$Frames"
  | 2 => .object "FramedTalk$Waiting"
  | 3 => .object "FramedTalk$ByteRow"
  | 4 => .object "FramedTalk$ByteRow"
  | 5 => .object "FramedTalk$TextCheck"
  | 6 => .int
  | 7 => .int
  | 8 => .int
  | _ => .int
abbrev wsX60 : List Cond := u_ws RX6 TX6 10
theorem nmX6 : ∀ a, a < 10 → ∀ b, b < 10 → a ≠ b → (TX6 a).2.1 ≠ (TX6 b).2.1 := by decide +kernel
theorem tyX6_ok : ∀ k, k < 10 → parseFieldDescriptor (TX6 k).2.2.1 = some (tyX6 k) := by decide +kernel
abbrev cX6_init : ByteArray := prog_1_method_1_code
def yX6_init : MethodName := ⟨RX6, "<init>", "()V"⟩
abbrev cX6_feed : ByteArray := prog_1_method_2_code
def yX6_feed : MethodName := ⟨RX6, "feed", "(JI)I"⟩
abbrev cX6_state : ByteArray := prog_1_method_3_code
def yX6_state : MethodName := ⟨RX6, "state", "()I"⟩
abbrev cX6_endCode : ByteArray := prog_1_method_4_code
def yX6_endCode : MethodName := ⟨RX6, "endCode", "()I"⟩
abbrev cX6_outLength : ByteArray := prog_1_method_5_code
def yX6_outLength : MethodName := ⟨RX6, "outLength", "()I"⟩
abbrev cX6_outAt : ByteArray := prog_1_method_6_code
def yX6_outAt : MethodName := ⟨RX6, "outAt", "(I)I"⟩
abbrev cX6_drop : ByteArray := prog_1_method_7_code
def yX6_drop : MethodName := ⟨RX6, "drop", "(I)Z"⟩
abbrev cX6_messages : ByteArray := prog_1_method_8_code
def yX6_messages : MethodName := ⟨RX6, "messages", "()I"⟩
abbrev cX6_delivered : ByteArray := prog_1_method_9_code
def yX6_delivered : MethodName := ⟨RX6, "delivered", "()I"⟩
abbrev cX6_kind : ByteArray := prog_1_method_10_code
def yX6_kind : MethodName := ⟨RX6, "kind", "(I)I"⟩
abbrev cX6_length : ByteArray := prog_1_method_11_code
def yX6_length : MethodName := ⟨RX6, "length", "(I)I"⟩
abbrev cX6_byteAt : ByteArray := prog_1_method_12_code
def yX6_byteAt : MethodName := ⟨RX6, "byteAt", "(II)I"⟩
abbrev cX6_take : ByteArray := prog_1_method_13_code
def yX6_take : MethodName := ⟨RX6, "take", "()I"⟩
abbrev cX6_pongs : ByteArray := prog_1_method_14_code
def yX6_pongs : MethodName := ⟨RX6, "pongs", "()I"⟩
abbrev cX6_write : ByteArray := prog_1_method_15_code
def yX6_write : MethodName := ⟨RX6, "write", "(JI)Z"⟩
abbrev cX6_clear : ByteArray := prog_1_method_16_code
def yX6_clear : MethodName := ⟨RX6, "clear", "()V"⟩
abbrev cX6_send : ByteArray := prog_1_method_17_code
def yX6_send : MethodName := ⟨RX6, "send", "(II)I"⟩
abbrev cX6_ping : ByteArray := prog_1_method_18_code
def yX6_ping : MethodName := ⟨RX6, "ping", "()V"⟩
abbrev cX6_close : ByteArray := prog_1_method_19_code
def yX6_close : MethodName := ⟨RX6, "close", "(I)V"⟩
abbrev cX6_isByteCount : ByteArray := prog_1_method_20_code
def yX6_isByteCount : MethodName := ⟨RX6, "isByteCount", "(I)Z"⟩
abbrev cX6_byteOf : ByteArray := prog_1_method_21_code
def yX6_byteOf : MethodName := ⟨RX6, "byteOf", "(JI)I"⟩
abbrev cX6_mayStandInClose : ByteArray := prog_1_method_22_code
def yX6_mayStandInClose : MethodName := ⟨RX6, "mayStandInClose", "(I)Z"⟩
abbrev cX6_hearRequest : ByteArray := prog_1_method_23_code
def yX6_hearRequest : MethodName := ⟨RX6, "hearRequest", "(I)V"⟩
abbrev cX6_answerRequest : ByteArray := prog_1_method_24_code
def yX6_answerRequest : MethodName := ⟨RX6, "answerRequest", "(I)V"⟩
abbrev cX6_hearFrame : ByteArray := prog_1_method_25_code
def yX6_hearFrame : MethodName := ⟨RX6, "hearFrame", "(I)V"⟩
abbrev cX6_violate : ByteArray := prog_1_method_26_code
def yX6_violate : MethodName := ⟨RX6, "violate", "(I)V"⟩
abbrev cX6_endWith : ByteArray := prog_1_method_27_code
def yX6_endWith : MethodName := ⟨RX6, "endWith", "(I)V"⟩
abbrev cX6_finishFrame : ByteArray := prog_1_method_28_code
def yX6_finishFrame : MethodName := ⟨RX6, "finishFrame", "()V"⟩
abbrev cX6_hearClose : ByteArray := prog_1_method_29_code
def yX6_hearClose : MethodName := ⟨RX6, "hearClose", "(LFramedTalk$ByteRow;)V"⟩
abbrev cX6_hearPing : ByteArray := prog_1_method_30_code
def yX6_hearPing : MethodName := ⟨RX6, "hearPing", "(LFramedTalk$ByteRow;)V"⟩
abbrev cX6_maySay : ByteArray := prog_1_method_31_code
def yX6_maySay : MethodName := ⟨RX6, "maySay", "(I)Z"⟩
abbrev cX6_sayPieces : ByteArray := prog_1_method_32_code
def yX6_sayPieces : MethodName := ⟨RX6, "sayPieces", "(III)V"⟩
abbrev cX6_say : ByteArray := prog_1_method_33_code
def yX6_say : MethodName := ⟨RX6, "say", "(ILFramedTalk$ByteRow;II)V"⟩
abbrev cX6_sayHead : ByteArray := prog_1_method_34_code
def yX6_sayHead : MethodName := ⟨RX6, "sayHead", "(II)V"⟩
abbrev cX6_sayCode : ByteArray := prog_1_method_35_code
def yX6_sayCode : MethodName := ⟨RX6, "sayCode", "(I)V"⟩
def RX7 : String := "FramedTalkModel"
def TX7 : u_T := fun k => match k with
  | 0 => ("FramedTalkModel", "thrown", "I", false)
  | 1 => ("FramedTalkModel", "state", "I", false)
  | 2 => ("FramedTalkModel", "endCode", "I", false)
  | 3 => ("FramedTalkModel", "request", "[I", true)
  | 4 => ("FramedTalkModel", "asked", "I", false)
  | 5 => ("FramedTalkModel", "lines", "[I", true)
  | 6 => ("FramedTalkModel", "valueFrom", "[I", true)
  | 7 => ("FramedTalkModel", "valueTo", "[I", true)
  | 8 => ("FramedTalkModel", "out", "[I", true)
  | 9 => ("FramedTalkModel", "outs", "I", false)
  | 10 => ("FramedTalkModel", "draft", "[I", true)
  | 11 => ("FramedTalkModel", "drafted", "I", false)
  | 12 => ("FramedTalkModel", "stage", "I", false)
  | 13 => ("FramedTalkModel", "last", "Z", false)
  | 14 => ("FramedTalkModel", "kind", "I", false)
  | 15 => ("FramedTalkModel", "length", "J", false)
  | 16 => ("FramedTalkModel", "lengthBytes", "I", false)
  | 17 => ("FramedTalkModel", "seen", "I", false)
  | 18 => ("FramedTalkModel", "mask", "[I", true)
  | 19 => ("FramedTalkModel", "content", "[I", true)
  | 20 => ("FramedTalkModel", "way", "Z", false)
  | 21 => ("FramedTalkModel", "wayKind", "I", false)
  | 22 => ("FramedTalkModel", "wayLength", "I", false)
  | 23 => ("FramedTalkModel", "message", "[I", true)
  | 24 => ("FramedTalkModel", "due", "I", false)
  | 25 => ("FramedTalkModel", "low", "I", false)
  | 26 => ("FramedTalkModel", "high", "I", false)
  | 27 => ("FramedTalkModel", "waits", "I", false)
  | 28 => ("FramedTalkModel", "kinds", "[I", true)
  | 29 => ("FramedTalkModel", "lengths", "[I", true)
  | 30 => ("FramedTalkModel", "bytes", "[I", true)
  | 31 => ("FramedTalkModel", "delivered", "I", false)
  | 32 => ("FramedTalkModel", "pongs", "I", false)
  | 33 => ("FramedTalkModel", "block", "[I", true)
  | 34 => ("FramedTalkModel", "w", "[I", true)
  | _ => ("FramedTalkModel", "sums", "[I", true)
def tyX7 : Nat → FieldType := fun k => match k with
  | 0 => .int
  | 1 => .int
  | 2 => .int
  | 3 => .array .int
  | 4 => .int
  | 5 => .array .int
  | 6 => .array .int
  | 7 => .array .int
  | 8 => .array .int
  | 9 => .int
  | 10 => .array .int
  | 11 => .int
  | 12 => .int
  | 13 => .boolean
  | 14 => .int
  | 15 => .long
  | 16 => .int
  | 17 => .int
  | 18 => .array .int
  | 19 => .array .int
  | 20 => .boolean
  | 21 => .int
  | 22 => .int
  | 23 => .array .int
  | 24 => .int
  | 25 => .int
  | 26 => .int
  | 27 => .int
  | 28 => .array .int
  | 29 => .array .int
  | 30 => .array .int
  | 31 => .int
  | 32 => .int
  | 33 => .array .int
  | 34 => .array .int
  | _ => .array .int
abbrev wsX70 : List Cond := u_ws RX7 TX7 36
theorem nmX7 : ∀ a, a < 36 → ∀ b, b < 36 → a ≠ b → (TX7 a).2.1 ≠ (TX7 b).2.1 := by decide +kernel
theorem tyX7_ok : ∀ k, k < 36 → parseFieldDescriptor (TX7 k).2.2.1 = some (tyX7 k) := by decide +kernel
abbrev cX7_init : ByteArray := prog_9_method_1_code
def yX7_init : MethodName := ⟨RX7, "<init>", "()V"⟩
abbrev cX7_thrown : ByteArray := prog_9_method_2_code
def yX7_thrown : MethodName := ⟨RX7, "thrown", "()I"⟩
abbrev cX7_fail : ByteArray := prog_9_method_3_code
def yX7_fail : MethodName := ⟨RX7, "fail", "(I)I"⟩
abbrev cX7_put : ByteArray := prog_9_method_4_code
def yX7_put : MethodName := ⟨RX7, "put", "(I)V"⟩
abbrev cX7_text : ByteArray := prog_9_method_5_code
def yX7_text : MethodName := ⟨RX7, "text", "(J)V"⟩
abbrev cX7_line : ByteArray := prog_9_method_6_code
def yX7_line : MethodName := ⟨RX7, "line", "()V"⟩
abbrev cX7_head : ByteArray := prog_9_method_7_code
def yX7_head : MethodName := ⟨RX7, "head", "(IZI)V"⟩
abbrev cX7_sayClose : ByteArray := prog_9_method_8_code
def yX7_sayClose : MethodName := ⟨RX7, "sayClose", "(I)V"⟩
abbrev cX7_beginCharacters : ByteArray := prog_9_method_9_code
def yX7_beginCharacters : MethodName := ⟨RX7, "beginCharacters", "()V"⟩
abbrev cX7_character : ByteArray := prog_9_method_10_code
def yX7_character : MethodName := ⟨RX7, "character", "(I)Z"⟩
abbrev cX7_isDraftText : ByteArray := prog_9_method_11_code
def yX7_isDraftText : MethodName := ⟨RX7, "isDraftText", "()Z"⟩
abbrev cX7_small : ByteArray := prog_9_method_12_code
def yX7_small : MethodName := ⟨RX7, "small", "(I)I"⟩
abbrev cX7_isDigit : ByteArray := prog_9_method_13_code
def yX7_isDigit : MethodName := ⟨RX7, "isDigit", "(I)Z"⟩
abbrev cX7_isLetter : ByteArray := prog_9_method_14_code
def yX7_isLetter : MethodName := ⟨RX7, "isLetter", "(I)Z"⟩
abbrev cX7_known : ByteArray := prog_9_method_15_code
def yX7_known : MethodName := ⟨RX7, "known", "(II)J"⟩
abbrev cX7_letter : ByteArray := prog_9_method_16_code
def yX7_letter : MethodName := ⟨RX7, "letter", "(II)I"⟩
abbrev cX7_isWord : ByteArray := prog_9_method_17_code
def yX7_isWord : MethodName := ⟨RX7, "isWord", "(III)Z"⟩
abbrev cX7_isGap : ByteArray := prog_9_method_18_code
def yX7_isGap : MethodName := ⟨RX7, "isGap", "(I)Z"⟩
abbrev cX7_begin : ByteArray := prog_9_method_19_code
def yX7_begin : MethodName := ⟨RX7, "begin", "(II)I"⟩
abbrev cX7_end : ByteArray := prog_9_method_20_code
def yX7_end : MethodName := ⟨RX7, "end", "(II)I"⟩
abbrev cX7_isFirst : ByteArray := prog_9_method_21_code
def yX7_isFirst : MethodName := ⟨RX7, "isFirst", "(I)Z"⟩
abbrev cX7_takeLine : ByteArray := prog_9_method_22_code
def yX7_takeLine : MethodName := ⟨RX7, "takeLine", "(II)Z"⟩
abbrev cX7_hasWord : ByteArray := prog_9_method_23_code
def yX7_hasWord : MethodName := ⟨RX7, "hasWord", "(II)Z"⟩
abbrev cX7_isBase64 : ByteArray := prog_9_method_24_code
def yX7_isBase64 : MethodName := ⟨RX7, "isBase64", "(I)Z"⟩
abbrev cX7_isKey : ByteArray := prog_9_method_25_code
def yX7_isKey : MethodName := ⟨RX7, "isKey", "(II)Z"⟩
abbrev cX7_isRequest : ByteArray := prog_9_method_26_code
def yX7_isRequest : MethodName := ⟨RX7, "isRequest", "(I)Z"⟩
abbrev cX7_rotated : ByteArray := prog_9_method_27_code
def yX7_rotated : MethodName := ⟨RX7, "rotated", "(II)I"⟩
abbrev cX7_mix : ByteArray := prog_9_method_28_code
def yX7_mix : MethodName := ⟨RX7, "mix", "(I)V"⟩
abbrev cX7_signs : ByteArray := prog_9_method_29_code
def yX7_signs : MethodName := ⟨RX7, "signs", "(JI)I"⟩
abbrev cX7_digest : ByteArray := prog_9_method_30_code
def yX7_digest : MethodName := ⟨RX7, "digest", "()V"⟩
abbrev cX7_digestByte : ByteArray := prog_9_method_31_code
def yX7_digestByte : MethodName := ⟨RX7, "digestByte", "(I)I"⟩
abbrev cX7_sign : ByteArray := prog_9_method_32_code
def yX7_sign : MethodName := ⟨RX7, "sign", "(I)I"⟩
abbrev cX7_proof : ByteArray := prog_9_method_33_code
def yX7_proof : MethodName := ⟨RX7, "proof", "()V"⟩
abbrev cX7_answer : ByteArray := prog_9_method_34_code
def yX7_answer : MethodName := ⟨RX7, "answer", "(Z)V"⟩
abbrev cX7_ask : ByteArray := prog_9_method_35_code
def yX7_ask : MethodName := ⟨RX7, "ask", "(I)V"⟩
abbrev cX7_violate : ByteArray := prog_9_method_36_code
def yX7_violate : MethodName := ⟨RX7, "violate", "(I)V"⟩
abbrev cX7_first : ByteArray := prog_9_method_37_code
def yX7_first : MethodName := ⟨RX7, "first", "(I)V"⟩
abbrev cX7_isBrief : ByteArray := prog_9_method_38_code
def yX7_isBrief : MethodName := ⟨RX7, "isBrief", "()Z"⟩
abbrev cX7_measured : ByteArray := prog_9_method_39_code
def yX7_measured : MethodName := ⟨RX7, "measured", "()V"⟩
abbrev cX7_second : ByteArray := prog_9_method_40_code
def yX7_second : MethodName := ⟨RX7, "second", "(I)V"⟩
abbrev cX7_lengthByte : ByteArray := prog_9_method_41_code
def yX7_lengthByte : MethodName := ⟨RX7, "lengthByte", "(I)V"⟩
abbrev cX7_maskByte : ByteArray := prog_9_method_42_code
def yX7_maskByte : MethodName := ⟨RX7, "maskByte", "(I)V"⟩
abbrev cX7_contentByte : ByteArray := prog_9_method_43_code
def yX7_contentByte : MethodName := ⟨RX7, "contentByte", "(I)V"⟩
abbrev cX7_isCode : ByteArray := prog_9_method_44_code
def yX7_isCode : MethodName := ⟨RX7, "isCode", "(I)Z"⟩
abbrev cX7_isReason : ByteArray := prog_9_method_45_code
def yX7_isReason : MethodName := ⟨RX7, "isReason", "()Z"⟩
abbrev cX7_closed : ByteArray := prog_9_method_46_code
def yX7_closed : MethodName := ⟨RX7, "closed", "()V"⟩
abbrev cX7_deliver : ByteArray := prog_9_method_47_code
def yX7_deliver : MethodName := ⟨RX7, "deliver", "()V"⟩
abbrev cX7_whole : ByteArray := prog_9_method_48_code
def yX7_whole : MethodName := ⟨RX7, "whole", "()V"⟩
abbrev cX7_come : ByteArray := prog_9_method_49_code
def yX7_come : MethodName := ⟨RX7, "come", "(I)V"⟩
abbrev cX7_feed : ByteArray := prog_9_method_50_code
def yX7_feed : MethodName := ⟨RX7, "feed", "(JI)I"⟩
abbrev cX7_state : ByteArray := prog_9_method_51_code
def yX7_state : MethodName := ⟨RX7, "state", "()I"⟩
abbrev cX7_endCode : ByteArray := prog_9_method_52_code
def yX7_endCode : MethodName := ⟨RX7, "endCode", "()I"⟩
abbrev cX7_outLength : ByteArray := prog_9_method_53_code
def yX7_outLength : MethodName := ⟨RX7, "outLength", "()I"⟩
abbrev cX7_outAt : ByteArray := prog_9_method_54_code
def yX7_outAt : MethodName := ⟨RX7, "outAt", "(I)I"⟩
abbrev cX7_drop : ByteArray := prog_9_method_55_code
def yX7_drop : MethodName := ⟨RX7, "drop", "(I)Z"⟩
abbrev cX7_messages : ByteArray := prog_9_method_56_code
def yX7_messages : MethodName := ⟨RX7, "messages", "()I"⟩
abbrev cX7_delivered : ByteArray := prog_9_method_57_code
def yX7_delivered : MethodName := ⟨RX7, "delivered", "()I"⟩
abbrev cX7_isMessage : ByteArray := prog_9_method_58_code
def yX7_isMessage : MethodName := ⟨RX7, "isMessage", "(I)Z"⟩
abbrev cX7_kind : ByteArray := prog_9_method_59_code
def yX7_kind : MethodName := ⟨RX7, "kind", "(I)I"⟩
abbrev cX7_length : ByteArray := prog_9_method_60_code
def yX7_length : MethodName := ⟨RX7, "length", "(I)I"⟩
abbrev cX7_byteAt : ByteArray := prog_9_method_61_code
def yX7_byteAt : MethodName := ⟨RX7, "byteAt", "(II)I"⟩
abbrev cX7_take : ByteArray := prog_9_method_62_code
def yX7_take : MethodName := ⟨RX7, "take", "()I"⟩
abbrev cX7_pongs : ByteArray := prog_9_method_63_code
def yX7_pongs : MethodName := ⟨RX7, "pongs", "()I"⟩
abbrev cX7_write : ByteArray := prog_9_method_64_code
def yX7_write : MethodName := ⟨RX7, "write", "(JI)Z"⟩
abbrev cX7_clear : ByteArray := prog_9_method_65_code
def yX7_clear : MethodName := ⟨RX7, "clear", "()V"⟩
abbrev cX7_send : ByteArray := prog_9_method_66_code
def yX7_send : MethodName := ⟨RX7, "send", "(II)I"⟩
abbrev cX7_putDraft : ByteArray := prog_9_method_67_code
def yX7_putDraft : MethodName := ⟨RX7, "putDraft", "()V"⟩
abbrev cX7_ping : ByteArray := prog_9_method_68_code
def yX7_ping : MethodName := ⟨RX7, "ping", "()V"⟩
abbrev cX7_close : ByteArray := prog_9_method_69_code
def yX7_close : MethodName := ⟨RX7, "close", "(I)V"⟩
def RJx145de : String := "java/io/Serializable"
def TJx145de : u_T := fun k => match k with
  | _ => ("", "", "", false)
def tyJx145de : Nat → FieldType := fun k => match k with
  | _ => .int
abbrev wsJx145de0 : List Cond := u_ws RJx145de TJx145de 0
theorem nmJx145de : ∀ a, a < 0 → ∀ b, b < 0 → a ≠ b → (TJx145de a).2.1 ≠ (TJx145de b).2.1 := by decide +kernel
theorem tyJx145de_ok : ∀ k, k < 0 → parseFieldDescriptor (TJx145de k).2.2.1 = some (tyJx145de k) := by decide +kernel
def RJx9f9b0 : String := "java/lang/CharSequence"
def TJx9f9b0 : u_T := fun k => match k with
  | _ => ("", "", "", false)
def tyJx9f9b0 : Nat → FieldType := fun k => match k with
  | _ => .int
abbrev wsJx9f9b00 : List Cond := u_ws RJx9f9b0 TJx9f9b0 0
theorem nmJx9f9b0 : ∀ a, a < 0 → ∀ b, b < 0 → a ≠ b → (TJx9f9b0 a).2.1 ≠ (TJx9f9b0 b).2.1 := by decide +kernel
theorem tyJx9f9b0_ok : ∀ k, k < 0 → parseFieldDescriptor (TJx9f9b0 k).2.2.1 = some (tyJx9f9b0 k) := by decide +kernel
def RJxb160c : String := "java/lang/Comparable"
def TJxb160c : u_T := fun k => match k with
  | _ => ("", "", "", false)
def tyJxb160c : Nat → FieldType := fun k => match k with
  | _ => .int
abbrev wsJxb160c0 : List Cond := u_ws RJxb160c TJxb160c 0
theorem nmJxb160c : ∀ a, a < 0 → ∀ b, b < 0 → a ≠ b → (TJxb160c a).2.1 ≠ (TJxb160c b).2.1 := by decide +kernel
theorem tyJxb160c_ok : ∀ k, k < 0 → parseFieldDescriptor (TJxb160c k).2.2.1 = some (tyJxb160c k) := by decide +kernel
def RJ9 : String := "java/lang/Math"
def TJ9 : u_T := fun k => match k with
  | _ => ("", "", "", false)
def tyJ9 : Nat → FieldType := fun k => match k with
  | _ => .int
abbrev wsJ90 : List Cond := u_ws RJ9 TJ9 0
theorem nmJ9 : ∀ a, a < 0 → ∀ b, b < 0 → a ≠ b → (TJ9 a).2.1 ≠ (TJ9 b).2.1 := by decide +kernel
theorem tyJ9_ok : ∀ k, k < 0 → parseFieldDescriptor (TJ9 k).2.2.1 = some (tyJ9 k) := by decide +kernel
abbrev cJ9_floorMod_7cf53 : ByteArray := prog_17_method_50_code
def yJ9_floorMod_7cf53 : MethodName := ⟨RJ9, "floorMod", "(II)I"⟩
abbrev cJ9_min_7cf53 : ByteArray := prog_17_method_69_code
def yJ9_min_7cf53 : MethodName := ⟨RJ9, "min", "(II)I"⟩
def RJ0 : String := "java/lang/String"
def TJ0 : u_T := fun k => match k with
  | _ => ("", "", "", false)
def tyJ0 : Nat → FieldType := fun k => match k with
  | _ => .int
abbrev wsJ00 : List Cond := u_ws RJ0 TJ0 0
theorem nmJ0 : ∀ a, a < 0 → ∀ b, b < 0 → a ≠ b → (TJ0 a).2.1 ≠ (TJ0 b).2.1 := by decide +kernel
theorem tyJ0_ok : ∀ k, k < 0 → parseFieldDescriptor (TJ0 k).2.2.1 = some (tyJ0 k) := by decide +kernel
abbrev cJ0_length_8abf5 : ByteArray := prog_19_method_54_code
def yJ0_length_8abf5 : MethodName := ⟨RJ0, "length", "()I"⟩
abbrev cJ0_charAt_5068e : ByteArray := prog_19_method_56_code
def yJ0_charAt_5068e : MethodName := ⟨RJ0, "charAt", "(I)C"⟩
abbrev cJ0_coder_7d493 : ByteArray := prog_19_method_152_code
def yJ0_coder_7d493 : MethodName := ⟨RJ0, "coder", "()B"⟩
abbrev cJ0_isLatin1_aae02 : ByteArray := prog_19_method_154_code
def yJ0_isLatin1_aae02 : MethodName := ⟨RJ0, "isLatin1", "()Z"⟩
abbrev cJ0_checkIndex_df160 : ByteArray := prog_19_method_155_code
def yJ0_checkIndex_df160 : MethodName := ⟨RJ0, "checkIndex", "(II)V"⟩
def RJ1 : String := "java/lang/StringLatin1"
def TJ1 : u_T := fun k => match k with
  | _ => ("", "", "", false)
def tyJ1 : Nat → FieldType := fun k => match k with
  | _ => .int
abbrev wsJ10 : List Cond := u_ws RJ1 TJ1 0
theorem nmJ1 : ∀ a, a < 0 → ∀ b, b < 0 → a ≠ b → (TJ1 a).2.1 ≠ (TJ1 b).2.1 := by decide +kernel
theorem tyJ1_ok : ∀ k, k < 0 → parseFieldDescriptor (TJ1 k).2.2.1 = some (tyJ1 k) := by decide +kernel
abbrev cJ1_charAt_3b067 : ByteArray := prog_20_method_2_code
def yJ1_charAt_3b067 : MethodName := ⟨RJ1, "charAt", "([BI)C"⟩
def RJ2 : String := "java/lang/StringUTF16"
def TJ2 : u_T := fun k => match k with
  | _ => ("", "", "", false)
def tyJ2 : Nat → FieldType := fun k => match k with
  | _ => .int
abbrev wsJ20 : List Cond := u_ws RJ2 TJ2 0
theorem nmJ2 : ∀ a, a < 0 → ∀ b, b < 0 → a ≠ b → (TJ2 a).2.1 ≠ (TJ2 b).2.1 := by decide +kernel
theorem tyJ2_ok : ∀ k, k < 0 → parseFieldDescriptor (TJ2 k).2.2.1 = some (tyJ2 k) := by decide +kernel
abbrev cJ2_getChar_3b067 : ByteArray := prog_21_method_5_code
def yJ2_getChar_3b067 : MethodName := ⟨RJ2, "getChar", "([BI)C"⟩
abbrev cJ2_length_9d52b : ByteArray := prog_21_method_6_code
def yJ2_length_9d52b : MethodName := ⟨RJ2, "length", "([B)I"⟩
abbrev cJ2_charAt_3b067 : ByteArray := prog_21_method_83_code
def yJ2_charAt_3b067 : MethodName := ⟨RJ2, "charAt", "([BI)C"⟩
abbrev cJ2_checkIndex_2214a : ByteArray := prog_21_method_91_code
def yJ2_checkIndex_2214a : MethodName := ⟨RJ2, "checkIndex", "(I[B)V"⟩
def RJ10 : String := "java/lang/System"
def TJ10 : u_T := fun k => match k with
  | _ => ("", "", "", false)
def tyJ10 : Nat → FieldType := fun k => match k with
  | _ => .int
abbrev wsJ100 : List Cond := u_ws RJ10 TJ10 0
theorem nmJ10 : ∀ a, a < 0 → ∀ b, b < 0 → a ≠ b → (TJ10 a).2.1 ≠ (TJ10 b).2.1 := by decide +kernel
theorem tyJ10_ok : ∀ k, k < 0 → parseFieldDescriptor (TJ10 k).2.2.1 = some (tyJ10 k) := by decide +kernel
def RJxfd54e : String := "java/lang/constant/Constable"
def TJxfd54e : u_T := fun k => match k with
  | _ => ("", "", "", false)
def tyJxfd54e : Nat → FieldType := fun k => match k with
  | _ => .int
abbrev wsJxfd54e0 : List Cond := u_ws RJxfd54e TJxfd54e 0
theorem nmJxfd54e : ∀ a, a < 0 → ∀ b, b < 0 → a ≠ b → (TJxfd54e a).2.1 ≠ (TJxfd54e b).2.1 := by decide +kernel
theorem tyJxfd54e_ok : ∀ k, k < 0 → parseFieldDescriptor (TJxfd54e k).2.2.1 = some (tyJxfd54e k) := by decide +kernel
def RJx3cf43 : String := "java/lang/constant/ConstantDesc"
def TJx3cf43 : u_T := fun k => match k with
  | _ => ("", "", "", false)
def tyJx3cf43 : Nat → FieldType := fun k => match k with
  | _ => .int
abbrev wsJx3cf430 : List Cond := u_ws RJx3cf43 TJx3cf43 0
theorem nmJx3cf43 : ∀ a, a < 0 → ∀ b, b < 0 → a ≠ b → (TJx3cf43 a).2.1 ≠ (TJx3cf43 b).2.1 := by decide +kernel
theorem tyJx3cf43_ok : ∀ k, k < 0 → parseFieldDescriptor (TJx3cf43 k).2.2.1 = some (tyJx3cf43 k) := by decide +kernel
def RJ3 : String := "jdk/internal/util/Preconditions"
def TJ3 : u_T := fun k => match k with
  | _ => ("", "", "", false)
def tyJ3 : Nat → FieldType := fun k => match k with
  | _ => .int
abbrev wsJ30 : List Cond := u_ws RJ3 TJ3 0
theorem nmJ3 : ∀ a, a < 0 → ∀ b, b < 0 → a ≠ b → (TJ3 a).2.1 ≠ (TJ3 b).2.1 := by decide +kernel
theorem tyJ3_ok : ∀ k, k < 0 → parseFieldDescriptor (TJ3 k).2.2.1 = some (tyJ3 k) := by decide +kernel
abbrev cJ3_checkIndex_8e157 : ByteArray := prog_27_method_11_code
def yJ3_checkIndex_8e157 : MethodName := ⟨RJ3, "checkIndex", "(IILjava/util/function/BiFunction;)I"⟩
def RL : String := "FramedTalkLaw"
abbrev cL_feed : ByteArray := method_3_code
def yL_feed : MethodName := ⟨RL, "feed", "(LFramedTalk;JI[J)I"⟩
abbrev cL_outAt : ByteArray := method_4_code
def yL_outAt : MethodName := ⟨RL, "outAt", "(LFramedTalk;I[J)I"⟩
abbrev cL_kind : ByteArray := method_5_code
def yL_kind : MethodName := ⟨RL, "kind", "(LFramedTalk;I[J)I"⟩
abbrev cL_length : ByteArray := method_6_code
def yL_length : MethodName := ⟨RL, "length", "(LFramedTalk;I[J)I"⟩
abbrev cL_byteAt : ByteArray := method_7_code
def yL_byteAt : MethodName := ⟨RL, "byteAt", "(LFramedTalk;II[J)I"⟩
abbrev cL_take : ByteArray := method_8_code
def yL_take : MethodName := ⟨RL, "take", "(LFramedTalk;[J)I"⟩
abbrev cL_send : ByteArray := method_9_code
def yL_send : MethodName := ⟨RL, "send", "(LFramedTalk;II[J)I"⟩
abbrev cL_ping : ByteArray := method_10_code
def yL_ping : MethodName := ⟨RL, "ping", "(LFramedTalk;)I"⟩
abbrev cL_close : ByteArray := method_11_code
def yL_close : MethodName := ⟨RL, "close", "(LFramedTalk;I)I"⟩
abbrev cL_law : ByteArray := code
def yL_law : MethodName := ⟨RL, "law", "([I)Z"⟩
abbrev vwCl : List vw_C := [(RX0, TX0, 2), (RX1, TX1, 15), (RX2, TX2, 3), (RX3, TX3, 4), (RX4, TX4, 3), (RX5, TX5, 5), (RX6, TX6, 10), (RX7, TX7, 36)]
end
section
theorem dX0_init_0 : decode cX0_init 0 = .ok (.aload_n 0, 1) := by decide +kernel
theorem dX0_init_1 : decode cX0_init 1 = .ok (.invokespecial 1, 3) := by decide +kernel
theorem dX0_init_4 : decode cX0_init 4 = .ok (.aload_n 0, 1) := by decide +kernel
theorem dX0_init_5 : decode cX0_init 5 = .ok (.iload_n 1, 1) := by decide +kernel
theorem dX0_init_6 : decode cX0_init 6 = .ok (.newarray .int, 2) := by decide +kernel
theorem dX0_init_8 : decode cX0_init 8 = .ok (.putfield 7, 3) := by decide +kernel
theorem dX0_init_11 : decode cX0_init 11 = .ok (.return_, 1) := by decide +kernel
theorem dX0_size_0 : decode cX0_size 0 = .ok (.aload_n 0, 1) := by decide +kernel
theorem dX0_size_1 : decode cX0_size 1 = .ok (.getfield 13, 3) := by decide +kernel
theorem dX0_size_4 : decode cX0_size 4 = .ok (.ireturn, 1) := by decide +kernel
theorem dX0_has_0 : decode cX0_has 0 = .ok (.iload_n 1, 1) := by decide +kernel
theorem dX0_has_1 : decode cX0_has 1 = .ok (.ifCond .lt 15, 3) := by decide +kernel
theorem dX0_has_4 : decode cX0_has 4 = .ok (.iload_n 1, 1) := by decide +kernel
theorem dX0_has_5 : decode cX0_has 5 = .ok (.aload_n 0, 1) := by decide +kernel
theorem dX0_has_6 : decode cX0_has 6 = .ok (.getfield 13, 3) := by decide +kernel
theorem dX0_has_9 : decode cX0_has 9 = .ok (.if_icmp .ge 7, 3) := by decide +kernel
theorem dX0_has_12 : decode cX0_has 12 = .ok (.iconst 1, 1) := by decide +kernel
theorem dX0_has_13 : decode cX0_has 13 = .ok (.goto 4, 3) := by decide +kernel
theorem dX0_has_16 : decode cX0_has 16 = .ok (.iconst 0, 1) := by decide +kernel
theorem dX0_has_17 : decode cX0_has 17 = .ok (.ireturn, 1) := by decide +kernel
theorem dX0_at_0 : decode cX0_at 0 = .ok (.iload_n 1, 1) := by decide +kernel
theorem dX0_at_1 : decode cX0_at 1 = .ok (.ifCond .lt 20, 3) := by decide +kernel
theorem dX0_at_4 : decode cX0_at 4 = .ok (.iload_n 1, 1) := by decide +kernel
theorem dX0_at_5 : decode cX0_at 5 = .ok (.aload_n 0, 1) := by decide +kernel
theorem dX0_at_6 : decode cX0_at 6 = .ok (.getfield 13, 3) := by decide +kernel
theorem dX0_at_9 : decode cX0_at 9 = .ok (.if_icmp .ge 12, 3) := by decide +kernel
theorem dX0_at_12 : decode cX0_at 12 = .ok (.aload_n 0, 1) := by decide +kernel
theorem dX0_at_13 : decode cX0_at 13 = .ok (.getfield 7, 3) := by decide +kernel
theorem dX0_at_16 : decode cX0_at 16 = .ok (.iload_n 1, 1) := by decide +kernel
theorem dX0_at_17 : decode cX0_at 17 = .ok (.iaload, 1) := by decide +kernel
theorem dX0_at_18 : decode cX0_at 18 = .ok (.goto 4, 3) := by decide +kernel
theorem dX0_at_21 : decode cX0_at 21 = .ok (.iconst (-1), 1) := by decide +kernel
theorem dX0_at_22 : decode cX0_at 22 = .ok (.ireturn, 1) := by decide +kernel
theorem dX0_pairAtStart_0 : decode cX0_pairAtStart 0 = .ok (.aload_n 0, 1) := by decide +kernel
theorem dX0_pairAtStart_1 : decode cX0_pairAtStart 1 = .ok (.getfield 13, 3) := by decide +kernel
theorem dX0_pairAtStart_4 : decode cX0_pairAtStart 4 = .ok (.iconst 2, 1) := by decide +kernel
theorem dX0_pairAtStart_5 : decode cX0_pairAtStart 5 = .ok (.if_icmp .ge 7, 3) := by decide +kernel
theorem dX0_pairAtStart_8 : decode cX0_pairAtStart 8 = .ok (.iconst (-1), 1) := by decide +kernel
theorem dX0_pairAtStart_9 : decode cX0_pairAtStart 9 = .ok (.goto 20, 3) := by decide +kernel
theorem dX0_pairAtStart_12 : decode cX0_pairAtStart 12 = .ok (.aload_n 0, 1) := by decide +kernel
theorem dX0_pairAtStart_13 : decode cX0_pairAtStart 13 = .ok (.getfield 7, 3) := by decide +kernel
theorem dX0_pairAtStart_16 : decode cX0_pairAtStart 16 = .ok (.iconst 0, 1) := by decide +kernel
theorem dX0_pairAtStart_17 : decode cX0_pairAtStart 17 = .ok (.iaload, 1) := by decide +kernel
theorem dX0_pairAtStart_18 : decode cX0_pairAtStart 18 = .ok (.sipush 256, 3) := by decide +kernel
theorem dX0_pairAtStart_21 : decode cX0_pairAtStart 21 = .ok (.imul, 1) := by decide +kernel
theorem dX0_pairAtStart_22 : decode cX0_pairAtStart 22 = .ok (.aload_n 0, 1) := by decide +kernel
theorem dX0_pairAtStart_23 : decode cX0_pairAtStart 23 = .ok (.getfield 7, 3) := by decide +kernel
theorem dX0_pairAtStart_26 : decode cX0_pairAtStart 26 = .ok (.iconst 1, 1) := by decide +kernel
theorem dX0_pairAtStart_27 : decode cX0_pairAtStart 27 = .ok (.iaload, 1) := by decide +kernel
theorem dX0_pairAtStart_28 : decode cX0_pairAtStart 28 = .ok (.iadd, 1) := by decide +kernel
theorem dX0_pairAtStart_29 : decode cX0_pairAtStart 29 = .ok (.ireturn, 1) := by decide +kernel
theorem dX0_isFull_0 : decode cX0_isFull 0 = .ok (.aload_n 0, 1) := by decide +kernel
theorem dX0_isFull_1 : decode cX0_isFull 1 = .ok (.getfield 13, 3) := by decide +kernel
theorem dX0_isFull_4 : decode cX0_isFull 4 = .ok (.aload_n 0, 1) := by decide +kernel
theorem dX0_isFull_5 : decode cX0_isFull 5 = .ok (.getfield 7, 3) := by decide +kernel
theorem dX0_isFull_8 : decode cX0_isFull 8 = .ok (.arraylength, 1) := by decide +kernel
theorem dX0_isFull_9 : decode cX0_isFull 9 = .ok (.if_icmp .ne 7, 3) := by decide +kernel
theorem dX0_isFull_12 : decode cX0_isFull 12 = .ok (.iconst 1, 1) := by decide +kernel
theorem dX0_isFull_13 : decode cX0_isFull 13 = .ok (.goto 4, 3) := by decide +kernel
theorem dX0_isFull_16 : decode cX0_isFull 16 = .ok (.iconst 0, 1) := by decide +kernel
theorem dX0_isFull_17 : decode cX0_isFull 17 = .ok (.ireturn, 1) := by decide +kernel
theorem dX0_empty_0 : decode cX0_empty 0 = .ok (.aload_n 0, 1) := by decide +kernel
theorem dX0_empty_1 : decode cX0_empty 1 = .ok (.iconst 0, 1) := by decide +kernel
theorem dX0_empty_2 : decode cX0_empty 2 = .ok (.putfield 13, 3) := by decide +kernel
theorem dX0_empty_5 : decode cX0_empty 5 = .ok (.return_, 1) := by decide +kernel
theorem dX0_add_0 : decode cX0_add 0 = .ok (.aload_n 0, 1) := by decide +kernel
theorem dX0_add_1 : decode cX0_add 1 = .ok (.getfield 13, 3) := by decide +kernel
theorem dX0_add_4 : decode cX0_add 4 = .ok (.aload_n 0, 1) := by decide +kernel
theorem dX0_add_5 : decode cX0_add 5 = .ok (.getfield 7, 3) := by decide +kernel
theorem dX0_add_8 : decode cX0_add 8 = .ok (.arraylength, 1) := by decide +kernel
theorem dX0_add_9 : decode cX0_add 9 = .ok (.if_icmp .ge 23, 3) := by decide +kernel
theorem dX0_add_12 : decode cX0_add 12 = .ok (.aload_n 0, 1) := by decide +kernel
theorem dX0_add_13 : decode cX0_add 13 = .ok (.getfield 7, 3) := by decide +kernel
theorem dX0_add_16 : decode cX0_add 16 = .ok (.aload_n 0, 1) := by decide +kernel
theorem dX0_add_17 : decode cX0_add 17 = .ok (.getfield 13, 3) := by decide +kernel
theorem dX0_add_20 : decode cX0_add 20 = .ok (.iload_n 1, 1) := by decide +kernel
theorem dX0_add_21 : decode cX0_add 21 = .ok (.iastore, 1) := by decide +kernel
theorem dX0_add_22 : decode cX0_add 22 = .ok (.aload_n 0, 1) := by decide +kernel
theorem dX0_add_23 : decode cX0_add 23 = .ok (.dup, 1) := by decide +kernel
theorem dX0_add_24 : decode cX0_add 24 = .ok (.getfield 13, 3) := by decide +kernel
theorem dX0_add_27 : decode cX0_add 27 = .ok (.iconst 1, 1) := by decide +kernel
theorem dX0_add_28 : decode cX0_add 28 = .ok (.iadd, 1) := by decide +kernel
theorem dX0_add_29 : decode cX0_add 29 = .ok (.putfield 13, 3) := by decide +kernel
theorem dX0_add_32 : decode cX0_add 32 = .ok (.return_, 1) := by decide +kernel
theorem dX0_addText_0 : decode cX0_addText 0 = .ok (.iconst 0, 1) := by decide +kernel
theorem dX0_addText_1 : decode cX0_addText 1 = .ok (.istore_n 2, 1) := by decide +kernel
theorem dX0_addText_2 : decode cX0_addText 2 = .ok (.iload_n 2, 1) := by decide +kernel
theorem dX0_addText_3 : decode cX0_addText 3 = .ok (.aload_n 1, 1) := by decide +kernel
theorem dX0_addText_4 : decode cX0_addText 4 = .ok (.invokevirtual 17, 3) := by decide +kernel
theorem dX0_addText_7 : decode cX0_addText 7 = .ok (.if_icmp .ge 18, 3) := by decide +kernel
theorem dX0_addText_10 : decode cX0_addText 10 = .ok (.aload_n 0, 1) := by decide +kernel
theorem dX0_addText_11 : decode cX0_addText 11 = .ok (.aload_n 1, 1) := by decide +kernel
theorem dX0_addText_12 : decode cX0_addText 12 = .ok (.iload_n 2, 1) := by decide +kernel
theorem dX0_addText_13 : decode cX0_addText 13 = .ok (.invokevirtual 23, 3) := by decide +kernel
theorem dX0_addText_16 : decode cX0_addText 16 = .ok (.invokevirtual 27, 3) := by decide +kernel
theorem dX0_addText_19 : decode cX0_addText 19 = .ok (.iinc 2 1, 3) := by decide +kernel
theorem dX0_addText_22 : decode cX0_addText 22 = .ok (.goto (-20), 3) := by decide +kernel
theorem dX0_addText_25 : decode cX0_addText 25 = .ok (.return_, 1) := by decide +kernel
theorem dX0_addPart_0 : decode cX0_addPart 0 = .ok (.iload_n 2, 1) := by decide +kernel
theorem dX0_addPart_1 : decode cX0_addPart 1 = .ok (.istore 4, 2) := by decide +kernel
theorem dX0_addPart_3 : decode cX0_addPart 3 = .ok (.iload 4, 2) := by decide +kernel
theorem dX0_addPart_5 : decode cX0_addPart 5 = .ok (.iload_n 3, 1) := by decide +kernel
theorem dX0_addPart_6 : decode cX0_addPart 6 = .ok (.if_icmp .ge 19, 3) := by decide +kernel
theorem dX0_addPart_9 : decode cX0_addPart 9 = .ok (.aload_n 0, 1) := by decide +kernel
theorem dX0_addPart_10 : decode cX0_addPart 10 = .ok (.aload_n 1, 1) := by decide +kernel
theorem dX0_addPart_11 : decode cX0_addPart 11 = .ok (.iload 4, 2) := by decide +kernel
theorem dX0_addPart_13 : decode cX0_addPart 13 = .ok (.invokevirtual 31, 3) := by decide +kernel
theorem dX0_addPart_16 : decode cX0_addPart 16 = .ok (.invokevirtual 27, 3) := by decide +kernel
theorem dX0_addPart_19 : decode cX0_addPart 19 = .ok (.iinc 4 1, 3) := by decide +kernel
theorem dX0_addPart_22 : decode cX0_addPart 22 = .ok (.goto (-19), 3) := by decide +kernel
theorem dX0_addPart_25 : decode cX0_addPart 25 = .ok (.return_, 1) := by decide +kernel
theorem dX0_cutFront_0 : decode cX0_cutFront 0 = .ok (.iload_n 1, 1) := by decide +kernel
theorem dX0_cutFront_1 : decode cX0_cutFront 1 = .ok (.ifCond .lt 11, 3) := by decide +kernel
theorem dX0_cutFront_4 : decode cX0_cutFront 4 = .ok (.iload_n 1, 1) := by decide +kernel
theorem dX0_cutFront_5 : decode cX0_cutFront 5 = .ok (.aload_n 0, 1) := by decide +kernel
theorem dX0_cutFront_6 : decode cX0_cutFront 6 = .ok (.getfield 13, 3) := by decide +kernel
theorem dX0_cutFront_9 : decode cX0_cutFront 9 = .ok (.if_icmp .le 5, 3) := by decide +kernel
theorem dX0_cutFront_12 : decode cX0_cutFront 12 = .ok (.iconst 0, 1) := by decide +kernel
theorem dX0_cutFront_13 : decode cX0_cutFront 13 = .ok (.ireturn, 1) := by decide +kernel
theorem dX0_cutFront_14 : decode cX0_cutFront 14 = .ok (.aload_n 0, 1) := by decide +kernel
theorem dX0_cutFront_15 : decode cX0_cutFront 15 = .ok (.getfield 7, 3) := by decide +kernel
theorem dX0_cutFront_18 : decode cX0_cutFront 18 = .ok (.iload_n 1, 1) := by decide +kernel
theorem dX0_cutFront_19 : decode cX0_cutFront 19 = .ok (.aload_n 0, 1) := by decide +kernel
theorem dX0_cutFront_20 : decode cX0_cutFront 20 = .ok (.getfield 7, 3) := by decide +kernel
theorem dX0_cutFront_23 : decode cX0_cutFront 23 = .ok (.iconst 0, 1) := by decide +kernel
theorem dX0_cutFront_24 : decode cX0_cutFront 24 = .ok (.aload_n 0, 1) := by decide +kernel
theorem dX0_cutFront_25 : decode cX0_cutFront 25 = .ok (.getfield 13, 3) := by decide +kernel
theorem dX0_cutFront_28 : decode cX0_cutFront 28 = .ok (.iload_n 1, 1) := by decide +kernel
theorem dX0_cutFront_29 : decode cX0_cutFront 29 = .ok (.isub, 1) := by decide +kernel
theorem dX0_cutFront_30 : decode cX0_cutFront 30 = .ok (.invokestatic 35, 3) := by decide +kernel
theorem dX0_cutFront_33 : decode cX0_cutFront 33 = .ok (.aload_n 0, 1) := by decide +kernel
theorem dX0_cutFront_34 : decode cX0_cutFront 34 = .ok (.dup, 1) := by decide +kernel
theorem dX0_cutFront_35 : decode cX0_cutFront 35 = .ok (.getfield 13, 3) := by decide +kernel
theorem dX0_cutFront_38 : decode cX0_cutFront 38 = .ok (.iload_n 1, 1) := by decide +kernel
theorem dX0_cutFront_39 : decode cX0_cutFront 39 = .ok (.isub, 1) := by decide +kernel
theorem dX0_cutFront_40 : decode cX0_cutFront 40 = .ok (.putfield 13, 3) := by decide +kernel
theorem dX0_cutFront_43 : decode cX0_cutFront 43 = .ok (.iconst 1, 1) := by decide +kernel
theorem dX0_cutFront_44 : decode cX0_cutFront 44 = .ok (.ireturn, 1) := by decide +kernel
theorem dX0_copyTo_0 : decode cX0_copyTo 0 = .ok (.iload_n 2, 1) := by decide +kernel
theorem dX0_copyTo_1 : decode cX0_copyTo 1 = .ok (.ifCond .lt 28, 3) := by decide +kernel
theorem dX0_copyTo_4 : decode cX0_copyTo 4 = .ok (.iload_n 2, 1) := by decide +kernel
theorem dX0_copyTo_5 : decode cX0_copyTo 5 = .ok (.aload_n 0, 1) := by decide +kernel
theorem dX0_copyTo_6 : decode cX0_copyTo 6 = .ok (.getfield 13, 3) := by decide +kernel
theorem dX0_copyTo_9 : decode cX0_copyTo 9 = .ok (.iadd, 1) := by decide +kernel
theorem dX0_copyTo_10 : decode cX0_copyTo 10 = .ok (.aload_n 1, 1) := by decide +kernel
theorem dX0_copyTo_11 : decode cX0_copyTo 11 = .ok (.arraylength, 1) := by decide +kernel
theorem dX0_copyTo_12 : decode cX0_copyTo 12 = .ok (.if_icmp .gt 17, 3) := by decide +kernel
theorem dX0_copyTo_15 : decode cX0_copyTo 15 = .ok (.aload_n 0, 1) := by decide +kernel
theorem dX0_copyTo_16 : decode cX0_copyTo 16 = .ok (.getfield 7, 3) := by decide +kernel
theorem dX0_copyTo_19 : decode cX0_copyTo 19 = .ok (.iconst 0, 1) := by decide +kernel
theorem dX0_copyTo_20 : decode cX0_copyTo 20 = .ok (.aload_n 1, 1) := by decide +kernel
theorem dX0_copyTo_21 : decode cX0_copyTo 21 = .ok (.iload_n 2, 1) := by decide +kernel
theorem dX0_copyTo_22 : decode cX0_copyTo 22 = .ok (.aload_n 0, 1) := by decide +kernel
theorem dX0_copyTo_23 : decode cX0_copyTo 23 = .ok (.getfield 13, 3) := by decide +kernel
theorem dX0_copyTo_26 : decode cX0_copyTo 26 = .ok (.invokestatic 35, 3) := by decide +kernel
theorem dX0_copyTo_29 : decode cX0_copyTo 29 = .ok (.return_, 1) := by decide +kernel
theorem dX1_init_0 : decode cX1_init 0 = .ok (.aload_n 0, 1) := by decide +kernel
theorem dX1_init_1 : decode cX1_init 1 = .ok (.invokespecial 3, 3) := by decide +kernel
theorem dX1_init_4 : decode cX1_init 4 = .ok (.aload_n 0, 1) := by decide +kernel
theorem dX1_init_5 : decode cX1_init 5 = .ok (.iconst 4, 1) := by decide +kernel
theorem dX1_init_6 : decode cX1_init 6 = .ok (.newarray .int, 2) := by decide +kernel
theorem dX1_init_8 : decode cX1_init 8 = .ok (.putfield 9, 3) := by decide +kernel
theorem dX1_init_11 : decode cX1_init 11 = .ok (.aload_n 0, 1) := by decide +kernel
theorem dX1_init_12 : decode cX1_init 12 = .ok (.new 15, 3) := by decide +kernel
theorem dX1_init_15 : decode cX1_init 15 = .ok (.dup, 1) := by decide +kernel
theorem dX1_init_16 : decode cX1_init 16 = .ok (.sipush 300, 3) := by decide +kernel
theorem dX1_init_19 : decode cX1_init 19 = .ok (.invokespecial 17, 3) := by decide +kernel
theorem dX1_init_22 : decode cX1_init 22 = .ok (.putfield 20, 3) := by decide +kernel
theorem dX1_init_25 : decode cX1_init 25 = .ok (.aload_n 0, 1) := by decide +kernel
theorem dX1_init_26 : decode cX1_init 26 = .ok (.new 15, 3) := by decide +kernel
theorem dX1_init_29 : decode cX1_init 29 = .ok (.dup, 1) := by decide +kernel
theorem dX1_init_30 : decode cX1_init 30 = .ok (.bipush 125, 2) := by decide +kernel
theorem dX1_init_32 : decode cX1_init 32 = .ok (.invokespecial 17, 3) := by decide +kernel
theorem dX1_init_35 : decode cX1_init 35 = .ok (.putfield 24, 3) := by decide +kernel
theorem dX1_init_38 : decode cX1_init 38 = .ok (.aload_n 0, 1) := by decide +kernel
theorem dX1_init_39 : decode cX1_init 39 = .ok (.new 27, 3) := by decide +kernel
theorem dX1_init_42 : decode cX1_init 42 = .ok (.dup, 1) := by decide +kernel
theorem dX1_init_43 : decode cX1_init 43 = .ok (.invokespecial 29, 3) := by decide +kernel
theorem dX1_init_46 : decode cX1_init 46 = .ok (.putfield 30, 3) := by decide +kernel
theorem dX1_init_49 : decode cX1_init 49 = .ok (.aload_n 0, 1) := by decide +kernel
theorem dX1_init_50 : decode cX1_init 50 = .ok (.new 27, 3) := by decide +kernel
theorem dX1_init_53 : decode cX1_init 53 = .ok (.dup, 1) := by decide +kernel
theorem dX1_init_54 : decode cX1_init 54 = .ok (.invokespecial 29, 3) := by decide +kernel
theorem dX1_init_57 : decode cX1_init 57 = .ok (.putfield 34, 3) := by decide +kernel
theorem dX1_init_60 : decode cX1_init 60 = .ok (.aload_n 0, 1) := by decide +kernel
theorem dX1_init_61 : decode cX1_init 61 = .ok (.iconst 0, 1) := by decide +kernel
theorem dX1_init_62 : decode cX1_init 62 = .ok (.putfield 37, 3) := by decide +kernel
theorem dX1_init_65 : decode cX1_init 65 = .ok (.return_, 1) := by decide +kernel
theorem dX1_frameKind_0 : decode cX1_frameKind 0 = .ok (.aload_n 0, 1) := by decide +kernel
theorem dX1_frameKind_1 : decode cX1_frameKind 1 = .ok (.getfield 41, 3) := by decide +kernel
theorem dX1_frameKind_4 : decode cX1_frameKind 4 = .ok (.ireturn, 1) := by decide +kernel
theorem dX1_isLast_0 : decode cX1_isLast 0 = .ok (.aload_n 0, 1) := by decide +kernel
theorem dX1_isLast_1 : decode cX1_isLast 1 = .ok (.getfield 44, 3) := by decide +kernel
theorem dX1_isLast_4 : decode cX1_isLast 4 = .ok (.ireturn, 1) := by decide +kernel
theorem dX1_messageKind_0 : decode cX1_messageKind 0 = .ok (.aload_n 0, 1) := by decide +kernel
theorem dX1_messageKind_1 : decode cX1_messageKind 1 = .ok (.getfield 48, 3) := by decide +kernel
theorem dX1_messageKind_4 : decode cX1_messageKind 4 = .ok (.ireturn, 1) := by decide +kernel
theorem dX1_message_0 : decode cX1_message 0 = .ok (.aload_n 0, 1) := by decide +kernel
theorem dX1_message_1 : decode cX1_message 1 = .ok (.getfield 20, 3) := by decide +kernel
theorem dX1_message_4 : decode cX1_message 4 = .ok (.areturn, 1) := by decide +kernel
theorem dX1_shortContent_0 : decode cX1_shortContent 0 = .ok (.aload_n 0, 1) := by decide +kernel
theorem dX1_shortContent_1 : decode cX1_shortContent 1 = .ok (.getfield 24, 3) := by decide +kernel
theorem dX1_shortContent_4 : decode cX1_shortContent 4 = .ok (.areturn, 1) := by decide +kernel
theorem dX1_read_0 : decode cX1_read 0 = .ok (.aload_n 0, 1) := by decide +kernel
theorem dX1_read_1 : decode cX1_read 1 = .ok (.iload_n 1, 1) := by decide +kernel
theorem dX1_read_2 : decode cX1_read 2 = .ok (.invokevirtual 51, 3) := by decide +kernel
theorem dX1_read_5 : decode cX1_read 5 = .ok (.istore_n 2, 1) := by decide +kernel
theorem dX1_read_6 : decode cX1_read 6 = .ok (.iload_n 2, 1) := by decide +kernel
theorem dX1_read_7 : decode cX1_read 7 = .ok (.ifCond .ne 34, 3) := by decide +kernel
theorem dX1_read_10 : decode cX1_read 10 = .ok (.aload_n 0, 1) := by decide +kernel
theorem dX1_read_11 : decode cX1_read 11 = .ok (.getfield 37, 3) := by decide +kernel
theorem dX1_read_14 : decode cX1_read 14 = .ok (.iconst 4, 1) := by decide +kernel
theorem dX1_read_15 : decode cX1_read 15 = .ok (.if_icmp .ne 26, 3) := by decide +kernel
theorem dX1_read_18 : decode cX1_read 18 = .ok (.aload_n 0, 1) := by decide +kernel
theorem dX1_read_19 : decode cX1_read 19 = .ok (.getfield 55, 3) := by decide +kernel
theorem dX1_read_22 : decode cX1_read 22 = .ok (.i2l, 1) := by decide +kernel
theorem dX1_read_23 : decode cX1_read 23 = .ok (.aload_n 0, 1) := by decide +kernel
theorem dX1_read_24 : decode cX1_read 24 = .ok (.getfield 58, 3) := by decide +kernel
theorem dX1_read_27 : decode cX1_read 27 = .ok (.lcmp, 1) := by decide +kernel
theorem dX1_read_28 : decode cX1_read 28 = .ok (.ifCond .ne 13, 3) := by decide +kernel
theorem dX1_read_31 : decode cX1_read 31 = .ok (.aload_n 0, 1) := by decide +kernel
theorem dX1_read_32 : decode cX1_read 32 = .ok (.iconst 0, 1) := by decide +kernel
theorem dX1_read_33 : decode cX1_read 33 = .ok (.putfield 37, 3) := by decide +kernel
theorem dX1_read_36 : decode cX1_read 36 = .ok (.aload_n 0, 1) := by decide +kernel
theorem dX1_read_37 : decode cX1_read 37 = .ok (.invokevirtual 62, 3) := by decide +kernel
theorem dX1_read_40 : decode cX1_read 40 = .ok (.ireturn, 1) := by decide +kernel
theorem dX1_read_41 : decode cX1_read 41 = .ok (.iload_n 2, 1) := by decide +kernel
theorem dX1_read_42 : decode cX1_read 42 = .ok (.ireturn, 1) := by decide +kernel
theorem dX1_readPart_0 : decode cX1_readPart 0 = .ok (.aload_n 0, 1) := by decide +kernel
theorem dX1_readPart_1 : decode cX1_readPart 1 = .ok (.getfield 37, 3) := by decide +kernel
theorem dX1_readPart_4 : decode cX1_readPart 4 = .ok (.tableswitch 56 0 3 #[32, 38, 44, 50], 32) := by decide +kernel
theorem dX1_readPart_36 : decode cX1_readPart 36 = .ok (.aload_n 0, 1) := by decide +kernel
theorem dX1_readPart_37 : decode cX1_readPart 37 = .ok (.iload_n 1, 1) := by decide +kernel
theorem dX1_readPart_38 : decode cX1_readPart 38 = .ok (.invokevirtual 66, 3) := by decide +kernel
theorem dX1_readPart_41 : decode cX1_readPart 41 = .ok (.ireturn, 1) := by decide +kernel
theorem dX1_readPart_42 : decode cX1_readPart 42 = .ok (.aload_n 0, 1) := by decide +kernel
theorem dX1_readPart_43 : decode cX1_readPart 43 = .ok (.iload_n 1, 1) := by decide +kernel
theorem dX1_readPart_44 : decode cX1_readPart 44 = .ok (.invokevirtual 69, 3) := by decide +kernel
theorem dX1_readPart_47 : decode cX1_readPart 47 = .ok (.ireturn, 1) := by decide +kernel
theorem dX1_readPart_48 : decode cX1_readPart 48 = .ok (.aload_n 0, 1) := by decide +kernel
theorem dX1_readPart_49 : decode cX1_readPart 49 = .ok (.iload_n 1, 1) := by decide +kernel
theorem dX1_readPart_50 : decode cX1_readPart 50 = .ok (.invokevirtual 72, 3) := by decide +kernel
theorem dX1_readPart_53 : decode cX1_readPart 53 = .ok (.ireturn, 1) := by decide +kernel
theorem dX1_readPart_54 : decode cX1_readPart 54 = .ok (.aload_n 0, 1) := by decide +kernel
theorem dX1_readPart_55 : decode cX1_readPart 55 = .ok (.iload_n 1, 1) := by decide +kernel
theorem dX1_readPart_56 : decode cX1_readPart 56 = .ok (.invokevirtual 75, 3) := by decide +kernel
theorem dX1_readPart_59 : decode cX1_readPart 59 = .ok (.ireturn, 1) := by decide +kernel
theorem dX1_readPart_60 : decode cX1_readPart 60 = .ok (.aload_n 0, 1) := by decide +kernel
theorem dX1_readPart_61 : decode cX1_readPart 61 = .ok (.iload_n 1, 1) := by decide +kernel
theorem dX1_readPart_62 : decode cX1_readPart 62 = .ok (.invokevirtual 78, 3) := by decide +kernel
theorem dX1_readPart_65 : decode cX1_readPart 65 = .ok (.ireturn, 1) := by decide +kernel
theorem dX1_readFirst_0 : decode cX1_readFirst 0 = .ok (.aload_n 0, 1) := by decide +kernel
theorem dX1_readFirst_1 : decode cX1_readFirst 1 = .ok (.iload_n 1, 1) := by decide +kernel
theorem dX1_readFirst_2 : decode cX1_readFirst 2 = .ok (.bipush 15, 2) := by decide +kernel
theorem dX1_readFirst_4 : decode cX1_readFirst 4 = .ok (.iand, 1) := by decide +kernel
theorem dX1_readFirst_5 : decode cX1_readFirst 5 = .ok (.putfield 41, 3) := by decide +kernel
theorem dX1_readFirst_8 : decode cX1_readFirst 8 = .ok (.aload_n 0, 1) := by decide +kernel
theorem dX1_readFirst_9 : decode cX1_readFirst 9 = .ok (.iload_n 1, 1) := by decide +kernel
theorem dX1_readFirst_10 : decode cX1_readFirst 10 = .ok (.sipush 128, 3) := by decide +kernel
theorem dX1_readFirst_13 : decode cX1_readFirst 13 = .ok (.if_icmp .lt 7, 3) := by decide +kernel
theorem dX1_readFirst_16 : decode cX1_readFirst 16 = .ok (.iconst 1, 1) := by decide +kernel
theorem dX1_readFirst_17 : decode cX1_readFirst 17 = .ok (.goto 4, 3) := by decide +kernel
theorem dX1_readFirst_20 : decode cX1_readFirst 20 = .ok (.iconst 0, 1) := by decide +kernel
theorem dX1_readFirst_21 : decode cX1_readFirst 21 = .ok (.putfield 44, 3) := by decide +kernel
theorem dX1_readFirst_24 : decode cX1_readFirst 24 = .ok (.iload_n 1, 1) := by decide +kernel
theorem dX1_readFirst_25 : decode cX1_readFirst 25 = .ok (.bipush 112, 2) := by decide +kernel
theorem dX1_readFirst_27 : decode cX1_readFirst 27 = .ok (.iand, 1) := by decide +kernel
theorem dX1_readFirst_28 : decode cX1_readFirst 28 = .ok (.ifCond .ne 10, 3) := by decide +kernel
theorem dX1_readFirst_31 : decode cX1_readFirst 31 = .ok (.aload_n 0, 1) := by decide +kernel
theorem dX1_readFirst_32 : decode cX1_readFirst 32 = .ok (.invokevirtual 81, 3) := by decide +kernel
theorem dX1_readFirst_35 : decode cX1_readFirst 35 = .ok (.ifCond .ne 7, 3) := by decide +kernel
theorem dX1_readFirst_38 : decode cX1_readFirst 38 = .ok (.sipush 1002, 3) := by decide +kernel
theorem dX1_readFirst_41 : decode cX1_readFirst 41 = .ok (.ireturn, 1) := by decide +kernel
theorem dX1_readFirst_42 : decode cX1_readFirst 42 = .ok (.aload_n 0, 1) := by decide +kernel
theorem dX1_readFirst_43 : decode cX1_readFirst 43 = .ok (.invokevirtual 85, 3) := by decide +kernel
theorem dX1_readFirst_46 : decode cX1_readFirst 46 = .ok (.ifCond .eq 13, 3) := by decide +kernel
theorem dX1_readFirst_49 : decode cX1_readFirst 49 = .ok (.aload_n 0, 1) := by decide +kernel
theorem dX1_readFirst_50 : decode cX1_readFirst 50 = .ok (.getfield 24, 3) := by decide +kernel
theorem dX1_readFirst_53 : decode cX1_readFirst 53 = .ok (.invokevirtual 88, 3) := by decide +kernel
theorem dX1_readFirst_56 : decode cX1_readFirst 56 = .ok (.goto 14, 3) := by decide +kernel
theorem dX1_readFirst_59 : decode cX1_readFirst 59 = .ok (.aload_n 0, 1) := by decide +kernel
theorem dX1_readFirst_60 : decode cX1_readFirst 60 = .ok (.getfield 41, 3) := by decide +kernel
theorem dX1_readFirst_63 : decode cX1_readFirst 63 = .ok (.ifCond .eq 7, 3) := by decide +kernel
theorem dX1_readFirst_66 : decode cX1_readFirst 66 = .ok (.aload_n 0, 1) := by decide +kernel
theorem dX1_readFirst_67 : decode cX1_readFirst 67 = .ok (.invokevirtual 91, 3) := by decide +kernel
theorem dX1_readFirst_70 : decode cX1_readFirst 70 = .ok (.aload_n 0, 1) := by decide +kernel
theorem dX1_readFirst_71 : decode cX1_readFirst 71 = .ok (.iconst 1, 1) := by decide +kernel
theorem dX1_readFirst_72 : decode cX1_readFirst 72 = .ok (.putfield 37, 3) := by decide +kernel
theorem dX1_readFirst_75 : decode cX1_readFirst 75 = .ok (.iconst 0, 1) := by decide +kernel
theorem dX1_readFirst_76 : decode cX1_readFirst 76 = .ok (.ireturn, 1) := by decide +kernel
theorem dX1_isShort_0 : decode cX1_isShort 0 = .ok (.aload_n 0, 1) := by decide +kernel
theorem dX1_isShort_1 : decode cX1_isShort 1 = .ok (.getfield 41, 3) := by decide +kernel
theorem dX1_isShort_4 : decode cX1_isShort 4 = .ok (.bipush 8, 2) := by decide +kernel
theorem dX1_isShort_6 : decode cX1_isShort 6 = .ok (.if_icmp .lt 7, 3) := by decide +kernel
theorem dX1_isShort_9 : decode cX1_isShort 9 = .ok (.iconst 1, 1) := by decide +kernel
theorem dX1_isShort_10 : decode cX1_isShort 10 = .ok (.goto 4, 3) := by decide +kernel
theorem dX1_isShort_13 : decode cX1_isShort 13 = .ok (.iconst 0, 1) := by decide +kernel
theorem dX1_isShort_14 : decode cX1_isShort 14 = .ok (.ireturn, 1) := by decide +kernel
theorem dX1_mayComeNow_0 : decode cX1_mayComeNow 0 = .ok (.aload_n 0, 1) := by decide +kernel
theorem dX1_mayComeNow_1 : decode cX1_mayComeNow 1 = .ok (.getfield 41, 3) := by decide +kernel
theorem dX1_mayComeNow_4 : decode cX1_mayComeNow 4 = .ok (.tableswitch 83 0 10 #[60, 65, 65, 83, 83, 83, 83, 83, 78, 78, 78], 60) := by decide +kernel
theorem dX1_mayComeNow_64 : decode cX1_mayComeNow 64 = .ok (.aload_n 0, 1) := by decide +kernel
theorem dX1_mayComeNow_65 : decode cX1_mayComeNow 65 = .ok (.getfield 94, 3) := by decide +kernel
theorem dX1_mayComeNow_68 : decode cX1_mayComeNow 68 = .ok (.ireturn, 1) := by decide +kernel
theorem dX1_mayComeNow_69 : decode cX1_mayComeNow 69 = .ok (.aload_n 0, 1) := by decide +kernel
theorem dX1_mayComeNow_70 : decode cX1_mayComeNow 70 = .ok (.getfield 94, 3) := by decide +kernel
theorem dX1_mayComeNow_73 : decode cX1_mayComeNow 73 = .ok (.ifCond .ne 7, 3) := by decide +kernel
theorem dX1_mayComeNow_76 : decode cX1_mayComeNow 76 = .ok (.iconst 1, 1) := by decide +kernel
theorem dX1_mayComeNow_77 : decode cX1_mayComeNow 77 = .ok (.goto 4, 3) := by decide +kernel
theorem dX1_mayComeNow_80 : decode cX1_mayComeNow 80 = .ok (.iconst 0, 1) := by decide +kernel
theorem dX1_mayComeNow_81 : decode cX1_mayComeNow 81 = .ok (.ireturn, 1) := by decide +kernel
theorem dX1_mayComeNow_82 : decode cX1_mayComeNow 82 = .ok (.aload_n 0, 1) := by decide +kernel
theorem dX1_mayComeNow_83 : decode cX1_mayComeNow 83 = .ok (.getfield 44, 3) := by decide +kernel
theorem dX1_mayComeNow_86 : decode cX1_mayComeNow 86 = .ok (.ireturn, 1) := by decide +kernel
theorem dX1_mayComeNow_87 : decode cX1_mayComeNow 87 = .ok (.iconst 0, 1) := by decide +kernel
theorem dX1_mayComeNow_88 : decode cX1_mayComeNow 88 = .ok (.ireturn, 1) := by decide +kernel
theorem dX1_beginMessage_0 : decode cX1_beginMessage 0 = .ok (.aload_n 0, 1) := by decide +kernel
theorem dX1_beginMessage_1 : decode cX1_beginMessage 1 = .ok (.iconst 1, 1) := by decide +kernel
theorem dX1_beginMessage_2 : decode cX1_beginMessage 2 = .ok (.putfield 94, 3) := by decide +kernel
theorem dX1_beginMessage_5 : decode cX1_beginMessage 5 = .ok (.aload_n 0, 1) := by decide +kernel
theorem dX1_beginMessage_6 : decode cX1_beginMessage 6 = .ok (.aload_n 0, 1) := by decide +kernel
theorem dX1_beginMessage_7 : decode cX1_beginMessage 7 = .ok (.getfield 41, 3) := by decide +kernel
theorem dX1_beginMessage_10 : decode cX1_beginMessage 10 = .ok (.putfield 48, 3) := by decide +kernel
theorem dX1_beginMessage_13 : decode cX1_beginMessage 13 = .ok (.aload_n 0, 1) := by decide +kernel
theorem dX1_beginMessage_14 : decode cX1_beginMessage 14 = .ok (.getfield 20, 3) := by decide +kernel
theorem dX1_beginMessage_17 : decode cX1_beginMessage 17 = .ok (.invokevirtual 88, 3) := by decide +kernel
theorem dX1_beginMessage_20 : decode cX1_beginMessage 20 = .ok (.aload_n 0, 1) := by decide +kernel
theorem dX1_beginMessage_21 : decode cX1_beginMessage 21 = .ok (.getfield 30, 3) := by decide +kernel
theorem dX1_beginMessage_24 : decode cX1_beginMessage 24 = .ok (.invokevirtual 97, 3) := by decide +kernel
theorem dX1_beginMessage_27 : decode cX1_beginMessage 27 = .ok (.return_, 1) := by decide +kernel
theorem dX1_readSecond_0 : decode cX1_readSecond 0 = .ok (.iload_n 1, 1) := by decide +kernel
theorem dX1_readSecond_1 : decode cX1_readSecond 1 = .ok (.bipush 127, 2) := by decide +kernel
theorem dX1_readSecond_3 : decode cX1_readSecond 3 = .ok (.iand, 1) := by decide +kernel
theorem dX1_readSecond_4 : decode cX1_readSecond 4 = .ok (.istore_n 2, 1) := by decide +kernel
theorem dX1_readSecond_5 : decode cX1_readSecond 5 = .ok (.iload_n 1, 1) := by decide +kernel
theorem dX1_readSecond_6 : decode cX1_readSecond 6 = .ok (.sipush 128, 3) := by decide +kernel
theorem dX1_readSecond_9 : decode cX1_readSecond 9 = .ok (.if_icmp .lt 16, 3) := by decide +kernel
theorem dX1_readSecond_12 : decode cX1_readSecond 12 = .ok (.aload_n 0, 1) := by decide +kernel
theorem dX1_readSecond_13 : decode cX1_readSecond 13 = .ok (.invokevirtual 85, 3) := by decide +kernel
theorem dX1_readSecond_16 : decode cX1_readSecond 16 = .ok (.ifCond .eq 13, 3) := by decide +kernel
theorem dX1_readSecond_19 : decode cX1_readSecond 19 = .ok (.iload_n 2, 1) := by decide +kernel
theorem dX1_readSecond_20 : decode cX1_readSecond 20 = .ok (.bipush 125, 2) := by decide +kernel
theorem dX1_readSecond_22 : decode cX1_readSecond 22 = .ok (.if_icmp .le 7, 3) := by decide +kernel
theorem dX1_readSecond_25 : decode cX1_readSecond 25 = .ok (.sipush 1002, 3) := by decide +kernel
theorem dX1_readSecond_28 : decode cX1_readSecond 28 = .ok (.ireturn, 1) := by decide +kernel
theorem dX1_readSecond_29 : decode cX1_readSecond 29 = .ok (.iload_n 2, 1) := by decide +kernel
theorem dX1_readSecond_30 : decode cX1_readSecond 30 = .ok (.bipush 125, 2) := by decide +kernel
theorem dX1_readSecond_32 : decode cX1_readSecond 32 = .ok (.if_icmp .gt 14, 3) := by decide +kernel
theorem dX1_readSecond_35 : decode cX1_readSecond 35 = .ok (.aload_n 0, 1) := by decide +kernel
theorem dX1_readSecond_36 : decode cX1_readSecond 36 = .ok (.iload_n 2, 1) := by decide +kernel
theorem dX1_readSecond_37 : decode cX1_readSecond 37 = .ok (.i2l, 1) := by decide +kernel
theorem dX1_readSecond_38 : decode cX1_readSecond 38 = .ok (.putfield 58, 3) := by decide +kernel
theorem dX1_readSecond_41 : decode cX1_readSecond 41 = .ok (.aload_n 0, 1) := by decide +kernel
theorem dX1_readSecond_42 : decode cX1_readSecond 42 = .ok (.invokevirtual 100, 3) := by decide +kernel
theorem dX1_readSecond_45 : decode cX1_readSecond 45 = .ok (.ireturn, 1) := by decide +kernel
theorem dX1_readSecond_46 : decode cX1_readSecond 46 = .ok (.aload_n 0, 1) := by decide +kernel
theorem dX1_readSecond_47 : decode cX1_readSecond 47 = .ok (.iload_n 2, 1) := by decide +kernel
theorem dX1_readSecond_48 : decode cX1_readSecond 48 = .ok (.bipush 126, 2) := by decide +kernel
theorem dX1_readSecond_50 : decode cX1_readSecond 50 = .ok (.if_icmp .ne 7, 3) := by decide +kernel
theorem dX1_readSecond_53 : decode cX1_readSecond 53 = .ok (.iconst 2, 1) := by decide +kernel
theorem dX1_readSecond_54 : decode cX1_readSecond 54 = .ok (.goto 5, 3) := by decide +kernel
theorem dX1_readSecond_57 : decode cX1_readSecond 57 = .ok (.bipush 8, 2) := by decide +kernel
theorem dX1_readSecond_59 : decode cX1_readSecond 59 = .ok (.putfield 103, 3) := by decide +kernel
theorem dX1_readSecond_62 : decode cX1_readSecond 62 = .ok (.aload_n 0, 1) := by decide +kernel
theorem dX1_readSecond_63 : decode cX1_readSecond 63 = .ok (.iconst 0, 1) := by decide +kernel
theorem dX1_readSecond_64 : decode cX1_readSecond 64 = .ok (.putfield 106, 3) := by decide +kernel
theorem dX1_readSecond_67 : decode cX1_readSecond 67 = .ok (.aload_n 0, 1) := by decide +kernel
theorem dX1_readSecond_68 : decode cX1_readSecond 68 = .ok (.lconst 0, 1) := by decide +kernel
theorem dX1_readSecond_69 : decode cX1_readSecond 69 = .ok (.putfield 58, 3) := by decide +kernel
theorem dX1_readSecond_72 : decode cX1_readSecond 72 = .ok (.aload_n 0, 1) := by decide +kernel
theorem dX1_readSecond_73 : decode cX1_readSecond 73 = .ok (.iconst 2, 1) := by decide +kernel
theorem dX1_readSecond_74 : decode cX1_readSecond 74 = .ok (.putfield 37, 3) := by decide +kernel
theorem dX1_readSecond_77 : decode cX1_readSecond 77 = .ok (.iconst 0, 1) := by decide +kernel
theorem dX1_readSecond_78 : decode cX1_readSecond 78 = .ok (.ireturn, 1) := by decide +kernel
theorem dX1_readLength_0 : decode cX1_readLength 0 = .ok (.aload_n 0, 1) := by decide +kernel
theorem dX1_readLength_1 : decode cX1_readLength 1 = .ok (.aload_n 0, 1) := by decide +kernel
theorem dX1_readLength_2 : decode cX1_readLength 2 = .ok (.getfield 58, 3) := by decide +kernel
theorem dX1_readLength_5 : decode cX1_readLength 5 = .ok (.bipush 8, 2) := by decide +kernel
theorem dX1_readLength_7 : decode cX1_readLength 7 = .ok (.lshl, 1) := by decide +kernel
theorem dX1_readLength_8 : decode cX1_readLength 8 = .ok (.iload_n 1, 1) := by decide +kernel
theorem dX1_readLength_9 : decode cX1_readLength 9 = .ok (.i2l, 1) := by decide +kernel
theorem dX1_readLength_10 : decode cX1_readLength 10 = .ok (.lor, 1) := by decide +kernel
theorem dX1_readLength_11 : decode cX1_readLength 11 = .ok (.putfield 58, 3) := by decide +kernel
theorem dX1_readLength_14 : decode cX1_readLength 14 = .ok (.aload_n 0, 1) := by decide +kernel
theorem dX1_readLength_15 : decode cX1_readLength 15 = .ok (.dup, 1) := by decide +kernel
theorem dX1_readLength_16 : decode cX1_readLength 16 = .ok (.getfield 106, 3) := by decide +kernel
theorem dX1_readLength_19 : decode cX1_readLength 19 = .ok (.iconst 1, 1) := by decide +kernel
theorem dX1_readLength_20 : decode cX1_readLength 20 = .ok (.iadd, 1) := by decide +kernel
theorem dX1_readLength_21 : decode cX1_readLength 21 = .ok (.putfield 106, 3) := by decide +kernel
theorem dX1_readLength_24 : decode cX1_readLength 24 = .ok (.aload_n 0, 1) := by decide +kernel
theorem dX1_readLength_25 : decode cX1_readLength 25 = .ok (.getfield 106, 3) := by decide +kernel
theorem dX1_readLength_28 : decode cX1_readLength 28 = .ok (.aload_n 0, 1) := by decide +kernel
theorem dX1_readLength_29 : decode cX1_readLength 29 = .ok (.getfield 103, 3) := by decide +kernel
theorem dX1_readLength_32 : decode cX1_readLength 32 = .ok (.if_icmp .ge 5, 3) := by decide +kernel
theorem dX1_readLength_35 : decode cX1_readLength 35 = .ok (.iconst 0, 1) := by decide +kernel
theorem dX1_readLength_36 : decode cX1_readLength 36 = .ok (.ireturn, 1) := by decide +kernel
theorem dX1_readLength_37 : decode cX1_readLength 37 = .ok (.aload_n 0, 1) := by decide +kernel
theorem dX1_readLength_38 : decode cX1_readLength 38 = .ok (.getfield 58, 3) := by decide +kernel
theorem dX1_readLength_41 : decode cX1_readLength 41 = .ok (.aload_n 0, 1) := by decide +kernel
theorem dX1_readLength_42 : decode cX1_readLength 42 = .ok (.getfield 103, 3) := by decide +kernel
theorem dX1_readLength_45 : decode cX1_readLength 45 = .ok (.iconst 2, 1) := by decide +kernel
theorem dX1_readLength_46 : decode cX1_readLength 46 = .ok (.if_icmp .ne 8, 3) := by decide +kernel
theorem dX1_readLength_49 : decode cX1_readLength 49 = .ok (.bipush 126, 2) := by decide +kernel
theorem dX1_readLength_51 : decode cX1_readLength 51 = .ok (.goto 5, 3) := by decide +kernel
theorem dX1_readLength_54 : decode cX1_readLength 54 = .ok (.ldc 109, 2) := by decide +kernel
theorem dX1_readLength_56 : decode cX1_readLength 56 = .ok (.i2l, 1) := by decide +kernel
theorem dX1_readLength_57 : decode cX1_readLength 57 = .ok (.lcmp, 1) := by decide +kernel
theorem dX1_readLength_58 : decode cX1_readLength 58 = .ok (.ifCond .ge 7, 3) := by decide +kernel
theorem dX1_readLength_61 : decode cX1_readLength 61 = .ok (.sipush 1002, 3) := by decide +kernel
theorem dX1_readLength_64 : decode cX1_readLength 64 = .ok (.ireturn, 1) := by decide +kernel
theorem dX1_readLength_65 : decode cX1_readLength 65 = .ok (.aload_n 0, 1) := by decide +kernel
theorem dX1_readLength_66 : decode cX1_readLength 66 = .ok (.invokevirtual 100, 3) := by decide +kernel
theorem dX1_readLength_69 : decode cX1_readLength 69 = .ok (.ireturn, 1) := by decide +kernel
theorem dX1_judgeLength_0 : decode cX1_judgeLength 0 = .ok (.aload_n 0, 1) := by decide +kernel
theorem dX1_judgeLength_1 : decode cX1_judgeLength 1 = .ok (.invokevirtual 85, 3) := by decide +kernel
theorem dX1_judgeLength_4 : decode cX1_judgeLength 4 = .ok (.ifCond .ne 27, 3) := by decide +kernel
theorem dX1_judgeLength_7 : decode cX1_judgeLength 7 = .ok (.aload_n 0, 1) := by decide +kernel
theorem dX1_judgeLength_8 : decode cX1_judgeLength 8 = .ok (.getfield 58, 3) := by decide +kernel
theorem dX1_judgeLength_11 : decode cX1_judgeLength 11 = .ok (.sipush 300, 3) := by decide +kernel
theorem dX1_judgeLength_14 : decode cX1_judgeLength 14 = .ok (.aload_n 0, 1) := by decide +kernel
theorem dX1_judgeLength_15 : decode cX1_judgeLength 15 = .ok (.getfield 20, 3) := by decide +kernel
theorem dX1_judgeLength_18 : decode cX1_judgeLength 18 = .ok (.invokevirtual 110, 3) := by decide +kernel
theorem dX1_judgeLength_21 : decode cX1_judgeLength 21 = .ok (.isub, 1) := by decide +kernel
theorem dX1_judgeLength_22 : decode cX1_judgeLength 22 = .ok (.i2l, 1) := by decide +kernel
theorem dX1_judgeLength_23 : decode cX1_judgeLength 23 = .ok (.lcmp, 1) := by decide +kernel
theorem dX1_judgeLength_24 : decode cX1_judgeLength 24 = .ok (.ifCond .le 7, 3) := by decide +kernel
theorem dX1_judgeLength_27 : decode cX1_judgeLength 27 = .ok (.sipush 1009, 3) := by decide +kernel
theorem dX1_judgeLength_30 : decode cX1_judgeLength 30 = .ok (.ireturn, 1) := by decide +kernel
theorem dX1_judgeLength_31 : decode cX1_judgeLength 31 = .ok (.aload_n 0, 1) := by decide +kernel
theorem dX1_judgeLength_32 : decode cX1_judgeLength 32 = .ok (.iconst 0, 1) := by decide +kernel
theorem dX1_judgeLength_33 : decode cX1_judgeLength 33 = .ok (.putfield 113, 3) := by decide +kernel
theorem dX1_judgeLength_36 : decode cX1_judgeLength 36 = .ok (.aload_n 0, 1) := by decide +kernel
theorem dX1_judgeLength_37 : decode cX1_judgeLength 37 = .ok (.iconst 3, 1) := by decide +kernel
theorem dX1_judgeLength_38 : decode cX1_judgeLength 38 = .ok (.putfield 37, 3) := by decide +kernel
theorem dX1_judgeLength_41 : decode cX1_judgeLength 41 = .ok (.iconst 0, 1) := by decide +kernel
theorem dX1_judgeLength_42 : decode cX1_judgeLength 42 = .ok (.ireturn, 1) := by decide +kernel
theorem dX1_readMask_0 : decode cX1_readMask 0 = .ok (.aload_n 0, 1) := by decide +kernel
theorem dX1_readMask_1 : decode cX1_readMask 1 = .ok (.getfield 9, 3) := by decide +kernel
theorem dX1_readMask_4 : decode cX1_readMask 4 = .ok (.aload_n 0, 1) := by decide +kernel
theorem dX1_readMask_5 : decode cX1_readMask 5 = .ok (.getfield 113, 3) := by decide +kernel
theorem dX1_readMask_8 : decode cX1_readMask 8 = .ok (.iconst 3, 1) := by decide +kernel
theorem dX1_readMask_9 : decode cX1_readMask 9 = .ok (.iand, 1) := by decide +kernel
theorem dX1_readMask_10 : decode cX1_readMask 10 = .ok (.iload_n 1, 1) := by decide +kernel
theorem dX1_readMask_11 : decode cX1_readMask 11 = .ok (.iastore, 1) := by decide +kernel
theorem dX1_readMask_12 : decode cX1_readMask 12 = .ok (.aload_n 0, 1) := by decide +kernel
theorem dX1_readMask_13 : decode cX1_readMask 13 = .ok (.dup, 1) := by decide +kernel
theorem dX1_readMask_14 : decode cX1_readMask 14 = .ok (.getfield 113, 3) := by decide +kernel
theorem dX1_readMask_17 : decode cX1_readMask 17 = .ok (.iconst 1, 1) := by decide +kernel
theorem dX1_readMask_18 : decode cX1_readMask 18 = .ok (.iadd, 1) := by decide +kernel
theorem dX1_readMask_19 : decode cX1_readMask 19 = .ok (.putfield 113, 3) := by decide +kernel
theorem dX1_readMask_22 : decode cX1_readMask 22 = .ok (.aload_n 0, 1) := by decide +kernel
theorem dX1_readMask_23 : decode cX1_readMask 23 = .ok (.getfield 113, 3) := by decide +kernel
theorem dX1_readMask_26 : decode cX1_readMask 26 = .ok (.iconst 4, 1) := by decide +kernel
theorem dX1_readMask_27 : decode cX1_readMask 27 = .ok (.if_icmp .ne 13, 3) := by decide +kernel
theorem dX1_readMask_30 : decode cX1_readMask 30 = .ok (.aload_n 0, 1) := by decide +kernel
theorem dX1_readMask_31 : decode cX1_readMask 31 = .ok (.iconst 0, 1) := by decide +kernel
theorem dX1_readMask_32 : decode cX1_readMask 32 = .ok (.putfield 55, 3) := by decide +kernel
theorem dX1_readMask_35 : decode cX1_readMask 35 = .ok (.aload_n 0, 1) := by decide +kernel
theorem dX1_readMask_36 : decode cX1_readMask 36 = .ok (.iconst 4, 1) := by decide +kernel
theorem dX1_readMask_37 : decode cX1_readMask 37 = .ok (.putfield 37, 3) := by decide +kernel
theorem dX1_readMask_40 : decode cX1_readMask 40 = .ok (.iconst 0, 1) := by decide +kernel
theorem dX1_readMask_41 : decode cX1_readMask 41 = .ok (.ireturn, 1) := by decide +kernel
theorem dX1_readContent_0 : decode cX1_readContent 0 = .ok (.iload_n 1, 1) := by decide +kernel
theorem dX1_readContent_1 : decode cX1_readContent 1 = .ok (.aload_n 0, 1) := by decide +kernel
theorem dX1_readContent_2 : decode cX1_readContent 2 = .ok (.getfield 9, 3) := by decide +kernel
theorem dX1_readContent_5 : decode cX1_readContent 5 = .ok (.aload_n 0, 1) := by decide +kernel
theorem dX1_readContent_6 : decode cX1_readContent 6 = .ok (.getfield 55, 3) := by decide +kernel
theorem dX1_readContent_9 : decode cX1_readContent 9 = .ok (.iconst 3, 1) := by decide +kernel
theorem dX1_readContent_10 : decode cX1_readContent 10 = .ok (.iand, 1) := by decide +kernel
theorem dX1_readContent_11 : decode cX1_readContent 11 = .ok (.iaload, 1) := by decide +kernel
theorem dX1_readContent_12 : decode cX1_readContent 12 = .ok (.ixor, 1) := by decide +kernel
theorem dX1_readContent_13 : decode cX1_readContent 13 = .ok (.istore_n 2, 1) := by decide +kernel
theorem dX1_readContent_14 : decode cX1_readContent 14 = .ok (.aload_n 0, 1) := by decide +kernel
theorem dX1_readContent_15 : decode cX1_readContent 15 = .ok (.dup, 1) := by decide +kernel
theorem dX1_readContent_16 : decode cX1_readContent 16 = .ok (.getfield 55, 3) := by decide +kernel
theorem dX1_readContent_19 : decode cX1_readContent 19 = .ok (.iconst 1, 1) := by decide +kernel
theorem dX1_readContent_20 : decode cX1_readContent 20 = .ok (.iadd, 1) := by decide +kernel
theorem dX1_readContent_21 : decode cX1_readContent 21 = .ok (.putfield 55, 3) := by decide +kernel
theorem dX1_readContent_24 : decode cX1_readContent 24 = .ok (.aload_n 0, 1) := by decide +kernel
theorem dX1_readContent_25 : decode cX1_readContent 25 = .ok (.invokevirtual 85, 3) := by decide +kernel
theorem dX1_readContent_28 : decode cX1_readContent 28 = .ok (.ifCond .eq 13, 3) := by decide +kernel
theorem dX1_readContent_31 : decode cX1_readContent 31 = .ok (.aload_n 0, 1) := by decide +kernel
theorem dX1_readContent_32 : decode cX1_readContent 32 = .ok (.getfield 24, 3) := by decide +kernel
theorem dX1_readContent_35 : decode cX1_readContent 35 = .ok (.iload_n 2, 1) := by decide +kernel
theorem dX1_readContent_36 : decode cX1_readContent 36 = .ok (.invokevirtual 116, 3) := by decide +kernel
theorem dX1_readContent_39 : decode cX1_readContent 39 = .ok (.iconst 0, 1) := by decide +kernel
theorem dX1_readContent_40 : decode cX1_readContent 40 = .ok (.ireturn, 1) := by decide +kernel
theorem dX1_readContent_41 : decode cX1_readContent 41 = .ok (.aload_n 0, 1) := by decide +kernel
theorem dX1_readContent_42 : decode cX1_readContent 42 = .ok (.getfield 48, 3) := by decide +kernel
theorem dX1_readContent_45 : decode cX1_readContent 45 = .ok (.iconst 1, 1) := by decide +kernel
theorem dX1_readContent_46 : decode cX1_readContent 46 = .ok (.if_icmp .ne 18, 3) := by decide +kernel
theorem dX1_readContent_49 : decode cX1_readContent 49 = .ok (.aload_n 0, 1) := by decide +kernel
theorem dX1_readContent_50 : decode cX1_readContent 50 = .ok (.getfield 30, 3) := by decide +kernel
theorem dX1_readContent_53 : decode cX1_readContent 53 = .ok (.iload_n 2, 1) := by decide +kernel
theorem dX1_readContent_54 : decode cX1_readContent 54 = .ok (.invokevirtual 119, 3) := by decide +kernel
theorem dX1_readContent_57 : decode cX1_readContent 57 = .ok (.ifCond .ne 7, 3) := by decide +kernel
theorem dX1_readContent_60 : decode cX1_readContent 60 = .ok (.sipush 1007, 3) := by decide +kernel
theorem dX1_readContent_63 : decode cX1_readContent 63 = .ok (.ireturn, 1) := by decide +kernel
theorem dX1_readContent_64 : decode cX1_readContent 64 = .ok (.aload_n 0, 1) := by decide +kernel
theorem dX1_readContent_65 : decode cX1_readContent 65 = .ok (.getfield 20, 3) := by decide +kernel
theorem dX1_readContent_68 : decode cX1_readContent 68 = .ok (.iload_n 2, 1) := by decide +kernel
theorem dX1_readContent_69 : decode cX1_readContent 69 = .ok (.invokevirtual 116, 3) := by decide +kernel
theorem dX1_readContent_72 : decode cX1_readContent 72 = .ok (.iconst 0, 1) := by decide +kernel
theorem dX1_readContent_73 : decode cX1_readContent 73 = .ok (.ireturn, 1) := by decide +kernel
theorem dX1_judgeFrame_0 : decode cX1_judgeFrame 0 = .ok (.aload_n 0, 1) := by decide +kernel
theorem dX1_judgeFrame_1 : decode cX1_judgeFrame 1 = .ok (.invokevirtual 85, 3) := by decide +kernel
theorem dX1_judgeFrame_4 : decode cX1_judgeFrame 4 = .ok (.ifCond .eq 21, 3) := by decide +kernel
theorem dX1_judgeFrame_7 : decode cX1_judgeFrame 7 = .ok (.aload_n 0, 1) := by decide +kernel
theorem dX1_judgeFrame_8 : decode cX1_judgeFrame 8 = .ok (.getfield 41, 3) := by decide +kernel
theorem dX1_judgeFrame_11 : decode cX1_judgeFrame 11 = .ok (.bipush 8, 2) := by decide +kernel
theorem dX1_judgeFrame_13 : decode cX1_judgeFrame 13 = .ok (.if_icmp .ne 10, 3) := by decide +kernel
theorem dX1_judgeFrame_16 : decode cX1_judgeFrame 16 = .ok (.aload_n 0, 1) := by decide +kernel
theorem dX1_judgeFrame_17 : decode cX1_judgeFrame 17 = .ok (.invokevirtual 123, 3) := by decide +kernel
theorem dX1_judgeFrame_20 : decode cX1_judgeFrame 20 = .ok (.goto 4, 3) := by decide +kernel
theorem dX1_judgeFrame_23 : decode cX1_judgeFrame 23 = .ok (.iconst 1, 1) := by decide +kernel
theorem dX1_judgeFrame_24 : decode cX1_judgeFrame 24 = .ok (.ireturn, 1) := by decide +kernel
theorem dX1_judgeFrame_25 : decode cX1_judgeFrame 25 = .ok (.aload_n 0, 1) := by decide +kernel
theorem dX1_judgeFrame_26 : decode cX1_judgeFrame 26 = .ok (.getfield 44, 3) := by decide +kernel
theorem dX1_judgeFrame_29 : decode cX1_judgeFrame 29 = .ok (.ifCond .eq 30, 3) := by decide +kernel
theorem dX1_judgeFrame_32 : decode cX1_judgeFrame 32 = .ok (.aload_n 0, 1) := by decide +kernel
theorem dX1_judgeFrame_33 : decode cX1_judgeFrame 33 = .ok (.iconst 0, 1) := by decide +kernel
theorem dX1_judgeFrame_34 : decode cX1_judgeFrame 34 = .ok (.putfield 94, 3) := by decide +kernel
theorem dX1_judgeFrame_37 : decode cX1_judgeFrame 37 = .ok (.aload_n 0, 1) := by decide +kernel
theorem dX1_judgeFrame_38 : decode cX1_judgeFrame 38 = .ok (.getfield 48, 3) := by decide +kernel
theorem dX1_judgeFrame_41 : decode cX1_judgeFrame 41 = .ok (.iconst 1, 1) := by decide +kernel
theorem dX1_judgeFrame_42 : decode cX1_judgeFrame 42 = .ok (.if_icmp .ne 17, 3) := by decide +kernel
theorem dX1_judgeFrame_45 : decode cX1_judgeFrame 45 = .ok (.aload_n 0, 1) := by decide +kernel
theorem dX1_judgeFrame_46 : decode cX1_judgeFrame 46 = .ok (.getfield 30, 3) := by decide +kernel
theorem dX1_judgeFrame_49 : decode cX1_judgeFrame 49 = .ok (.invokevirtual 126, 3) := by decide +kernel
theorem dX1_judgeFrame_52 : decode cX1_judgeFrame 52 = .ok (.ifCond .ne 7, 3) := by decide +kernel
theorem dX1_judgeFrame_55 : decode cX1_judgeFrame 55 = .ok (.sipush 1007, 3) := by decide +kernel
theorem dX1_judgeFrame_58 : decode cX1_judgeFrame 58 = .ok (.ireturn, 1) := by decide +kernel
theorem dX1_judgeFrame_59 : decode cX1_judgeFrame 59 = .ok (.iconst 1, 1) := by decide +kernel
theorem dX1_judgeFrame_60 : decode cX1_judgeFrame 60 = .ok (.ireturn, 1) := by decide +kernel
theorem dX1_judgeClose_0 : decode cX1_judgeClose 0 = .ok (.aload_n 0, 1) := by decide +kernel
theorem dX1_judgeClose_1 : decode cX1_judgeClose 1 = .ok (.getfield 24, 3) := by decide +kernel
theorem dX1_judgeClose_4 : decode cX1_judgeClose 4 = .ok (.invokevirtual 110, 3) := by decide +kernel
theorem dX1_judgeClose_7 : decode cX1_judgeClose 7 = .ok (.ifCond .ne 5, 3) := by decide +kernel
theorem dX1_judgeClose_10 : decode cX1_judgeClose 10 = .ok (.iconst 1, 1) := by decide +kernel
theorem dX1_judgeClose_11 : decode cX1_judgeClose 11 = .ok (.ireturn, 1) := by decide +kernel
theorem dX1_judgeClose_12 : decode cX1_judgeClose 12 = .ok (.aload_n 0, 1) := by decide +kernel
theorem dX1_judgeClose_13 : decode cX1_judgeClose 13 = .ok (.getfield 24, 3) := by decide +kernel
theorem dX1_judgeClose_16 : decode cX1_judgeClose 16 = .ok (.invokevirtual 129, 3) := by decide +kernel
theorem dX1_judgeClose_19 : decode cX1_judgeClose 19 = .ok (.invokestatic 132, 3) := by decide +kernel
theorem dX1_judgeClose_22 : decode cX1_judgeClose 22 = .ok (.ifCond .ne 7, 3) := by decide +kernel
theorem dX1_judgeClose_25 : decode cX1_judgeClose 25 = .ok (.sipush 1002, 3) := by decide +kernel
theorem dX1_judgeClose_28 : decode cX1_judgeClose 28 = .ok (.ireturn, 1) := by decide +kernel
theorem dX1_judgeClose_29 : decode cX1_judgeClose 29 = .ok (.aload_n 0, 1) := by decide +kernel
theorem dX1_judgeClose_30 : decode cX1_judgeClose 30 = .ok (.getfield 34, 3) := by decide +kernel
theorem dX1_judgeClose_33 : decode cX1_judgeClose 33 = .ok (.aload_n 0, 1) := by decide +kernel
theorem dX1_judgeClose_34 : decode cX1_judgeClose 34 = .ok (.getfield 24, 3) := by decide +kernel
theorem dX1_judgeClose_37 : decode cX1_judgeClose 37 = .ok (.iconst 2, 1) := by decide +kernel
theorem dX1_judgeClose_38 : decode cX1_judgeClose 38 = .ok (.invokevirtual 135, 3) := by decide +kernel
theorem dX1_judgeClose_41 : decode cX1_judgeClose 41 = .ok (.ifCond .eq 7, 3) := by decide +kernel
theorem dX1_judgeClose_44 : decode cX1_judgeClose 44 = .ok (.iconst 1, 1) := by decide +kernel
theorem dX1_judgeClose_45 : decode cX1_judgeClose 45 = .ok (.goto 6, 3) := by decide +kernel
theorem dX1_judgeClose_48 : decode cX1_judgeClose 48 = .ok (.sipush 1007, 3) := by decide +kernel
theorem dX1_judgeClose_51 : decode cX1_judgeClose 51 = .ok (.ireturn, 1) := by decide +kernel
theorem dX2_init_0 : decode cX2_init 0 = .ok (.aload_n 0, 1) := by decide +kernel
theorem dX2_init_1 : decode cX2_init 1 = .ok (.invokespecial 3, 3) := by decide +kernel
theorem dX2_init_4 : decode cX2_init 4 = .ok (.aload_n 0, 1) := by decide +kernel
theorem dX2_init_5 : decode cX2_init 5 = .ok (.new 9, 3) := by decide +kernel
theorem dX2_init_8 : decode cX2_init 8 = .ok (.dup, 1) := by decide +kernel
theorem dX2_init_9 : decode cX2_init 9 = .ok (.sipush 128, 3) := by decide +kernel
theorem dX2_init_12 : decode cX2_init 12 = .ok (.invokespecial 13, 3) := by decide +kernel
theorem dX2_init_15 : decode cX2_init 15 = .ok (.putfield 16, 3) := by decide +kernel
theorem dX2_init_18 : decode cX2_init 18 = .ok (.aload_n 0, 1) := by decide +kernel
theorem dX2_init_19 : decode cX2_init 19 = .ok (.bipush 80, 2) := by decide +kernel
theorem dX2_init_21 : decode cX2_init 21 = .ok (.newarray .int, 2) := by decide +kernel
theorem dX2_init_23 : decode cX2_init 23 = .ok (.putfield 20, 3) := by decide +kernel
theorem dX2_init_26 : decode cX2_init 26 = .ok (.aload_n 0, 1) := by decide +kernel
theorem dX2_init_27 : decode cX2_init 27 = .ok (.iconst 5, 1) := by decide +kernel
theorem dX2_init_28 : decode cX2_init 28 = .ok (.newarray .int, 2) := by decide +kernel
theorem dX2_init_30 : decode cX2_init 30 = .ok (.putfield 24, 3) := by decide +kernel
theorem dX2_init_33 : decode cX2_init 33 = .ok (.return_, 1) := by decide +kernel
theorem dX2_putInto_0 : decode cX2_putInto 0 = .ok (.aload_n 2, 1) := by decide +kernel
theorem dX2_putInto_1 : decode cX2_putInto 1 = .ok (.aload_n 0, 1) := by decide +kernel
theorem dX2_putInto_2 : decode cX2_putInto 2 = .ok (.getfield 16, 3) := by decide +kernel
theorem dX2_putInto_5 : decode cX2_putInto 5 = .ok (.invokevirtual 27, 3) := by decide +kernel
theorem dX2_putInto_8 : decode cX2_putInto 8 = .ok (.aload_n 0, 1) := by decide +kernel
theorem dX2_putInto_9 : decode cX2_putInto 9 = .ok (.getfield 16, 3) := by decide +kernel
theorem dX2_putInto_12 : decode cX2_putInto 12 = .ok (.ldc 33, 2) := by decide +kernel
theorem dX2_putInto_14 : decode cX2_putInto 14 = .ok (.invokevirtual 35, 3) := by decide +kernel
theorem dX2_putInto_17 : decode cX2_putInto 17 = .ok (.aload_n 0, 1) := by decide +kernel
theorem dX2_putInto_18 : decode cX2_putInto 18 = .ok (.invokevirtual 39, 3) := by decide +kernel
theorem dX2_putInto_21 : decode cX2_putInto 21 = .ok (.aload_n 0, 1) := by decide +kernel
theorem dX2_putInto_22 : decode cX2_putInto 22 = .ok (.invokevirtual 42, 3) := by decide +kernel
theorem dX2_putInto_25 : decode cX2_putInto 25 = .ok (.iconst 0, 1) := by decide +kernel
theorem dX2_putInto_26 : decode cX2_putInto 26 = .ok (.istore_n 3, 1) := by decide +kernel
theorem dX2_putInto_27 : decode cX2_putInto 27 = .ok (.iload_n 3, 1) := by decide +kernel
theorem dX2_putInto_28 : decode cX2_putInto 28 = .ok (.sipush 128, 3) := by decide +kernel
theorem dX2_putInto_31 : decode cX2_putInto 31 = .ok (.if_icmp .ge 18, 3) := by decide +kernel
theorem dX2_putInto_34 : decode cX2_putInto 34 = .ok (.aload_n 0, 1) := by decide +kernel
theorem dX2_putInto_35 : decode cX2_putInto 35 = .ok (.iload_n 3, 1) := by decide +kernel
theorem dX2_putInto_36 : decode cX2_putInto 36 = .ok (.invokevirtual 45, 3) := by decide +kernel
theorem dX2_putInto_39 : decode cX2_putInto 39 = .ok (.aload_n 0, 1) := by decide +kernel
theorem dX2_putInto_40 : decode cX2_putInto 40 = .ok (.invokevirtual 48, 3) := by decide +kernel
theorem dX2_putInto_43 : decode cX2_putInto 43 = .ok (.iinc 3 64, 3) := by decide +kernel
theorem dX2_putInto_46 : decode cX2_putInto 46 = .ok (.goto (-19), 3) := by decide +kernel
theorem dX2_putInto_49 : decode cX2_putInto 49 = .ok (.aload_n 0, 1) := by decide +kernel
theorem dX2_putInto_50 : decode cX2_putInto 50 = .ok (.aload_n 1, 1) := by decide +kernel
theorem dX2_putInto_51 : decode cX2_putInto 51 = .ok (.invokevirtual 51, 3) := by decide +kernel
theorem dX2_putInto_54 : decode cX2_putInto 54 = .ok (.return_, 1) := by decide +kernel
theorem dX2_pad_0 : decode cX2_pad 0 = .ok (.aload_n 0, 1) := by decide +kernel
theorem dX2_pad_1 : decode cX2_pad 1 = .ok (.getfield 16, 3) := by decide +kernel
theorem dX2_pad_4 : decode cX2_pad 4 = .ok (.invokevirtual 54, 3) := by decide +kernel
theorem dX2_pad_7 : decode cX2_pad 7 = .ok (.bipush 8, 2) := by decide +kernel
theorem dX2_pad_9 : decode cX2_pad 9 = .ok (.imul, 1) := by decide +kernel
theorem dX2_pad_10 : decode cX2_pad 10 = .ok (.istore_n 1, 1) := by decide +kernel
theorem dX2_pad_11 : decode cX2_pad 11 = .ok (.aload_n 0, 1) := by decide +kernel
theorem dX2_pad_12 : decode cX2_pad 12 = .ok (.getfield 16, 3) := by decide +kernel
theorem dX2_pad_15 : decode cX2_pad 15 = .ok (.sipush 128, 3) := by decide +kernel
theorem dX2_pad_18 : decode cX2_pad 18 = .ok (.invokevirtual 58, 3) := by decide +kernel
theorem dX2_pad_21 : decode cX2_pad 21 = .ok (.aload_n 0, 1) := by decide +kernel
theorem dX2_pad_22 : decode cX2_pad 22 = .ok (.getfield 16, 3) := by decide +kernel
theorem dX2_pad_25 : decode cX2_pad 25 = .ok (.invokevirtual 54, 3) := by decide +kernel
theorem dX2_pad_28 : decode cX2_pad 28 = .ok (.istore_n 2, 1) := by decide +kernel
theorem dX2_pad_29 : decode cX2_pad 29 = .ok (.iload_n 2, 1) := by decide +kernel
theorem dX2_pad_30 : decode cX2_pad 30 = .ok (.bipush 126, 2) := by decide +kernel
theorem dX2_pad_32 : decode cX2_pad 32 = .ok (.if_icmp .ge 17, 3) := by decide +kernel
theorem dX2_pad_35 : decode cX2_pad 35 = .ok (.aload_n 0, 1) := by decide +kernel
theorem dX2_pad_36 : decode cX2_pad 36 = .ok (.getfield 16, 3) := by decide +kernel
theorem dX2_pad_39 : decode cX2_pad 39 = .ok (.iconst 0, 1) := by decide +kernel
theorem dX2_pad_40 : decode cX2_pad 40 = .ok (.invokevirtual 58, 3) := by decide +kernel
theorem dX2_pad_43 : decode cX2_pad 43 = .ok (.iinc 2 1, 3) := by decide +kernel
theorem dX2_pad_46 : decode cX2_pad 46 = .ok (.goto (-17), 3) := by decide +kernel
theorem dX2_pad_49 : decode cX2_pad 49 = .ok (.aload_n 0, 1) := by decide +kernel
theorem dX2_pad_50 : decode cX2_pad 50 = .ok (.getfield 16, 3) := by decide +kernel
theorem dX2_pad_53 : decode cX2_pad 53 = .ok (.iload_n 1, 1) := by decide +kernel
theorem dX2_pad_54 : decode cX2_pad 54 = .ok (.bipush 8, 2) := by decide +kernel
theorem dX2_pad_56 : decode cX2_pad 56 = .ok (.ishr, 1) := by decide +kernel
theorem dX2_pad_57 : decode cX2_pad 57 = .ok (.invokevirtual 58, 3) := by decide +kernel
theorem dX2_pad_60 : decode cX2_pad 60 = .ok (.aload_n 0, 1) := by decide +kernel
theorem dX2_pad_61 : decode cX2_pad 61 = .ok (.getfield 16, 3) := by decide +kernel
theorem dX2_pad_64 : decode cX2_pad 64 = .ok (.iload_n 1, 1) := by decide +kernel
theorem dX2_pad_65 : decode cX2_pad 65 = .ok (.sipush 255, 3) := by decide +kernel
theorem dX2_pad_68 : decode cX2_pad 68 = .ok (.iand, 1) := by decide +kernel
theorem dX2_pad_69 : decode cX2_pad 69 = .ok (.invokevirtual 58, 3) := by decide +kernel
theorem dX2_pad_72 : decode cX2_pad 72 = .ok (.return_, 1) := by decide +kernel
theorem dX2_startWords_0 : decode cX2_startWords 0 = .ok (.aload_n 0, 1) := by decide +kernel
theorem dX2_startWords_1 : decode cX2_startWords 1 = .ok (.getfield 24, 3) := by decide +kernel
theorem dX2_startWords_4 : decode cX2_startWords 4 = .ok (.iconst 0, 1) := by decide +kernel
theorem dX2_startWords_5 : decode cX2_startWords 5 = .ok (.ldc 61, 2) := by decide +kernel
theorem dX2_startWords_7 : decode cX2_startWords 7 = .ok (.iastore, 1) := by decide +kernel
theorem dX2_startWords_8 : decode cX2_startWords 8 = .ok (.aload_n 0, 1) := by decide +kernel
theorem dX2_startWords_9 : decode cX2_startWords 9 = .ok (.getfield 24, 3) := by decide +kernel
theorem dX2_startWords_12 : decode cX2_startWords 12 = .ok (.iconst 1, 1) := by decide +kernel
theorem dX2_startWords_13 : decode cX2_startWords 13 = .ok (.ldc 62, 2) := by decide +kernel
theorem dX2_startWords_15 : decode cX2_startWords 15 = .ok (.iastore, 1) := by decide +kernel
theorem dX2_startWords_16 : decode cX2_startWords 16 = .ok (.aload_n 0, 1) := by decide +kernel
theorem dX2_startWords_17 : decode cX2_startWords 17 = .ok (.getfield 24, 3) := by decide +kernel
theorem dX2_startWords_20 : decode cX2_startWords 20 = .ok (.iconst 2, 1) := by decide +kernel
theorem dX2_startWords_21 : decode cX2_startWords 21 = .ok (.ldc 63, 2) := by decide +kernel
theorem dX2_startWords_23 : decode cX2_startWords 23 = .ok (.iastore, 1) := by decide +kernel
theorem dX2_startWords_24 : decode cX2_startWords 24 = .ok (.aload_n 0, 1) := by decide +kernel
theorem dX2_startWords_25 : decode cX2_startWords 25 = .ok (.getfield 24, 3) := by decide +kernel
theorem dX2_startWords_28 : decode cX2_startWords 28 = .ok (.iconst 3, 1) := by decide +kernel
theorem dX2_startWords_29 : decode cX2_startWords 29 = .ok (.ldc 64, 2) := by decide +kernel
theorem dX2_startWords_31 : decode cX2_startWords 31 = .ok (.iastore, 1) := by decide +kernel
theorem dX2_startWords_32 : decode cX2_startWords 32 = .ok (.aload_n 0, 1) := by decide +kernel
theorem dX2_startWords_33 : decode cX2_startWords 33 = .ok (.getfield 24, 3) := by decide +kernel
theorem dX2_startWords_36 : decode cX2_startWords 36 = .ok (.iconst 4, 1) := by decide +kernel
theorem dX2_startWords_37 : decode cX2_startWords 37 = .ok (.ldc 65, 2) := by decide +kernel
theorem dX2_startWords_39 : decode cX2_startWords 39 = .ok (.iastore, 1) := by decide +kernel
theorem dX2_startWords_40 : decode cX2_startWords 40 = .ok (.return_, 1) := by decide +kernel
theorem dX2_spread_0 : decode cX2_spread 0 = .ok (.iconst 0, 1) := by decide +kernel
theorem dX2_spread_1 : decode cX2_spread 1 = .ok (.istore_n 2, 1) := by decide +kernel
theorem dX2_spread_2 : decode cX2_spread 2 = .ok (.iload_n 2, 1) := by decide +kernel
theorem dX2_spread_3 : decode cX2_spread 3 = .ok (.bipush 16, 2) := by decide +kernel
theorem dX2_spread_5 : decode cX2_spread 5 = .ok (.if_icmp .ge 71, 3) := by decide +kernel
theorem dX2_spread_8 : decode cX2_spread 8 = .ok (.iload_n 1, 1) := by decide +kernel
theorem dX2_spread_9 : decode cX2_spread 9 = .ok (.iconst 4, 1) := by decide +kernel
theorem dX2_spread_10 : decode cX2_spread 10 = .ok (.iload_n 2, 1) := by decide +kernel
theorem dX2_spread_11 : decode cX2_spread 11 = .ok (.imul, 1) := by decide +kernel
theorem dX2_spread_12 : decode cX2_spread 12 = .ok (.iadd, 1) := by decide +kernel
theorem dX2_spread_13 : decode cX2_spread 13 = .ok (.istore_n 3, 1) := by decide +kernel
theorem dX2_spread_14 : decode cX2_spread 14 = .ok (.aload_n 0, 1) := by decide +kernel
theorem dX2_spread_15 : decode cX2_spread 15 = .ok (.getfield 20, 3) := by decide +kernel
theorem dX2_spread_18 : decode cX2_spread 18 = .ok (.iload_n 2, 1) := by decide +kernel
theorem dX2_spread_19 : decode cX2_spread 19 = .ok (.aload_n 0, 1) := by decide +kernel
theorem dX2_spread_20 : decode cX2_spread 20 = .ok (.getfield 16, 3) := by decide +kernel
theorem dX2_spread_23 : decode cX2_spread 23 = .ok (.iload_n 3, 1) := by decide +kernel
theorem dX2_spread_24 : decode cX2_spread 24 = .ok (.invokevirtual 66, 3) := by decide +kernel
theorem dX2_spread_27 : decode cX2_spread 27 = .ok (.bipush 24, 2) := by decide +kernel
theorem dX2_spread_29 : decode cX2_spread 29 = .ok (.ishl, 1) := by decide +kernel
theorem dX2_spread_30 : decode cX2_spread 30 = .ok (.aload_n 0, 1) := by decide +kernel
theorem dX2_spread_31 : decode cX2_spread 31 = .ok (.getfield 16, 3) := by decide +kernel
theorem dX2_spread_34 : decode cX2_spread 34 = .ok (.iload_n 3, 1) := by decide +kernel
theorem dX2_spread_35 : decode cX2_spread 35 = .ok (.iconst 1, 1) := by decide +kernel
theorem dX2_spread_36 : decode cX2_spread 36 = .ok (.iadd, 1) := by decide +kernel
theorem dX2_spread_37 : decode cX2_spread 37 = .ok (.invokevirtual 66, 3) := by decide +kernel
theorem dX2_spread_40 : decode cX2_spread 40 = .ok (.bipush 16, 2) := by decide +kernel
theorem dX2_spread_42 : decode cX2_spread 42 = .ok (.ishl, 1) := by decide +kernel
theorem dX2_spread_43 : decode cX2_spread 43 = .ok (.ior, 1) := by decide +kernel
theorem dX2_spread_44 : decode cX2_spread 44 = .ok (.aload_n 0, 1) := by decide +kernel
theorem dX2_spread_45 : decode cX2_spread 45 = .ok (.getfield 16, 3) := by decide +kernel
theorem dX2_spread_48 : decode cX2_spread 48 = .ok (.iload_n 3, 1) := by decide +kernel
theorem dX2_spread_49 : decode cX2_spread 49 = .ok (.iconst 2, 1) := by decide +kernel
theorem dX2_spread_50 : decode cX2_spread 50 = .ok (.iadd, 1) := by decide +kernel
theorem dX2_spread_51 : decode cX2_spread 51 = .ok (.invokevirtual 66, 3) := by decide +kernel
theorem dX2_spread_54 : decode cX2_spread 54 = .ok (.bipush 8, 2) := by decide +kernel
theorem dX2_spread_56 : decode cX2_spread 56 = .ok (.ishl, 1) := by decide +kernel
theorem dX2_spread_57 : decode cX2_spread 57 = .ok (.ior, 1) := by decide +kernel
theorem dX2_spread_58 : decode cX2_spread 58 = .ok (.aload_n 0, 1) := by decide +kernel
theorem dX2_spread_59 : decode cX2_spread 59 = .ok (.getfield 16, 3) := by decide +kernel
theorem dX2_spread_62 : decode cX2_spread 62 = .ok (.iload_n 3, 1) := by decide +kernel
theorem dX2_spread_63 : decode cX2_spread 63 = .ok (.iconst 3, 1) := by decide +kernel
theorem dX2_spread_64 : decode cX2_spread 64 = .ok (.iadd, 1) := by decide +kernel
theorem dX2_spread_65 : decode cX2_spread 65 = .ok (.invokevirtual 66, 3) := by decide +kernel
theorem dX2_spread_68 : decode cX2_spread 68 = .ok (.ior, 1) := by decide +kernel
theorem dX2_spread_69 : decode cX2_spread 69 = .ok (.iastore, 1) := by decide +kernel
theorem dX2_spread_70 : decode cX2_spread 70 = .ok (.iinc 2 1, 3) := by decide +kernel
theorem dX2_spread_73 : decode cX2_spread 73 = .ok (.goto (-71), 3) := by decide +kernel
theorem dX2_spread_76 : decode cX2_spread 76 = .ok (.bipush 16, 2) := by decide +kernel
theorem dX2_spread_78 : decode cX2_spread 78 = .ok (.istore_n 2, 1) := by decide +kernel
theorem dX2_spread_79 : decode cX2_spread 79 = .ok (.iload_n 2, 1) := by decide +kernel
theorem dX2_spread_80 : decode cX2_spread 80 = .ok (.bipush 80, 2) := by decide +kernel
theorem dX2_spread_82 : decode cX2_spread 82 = .ok (.if_icmp .ge 57, 3) := by decide +kernel
theorem dX2_spread_85 : decode cX2_spread 85 = .ok (.aload_n 0, 1) := by decide +kernel
theorem dX2_spread_86 : decode cX2_spread 86 = .ok (.getfield 20, 3) := by decide +kernel
theorem dX2_spread_89 : decode cX2_spread 89 = .ok (.iload_n 2, 1) := by decide +kernel
theorem dX2_spread_90 : decode cX2_spread 90 = .ok (.aload_n 0, 1) := by decide +kernel
theorem dX2_spread_91 : decode cX2_spread 91 = .ok (.getfield 20, 3) := by decide +kernel
theorem dX2_spread_94 : decode cX2_spread 94 = .ok (.iload_n 2, 1) := by decide +kernel
theorem dX2_spread_95 : decode cX2_spread 95 = .ok (.iconst 3, 1) := by decide +kernel
theorem dX2_spread_96 : decode cX2_spread 96 = .ok (.isub, 1) := by decide +kernel
theorem dX2_spread_97 : decode cX2_spread 97 = .ok (.iaload, 1) := by decide +kernel
theorem dX2_spread_98 : decode cX2_spread 98 = .ok (.aload_n 0, 1) := by decide +kernel
theorem dX2_spread_99 : decode cX2_spread 99 = .ok (.getfield 20, 3) := by decide +kernel
theorem dX2_spread_102 : decode cX2_spread 102 = .ok (.iload_n 2, 1) := by decide +kernel
theorem dX2_spread_103 : decode cX2_spread 103 = .ok (.bipush 8, 2) := by decide +kernel
theorem dX2_spread_105 : decode cX2_spread 105 = .ok (.isub, 1) := by decide +kernel
theorem dX2_spread_106 : decode cX2_spread 106 = .ok (.iaload, 1) := by decide +kernel
theorem dX2_spread_107 : decode cX2_spread 107 = .ok (.ixor, 1) := by decide +kernel
theorem dX2_spread_108 : decode cX2_spread 108 = .ok (.aload_n 0, 1) := by decide +kernel
theorem dX2_spread_109 : decode cX2_spread 109 = .ok (.getfield 20, 3) := by decide +kernel
theorem dX2_spread_112 : decode cX2_spread 112 = .ok (.iload_n 2, 1) := by decide +kernel
theorem dX2_spread_113 : decode cX2_spread 113 = .ok (.bipush 14, 2) := by decide +kernel
theorem dX2_spread_115 : decode cX2_spread 115 = .ok (.isub, 1) := by decide +kernel
theorem dX2_spread_116 : decode cX2_spread 116 = .ok (.iaload, 1) := by decide +kernel
theorem dX2_spread_117 : decode cX2_spread 117 = .ok (.ixor, 1) := by decide +kernel
theorem dX2_spread_118 : decode cX2_spread 118 = .ok (.aload_n 0, 1) := by decide +kernel
theorem dX2_spread_119 : decode cX2_spread 119 = .ok (.getfield 20, 3) := by decide +kernel
theorem dX2_spread_122 : decode cX2_spread 122 = .ok (.iload_n 2, 1) := by decide +kernel
theorem dX2_spread_123 : decode cX2_spread 123 = .ok (.bipush 16, 2) := by decide +kernel
theorem dX2_spread_125 : decode cX2_spread 125 = .ok (.isub, 1) := by decide +kernel
theorem dX2_spread_126 : decode cX2_spread 126 = .ok (.iaload, 1) := by decide +kernel
theorem dX2_spread_127 : decode cX2_spread 127 = .ok (.ixor, 1) := by decide +kernel
theorem dX2_spread_128 : decode cX2_spread 128 = .ok (.iconst 1, 1) := by decide +kernel
theorem dX2_spread_129 : decode cX2_spread 129 = .ok (.invokestatic 70, 3) := by decide +kernel
theorem dX2_spread_132 : decode cX2_spread 132 = .ok (.iastore, 1) := by decide +kernel
theorem dX2_spread_133 : decode cX2_spread 133 = .ok (.iinc 2 1, 3) := by decide +kernel
theorem dX2_spread_136 : decode cX2_spread 136 = .ok (.goto (-57), 3) := by decide +kernel
theorem dX2_spread_139 : decode cX2_spread 139 = .ok (.return_, 1) := by decide +kernel
theorem dX2_mix_0 : decode cX2_mix 0 = .ok (.aload_n 0, 1) := by decide +kernel
theorem dX2_mix_1 : decode cX2_mix 1 = .ok (.getfield 24, 3) := by decide +kernel
theorem dX2_mix_4 : decode cX2_mix 4 = .ok (.iconst 0, 1) := by decide +kernel
theorem dX2_mix_5 : decode cX2_mix 5 = .ok (.iaload, 1) := by decide +kernel
theorem dX2_mix_6 : decode cX2_mix 6 = .ok (.istore_n 1, 1) := by decide +kernel
theorem dX2_mix_7 : decode cX2_mix 7 = .ok (.aload_n 0, 1) := by decide +kernel
theorem dX2_mix_8 : decode cX2_mix 8 = .ok (.getfield 24, 3) := by decide +kernel
theorem dX2_mix_11 : decode cX2_mix 11 = .ok (.iconst 1, 1) := by decide +kernel
theorem dX2_mix_12 : decode cX2_mix 12 = .ok (.iaload, 1) := by decide +kernel
theorem dX2_mix_13 : decode cX2_mix 13 = .ok (.istore_n 2, 1) := by decide +kernel
theorem dX2_mix_14 : decode cX2_mix 14 = .ok (.aload_n 0, 1) := by decide +kernel
theorem dX2_mix_15 : decode cX2_mix 15 = .ok (.getfield 24, 3) := by decide +kernel
theorem dX2_mix_18 : decode cX2_mix 18 = .ok (.iconst 2, 1) := by decide +kernel
theorem dX2_mix_19 : decode cX2_mix 19 = .ok (.iaload, 1) := by decide +kernel
theorem dX2_mix_20 : decode cX2_mix 20 = .ok (.istore_n 3, 1) := by decide +kernel
theorem dX2_mix_21 : decode cX2_mix 21 = .ok (.aload_n 0, 1) := by decide +kernel
theorem dX2_mix_22 : decode cX2_mix 22 = .ok (.getfield 24, 3) := by decide +kernel
theorem dX2_mix_25 : decode cX2_mix 25 = .ok (.iconst 3, 1) := by decide +kernel
theorem dX2_mix_26 : decode cX2_mix 26 = .ok (.iaload, 1) := by decide +kernel
theorem dX2_mix_27 : decode cX2_mix 27 = .ok (.istore 4, 2) := by decide +kernel
theorem dX2_mix_29 : decode cX2_mix 29 = .ok (.aload_n 0, 1) := by decide +kernel
theorem dX2_mix_30 : decode cX2_mix 30 = .ok (.getfield 24, 3) := by decide +kernel
theorem dX2_mix_33 : decode cX2_mix 33 = .ok (.iconst 4, 1) := by decide +kernel
theorem dX2_mix_34 : decode cX2_mix 34 = .ok (.iaload, 1) := by decide +kernel
theorem dX2_mix_35 : decode cX2_mix 35 = .ok (.istore 5, 2) := by decide +kernel
theorem dX2_mix_37 : decode cX2_mix 37 = .ok (.iconst 0, 1) := by decide +kernel
theorem dX2_mix_38 : decode cX2_mix 38 = .ok (.istore 6, 2) := by decide +kernel
theorem dX2_mix_40 : decode cX2_mix 40 = .ok (.iload 6, 2) := by decide +kernel
theorem dX2_mix_42 : decode cX2_mix 42 = .ok (.bipush 80, 2) := by decide +kernel
theorem dX2_mix_44 : decode cX2_mix 44 = .ok (.if_icmp .ge 56, 3) := by decide +kernel
theorem dX2_mix_47 : decode cX2_mix 47 = .ok (.iload_n 1, 1) := by decide +kernel
theorem dX2_mix_48 : decode cX2_mix 48 = .ok (.iconst 5, 1) := by decide +kernel
theorem dX2_mix_49 : decode cX2_mix 49 = .ok (.invokestatic 70, 3) := by decide +kernel
theorem dX2_mix_52 : decode cX2_mix 52 = .ok (.iload 6, 2) := by decide +kernel
theorem dX2_mix_54 : decode cX2_mix 54 = .ok (.iload_n 2, 1) := by decide +kernel
theorem dX2_mix_55 : decode cX2_mix 55 = .ok (.iload_n 3, 1) := by decide +kernel
theorem dX2_mix_56 : decode cX2_mix 56 = .ok (.iload 4, 2) := by decide +kernel
theorem dX2_mix_58 : decode cX2_mix 58 = .ok (.invokestatic 74, 3) := by decide +kernel
theorem dX2_mix_61 : decode cX2_mix 61 = .ok (.iadd, 1) := by decide +kernel
theorem dX2_mix_62 : decode cX2_mix 62 = .ok (.iload 5, 2) := by decide +kernel
theorem dX2_mix_64 : decode cX2_mix 64 = .ok (.iadd, 1) := by decide +kernel
theorem dX2_mix_65 : decode cX2_mix 65 = .ok (.aload_n 0, 1) := by decide +kernel
theorem dX2_mix_66 : decode cX2_mix 66 = .ok (.getfield 20, 3) := by decide +kernel
theorem dX2_mix_69 : decode cX2_mix 69 = .ok (.iload 6, 2) := by decide +kernel
theorem dX2_mix_71 : decode cX2_mix 71 = .ok (.iaload, 1) := by decide +kernel
theorem dX2_mix_72 : decode cX2_mix 72 = .ok (.iadd, 1) := by decide +kernel
theorem dX2_mix_73 : decode cX2_mix 73 = .ok (.istore 7, 2) := by decide +kernel
theorem dX2_mix_75 : decode cX2_mix 75 = .ok (.iload 4, 2) := by decide +kernel
theorem dX2_mix_77 : decode cX2_mix 77 = .ok (.istore 5, 2) := by decide +kernel
theorem dX2_mix_79 : decode cX2_mix 79 = .ok (.iload_n 3, 1) := by decide +kernel
theorem dX2_mix_80 : decode cX2_mix 80 = .ok (.istore 4, 2) := by decide +kernel
theorem dX2_mix_82 : decode cX2_mix 82 = .ok (.iload_n 2, 1) := by decide +kernel
theorem dX2_mix_83 : decode cX2_mix 83 = .ok (.bipush 30, 2) := by decide +kernel
theorem dX2_mix_85 : decode cX2_mix 85 = .ok (.invokestatic 70, 3) := by decide +kernel
theorem dX2_mix_88 : decode cX2_mix 88 = .ok (.istore_n 3, 1) := by decide +kernel
theorem dX2_mix_89 : decode cX2_mix 89 = .ok (.iload_n 1, 1) := by decide +kernel
theorem dX2_mix_90 : decode cX2_mix 90 = .ok (.istore_n 2, 1) := by decide +kernel
theorem dX2_mix_91 : decode cX2_mix 91 = .ok (.iload 7, 2) := by decide +kernel
theorem dX2_mix_93 : decode cX2_mix 93 = .ok (.istore_n 1, 1) := by decide +kernel
theorem dX2_mix_94 : decode cX2_mix 94 = .ok (.iinc 6 1, 3) := by decide +kernel
theorem dX2_mix_97 : decode cX2_mix 97 = .ok (.goto (-57), 3) := by decide +kernel
theorem dX2_mix_100 : decode cX2_mix 100 = .ok (.aload_n 0, 1) := by decide +kernel
theorem dX2_mix_101 : decode cX2_mix 101 = .ok (.getfield 24, 3) := by decide +kernel
theorem dX2_mix_104 : decode cX2_mix 104 = .ok (.iconst 0, 1) := by decide +kernel
theorem dX2_mix_105 : decode cX2_mix 105 = .ok (.dup2, 1) := by decide +kernel
theorem dX2_mix_106 : decode cX2_mix 106 = .ok (.iaload, 1) := by decide +kernel
theorem dX2_mix_107 : decode cX2_mix 107 = .ok (.iload_n 1, 1) := by decide +kernel
theorem dX2_mix_108 : decode cX2_mix 108 = .ok (.iadd, 1) := by decide +kernel
theorem dX2_mix_109 : decode cX2_mix 109 = .ok (.iastore, 1) := by decide +kernel
theorem dX2_mix_110 : decode cX2_mix 110 = .ok (.aload_n 0, 1) := by decide +kernel
theorem dX2_mix_111 : decode cX2_mix 111 = .ok (.getfield 24, 3) := by decide +kernel
theorem dX2_mix_114 : decode cX2_mix 114 = .ok (.iconst 1, 1) := by decide +kernel
theorem dX2_mix_115 : decode cX2_mix 115 = .ok (.dup2, 1) := by decide +kernel
theorem dX2_mix_116 : decode cX2_mix 116 = .ok (.iaload, 1) := by decide +kernel
theorem dX2_mix_117 : decode cX2_mix 117 = .ok (.iload_n 2, 1) := by decide +kernel
theorem dX2_mix_118 : decode cX2_mix 118 = .ok (.iadd, 1) := by decide +kernel
theorem dX2_mix_119 : decode cX2_mix 119 = .ok (.iastore, 1) := by decide +kernel
theorem dX2_mix_120 : decode cX2_mix 120 = .ok (.aload_n 0, 1) := by decide +kernel
theorem dX2_mix_121 : decode cX2_mix 121 = .ok (.getfield 24, 3) := by decide +kernel
theorem dX2_mix_124 : decode cX2_mix 124 = .ok (.iconst 2, 1) := by decide +kernel
theorem dX2_mix_125 : decode cX2_mix 125 = .ok (.dup2, 1) := by decide +kernel
theorem dX2_mix_126 : decode cX2_mix 126 = .ok (.iaload, 1) := by decide +kernel
theorem dX2_mix_127 : decode cX2_mix 127 = .ok (.iload_n 3, 1) := by decide +kernel
theorem dX2_mix_128 : decode cX2_mix 128 = .ok (.iadd, 1) := by decide +kernel
theorem dX2_mix_129 : decode cX2_mix 129 = .ok (.iastore, 1) := by decide +kernel
theorem dX2_mix_130 : decode cX2_mix 130 = .ok (.aload_n 0, 1) := by decide +kernel
theorem dX2_mix_131 : decode cX2_mix 131 = .ok (.getfield 24, 3) := by decide +kernel
theorem dX2_mix_134 : decode cX2_mix 134 = .ok (.iconst 3, 1) := by decide +kernel
theorem dX2_mix_135 : decode cX2_mix 135 = .ok (.dup2, 1) := by decide +kernel
theorem dX2_mix_136 : decode cX2_mix 136 = .ok (.iaload, 1) := by decide +kernel
theorem dX2_mix_137 : decode cX2_mix 137 = .ok (.iload 4, 2) := by decide +kernel
theorem dX2_mix_139 : decode cX2_mix 139 = .ok (.iadd, 1) := by decide +kernel
theorem dX2_mix_140 : decode cX2_mix 140 = .ok (.iastore, 1) := by decide +kernel
theorem dX2_mix_141 : decode cX2_mix 141 = .ok (.aload_n 0, 1) := by decide +kernel
theorem dX2_mix_142 : decode cX2_mix 142 = .ok (.getfield 24, 3) := by decide +kernel
theorem dX2_mix_145 : decode cX2_mix 145 = .ok (.iconst 4, 1) := by decide +kernel
theorem dX2_mix_146 : decode cX2_mix 146 = .ok (.dup2, 1) := by decide +kernel
theorem dX2_mix_147 : decode cX2_mix 147 = .ok (.iaload, 1) := by decide +kernel
theorem dX2_mix_148 : decode cX2_mix 148 = .ok (.iload 5, 2) := by decide +kernel
theorem dX2_mix_150 : decode cX2_mix 150 = .ok (.iadd, 1) := by decide +kernel
theorem dX2_mix_151 : decode cX2_mix 151 = .ok (.iastore, 1) := by decide +kernel
theorem dX2_mix_152 : decode cX2_mix 152 = .ok (.return_, 1) := by decide +kernel
theorem dX2_rotated_0 : decode cX2_rotated 0 = .ok (.iload_n 0, 1) := by decide +kernel
theorem dX2_rotated_1 : decode cX2_rotated 1 = .ok (.iload_n 1, 1) := by decide +kernel
theorem dX2_rotated_2 : decode cX2_rotated 2 = .ok (.ishl, 1) := by decide +kernel
theorem dX2_rotated_3 : decode cX2_rotated 3 = .ok (.iload_n 0, 1) := by decide +kernel
theorem dX2_rotated_4 : decode cX2_rotated 4 = .ok (.bipush 32, 2) := by decide +kernel
theorem dX2_rotated_6 : decode cX2_rotated 6 = .ok (.iload_n 1, 1) := by decide +kernel
theorem dX2_rotated_7 : decode cX2_rotated 7 = .ok (.isub, 1) := by decide +kernel
theorem dX2_rotated_8 : decode cX2_rotated 8 = .ok (.iushr, 1) := by decide +kernel
theorem dX2_rotated_9 : decode cX2_rotated 9 = .ok (.ior, 1) := by decide +kernel
theorem dX2_rotated_10 : decode cX2_rotated 10 = .ok (.ireturn, 1) := by decide +kernel
theorem dX2_blend_0 : decode cX2_blend 0 = .ok (.iload_n 0, 1) := by decide +kernel
theorem dX2_blend_1 : decode cX2_blend 1 = .ok (.bipush 20, 2) := by decide +kernel
theorem dX2_blend_3 : decode cX2_blend 3 = .ok (.if_icmp .ge 16, 3) := by decide +kernel
theorem dX2_blend_6 : decode cX2_blend 6 = .ok (.iload_n 1, 1) := by decide +kernel
theorem dX2_blend_7 : decode cX2_blend 7 = .ok (.iload_n 2, 1) := by decide +kernel
theorem dX2_blend_8 : decode cX2_blend 8 = .ok (.iand, 1) := by decide +kernel
theorem dX2_blend_9 : decode cX2_blend 9 = .ok (.iload_n 1, 1) := by decide +kernel
theorem dX2_blend_10 : decode cX2_blend 10 = .ok (.iconst (-1), 1) := by decide +kernel
theorem dX2_blend_11 : decode cX2_blend 11 = .ok (.ixor, 1) := by decide +kernel
theorem dX2_blend_12 : decode cX2_blend 12 = .ok (.iload_n 3, 1) := by decide +kernel
theorem dX2_blend_13 : decode cX2_blend 13 = .ok (.iand, 1) := by decide +kernel
theorem dX2_blend_14 : decode cX2_blend 14 = .ok (.ior, 1) := by decide +kernel
theorem dX2_blend_15 : decode cX2_blend 15 = .ok (.ldc 78, 2) := by decide +kernel
theorem dX2_blend_17 : decode cX2_blend 17 = .ok (.iadd, 1) := by decide +kernel
theorem dX2_blend_18 : decode cX2_blend 18 = .ok (.ireturn, 1) := by decide +kernel
theorem dX2_blend_19 : decode cX2_blend 19 = .ok (.iload_n 0, 1) := by decide +kernel
theorem dX2_blend_20 : decode cX2_blend 20 = .ok (.bipush 40, 2) := by decide +kernel
theorem dX2_blend_22 : decode cX2_blend 22 = .ok (.if_icmp .ge 12, 3) := by decide +kernel
theorem dX2_blend_25 : decode cX2_blend 25 = .ok (.iload_n 1, 1) := by decide +kernel
theorem dX2_blend_26 : decode cX2_blend 26 = .ok (.iload_n 2, 1) := by decide +kernel
theorem dX2_blend_27 : decode cX2_blend 27 = .ok (.ixor, 1) := by decide +kernel
theorem dX2_blend_28 : decode cX2_blend 28 = .ok (.iload_n 3, 1) := by decide +kernel
theorem dX2_blend_29 : decode cX2_blend 29 = .ok (.ixor, 1) := by decide +kernel
theorem dX2_blend_30 : decode cX2_blend 30 = .ok (.ldc 79, 2) := by decide +kernel
theorem dX2_blend_32 : decode cX2_blend 32 = .ok (.iadd, 1) := by decide +kernel
theorem dX2_blend_33 : decode cX2_blend 33 = .ok (.ireturn, 1) := by decide +kernel
theorem dX2_blend_34 : decode cX2_blend 34 = .ok (.iload_n 0, 1) := by decide +kernel
theorem dX2_blend_35 : decode cX2_blend 35 = .ok (.bipush 60, 2) := by decide +kernel
theorem dX2_blend_37 : decode cX2_blend 37 = .ok (.if_icmp .ge 18, 3) := by decide +kernel
theorem dX2_blend_40 : decode cX2_blend 40 = .ok (.iload_n 1, 1) := by decide +kernel
theorem dX2_blend_41 : decode cX2_blend 41 = .ok (.iload_n 2, 1) := by decide +kernel
theorem dX2_blend_42 : decode cX2_blend 42 = .ok (.iand, 1) := by decide +kernel
theorem dX2_blend_43 : decode cX2_blend 43 = .ok (.iload_n 1, 1) := by decide +kernel
theorem dX2_blend_44 : decode cX2_blend 44 = .ok (.iload_n 3, 1) := by decide +kernel
theorem dX2_blend_45 : decode cX2_blend 45 = .ok (.iand, 1) := by decide +kernel
theorem dX2_blend_46 : decode cX2_blend 46 = .ok (.ior, 1) := by decide +kernel
theorem dX2_blend_47 : decode cX2_blend 47 = .ok (.iload_n 2, 1) := by decide +kernel
theorem dX2_blend_48 : decode cX2_blend 48 = .ok (.iload_n 3, 1) := by decide +kernel
theorem dX2_blend_49 : decode cX2_blend 49 = .ok (.iand, 1) := by decide +kernel
theorem dX2_blend_50 : decode cX2_blend 50 = .ok (.ior, 1) := by decide +kernel
theorem dX2_blend_51 : decode cX2_blend 51 = .ok (.ldc 80, 2) := by decide +kernel
theorem dX2_blend_53 : decode cX2_blend 53 = .ok (.isub, 1) := by decide +kernel
theorem dX2_blend_54 : decode cX2_blend 54 = .ok (.ireturn, 1) := by decide +kernel
theorem dX2_blend_55 : decode cX2_blend 55 = .ok (.iload_n 1, 1) := by decide +kernel
theorem dX2_blend_56 : decode cX2_blend 56 = .ok (.iload_n 2, 1) := by decide +kernel
theorem dX2_blend_57 : decode cX2_blend 57 = .ok (.ixor, 1) := by decide +kernel
theorem dX2_blend_58 : decode cX2_blend 58 = .ok (.iload_n 3, 1) := by decide +kernel
theorem dX2_blend_59 : decode cX2_blend 59 = .ok (.ixor, 1) := by decide +kernel
theorem dX2_blend_60 : decode cX2_blend 60 = .ok (.ldc 81, 2) := by decide +kernel
theorem dX2_blend_62 : decode cX2_blend 62 = .ok (.isub, 1) := by decide +kernel
theorem dX2_blend_63 : decode cX2_blend 63 = .ok (.ireturn, 1) := by decide +kernel
theorem dX2_putBase64_0 : decode cX2_putBase64 0 = .ok (.iconst 0, 1) := by decide +kernel
theorem dX2_putBase64_1 : decode cX2_putBase64 1 = .ok (.istore_n 2, 1) := by decide +kernel
theorem dX2_putBase64_2 : decode cX2_putBase64 2 = .ok (.iload_n 2, 1) := by decide +kernel
theorem dX2_putBase64_3 : decode cX2_putBase64 3 = .ok (.bipush 18, 2) := by decide +kernel
theorem dX2_putBase64_5 : decode cX2_putBase64 5 = .ok (.if_icmp .ge 43, 3) := by decide +kernel
theorem dX2_putBase64_8 : decode cX2_putBase64 8 = .ok (.aload_n 0, 1) := by decide +kernel
theorem dX2_putBase64_9 : decode cX2_putBase64 9 = .ok (.iload_n 2, 1) := by decide +kernel
theorem dX2_putBase64_10 : decode cX2_putBase64 10 = .ok (.invokevirtual 82, 3) := by decide +kernel
theorem dX2_putBase64_13 : decode cX2_putBase64 13 = .ok (.bipush 16, 2) := by decide +kernel
theorem dX2_putBase64_15 : decode cX2_putBase64 15 = .ok (.ishl, 1) := by decide +kernel
theorem dX2_putBase64_16 : decode cX2_putBase64 16 = .ok (.aload_n 0, 1) := by decide +kernel
theorem dX2_putBase64_17 : decode cX2_putBase64 17 = .ok (.iload_n 2, 1) := by decide +kernel
theorem dX2_putBase64_18 : decode cX2_putBase64 18 = .ok (.iconst 1, 1) := by decide +kernel
theorem dX2_putBase64_19 : decode cX2_putBase64 19 = .ok (.iadd, 1) := by decide +kernel
theorem dX2_putBase64_20 : decode cX2_putBase64 20 = .ok (.invokevirtual 82, 3) := by decide +kernel
theorem dX2_putBase64_23 : decode cX2_putBase64 23 = .ok (.bipush 8, 2) := by decide +kernel
theorem dX2_putBase64_25 : decode cX2_putBase64 25 = .ok (.ishl, 1) := by decide +kernel
theorem dX2_putBase64_26 : decode cX2_putBase64 26 = .ok (.ior, 1) := by decide +kernel
theorem dX2_putBase64_27 : decode cX2_putBase64 27 = .ok (.aload_n 0, 1) := by decide +kernel
theorem dX2_putBase64_28 : decode cX2_putBase64 28 = .ok (.iload_n 2, 1) := by decide +kernel
theorem dX2_putBase64_29 : decode cX2_putBase64 29 = .ok (.iconst 2, 1) := by decide +kernel
theorem dX2_putBase64_30 : decode cX2_putBase64 30 = .ok (.iadd, 1) := by decide +kernel
theorem dX2_putBase64_31 : decode cX2_putBase64 31 = .ok (.invokevirtual 82, 3) := by decide +kernel
theorem dX2_putBase64_34 : decode cX2_putBase64 34 = .ok (.ior, 1) := by decide +kernel
theorem dX2_putBase64_35 : decode cX2_putBase64 35 = .ok (.istore_n 3, 1) := by decide +kernel
theorem dX2_putBase64_36 : decode cX2_putBase64 36 = .ok (.aload_n 1, 1) := by decide +kernel
theorem dX2_putBase64_37 : decode cX2_putBase64 37 = .ok (.iload_n 3, 1) := by decide +kernel
theorem dX2_putBase64_38 : decode cX2_putBase64 38 = .ok (.iconst 4, 1) := by decide +kernel
theorem dX2_putBase64_39 : decode cX2_putBase64 39 = .ok (.invokestatic 85, 3) := by decide +kernel
theorem dX2_putBase64_42 : decode cX2_putBase64 42 = .ok (.iinc 2 3, 3) := by decide +kernel
theorem dX2_putBase64_45 : decode cX2_putBase64 45 = .ok (.goto (-43), 3) := by decide +kernel
theorem dX2_putBase64_48 : decode cX2_putBase64 48 = .ok (.aload_n 1, 1) := by decide +kernel
theorem dX2_putBase64_49 : decode cX2_putBase64 49 = .ok (.aload_n 0, 1) := by decide +kernel
theorem dX2_putBase64_50 : decode cX2_putBase64 50 = .ok (.bipush 18, 2) := by decide +kernel
theorem dX2_putBase64_52 : decode cX2_putBase64 52 = .ok (.invokevirtual 82, 3) := by decide +kernel
theorem dX2_putBase64_55 : decode cX2_putBase64 55 = .ok (.bipush 16, 2) := by decide +kernel
theorem dX2_putBase64_57 : decode cX2_putBase64 57 = .ok (.ishl, 1) := by decide +kernel
theorem dX2_putBase64_58 : decode cX2_putBase64 58 = .ok (.aload_n 0, 1) := by decide +kernel
theorem dX2_putBase64_59 : decode cX2_putBase64 59 = .ok (.bipush 19, 2) := by decide +kernel
theorem dX2_putBase64_61 : decode cX2_putBase64 61 = .ok (.invokevirtual 82, 3) := by decide +kernel
theorem dX2_putBase64_64 : decode cX2_putBase64 64 = .ok (.bipush 8, 2) := by decide +kernel
theorem dX2_putBase64_66 : decode cX2_putBase64 66 = .ok (.ishl, 1) := by decide +kernel
theorem dX2_putBase64_67 : decode cX2_putBase64 67 = .ok (.ior, 1) := by decide +kernel
theorem dX2_putBase64_68 : decode cX2_putBase64 68 = .ok (.iconst 3, 1) := by decide +kernel
theorem dX2_putBase64_69 : decode cX2_putBase64 69 = .ok (.invokestatic 85, 3) := by decide +kernel
theorem dX2_putBase64_72 : decode cX2_putBase64 72 = .ok (.aload_n 1, 1) := by decide +kernel
theorem dX2_putBase64_73 : decode cX2_putBase64 73 = .ok (.bipush 61, 2) := by decide +kernel
theorem dX2_putBase64_75 : decode cX2_putBase64 75 = .ok (.invokevirtual 58, 3) := by decide +kernel
theorem dX2_putBase64_78 : decode cX2_putBase64 78 = .ok (.return_, 1) := by decide +kernel
theorem dX2_digestByte_0 : decode cX2_digestByte 0 = .ok (.iload_n 1, 1) := by decide +kernel
theorem dX2_digestByte_1 : decode cX2_digestByte 1 = .ok (.ifCond .lt 9, 3) := by decide +kernel
theorem dX2_digestByte_4 : decode cX2_digestByte 4 = .ok (.iload_n 1, 1) := by decide +kernel
theorem dX2_digestByte_5 : decode cX2_digestByte 5 = .ok (.bipush 20, 2) := by decide +kernel
theorem dX2_digestByte_7 : decode cX2_digestByte 7 = .ok (.if_icmp .lt 7, 3) := by decide +kernel
theorem dX2_digestByte_10 : decode cX2_digestByte 10 = .ok (.iconst 0, 1) := by decide +kernel
theorem dX2_digestByte_11 : decode cX2_digestByte 11 = .ok (.goto 25, 3) := by decide +kernel
theorem dX2_digestByte_14 : decode cX2_digestByte 14 = .ok (.aload_n 0, 1) := by decide +kernel
theorem dX2_digestByte_15 : decode cX2_digestByte 15 = .ok (.getfield 24, 3) := by decide +kernel
theorem dX2_digestByte_18 : decode cX2_digestByte 18 = .ok (.iload_n 1, 1) := by decide +kernel
theorem dX2_digestByte_19 : decode cX2_digestByte 19 = .ok (.iconst 2, 1) := by decide +kernel
theorem dX2_digestByte_20 : decode cX2_digestByte 20 = .ok (.ishr, 1) := by decide +kernel
theorem dX2_digestByte_21 : decode cX2_digestByte 21 = .ok (.iaload, 1) := by decide +kernel
theorem dX2_digestByte_22 : decode cX2_digestByte 22 = .ok (.bipush 24, 2) := by decide +kernel
theorem dX2_digestByte_24 : decode cX2_digestByte 24 = .ok (.bipush 8, 2) := by decide +kernel
theorem dX2_digestByte_26 : decode cX2_digestByte 26 = .ok (.iload_n 1, 1) := by decide +kernel
theorem dX2_digestByte_27 : decode cX2_digestByte 27 = .ok (.iconst 3, 1) := by decide +kernel
theorem dX2_digestByte_28 : decode cX2_digestByte 28 = .ok (.iand, 1) := by decide +kernel
theorem dX2_digestByte_29 : decode cX2_digestByte 29 = .ok (.imul, 1) := by decide +kernel
theorem dX2_digestByte_30 : decode cX2_digestByte 30 = .ok (.isub, 1) := by decide +kernel
theorem dX2_digestByte_31 : decode cX2_digestByte 31 = .ok (.iushr, 1) := by decide +kernel
theorem dX2_digestByte_32 : decode cX2_digestByte 32 = .ok (.sipush 255, 3) := by decide +kernel
theorem dX2_digestByte_35 : decode cX2_digestByte 35 = .ok (.iand, 1) := by decide +kernel
theorem dX2_digestByte_36 : decode cX2_digestByte 36 = .ok (.ireturn, 1) := by decide +kernel
theorem dX2_putSigns_0 : decode cX2_putSigns 0 = .ok (.iconst 0, 1) := by decide +kernel
theorem dX2_putSigns_1 : decode cX2_putSigns 1 = .ok (.istore_n 3, 1) := by decide +kernel
theorem dX2_putSigns_2 : decode cX2_putSigns 2 = .ok (.iload_n 3, 1) := by decide +kernel
theorem dX2_putSigns_3 : decode cX2_putSigns 3 = .ok (.iload_n 2, 1) := by decide +kernel
theorem dX2_putSigns_4 : decode cX2_putSigns 4 = .ok (.if_icmp .ge 30, 3) := by decide +kernel
theorem dX2_putSigns_7 : decode cX2_putSigns 7 = .ok (.aload_n 0, 1) := by decide +kernel
theorem dX2_putSigns_8 : decode cX2_putSigns 8 = .ok (.ldc 89, 2) := by decide +kernel
theorem dX2_putSigns_10 : decode cX2_putSigns 10 = .ok (.iload_n 1, 1) := by decide +kernel
theorem dX2_putSigns_11 : decode cX2_putSigns 11 = .ok (.bipush 18, 2) := by decide +kernel
theorem dX2_putSigns_13 : decode cX2_putSigns 13 = .ok (.bipush 6, 2) := by decide +kernel
theorem dX2_putSigns_15 : decode cX2_putSigns 15 = .ok (.iload_n 3, 1) := by decide +kernel
theorem dX2_putSigns_16 : decode cX2_putSigns 16 = .ok (.imul, 1) := by decide +kernel
theorem dX2_putSigns_17 : decode cX2_putSigns 17 = .ok (.isub, 1) := by decide +kernel
theorem dX2_putSigns_18 : decode cX2_putSigns 18 = .ok (.iushr, 1) := by decide +kernel
theorem dX2_putSigns_19 : decode cX2_putSigns 19 = .ok (.bipush 63, 2) := by decide +kernel
theorem dX2_putSigns_21 : decode cX2_putSigns 21 = .ok (.iand, 1) := by decide +kernel
theorem dX2_putSigns_22 : decode cX2_putSigns 22 = .ok (.invokevirtual 91, 3) := by decide +kernel
theorem dX2_putSigns_25 : decode cX2_putSigns 25 = .ok (.invokevirtual 58, 3) := by decide +kernel
theorem dX2_putSigns_28 : decode cX2_putSigns 28 = .ok (.iinc 3 1, 3) := by decide +kernel
theorem dX2_putSigns_31 : decode cX2_putSigns 31 = .ok (.goto (-29), 3) := by decide +kernel
theorem dX2_putSigns_34 : decode cX2_putSigns 34 = .ok (.return_, 1) := by decide +kernel
theorem dX3_init_0 : decode cX3_init 0 = .ok (.aload_n 0, 1) := by decide +kernel
theorem dX3_init_1 : decode cX3_init 1 = .ok (.invokespecial 3, 3) := by decide +kernel
theorem dX3_init_4 : decode cX3_init 4 = .ok (.aload_n 0, 1) := by decide +kernel
theorem dX3_init_5 : decode cX3_init 5 = .ok (.new 9, 3) := by decide +kernel
theorem dX3_init_8 : decode cX3_init 8 = .ok (.dup, 1) := by decide +kernel
theorem dX3_init_9 : decode cX3_init 9 = .ok (.sipush 400, 3) := by decide +kernel
theorem dX3_init_12 : decode cX3_init 12 = .ok (.invokespecial 11, 3) := by decide +kernel
theorem dX3_init_15 : decode cX3_init 15 = .ok (.putfield 14, 3) := by decide +kernel
theorem dX3_init_18 : decode cX3_init 18 = .ok (.aload_n 0, 1) := by decide +kernel
theorem dX3_init_19 : decode cX3_init 19 = .ok (.iconst 5, 1) := by decide +kernel
theorem dX3_init_20 : decode cX3_init 20 = .ok (.newarray .int, 2) := by decide +kernel
theorem dX3_init_22 : decode cX3_init 22 = .ok (.putfield 20, 3) := by decide +kernel
theorem dX3_init_25 : decode cX3_init 25 = .ok (.aload_n 0, 1) := by decide +kernel
theorem dX3_init_26 : decode cX3_init 26 = .ok (.iconst 5, 1) := by decide +kernel
theorem dX3_init_27 : decode cX3_init 27 = .ok (.newarray .int, 2) := by decide +kernel
theorem dX3_init_29 : decode cX3_init 29 = .ok (.putfield 24, 3) := by decide +kernel
theorem dX3_init_32 : decode cX3_init 32 = .ok (.aload_n 0, 1) := by decide +kernel
theorem dX3_init_33 : decode cX3_init 33 = .ok (.iconst 5, 1) := by decide +kernel
theorem dX3_init_34 : decode cX3_init 34 = .ok (.newarray .int, 2) := by decide +kernel
theorem dX3_init_36 : decode cX3_init 36 = .ok (.putfield 27, 3) := by decide +kernel
theorem dX3_init_39 : decode cX3_init 39 = .ok (.return_, 1) := by decide +kernel
theorem dX3_gather_0 : decode cX3_gather 0 = .ok (.aload_n 0, 1) := by decide +kernel
theorem dX3_gather_1 : decode cX3_gather 1 = .ok (.getfield 14, 3) := by decide +kernel
theorem dX3_gather_4 : decode cX3_gather 4 = .ok (.iload_n 1, 1) := by decide +kernel
theorem dX3_gather_5 : decode cX3_gather 5 = .ok (.invokevirtual 30, 3) := by decide +kernel
theorem dX3_gather_8 : decode cX3_gather 8 = .ok (.return_, 1) := by decide +kernel
theorem dX3_isAtLimit_0 : decode cX3_isAtLimit 0 = .ok (.aload_n 0, 1) := by decide +kernel
theorem dX3_isAtLimit_1 : decode cX3_isAtLimit 1 = .ok (.getfield 14, 3) := by decide +kernel
theorem dX3_isAtLimit_4 : decode cX3_isAtLimit 4 = .ok (.invokevirtual 33, 3) := by decide +kernel
theorem dX3_isAtLimit_7 : decode cX3_isAtLimit 7 = .ok (.ireturn, 1) := by decide +kernel
theorem dX3_isComplete_0 : decode cX3_isComplete 0 = .ok (.aload_n 0, 1) := by decide +kernel
theorem dX3_isComplete_1 : decode cX3_isComplete 1 = .ok (.getfield 14, 3) := by decide +kernel
theorem dX3_isComplete_4 : decode cX3_isComplete 4 = .ok (.invokevirtual 37, 3) := by decide +kernel
theorem dX3_isComplete_7 : decode cX3_isComplete 7 = .ok (.iconst 4, 1) := by decide +kernel
theorem dX3_isComplete_8 : decode cX3_isComplete 8 = .ok (.isub, 1) := by decide +kernel
theorem dX3_isComplete_9 : decode cX3_isComplete 9 = .ok (.istore_n 1, 1) := by decide +kernel
theorem dX3_isComplete_10 : decode cX3_isComplete 10 = .ok (.aload_n 0, 1) := by decide +kernel
theorem dX3_isComplete_11 : decode cX3_isComplete 11 = .ok (.iload_n 1, 1) := by decide +kernel
theorem dX3_isComplete_12 : decode cX3_isComplete 12 = .ok (.invokevirtual 41, 3) := by decide +kernel
theorem dX3_isComplete_15 : decode cX3_isComplete 15 = .ok (.ifCond .eq 17, 3) := by decide +kernel
theorem dX3_isComplete_18 : decode cX3_isComplete 18 = .ok (.aload_n 0, 1) := by decide +kernel
theorem dX3_isComplete_19 : decode cX3_isComplete 19 = .ok (.iload_n 1, 1) := by decide +kernel
theorem dX3_isComplete_20 : decode cX3_isComplete 20 = .ok (.iconst 2, 1) := by decide +kernel
theorem dX3_isComplete_21 : decode cX3_isComplete 21 = .ok (.iadd, 1) := by decide +kernel
theorem dX3_isComplete_22 : decode cX3_isComplete 22 = .ok (.invokevirtual 41, 3) := by decide +kernel
theorem dX3_isComplete_25 : decode cX3_isComplete 25 = .ok (.ifCond .eq 7, 3) := by decide +kernel
theorem dX3_isComplete_28 : decode cX3_isComplete 28 = .ok (.iconst 1, 1) := by decide +kernel
theorem dX3_isComplete_29 : decode cX3_isComplete 29 = .ok (.goto 4, 3) := by decide +kernel
theorem dX3_isComplete_32 : decode cX3_isComplete 32 = .ok (.iconst 0, 1) := by decide +kernel
theorem dX3_isComplete_33 : decode cX3_isComplete 33 = .ok (.ireturn, 1) := by decide +kernel
theorem dX3_judge_0 : decode cX3_judge 0 = .ok (.aload_n 0, 1) := by decide +kernel
theorem dX3_judge_1 : decode cX3_judge 1 = .ok (.invokevirtual 45, 3) := by decide +kernel
theorem dX3_judge_4 : decode cX3_judge 4 = .ok (.ifCond .eq 10, 3) := by decide +kernel
theorem dX3_judge_7 : decode cX3_judge 7 = .ok (.aload_n 0, 1) := by decide +kernel
theorem dX3_judge_8 : decode cX3_judge 8 = .ok (.invokevirtual 48, 3) := by decide +kernel
theorem dX3_judge_11 : decode cX3_judge 11 = .ok (.ifCond .ne 5, 3) := by decide +kernel
theorem dX3_judge_14 : decode cX3_judge 14 = .ok (.iconst 0, 1) := by decide +kernel
theorem dX3_judge_15 : decode cX3_judge 15 = .ok (.ireturn, 1) := by decide +kernel
theorem dX3_judge_16 : decode cX3_judge 16 = .ok (.aload_n 0, 1) := by decide +kernel
theorem dX3_judge_17 : decode cX3_judge 17 = .ok (.aload_n 0, 1) := by decide +kernel
theorem dX3_judge_18 : decode cX3_judge 18 = .ok (.getfield 24, 3) := by decide +kernel
theorem dX3_judge_21 : decode cX3_judge 21 = .ok (.iconst 4, 1) := by decide +kernel
theorem dX3_judge_22 : decode cX3_judge 22 = .ok (.iaload, 1) := by decide +kernel
theorem dX3_judge_23 : decode cX3_judge 23 = .ok (.aload_n 0, 1) := by decide +kernel
theorem dX3_judge_24 : decode cX3_judge 24 = .ok (.getfield 27, 3) := by decide +kernel
theorem dX3_judge_27 : decode cX3_judge 27 = .ok (.iconst 4, 1) := by decide +kernel
theorem dX3_judge_28 : decode cX3_judge 28 = .ok (.iaload, 1) := by decide +kernel
theorem dX3_judge_29 : decode cX3_judge 29 = .ok (.ldc 51, 2) := by decide +kernel
theorem dX3_judge_31 : decode cX3_judge 31 = .ok (.invokevirtual 53, 3) := by decide +kernel
theorem dX3_judge_34 : decode cX3_judge 34 = .ok (.ifCond .eq 7, 3) := by decide +kernel
theorem dX3_judge_37 : decode cX3_judge 37 = .ok (.iconst 2, 1) := by decide +kernel
theorem dX3_judge_38 : decode cX3_judge 38 = .ok (.goto 4, 3) := by decide +kernel
theorem dX3_judge_41 : decode cX3_judge 41 = .ok (.iconst 1, 1) := by decide +kernel
theorem dX3_judge_42 : decode cX3_judge 42 = .ok (.ireturn, 1) := by decide +kernel
theorem dX3_putKeyInto_0 : decode cX3_putKeyInto 0 = .ok (.aload_n 1, 1) := by decide +kernel
theorem dX3_putKeyInto_1 : decode cX3_putKeyInto 1 = .ok (.aload_n 0, 1) := by decide +kernel
theorem dX3_putKeyInto_2 : decode cX3_putKeyInto 2 = .ok (.getfield 14, 3) := by decide +kernel
theorem dX3_putKeyInto_5 : decode cX3_putKeyInto 5 = .ok (.aload_n 0, 1) := by decide +kernel
theorem dX3_putKeyInto_6 : decode cX3_putKeyInto 6 = .ok (.getfield 24, 3) := by decide +kernel
theorem dX3_putKeyInto_9 : decode cX3_putKeyInto 9 = .ok (.iconst 3, 1) := by decide +kernel
theorem dX3_putKeyInto_10 : decode cX3_putKeyInto 10 = .ok (.iaload, 1) := by decide +kernel
theorem dX3_putKeyInto_11 : decode cX3_putKeyInto 11 = .ok (.aload_n 0, 1) := by decide +kernel
theorem dX3_putKeyInto_12 : decode cX3_putKeyInto 12 = .ok (.getfield 27, 3) := by decide +kernel
theorem dX3_putKeyInto_15 : decode cX3_putKeyInto 15 = .ok (.iconst 3, 1) := by decide +kernel
theorem dX3_putKeyInto_16 : decode cX3_putKeyInto 16 = .ok (.iaload, 1) := by decide +kernel
theorem dX3_putKeyInto_17 : decode cX3_putKeyInto 17 = .ok (.invokevirtual 57, 3) := by decide +kernel
theorem dX3_putKeyInto_20 : decode cX3_putKeyInto 20 = .ok (.return_, 1) := by decide +kernel
theorem dX3_isLineEnd_0 : decode cX3_isLineEnd 0 = .ok (.aload_n 0, 1) := by decide +kernel
theorem dX3_isLineEnd_1 : decode cX3_isLineEnd 1 = .ok (.getfield 14, 3) := by decide +kernel
theorem dX3_isLineEnd_4 : decode cX3_isLineEnd 4 = .ok (.iload_n 1, 1) := by decide +kernel
theorem dX3_isLineEnd_5 : decode cX3_isLineEnd 5 = .ok (.invokevirtual 61, 3) := by decide +kernel
theorem dX3_isLineEnd_8 : decode cX3_isLineEnd 8 = .ok (.bipush 13, 2) := by decide +kernel
theorem dX3_isLineEnd_10 : decode cX3_isLineEnd 10 = .ok (.if_icmp .ne 22, 3) := by decide +kernel
theorem dX3_isLineEnd_13 : decode cX3_isLineEnd 13 = .ok (.aload_n 0, 1) := by decide +kernel
theorem dX3_isLineEnd_14 : decode cX3_isLineEnd 14 = .ok (.getfield 14, 3) := by decide +kernel
theorem dX3_isLineEnd_17 : decode cX3_isLineEnd 17 = .ok (.iload_n 1, 1) := by decide +kernel
theorem dX3_isLineEnd_18 : decode cX3_isLineEnd 18 = .ok (.iconst 1, 1) := by decide +kernel
theorem dX3_isLineEnd_19 : decode cX3_isLineEnd 19 = .ok (.iadd, 1) := by decide +kernel
theorem dX3_isLineEnd_20 : decode cX3_isLineEnd 20 = .ok (.invokevirtual 61, 3) := by decide +kernel
theorem dX3_isLineEnd_23 : decode cX3_isLineEnd 23 = .ok (.bipush 10, 2) := by decide +kernel
theorem dX3_isLineEnd_25 : decode cX3_isLineEnd 25 = .ok (.if_icmp .ne 7, 3) := by decide +kernel
theorem dX3_isLineEnd_28 : decode cX3_isLineEnd 28 = .ok (.iconst 1, 1) := by decide +kernel
theorem dX3_isLineEnd_29 : decode cX3_isLineEnd 29 = .ok (.goto 4, 3) := by decide +kernel
theorem dX3_isLineEnd_32 : decode cX3_isLineEnd 32 = .ok (.iconst 0, 1) := by decide +kernel
theorem dX3_isLineEnd_33 : decode cX3_isLineEnd 33 = .ok (.ireturn, 1) := by decide +kernel
theorem dX3_readLines_0 : decode cX3_readLines 0 = .ok (.aload_n 0, 1) := by decide +kernel
theorem dX3_readLines_1 : decode cX3_readLines 1 = .ok (.getfield 14, 3) := by decide +kernel
theorem dX3_readLines_4 : decode cX3_readLines 4 = .ok (.invokevirtual 37, 3) := by decide +kernel
theorem dX3_readLines_7 : decode cX3_readLines 7 = .ok (.iconst 4, 1) := by decide +kernel
theorem dX3_readLines_8 : decode cX3_readLines 8 = .ok (.isub, 1) := by decide +kernel
theorem dX3_readLines_9 : decode cX3_readLines 9 = .ok (.istore_n 1, 1) := by decide +kernel
theorem dX3_readLines_10 : decode cX3_readLines 10 = .ok (.iconst 0, 1) := by decide +kernel
theorem dX3_readLines_11 : decode cX3_readLines 11 = .ok (.istore_n 2, 1) := by decide +kernel
theorem dX3_readLines_12 : decode cX3_readLines 12 = .ok (.iconst 0, 1) := by decide +kernel
theorem dX3_readLines_13 : decode cX3_readLines 13 = .ok (.istore_n 3, 1) := by decide +kernel
theorem dX3_readLines_14 : decode cX3_readLines 14 = .ok (.iload_n 3, 1) := by decide +kernel
theorem dX3_readLines_15 : decode cX3_readLines 15 = .ok (.iload_n 1, 1) := by decide +kernel
theorem dX3_readLines_16 : decode cX3_readLines 16 = .ok (.if_icmp .gt 48, 3) := by decide +kernel
theorem dX3_readLines_19 : decode cX3_readLines 19 = .ok (.aload_n 0, 1) := by decide +kernel
theorem dX3_readLines_20 : decode cX3_readLines 20 = .ok (.iload_n 3, 1) := by decide +kernel
theorem dX3_readLines_21 : decode cX3_readLines 21 = .ok (.invokevirtual 41, 3) := by decide +kernel
theorem dX3_readLines_24 : decode cX3_readLines 24 = .ok (.ifCond .eq 34, 3) := by decide +kernel
theorem dX3_readLines_27 : decode cX3_readLines 27 = .ok (.iload_n 2, 1) := by decide +kernel
theorem dX3_readLines_28 : decode cX3_readLines 28 = .ok (.ifCond .ne 11, 3) := by decide +kernel
theorem dX3_readLines_31 : decode cX3_readLines 31 = .ok (.aload_n 0, 1) := by decide +kernel
theorem dX3_readLines_32 : decode cX3_readLines 32 = .ok (.iload_n 3, 1) := by decide +kernel
theorem dX3_readLines_33 : decode cX3_readLines 33 = .ok (.invokevirtual 65, 3) := by decide +kernel
theorem dX3_readLines_36 : decode cX3_readLines 36 = .ok (.goto 9, 3) := by decide +kernel
theorem dX3_readLines_39 : decode cX3_readLines 39 = .ok (.aload_n 0, 1) := by decide +kernel
theorem dX3_readLines_40 : decode cX3_readLines 40 = .ok (.iload_n 2, 1) := by decide +kernel
theorem dX3_readLines_41 : decode cX3_readLines 41 = .ok (.iload_n 3, 1) := by decide +kernel
theorem dX3_readLines_42 : decode cX3_readLines 42 = .ok (.invokevirtual 68, 3) := by decide +kernel
theorem dX3_readLines_45 : decode cX3_readLines 45 = .ok (.istore 4, 2) := by decide +kernel
theorem dX3_readLines_47 : decode cX3_readLines 47 = .ok (.iload 4, 2) := by decide +kernel
theorem dX3_readLines_49 : decode cX3_readLines 49 = .ok (.ifCond .ne 5, 3) := by decide +kernel
theorem dX3_readLines_52 : decode cX3_readLines 52 = .ok (.iconst 0, 1) := by decide +kernel
theorem dX3_readLines_53 : decode cX3_readLines 53 = .ok (.ireturn, 1) := by decide +kernel
theorem dX3_readLines_54 : decode cX3_readLines 54 = .ok (.iload_n 3, 1) := by decide +kernel
theorem dX3_readLines_55 : decode cX3_readLines 55 = .ok (.iconst 2, 1) := by decide +kernel
theorem dX3_readLines_56 : decode cX3_readLines 56 = .ok (.iadd, 1) := by decide +kernel
theorem dX3_readLines_57 : decode cX3_readLines 57 = .ok (.istore_n 2, 1) := by decide +kernel
theorem dX3_readLines_58 : decode cX3_readLines 58 = .ok (.iinc 3 1, 3) := by decide +kernel
theorem dX3_readLines_61 : decode cX3_readLines 61 = .ok (.goto (-47), 3) := by decide +kernel
theorem dX3_readLines_64 : decode cX3_readLines 64 = .ok (.iconst 1, 1) := by decide +kernel
theorem dX3_readLines_65 : decode cX3_readLines 65 = .ok (.ireturn, 1) := by decide +kernel
theorem dX3_isFirstLine_0 : decode cX3_isFirstLine 0 = .ok (.iconst 4, 1) := by decide +kernel
theorem dX3_isFirstLine_1 : decode cX3_isFirstLine 1 = .ok (.istore_n 2, 1) := by decide +kernel
theorem dX3_isFirstLine_2 : decode cX3_isFirstLine 2 = .ok (.iload_n 1, 1) := by decide +kernel
theorem dX3_isFirstLine_3 : decode cX3_isFirstLine 3 = .ok (.bipush 9, 2) := by decide +kernel
theorem dX3_isFirstLine_5 : decode cX3_isFirstLine 5 = .ok (.isub, 1) := by decide +kernel
theorem dX3_isFirstLine_6 : decode cX3_isFirstLine 6 = .ok (.istore_n 3, 1) := by decide +kernel
theorem dX3_isFirstLine_7 : decode cX3_isFirstLine 7 = .ok (.iload_n 3, 1) := by decide +kernel
theorem dX3_isFirstLine_8 : decode cX3_isFirstLine 8 = .ok (.iload_n 2, 1) := by decide +kernel
theorem dX3_isFirstLine_9 : decode cX3_isFirstLine 9 = .ok (.if_icmp .le 38, 3) := by decide +kernel
theorem dX3_isFirstLine_12 : decode cX3_isFirstLine 12 = .ok (.aload_n 0, 1) := by decide +kernel
theorem dX3_isFirstLine_13 : decode cX3_isFirstLine 13 = .ok (.iconst 0, 1) := by decide +kernel
theorem dX3_isFirstLine_14 : decode cX3_isFirstLine 14 = .ok (.ldc 72, 2) := by decide +kernel
theorem dX3_isFirstLine_16 : decode cX3_isFirstLine 16 = .ok (.invokevirtual 74, 3) := by decide +kernel
theorem dX3_isFirstLine_19 : decode cX3_isFirstLine 19 = .ok (.ifCond .eq 28, 3) := by decide +kernel
theorem dX3_isFirstLine_22 : decode cX3_isFirstLine 22 = .ok (.aload_n 0, 1) := by decide +kernel
theorem dX3_isFirstLine_23 : decode cX3_isFirstLine 23 = .ok (.iload_n 3, 1) := by decide +kernel
theorem dX3_isFirstLine_24 : decode cX3_isFirstLine 24 = .ok (.ldc 78, 2) := by decide +kernel
theorem dX3_isFirstLine_26 : decode cX3_isFirstLine 26 = .ok (.invokevirtual 74, 3) := by decide +kernel
theorem dX3_isFirstLine_29 : decode cX3_isFirstLine 29 = .ok (.ifCond .eq 18, 3) := by decide +kernel
theorem dX3_isFirstLine_32 : decode cX3_isFirstLine 32 = .ok (.aload_n 0, 1) := by decide +kernel
theorem dX3_isFirstLine_33 : decode cX3_isFirstLine 33 = .ok (.iload_n 2, 1) := by decide +kernel
theorem dX3_isFirstLine_34 : decode cX3_isFirstLine 34 = .ok (.iload_n 3, 1) := by decide +kernel
theorem dX3_isFirstLine_35 : decode cX3_isFirstLine 35 = .ok (.bipush 33, 2) := by decide +kernel
theorem dX3_isFirstLine_37 : decode cX3_isFirstLine 37 = .ok (.invokevirtual 80, 3) := by decide +kernel
theorem dX3_isFirstLine_40 : decode cX3_isFirstLine 40 = .ok (.ifCond .eq 7, 3) := by decide +kernel
theorem dX3_isFirstLine_43 : decode cX3_isFirstLine 43 = .ok (.iconst 1, 1) := by decide +kernel
theorem dX3_isFirstLine_44 : decode cX3_isFirstLine 44 = .ok (.goto 4, 3) := by decide +kernel
theorem dX3_isFirstLine_47 : decode cX3_isFirstLine 47 = .ok (.iconst 0, 1) := by decide +kernel
theorem dX3_isFirstLine_48 : decode cX3_isFirstLine 48 = .ok (.ireturn, 1) := by decide +kernel
theorem dX3_isExactly_0 : decode cX3_isExactly 0 = .ok (.iconst 0, 1) := by decide +kernel
theorem dX3_isExactly_1 : decode cX3_isExactly 1 = .ok (.istore_n 3, 1) := by decide +kernel
theorem dX3_isExactly_2 : decode cX3_isExactly 2 = .ok (.iload_n 3, 1) := by decide +kernel
theorem dX3_isExactly_3 : decode cX3_isExactly 3 = .ok (.aload_n 2, 1) := by decide +kernel
theorem dX3_isExactly_4 : decode cX3_isExactly 4 = .ok (.invokevirtual 84, 3) := by decide +kernel
theorem dX3_isExactly_7 : decode cX3_isExactly 7 = .ok (.if_icmp .ge 29, 3) := by decide +kernel
theorem dX3_isExactly_10 : decode cX3_isExactly 10 = .ok (.aload_n 0, 1) := by decide +kernel
theorem dX3_isExactly_11 : decode cX3_isExactly 11 = .ok (.getfield 14, 3) := by decide +kernel
theorem dX3_isExactly_14 : decode cX3_isExactly 14 = .ok (.iload_n 1, 1) := by decide +kernel
theorem dX3_isExactly_15 : decode cX3_isExactly 15 = .ok (.iload_n 3, 1) := by decide +kernel
theorem dX3_isExactly_16 : decode cX3_isExactly 16 = .ok (.iadd, 1) := by decide +kernel
theorem dX3_isExactly_17 : decode cX3_isExactly 17 = .ok (.invokevirtual 61, 3) := by decide +kernel
theorem dX3_isExactly_20 : decode cX3_isExactly 20 = .ok (.aload_n 2, 1) := by decide +kernel
theorem dX3_isExactly_21 : decode cX3_isExactly 21 = .ok (.iload_n 3, 1) := by decide +kernel
theorem dX3_isExactly_22 : decode cX3_isExactly 22 = .ok (.invokevirtual 89, 3) := by decide +kernel
theorem dX3_isExactly_25 : decode cX3_isExactly 25 = .ok (.if_icmp .eq 5, 3) := by decide +kernel
theorem dX3_isExactly_28 : decode cX3_isExactly 28 = .ok (.iconst 0, 1) := by decide +kernel
theorem dX3_isExactly_29 : decode cX3_isExactly 29 = .ok (.ireturn, 1) := by decide +kernel
theorem dX3_isExactly_30 : decode cX3_isExactly 30 = .ok (.iinc 3 1, 3) := by decide +kernel
theorem dX3_isExactly_33 : decode cX3_isExactly 33 = .ok (.goto (-31), 3) := by decide +kernel
theorem dX3_isExactly_36 : decode cX3_isExactly 36 = .ok (.iconst 1, 1) := by decide +kernel
theorem dX3_isExactly_37 : decode cX3_isExactly 37 = .ok (.ireturn, 1) := by decide +kernel
theorem dX3_allWithin_0 : decode cX3_allWithin 0 = .ok (.iload_n 1, 1) := by decide +kernel
theorem dX3_allWithin_1 : decode cX3_allWithin 1 = .ok (.istore 4, 2) := by decide +kernel
theorem dX3_allWithin_3 : decode cX3_allWithin 3 = .ok (.iload 4, 2) := by decide +kernel
theorem dX3_allWithin_5 : decode cX3_allWithin 5 = .ok (.iload_n 2, 1) := by decide +kernel
theorem dX3_allWithin_6 : decode cX3_allWithin 6 = .ok (.if_icmp .ge 38, 3) := by decide +kernel
theorem dX3_allWithin_9 : decode cX3_allWithin 9 = .ok (.aload_n 0, 1) := by decide +kernel
theorem dX3_allWithin_10 : decode cX3_allWithin 10 = .ok (.getfield 14, 3) := by decide +kernel
theorem dX3_allWithin_13 : decode cX3_allWithin 13 = .ok (.iload 4, 2) := by decide +kernel
theorem dX3_allWithin_15 : decode cX3_allWithin 15 = .ok (.invokevirtual 61, 3) := by decide +kernel
theorem dX3_allWithin_18 : decode cX3_allWithin 18 = .ok (.iload_n 3, 1) := by decide +kernel
theorem dX3_allWithin_19 : decode cX3_allWithin 19 = .ok (.if_icmp .lt 17, 3) := by decide +kernel
theorem dX3_allWithin_22 : decode cX3_allWithin 22 = .ok (.aload_n 0, 1) := by decide +kernel
theorem dX3_allWithin_23 : decode cX3_allWithin 23 = .ok (.getfield 14, 3) := by decide +kernel
theorem dX3_allWithin_26 : decode cX3_allWithin 26 = .ok (.iload 4, 2) := by decide +kernel
theorem dX3_allWithin_28 : decode cX3_allWithin 28 = .ok (.invokevirtual 61, 3) := by decide +kernel
theorem dX3_allWithin_31 : decode cX3_allWithin 31 = .ok (.bipush 126, 2) := by decide +kernel
theorem dX3_allWithin_33 : decode cX3_allWithin 33 = .ok (.if_icmp .le 5, 3) := by decide +kernel
theorem dX3_allWithin_36 : decode cX3_allWithin 36 = .ok (.iconst 0, 1) := by decide +kernel
theorem dX3_allWithin_37 : decode cX3_allWithin 37 = .ok (.ireturn, 1) := by decide +kernel
theorem dX3_allWithin_38 : decode cX3_allWithin 38 = .ok (.iinc 4 1, 3) := by decide +kernel
theorem dX3_allWithin_41 : decode cX3_allWithin 41 = .ok (.goto (-38), 3) := by decide +kernel
theorem dX3_allWithin_44 : decode cX3_allWithin 44 = .ok (.iconst 1, 1) := by decide +kernel
theorem dX3_allWithin_45 : decode cX3_allWithin 45 = .ok (.ireturn, 1) := by decide +kernel
theorem dX3_readField_0 : decode cX3_readField 0 = .ok (.iload_n 1, 1) := by decide +kernel
theorem dX3_readField_1 : decode cX3_readField 1 = .ok (.istore_n 3, 1) := by decide +kernel
theorem dX3_readField_2 : decode cX3_readField 2 = .ok (.iload_n 3, 1) := by decide +kernel
theorem dX3_readField_3 : decode cX3_readField 3 = .ok (.iload_n 2, 1) := by decide +kernel
theorem dX3_readField_4 : decode cX3_readField 4 = .ok (.if_icmp .ge 23, 3) := by decide +kernel
theorem dX3_readField_7 : decode cX3_readField 7 = .ok (.aload_n 0, 1) := by decide +kernel
theorem dX3_readField_8 : decode cX3_readField 8 = .ok (.getfield 14, 3) := by decide +kernel
theorem dX3_readField_11 : decode cX3_readField 11 = .ok (.iload_n 3, 1) := by decide +kernel
theorem dX3_readField_12 : decode cX3_readField 12 = .ok (.invokevirtual 61, 3) := by decide +kernel
theorem dX3_readField_15 : decode cX3_readField 15 = .ok (.invokestatic 93, 3) := by decide +kernel
theorem dX3_readField_18 : decode cX3_readField 18 = .ok (.ifCond .eq 9, 3) := by decide +kernel
theorem dX3_readField_21 : decode cX3_readField 21 = .ok (.iinc 3 1, 3) := by decide +kernel
theorem dX3_readField_24 : decode cX3_readField 24 = .ok (.goto (-22), 3) := by decide +kernel
theorem dX3_readField_27 : decode cX3_readField 27 = .ok (.iload_n 3, 1) := by decide +kernel
theorem dX3_readField_28 : decode cX3_readField 28 = .ok (.iload_n 1, 1) := by decide +kernel
theorem dX3_readField_29 : decode cX3_readField 29 = .ok (.if_icmp .eq 21, 3) := by decide +kernel
theorem dX3_readField_32 : decode cX3_readField 32 = .ok (.iload_n 3, 1) := by decide +kernel
theorem dX3_readField_33 : decode cX3_readField 33 = .ok (.iload_n 2, 1) := by decide +kernel
theorem dX3_readField_34 : decode cX3_readField 34 = .ok (.if_icmp .eq 16, 3) := by decide +kernel
theorem dX3_readField_37 : decode cX3_readField 37 = .ok (.aload_n 0, 1) := by decide +kernel
theorem dX3_readField_38 : decode cX3_readField 38 = .ok (.getfield 14, 3) := by decide +kernel
theorem dX3_readField_41 : decode cX3_readField 41 = .ok (.iload_n 3, 1) := by decide +kernel
theorem dX3_readField_42 : decode cX3_readField 42 = .ok (.invokevirtual 61, 3) := by decide +kernel
theorem dX3_readField_45 : decode cX3_readField 45 = .ok (.bipush 58, 2) := by decide +kernel
theorem dX3_readField_47 : decode cX3_readField 47 = .ok (.if_icmp .eq 5, 3) := by decide +kernel
theorem dX3_readField_50 : decode cX3_readField 50 = .ok (.iconst 0, 1) := by decide +kernel
theorem dX3_readField_51 : decode cX3_readField 51 = .ok (.ireturn, 1) := by decide +kernel
theorem dX3_readField_52 : decode cX3_readField 52 = .ok (.iload_n 3, 1) := by decide +kernel
theorem dX3_readField_53 : decode cX3_readField 53 = .ok (.iconst 1, 1) := by decide +kernel
theorem dX3_readField_54 : decode cX3_readField 54 = .ok (.iadd, 1) := by decide +kernel
theorem dX3_readField_55 : decode cX3_readField 55 = .ok (.istore 4, 2) := by decide +kernel
theorem dX3_readField_57 : decode cX3_readField 57 = .ok (.iload 4, 2) := by decide +kernel
theorem dX3_readField_59 : decode cX3_readField 59 = .ok (.iload_n 2, 1) := by decide +kernel
theorem dX3_readField_60 : decode cX3_readField 60 = .ok (.if_icmp .ge 53, 3) := by decide +kernel
theorem dX3_readField_63 : decode cX3_readField 63 = .ok (.aload_n 0, 1) := by decide +kernel
theorem dX3_readField_64 : decode cX3_readField 64 = .ok (.getfield 14, 3) := by decide +kernel
theorem dX3_readField_67 : decode cX3_readField 67 = .ok (.iload 4, 2) := by decide +kernel
theorem dX3_readField_69 : decode cX3_readField 69 = .ok (.invokevirtual 61, 3) := by decide +kernel
theorem dX3_readField_72 : decode cX3_readField 72 = .ok (.bipush 9, 2) := by decide +kernel
theorem dX3_readField_74 : decode cX3_readField 74 = .ok (.if_icmp .eq 33, 3) := by decide +kernel
theorem dX3_readField_77 : decode cX3_readField 77 = .ok (.aload_n 0, 1) := by decide +kernel
theorem dX3_readField_78 : decode cX3_readField 78 = .ok (.getfield 14, 3) := by decide +kernel
theorem dX3_readField_81 : decode cX3_readField 81 = .ok (.iload 4, 2) := by decide +kernel
theorem dX3_readField_83 : decode cX3_readField 83 = .ok (.invokevirtual 61, 3) := by decide +kernel
theorem dX3_readField_86 : decode cX3_readField 86 = .ok (.bipush 32, 2) := by decide +kernel
theorem dX3_readField_88 : decode cX3_readField 88 = .ok (.if_icmp .lt 17, 3) := by decide +kernel
theorem dX3_readField_91 : decode cX3_readField 91 = .ok (.aload_n 0, 1) := by decide +kernel
theorem dX3_readField_92 : decode cX3_readField 92 = .ok (.getfield 14, 3) := by decide +kernel
theorem dX3_readField_95 : decode cX3_readField 95 = .ok (.iload 4, 2) := by decide +kernel
theorem dX3_readField_97 : decode cX3_readField 97 = .ok (.invokevirtual 61, 3) := by decide +kernel
theorem dX3_readField_100 : decode cX3_readField 100 = .ok (.bipush 126, 2) := by decide +kernel
theorem dX3_readField_102 : decode cX3_readField 102 = .ok (.if_icmp .le 5, 3) := by decide +kernel
theorem dX3_readField_105 : decode cX3_readField 105 = .ok (.iconst 0, 1) := by decide +kernel
theorem dX3_readField_106 : decode cX3_readField 106 = .ok (.ireturn, 1) := by decide +kernel
theorem dX3_readField_107 : decode cX3_readField 107 = .ok (.iinc 4 1, 3) := by decide +kernel
theorem dX3_readField_110 : decode cX3_readField 110 = .ok (.goto (-53), 3) := by decide +kernel
theorem dX3_readField_113 : decode cX3_readField 113 = .ok (.aload_n 0, 1) := by decide +kernel
theorem dX3_readField_114 : decode cX3_readField 114 = .ok (.aload_n 0, 1) := by decide +kernel
theorem dX3_readField_115 : decode cX3_readField 115 = .ok (.iload_n 1, 1) := by decide +kernel
theorem dX3_readField_116 : decode cX3_readField 116 = .ok (.iload_n 3, 1) := by decide +kernel
theorem dX3_readField_117 : decode cX3_readField 117 = .ok (.invokevirtual 96, 3) := by decide +kernel
theorem dX3_readField_120 : decode cX3_readField 120 = .ok (.iload_n 3, 1) := by decide +kernel
theorem dX3_readField_121 : decode cX3_readField 121 = .ok (.iconst 1, 1) := by decide +kernel
theorem dX3_readField_122 : decode cX3_readField 122 = .ok (.iadd, 1) := by decide +kernel
theorem dX3_readField_123 : decode cX3_readField 123 = .ok (.iload_n 2, 1) := by decide +kernel
theorem dX3_readField_124 : decode cX3_readField 124 = .ok (.invokevirtual 100, 3) := by decide +kernel
theorem dX3_readField_127 : decode cX3_readField 127 = .ok (.iconst 1, 1) := by decide +kernel
theorem dX3_readField_128 : decode cX3_readField 128 = .ok (.ireturn, 1) := by decide +kernel
theorem dX3_isNameSign_0 : decode cX3_isNameSign 0 = .ok (.iload_n 0, 1) := by decide +kernel
theorem dX3_isNameSign_1 : decode cX3_isNameSign 1 = .ok (.invokestatic 104, 3) := by decide +kernel
end
section
theorem dX3_isNameSign_4 : decode cX3_isNameSign 4 = .ok (.ifCond .ne 9, 3) := by decide +kernel
theorem dX3_isNameSign_7 : decode cX3_isNameSign 7 = .ok (.iload_n 0, 1) := by decide +kernel
theorem dX3_isNameSign_8 : decode cX3_isNameSign 8 = .ok (.bipush 45, 2) := by decide +kernel
theorem dX3_isNameSign_10 : decode cX3_isNameSign 10 = .ok (.if_icmp .ne 7, 3) := by decide +kernel
theorem dX3_isNameSign_13 : decode cX3_isNameSign 13 = .ok (.iconst 1, 1) := by decide +kernel
theorem dX3_isNameSign_14 : decode cX3_isNameSign 14 = .ok (.goto 4, 3) := by decide +kernel
theorem dX3_isNameSign_17 : decode cX3_isNameSign 17 = .ok (.iconst 0, 1) := by decide +kernel
theorem dX3_isNameSign_18 : decode cX3_isNameSign 18 = .ok (.ireturn, 1) := by decide +kernel
theorem dX3_isLetterOrDigit_0 : decode cX3_isLetterOrDigit 0 = .ok (.iload_n 0, 1) := by decide +kernel
theorem dX3_isLetterOrDigit_1 : decode cX3_isLetterOrDigit 1 = .ok (.bipush 97, 2) := by decide +kernel
theorem dX3_isLetterOrDigit_3 : decode cX3_isLetterOrDigit 3 = .ok (.if_icmp .lt 9, 3) := by decide +kernel
theorem dX3_isLetterOrDigit_6 : decode cX3_isLetterOrDigit 6 = .ok (.iload_n 0, 1) := by decide +kernel
theorem dX3_isLetterOrDigit_7 : decode cX3_isLetterOrDigit 7 = .ok (.bipush 122, 2) := by decide +kernel
theorem dX3_isLetterOrDigit_9 : decode cX3_isLetterOrDigit 9 = .ok (.if_icmp .le 27, 3) := by decide +kernel
theorem dX3_isLetterOrDigit_12 : decode cX3_isLetterOrDigit 12 = .ok (.iload_n 0, 1) := by decide +kernel
theorem dX3_isLetterOrDigit_13 : decode cX3_isLetterOrDigit 13 = .ok (.bipush 65, 2) := by decide +kernel
theorem dX3_isLetterOrDigit_15 : decode cX3_isLetterOrDigit 15 = .ok (.if_icmp .lt 9, 3) := by decide +kernel
theorem dX3_isLetterOrDigit_18 : decode cX3_isLetterOrDigit 18 = .ok (.iload_n 0, 1) := by decide +kernel
theorem dX3_isLetterOrDigit_19 : decode cX3_isLetterOrDigit 19 = .ok (.bipush 90, 2) := by decide +kernel
theorem dX3_isLetterOrDigit_21 : decode cX3_isLetterOrDigit 21 = .ok (.if_icmp .le 15, 3) := by decide +kernel
theorem dX3_isLetterOrDigit_24 : decode cX3_isLetterOrDigit 24 = .ok (.iload_n 0, 1) := by decide +kernel
theorem dX3_isLetterOrDigit_25 : decode cX3_isLetterOrDigit 25 = .ok (.bipush 48, 2) := by decide +kernel
theorem dX3_isLetterOrDigit_27 : decode cX3_isLetterOrDigit 27 = .ok (.if_icmp .lt 13, 3) := by decide +kernel
theorem dX3_isLetterOrDigit_30 : decode cX3_isLetterOrDigit 30 = .ok (.iload_n 0, 1) := by decide +kernel
theorem dX3_isLetterOrDigit_31 : decode cX3_isLetterOrDigit 31 = .ok (.bipush 57, 2) := by decide +kernel
theorem dX3_isLetterOrDigit_33 : decode cX3_isLetterOrDigit 33 = .ok (.if_icmp .gt 7, 3) := by decide +kernel
theorem dX3_isLetterOrDigit_36 : decode cX3_isLetterOrDigit 36 = .ok (.iconst 1, 1) := by decide +kernel
theorem dX3_isLetterOrDigit_37 : decode cX3_isLetterOrDigit 37 = .ok (.goto 4, 3) := by decide +kernel
theorem dX3_isLetterOrDigit_40 : decode cX3_isLetterOrDigit 40 = .ok (.iconst 0, 1) := by decide +kernel
theorem dX3_isLetterOrDigit_41 : decode cX3_isLetterOrDigit 41 = .ok (.ireturn, 1) := by decide +kernel
theorem dX3_nameNumber_0 : decode cX3_nameNumber 0 = .ok (.aload_n 0, 1) := by decide +kernel
theorem dX3_nameNumber_1 : decode cX3_nameNumber 1 = .ok (.iload_n 1, 1) := by decide +kernel
theorem dX3_nameNumber_2 : decode cX3_nameNumber 2 = .ok (.iload_n 2, 1) := by decide +kernel
theorem dX3_nameNumber_3 : decode cX3_nameNumber 3 = .ok (.ldc 107, 2) := by decide +kernel
theorem dX3_nameNumber_5 : decode cX3_nameNumber 5 = .ok (.invokevirtual 53, 3) := by decide +kernel
theorem dX3_nameNumber_8 : decode cX3_nameNumber 8 = .ok (.ifCond .eq 5, 3) := by decide +kernel
theorem dX3_nameNumber_11 : decode cX3_nameNumber 11 = .ok (.iconst 0, 1) := by decide +kernel
theorem dX3_nameNumber_12 : decode cX3_nameNumber 12 = .ok (.ireturn, 1) := by decide +kernel
theorem dX3_nameNumber_13 : decode cX3_nameNumber 13 = .ok (.aload_n 0, 1) := by decide +kernel
theorem dX3_nameNumber_14 : decode cX3_nameNumber 14 = .ok (.iload_n 1, 1) := by decide +kernel
theorem dX3_nameNumber_15 : decode cX3_nameNumber 15 = .ok (.iload_n 2, 1) := by decide +kernel
theorem dX3_nameNumber_16 : decode cX3_nameNumber 16 = .ok (.ldc 109, 2) := by decide +kernel
theorem dX3_nameNumber_18 : decode cX3_nameNumber 18 = .ok (.invokevirtual 53, 3) := by decide +kernel
theorem dX3_nameNumber_21 : decode cX3_nameNumber 21 = .ok (.ifCond .eq 5, 3) := by decide +kernel
theorem dX3_nameNumber_24 : decode cX3_nameNumber 24 = .ok (.iconst 1, 1) := by decide +kernel
theorem dX3_nameNumber_25 : decode cX3_nameNumber 25 = .ok (.ireturn, 1) := by decide +kernel
theorem dX3_nameNumber_26 : decode cX3_nameNumber 26 = .ok (.aload_n 0, 1) := by decide +kernel
theorem dX3_nameNumber_27 : decode cX3_nameNumber 27 = .ok (.iload_n 1, 1) := by decide +kernel
theorem dX3_nameNumber_28 : decode cX3_nameNumber 28 = .ok (.iload_n 2, 1) := by decide +kernel
theorem dX3_nameNumber_29 : decode cX3_nameNumber 29 = .ok (.ldc 111, 2) := by decide +kernel
theorem dX3_nameNumber_31 : decode cX3_nameNumber 31 = .ok (.invokevirtual 53, 3) := by decide +kernel
theorem dX3_nameNumber_34 : decode cX3_nameNumber 34 = .ok (.ifCond .eq 5, 3) := by decide +kernel
theorem dX3_nameNumber_37 : decode cX3_nameNumber 37 = .ok (.iconst 2, 1) := by decide +kernel
theorem dX3_nameNumber_38 : decode cX3_nameNumber 38 = .ok (.ireturn, 1) := by decide +kernel
theorem dX3_nameNumber_39 : decode cX3_nameNumber 39 = .ok (.aload_n 0, 1) := by decide +kernel
theorem dX3_nameNumber_40 : decode cX3_nameNumber 40 = .ok (.iload_n 1, 1) := by decide +kernel
theorem dX3_nameNumber_41 : decode cX3_nameNumber 41 = .ok (.iload_n 2, 1) := by decide +kernel
theorem dX3_nameNumber_42 : decode cX3_nameNumber 42 = .ok (.ldc 113, 2) := by decide +kernel
theorem dX3_nameNumber_44 : decode cX3_nameNumber 44 = .ok (.invokevirtual 53, 3) := by decide +kernel
theorem dX3_nameNumber_47 : decode cX3_nameNumber 47 = .ok (.ifCond .eq 5, 3) := by decide +kernel
theorem dX3_nameNumber_50 : decode cX3_nameNumber 50 = .ok (.iconst 3, 1) := by decide +kernel
theorem dX3_nameNumber_51 : decode cX3_nameNumber 51 = .ok (.ireturn, 1) := by decide +kernel
theorem dX3_nameNumber_52 : decode cX3_nameNumber 52 = .ok (.aload_n 0, 1) := by decide +kernel
theorem dX3_nameNumber_53 : decode cX3_nameNumber 53 = .ok (.iload_n 1, 1) := by decide +kernel
theorem dX3_nameNumber_54 : decode cX3_nameNumber 54 = .ok (.iload_n 2, 1) := by decide +kernel
theorem dX3_nameNumber_55 : decode cX3_nameNumber 55 = .ok (.ldc 115, 2) := by decide +kernel
theorem dX3_nameNumber_57 : decode cX3_nameNumber 57 = .ok (.invokevirtual 53, 3) := by decide +kernel
theorem dX3_nameNumber_60 : decode cX3_nameNumber 60 = .ok (.ifCond .eq 7, 3) := by decide +kernel
theorem dX3_nameNumber_63 : decode cX3_nameNumber 63 = .ok (.iconst 4, 1) := by decide +kernel
theorem dX3_nameNumber_64 : decode cX3_nameNumber 64 = .ok (.goto 4, 3) := by decide +kernel
theorem dX3_nameNumber_67 : decode cX3_nameNumber 67 = .ok (.iconst (-1), 1) := by decide +kernel
theorem dX3_nameNumber_68 : decode cX3_nameNumber 68 = .ok (.ireturn, 1) := by decide +kernel
theorem dX3_keepField_0 : decode cX3_keepField 0 = .ok (.iload_n 1, 1) := by decide +kernel
theorem dX3_keepField_1 : decode cX3_keepField 1 = .ok (.ifCond .lt 42, 3) := by decide +kernel
theorem dX3_keepField_4 : decode cX3_keepField 4 = .ok (.iload_n 1, 1) := by decide +kernel
theorem dX3_keepField_5 : decode cX3_keepField 5 = .ok (.iconst 5, 1) := by decide +kernel
theorem dX3_keepField_6 : decode cX3_keepField 6 = .ok (.if_icmp .ge 37, 3) := by decide +kernel
theorem dX3_keepField_9 : decode cX3_keepField 9 = .ok (.aload_n 0, 1) := by decide +kernel
theorem dX3_keepField_10 : decode cX3_keepField 10 = .ok (.getfield 20, 3) := by decide +kernel
theorem dX3_keepField_13 : decode cX3_keepField 13 = .ok (.iload_n 1, 1) := by decide +kernel
theorem dX3_keepField_14 : decode cX3_keepField 14 = .ok (.dup2, 1) := by decide +kernel
theorem dX3_keepField_15 : decode cX3_keepField 15 = .ok (.iaload, 1) := by decide +kernel
theorem dX3_keepField_16 : decode cX3_keepField 16 = .ok (.iconst 1, 1) := by decide +kernel
theorem dX3_keepField_17 : decode cX3_keepField 17 = .ok (.iadd, 1) := by decide +kernel
theorem dX3_keepField_18 : decode cX3_keepField 18 = .ok (.iastore, 1) := by decide +kernel
theorem dX3_keepField_19 : decode cX3_keepField 19 = .ok (.aload_n 0, 1) := by decide +kernel
theorem dX3_keepField_20 : decode cX3_keepField 20 = .ok (.getfield 24, 3) := by decide +kernel
theorem dX3_keepField_23 : decode cX3_keepField 23 = .ok (.iload_n 1, 1) := by decide +kernel
theorem dX3_keepField_24 : decode cX3_keepField 24 = .ok (.aload_n 0, 1) := by decide +kernel
theorem dX3_keepField_25 : decode cX3_keepField 25 = .ok (.iload_n 2, 1) := by decide +kernel
theorem dX3_keepField_26 : decode cX3_keepField 26 = .ok (.iload_n 3, 1) := by decide +kernel
theorem dX3_keepField_27 : decode cX3_keepField 27 = .ok (.invokevirtual 117, 3) := by decide +kernel
theorem dX3_keepField_30 : decode cX3_keepField 30 = .ok (.iastore, 1) := by decide +kernel
theorem dX3_keepField_31 : decode cX3_keepField 31 = .ok (.aload_n 0, 1) := by decide +kernel
theorem dX3_keepField_32 : decode cX3_keepField 32 = .ok (.getfield 27, 3) := by decide +kernel
theorem dX3_keepField_35 : decode cX3_keepField 35 = .ok (.iload_n 1, 1) := by decide +kernel
theorem dX3_keepField_36 : decode cX3_keepField 36 = .ok (.aload_n 0, 1) := by decide +kernel
theorem dX3_keepField_37 : decode cX3_keepField 37 = .ok (.iload_n 2, 1) := by decide +kernel
theorem dX3_keepField_38 : decode cX3_keepField 38 = .ok (.iload_n 3, 1) := by decide +kernel
theorem dX3_keepField_39 : decode cX3_keepField 39 = .ok (.invokevirtual 120, 3) := by decide +kernel
theorem dX3_keepField_42 : decode cX3_keepField 42 = .ok (.iastore, 1) := by decide +kernel
theorem dX3_keepField_43 : decode cX3_keepField 43 = .ok (.return_, 1) := by decide +kernel
theorem dX3_isSame_0 : decode cX3_isSame 0 = .ok (.iload_n 2, 1) := by decide +kernel
theorem dX3_isSame_1 : decode cX3_isSame 1 = .ok (.iload_n 1, 1) := by decide +kernel
theorem dX3_isSame_2 : decode cX3_isSame 2 = .ok (.isub, 1) := by decide +kernel
theorem dX3_isSame_3 : decode cX3_isSame 3 = .ok (.aload_n 3, 1) := by decide +kernel
theorem dX3_isSame_4 : decode cX3_isSame 4 = .ok (.invokevirtual 84, 3) := by decide +kernel
theorem dX3_isSame_7 : decode cX3_isSame 7 = .ok (.if_icmp .eq 5, 3) := by decide +kernel
theorem dX3_isSame_10 : decode cX3_isSame 10 = .ok (.iconst 0, 1) := by decide +kernel
theorem dX3_isSame_11 : decode cX3_isSame 11 = .ok (.ireturn, 1) := by decide +kernel
theorem dX3_isSame_12 : decode cX3_isSame 12 = .ok (.iconst 0, 1) := by decide +kernel
theorem dX3_isSame_13 : decode cX3_isSame 13 = .ok (.istore 4, 2) := by decide +kernel
theorem dX3_isSame_15 : decode cX3_isSame 15 = .ok (.iload 4, 2) := by decide +kernel
theorem dX3_isSame_17 : decode cX3_isSame 17 = .ok (.aload_n 3, 1) := by decide +kernel
theorem dX3_isSame_18 : decode cX3_isSame 18 = .ok (.invokevirtual 84, 3) := by decide +kernel
theorem dX3_isSame_21 : decode cX3_isSame 21 = .ok (.if_icmp .ge 34, 3) := by decide +kernel
theorem dX3_isSame_24 : decode cX3_isSame 24 = .ok (.aload_n 0, 1) := by decide +kernel
theorem dX3_isSame_25 : decode cX3_isSame 25 = .ok (.getfield 14, 3) := by decide +kernel
theorem dX3_isSame_28 : decode cX3_isSame 28 = .ok (.iload_n 1, 1) := by decide +kernel
theorem dX3_isSame_29 : decode cX3_isSame 29 = .ok (.iload 4, 2) := by decide +kernel
theorem dX3_isSame_31 : decode cX3_isSame 31 = .ok (.iadd, 1) := by decide +kernel
theorem dX3_isSame_32 : decode cX3_isSame 32 = .ok (.invokevirtual 61, 3) := by decide +kernel
theorem dX3_isSame_35 : decode cX3_isSame 35 = .ok (.invokestatic 123, 3) := by decide +kernel
theorem dX3_isSame_38 : decode cX3_isSame 38 = .ok (.aload_n 3, 1) := by decide +kernel
theorem dX3_isSame_39 : decode cX3_isSame 39 = .ok (.iload 4, 2) := by decide +kernel
theorem dX3_isSame_41 : decode cX3_isSame 41 = .ok (.invokevirtual 89, 3) := by decide +kernel
theorem dX3_isSame_44 : decode cX3_isSame 44 = .ok (.if_icmp .eq 5, 3) := by decide +kernel
theorem dX3_isSame_47 : decode cX3_isSame 47 = .ok (.iconst 0, 1) := by decide +kernel
theorem dX3_isSame_48 : decode cX3_isSame 48 = .ok (.ireturn, 1) := by decide +kernel
theorem dX3_isSame_49 : decode cX3_isSame 49 = .ok (.iinc 4 1, 3) := by decide +kernel
theorem dX3_isSame_52 : decode cX3_isSame 52 = .ok (.goto (-37), 3) := by decide +kernel
theorem dX3_isSame_55 : decode cX3_isSame 55 = .ok (.iconst 1, 1) := by decide +kernel
theorem dX3_isSame_56 : decode cX3_isSame 56 = .ok (.ireturn, 1) := by decide +kernel
theorem dX3_asSmall_0 : decode cX3_asSmall 0 = .ok (.iload_n 0, 1) := by decide +kernel
theorem dX3_asSmall_1 : decode cX3_asSmall 1 = .ok (.bipush 65, 2) := by decide +kernel
theorem dX3_asSmall_3 : decode cX3_asSmall 3 = .ok (.if_icmp .lt 16, 3) := by decide +kernel
theorem dX3_asSmall_6 : decode cX3_asSmall 6 = .ok (.iload_n 0, 1) := by decide +kernel
theorem dX3_asSmall_7 : decode cX3_asSmall 7 = .ok (.bipush 90, 2) := by decide +kernel
theorem dX3_asSmall_9 : decode cX3_asSmall 9 = .ok (.if_icmp .gt 10, 3) := by decide +kernel
theorem dX3_asSmall_12 : decode cX3_asSmall 12 = .ok (.iload_n 0, 1) := by decide +kernel
theorem dX3_asSmall_13 : decode cX3_asSmall 13 = .ok (.bipush 32, 2) := by decide +kernel
theorem dX3_asSmall_15 : decode cX3_asSmall 15 = .ok (.iadd, 1) := by decide +kernel
theorem dX3_asSmall_16 : decode cX3_asSmall 16 = .ok (.goto 4, 3) := by decide +kernel
theorem dX3_asSmall_19 : decode cX3_asSmall 19 = .ok (.iload_n 0, 1) := by decide +kernel
theorem dX3_asSmall_20 : decode cX3_asSmall 20 = .ok (.ireturn, 1) := by decide +kernel
theorem dX3_skipBlanks_0 : decode cX3_skipBlanks 0 = .ok (.iload_n 1, 1) := by decide +kernel
theorem dX3_skipBlanks_1 : decode cX3_skipBlanks 1 = .ok (.istore_n 3, 1) := by decide +kernel
theorem dX3_skipBlanks_2 : decode cX3_skipBlanks 2 = .ok (.iload_n 3, 1) := by decide +kernel
theorem dX3_skipBlanks_3 : decode cX3_skipBlanks 3 = .ok (.iload_n 2, 1) := by decide +kernel
theorem dX3_skipBlanks_4 : decode cX3_skipBlanks 4 = .ok (.if_icmp .ge 23, 3) := by decide +kernel
theorem dX3_skipBlanks_7 : decode cX3_skipBlanks 7 = .ok (.aload_n 0, 1) := by decide +kernel
theorem dX3_skipBlanks_8 : decode cX3_skipBlanks 8 = .ok (.getfield 14, 3) := by decide +kernel
theorem dX3_skipBlanks_11 : decode cX3_skipBlanks 11 = .ok (.iload_n 3, 1) := by decide +kernel
theorem dX3_skipBlanks_12 : decode cX3_skipBlanks 12 = .ok (.invokevirtual 61, 3) := by decide +kernel
theorem dX3_skipBlanks_15 : decode cX3_skipBlanks 15 = .ok (.invokestatic 126, 3) := by decide +kernel
theorem dX3_skipBlanks_18 : decode cX3_skipBlanks 18 = .ok (.ifCond .eq 9, 3) := by decide +kernel
theorem dX3_skipBlanks_21 : decode cX3_skipBlanks 21 = .ok (.iinc 3 1, 3) := by decide +kernel
theorem dX3_skipBlanks_24 : decode cX3_skipBlanks 24 = .ok (.goto (-22), 3) := by decide +kernel
theorem dX3_skipBlanks_27 : decode cX3_skipBlanks 27 = .ok (.iload_n 3, 1) := by decide +kernel
theorem dX3_skipBlanks_28 : decode cX3_skipBlanks 28 = .ok (.ireturn, 1) := by decide +kernel
theorem dX3_skipBlanksBack_0 : decode cX3_skipBlanksBack 0 = .ok (.iload_n 2, 1) := by decide +kernel
theorem dX3_skipBlanksBack_1 : decode cX3_skipBlanksBack 1 = .ok (.istore_n 3, 1) := by decide +kernel
theorem dX3_skipBlanksBack_2 : decode cX3_skipBlanksBack 2 = .ok (.iload_n 3, 1) := by decide +kernel
theorem dX3_skipBlanksBack_3 : decode cX3_skipBlanksBack 3 = .ok (.iload_n 1, 1) := by decide +kernel
theorem dX3_skipBlanksBack_4 : decode cX3_skipBlanksBack 4 = .ok (.if_icmp .le 25, 3) := by decide +kernel
theorem dX3_skipBlanksBack_7 : decode cX3_skipBlanksBack 7 = .ok (.aload_n 0, 1) := by decide +kernel
theorem dX3_skipBlanksBack_8 : decode cX3_skipBlanksBack 8 = .ok (.getfield 14, 3) := by decide +kernel
theorem dX3_skipBlanksBack_11 : decode cX3_skipBlanksBack 11 = .ok (.iload_n 3, 1) := by decide +kernel
theorem dX3_skipBlanksBack_12 : decode cX3_skipBlanksBack 12 = .ok (.iconst 1, 1) := by decide +kernel
theorem dX3_skipBlanksBack_13 : decode cX3_skipBlanksBack 13 = .ok (.isub, 1) := by decide +kernel
theorem dX3_skipBlanksBack_14 : decode cX3_skipBlanksBack 14 = .ok (.invokevirtual 61, 3) := by decide +kernel
theorem dX3_skipBlanksBack_17 : decode cX3_skipBlanksBack 17 = .ok (.invokestatic 126, 3) := by decide +kernel
theorem dX3_skipBlanksBack_20 : decode cX3_skipBlanksBack 20 = .ok (.ifCond .eq 9, 3) := by decide +kernel
theorem dX3_skipBlanksBack_23 : decode cX3_skipBlanksBack 23 = .ok (.iinc 3 (-1), 3) := by decide +kernel
theorem dX3_skipBlanksBack_26 : decode cX3_skipBlanksBack 26 = .ok (.goto (-24), 3) := by decide +kernel
theorem dX3_skipBlanksBack_29 : decode cX3_skipBlanksBack 29 = .ok (.iload_n 3, 1) := by decide +kernel
theorem dX3_skipBlanksBack_30 : decode cX3_skipBlanksBack 30 = .ok (.ireturn, 1) := by decide +kernel
theorem dX3_isBlank_0 : decode cX3_isBlank 0 = .ok (.iload_n 0, 1) := by decide +kernel
theorem dX3_isBlank_1 : decode cX3_isBlank 1 = .ok (.bipush 32, 2) := by decide +kernel
theorem dX3_isBlank_3 : decode cX3_isBlank 3 = .ok (.if_icmp .eq 9, 3) := by decide +kernel
theorem dX3_isBlank_6 : decode cX3_isBlank 6 = .ok (.iload_n 0, 1) := by decide +kernel
theorem dX3_isBlank_7 : decode cX3_isBlank 7 = .ok (.bipush 9, 2) := by decide +kernel
theorem dX3_isBlank_9 : decode cX3_isBlank 9 = .ok (.if_icmp .ne 7, 3) := by decide +kernel
theorem dX3_isBlank_12 : decode cX3_isBlank 12 = .ok (.iconst 1, 1) := by decide +kernel
theorem dX3_isBlank_13 : decode cX3_isBlank 13 = .ok (.goto 4, 3) := by decide +kernel
theorem dX3_isBlank_16 : decode cX3_isBlank 16 = .ok (.iconst 0, 1) := by decide +kernel
theorem dX3_isBlank_17 : decode cX3_isBlank 17 = .ok (.ireturn, 1) := by decide +kernel
theorem dX3_hasDueFields_0 : decode cX3_hasDueFields 0 = .ok (.iconst 0, 1) := by decide +kernel
theorem dX3_hasDueFields_1 : decode cX3_hasDueFields 1 = .ok (.istore_n 1, 1) := by decide +kernel
theorem dX3_hasDueFields_2 : decode cX3_hasDueFields 2 = .ok (.iload_n 1, 1) := by decide +kernel
theorem dX3_hasDueFields_3 : decode cX3_hasDueFields 3 = .ok (.iconst 5, 1) := by decide +kernel
theorem dX3_hasDueFields_4 : decode cX3_hasDueFields 4 = .ok (.if_icmp .ge 21, 3) := by decide +kernel
theorem dX3_hasDueFields_7 : decode cX3_hasDueFields 7 = .ok (.aload_n 0, 1) := by decide +kernel
theorem dX3_hasDueFields_8 : decode cX3_hasDueFields 8 = .ok (.getfield 20, 3) := by decide +kernel
theorem dX3_hasDueFields_11 : decode cX3_hasDueFields 11 = .ok (.iload_n 1, 1) := by decide +kernel
theorem dX3_hasDueFields_12 : decode cX3_hasDueFields 12 = .ok (.iaload, 1) := by decide +kernel
theorem dX3_hasDueFields_13 : decode cX3_hasDueFields 13 = .ok (.iconst 1, 1) := by decide +kernel
theorem dX3_hasDueFields_14 : decode cX3_hasDueFields 14 = .ok (.if_icmp .eq 5, 3) := by decide +kernel
theorem dX3_hasDueFields_17 : decode cX3_hasDueFields 17 = .ok (.iconst 0, 1) := by decide +kernel
theorem dX3_hasDueFields_18 : decode cX3_hasDueFields 18 = .ok (.ireturn, 1) := by decide +kernel
theorem dX3_hasDueFields_19 : decode cX3_hasDueFields 19 = .ok (.iinc 1 1, 3) := by decide +kernel
theorem dX3_hasDueFields_22 : decode cX3_hasDueFields 22 = .ok (.goto (-20), 3) := by decide +kernel
theorem dX3_hasDueFields_25 : decode cX3_hasDueFields 25 = .ok (.aload_n 0, 1) := by decide +kernel
theorem dX3_hasDueFields_26 : decode cX3_hasDueFields 26 = .ok (.getfield 24, 3) := by decide +kernel
theorem dX3_hasDueFields_29 : decode cX3_hasDueFields 29 = .ok (.iconst 0, 1) := by decide +kernel
theorem dX3_hasDueFields_30 : decode cX3_hasDueFields 30 = .ok (.iaload, 1) := by decide +kernel
theorem dX3_hasDueFields_31 : decode cX3_hasDueFields 31 = .ok (.aload_n 0, 1) := by decide +kernel
theorem dX3_hasDueFields_32 : decode cX3_hasDueFields 32 = .ok (.getfield 27, 3) := by decide +kernel
theorem dX3_hasDueFields_35 : decode cX3_hasDueFields 35 = .ok (.iconst 0, 1) := by decide +kernel
theorem dX3_hasDueFields_36 : decode cX3_hasDueFields 36 = .ok (.iaload, 1) := by decide +kernel
theorem dX3_hasDueFields_37 : decode cX3_hasDueFields 37 = .ok (.if_icmp .ge 46, 3) := by decide +kernel
theorem dX3_hasDueFields_40 : decode cX3_hasDueFields 40 = .ok (.aload_n 0, 1) := by decide +kernel
theorem dX3_hasDueFields_41 : decode cX3_hasDueFields 41 = .ok (.iconst 1, 1) := by decide +kernel
theorem dX3_hasDueFields_42 : decode cX3_hasDueFields 42 = .ok (.ldc 129, 2) := by decide +kernel
theorem dX3_hasDueFields_44 : decode cX3_hasDueFields 44 = .ok (.invokevirtual 131, 3) := by decide +kernel
theorem dX3_hasDueFields_47 : decode cX3_hasDueFields 47 = .ok (.ifCond .eq 36, 3) := by decide +kernel
theorem dX3_hasDueFields_50 : decode cX3_hasDueFields 50 = .ok (.aload_n 0, 1) := by decide +kernel
theorem dX3_hasDueFields_51 : decode cX3_hasDueFields 51 = .ok (.iconst 2, 1) := by decide +kernel
theorem dX3_hasDueFields_52 : decode cX3_hasDueFields 52 = .ok (.ldc 109, 2) := by decide +kernel
theorem dX3_hasDueFields_54 : decode cX3_hasDueFields 54 = .ok (.invokevirtual 131, 3) := by decide +kernel
theorem dX3_hasDueFields_57 : decode cX3_hasDueFields 57 = .ok (.ifCond .eq 26, 3) := by decide +kernel
theorem dX3_hasDueFields_60 : decode cX3_hasDueFields 60 = .ok (.aload_n 0, 1) := by decide +kernel
theorem dX3_hasDueFields_61 : decode cX3_hasDueFields 61 = .ok (.aload_n 0, 1) := by decide +kernel
theorem dX3_hasDueFields_62 : decode cX3_hasDueFields 62 = .ok (.getfield 24, 3) := by decide +kernel
theorem dX3_hasDueFields_65 : decode cX3_hasDueFields 65 = .ok (.iconst 3, 1) := by decide +kernel
theorem dX3_hasDueFields_66 : decode cX3_hasDueFields 66 = .ok (.iaload, 1) := by decide +kernel
theorem dX3_hasDueFields_67 : decode cX3_hasDueFields 67 = .ok (.aload_n 0, 1) := by decide +kernel
theorem dX3_hasDueFields_68 : decode cX3_hasDueFields 68 = .ok (.getfield 27, 3) := by decide +kernel
theorem dX3_hasDueFields_71 : decode cX3_hasDueFields 71 = .ok (.iconst 3, 1) := by decide +kernel
theorem dX3_hasDueFields_72 : decode cX3_hasDueFields 72 = .ok (.iaload, 1) := by decide +kernel
theorem dX3_hasDueFields_73 : decode cX3_hasDueFields 73 = .ok (.invokevirtual 134, 3) := by decide +kernel
theorem dX3_hasDueFields_76 : decode cX3_hasDueFields 76 = .ok (.ifCond .eq 7, 3) := by decide +kernel
theorem dX3_hasDueFields_79 : decode cX3_hasDueFields 79 = .ok (.iconst 1, 1) := by decide +kernel
theorem dX3_hasDueFields_80 : decode cX3_hasDueFields 80 = .ok (.goto 4, 3) := by decide +kernel
theorem dX3_hasDueFields_83 : decode cX3_hasDueFields 83 = .ok (.iconst 0, 1) := by decide +kernel
theorem dX3_hasDueFields_84 : decode cX3_hasDueFields 84 = .ok (.ireturn, 1) := by decide +kernel
theorem dX3_hasWord_0 : decode cX3_hasWord 0 = .ok (.aload_n 0, 1) := by decide +kernel
theorem dX3_hasWord_1 : decode cX3_hasWord 1 = .ok (.getfield 27, 3) := by decide +kernel
theorem dX3_hasWord_4 : decode cX3_hasWord 4 = .ok (.iload_n 1, 1) := by decide +kernel
theorem dX3_hasWord_5 : decode cX3_hasWord 5 = .ok (.iaload, 1) := by decide +kernel
theorem dX3_hasWord_6 : decode cX3_hasWord 6 = .ok (.istore_n 3, 1) := by decide +kernel
theorem dX3_hasWord_7 : decode cX3_hasWord 7 = .ok (.aload_n 0, 1) := by decide +kernel
theorem dX3_hasWord_8 : decode cX3_hasWord 8 = .ok (.getfield 24, 3) := by decide +kernel
theorem dX3_hasWord_11 : decode cX3_hasWord 11 = .ok (.iload_n 1, 1) := by decide +kernel
theorem dX3_hasWord_12 : decode cX3_hasWord 12 = .ok (.iaload, 1) := by decide +kernel
theorem dX3_hasWord_13 : decode cX3_hasWord 13 = .ok (.istore 4, 2) := by decide +kernel
theorem dX3_hasWord_15 : decode cX3_hasWord 15 = .ok (.iload 4, 2) := by decide +kernel
theorem dX3_hasWord_17 : decode cX3_hasWord 17 = .ok (.istore 5, 2) := by decide +kernel
theorem dX3_hasWord_19 : decode cX3_hasWord 19 = .ok (.iload 5, 2) := by decide +kernel
theorem dX3_hasWord_21 : decode cX3_hasWord 21 = .ok (.iload_n 3, 1) := by decide +kernel
theorem dX3_hasWord_22 : decode cX3_hasWord 22 = .ok (.if_icmp .gt 61, 3) := by decide +kernel
theorem dX3_hasWord_25 : decode cX3_hasWord 25 = .ok (.iload 5, 2) := by decide +kernel
theorem dX3_hasWord_27 : decode cX3_hasWord 27 = .ok (.iload_n 3, 1) := by decide +kernel
theorem dX3_hasWord_28 : decode cX3_hasWord 28 = .ok (.if_icmp .eq 17, 3) := by decide +kernel
theorem dX3_hasWord_31 : decode cX3_hasWord 31 = .ok (.aload_n 0, 1) := by decide +kernel
theorem dX3_hasWord_32 : decode cX3_hasWord 32 = .ok (.getfield 14, 3) := by decide +kernel
theorem dX3_hasWord_35 : decode cX3_hasWord 35 = .ok (.iload 5, 2) := by decide +kernel
theorem dX3_hasWord_37 : decode cX3_hasWord 37 = .ok (.invokevirtual 61, 3) := by decide +kernel
theorem dX3_hasWord_40 : decode cX3_hasWord 40 = .ok (.bipush 44, 2) := by decide +kernel
theorem dX3_hasWord_42 : decode cX3_hasWord 42 = .ok (.if_icmp .ne 35, 3) := by decide +kernel
theorem dX3_hasWord_45 : decode cX3_hasWord 45 = .ok (.aload_n 0, 1) := by decide +kernel
theorem dX3_hasWord_46 : decode cX3_hasWord 46 = .ok (.aload_n 0, 1) := by decide +kernel
theorem dX3_hasWord_47 : decode cX3_hasWord 47 = .ok (.iload 4, 2) := by decide +kernel
theorem dX3_hasWord_49 : decode cX3_hasWord 49 = .ok (.iload 5, 2) := by decide +kernel
theorem dX3_hasWord_51 : decode cX3_hasWord 51 = .ok (.invokevirtual 117, 3) := by decide +kernel
theorem dX3_hasWord_54 : decode cX3_hasWord 54 = .ok (.aload_n 0, 1) := by decide +kernel
theorem dX3_hasWord_55 : decode cX3_hasWord 55 = .ok (.iload 4, 2) := by decide +kernel
theorem dX3_hasWord_57 : decode cX3_hasWord 57 = .ok (.iload 5, 2) := by decide +kernel
theorem dX3_hasWord_59 : decode cX3_hasWord 59 = .ok (.invokevirtual 120, 3) := by decide +kernel
theorem dX3_hasWord_62 : decode cX3_hasWord 62 = .ok (.aload_n 2, 1) := by decide +kernel
theorem dX3_hasWord_63 : decode cX3_hasWord 63 = .ok (.invokevirtual 53, 3) := by decide +kernel
theorem dX3_hasWord_66 : decode cX3_hasWord 66 = .ok (.ifCond .eq 5, 3) := by decide +kernel
theorem dX3_hasWord_69 : decode cX3_hasWord 69 = .ok (.iconst 1, 1) := by decide +kernel
theorem dX3_hasWord_70 : decode cX3_hasWord 70 = .ok (.ireturn, 1) := by decide +kernel
theorem dX3_hasWord_71 : decode cX3_hasWord 71 = .ok (.iload 5, 2) := by decide +kernel
theorem dX3_hasWord_73 : decode cX3_hasWord 73 = .ok (.iconst 1, 1) := by decide +kernel
theorem dX3_hasWord_74 : decode cX3_hasWord 74 = .ok (.iadd, 1) := by decide +kernel
theorem dX3_hasWord_75 : decode cX3_hasWord 75 = .ok (.istore 4, 2) := by decide +kernel
theorem dX3_hasWord_77 : decode cX3_hasWord 77 = .ok (.iinc 5 1, 3) := by decide +kernel
theorem dX3_hasWord_80 : decode cX3_hasWord 80 = .ok (.goto (-61), 3) := by decide +kernel
theorem dX3_hasWord_83 : decode cX3_hasWord 83 = .ok (.iconst 0, 1) := by decide +kernel
theorem dX3_hasWord_84 : decode cX3_hasWord 84 = .ok (.ireturn, 1) := by decide +kernel
theorem dX3_isKey_0 : decode cX3_isKey 0 = .ok (.iload_n 2, 1) := by decide +kernel
theorem dX3_isKey_1 : decode cX3_isKey 1 = .ok (.iload_n 1, 1) := by decide +kernel
theorem dX3_isKey_2 : decode cX3_isKey 2 = .ok (.isub, 1) := by decide +kernel
theorem dX3_isKey_3 : decode cX3_isKey 3 = .ok (.bipush 24, 2) := by decide +kernel
theorem dX3_isKey_5 : decode cX3_isKey 5 = .ok (.if_icmp .ne 16, 3) := by decide +kernel
theorem dX3_isKey_8 : decode cX3_isKey 8 = .ok (.aload_n 0, 1) := by decide +kernel
theorem dX3_isKey_9 : decode cX3_isKey 9 = .ok (.iload_n 1, 1) := by decide +kernel
theorem dX3_isKey_10 : decode cX3_isKey 10 = .ok (.bipush 22, 2) := by decide +kernel
theorem dX3_isKey_12 : decode cX3_isKey 12 = .ok (.iadd, 1) := by decide +kernel
theorem dX3_isKey_13 : decode cX3_isKey 13 = .ok (.ldc 137, 2) := by decide +kernel
theorem dX3_isKey_15 : decode cX3_isKey 15 = .ok (.invokevirtual 74, 3) := by decide +kernel
theorem dX3_isKey_18 : decode cX3_isKey 18 = .ok (.ifCond .ne 5, 3) := by decide +kernel
theorem dX3_isKey_21 : decode cX3_isKey 21 = .ok (.iconst 0, 1) := by decide +kernel
theorem dX3_isKey_22 : decode cX3_isKey 22 = .ok (.ireturn, 1) := by decide +kernel
theorem dX3_isKey_23 : decode cX3_isKey 23 = .ok (.iload_n 1, 1) := by decide +kernel
theorem dX3_isKey_24 : decode cX3_isKey 24 = .ok (.istore_n 3, 1) := by decide +kernel
theorem dX3_isKey_25 : decode cX3_isKey 25 = .ok (.iload_n 3, 1) := by decide +kernel
theorem dX3_isKey_26 : decode cX3_isKey 26 = .ok (.iload_n 1, 1) := by decide +kernel
theorem dX3_isKey_27 : decode cX3_isKey 27 = .ok (.bipush 22, 2) := by decide +kernel
theorem dX3_isKey_29 : decode cX3_isKey 29 = .ok (.iadd, 1) := by decide +kernel
theorem dX3_isKey_30 : decode cX3_isKey 30 = .ok (.if_icmp .ge 43, 3) := by decide +kernel
theorem dX3_isKey_33 : decode cX3_isKey 33 = .ok (.aload_n 0, 1) := by decide +kernel
theorem dX3_isKey_34 : decode cX3_isKey 34 = .ok (.getfield 14, 3) := by decide +kernel
theorem dX3_isKey_37 : decode cX3_isKey 37 = .ok (.iload_n 3, 1) := by decide +kernel
theorem dX3_isKey_38 : decode cX3_isKey 38 = .ok (.invokevirtual 61, 3) := by decide +kernel
theorem dX3_isKey_41 : decode cX3_isKey 41 = .ok (.istore 4, 2) := by decide +kernel
theorem dX3_isKey_43 : decode cX3_isKey 43 = .ok (.iload 4, 2) := by decide +kernel
theorem dX3_isKey_45 : decode cX3_isKey 45 = .ok (.invokestatic 104, 3) := by decide +kernel
theorem dX3_isKey_48 : decode cX3_isKey 48 = .ok (.ifCond .ne 19, 3) := by decide +kernel
theorem dX3_isKey_51 : decode cX3_isKey 51 = .ok (.iload 4, 2) := by decide +kernel
theorem dX3_isKey_53 : decode cX3_isKey 53 = .ok (.bipush 43, 2) := by decide +kernel
theorem dX3_isKey_55 : decode cX3_isKey 55 = .ok (.if_icmp .eq 12, 3) := by decide +kernel
theorem dX3_isKey_58 : decode cX3_isKey 58 = .ok (.iload 4, 2) := by decide +kernel
theorem dX3_isKey_60 : decode cX3_isKey 60 = .ok (.bipush 47, 2) := by decide +kernel
theorem dX3_isKey_62 : decode cX3_isKey 62 = .ok (.if_icmp .eq 5, 3) := by decide +kernel
theorem dX3_isKey_65 : decode cX3_isKey 65 = .ok (.iconst 0, 1) := by decide +kernel
theorem dX3_isKey_66 : decode cX3_isKey 66 = .ok (.ireturn, 1) := by decide +kernel
theorem dX3_isKey_67 : decode cX3_isKey 67 = .ok (.iinc 3 1, 3) := by decide +kernel
theorem dX3_isKey_70 : decode cX3_isKey 70 = .ok (.goto (-45), 3) := by decide +kernel
theorem dX3_isKey_73 : decode cX3_isKey 73 = .ok (.aload_n 0, 1) := by decide +kernel
theorem dX3_isKey_74 : decode cX3_isKey 74 = .ok (.getfield 14, 3) := by decide +kernel
theorem dX3_isKey_77 : decode cX3_isKey 77 = .ok (.iload_n 1, 1) := by decide +kernel
theorem dX3_isKey_78 : decode cX3_isKey 78 = .ok (.bipush 22, 2) := by decide +kernel
theorem dX3_isKey_80 : decode cX3_isKey 80 = .ok (.iadd, 1) := by decide +kernel
theorem dX3_isKey_81 : decode cX3_isKey 81 = .ok (.iconst 1, 1) := by decide +kernel
theorem dX3_isKey_82 : decode cX3_isKey 82 = .ok (.isub, 1) := by decide +kernel
theorem dX3_isKey_83 : decode cX3_isKey 83 = .ok (.invokevirtual 61, 3) := by decide +kernel
theorem dX3_isKey_86 : decode cX3_isKey 86 = .ok (.istore_n 3, 1) := by decide +kernel
theorem dX3_isKey_87 : decode cX3_isKey 87 = .ok (.iload_n 3, 1) := by decide +kernel
theorem dX3_isKey_88 : decode cX3_isKey 88 = .ok (.bipush 65, 2) := by decide +kernel
theorem dX3_isKey_90 : decode cX3_isKey 90 = .ok (.if_icmp .eq 21, 3) := by decide +kernel
theorem dX3_isKey_93 : decode cX3_isKey 93 = .ok (.iload_n 3, 1) := by decide +kernel
theorem dX3_isKey_94 : decode cX3_isKey 94 = .ok (.bipush 81, 2) := by decide +kernel
theorem dX3_isKey_96 : decode cX3_isKey 96 = .ok (.if_icmp .eq 15, 3) := by decide +kernel
theorem dX3_isKey_99 : decode cX3_isKey 99 = .ok (.iload_n 3, 1) := by decide +kernel
theorem dX3_isKey_100 : decode cX3_isKey 100 = .ok (.bipush 103, 2) := by decide +kernel
theorem dX3_isKey_102 : decode cX3_isKey 102 = .ok (.if_icmp .eq 9, 3) := by decide +kernel
theorem dX3_isKey_105 : decode cX3_isKey 105 = .ok (.iload_n 3, 1) := by decide +kernel
theorem dX3_isKey_106 : decode cX3_isKey 106 = .ok (.bipush 119, 2) := by decide +kernel
theorem dX3_isKey_108 : decode cX3_isKey 108 = .ok (.if_icmp .ne 7, 3) := by decide +kernel
theorem dX3_isKey_111 : decode cX3_isKey 111 = .ok (.iconst 1, 1) := by decide +kernel
theorem dX3_isKey_112 : decode cX3_isKey 112 = .ok (.goto 4, 3) := by decide +kernel
theorem dX3_isKey_115 : decode cX3_isKey 115 = .ok (.iconst 0, 1) := by decide +kernel
theorem dX3_isKey_116 : decode cX3_isKey 116 = .ok (.ireturn, 1) := by decide +kernel
theorem dX4_init_0 : decode cX4_init 0 = .ok (.aload_n 0, 1) := by decide +kernel
theorem dX4_init_1 : decode cX4_init 1 = .ok (.invokespecial 1, 3) := by decide +kernel
theorem dX4_init_4 : decode cX4_init 4 = .ok (.return_, 1) := by decide +kernel
theorem dX4_restart_0 : decode cX4_restart 0 = .ok (.aload_n 0, 1) := by decide +kernel
theorem dX4_restart_1 : decode cX4_restart 1 = .ok (.iconst 0, 1) := by decide +kernel
theorem dX4_restart_2 : decode cX4_restart 2 = .ok (.putfield 7, 3) := by decide +kernel
theorem dX4_restart_5 : decode cX4_restart 5 = .ok (.return_, 1) := by decide +kernel
theorem dX4_isWhole_0 : decode cX4_isWhole 0 = .ok (.aload_n 0, 1) := by decide +kernel
theorem dX4_isWhole_1 : decode cX4_isWhole 1 = .ok (.getfield 7, 3) := by decide +kernel
theorem dX4_isWhole_4 : decode cX4_isWhole 4 = .ok (.ifCond .ne 7, 3) := by decide +kernel
theorem dX4_isWhole_7 : decode cX4_isWhole 7 = .ok (.iconst 1, 1) := by decide +kernel
theorem dX4_isWhole_8 : decode cX4_isWhole 8 = .ok (.goto 4, 3) := by decide +kernel
theorem dX4_isWhole_11 : decode cX4_isWhole 11 = .ok (.iconst 0, 1) := by decide +kernel
theorem dX4_isWhole_12 : decode cX4_isWhole 12 = .ok (.ireturn, 1) := by decide +kernel
theorem dX4_accepts_0 : decode cX4_accepts 0 = .ok (.aload_n 0, 1) := by decide +kernel
theorem dX4_accepts_1 : decode cX4_accepts 1 = .ok (.getfield 7, 3) := by decide +kernel
theorem dX4_accepts_4 : decode cX4_accepts 4 = .ok (.ifCond .ne 9, 3) := by decide +kernel
theorem dX4_accepts_7 : decode cX4_accepts 7 = .ok (.aload_n 0, 1) := by decide +kernel
theorem dX4_accepts_8 : decode cX4_accepts 8 = .ok (.iload_n 1, 1) := by decide +kernel
theorem dX4_accepts_9 : decode cX4_accepts 9 = .ok (.invokevirtual 13, 3) := by decide +kernel
theorem dX4_accepts_12 : decode cX4_accepts 12 = .ok (.ireturn, 1) := by decide +kernel
theorem dX4_accepts_13 : decode cX4_accepts 13 = .ok (.iload_n 1, 1) := by decide +kernel
theorem dX4_accepts_14 : decode cX4_accepts 14 = .ok (.aload_n 0, 1) := by decide +kernel
theorem dX4_accepts_15 : decode cX4_accepts 15 = .ok (.getfield 17, 3) := by decide +kernel
theorem dX4_accepts_18 : decode cX4_accepts 18 = .ok (.if_icmp .lt 11, 3) := by decide +kernel
theorem dX4_accepts_21 : decode cX4_accepts 21 = .ok (.iload_n 1, 1) := by decide +kernel
theorem dX4_accepts_22 : decode cX4_accepts 22 = .ok (.aload_n 0, 1) := by decide +kernel
theorem dX4_accepts_23 : decode cX4_accepts 23 = .ok (.getfield 20, 3) := by decide +kernel
theorem dX4_accepts_26 : decode cX4_accepts 26 = .ok (.if_icmp .le 5, 3) := by decide +kernel
theorem dX4_accepts_29 : decode cX4_accepts 29 = .ok (.iconst 0, 1) := by decide +kernel
theorem dX4_accepts_30 : decode cX4_accepts 30 = .ok (.ireturn, 1) := by decide +kernel
theorem dX4_accepts_31 : decode cX4_accepts 31 = .ok (.aload_n 0, 1) := by decide +kernel
theorem dX4_accepts_32 : decode cX4_accepts 32 = .ok (.dup, 1) := by decide +kernel
theorem dX4_accepts_33 : decode cX4_accepts 33 = .ok (.getfield 7, 3) := by decide +kernel
theorem dX4_accepts_36 : decode cX4_accepts 36 = .ok (.iconst 1, 1) := by decide +kernel
theorem dX4_accepts_37 : decode cX4_accepts 37 = .ok (.isub, 1) := by decide +kernel
theorem dX4_accepts_38 : decode cX4_accepts 38 = .ok (.putfield 7, 3) := by decide +kernel
theorem dX4_accepts_41 : decode cX4_accepts 41 = .ok (.aload_n 0, 1) := by decide +kernel
theorem dX4_accepts_42 : decode cX4_accepts 42 = .ok (.sipush 128, 3) := by decide +kernel
theorem dX4_accepts_45 : decode cX4_accepts 45 = .ok (.putfield 17, 3) := by decide +kernel
theorem dX4_accepts_48 : decode cX4_accepts 48 = .ok (.aload_n 0, 1) := by decide +kernel
theorem dX4_accepts_49 : decode cX4_accepts 49 = .ok (.sipush 191, 3) := by decide +kernel
theorem dX4_accepts_52 : decode cX4_accepts 52 = .ok (.putfield 20, 3) := by decide +kernel
theorem dX4_accepts_55 : decode cX4_accepts 55 = .ok (.iconst 1, 1) := by decide +kernel
theorem dX4_accepts_56 : decode cX4_accepts 56 = .ok (.ireturn, 1) := by decide +kernel
theorem dX4_isText_0 : decode cX4_isText 0 = .ok (.aload_n 0, 1) := by decide +kernel
theorem dX4_isText_1 : decode cX4_isText 1 = .ok (.invokevirtual 23, 3) := by decide +kernel
theorem dX4_isText_4 : decode cX4_isText 4 = .ok (.iload_n 2, 1) := by decide +kernel
theorem dX4_isText_5 : decode cX4_isText 5 = .ok (.istore_n 3, 1) := by decide +kernel
theorem dX4_isText_6 : decode cX4_isText 6 = .ok (.iload_n 3, 1) := by decide +kernel
theorem dX4_isText_7 : decode cX4_isText 7 = .ok (.aload_n 1, 1) := by decide +kernel
theorem dX4_isText_8 : decode cX4_isText 8 = .ok (.invokevirtual 26, 3) := by decide +kernel
theorem dX4_isText_11 : decode cX4_isText 11 = .ok (.if_icmp .ge 23, 3) := by decide +kernel
theorem dX4_isText_14 : decode cX4_isText 14 = .ok (.aload_n 0, 1) := by decide +kernel
theorem dX4_isText_15 : decode cX4_isText 15 = .ok (.aload_n 1, 1) := by decide +kernel
theorem dX4_isText_16 : decode cX4_isText 16 = .ok (.iload_n 3, 1) := by decide +kernel
theorem dX4_isText_17 : decode cX4_isText 17 = .ok (.invokevirtual 32, 3) := by decide +kernel
theorem dX4_isText_20 : decode cX4_isText 20 = .ok (.invokevirtual 36, 3) := by decide +kernel
theorem dX4_isText_23 : decode cX4_isText 23 = .ok (.ifCond .ne 5, 3) := by decide +kernel
theorem dX4_isText_26 : decode cX4_isText 26 = .ok (.iconst 0, 1) := by decide +kernel
theorem dX4_isText_27 : decode cX4_isText 27 = .ok (.ireturn, 1) := by decide +kernel
theorem dX4_isText_28 : decode cX4_isText 28 = .ok (.iinc 3 1, 3) := by decide +kernel
theorem dX4_isText_31 : decode cX4_isText 31 = .ok (.goto (-25), 3) := by decide +kernel
theorem dX4_isText_34 : decode cX4_isText 34 = .ok (.aload_n 0, 1) := by decide +kernel
theorem dX4_isText_35 : decode cX4_isText 35 = .ok (.invokevirtual 39, 3) := by decide +kernel
theorem dX4_isText_38 : decode cX4_isText 38 = .ok (.ireturn, 1) := by decide +kernel
theorem dX4_begins_0 : decode cX4_begins 0 = .ok (.iload_n 1, 1) := by decide +kernel
theorem dX4_begins_1 : decode cX4_begins 1 = .ok (.bipush 127, 2) := by decide +kernel
theorem dX4_begins_3 : decode cX4_begins 3 = .ok (.if_icmp .le 10, 3) := by decide +kernel
theorem dX4_begins_6 : decode cX4_begins 6 = .ok (.iload_n 1, 1) := by decide +kernel
theorem dX4_begins_7 : decode cX4_begins 7 = .ok (.sipush 194, 3) := by decide +kernel
theorem dX4_begins_10 : decode cX4_begins 10 = .ok (.if_icmp .lt 10, 3) := by decide +kernel
theorem dX4_begins_13 : decode cX4_begins 13 = .ok (.iload_n 1, 1) := by decide +kernel
theorem dX4_begins_14 : decode cX4_begins 14 = .ok (.sipush 244, 3) := by decide +kernel
theorem dX4_begins_17 : decode cX4_begins 17 = .ok (.if_icmp .le 5, 3) := by decide +kernel
theorem dX4_begins_20 : decode cX4_begins 20 = .ok (.iconst 0, 1) := by decide +kernel
theorem dX4_begins_21 : decode cX4_begins 21 = .ok (.ireturn, 1) := by decide +kernel
theorem dX4_begins_22 : decode cX4_begins 22 = .ok (.aload_n 0, 1) := by decide +kernel
theorem dX4_begins_23 : decode cX4_begins 23 = .ok (.iload_n 1, 1) := by decide +kernel
theorem dX4_begins_24 : decode cX4_begins 24 = .ok (.sipush 128, 3) := by decide +kernel
theorem dX4_begins_27 : decode cX4_begins 27 = .ok (.if_icmp .ge 7, 3) := by decide +kernel
theorem dX4_begins_30 : decode cX4_begins 30 = .ok (.iconst 0, 1) := by decide +kernel
theorem dX4_begins_31 : decode cX4_begins 31 = .ok (.goto 26, 3) := by decide +kernel
theorem dX4_begins_34 : decode cX4_begins 34 = .ok (.iload_n 1, 1) := by decide +kernel
theorem dX4_begins_35 : decode cX4_begins 35 = .ok (.sipush 224, 3) := by decide +kernel
theorem dX4_begins_38 : decode cX4_begins 38 = .ok (.if_icmp .ge 7, 3) := by decide +kernel
theorem dX4_begins_41 : decode cX4_begins 41 = .ok (.iconst 1, 1) := by decide +kernel
theorem dX4_begins_42 : decode cX4_begins 42 = .ok (.goto 15, 3) := by decide +kernel
theorem dX4_begins_45 : decode cX4_begins 45 = .ok (.iload_n 1, 1) := by decide +kernel
theorem dX4_begins_46 : decode cX4_begins 46 = .ok (.sipush 240, 3) := by decide +kernel
theorem dX4_begins_49 : decode cX4_begins 49 = .ok (.if_icmp .ge 7, 3) := by decide +kernel
theorem dX4_begins_52 : decode cX4_begins 52 = .ok (.iconst 2, 1) := by decide +kernel
theorem dX4_begins_53 : decode cX4_begins 53 = .ok (.goto 4, 3) := by decide +kernel
theorem dX4_begins_56 : decode cX4_begins 56 = .ok (.iconst 3, 1) := by decide +kernel
theorem dX4_begins_57 : decode cX4_begins 57 = .ok (.putfield 7, 3) := by decide +kernel
theorem dX4_begins_60 : decode cX4_begins 60 = .ok (.aload_n 0, 1) := by decide +kernel
theorem dX4_begins_61 : decode cX4_begins 61 = .ok (.iload_n 1, 1) := by decide +kernel
theorem dX4_begins_62 : decode cX4_begins 62 = .ok (.sipush 224, 3) := by decide +kernel
theorem dX4_begins_65 : decode cX4_begins 65 = .ok (.if_icmp .ne 9, 3) := by decide +kernel
theorem dX4_begins_68 : decode cX4_begins 68 = .ok (.sipush 160, 3) := by decide +kernel
theorem dX4_begins_71 : decode cX4_begins 71 = .ok (.goto 19, 3) := by decide +kernel
theorem dX4_begins_74 : decode cX4_begins 74 = .ok (.iload_n 1, 1) := by decide +kernel
theorem dX4_begins_75 : decode cX4_begins 75 = .ok (.sipush 240, 3) := by decide +kernel
theorem dX4_begins_78 : decode cX4_begins 78 = .ok (.if_icmp .ne 9, 3) := by decide +kernel
theorem dX4_begins_81 : decode cX4_begins 81 = .ok (.sipush 144, 3) := by decide +kernel
theorem dX4_begins_84 : decode cX4_begins 84 = .ok (.goto 6, 3) := by decide +kernel
theorem dX4_begins_87 : decode cX4_begins 87 = .ok (.sipush 128, 3) := by decide +kernel
theorem dX4_begins_90 : decode cX4_begins 90 = .ok (.putfield 17, 3) := by decide +kernel
theorem dX4_begins_93 : decode cX4_begins 93 = .ok (.aload_n 0, 1) := by decide +kernel
theorem dX4_begins_94 : decode cX4_begins 94 = .ok (.iload_n 1, 1) := by decide +kernel
theorem dX4_begins_95 : decode cX4_begins 95 = .ok (.sipush 237, 3) := by decide +kernel
theorem dX4_begins_98 : decode cX4_begins 98 = .ok (.if_icmp .ne 9, 3) := by decide +kernel
theorem dX4_begins_101 : decode cX4_begins 101 = .ok (.sipush 159, 3) := by decide +kernel
theorem dX4_begins_104 : decode cX4_begins 104 = .ok (.goto 19, 3) := by decide +kernel
theorem dX4_begins_107 : decode cX4_begins 107 = .ok (.iload_n 1, 1) := by decide +kernel
theorem dX4_begins_108 : decode cX4_begins 108 = .ok (.sipush 244, 3) := by decide +kernel
theorem dX4_begins_111 : decode cX4_begins 111 = .ok (.if_icmp .ne 9, 3) := by decide +kernel
theorem dX4_begins_114 : decode cX4_begins 114 = .ok (.sipush 143, 3) := by decide +kernel
theorem dX4_begins_117 : decode cX4_begins 117 = .ok (.goto 6, 3) := by decide +kernel
theorem dX4_begins_120 : decode cX4_begins 120 = .ok (.sipush 191, 3) := by decide +kernel
theorem dX4_begins_123 : decode cX4_begins 123 = .ok (.putfield 20, 3) := by decide +kernel
theorem dX4_begins_126 : decode cX4_begins 126 = .ok (.iconst 1, 1) := by decide +kernel
theorem dX4_begins_127 : decode cX4_begins 127 = .ok (.ireturn, 1) := by decide +kernel
theorem dX5_init_0 : decode cX5_init 0 = .ok (.aload_n 0, 1) := by decide +kernel
theorem dX5_init_1 : decode cX5_init 1 = .ok (.invokespecial 3, 3) := by decide +kernel
theorem dX5_init_4 : decode cX5_init 4 = .ok (.aload_n 0, 1) := by decide +kernel
theorem dX5_init_5 : decode cX5_init 5 = .ok (.sipush 1200, 3) := by decide +kernel
theorem dX5_init_8 : decode cX5_init 8 = .ok (.newarray .int, 2) := by decide +kernel
theorem dX5_init_10 : decode cX5_init 10 = .ok (.putfield 9, 3) := by decide +kernel
theorem dX5_init_13 : decode cX5_init 13 = .ok (.aload_n 0, 1) := by decide +kernel
theorem dX5_init_14 : decode cX5_init 14 = .ok (.iconst 4, 1) := by decide +kernel
theorem dX5_init_15 : decode cX5_init 15 = .ok (.newarray .int, 2) := by decide +kernel
theorem dX5_init_17 : decode cX5_init 17 = .ok (.putfield 15, 3) := by decide +kernel
theorem dX5_init_20 : decode cX5_init 20 = .ok (.aload_n 0, 1) := by decide +kernel
theorem dX5_init_21 : decode cX5_init 21 = .ok (.iconst 4, 1) := by decide +kernel
theorem dX5_init_22 : decode cX5_init 22 = .ok (.newarray .int, 2) := by decide +kernel
theorem dX5_init_24 : decode cX5_init 24 = .ok (.putfield 18, 3) := by decide +kernel
theorem dX5_init_27 : decode cX5_init 27 = .ok (.return_, 1) := by decide +kernel
theorem dX5_size_0 : decode cX5_size 0 = .ok (.aload_n 0, 1) := by decide +kernel
theorem dX5_size_1 : decode cX5_size 1 = .ok (.getfield 21, 3) := by decide +kernel
theorem dX5_size_4 : decode cX5_size 4 = .ok (.ireturn, 1) := by decide +kernel
theorem dX5_has_0 : decode cX5_has 0 = .ok (.iload_n 1, 1) := by decide +kernel
theorem dX5_has_1 : decode cX5_has 1 = .ok (.ifCond .lt 15, 3) := by decide +kernel
theorem dX5_has_4 : decode cX5_has 4 = .ok (.iload_n 1, 1) := by decide +kernel
theorem dX5_has_5 : decode cX5_has 5 = .ok (.aload_n 0, 1) := by decide +kernel
theorem dX5_has_6 : decode cX5_has 6 = .ok (.getfield 21, 3) := by decide +kernel
theorem dX5_has_9 : decode cX5_has 9 = .ok (.if_icmp .ge 7, 3) := by decide +kernel
theorem dX5_has_12 : decode cX5_has 12 = .ok (.iconst 1, 1) := by decide +kernel
theorem dX5_has_13 : decode cX5_has 13 = .ok (.goto 4, 3) := by decide +kernel
theorem dX5_has_16 : decode cX5_has 16 = .ok (.iconst 0, 1) := by decide +kernel
theorem dX5_has_17 : decode cX5_has 17 = .ok (.ireturn, 1) := by decide +kernel
theorem dX5_kindOf_0 : decode cX5_kindOf 0 = .ok (.aload_n 0, 1) := by decide +kernel
theorem dX5_kindOf_1 : decode cX5_kindOf 1 = .ok (.getfield 15, 3) := by decide +kernel
theorem dX5_kindOf_4 : decode cX5_kindOf 4 = .ok (.aload_n 0, 1) := by decide +kernel
theorem dX5_kindOf_5 : decode cX5_kindOf 5 = .ok (.iload_n 1, 1) := by decide +kernel
theorem dX5_kindOf_6 : decode cX5_kindOf 6 = .ok (.invokevirtual 25, 3) := by decide +kernel
theorem dX5_kindOf_9 : decode cX5_kindOf 9 = .ok (.iaload, 1) := by decide +kernel
theorem dX5_kindOf_10 : decode cX5_kindOf 10 = .ok (.ireturn, 1) := by decide +kernel
theorem dX5_lengthOf_0 : decode cX5_lengthOf 0 = .ok (.aload_n 0, 1) := by decide +kernel
theorem dX5_lengthOf_1 : decode cX5_lengthOf 1 = .ok (.getfield 18, 3) := by decide +kernel
theorem dX5_lengthOf_4 : decode cX5_lengthOf 4 = .ok (.aload_n 0, 1) := by decide +kernel
theorem dX5_lengthOf_5 : decode cX5_lengthOf 5 = .ok (.iload_n 1, 1) := by decide +kernel
theorem dX5_lengthOf_6 : decode cX5_lengthOf 6 = .ok (.invokevirtual 25, 3) := by decide +kernel
theorem dX5_lengthOf_9 : decode cX5_lengthOf 9 = .ok (.iaload, 1) := by decide +kernel
theorem dX5_lengthOf_10 : decode cX5_lengthOf 10 = .ok (.ireturn, 1) := by decide +kernel
theorem dX5_contentAt_0 : decode cX5_contentAt 0 = .ok (.iload_n 2, 1) := by decide +kernel
theorem dX5_contentAt_1 : decode cX5_contentAt 1 = .ok (.ifCond .lt 10, 3) := by decide +kernel
theorem dX5_contentAt_4 : decode cX5_contentAt 4 = .ok (.iload_n 2, 1) := by decide +kernel
theorem dX5_contentAt_5 : decode cX5_contentAt 5 = .ok (.sipush 300, 3) := by decide +kernel
theorem dX5_contentAt_8 : decode cX5_contentAt 8 = .ok (.if_icmp .lt 7, 3) := by decide +kernel
theorem dX5_contentAt_11 : decode cX5_contentAt 11 = .ok (.iconst 0, 1) := by decide +kernel
theorem dX5_contentAt_12 : decode cX5_contentAt 12 = .ok (.goto 19, 3) := by decide +kernel
theorem dX5_contentAt_15 : decode cX5_contentAt 15 = .ok (.aload_n 0, 1) := by decide +kernel
theorem dX5_contentAt_16 : decode cX5_contentAt 16 = .ok (.getfield 9, 3) := by decide +kernel
theorem dX5_contentAt_19 : decode cX5_contentAt 19 = .ok (.aload_n 0, 1) := by decide +kernel
theorem dX5_contentAt_20 : decode cX5_contentAt 20 = .ok (.iload_n 1, 1) := by decide +kernel
theorem dX5_contentAt_21 : decode cX5_contentAt 21 = .ok (.invokevirtual 25, 3) := by decide +kernel
theorem dX5_contentAt_24 : decode cX5_contentAt 24 = .ok (.sipush 300, 3) := by decide +kernel
theorem dX5_contentAt_27 : decode cX5_contentAt 27 = .ok (.imul, 1) := by decide +kernel
theorem dX5_contentAt_28 : decode cX5_contentAt 28 = .ok (.iload_n 2, 1) := by decide +kernel
theorem dX5_contentAt_29 : decode cX5_contentAt 29 = .ok (.iadd, 1) := by decide +kernel
theorem dX5_contentAt_30 : decode cX5_contentAt 30 = .ok (.iaload, 1) := by decide +kernel
theorem dX5_contentAt_31 : decode cX5_contentAt 31 = .ok (.ireturn, 1) := by decide +kernel
theorem dX5_put_0 : decode cX5_put 0 = .ok (.aload_n 0, 1) := by decide +kernel
theorem dX5_put_1 : decode cX5_put 1 = .ok (.getfield 21, 3) := by decide +kernel
theorem dX5_put_4 : decode cX5_put 4 = .ok (.iconst 4, 1) := by decide +kernel
theorem dX5_put_5 : decode cX5_put 5 = .ok (.if_icmp .ge 52, 3) := by decide +kernel
theorem dX5_put_8 : decode cX5_put 8 = .ok (.aload_n 0, 1) := by decide +kernel
theorem dX5_put_9 : decode cX5_put 9 = .ok (.aload_n 0, 1) := by decide +kernel
theorem dX5_put_10 : decode cX5_put 10 = .ok (.getfield 21, 3) := by decide +kernel
theorem dX5_put_13 : decode cX5_put 13 = .ok (.invokevirtual 25, 3) := by decide +kernel
theorem dX5_put_16 : decode cX5_put 16 = .ok (.istore_n 3, 1) := by decide +kernel
theorem dX5_put_17 : decode cX5_put 17 = .ok (.aload_n 0, 1) := by decide +kernel
theorem dX5_put_18 : decode cX5_put 18 = .ok (.getfield 15, 3) := by decide +kernel
theorem dX5_put_21 : decode cX5_put 21 = .ok (.iload_n 3, 1) := by decide +kernel
theorem dX5_put_22 : decode cX5_put 22 = .ok (.iload_n 1, 1) := by decide +kernel
theorem dX5_put_23 : decode cX5_put 23 = .ok (.iastore, 1) := by decide +kernel
theorem dX5_put_24 : decode cX5_put 24 = .ok (.aload_n 0, 1) := by decide +kernel
theorem dX5_put_25 : decode cX5_put 25 = .ok (.getfield 18, 3) := by decide +kernel
theorem dX5_put_28 : decode cX5_put 28 = .ok (.iload_n 3, 1) := by decide +kernel
theorem dX5_put_29 : decode cX5_put 29 = .ok (.aload_n 2, 1) := by decide +kernel
theorem dX5_put_30 : decode cX5_put 30 = .ok (.invokevirtual 29, 3) := by decide +kernel
theorem dX5_put_33 : decode cX5_put 33 = .ok (.iastore, 1) := by decide +kernel
theorem dX5_put_34 : decode cX5_put 34 = .ok (.aload_n 2, 1) := by decide +kernel
theorem dX5_put_35 : decode cX5_put 35 = .ok (.aload_n 0, 1) := by decide +kernel
theorem dX5_put_36 : decode cX5_put 36 = .ok (.getfield 9, 3) := by decide +kernel
theorem dX5_put_39 : decode cX5_put 39 = .ok (.iload_n 3, 1) := by decide +kernel
theorem dX5_put_40 : decode cX5_put 40 = .ok (.sipush 300, 3) := by decide +kernel
theorem dX5_put_43 : decode cX5_put 43 = .ok (.imul, 1) := by decide +kernel
theorem dX5_put_44 : decode cX5_put 44 = .ok (.invokevirtual 35, 3) := by decide +kernel
theorem dX5_put_47 : decode cX5_put 47 = .ok (.aload_n 0, 1) := by decide +kernel
theorem dX5_put_48 : decode cX5_put 48 = .ok (.dup, 1) := by decide +kernel
theorem dX5_put_49 : decode cX5_put 49 = .ok (.getfield 21, 3) := by decide +kernel
theorem dX5_put_52 : decode cX5_put 52 = .ok (.iconst 1, 1) := by decide +kernel
theorem dX5_put_53 : decode cX5_put 53 = .ok (.iadd, 1) := by decide +kernel
theorem dX5_put_54 : decode cX5_put 54 = .ok (.putfield 21, 3) := by decide +kernel
theorem dX5_put_57 : decode cX5_put 57 = .ok (.return_, 1) := by decide +kernel
theorem dX5_removeOldest_0 : decode cX5_removeOldest 0 = .ok (.aload_n 0, 1) := by decide +kernel
theorem dX5_removeOldest_1 : decode cX5_removeOldest 1 = .ok (.getfield 21, 3) := by decide +kernel
theorem dX5_removeOldest_4 : decode cX5_removeOldest 4 = .ok (.ifCond .le 22, 3) := by decide +kernel
theorem dX5_removeOldest_7 : decode cX5_removeOldest 7 = .ok (.aload_n 0, 1) := by decide +kernel
theorem dX5_removeOldest_8 : decode cX5_removeOldest 8 = .ok (.aload_n 0, 1) := by decide +kernel
theorem dX5_removeOldest_9 : decode cX5_removeOldest 9 = .ok (.iconst 1, 1) := by decide +kernel
theorem dX5_removeOldest_10 : decode cX5_removeOldest 10 = .ok (.invokevirtual 25, 3) := by decide +kernel
theorem dX5_removeOldest_13 : decode cX5_removeOldest 13 = .ok (.putfield 39, 3) := by decide +kernel
theorem dX5_removeOldest_16 : decode cX5_removeOldest 16 = .ok (.aload_n 0, 1) := by decide +kernel
theorem dX5_removeOldest_17 : decode cX5_removeOldest 17 = .ok (.dup, 1) := by decide +kernel
theorem dX5_removeOldest_18 : decode cX5_removeOldest 18 = .ok (.getfield 21, 3) := by decide +kernel
theorem dX5_removeOldest_21 : decode cX5_removeOldest 21 = .ok (.iconst 1, 1) := by decide +kernel
theorem dX5_removeOldest_22 : decode cX5_removeOldest 22 = .ok (.isub, 1) := by decide +kernel
theorem dX5_removeOldest_23 : decode cX5_removeOldest 23 = .ok (.putfield 21, 3) := by decide +kernel
theorem dX5_removeOldest_26 : decode cX5_removeOldest 26 = .ok (.return_, 1) := by decide +kernel
theorem dX5_placeOf_0 : decode cX5_placeOf 0 = .ok (.aload_n 0, 1) := by decide +kernel
theorem dX5_placeOf_1 : decode cX5_placeOf 1 = .ok (.getfield 39, 3) := by decide +kernel
theorem dX5_placeOf_4 : decode cX5_placeOf 4 = .ok (.iload_n 1, 1) := by decide +kernel
theorem dX5_placeOf_5 : decode cX5_placeOf 5 = .ok (.iadd, 1) := by decide +kernel
theorem dX5_placeOf_6 : decode cX5_placeOf 6 = .ok (.iconst 4, 1) := by decide +kernel
theorem dX5_placeOf_7 : decode cX5_placeOf 7 = .ok (.invokestatic 42, 3) := by decide +kernel
theorem dX5_placeOf_10 : decode cX5_placeOf 10 = .ok (.ireturn, 1) := by decide +kernel
theorem dX6_init_0 : decode cX6_init 0 = .ok (.aload_n 0, 1) := by decide +kernel
theorem dX6_init_1 : decode cX6_init 1 = .ok (.invokespecial 3, 3) := by decide +kernel
theorem dX6_init_4 : decode cX6_init 4 = .ok (.aload_n 0, 1) := by decide +kernel
theorem dX6_init_5 : decode cX6_init 5 = .ok (.new 9, 3) := by decide +kernel
theorem dX6_init_8 : decode cX6_init 8 = .ok (.dup, 1) := by decide +kernel
theorem dX6_init_9 : decode cX6_init 9 = .ok (.invokespecial 11, 3) := by decide +kernel
theorem dX6_init_12 : decode cX6_init 12 = .ok (.putfield 12, 3) := by decide +kernel
theorem dX6_init_15 : decode cX6_init 15 = .ok (.aload_n 0, 1) := by decide +kernel
theorem dX6_init_16 : decode cX6_init 16 = .ok (.new 16, 3) := by decide +kernel
theorem dX6_init_19 : decode cX6_init 19 = .ok (.dup, 1) := by decide +kernel
theorem dX6_init_20 : decode cX6_init 20 = .ok (.invokespecial 18, 3) := by decide +kernel
theorem dX6_init_23 : decode cX6_init 23 = .ok (.putfield 19, 3) := by decide +kernel
theorem dX6_init_26 : decode cX6_init 26 = .ok (.aload_n 0, 1) := by decide +kernel
theorem dX6_init_27 : decode cX6_init 27 = .ok (.new 23, 3) := by decide +kernel
theorem dX6_init_30 : decode cX6_init 30 = .ok (.dup, 1) := by decide +kernel
theorem dX6_init_31 : decode cX6_init 31 = .ok (.invokespecial 25, 3) := by decide +kernel
theorem dX6_init_34 : decode cX6_init 34 = .ok (.putfield 26, 3) := by decide +kernel
theorem dX6_init_37 : decode cX6_init 37 = .ok (.aload_n 0, 1) := by decide +kernel
theorem dX6_init_38 : decode cX6_init 38 = .ok (.new 30, 3) := by decide +kernel
theorem dX6_init_41 : decode cX6_init 41 = .ok (.dup, 1) := by decide +kernel
theorem dX6_init_42 : decode cX6_init 42 = .ok (.sipush 574, 3) := by decide +kernel
theorem dX6_init_45 : decode cX6_init 45 = .ok (.invokespecial 32, 3) := by decide +kernel
theorem dX6_init_48 : decode cX6_init 48 = .ok (.putfield 35, 3) := by decide +kernel
theorem dX6_init_51 : decode cX6_init 51 = .ok (.aload_n 0, 1) := by decide +kernel
theorem dX6_init_52 : decode cX6_init 52 = .ok (.new 30, 3) := by decide +kernel
theorem dX6_init_55 : decode cX6_init 55 = .ok (.dup, 1) := by decide +kernel
theorem dX6_init_56 : decode cX6_init 56 = .ok (.bipush 100, 2) := by decide +kernel
theorem dX6_init_58 : decode cX6_init 58 = .ok (.invokespecial 32, 3) := by decide +kernel
theorem dX6_init_61 : decode cX6_init 61 = .ok (.putfield 39, 3) := by decide +kernel
theorem dX6_init_64 : decode cX6_init 64 = .ok (.aload_n 0, 1) := by decide +kernel
theorem dX6_init_65 : decode cX6_init 65 = .ok (.new 42, 3) := by decide +kernel
theorem dX6_init_68 : decode cX6_init 68 = .ok (.dup, 1) := by decide +kernel
theorem dX6_init_69 : decode cX6_init 69 = .ok (.invokespecial 44, 3) := by decide +kernel
theorem dX6_init_72 : decode cX6_init 72 = .ok (.putfield 45, 3) := by decide +kernel
theorem dX6_init_75 : decode cX6_init 75 = .ok (.aload_n 0, 1) := by decide +kernel
theorem dX6_init_76 : decode cX6_init 76 = .ok (.iconst 0, 1) := by decide +kernel
theorem dX6_init_77 : decode cX6_init 77 = .ok (.putfield 49, 3) := by decide +kernel
theorem dX6_init_80 : decode cX6_init 80 = .ok (.return_, 1) := by decide +kernel
theorem dX6_feed_0 : decode cX6_feed 0 = .ok (.iload_n 3, 1) := by decide +kernel
theorem dX6_feed_1 : decode cX6_feed 1 = .ok (.invokestatic 53, 3) := by decide +kernel
theorem dX6_feed_4 : decode cX6_feed 4 = .ok (.ifCond .ne 11, 3) := by decide +kernel
theorem dX6_feed_7 : decode cX6_feed 7 = .ok (.new 57, 3) := by decide +kernel
theorem dX6_feed_10 : decode cX6_feed 10 = .ok (.dup, 1) := by decide +kernel
theorem dX6_feed_11 : decode cX6_feed 11 = .ok (.invokespecial 59, 3) := by decide +kernel
theorem dX6_feed_14 : decode cX6_feed 14 = .ok (.athrow, 1) := by decide +kernel
theorem dX6_feed_15 : decode cX6_feed 15 = .ok (.aload_n 0, 1) := by decide +kernel
theorem dX6_feed_16 : decode cX6_feed 16 = .ok (.getfield 49, 3) := by decide +kernel
theorem dX6_feed_19 : decode cX6_feed 19 = .ok (.iconst 3, 1) := by decide +kernel
theorem dX6_feed_20 : decode cX6_feed 20 = .ok (.if_icmp .ne 11, 3) := by decide +kernel
theorem dX6_feed_23 : decode cX6_feed 23 = .ok (.new 60, 3) := by decide +kernel
theorem dX6_feed_26 : decode cX6_feed 26 = .ok (.dup, 1) := by decide +kernel
theorem dX6_feed_27 : decode cX6_feed 27 = .ok (.invokespecial 62, 3) := by decide +kernel
theorem dX6_feed_30 : decode cX6_feed 30 = .ok (.athrow, 1) := by decide +kernel
theorem dX6_feed_31 : decode cX6_feed 31 = .ok (.aload_n 0, 1) := by decide +kernel
theorem dX6_feed_32 : decode cX6_feed 32 = .ok (.getfield 63, 3) := by decide +kernel
theorem dX6_feed_35 : decode cX6_feed 35 = .ok (.istore 4, 2) := by decide +kernel
theorem dX6_feed_37 : decode cX6_feed 37 = .ok (.iconst 0, 1) := by decide +kernel
theorem dX6_feed_38 : decode cX6_feed 38 = .ok (.istore 5, 2) := by decide +kernel
theorem dX6_feed_40 : decode cX6_feed 40 = .ok (.iload 5, 2) := by decide +kernel
theorem dX6_feed_42 : decode cX6_feed 42 = .ok (.iload_n 3, 1) := by decide +kernel
theorem dX6_feed_43 : decode cX6_feed 43 = .ok (.if_icmp .ge 47, 3) := by decide +kernel
theorem dX6_feed_46 : decode cX6_feed 46 = .ok (.lload_n 1, 1) := by decide +kernel
theorem dX6_feed_47 : decode cX6_feed 47 = .ok (.iload 5, 2) := by decide +kernel
theorem dX6_feed_49 : decode cX6_feed 49 = .ok (.invokestatic 66, 3) := by decide +kernel
theorem dX6_feed_52 : decode cX6_feed 52 = .ok (.istore 6, 2) := by decide +kernel
theorem dX6_feed_54 : decode cX6_feed 54 = .ok (.aload_n 0, 1) := by decide +kernel
theorem dX6_feed_55 : decode cX6_feed 55 = .ok (.getfield 49, 3) := by decide +kernel
theorem dX6_feed_58 : decode cX6_feed 58 = .ok (.ifCond .ne 12, 3) := by decide +kernel
theorem dX6_feed_61 : decode cX6_feed 61 = .ok (.aload_n 0, 1) := by decide +kernel
theorem dX6_feed_62 : decode cX6_feed 62 = .ok (.iload 6, 2) := by decide +kernel
theorem dX6_feed_64 : decode cX6_feed 64 = .ok (.invokevirtual 70, 3) := by decide +kernel
theorem dX6_feed_67 : decode cX6_feed 67 = .ok (.goto 17, 3) := by decide +kernel
theorem dX6_feed_70 : decode cX6_feed 70 = .ok (.aload_n 0, 1) := by decide +kernel
theorem dX6_feed_71 : decode cX6_feed 71 = .ok (.getfield 49, 3) := by decide +kernel
theorem dX6_feed_74 : decode cX6_feed 74 = .ok (.iconst 3, 1) := by decide +kernel
theorem dX6_feed_75 : decode cX6_feed 75 = .ok (.if_icmp .eq 9, 3) := by decide +kernel
theorem dX6_feed_78 : decode cX6_feed 78 = .ok (.aload_n 0, 1) := by decide +kernel
theorem dX6_feed_79 : decode cX6_feed 79 = .ok (.iload 6, 2) := by decide +kernel
theorem dX6_feed_81 : decode cX6_feed 81 = .ok (.invokevirtual 73, 3) := by decide +kernel
theorem dX6_feed_84 : decode cX6_feed 84 = .ok (.iinc 5 1, 3) := by decide +kernel
theorem dX6_feed_87 : decode cX6_feed 87 = .ok (.goto (-47), 3) := by decide +kernel
theorem dX6_feed_90 : decode cX6_feed 90 = .ok (.aload_n 0, 1) := by decide +kernel
theorem dX6_feed_91 : decode cX6_feed 91 = .ok (.getfield 63, 3) := by decide +kernel
theorem dX6_feed_94 : decode cX6_feed 94 = .ok (.iload 4, 2) := by decide +kernel
theorem dX6_feed_96 : decode cX6_feed 96 = .ok (.isub, 1) := by decide +kernel
theorem dX6_feed_97 : decode cX6_feed 97 = .ok (.ireturn, 1) := by decide +kernel
theorem dX6_state_0 : decode cX6_state 0 = .ok (.aload_n 0, 1) := by decide +kernel
theorem dX6_state_1 : decode cX6_state 1 = .ok (.getfield 49, 3) := by decide +kernel
theorem dX6_state_4 : decode cX6_state 4 = .ok (.ireturn, 1) := by decide +kernel
theorem dX6_endCode_0 : decode cX6_endCode 0 = .ok (.aload_n 0, 1) := by decide +kernel
theorem dX6_endCode_1 : decode cX6_endCode 1 = .ok (.getfield 76, 3) := by decide +kernel
theorem dX6_endCode_4 : decode cX6_endCode 4 = .ok (.ireturn, 1) := by decide +kernel
theorem dX6_outLength_0 : decode cX6_outLength 0 = .ok (.aload_n 0, 1) := by decide +kernel
theorem dX6_outLength_1 : decode cX6_outLength 1 = .ok (.getfield 35, 3) := by decide +kernel
theorem dX6_outLength_4 : decode cX6_outLength 4 = .ok (.invokevirtual 79, 3) := by decide +kernel
theorem dX6_outLength_7 : decode cX6_outLength 7 = .ok (.ireturn, 1) := by decide +kernel
theorem dX6_outAt_0 : decode cX6_outAt 0 = .ok (.aload_n 0, 1) := by decide +kernel
theorem dX6_outAt_1 : decode cX6_outAt 1 = .ok (.getfield 35, 3) := by decide +kernel
theorem dX6_outAt_4 : decode cX6_outAt 4 = .ok (.iload_n 1, 1) := by decide +kernel
theorem dX6_outAt_5 : decode cX6_outAt 5 = .ok (.invokevirtual 83, 3) := by decide +kernel
theorem dX6_outAt_8 : decode cX6_outAt 8 = .ok (.ifCond .ne 11, 3) := by decide +kernel
theorem dX6_outAt_11 : decode cX6_outAt 11 = .ok (.new 86, 3) := by decide +kernel
theorem dX6_outAt_14 : decode cX6_outAt 14 = .ok (.dup, 1) := by decide +kernel
theorem dX6_outAt_15 : decode cX6_outAt 15 = .ok (.invokespecial 88, 3) := by decide +kernel
theorem dX6_outAt_18 : decode cX6_outAt 18 = .ok (.athrow, 1) := by decide +kernel
theorem dX6_outAt_19 : decode cX6_outAt 19 = .ok (.aload_n 0, 1) := by decide +kernel
theorem dX6_outAt_20 : decode cX6_outAt 20 = .ok (.getfield 35, 3) := by decide +kernel
theorem dX6_outAt_23 : decode cX6_outAt 23 = .ok (.iload_n 1, 1) := by decide +kernel
theorem dX6_outAt_24 : decode cX6_outAt 24 = .ok (.invokevirtual 89, 3) := by decide +kernel
theorem dX6_outAt_27 : decode cX6_outAt 27 = .ok (.ireturn, 1) := by decide +kernel
theorem dX6_drop_0 : decode cX6_drop 0 = .ok (.aload_n 0, 1) := by decide +kernel
theorem dX6_drop_1 : decode cX6_drop 1 = .ok (.getfield 35, 3) := by decide +kernel
theorem dX6_drop_4 : decode cX6_drop 4 = .ok (.iload_n 1, 1) := by decide +kernel
theorem dX6_drop_5 : decode cX6_drop 5 = .ok (.invokevirtual 93, 3) := by decide +kernel
theorem dX6_drop_8 : decode cX6_drop 8 = .ok (.ireturn, 1) := by decide +kernel
theorem dX6_messages_0 : decode cX6_messages 0 = .ok (.aload_n 0, 1) := by decide +kernel
theorem dX6_messages_1 : decode cX6_messages 1 = .ok (.getfield 26, 3) := by decide +kernel
theorem dX6_messages_4 : decode cX6_messages 4 = .ok (.invokevirtual 96, 3) := by decide +kernel
theorem dX6_messages_7 : decode cX6_messages 7 = .ok (.ireturn, 1) := by decide +kernel
theorem dX6_delivered_0 : decode cX6_delivered 0 = .ok (.aload_n 0, 1) := by decide +kernel
theorem dX6_delivered_1 : decode cX6_delivered 1 = .ok (.getfield 63, 3) := by decide +kernel
theorem dX6_delivered_4 : decode cX6_delivered 4 = .ok (.ireturn, 1) := by decide +kernel
theorem dX6_kind_0 : decode cX6_kind 0 = .ok (.aload_n 0, 1) := by decide +kernel
theorem dX6_kind_1 : decode cX6_kind 1 = .ok (.getfield 26, 3) := by decide +kernel
theorem dX6_kind_4 : decode cX6_kind 4 = .ok (.iload_n 1, 1) := by decide +kernel
theorem dX6_kind_5 : decode cX6_kind 5 = .ok (.invokevirtual 97, 3) := by decide +kernel
theorem dX6_kind_8 : decode cX6_kind 8 = .ok (.ifCond .ne 11, 3) := by decide +kernel
theorem dX6_kind_11 : decode cX6_kind 11 = .ok (.new 98, 3) := by decide +kernel
theorem dX6_kind_14 : decode cX6_kind 14 = .ok (.dup, 1) := by decide +kernel
theorem dX6_kind_15 : decode cX6_kind 15 = .ok (.invokespecial 100, 3) := by decide +kernel
theorem dX6_kind_18 : decode cX6_kind 18 = .ok (.athrow, 1) := by decide +kernel
theorem dX6_kind_19 : decode cX6_kind 19 = .ok (.aload_n 0, 1) := by decide +kernel
theorem dX6_kind_20 : decode cX6_kind 20 = .ok (.getfield 26, 3) := by decide +kernel
theorem dX6_kind_23 : decode cX6_kind 23 = .ok (.iload_n 1, 1) := by decide +kernel
theorem dX6_kind_24 : decode cX6_kind 24 = .ok (.invokevirtual 101, 3) := by decide +kernel
theorem dX6_kind_27 : decode cX6_kind 27 = .ok (.ireturn, 1) := by decide +kernel
theorem dX6_length_0 : decode cX6_length 0 = .ok (.aload_n 0, 1) := by decide +kernel
theorem dX6_length_1 : decode cX6_length 1 = .ok (.getfield 26, 3) := by decide +kernel
theorem dX6_length_4 : decode cX6_length 4 = .ok (.iload_n 1, 1) := by decide +kernel
theorem dX6_length_5 : decode cX6_length 5 = .ok (.invokevirtual 97, 3) := by decide +kernel
theorem dX6_length_8 : decode cX6_length 8 = .ok (.ifCond .ne 11, 3) := by decide +kernel
theorem dX6_length_11 : decode cX6_length 11 = .ok (.new 98, 3) := by decide +kernel
theorem dX6_length_14 : decode cX6_length 14 = .ok (.dup, 1) := by decide +kernel
theorem dX6_length_15 : decode cX6_length 15 = .ok (.invokespecial 100, 3) := by decide +kernel
theorem dX6_length_18 : decode cX6_length 18 = .ok (.athrow, 1) := by decide +kernel
theorem dX6_length_19 : decode cX6_length 19 = .ok (.aload_n 0, 1) := by decide +kernel
theorem dX6_length_20 : decode cX6_length 20 = .ok (.getfield 26, 3) := by decide +kernel
theorem dX6_length_23 : decode cX6_length 23 = .ok (.iload_n 1, 1) := by decide +kernel
theorem dX6_length_24 : decode cX6_length 24 = .ok (.invokevirtual 104, 3) := by decide +kernel
theorem dX6_length_27 : decode cX6_length 27 = .ok (.ireturn, 1) := by decide +kernel
theorem dX6_byteAt_0 : decode cX6_byteAt 0 = .ok (.aload_n 0, 1) := by decide +kernel
theorem dX6_byteAt_1 : decode cX6_byteAt 1 = .ok (.getfield 26, 3) := by decide +kernel
theorem dX6_byteAt_4 : decode cX6_byteAt 4 = .ok (.iload_n 1, 1) := by decide +kernel
theorem dX6_byteAt_5 : decode cX6_byteAt 5 = .ok (.invokevirtual 97, 3) := by decide +kernel
theorem dX6_byteAt_8 : decode cX6_byteAt 8 = .ok (.ifCond .ne 11, 3) := by decide +kernel
theorem dX6_byteAt_11 : decode cX6_byteAt 11 = .ok (.new 98, 3) := by decide +kernel
theorem dX6_byteAt_14 : decode cX6_byteAt 14 = .ok (.dup, 1) := by decide +kernel
theorem dX6_byteAt_15 : decode cX6_byteAt 15 = .ok (.invokespecial 100, 3) := by decide +kernel
theorem dX6_byteAt_18 : decode cX6_byteAt 18 = .ok (.athrow, 1) := by decide +kernel
theorem dX6_byteAt_19 : decode cX6_byteAt 19 = .ok (.iload_n 2, 1) := by decide +kernel
theorem dX6_byteAt_20 : decode cX6_byteAt 20 = .ok (.ifCond .lt 15, 3) := by decide +kernel
theorem dX6_byteAt_23 : decode cX6_byteAt 23 = .ok (.iload_n 2, 1) := by decide +kernel
theorem dX6_byteAt_24 : decode cX6_byteAt 24 = .ok (.aload_n 0, 1) := by decide +kernel
theorem dX6_byteAt_25 : decode cX6_byteAt 25 = .ok (.getfield 26, 3) := by decide +kernel
theorem dX6_byteAt_28 : decode cX6_byteAt 28 = .ok (.iload_n 1, 1) := by decide +kernel
theorem dX6_byteAt_29 : decode cX6_byteAt 29 = .ok (.invokevirtual 104, 3) := by decide +kernel
theorem dX6_byteAt_32 : decode cX6_byteAt 32 = .ok (.if_icmp .lt 11, 3) := by decide +kernel
theorem dX6_byteAt_35 : decode cX6_byteAt 35 = .ok (.new 86, 3) := by decide +kernel
theorem dX6_byteAt_38 : decode cX6_byteAt 38 = .ok (.dup, 1) := by decide +kernel
theorem dX6_byteAt_39 : decode cX6_byteAt 39 = .ok (.invokespecial 88, 3) := by decide +kernel
theorem dX6_byteAt_42 : decode cX6_byteAt 42 = .ok (.athrow, 1) := by decide +kernel
theorem dX6_byteAt_43 : decode cX6_byteAt 43 = .ok (.aload_n 0, 1) := by decide +kernel
theorem dX6_byteAt_44 : decode cX6_byteAt 44 = .ok (.getfield 26, 3) := by decide +kernel
theorem dX6_byteAt_47 : decode cX6_byteAt 47 = .ok (.iload_n 1, 1) := by decide +kernel
theorem dX6_byteAt_48 : decode cX6_byteAt 48 = .ok (.iload_n 2, 1) := by decide +kernel
theorem dX6_byteAt_49 : decode cX6_byteAt 49 = .ok (.invokevirtual 107, 3) := by decide +kernel
theorem dX6_byteAt_52 : decode cX6_byteAt 52 = .ok (.ireturn, 1) := by decide +kernel
theorem dX6_take_0 : decode cX6_take 0 = .ok (.aload_n 0, 1) := by decide +kernel
theorem dX6_take_1 : decode cX6_take 1 = .ok (.getfield 26, 3) := by decide +kernel
theorem dX6_take_4 : decode cX6_take 4 = .ok (.iconst 0, 1) := by decide +kernel
theorem dX6_take_5 : decode cX6_take 5 = .ok (.invokevirtual 97, 3) := by decide +kernel
theorem dX6_take_8 : decode cX6_take 8 = .ok (.ifCond .ne 11, 3) := by decide +kernel
theorem dX6_take_11 : decode cX6_take 11 = .ok (.new 98, 3) := by decide +kernel
theorem dX6_take_14 : decode cX6_take 14 = .ok (.dup, 1) := by decide +kernel
theorem dX6_take_15 : decode cX6_take 15 = .ok (.invokespecial 100, 3) := by decide +kernel
theorem dX6_take_18 : decode cX6_take 18 = .ok (.athrow, 1) := by decide +kernel
theorem dX6_take_19 : decode cX6_take 19 = .ok (.aload_n 0, 1) := by decide +kernel
theorem dX6_take_20 : decode cX6_take 20 = .ok (.getfield 26, 3) := by decide +kernel
theorem dX6_take_23 : decode cX6_take 23 = .ok (.iconst 0, 1) := by decide +kernel
theorem dX6_take_24 : decode cX6_take 24 = .ok (.invokevirtual 104, 3) := by decide +kernel
theorem dX6_take_27 : decode cX6_take 27 = .ok (.istore_n 1, 1) := by decide +kernel
theorem dX6_take_28 : decode cX6_take 28 = .ok (.aload_n 0, 1) := by decide +kernel
theorem dX6_take_29 : decode cX6_take 29 = .ok (.getfield 26, 3) := by decide +kernel
theorem dX6_take_32 : decode cX6_take 32 = .ok (.invokevirtual 111, 3) := by decide +kernel
theorem dX6_take_35 : decode cX6_take 35 = .ok (.iload_n 1, 1) := by decide +kernel
theorem dX6_take_36 : decode cX6_take 36 = .ok (.ireturn, 1) := by decide +kernel
theorem dX6_pongs_0 : decode cX6_pongs 0 = .ok (.aload_n 0, 1) := by decide +kernel
theorem dX6_pongs_1 : decode cX6_pongs 1 = .ok (.getfield 114, 3) := by decide +kernel
theorem dX6_pongs_4 : decode cX6_pongs 4 = .ok (.ireturn, 1) := by decide +kernel
theorem dX6_write_0 : decode cX6_write 0 = .ok (.iload_n 3, 1) := by decide +kernel
theorem dX6_write_1 : decode cX6_write 1 = .ok (.invokestatic 53, 3) := by decide +kernel
theorem dX6_write_4 : decode cX6_write 4 = .ok (.ifCond .eq 17, 3) := by decide +kernel
theorem dX6_write_7 : decode cX6_write 7 = .ok (.aload_n 0, 1) := by decide +kernel
theorem dX6_write_8 : decode cX6_write 8 = .ok (.getfield 39, 3) := by decide +kernel
theorem dX6_write_11 : decode cX6_write 11 = .ok (.invokevirtual 79, 3) := by decide +kernel
theorem dX6_write_14 : decode cX6_write 14 = .ok (.iload_n 3, 1) := by decide +kernel
theorem dX6_write_15 : decode cX6_write 15 = .ok (.iadd, 1) := by decide +kernel
theorem dX6_write_16 : decode cX6_write 16 = .ok (.bipush 100, 2) := by decide +kernel
theorem dX6_write_18 : decode cX6_write 18 = .ok (.if_icmp .le 5, 3) := by decide +kernel
theorem dX6_write_21 : decode cX6_write 21 = .ok (.iconst 0, 1) := by decide +kernel
theorem dX6_write_22 : decode cX6_write 22 = .ok (.ireturn, 1) := by decide +kernel
theorem dX6_write_23 : decode cX6_write 23 = .ok (.iconst 0, 1) := by decide +kernel
theorem dX6_write_24 : decode cX6_write 24 = .ok (.istore 4, 2) := by decide +kernel
theorem dX6_write_26 : decode cX6_write 26 = .ok (.iload 4, 2) := by decide +kernel
theorem dX6_write_28 : decode cX6_write 28 = .ok (.iload_n 3, 1) := by decide +kernel
theorem dX6_write_29 : decode cX6_write 29 = .ok (.if_icmp .ge 22, 3) := by decide +kernel
theorem dX6_write_32 : decode cX6_write 32 = .ok (.aload_n 0, 1) := by decide +kernel
theorem dX6_write_33 : decode cX6_write 33 = .ok (.getfield 39, 3) := by decide +kernel
theorem dX6_write_36 : decode cX6_write 36 = .ok (.lload_n 1, 1) := by decide +kernel
theorem dX6_write_37 : decode cX6_write 37 = .ok (.iload 4, 2) := by decide +kernel
theorem dX6_write_39 : decode cX6_write 39 = .ok (.invokestatic 66, 3) := by decide +kernel
theorem dX6_write_42 : decode cX6_write 42 = .ok (.invokevirtual 117, 3) := by decide +kernel
theorem dX6_write_45 : decode cX6_write 45 = .ok (.iinc 4 1, 3) := by decide +kernel
theorem dX6_write_48 : decode cX6_write 48 = .ok (.goto (-22), 3) := by decide +kernel
theorem dX6_write_51 : decode cX6_write 51 = .ok (.iconst 1, 1) := by decide +kernel
theorem dX6_write_52 : decode cX6_write 52 = .ok (.ireturn, 1) := by decide +kernel
theorem dX6_clear_0 : decode cX6_clear 0 = .ok (.aload_n 0, 1) := by decide +kernel
theorem dX6_clear_1 : decode cX6_clear 1 = .ok (.getfield 39, 3) := by decide +kernel
theorem dX6_clear_4 : decode cX6_clear 4 = .ok (.invokevirtual 120, 3) := by decide +kernel
theorem dX6_clear_7 : decode cX6_clear 7 = .ok (.return_, 1) := by decide +kernel
theorem dX6_send_0 : decode cX6_send 0 = .ok (.iload_n 1, 1) := by decide +kernel
theorem dX6_send_1 : decode cX6_send 1 = .ok (.iconst 1, 1) := by decide +kernel
theorem dX6_send_2 : decode cX6_send 2 = .ok (.if_icmp .eq 8, 3) := by decide +kernel
theorem dX6_send_5 : decode cX6_send 5 = .ok (.iload_n 1, 1) := by decide +kernel
theorem dX6_send_6 : decode cX6_send 6 = .ok (.iconst 2, 1) := by decide +kernel
theorem dX6_send_7 : decode cX6_send 7 = .ok (.if_icmp .ne 13, 3) := by decide +kernel
theorem dX6_send_10 : decode cX6_send 10 = .ok (.iload_n 2, 1) := by decide +kernel
theorem dX6_send_11 : decode cX6_send 11 = .ok (.ifCond .lt 9, 3) := by decide +kernel
theorem dX6_send_14 : decode cX6_send 14 = .ok (.iload_n 2, 1) := by decide +kernel
theorem dX6_send_15 : decode cX6_send 15 = .ok (.bipush 100, 2) := by decide +kernel
theorem dX6_send_17 : decode cX6_send 17 = .ok (.if_icmp .le 11, 3) := by decide +kernel
theorem dX6_send_20 : decode cX6_send 20 = .ok (.new 57, 3) := by decide +kernel
theorem dX6_send_23 : decode cX6_send 23 = .ok (.dup, 1) := by decide +kernel
theorem dX6_send_24 : decode cX6_send 24 = .ok (.invokespecial 59, 3) := by decide +kernel
theorem dX6_send_27 : decode cX6_send 27 = .ok (.athrow, 1) := by decide +kernel
theorem dX6_send_28 : decode cX6_send 28 = .ok (.iload_n 1, 1) := by decide +kernel
theorem dX6_send_29 : decode cX6_send 29 = .ok (.iconst 1, 1) := by decide +kernel
theorem dX6_send_30 : decode cX6_send 30 = .ok (.if_icmp .ne 26, 3) := by decide +kernel
theorem dX6_send_33 : decode cX6_send 33 = .ok (.aload_n 0, 1) := by decide +kernel
theorem dX6_send_34 : decode cX6_send 34 = .ok (.getfield 45, 3) := by decide +kernel
theorem dX6_send_37 : decode cX6_send 37 = .ok (.aload_n 0, 1) := by decide +kernel
theorem dX6_send_38 : decode cX6_send 38 = .ok (.getfield 39, 3) := by decide +kernel
theorem dX6_send_41 : decode cX6_send 41 = .ok (.iconst 0, 1) := by decide +kernel
theorem dX6_send_42 : decode cX6_send 42 = .ok (.invokevirtual 123, 3) := by decide +kernel
theorem dX6_send_45 : decode cX6_send 45 = .ok (.ifCond .ne 11, 3) := by decide +kernel
theorem dX6_send_48 : decode cX6_send 48 = .ok (.new 57, 3) := by decide +kernel
theorem dX6_send_51 : decode cX6_send 51 = .ok (.dup, 1) := by decide +kernel
theorem dX6_send_52 : decode cX6_send 52 = .ok (.invokespecial 59, 3) := by decide +kernel
theorem dX6_send_55 : decode cX6_send 55 = .ok (.athrow, 1) := by decide +kernel
theorem dX6_send_56 : decode cX6_send 56 = .ok (.iload_n 2, 1) := by decide +kernel
theorem dX6_send_57 : decode cX6_send 57 = .ok (.ifCond .ne 8, 3) := by decide +kernel
theorem dX6_send_60 : decode cX6_send 60 = .ok (.bipush 100, 2) := by decide +kernel
theorem dX6_send_62 : decode cX6_send 62 = .ok (.goto 4, 3) := by decide +kernel
theorem dX6_send_65 : decode cX6_send 65 = .ok (.iload_n 2, 1) := by decide +kernel
theorem dX6_send_66 : decode cX6_send 66 = .ok (.istore_n 3, 1) := by decide +kernel
theorem dX6_send_67 : decode cX6_send 67 = .ok (.aload_n 0, 1) := by decide +kernel
theorem dX6_send_68 : decode cX6_send 68 = .ok (.getfield 39, 3) := by decide +kernel
theorem dX6_send_71 : decode cX6_send 71 = .ok (.invokevirtual 79, 3) := by decide +kernel
theorem dX6_send_74 : decode cX6_send 74 = .ok (.ifCond .ne 7, 3) := by decide +kernel
theorem dX6_send_77 : decode cX6_send 77 = .ok (.iconst 1, 1) := by decide +kernel
theorem dX6_send_78 : decode cX6_send 78 = .ok (.goto 16, 3) := by decide +kernel
theorem dX6_send_81 : decode cX6_send 81 = .ok (.aload_n 0, 1) := by decide +kernel
theorem dX6_send_82 : decode cX6_send 82 = .ok (.getfield 39, 3) := by decide +kernel
theorem dX6_send_85 : decode cX6_send 85 = .ok (.invokevirtual 79, 3) := by decide +kernel
theorem dX6_send_88 : decode cX6_send 88 = .ok (.iload_n 3, 1) := by decide +kernel
theorem dX6_send_89 : decode cX6_send 89 = .ok (.iadd, 1) := by decide +kernel
theorem dX6_send_90 : decode cX6_send 90 = .ok (.iconst 1, 1) := by decide +kernel
theorem dX6_send_91 : decode cX6_send 91 = .ok (.isub, 1) := by decide +kernel
theorem dX6_send_92 : decode cX6_send 92 = .ok (.iload_n 3, 1) := by decide +kernel
theorem dX6_send_93 : decode cX6_send 93 = .ok (.idiv, 1) := by decide +kernel
theorem dX6_send_94 : decode cX6_send 94 = .ok (.istore 4, 2) := by decide +kernel
theorem dX6_send_96 : decode cX6_send 96 = .ok (.aload_n 0, 1) := by decide +kernel
theorem dX6_send_97 : decode cX6_send 97 = .ok (.iload 4, 2) := by decide +kernel
theorem dX6_send_99 : decode cX6_send 99 = .ok (.iconst 2, 1) := by decide +kernel
theorem dX6_send_100 : decode cX6_send 100 = .ok (.imul, 1) := by decide +kernel
theorem dX6_send_101 : decode cX6_send 101 = .ok (.aload_n 0, 1) := by decide +kernel
theorem dX6_send_102 : decode cX6_send 102 = .ok (.getfield 39, 3) := by decide +kernel
theorem dX6_send_105 : decode cX6_send 105 = .ok (.invokevirtual 79, 3) := by decide +kernel
theorem dX6_send_108 : decode cX6_send 108 = .ok (.iadd, 1) := by decide +kernel
theorem dX6_send_109 : decode cX6_send 109 = .ok (.invokevirtual 127, 3) := by decide +kernel
theorem dX6_send_112 : decode cX6_send 112 = .ok (.ifCond .ne 11, 3) := by decide +kernel
theorem dX6_send_115 : decode cX6_send 115 = .ok (.new 60, 3) := by decide +kernel
theorem dX6_send_118 : decode cX6_send 118 = .ok (.dup, 1) := by decide +kernel
theorem dX6_send_119 : decode cX6_send 119 = .ok (.invokespecial 62, 3) := by decide +kernel
theorem dX6_send_122 : decode cX6_send 122 = .ok (.athrow, 1) := by decide +kernel
theorem dX6_send_123 : decode cX6_send 123 = .ok (.aload_n 0, 1) := by decide +kernel
theorem dX6_send_124 : decode cX6_send 124 = .ok (.iload_n 1, 1) := by decide +kernel
theorem dX6_send_125 : decode cX6_send 125 = .ok (.iload_n 3, 1) := by decide +kernel
theorem dX6_send_126 : decode cX6_send 126 = .ok (.iload 4, 2) := by decide +kernel
theorem dX6_send_128 : decode cX6_send 128 = .ok (.invokevirtual 130, 3) := by decide +kernel
theorem dX6_send_131 : decode cX6_send 131 = .ok (.iload 4, 2) := by decide +kernel
theorem dX6_send_133 : decode cX6_send 133 = .ok (.ireturn, 1) := by decide +kernel
theorem dX6_ping_0 : decode cX6_ping 0 = .ok (.aload_n 0, 1) := by decide +kernel
theorem dX6_ping_1 : decode cX6_ping 1 = .ok (.iconst 2, 1) := by decide +kernel
theorem dX6_ping_2 : decode cX6_ping 2 = .ok (.aload_n 0, 1) := by decide +kernel
theorem dX6_ping_3 : decode cX6_ping 3 = .ok (.getfield 39, 3) := by decide +kernel
theorem dX6_ping_6 : decode cX6_ping 6 = .ok (.invokevirtual 79, 3) := by decide +kernel
theorem dX6_ping_9 : decode cX6_ping 9 = .ok (.iadd, 1) := by decide +kernel
theorem dX6_ping_10 : decode cX6_ping 10 = .ok (.invokevirtual 127, 3) := by decide +kernel
theorem dX6_ping_13 : decode cX6_ping 13 = .ok (.ifCond .ne 11, 3) := by decide +kernel
theorem dX6_ping_16 : decode cX6_ping 16 = .ok (.new 60, 3) := by decide +kernel
theorem dX6_ping_19 : decode cX6_ping 19 = .ok (.dup, 1) := by decide +kernel
theorem dX6_ping_20 : decode cX6_ping 20 = .ok (.invokespecial 62, 3) := by decide +kernel
theorem dX6_ping_23 : decode cX6_ping 23 = .ok (.athrow, 1) := by decide +kernel
theorem dX6_ping_24 : decode cX6_ping 24 = .ok (.aload_n 0, 1) := by decide +kernel
theorem dX6_ping_25 : decode cX6_ping 25 = .ok (.sipush 137, 3) := by decide +kernel
theorem dX6_ping_28 : decode cX6_ping 28 = .ok (.aload_n 0, 1) := by decide +kernel
theorem dX6_ping_29 : decode cX6_ping 29 = .ok (.getfield 39, 3) := by decide +kernel
theorem dX6_ping_32 : decode cX6_ping 32 = .ok (.iconst 0, 1) := by decide +kernel
theorem dX6_ping_33 : decode cX6_ping 33 = .ok (.aload_n 0, 1) := by decide +kernel
theorem dX6_ping_34 : decode cX6_ping 34 = .ok (.getfield 39, 3) := by decide +kernel
theorem dX6_ping_37 : decode cX6_ping 37 = .ok (.invokevirtual 79, 3) := by decide +kernel
theorem dX6_ping_40 : decode cX6_ping 40 = .ok (.invokevirtual 134, 3) := by decide +kernel
theorem dX6_ping_43 : decode cX6_ping 43 = .ok (.return_, 1) := by decide +kernel
theorem dX6_close_0 : decode cX6_close 0 = .ok (.iload_n 1, 1) := by decide +kernel
theorem dX6_close_1 : decode cX6_close 1 = .ok (.invokestatic 138, 3) := by decide +kernel
theorem dX6_close_4 : decode cX6_close 4 = .ok (.ifCond .eq 18, 3) := by decide +kernel
theorem dX6_close_7 : decode cX6_close 7 = .ok (.aload_n 0, 1) := by decide +kernel
theorem dX6_close_8 : decode cX6_close 8 = .ok (.getfield 45, 3) := by decide +kernel
theorem dX6_close_11 : decode cX6_close 11 = .ok (.aload_n 0, 1) := by decide +kernel
theorem dX6_close_12 : decode cX6_close 12 = .ok (.getfield 39, 3) := by decide +kernel
theorem dX6_close_15 : decode cX6_close 15 = .ok (.iconst 0, 1) := by decide +kernel
theorem dX6_close_16 : decode cX6_close 16 = .ok (.invokevirtual 123, 3) := by decide +kernel
theorem dX6_close_19 : decode cX6_close 19 = .ok (.ifCond .ne 11, 3) := by decide +kernel
theorem dX6_close_22 : decode cX6_close 22 = .ok (.new 57, 3) := by decide +kernel
theorem dX6_close_25 : decode cX6_close 25 = .ok (.dup, 1) := by decide +kernel
theorem dX6_close_26 : decode cX6_close 26 = .ok (.invokespecial 59, 3) := by decide +kernel
theorem dX6_close_29 : decode cX6_close 29 = .ok (.athrow, 1) := by decide +kernel
theorem dX6_close_30 : decode cX6_close 30 = .ok (.aload_n 0, 1) := by decide +kernel
theorem dX6_close_31 : decode cX6_close 31 = .ok (.getfield 49, 3) := by decide +kernel
theorem dX6_close_34 : decode cX6_close 34 = .ok (.iconst 1, 1) := by decide +kernel
theorem dX6_close_35 : decode cX6_close 35 = .ok (.if_icmp .eq 11, 3) := by decide +kernel
theorem dX6_close_38 : decode cX6_close 38 = .ok (.new 60, 3) := by decide +kernel
theorem dX6_close_41 : decode cX6_close 41 = .ok (.dup, 1) := by decide +kernel
theorem dX6_close_42 : decode cX6_close 42 = .ok (.invokespecial 62, 3) := by decide +kernel
theorem dX6_close_45 : decode cX6_close 45 = .ok (.athrow, 1) := by decide +kernel
theorem dX6_close_46 : decode cX6_close 46 = .ok (.aload_n 0, 1) := by decide +kernel
theorem dX6_close_47 : decode cX6_close 47 = .ok (.sipush 136, 3) := by decide +kernel
theorem dX6_close_50 : decode cX6_close 50 = .ok (.iconst 2, 1) := by decide +kernel
theorem dX6_close_51 : decode cX6_close 51 = .ok (.aload_n 0, 1) := by decide +kernel
theorem dX6_close_52 : decode cX6_close 52 = .ok (.getfield 39, 3) := by decide +kernel
theorem dX6_close_55 : decode cX6_close 55 = .ok (.invokevirtual 79, 3) := by decide +kernel
theorem dX6_close_58 : decode cX6_close 58 = .ok (.iadd, 1) := by decide +kernel
theorem dX6_close_59 : decode cX6_close 59 = .ok (.invokevirtual 141, 3) := by decide +kernel
theorem dX6_close_62 : decode cX6_close 62 = .ok (.aload_n 0, 1) := by decide +kernel
theorem dX6_close_63 : decode cX6_close 63 = .ok (.iload_n 1, 1) := by decide +kernel
theorem dX6_close_64 : decode cX6_close 64 = .ok (.invokevirtual 145, 3) := by decide +kernel
theorem dX6_close_67 : decode cX6_close 67 = .ok (.aload_n 0, 1) := by decide +kernel
theorem dX6_close_68 : decode cX6_close 68 = .ok (.getfield 35, 3) := by decide +kernel
theorem dX6_close_71 : decode cX6_close 71 = .ok (.aload_n 0, 1) := by decide +kernel
theorem dX6_close_72 : decode cX6_close 72 = .ok (.getfield 39, 3) := by decide +kernel
theorem dX6_close_75 : decode cX6_close 75 = .ok (.iconst 0, 1) := by decide +kernel
theorem dX6_close_76 : decode cX6_close 76 = .ok (.aload_n 0, 1) := by decide +kernel
theorem dX6_close_77 : decode cX6_close 77 = .ok (.getfield 39, 3) := by decide +kernel
theorem dX6_close_80 : decode cX6_close 80 = .ok (.invokevirtual 79, 3) := by decide +kernel
theorem dX6_close_83 : decode cX6_close 83 = .ok (.invokevirtual 148, 3) := by decide +kernel
theorem dX6_close_86 : decode cX6_close 86 = .ok (.aload_n 0, 1) := by decide +kernel
theorem dX6_close_87 : decode cX6_close 87 = .ok (.iconst 2, 1) := by decide +kernel
theorem dX6_close_88 : decode cX6_close 88 = .ok (.putfield 49, 3) := by decide +kernel
theorem dX6_close_91 : decode cX6_close 91 = .ok (.return_, 1) := by decide +kernel
theorem dX6_isByteCount_0 : decode cX6_isByteCount 0 = .ok (.iload_n 0, 1) := by decide +kernel
theorem dX6_isByteCount_1 : decode cX6_isByteCount 1 = .ok (.iconst 1, 1) := by decide +kernel
theorem dX6_isByteCount_2 : decode cX6_isByteCount 2 = .ok (.if_icmp .lt 13, 3) := by decide +kernel
theorem dX6_isByteCount_5 : decode cX6_isByteCount 5 = .ok (.iload_n 0, 1) := by decide +kernel
theorem dX6_isByteCount_6 : decode cX6_isByteCount 6 = .ok (.bipush 8, 2) := by decide +kernel
theorem dX6_isByteCount_8 : decode cX6_isByteCount 8 = .ok (.if_icmp .gt 7, 3) := by decide +kernel
theorem dX6_isByteCount_11 : decode cX6_isByteCount 11 = .ok (.iconst 1, 1) := by decide +kernel
theorem dX6_isByteCount_12 : decode cX6_isByteCount 12 = .ok (.goto 4, 3) := by decide +kernel
theorem dX6_isByteCount_15 : decode cX6_isByteCount 15 = .ok (.iconst 0, 1) := by decide +kernel
theorem dX6_isByteCount_16 : decode cX6_isByteCount 16 = .ok (.ireturn, 1) := by decide +kernel
theorem dX6_byteOf_0 : decode cX6_byteOf 0 = .ok (.lload_n 0, 1) := by decide +kernel
theorem dX6_byteOf_1 : decode cX6_byteOf 1 = .ok (.bipush 8, 2) := by decide +kernel
theorem dX6_byteOf_3 : decode cX6_byteOf 3 = .ok (.iload_n 2, 1) := by decide +kernel
theorem dX6_byteOf_4 : decode cX6_byteOf 4 = .ok (.imul, 1) := by decide +kernel
theorem dX6_byteOf_5 : decode cX6_byteOf 5 = .ok (.lushr, 1) := by decide +kernel
theorem dX6_byteOf_6 : decode cX6_byteOf 6 = .ok (.l2i, 1) := by decide +kernel
theorem dX6_byteOf_7 : decode cX6_byteOf 7 = .ok (.sipush 255, 3) := by decide +kernel
theorem dX6_byteOf_10 : decode cX6_byteOf 10 = .ok (.iand, 1) := by decide +kernel
theorem dX6_byteOf_11 : decode cX6_byteOf 11 = .ok (.ireturn, 1) := by decide +kernel
theorem dX6_mayStandInClose_0 : decode cX6_mayStandInClose 0 = .ok (.iload_n 0, 1) := by decide +kernel
theorem dX6_mayStandInClose_1 : decode cX6_mayStandInClose 1 = .ok (.sipush 1000, 3) := by decide +kernel
theorem dX6_mayStandInClose_4 : decode cX6_mayStandInClose 4 = .ok (.if_icmp .lt 10, 3) := by decide +kernel
theorem dX6_mayStandInClose_7 : decode cX6_mayStandInClose 7 = .ok (.iload_n 0, 1) := by decide +kernel
theorem dX6_mayStandInClose_8 : decode cX6_mayStandInClose 8 = .ok (.sipush 1003, 3) := by decide +kernel
theorem dX6_mayStandInClose_11 : decode cX6_mayStandInClose 11 = .ok (.if_icmp .le 31, 3) := by decide +kernel
theorem dX6_mayStandInClose_14 : decode cX6_mayStandInClose 14 = .ok (.iload_n 0, 1) := by decide +kernel
theorem dX6_mayStandInClose_15 : decode cX6_mayStandInClose 15 = .ok (.sipush 1007, 3) := by decide +kernel
theorem dX6_mayStandInClose_18 : decode cX6_mayStandInClose 18 = .ok (.if_icmp .lt 10, 3) := by decide +kernel
theorem dX6_mayStandInClose_21 : decode cX6_mayStandInClose 21 = .ok (.iload_n 0, 1) := by decide +kernel
theorem dX6_mayStandInClose_22 : decode cX6_mayStandInClose 22 = .ok (.sipush 1011, 3) := by decide +kernel
theorem dX6_mayStandInClose_25 : decode cX6_mayStandInClose 25 = .ok (.if_icmp .le 17, 3) := by decide +kernel
theorem dX6_mayStandInClose_28 : decode cX6_mayStandInClose 28 = .ok (.iload_n 0, 1) := by decide +kernel
theorem dX6_mayStandInClose_29 : decode cX6_mayStandInClose 29 = .ok (.sipush 3000, 3) := by decide +kernel
theorem dX6_mayStandInClose_32 : decode cX6_mayStandInClose 32 = .ok (.if_icmp .lt 14, 3) := by decide +kernel
theorem dX6_mayStandInClose_35 : decode cX6_mayStandInClose 35 = .ok (.iload_n 0, 1) := by decide +kernel
theorem dX6_mayStandInClose_36 : decode cX6_mayStandInClose 36 = .ok (.sipush 4999, 3) := by decide +kernel
theorem dX6_mayStandInClose_39 : decode cX6_mayStandInClose 39 = .ok (.if_icmp .gt 7, 3) := by decide +kernel
theorem dX6_mayStandInClose_42 : decode cX6_mayStandInClose 42 = .ok (.iconst 1, 1) := by decide +kernel
theorem dX6_mayStandInClose_43 : decode cX6_mayStandInClose 43 = .ok (.goto 4, 3) := by decide +kernel
theorem dX6_mayStandInClose_46 : decode cX6_mayStandInClose 46 = .ok (.iconst 0, 1) := by decide +kernel
theorem dX6_mayStandInClose_47 : decode cX6_mayStandInClose 47 = .ok (.ireturn, 1) := by decide +kernel
theorem dX6_hearRequest_0 : decode cX6_hearRequest 0 = .ok (.aload_n 0, 1) := by decide +kernel
theorem dX6_hearRequest_1 : decode cX6_hearRequest 1 = .ok (.getfield 12, 3) := by decide +kernel
theorem dX6_hearRequest_4 : decode cX6_hearRequest 4 = .ok (.iload_n 1, 1) := by decide +kernel
theorem dX6_hearRequest_5 : decode cX6_hearRequest 5 = .ok (.invokevirtual 152, 3) := by decide +kernel
theorem dX6_hearRequest_8 : decode cX6_hearRequest 8 = .ok (.aload_n 0, 1) := by decide +kernel
theorem dX6_hearRequest_9 : decode cX6_hearRequest 9 = .ok (.getfield 12, 3) := by decide +kernel
theorem dX6_hearRequest_12 : decode cX6_hearRequest 12 = .ok (.invokevirtual 155, 3) := by decide +kernel
theorem dX6_hearRequest_15 : decode cX6_hearRequest 15 = .ok (.ifCond .eq 17, 3) := by decide +kernel
theorem dX6_hearRequest_18 : decode cX6_hearRequest 18 = .ok (.aload_n 0, 1) := by decide +kernel
theorem dX6_hearRequest_19 : decode cX6_hearRequest 19 = .ok (.aload_n 0, 1) := by decide +kernel
theorem dX6_hearRequest_20 : decode cX6_hearRequest 20 = .ok (.getfield 12, 3) := by decide +kernel
theorem dX6_hearRequest_23 : decode cX6_hearRequest 23 = .ok (.invokevirtual 159, 3) := by decide +kernel
theorem dX6_hearRequest_26 : decode cX6_hearRequest 26 = .ok (.invokevirtual 162, 3) := by decide +kernel
theorem dX6_hearRequest_29 : decode cX6_hearRequest 29 = .ok (.goto 18, 3) := by decide +kernel
theorem dX6_hearRequest_32 : decode cX6_hearRequest 32 = .ok (.aload_n 0, 1) := by decide +kernel
theorem dX6_hearRequest_33 : decode cX6_hearRequest 33 = .ok (.getfield 12, 3) := by decide +kernel
theorem dX6_hearRequest_36 : decode cX6_hearRequest 36 = .ok (.invokevirtual 165, 3) := by decide +kernel
theorem dX6_hearRequest_39 : decode cX6_hearRequest 39 = .ok (.ifCond .eq 8, 3) := by decide +kernel
theorem dX6_hearRequest_42 : decode cX6_hearRequest 42 = .ok (.aload_n 0, 1) := by decide +kernel
theorem dX6_hearRequest_43 : decode cX6_hearRequest 43 = .ok (.iconst 0, 1) := by decide +kernel
theorem dX6_hearRequest_44 : decode cX6_hearRequest 44 = .ok (.invokevirtual 162, 3) := by decide +kernel
theorem dX6_hearRequest_47 : decode cX6_hearRequest 47 = .ok (.return_, 1) := by decide +kernel
theorem dX6_answerRequest_0 : decode cX6_answerRequest 0 = .ok (.iload_n 1, 1) := by decide +kernel
theorem dX6_answerRequest_1 : decode cX6_answerRequest 1 = .ok (.iconst 2, 1) := by decide +kernel
theorem dX6_answerRequest_2 : decode cX6_answerRequest 2 = .ok (.if_icmp .ne 49, 3) := by decide +kernel
theorem dX6_answerRequest_5 : decode cX6_answerRequest 5 = .ok (.aload_n 0, 1) := by decide +kernel
theorem dX6_answerRequest_6 : decode cX6_answerRequest 6 = .ok (.getfield 35, 3) := by decide +kernel
theorem dX6_answerRequest_9 : decode cX6_answerRequest 9 = .ok (.ldc 168, 2) := by decide +kernel
theorem dX6_answerRequest_11 : decode cX6_answerRequest 11 = .ok (.invokevirtual 170, 3) := by decide +kernel
theorem dX6_answerRequest_14 : decode cX6_answerRequest 14 = .ok (.new 174, 3) := by decide +kernel
theorem dX6_answerRequest_17 : decode cX6_answerRequest 17 = .ok (.dup, 1) := by decide +kernel
theorem dX6_answerRequest_18 : decode cX6_answerRequest 18 = .ok (.invokespecial 176, 3) := by decide +kernel
theorem dX6_answerRequest_21 : decode cX6_answerRequest 21 = .ok (.astore_n 2, 1) := by decide +kernel
theorem dX6_answerRequest_22 : decode cX6_answerRequest 22 = .ok (.aload_n 2, 1) := by decide +kernel
theorem dX6_answerRequest_23 : decode cX6_answerRequest 23 = .ok (.aload_n 0, 1) := by decide +kernel
theorem dX6_answerRequest_24 : decode cX6_answerRequest 24 = .ok (.getfield 35, 3) := by decide +kernel
theorem dX6_answerRequest_27 : decode cX6_answerRequest 27 = .ok (.aload_n 0, 1) := by decide +kernel
theorem dX6_answerRequest_28 : decode cX6_answerRequest 28 = .ok (.getfield 12, 3) := by decide +kernel
theorem dX6_answerRequest_31 : decode cX6_answerRequest 31 = .ok (.invokevirtual 177, 3) := by decide +kernel
theorem dX6_answerRequest_34 : decode cX6_answerRequest 34 = .ok (.aload_n 0, 1) := by decide +kernel
theorem dX6_answerRequest_35 : decode cX6_answerRequest 35 = .ok (.getfield 35, 3) := by decide +kernel
theorem dX6_answerRequest_38 : decode cX6_answerRequest 38 = .ok (.ldc 181, 2) := by decide +kernel
theorem dX6_answerRequest_40 : decode cX6_answerRequest 40 = .ok (.invokevirtual 170, 3) := by decide +kernel
theorem dX6_answerRequest_43 : decode cX6_answerRequest 43 = .ok (.aload_n 0, 1) := by decide +kernel
theorem dX6_answerRequest_44 : decode cX6_answerRequest 44 = .ok (.iconst 1, 1) := by decide +kernel
theorem dX6_answerRequest_45 : decode cX6_answerRequest 45 = .ok (.putfield 49, 3) := by decide +kernel
theorem dX6_answerRequest_48 : decode cX6_answerRequest 48 = .ok (.goto 27, 3) := by decide +kernel
theorem dX6_answerRequest_51 : decode cX6_answerRequest 51 = .ok (.aload_n 0, 1) := by decide +kernel
theorem dX6_answerRequest_52 : decode cX6_answerRequest 52 = .ok (.getfield 35, 3) := by decide +kernel
theorem dX6_answerRequest_55 : decode cX6_answerRequest 55 = .ok (.iload_n 1, 1) := by decide +kernel
theorem dX6_answerRequest_56 : decode cX6_answerRequest 56 = .ok (.iconst 1, 1) := by decide +kernel
theorem dX6_answerRequest_57 : decode cX6_answerRequest 57 = .ok (.if_icmp .ne 8, 3) := by decide +kernel
theorem dX6_answerRequest_60 : decode cX6_answerRequest 60 = .ok (.ldc 183, 2) := by decide +kernel
theorem dX6_answerRequest_62 : decode cX6_answerRequest 62 = .ok (.goto 5, 3) := by decide +kernel
theorem dX6_answerRequest_65 : decode cX6_answerRequest 65 = .ok (.ldc 185, 2) := by decide +kernel
theorem dX6_answerRequest_67 : decode cX6_answerRequest 67 = .ok (.invokevirtual 170, 3) := by decide +kernel
theorem dX6_answerRequest_70 : decode cX6_answerRequest 70 = .ok (.aload_n 0, 1) := by decide +kernel
theorem dX6_answerRequest_71 : decode cX6_answerRequest 71 = .ok (.iconst 3, 1) := by decide +kernel
theorem dX6_answerRequest_72 : decode cX6_answerRequest 72 = .ok (.putfield 49, 3) := by decide +kernel
theorem dX6_answerRequest_75 : decode cX6_answerRequest 75 = .ok (.return_, 1) := by decide +kernel
theorem dX6_hearFrame_0 : decode cX6_hearFrame 0 = .ok (.aload_n 0, 1) := by decide +kernel
theorem dX6_hearFrame_1 : decode cX6_hearFrame 1 = .ok (.getfield 19, 3) := by decide +kernel
theorem dX6_hearFrame_4 : decode cX6_hearFrame 4 = .ok (.iload_n 1, 1) := by decide +kernel
theorem dX6_hearFrame_5 : decode cX6_hearFrame 5 = .ok (.invokevirtual 187, 3) := by decide +kernel
theorem dX6_hearFrame_8 : decode cX6_hearFrame 8 = .ok (.istore_n 2, 1) := by decide +kernel
theorem dX6_hearFrame_9 : decode cX6_hearFrame 9 = .ok (.iload_n 2, 1) := by decide +kernel
theorem dX6_hearFrame_10 : decode cX6_hearFrame 10 = .ok (.iconst 1, 1) := by decide +kernel
theorem dX6_hearFrame_11 : decode cX6_hearFrame 11 = .ok (.if_icmp .ne 10, 3) := by decide +kernel
theorem dX6_hearFrame_14 : decode cX6_hearFrame 14 = .ok (.aload_n 0, 1) := by decide +kernel
theorem dX6_hearFrame_15 : decode cX6_hearFrame 15 = .ok (.invokevirtual 190, 3) := by decide +kernel
theorem dX6_hearFrame_18 : decode cX6_hearFrame 18 = .ok (.goto 12, 3) := by decide +kernel
theorem dX6_hearFrame_21 : decode cX6_hearFrame 21 = .ok (.iload_n 2, 1) := by decide +kernel
theorem dX6_hearFrame_22 : decode cX6_hearFrame 22 = .ok (.ifCond .eq 8, 3) := by decide +kernel
theorem dX6_hearFrame_25 : decode cX6_hearFrame 25 = .ok (.aload_n 0, 1) := by decide +kernel
theorem dX6_hearFrame_26 : decode cX6_hearFrame 26 = .ok (.iload_n 2, 1) := by decide +kernel
theorem dX6_hearFrame_27 : decode cX6_hearFrame 27 = .ok (.invokevirtual 193, 3) := by decide +kernel
theorem dX6_hearFrame_30 : decode cX6_hearFrame 30 = .ok (.return_, 1) := by decide +kernel
theorem dX6_violate_0 : decode cX6_violate 0 = .ok (.aload_n 0, 1) := by decide +kernel
theorem dX6_violate_1 : decode cX6_violate 1 = .ok (.getfield 49, 3) := by decide +kernel
theorem dX6_violate_4 : decode cX6_violate 4 = .ok (.iconst 1, 1) := by decide +kernel
theorem dX6_violate_5 : decode cX6_violate 5 = .ok (.if_icmp .ne 16, 3) := by decide +kernel
theorem dX6_violate_8 : decode cX6_violate 8 = .ok (.aload_n 0, 1) := by decide +kernel
theorem dX6_violate_9 : decode cX6_violate 9 = .ok (.sipush 136, 3) := by decide +kernel
theorem dX6_violate_12 : decode cX6_violate 12 = .ok (.iconst 2, 1) := by decide +kernel
theorem dX6_violate_13 : decode cX6_violate 13 = .ok (.invokevirtual 141, 3) := by decide +kernel
theorem dX6_violate_16 : decode cX6_violate 16 = .ok (.aload_n 0, 1) := by decide +kernel
theorem dX6_violate_17 : decode cX6_violate 17 = .ok (.iload_n 1, 1) := by decide +kernel
theorem dX6_violate_18 : decode cX6_violate 18 = .ok (.invokevirtual 145, 3) := by decide +kernel
theorem dX6_violate_21 : decode cX6_violate 21 = .ok (.aload_n 0, 1) := by decide +kernel
theorem dX6_violate_22 : decode cX6_violate 22 = .ok (.iload_n 1, 1) := by decide +kernel
theorem dX6_violate_23 : decode cX6_violate 23 = .ok (.invokevirtual 196, 3) := by decide +kernel
theorem dX6_violate_26 : decode cX6_violate 26 = .ok (.return_, 1) := by decide +kernel
theorem dX6_endWith_0 : decode cX6_endWith 0 = .ok (.aload_n 0, 1) := by decide +kernel
theorem dX6_endWith_1 : decode cX6_endWith 1 = .ok (.iload_n 1, 1) := by decide +kernel
theorem dX6_endWith_2 : decode cX6_endWith 2 = .ok (.putfield 76, 3) := by decide +kernel
theorem dX6_endWith_5 : decode cX6_endWith 5 = .ok (.aload_n 0, 1) := by decide +kernel
theorem dX6_endWith_6 : decode cX6_endWith 6 = .ok (.iconst 3, 1) := by decide +kernel
theorem dX6_endWith_7 : decode cX6_endWith 7 = .ok (.putfield 49, 3) := by decide +kernel
theorem dX6_endWith_10 : decode cX6_endWith 10 = .ok (.return_, 1) := by decide +kernel
theorem dX6_finishFrame_0 : decode cX6_finishFrame 0 = .ok (.aload_n 0, 1) := by decide +kernel
theorem dX6_finishFrame_1 : decode cX6_finishFrame 1 = .ok (.getfield 19, 3) := by decide +kernel
theorem dX6_finishFrame_4 : decode cX6_finishFrame 4 = .ok (.invokevirtual 199, 3) := by decide +kernel
theorem dX6_finishFrame_7 : decode cX6_finishFrame 7 = .ok (.tableswitch 66 8 10 #[25, 39, 53], 25) := by decide +kernel
theorem dX6_finishFrame_32 : decode cX6_finishFrame 32 = .ok (.aload_n 0, 1) := by decide +kernel
theorem dX6_finishFrame_33 : decode cX6_finishFrame 33 = .ok (.aload_n 0, 1) := by decide +kernel
theorem dX6_finishFrame_34 : decode cX6_finishFrame 34 = .ok (.getfield 19, 3) := by decide +kernel
theorem dX6_finishFrame_37 : decode cX6_finishFrame 37 = .ok (.invokevirtual 202, 3) := by decide +kernel
theorem dX6_finishFrame_40 : decode cX6_finishFrame 40 = .ok (.invokevirtual 206, 3) := by decide +kernel
theorem dX6_finishFrame_43 : decode cX6_finishFrame 43 = .ok (.goto 71, 3) := by decide +kernel
theorem dX6_finishFrame_46 : decode cX6_finishFrame 46 = .ok (.aload_n 0, 1) := by decide +kernel
theorem dX6_finishFrame_47 : decode cX6_finishFrame 47 = .ok (.aload_n 0, 1) := by decide +kernel
theorem dX6_finishFrame_48 : decode cX6_finishFrame 48 = .ok (.getfield 19, 3) := by decide +kernel
theorem dX6_finishFrame_51 : decode cX6_finishFrame 51 = .ok (.invokevirtual 202, 3) := by decide +kernel
theorem dX6_finishFrame_54 : decode cX6_finishFrame 54 = .ok (.invokevirtual 210, 3) := by decide +kernel
theorem dX6_finishFrame_57 : decode cX6_finishFrame 57 = .ok (.goto 57, 3) := by decide +kernel
theorem dX6_finishFrame_60 : decode cX6_finishFrame 60 = .ok (.aload_n 0, 1) := by decide +kernel
theorem dX6_finishFrame_61 : decode cX6_finishFrame 61 = .ok (.dup, 1) := by decide +kernel
theorem dX6_finishFrame_62 : decode cX6_finishFrame 62 = .ok (.getfield 114, 3) := by decide +kernel
theorem dX6_finishFrame_65 : decode cX6_finishFrame 65 = .ok (.iconst 1, 1) := by decide +kernel
theorem dX6_finishFrame_66 : decode cX6_finishFrame 66 = .ok (.iadd, 1) := by decide +kernel
theorem dX6_finishFrame_67 : decode cX6_finishFrame 67 = .ok (.putfield 114, 3) := by decide +kernel
theorem dX6_finishFrame_70 : decode cX6_finishFrame 70 = .ok (.goto 44, 3) := by decide +kernel
theorem dX6_finishFrame_73 : decode cX6_finishFrame 73 = .ok (.aload_n 0, 1) := by decide +kernel
theorem dX6_finishFrame_74 : decode cX6_finishFrame 74 = .ok (.getfield 19, 3) := by decide +kernel
theorem dX6_finishFrame_77 : decode cX6_finishFrame 77 = .ok (.invokevirtual 213, 3) := by decide +kernel
theorem dX6_finishFrame_80 : decode cX6_finishFrame 80 = .ok (.ifCond .eq 34, 3) := by decide +kernel
theorem dX6_finishFrame_83 : decode cX6_finishFrame 83 = .ok (.aload_n 0, 1) := by decide +kernel
theorem dX6_finishFrame_84 : decode cX6_finishFrame 84 = .ok (.dup, 1) := by decide +kernel
theorem dX6_finishFrame_85 : decode cX6_finishFrame 85 = .ok (.getfield 63, 3) := by decide +kernel
theorem dX6_finishFrame_88 : decode cX6_finishFrame 88 = .ok (.iconst 1, 1) := by decide +kernel
theorem dX6_finishFrame_89 : decode cX6_finishFrame 89 = .ok (.iadd, 1) := by decide +kernel
theorem dX6_finishFrame_90 : decode cX6_finishFrame 90 = .ok (.putfield 63, 3) := by decide +kernel
theorem dX6_finishFrame_93 : decode cX6_finishFrame 93 = .ok (.aload_n 0, 1) := by decide +kernel
theorem dX6_finishFrame_94 : decode cX6_finishFrame 94 = .ok (.getfield 26, 3) := by decide +kernel
theorem dX6_finishFrame_97 : decode cX6_finishFrame 97 = .ok (.aload_n 0, 1) := by decide +kernel
theorem dX6_finishFrame_98 : decode cX6_finishFrame 98 = .ok (.getfield 19, 3) := by decide +kernel
theorem dX6_finishFrame_101 : decode cX6_finishFrame 101 = .ok (.invokevirtual 216, 3) := by decide +kernel
theorem dX6_finishFrame_104 : decode cX6_finishFrame 104 = .ok (.aload_n 0, 1) := by decide +kernel
theorem dX6_finishFrame_105 : decode cX6_finishFrame 105 = .ok (.getfield 19, 3) := by decide +kernel
theorem dX6_finishFrame_108 : decode cX6_finishFrame 108 = .ok (.invokevirtual 219, 3) := by decide +kernel
theorem dX6_finishFrame_111 : decode cX6_finishFrame 111 = .ok (.invokevirtual 222, 3) := by decide +kernel
theorem dX6_finishFrame_114 : decode cX6_finishFrame 114 = .ok (.return_, 1) := by decide +kernel
theorem dX6_hearClose_0 : decode cX6_hearClose 0 = .ok (.aload_n 1, 1) := by decide +kernel
theorem dX6_hearClose_1 : decode cX6_hearClose 1 = .ok (.invokevirtual 79, 3) := by decide +kernel
theorem dX6_hearClose_4 : decode cX6_hearClose 4 = .ok (.iconst 2, 1) := by decide +kernel
theorem dX6_hearClose_5 : decode cX6_hearClose 5 = .ok (.if_icmp .lt 7, 3) := by decide +kernel
theorem dX6_hearClose_8 : decode cX6_hearClose 8 = .ok (.iconst 1, 1) := by decide +kernel
theorem dX6_hearClose_9 : decode cX6_hearClose 9 = .ok (.goto 4, 3) := by decide +kernel
theorem dX6_hearClose_12 : decode cX6_hearClose 12 = .ok (.iconst 0, 1) := by decide +kernel
theorem dX6_hearClose_13 : decode cX6_hearClose 13 = .ok (.istore_n 2, 1) := by decide +kernel
theorem dX6_hearClose_14 : decode cX6_hearClose 14 = .ok (.aload_n 0, 1) := by decide +kernel
theorem dX6_hearClose_15 : decode cX6_hearClose 15 = .ok (.getfield 49, 3) := by decide +kernel
theorem dX6_hearClose_18 : decode cX6_hearClose 18 = .ok (.iconst 1, 1) := by decide +kernel
theorem dX6_hearClose_19 : decode cX6_hearClose 19 = .ok (.if_icmp .ne 21, 3) := by decide +kernel
theorem dX6_hearClose_22 : decode cX6_hearClose 22 = .ok (.aload_n 0, 1) := by decide +kernel
theorem dX6_hearClose_23 : decode cX6_hearClose 23 = .ok (.sipush 136, 3) := by decide +kernel
theorem dX6_hearClose_26 : decode cX6_hearClose 26 = .ok (.aload_n 1, 1) := by decide +kernel
theorem dX6_hearClose_27 : decode cX6_hearClose 27 = .ok (.iconst 0, 1) := by decide +kernel
theorem dX6_hearClose_28 : decode cX6_hearClose 28 = .ok (.iload_n 2, 1) := by decide +kernel
theorem dX6_hearClose_29 : decode cX6_hearClose 29 = .ok (.ifCond .eq 7, 3) := by decide +kernel
theorem dX6_hearClose_32 : decode cX6_hearClose 32 = .ok (.iconst 2, 1) := by decide +kernel
theorem dX6_hearClose_33 : decode cX6_hearClose 33 = .ok (.goto 4, 3) := by decide +kernel
theorem dX6_hearClose_36 : decode cX6_hearClose 36 = .ok (.iconst 0, 1) := by decide +kernel
theorem dX6_hearClose_37 : decode cX6_hearClose 37 = .ok (.invokevirtual 134, 3) := by decide +kernel
theorem dX6_hearClose_40 : decode cX6_hearClose 40 = .ok (.aload_n 0, 1) := by decide +kernel
theorem dX6_hearClose_41 : decode cX6_hearClose 41 = .ok (.iload_n 2, 1) := by decide +kernel
theorem dX6_hearClose_42 : decode cX6_hearClose 42 = .ok (.ifCond .eq 10, 3) := by decide +kernel
theorem dX6_hearClose_45 : decode cX6_hearClose 45 = .ok (.aload_n 1, 1) := by decide +kernel
theorem dX6_hearClose_46 : decode cX6_hearClose 46 = .ok (.invokevirtual 226, 3) := by decide +kernel
theorem dX6_hearClose_49 : decode cX6_hearClose 49 = .ok (.goto 6, 3) := by decide +kernel
theorem dX6_hearClose_52 : decode cX6_hearClose 52 = .ok (.sipush 1005, 3) := by decide +kernel
theorem dX6_hearClose_55 : decode cX6_hearClose 55 = .ok (.invokevirtual 196, 3) := by decide +kernel
theorem dX6_hearClose_58 : decode cX6_hearClose 58 = .ok (.return_, 1) := by decide +kernel
theorem dX6_hearPing_0 : decode cX6_hearPing 0 = .ok (.aload_n 0, 1) := by decide +kernel
theorem dX6_hearPing_1 : decode cX6_hearPing 1 = .ok (.getfield 49, 3) := by decide +kernel
theorem dX6_hearPing_4 : decode cX6_hearPing 4 = .ok (.iconst 1, 1) := by decide +kernel
theorem dX6_hearPing_5 : decode cX6_hearPing 5 = .ok (.if_icmp .ne 36, 3) := by decide +kernel
theorem dX6_hearPing_8 : decode cX6_hearPing 8 = .ok (.aload_n 0, 1) := by decide +kernel
theorem dX6_hearPing_9 : decode cX6_hearPing 9 = .ok (.getfield 35, 3) := by decide +kernel
theorem dX6_hearPing_12 : decode cX6_hearPing 12 = .ok (.invokevirtual 79, 3) := by decide +kernel
theorem dX6_hearPing_15 : decode cX6_hearPing 15 = .ok (.iconst 2, 1) := by decide +kernel
theorem dX6_hearPing_16 : decode cX6_hearPing 16 = .ok (.iadd, 1) := by decide +kernel
theorem dX6_hearPing_17 : decode cX6_hearPing 17 = .ok (.aload_n 1, 1) := by decide +kernel
theorem dX6_hearPing_18 : decode cX6_hearPing 18 = .ok (.invokevirtual 79, 3) := by decide +kernel
theorem dX6_hearPing_21 : decode cX6_hearPing 21 = .ok (.iadd, 1) := by decide +kernel
theorem dX6_hearPing_22 : decode cX6_hearPing 22 = .ok (.sipush 470, 3) := by decide +kernel
theorem dX6_hearPing_25 : decode cX6_hearPing 25 = .ok (.if_icmp .gt 16, 3) := by decide +kernel
theorem dX6_hearPing_28 : decode cX6_hearPing 28 = .ok (.aload_n 0, 1) := by decide +kernel
theorem dX6_hearPing_29 : decode cX6_hearPing 29 = .ok (.sipush 138, 3) := by decide +kernel
theorem dX6_hearPing_32 : decode cX6_hearPing 32 = .ok (.aload_n 1, 1) := by decide +kernel
theorem dX6_hearPing_33 : decode cX6_hearPing 33 = .ok (.iconst 0, 1) := by decide +kernel
theorem dX6_hearPing_34 : decode cX6_hearPing 34 = .ok (.aload_n 1, 1) := by decide +kernel
theorem dX6_hearPing_35 : decode cX6_hearPing 35 = .ok (.invokevirtual 79, 3) := by decide +kernel
theorem dX6_hearPing_38 : decode cX6_hearPing 38 = .ok (.invokevirtual 134, 3) := by decide +kernel
theorem dX6_hearPing_41 : decode cX6_hearPing 41 = .ok (.return_, 1) := by decide +kernel
theorem dX6_maySay_0 : decode cX6_maySay 0 = .ok (.aload_n 0, 1) := by decide +kernel
theorem dX6_maySay_1 : decode cX6_maySay 1 = .ok (.getfield 49, 3) := by decide +kernel
theorem dX6_maySay_4 : decode cX6_maySay 4 = .ok (.iconst 1, 1) := by decide +kernel
theorem dX6_maySay_5 : decode cX6_maySay 5 = .ok (.if_icmp .ne 22, 3) := by decide +kernel
theorem dX6_maySay_8 : decode cX6_maySay 8 = .ok (.aload_n 0, 1) := by decide +kernel
theorem dX6_maySay_9 : decode cX6_maySay 9 = .ok (.getfield 35, 3) := by decide +kernel
theorem dX6_maySay_12 : decode cX6_maySay 12 = .ok (.invokevirtual 79, 3) := by decide +kernel
theorem dX6_maySay_15 : decode cX6_maySay 15 = .ok (.iload_n 1, 1) := by decide +kernel
theorem dX6_maySay_16 : decode cX6_maySay 16 = .ok (.iadd, 1) := by decide +kernel
theorem dX6_maySay_17 : decode cX6_maySay 17 = .ok (.sipush 400, 3) := by decide +kernel
theorem dX6_maySay_20 : decode cX6_maySay 20 = .ok (.if_icmp .gt 7, 3) := by decide +kernel
theorem dX6_maySay_23 : decode cX6_maySay 23 = .ok (.iconst 1, 1) := by decide +kernel
theorem dX6_maySay_24 : decode cX6_maySay 24 = .ok (.goto 4, 3) := by decide +kernel
theorem dX6_maySay_27 : decode cX6_maySay 27 = .ok (.iconst 0, 1) := by decide +kernel
theorem dX6_maySay_28 : decode cX6_maySay 28 = .ok (.ireturn, 1) := by decide +kernel
theorem dX6_sayPieces_0 : decode cX6_sayPieces 0 = .ok (.iconst 0, 1) := by decide +kernel
theorem dX6_sayPieces_1 : decode cX6_sayPieces 1 = .ok (.istore 4, 2) := by decide +kernel
theorem dX6_sayPieces_3 : decode cX6_sayPieces 3 = .ok (.iload 4, 2) := by decide +kernel
theorem dX6_sayPieces_5 : decode cX6_sayPieces 5 = .ok (.iload_n 3, 1) := by decide +kernel
theorem dX6_sayPieces_6 : decode cX6_sayPieces 6 = .ok (.if_icmp .ge 73, 3) := by decide +kernel
theorem dX6_sayPieces_9 : decode cX6_sayPieces 9 = .ok (.iload 4, 2) := by decide +kernel
theorem dX6_sayPieces_11 : decode cX6_sayPieces 11 = .ok (.iload_n 2, 1) := by decide +kernel
theorem dX6_sayPieces_12 : decode cX6_sayPieces 12 = .ok (.imul, 1) := by decide +kernel
theorem dX6_sayPieces_13 : decode cX6_sayPieces 13 = .ok (.istore 5, 2) := by decide +kernel
theorem dX6_sayPieces_15 : decode cX6_sayPieces 15 = .ok (.iload 5, 2) := by decide +kernel
theorem dX6_sayPieces_17 : decode cX6_sayPieces 17 = .ok (.iload_n 2, 1) := by decide +kernel
theorem dX6_sayPieces_18 : decode cX6_sayPieces 18 = .ok (.iadd, 1) := by decide +kernel
theorem dX6_sayPieces_19 : decode cX6_sayPieces 19 = .ok (.aload_n 0, 1) := by decide +kernel
theorem dX6_sayPieces_20 : decode cX6_sayPieces 20 = .ok (.getfield 39, 3) := by decide +kernel
theorem dX6_sayPieces_23 : decode cX6_sayPieces 23 = .ok (.invokevirtual 79, 3) := by decide +kernel
theorem dX6_sayPieces_26 : decode cX6_sayPieces 26 = .ok (.invokestatic 229, 3) := by decide +kernel
theorem dX6_sayPieces_29 : decode cX6_sayPieces 29 = .ok (.istore 6, 2) := by decide +kernel
theorem dX6_sayPieces_31 : decode cX6_sayPieces 31 = .ok (.iload 4, 2) := by decide +kernel
theorem dX6_sayPieces_33 : decode cX6_sayPieces 33 = .ok (.ifCond .ne 7, 3) := by decide +kernel
theorem dX6_sayPieces_36 : decode cX6_sayPieces 36 = .ok (.iload_n 1, 1) := by decide +kernel
theorem dX6_sayPieces_37 : decode cX6_sayPieces 37 = .ok (.goto 4, 3) := by decide +kernel
theorem dX6_sayPieces_40 : decode cX6_sayPieces 40 = .ok (.iconst 0, 1) := by decide +kernel
theorem dX6_sayPieces_41 : decode cX6_sayPieces 41 = .ok (.iload 4, 2) := by decide +kernel
theorem dX6_sayPieces_43 : decode cX6_sayPieces 43 = .ok (.iload_n 3, 1) := by decide +kernel
theorem dX6_sayPieces_44 : decode cX6_sayPieces 44 = .ok (.iconst 1, 1) := by decide +kernel
theorem dX6_sayPieces_45 : decode cX6_sayPieces 45 = .ok (.isub, 1) := by decide +kernel
theorem dX6_sayPieces_46 : decode cX6_sayPieces 46 = .ok (.if_icmp .ne 9, 3) := by decide +kernel
theorem dX6_sayPieces_49 : decode cX6_sayPieces 49 = .ok (.sipush 128, 3) := by decide +kernel
theorem dX6_sayPieces_52 : decode cX6_sayPieces 52 = .ok (.goto 4, 3) := by decide +kernel
theorem dX6_sayPieces_55 : decode cX6_sayPieces 55 = .ok (.iconst 0, 1) := by decide +kernel
theorem dX6_sayPieces_56 : decode cX6_sayPieces 56 = .ok (.iadd, 1) := by decide +kernel
theorem dX6_sayPieces_57 : decode cX6_sayPieces 57 = .ok (.istore 7, 2) := by decide +kernel
theorem dX6_sayPieces_59 : decode cX6_sayPieces 59 = .ok (.aload_n 0, 1) := by decide +kernel
theorem dX6_sayPieces_60 : decode cX6_sayPieces 60 = .ok (.iload 7, 2) := by decide +kernel
theorem dX6_sayPieces_62 : decode cX6_sayPieces 62 = .ok (.aload_n 0, 1) := by decide +kernel
theorem dX6_sayPieces_63 : decode cX6_sayPieces 63 = .ok (.getfield 39, 3) := by decide +kernel
theorem dX6_sayPieces_66 : decode cX6_sayPieces 66 = .ok (.iload 5, 2) := by decide +kernel
theorem dX6_sayPieces_68 : decode cX6_sayPieces 68 = .ok (.iload 6, 2) := by decide +kernel
theorem dX6_sayPieces_70 : decode cX6_sayPieces 70 = .ok (.invokevirtual 134, 3) := by decide +kernel
theorem dX6_sayPieces_73 : decode cX6_sayPieces 73 = .ok (.iinc 4 1, 3) := by decide +kernel
theorem dX6_sayPieces_76 : decode cX6_sayPieces 76 = .ok (.goto (-73), 3) := by decide +kernel
theorem dX6_sayPieces_79 : decode cX6_sayPieces 79 = .ok (.return_, 1) := by decide +kernel
theorem dX6_say_0 : decode cX6_say 0 = .ok (.aload_n 0, 1) := by decide +kernel
theorem dX6_say_1 : decode cX6_say 1 = .ok (.iload_n 1, 1) := by decide +kernel
theorem dX6_say_2 : decode cX6_say 2 = .ok (.iload 4, 2) := by decide +kernel
theorem dX6_say_4 : decode cX6_say 4 = .ok (.iload_n 3, 1) := by decide +kernel
theorem dX6_say_5 : decode cX6_say 5 = .ok (.isub, 1) := by decide +kernel
theorem dX6_say_6 : decode cX6_say 6 = .ok (.invokevirtual 141, 3) := by decide +kernel
theorem dX6_say_9 : decode cX6_say 9 = .ok (.aload_n 0, 1) := by decide +kernel
theorem dX6_say_10 : decode cX6_say 10 = .ok (.getfield 35, 3) := by decide +kernel
theorem dX6_say_13 : decode cX6_say 13 = .ok (.aload_n 2, 1) := by decide +kernel
theorem dX6_say_14 : decode cX6_say 14 = .ok (.iload_n 3, 1) := by decide +kernel
theorem dX6_say_15 : decode cX6_say 15 = .ok (.iload 4, 2) := by decide +kernel
theorem dX6_say_17 : decode cX6_say 17 = .ok (.invokevirtual 148, 3) := by decide +kernel
theorem dX6_say_20 : decode cX6_say 20 = .ok (.return_, 1) := by decide +kernel
theorem dX6_sayHead_0 : decode cX6_sayHead 0 = .ok (.aload_n 0, 1) := by decide +kernel
theorem dX6_sayHead_1 : decode cX6_sayHead 1 = .ok (.getfield 35, 3) := by decide +kernel
theorem dX6_sayHead_4 : decode cX6_sayHead 4 = .ok (.iload_n 1, 1) := by decide +kernel
theorem dX6_sayHead_5 : decode cX6_sayHead 5 = .ok (.invokevirtual 117, 3) := by decide +kernel
theorem dX6_sayHead_8 : decode cX6_sayHead 8 = .ok (.aload_n 0, 1) := by decide +kernel
theorem dX6_sayHead_9 : decode cX6_sayHead 9 = .ok (.getfield 35, 3) := by decide +kernel
theorem dX6_sayHead_12 : decode cX6_sayHead 12 = .ok (.iload_n 2, 1) := by decide +kernel
theorem dX6_sayHead_13 : decode cX6_sayHead 13 = .ok (.invokevirtual 117, 3) := by decide +kernel
theorem dX6_sayHead_16 : decode cX6_sayHead 16 = .ok (.return_, 1) := by decide +kernel
theorem dX6_sayCode_0 : decode cX6_sayCode 0 = .ok (.aload_n 0, 1) := by decide +kernel
theorem dX6_sayCode_1 : decode cX6_sayCode 1 = .ok (.getfield 35, 3) := by decide +kernel
theorem dX6_sayCode_4 : decode cX6_sayCode 4 = .ok (.iload_n 1, 1) := by decide +kernel
theorem dX6_sayCode_5 : decode cX6_sayCode 5 = .ok (.bipush 8, 2) := by decide +kernel
theorem dX6_sayCode_7 : decode cX6_sayCode 7 = .ok (.ishr, 1) := by decide +kernel
theorem dX6_sayCode_8 : decode cX6_sayCode 8 = .ok (.invokevirtual 117, 3) := by decide +kernel
theorem dX6_sayCode_11 : decode cX6_sayCode 11 = .ok (.aload_n 0, 1) := by decide +kernel
theorem dX6_sayCode_12 : decode cX6_sayCode 12 = .ok (.getfield 35, 3) := by decide +kernel
theorem dX6_sayCode_15 : decode cX6_sayCode 15 = .ok (.iload_n 1, 1) := by decide +kernel
theorem dX6_sayCode_16 : decode cX6_sayCode 16 = .ok (.sipush 255, 3) := by decide +kernel
theorem dX6_sayCode_19 : decode cX6_sayCode 19 = .ok (.iand, 1) := by decide +kernel
theorem dX6_sayCode_20 : decode cX6_sayCode 20 = .ok (.invokevirtual 117, 3) := by decide +kernel
theorem dX6_sayCode_23 : decode cX6_sayCode 23 = .ok (.return_, 1) := by decide +kernel
theorem dX7_init_0 : decode cX7_init 0 = .ok (.aload_n 0, 1) := by decide +kernel
theorem dX7_init_1 : decode cX7_init 1 = .ok (.invokespecial 1, 3) := by decide +kernel
theorem dX7_init_4 : decode cX7_init 4 = .ok (.aload_n 0, 1) := by decide +kernel
theorem dX7_init_5 : decode cX7_init 5 = .ok (.sipush 400, 3) := by decide +kernel
theorem dX7_init_8 : decode cX7_init 8 = .ok (.newarray .int, 2) := by decide +kernel
theorem dX7_init_10 : decode cX7_init 10 = .ok (.putfield 7, 3) := by decide +kernel
theorem dX7_init_13 : decode cX7_init 13 = .ok (.aload_n 0, 1) := by decide +kernel
theorem dX7_init_14 : decode cX7_init 14 = .ok (.iconst 5, 1) := by decide +kernel
theorem dX7_init_15 : decode cX7_init 15 = .ok (.newarray .int, 2) := by decide +kernel
theorem dX7_init_17 : decode cX7_init 17 = .ok (.putfield 13, 3) := by decide +kernel
theorem dX7_init_20 : decode cX7_init 20 = .ok (.aload_n 0, 1) := by decide +kernel
theorem dX7_init_21 : decode cX7_init 21 = .ok (.iconst 5, 1) := by decide +kernel
theorem dX7_init_22 : decode cX7_init 22 = .ok (.newarray .int, 2) := by decide +kernel
theorem dX7_init_24 : decode cX7_init 24 = .ok (.putfield 16, 3) := by decide +kernel
theorem dX7_init_27 : decode cX7_init 27 = .ok (.aload_n 0, 1) := by decide +kernel
theorem dX7_init_28 : decode cX7_init 28 = .ok (.iconst 5, 1) := by decide +kernel
theorem dX7_init_29 : decode cX7_init 29 = .ok (.newarray .int, 2) := by decide +kernel
end
section
theorem dX7_init_31 : decode cX7_init 31 = .ok (.putfield 19, 3) := by decide +kernel
theorem dX7_init_34 : decode cX7_init 34 = .ok (.aload_n 0, 1) := by decide +kernel
theorem dX7_init_35 : decode cX7_init 35 = .ok (.sipush 800, 3) := by decide +kernel
theorem dX7_init_38 : decode cX7_init 38 = .ok (.newarray .int, 2) := by decide +kernel
theorem dX7_init_40 : decode cX7_init 40 = .ok (.putfield 22, 3) := by decide +kernel
theorem dX7_init_43 : decode cX7_init 43 = .ok (.aload_n 0, 1) := by decide +kernel
theorem dX7_init_44 : decode cX7_init 44 = .ok (.bipush 100, 2) := by decide +kernel
theorem dX7_init_46 : decode cX7_init 46 = .ok (.newarray .int, 2) := by decide +kernel
theorem dX7_init_48 : decode cX7_init 48 = .ok (.putfield 25, 3) := by decide +kernel
theorem dX7_init_51 : decode cX7_init 51 = .ok (.aload_n 0, 1) := by decide +kernel
theorem dX7_init_52 : decode cX7_init 52 = .ok (.iconst 4, 1) := by decide +kernel
theorem dX7_init_53 : decode cX7_init 53 = .ok (.newarray .int, 2) := by decide +kernel
theorem dX7_init_55 : decode cX7_init 55 = .ok (.putfield 28, 3) := by decide +kernel
theorem dX7_init_58 : decode cX7_init 58 = .ok (.aload_n 0, 1) := by decide +kernel
theorem dX7_init_59 : decode cX7_init 59 = .ok (.bipush 125, 2) := by decide +kernel
theorem dX7_init_61 : decode cX7_init 61 = .ok (.newarray .int, 2) := by decide +kernel
theorem dX7_init_63 : decode cX7_init 63 = .ok (.putfield 31, 3) := by decide +kernel
theorem dX7_init_66 : decode cX7_init 66 = .ok (.aload_n 0, 1) := by decide +kernel
theorem dX7_init_67 : decode cX7_init 67 = .ok (.sipush 300, 3) := by decide +kernel
theorem dX7_init_70 : decode cX7_init 70 = .ok (.newarray .int, 2) := by decide +kernel
theorem dX7_init_72 : decode cX7_init 72 = .ok (.putfield 34, 3) := by decide +kernel
theorem dX7_init_75 : decode cX7_init 75 = .ok (.aload_n 0, 1) := by decide +kernel
theorem dX7_init_76 : decode cX7_init 76 = .ok (.iconst 4, 1) := by decide +kernel
theorem dX7_init_77 : decode cX7_init 77 = .ok (.newarray .int, 2) := by decide +kernel
theorem dX7_init_79 : decode cX7_init 79 = .ok (.putfield 37, 3) := by decide +kernel
theorem dX7_init_82 : decode cX7_init 82 = .ok (.aload_n 0, 1) := by decide +kernel
theorem dX7_init_83 : decode cX7_init 83 = .ok (.iconst 4, 1) := by decide +kernel
theorem dX7_init_84 : decode cX7_init 84 = .ok (.newarray .int, 2) := by decide +kernel
theorem dX7_init_86 : decode cX7_init 86 = .ok (.putfield 40, 3) := by decide +kernel
theorem dX7_init_89 : decode cX7_init 89 = .ok (.aload_n 0, 1) := by decide +kernel
theorem dX7_init_90 : decode cX7_init 90 = .ok (.sipush 1200, 3) := by decide +kernel
theorem dX7_init_93 : decode cX7_init 93 = .ok (.newarray .int, 2) := by decide +kernel
theorem dX7_init_95 : decode cX7_init 95 = .ok (.putfield 43, 3) := by decide +kernel
theorem dX7_init_98 : decode cX7_init 98 = .ok (.aload_n 0, 1) := by decide +kernel
theorem dX7_init_99 : decode cX7_init 99 = .ok (.sipush 128, 3) := by decide +kernel
theorem dX7_init_102 : decode cX7_init 102 = .ok (.newarray .int, 2) := by decide +kernel
theorem dX7_init_104 : decode cX7_init 104 = .ok (.putfield 46, 3) := by decide +kernel
theorem dX7_init_107 : decode cX7_init 107 = .ok (.aload_n 0, 1) := by decide +kernel
theorem dX7_init_108 : decode cX7_init 108 = .ok (.bipush 80, 2) := by decide +kernel
theorem dX7_init_110 : decode cX7_init 110 = .ok (.newarray .int, 2) := by decide +kernel
theorem dX7_init_112 : decode cX7_init 112 = .ok (.putfield 49, 3) := by decide +kernel
theorem dX7_init_115 : decode cX7_init 115 = .ok (.aload_n 0, 1) := by decide +kernel
theorem dX7_init_116 : decode cX7_init 116 = .ok (.iconst 5, 1) := by decide +kernel
theorem dX7_init_117 : decode cX7_init 117 = .ok (.newarray .int, 2) := by decide +kernel
theorem dX7_init_119 : decode cX7_init 119 = .ok (.putfield 52, 3) := by decide +kernel
theorem dX7_init_122 : decode cX7_init 122 = .ok (.return_, 1) := by decide +kernel
theorem dX7_thrown_0 : decode cX7_thrown 0 = .ok (.aload_n 0, 1) := by decide +kernel
theorem dX7_thrown_1 : decode cX7_thrown 1 = .ok (.getfield 55, 3) := by decide +kernel
theorem dX7_thrown_4 : decode cX7_thrown 4 = .ok (.ireturn, 1) := by decide +kernel
theorem dX7_fail_0 : decode cX7_fail 0 = .ok (.aload_n 0, 1) := by decide +kernel
theorem dX7_fail_1 : decode cX7_fail 1 = .ok (.iload_n 1, 1) := by decide +kernel
theorem dX7_fail_2 : decode cX7_fail 2 = .ok (.putfield 55, 3) := by decide +kernel
theorem dX7_fail_5 : decode cX7_fail 5 = .ok (.iconst 0, 1) := by decide +kernel
theorem dX7_fail_6 : decode cX7_fail 6 = .ok (.ireturn, 1) := by decide +kernel
theorem dX7_put_0 : decode cX7_put 0 = .ok (.aload_n 0, 1) := by decide +kernel
theorem dX7_put_1 : decode cX7_put 1 = .ok (.getfield 22, 3) := by decide +kernel
theorem dX7_put_4 : decode cX7_put 4 = .ok (.aload_n 0, 1) := by decide +kernel
theorem dX7_put_5 : decode cX7_put 5 = .ok (.getfield 59, 3) := by decide +kernel
theorem dX7_put_8 : decode cX7_put 8 = .ok (.iload_n 1, 1) := by decide +kernel
theorem dX7_put_9 : decode cX7_put 9 = .ok (.iastore, 1) := by decide +kernel
theorem dX7_put_10 : decode cX7_put 10 = .ok (.aload_n 0, 1) := by decide +kernel
theorem dX7_put_11 : decode cX7_put 11 = .ok (.dup, 1) := by decide +kernel
theorem dX7_put_12 : decode cX7_put 12 = .ok (.getfield 59, 3) := by decide +kernel
theorem dX7_put_15 : decode cX7_put 15 = .ok (.iconst 1, 1) := by decide +kernel
theorem dX7_put_16 : decode cX7_put 16 = .ok (.iadd, 1) := by decide +kernel
theorem dX7_put_17 : decode cX7_put 17 = .ok (.putfield 59, 3) := by decide +kernel
theorem dX7_put_20 : decode cX7_put 20 = .ok (.return_, 1) := by decide +kernel
theorem dX7_text_0 : decode cX7_text 0 = .ok (.lload_n 1, 1) := by decide +kernel
theorem dX7_text_1 : decode cX7_text 1 = .ok (.lstore_n 3, 1) := by decide +kernel
theorem dX7_text_2 : decode cX7_text 2 = .ok (.lload_n 3, 1) := by decide +kernel
theorem dX7_text_3 : decode cX7_text 3 = .ok (.lconst 0, 1) := by decide +kernel
theorem dX7_text_4 : decode cX7_text 4 = .ok (.lcmp, 1) := by decide +kernel
theorem dX7_text_5 : decode cX7_text 5 = .ok (.ifCond .eq 21, 3) := by decide +kernel
theorem dX7_text_8 : decode cX7_text 8 = .ok (.aload_n 0, 1) := by decide +kernel
theorem dX7_text_9 : decode cX7_text 9 = .ok (.lload_n 3, 1) := by decide +kernel
theorem dX7_text_10 : decode cX7_text 10 = .ok (.ldc2_w 62, 3) := by decide +kernel
theorem dX7_text_13 : decode cX7_text 13 = .ok (.land, 1) := by decide +kernel
theorem dX7_text_14 : decode cX7_text 14 = .ok (.l2i, 1) := by decide +kernel
theorem dX7_text_15 : decode cX7_text 15 = .ok (.invokevirtual 64, 3) := by decide +kernel
theorem dX7_text_18 : decode cX7_text 18 = .ok (.lload_n 3, 1) := by decide +kernel
theorem dX7_text_19 : decode cX7_text 19 = .ok (.bipush 8, 2) := by decide +kernel
theorem dX7_text_21 : decode cX7_text 21 = .ok (.lshr, 1) := by decide +kernel
theorem dX7_text_22 : decode cX7_text 22 = .ok (.lstore_n 3, 1) := by decide +kernel
theorem dX7_text_23 : decode cX7_text 23 = .ok (.goto (-21), 3) := by decide +kernel
theorem dX7_text_26 : decode cX7_text 26 = .ok (.return_, 1) := by decide +kernel
theorem dX7_line_0 : decode cX7_line 0 = .ok (.aload_n 0, 1) := by decide +kernel
theorem dX7_line_1 : decode cX7_line 1 = .ok (.bipush 13, 2) := by decide +kernel
theorem dX7_line_3 : decode cX7_line 3 = .ok (.invokevirtual 64, 3) := by decide +kernel
theorem dX7_line_6 : decode cX7_line 6 = .ok (.aload_n 0, 1) := by decide +kernel
theorem dX7_line_7 : decode cX7_line 7 = .ok (.bipush 10, 2) := by decide +kernel
theorem dX7_line_9 : decode cX7_line 9 = .ok (.invokevirtual 64, 3) := by decide +kernel
theorem dX7_line_12 : decode cX7_line 12 = .ok (.return_, 1) := by decide +kernel
theorem dX7_head_0 : decode cX7_head 0 = .ok (.aload_n 0, 1) := by decide +kernel
theorem dX7_head_1 : decode cX7_head 1 = .ok (.iload_n 2, 1) := by decide +kernel
theorem dX7_head_2 : decode cX7_head 2 = .ok (.ifCond .eq 11, 3) := by decide +kernel
theorem dX7_head_5 : decode cX7_head 5 = .ok (.sipush 128, 3) := by decide +kernel
theorem dX7_head_8 : decode cX7_head 8 = .ok (.iload_n 1, 1) := by decide +kernel
theorem dX7_head_9 : decode cX7_head 9 = .ok (.iadd, 1) := by decide +kernel
theorem dX7_head_10 : decode cX7_head 10 = .ok (.goto 4, 3) := by decide +kernel
theorem dX7_head_13 : decode cX7_head 13 = .ok (.iload_n 1, 1) := by decide +kernel
theorem dX7_head_14 : decode cX7_head 14 = .ok (.invokevirtual 64, 3) := by decide +kernel
theorem dX7_head_17 : decode cX7_head 17 = .ok (.aload_n 0, 1) := by decide +kernel
theorem dX7_head_18 : decode cX7_head 18 = .ok (.iload_n 3, 1) := by decide +kernel
theorem dX7_head_19 : decode cX7_head 19 = .ok (.bipush 126, 2) := by decide +kernel
theorem dX7_head_21 : decode cX7_head 21 = .ok (.if_icmp .ge 7, 3) := by decide +kernel
theorem dX7_head_24 : decode cX7_head 24 = .ok (.iload_n 3, 1) := by decide +kernel
theorem dX7_head_25 : decode cX7_head 25 = .ok (.goto 5, 3) := by decide +kernel
theorem dX7_head_28 : decode cX7_head 28 = .ok (.bipush 126, 2) := by decide +kernel
theorem dX7_head_30 : decode cX7_head 30 = .ok (.invokevirtual 64, 3) := by decide +kernel
theorem dX7_head_33 : decode cX7_head 33 = .ok (.iload_n 3, 1) := by decide +kernel
theorem dX7_head_34 : decode cX7_head 34 = .ok (.bipush 125, 2) := by decide +kernel
theorem dX7_head_36 : decode cX7_head 36 = .ok (.if_icmp .le 21, 3) := by decide +kernel
theorem dX7_head_39 : decode cX7_head 39 = .ok (.aload_n 0, 1) := by decide +kernel
theorem dX7_head_40 : decode cX7_head 40 = .ok (.iload_n 3, 1) := by decide +kernel
theorem dX7_head_41 : decode cX7_head 41 = .ok (.sipush 256, 3) := by decide +kernel
theorem dX7_head_44 : decode cX7_head 44 = .ok (.idiv, 1) := by decide +kernel
theorem dX7_head_45 : decode cX7_head 45 = .ok (.invokevirtual 64, 3) := by decide +kernel
theorem dX7_head_48 : decode cX7_head 48 = .ok (.aload_n 0, 1) := by decide +kernel
theorem dX7_head_49 : decode cX7_head 49 = .ok (.iload_n 3, 1) := by decide +kernel
theorem dX7_head_50 : decode cX7_head 50 = .ok (.sipush 256, 3) := by decide +kernel
theorem dX7_head_53 : decode cX7_head 53 = .ok (.irem, 1) := by decide +kernel
theorem dX7_head_54 : decode cX7_head 54 = .ok (.invokevirtual 64, 3) := by decide +kernel
theorem dX7_head_57 : decode cX7_head 57 = .ok (.return_, 1) := by decide +kernel
theorem dX7_sayClose_0 : decode cX7_sayClose 0 = .ok (.aload_n 0, 1) := by decide +kernel
theorem dX7_sayClose_1 : decode cX7_sayClose 1 = .ok (.bipush 8, 2) := by decide +kernel
theorem dX7_sayClose_3 : decode cX7_sayClose 3 = .ok (.iconst 1, 1) := by decide +kernel
theorem dX7_sayClose_4 : decode cX7_sayClose 4 = .ok (.iconst 2, 1) := by decide +kernel
theorem dX7_sayClose_5 : decode cX7_sayClose 5 = .ok (.invokevirtual 68, 3) := by decide +kernel
theorem dX7_sayClose_8 : decode cX7_sayClose 8 = .ok (.aload_n 0, 1) := by decide +kernel
theorem dX7_sayClose_9 : decode cX7_sayClose 9 = .ok (.iload_n 1, 1) := by decide +kernel
theorem dX7_sayClose_10 : decode cX7_sayClose 10 = .ok (.sipush 256, 3) := by decide +kernel
theorem dX7_sayClose_13 : decode cX7_sayClose 13 = .ok (.idiv, 1) := by decide +kernel
theorem dX7_sayClose_14 : decode cX7_sayClose 14 = .ok (.invokevirtual 64, 3) := by decide +kernel
theorem dX7_sayClose_17 : decode cX7_sayClose 17 = .ok (.aload_n 0, 1) := by decide +kernel
theorem dX7_sayClose_18 : decode cX7_sayClose 18 = .ok (.iload_n 1, 1) := by decide +kernel
theorem dX7_sayClose_19 : decode cX7_sayClose 19 = .ok (.sipush 256, 3) := by decide +kernel
theorem dX7_sayClose_22 : decode cX7_sayClose 22 = .ok (.irem, 1) := by decide +kernel
theorem dX7_sayClose_23 : decode cX7_sayClose 23 = .ok (.invokevirtual 64, 3) := by decide +kernel
theorem dX7_sayClose_26 : decode cX7_sayClose 26 = .ok (.return_, 1) := by decide +kernel
theorem dX7_beginCharacters_0 : decode cX7_beginCharacters 0 = .ok (.aload_n 0, 1) := by decide +kernel
theorem dX7_beginCharacters_1 : decode cX7_beginCharacters 1 = .ok (.iconst 0, 1) := by decide +kernel
theorem dX7_beginCharacters_2 : decode cX7_beginCharacters 2 = .ok (.putfield 72, 3) := by decide +kernel
theorem dX7_beginCharacters_5 : decode cX7_beginCharacters 5 = .ok (.return_, 1) := by decide +kernel
theorem dX7_character_0 : decode cX7_character 0 = .ok (.aload_n 0, 1) := by decide +kernel
theorem dX7_character_1 : decode cX7_character 1 = .ok (.getfield 72, 3) := by decide +kernel
theorem dX7_character_4 : decode cX7_character 4 = .ok (.ifCond .le 51, 3) := by decide +kernel
theorem dX7_character_7 : decode cX7_character 7 = .ok (.iload_n 1, 1) := by decide +kernel
theorem dX7_character_8 : decode cX7_character 8 = .ok (.aload_n 0, 1) := by decide +kernel
theorem dX7_character_9 : decode cX7_character 9 = .ok (.getfield 75, 3) := by decide +kernel
theorem dX7_character_12 : decode cX7_character 12 = .ok (.if_icmp .lt 15, 3) := by decide +kernel
theorem dX7_character_15 : decode cX7_character 15 = .ok (.iload_n 1, 1) := by decide +kernel
theorem dX7_character_16 : decode cX7_character 16 = .ok (.aload_n 0, 1) := by decide +kernel
theorem dX7_character_17 : decode cX7_character 17 = .ok (.getfield 78, 3) := by decide +kernel
theorem dX7_character_20 : decode cX7_character 20 = .ok (.if_icmp .gt 7, 3) := by decide +kernel
theorem dX7_character_23 : decode cX7_character 23 = .ok (.iconst 1, 1) := by decide +kernel
theorem dX7_character_24 : decode cX7_character 24 = .ok (.goto 4, 3) := by decide +kernel
theorem dX7_character_27 : decode cX7_character 27 = .ok (.iconst 0, 1) := by decide +kernel
theorem dX7_character_28 : decode cX7_character 28 = .ok (.istore_n 2, 1) := by decide +kernel
theorem dX7_character_29 : decode cX7_character 29 = .ok (.aload_n 0, 1) := by decide +kernel
theorem dX7_character_30 : decode cX7_character 30 = .ok (.dup, 1) := by decide +kernel
theorem dX7_character_31 : decode cX7_character 31 = .ok (.getfield 72, 3) := by decide +kernel
theorem dX7_character_34 : decode cX7_character 34 = .ok (.iconst 1, 1) := by decide +kernel
theorem dX7_character_35 : decode cX7_character 35 = .ok (.isub, 1) := by decide +kernel
theorem dX7_character_36 : decode cX7_character 36 = .ok (.putfield 72, 3) := by decide +kernel
theorem dX7_character_39 : decode cX7_character 39 = .ok (.aload_n 0, 1) := by decide +kernel
theorem dX7_character_40 : decode cX7_character 40 = .ok (.sipush 128, 3) := by decide +kernel
theorem dX7_character_43 : decode cX7_character 43 = .ok (.putfield 75, 3) := by decide +kernel
theorem dX7_character_46 : decode cX7_character 46 = .ok (.aload_n 0, 1) := by decide +kernel
theorem dX7_character_47 : decode cX7_character 47 = .ok (.sipush 191, 3) := by decide +kernel
theorem dX7_character_50 : decode cX7_character 50 = .ok (.putfield 78, 3) := by decide +kernel
theorem dX7_character_53 : decode cX7_character 53 = .ok (.iload_n 2, 1) := by decide +kernel
theorem dX7_character_54 : decode cX7_character 54 = .ok (.ireturn, 1) := by decide +kernel
theorem dX7_character_55 : decode cX7_character 55 = .ok (.aload_n 0, 1) := by decide +kernel
theorem dX7_character_56 : decode cX7_character 56 = .ok (.iload_n 1, 1) := by decide +kernel
theorem dX7_character_57 : decode cX7_character 57 = .ok (.sipush 128, 3) := by decide +kernel
theorem dX7_character_60 : decode cX7_character 60 = .ok (.if_icmp .ge 7, 3) := by decide +kernel
theorem dX7_character_63 : decode cX7_character 63 = .ok (.iconst 0, 1) := by decide +kernel
theorem dX7_character_64 : decode cX7_character 64 = .ok (.goto 26, 3) := by decide +kernel
theorem dX7_character_67 : decode cX7_character 67 = .ok (.iload_n 1, 1) := by decide +kernel
theorem dX7_character_68 : decode cX7_character 68 = .ok (.sipush 224, 3) := by decide +kernel
theorem dX7_character_71 : decode cX7_character 71 = .ok (.if_icmp .ge 7, 3) := by decide +kernel
theorem dX7_character_74 : decode cX7_character 74 = .ok (.iconst 1, 1) := by decide +kernel
theorem dX7_character_75 : decode cX7_character 75 = .ok (.goto 15, 3) := by decide +kernel
theorem dX7_character_78 : decode cX7_character 78 = .ok (.iload_n 1, 1) := by decide +kernel
theorem dX7_character_79 : decode cX7_character 79 = .ok (.sipush 240, 3) := by decide +kernel
theorem dX7_character_82 : decode cX7_character 82 = .ok (.if_icmp .ge 7, 3) := by decide +kernel
theorem dX7_character_85 : decode cX7_character 85 = .ok (.iconst 2, 1) := by decide +kernel
theorem dX7_character_86 : decode cX7_character 86 = .ok (.goto 4, 3) := by decide +kernel
theorem dX7_character_89 : decode cX7_character 89 = .ok (.iconst 3, 1) := by decide +kernel
theorem dX7_character_90 : decode cX7_character 90 = .ok (.putfield 72, 3) := by decide +kernel
theorem dX7_character_93 : decode cX7_character 93 = .ok (.aload_n 0, 1) := by decide +kernel
theorem dX7_character_94 : decode cX7_character 94 = .ok (.iload_n 1, 1) := by decide +kernel
theorem dX7_character_95 : decode cX7_character 95 = .ok (.sipush 224, 3) := by decide +kernel
theorem dX7_character_98 : decode cX7_character 98 = .ok (.if_icmp .ne 9, 3) := by decide +kernel
theorem dX7_character_101 : decode cX7_character 101 = .ok (.sipush 160, 3) := by decide +kernel
theorem dX7_character_104 : decode cX7_character 104 = .ok (.goto 19, 3) := by decide +kernel
theorem dX7_character_107 : decode cX7_character 107 = .ok (.iload_n 1, 1) := by decide +kernel
theorem dX7_character_108 : decode cX7_character 108 = .ok (.sipush 240, 3) := by decide +kernel
theorem dX7_character_111 : decode cX7_character 111 = .ok (.if_icmp .ne 9, 3) := by decide +kernel
theorem dX7_character_114 : decode cX7_character 114 = .ok (.sipush 144, 3) := by decide +kernel
theorem dX7_character_117 : decode cX7_character 117 = .ok (.goto 6, 3) := by decide +kernel
theorem dX7_character_120 : decode cX7_character 120 = .ok (.sipush 128, 3) := by decide +kernel
theorem dX7_character_123 : decode cX7_character 123 = .ok (.putfield 75, 3) := by decide +kernel
theorem dX7_character_126 : decode cX7_character 126 = .ok (.aload_n 0, 1) := by decide +kernel
theorem dX7_character_127 : decode cX7_character 127 = .ok (.iload_n 1, 1) := by decide +kernel
theorem dX7_character_128 : decode cX7_character 128 = .ok (.sipush 237, 3) := by decide +kernel
theorem dX7_character_131 : decode cX7_character 131 = .ok (.if_icmp .ne 9, 3) := by decide +kernel
theorem dX7_character_134 : decode cX7_character 134 = .ok (.sipush 159, 3) := by decide +kernel
theorem dX7_character_137 : decode cX7_character 137 = .ok (.goto 19, 3) := by decide +kernel
theorem dX7_character_140 : decode cX7_character 140 = .ok (.iload_n 1, 1) := by decide +kernel
theorem dX7_character_141 : decode cX7_character 141 = .ok (.sipush 244, 3) := by decide +kernel
theorem dX7_character_144 : decode cX7_character 144 = .ok (.if_icmp .ne 9, 3) := by decide +kernel
theorem dX7_character_147 : decode cX7_character 147 = .ok (.sipush 143, 3) := by decide +kernel
theorem dX7_character_150 : decode cX7_character 150 = .ok (.goto 6, 3) := by decide +kernel
theorem dX7_character_153 : decode cX7_character 153 = .ok (.sipush 191, 3) := by decide +kernel
theorem dX7_character_156 : decode cX7_character 156 = .ok (.putfield 78, 3) := by decide +kernel
theorem dX7_character_159 : decode cX7_character 159 = .ok (.iload_n 1, 1) := by decide +kernel
theorem dX7_character_160 : decode cX7_character 160 = .ok (.sipush 128, 3) := by decide +kernel
theorem dX7_character_163 : decode cX7_character 163 = .ok (.if_icmp .lt 17, 3) := by decide +kernel
theorem dX7_character_166 : decode cX7_character 166 = .ok (.iload_n 1, 1) := by decide +kernel
theorem dX7_character_167 : decode cX7_character 167 = .ok (.sipush 193, 3) := by decide +kernel
theorem dX7_character_170 : decode cX7_character 170 = .ok (.if_icmp .le 14, 3) := by decide +kernel
theorem dX7_character_173 : decode cX7_character 173 = .ok (.iload_n 1, 1) := by decide +kernel
theorem dX7_character_174 : decode cX7_character 174 = .ok (.sipush 245, 3) := by decide +kernel
theorem dX7_character_177 : decode cX7_character 177 = .ok (.if_icmp .ge 7, 3) := by decide +kernel
theorem dX7_character_180 : decode cX7_character 180 = .ok (.iconst 1, 1) := by decide +kernel
theorem dX7_character_181 : decode cX7_character 181 = .ok (.goto 4, 3) := by decide +kernel
theorem dX7_character_184 : decode cX7_character 184 = .ok (.iconst 0, 1) := by decide +kernel
theorem dX7_character_185 : decode cX7_character 185 = .ok (.ireturn, 1) := by decide +kernel
theorem dX7_isDraftText_0 : decode cX7_isDraftText 0 = .ok (.aload_n 0, 1) := by decide +kernel
theorem dX7_isDraftText_1 : decode cX7_isDraftText 1 = .ok (.getfield 72, 3) := by decide +kernel
theorem dX7_isDraftText_4 : decode cX7_isDraftText 4 = .ok (.istore_n 1, 1) := by decide +kernel
theorem dX7_isDraftText_5 : decode cX7_isDraftText 5 = .ok (.aload_n 0, 1) := by decide +kernel
theorem dX7_isDraftText_6 : decode cX7_isDraftText 6 = .ok (.getfield 75, 3) := by decide +kernel
theorem dX7_isDraftText_9 : decode cX7_isDraftText 9 = .ok (.istore_n 2, 1) := by decide +kernel
theorem dX7_isDraftText_10 : decode cX7_isDraftText 10 = .ok (.aload_n 0, 1) := by decide +kernel
theorem dX7_isDraftText_11 : decode cX7_isDraftText 11 = .ok (.getfield 78, 3) := by decide +kernel
theorem dX7_isDraftText_14 : decode cX7_isDraftText 14 = .ok (.istore_n 3, 1) := by decide +kernel
theorem dX7_isDraftText_15 : decode cX7_isDraftText 15 = .ok (.iconst 1, 1) := by decide +kernel
theorem dX7_isDraftText_16 : decode cX7_isDraftText 16 = .ok (.istore 4, 2) := by decide +kernel
theorem dX7_isDraftText_18 : decode cX7_isDraftText 18 = .ok (.aload_n 0, 1) := by decide +kernel
theorem dX7_isDraftText_19 : decode cX7_isDraftText 19 = .ok (.invokevirtual 81, 3) := by decide +kernel
theorem dX7_isDraftText_22 : decode cX7_isDraftText 22 = .ok (.iconst 0, 1) := by decide +kernel
theorem dX7_isDraftText_23 : decode cX7_isDraftText 23 = .ok (.istore 5, 2) := by decide +kernel
theorem dX7_isDraftText_25 : decode cX7_isDraftText 25 = .ok (.iload 5, 2) := by decide +kernel
theorem dX7_isDraftText_27 : decode cX7_isDraftText 27 = .ok (.aload_n 0, 1) := by decide +kernel
theorem dX7_isDraftText_28 : decode cX7_isDraftText 28 = .ok (.getfield 84, 3) := by decide +kernel
theorem dX7_isDraftText_31 : decode cX7_isDraftText 31 = .ok (.if_icmp .ge 27, 3) := by decide +kernel
theorem dX7_isDraftText_34 : decode cX7_isDraftText 34 = .ok (.iload 4, 2) := by decide +kernel
theorem dX7_isDraftText_36 : decode cX7_isDraftText 36 = .ok (.ifCond .eq 22, 3) := by decide +kernel
theorem dX7_isDraftText_39 : decode cX7_isDraftText 39 = .ok (.aload_n 0, 1) := by decide +kernel
theorem dX7_isDraftText_40 : decode cX7_isDraftText 40 = .ok (.aload_n 0, 1) := by decide +kernel
theorem dX7_isDraftText_41 : decode cX7_isDraftText 41 = .ok (.getfield 25, 3) := by decide +kernel
theorem dX7_isDraftText_44 : decode cX7_isDraftText 44 = .ok (.iload 5, 2) := by decide +kernel
theorem dX7_isDraftText_46 : decode cX7_isDraftText 46 = .ok (.iaload, 1) := by decide +kernel
theorem dX7_isDraftText_47 : decode cX7_isDraftText 47 = .ok (.invokevirtual 87, 3) := by decide +kernel
theorem dX7_isDraftText_50 : decode cX7_isDraftText 50 = .ok (.istore 4, 2) := by decide +kernel
theorem dX7_isDraftText_52 : decode cX7_isDraftText 52 = .ok (.iinc 5 1, 3) := by decide +kernel
theorem dX7_isDraftText_55 : decode cX7_isDraftText 55 = .ok (.goto (-30), 3) := by decide +kernel
theorem dX7_isDraftText_58 : decode cX7_isDraftText 58 = .ok (.iload 4, 2) := by decide +kernel
theorem dX7_isDraftText_60 : decode cX7_isDraftText 60 = .ok (.ifCond .eq 14, 3) := by decide +kernel
theorem dX7_isDraftText_63 : decode cX7_isDraftText 63 = .ok (.aload_n 0, 1) := by decide +kernel
theorem dX7_isDraftText_64 : decode cX7_isDraftText 64 = .ok (.getfield 72, 3) := by decide +kernel
theorem dX7_isDraftText_67 : decode cX7_isDraftText 67 = .ok (.ifCond .ne 7, 3) := by decide +kernel
theorem dX7_isDraftText_70 : decode cX7_isDraftText 70 = .ok (.iconst 1, 1) := by decide +kernel
theorem dX7_isDraftText_71 : decode cX7_isDraftText 71 = .ok (.goto 4, 3) := by decide +kernel
theorem dX7_isDraftText_74 : decode cX7_isDraftText 74 = .ok (.iconst 0, 1) := by decide +kernel
theorem dX7_isDraftText_75 : decode cX7_isDraftText 75 = .ok (.istore 4, 2) := by decide +kernel
theorem dX7_isDraftText_77 : decode cX7_isDraftText 77 = .ok (.aload_n 0, 1) := by decide +kernel
theorem dX7_isDraftText_78 : decode cX7_isDraftText 78 = .ok (.iload_n 1, 1) := by decide +kernel
theorem dX7_isDraftText_79 : decode cX7_isDraftText 79 = .ok (.putfield 72, 3) := by decide +kernel
theorem dX7_isDraftText_82 : decode cX7_isDraftText 82 = .ok (.aload_n 0, 1) := by decide +kernel
theorem dX7_isDraftText_83 : decode cX7_isDraftText 83 = .ok (.iload_n 2, 1) := by decide +kernel
theorem dX7_isDraftText_84 : decode cX7_isDraftText 84 = .ok (.putfield 75, 3) := by decide +kernel
theorem dX7_isDraftText_87 : decode cX7_isDraftText 87 = .ok (.aload_n 0, 1) := by decide +kernel
theorem dX7_isDraftText_88 : decode cX7_isDraftText 88 = .ok (.iload_n 3, 1) := by decide +kernel
theorem dX7_isDraftText_89 : decode cX7_isDraftText 89 = .ok (.putfield 78, 3) := by decide +kernel
theorem dX7_isDraftText_92 : decode cX7_isDraftText 92 = .ok (.iload 4, 2) := by decide +kernel
theorem dX7_isDraftText_94 : decode cX7_isDraftText 94 = .ok (.ireturn, 1) := by decide +kernel
theorem dX7_small_0 : decode cX7_small 0 = .ok (.iload_n 0, 1) := by decide +kernel
theorem dX7_small_1 : decode cX7_small 1 = .ok (.bipush 65, 2) := by decide +kernel
theorem dX7_small_3 : decode cX7_small 3 = .ok (.if_icmp .lt 16, 3) := by decide +kernel
theorem dX7_small_6 : decode cX7_small 6 = .ok (.iload_n 0, 1) := by decide +kernel
theorem dX7_small_7 : decode cX7_small 7 = .ok (.bipush 90, 2) := by decide +kernel
theorem dX7_small_9 : decode cX7_small 9 = .ok (.if_icmp .gt 10, 3) := by decide +kernel
theorem dX7_small_12 : decode cX7_small 12 = .ok (.iload_n 0, 1) := by decide +kernel
theorem dX7_small_13 : decode cX7_small 13 = .ok (.bipush 32, 2) := by decide +kernel
theorem dX7_small_15 : decode cX7_small 15 = .ok (.iadd, 1) := by decide +kernel
theorem dX7_small_16 : decode cX7_small 16 = .ok (.goto 4, 3) := by decide +kernel
theorem dX7_small_19 : decode cX7_small 19 = .ok (.iload_n 0, 1) := by decide +kernel
theorem dX7_small_20 : decode cX7_small 20 = .ok (.ireturn, 1) := by decide +kernel
theorem dX7_isDigit_0 : decode cX7_isDigit 0 = .ok (.iload_n 0, 1) := by decide +kernel
theorem dX7_isDigit_1 : decode cX7_isDigit 1 = .ok (.bipush 48, 2) := by decide +kernel
theorem dX7_isDigit_3 : decode cX7_isDigit 3 = .ok (.if_icmp .lt 13, 3) := by decide +kernel
theorem dX7_isDigit_6 : decode cX7_isDigit 6 = .ok (.iload_n 0, 1) := by decide +kernel
theorem dX7_isDigit_7 : decode cX7_isDigit 7 = .ok (.bipush 57, 2) := by decide +kernel
theorem dX7_isDigit_9 : decode cX7_isDigit 9 = .ok (.if_icmp .gt 7, 3) := by decide +kernel
theorem dX7_isDigit_12 : decode cX7_isDigit 12 = .ok (.iconst 1, 1) := by decide +kernel
theorem dX7_isDigit_13 : decode cX7_isDigit 13 = .ok (.goto 4, 3) := by decide +kernel
theorem dX7_isDigit_16 : decode cX7_isDigit 16 = .ok (.iconst 0, 1) := by decide +kernel
theorem dX7_isDigit_17 : decode cX7_isDigit 17 = .ok (.ireturn, 1) := by decide +kernel
theorem dX7_isLetter_0 : decode cX7_isLetter 0 = .ok (.iload_n 0, 1) := by decide +kernel
theorem dX7_isLetter_1 : decode cX7_isLetter 1 = .ok (.invokestatic 91, 3) := by decide +kernel
theorem dX7_isLetter_4 : decode cX7_isLetter 4 = .ok (.bipush 97, 2) := by decide +kernel
theorem dX7_isLetter_6 : decode cX7_isLetter 6 = .ok (.if_icmp .lt 16, 3) := by decide +kernel
theorem dX7_isLetter_9 : decode cX7_isLetter 9 = .ok (.iload_n 0, 1) := by decide +kernel
theorem dX7_isLetter_10 : decode cX7_isLetter 10 = .ok (.invokestatic 91, 3) := by decide +kernel
theorem dX7_isLetter_13 : decode cX7_isLetter 13 = .ok (.bipush 122, 2) := by decide +kernel
theorem dX7_isLetter_15 : decode cX7_isLetter 15 = .ok (.if_icmp .gt 7, 3) := by decide +kernel
theorem dX7_isLetter_18 : decode cX7_isLetter 18 = .ok (.iconst 1, 1) := by decide +kernel
theorem dX7_isLetter_19 : decode cX7_isLetter 19 = .ok (.goto 4, 3) := by decide +kernel
theorem dX7_isLetter_22 : decode cX7_isLetter 22 = .ok (.iconst 0, 1) := by decide +kernel
theorem dX7_isLetter_23 : decode cX7_isLetter 23 = .ok (.ireturn, 1) := by decide +kernel
theorem dX7_known_0 : decode cX7_known 0 = .ok (.iload_n 0, 1) := by decide +kernel
theorem dX7_known_1 : decode cX7_known 1 = .ok (.tableswitch 150 0 4 #[35, 56, 77, 100, 125], 35) := by decide +kernel
theorem dX7_known_36 : decode cX7_known 36 = .ok (.iload_n 1, 1) := by decide +kernel
theorem dX7_known_37 : decode cX7_known 37 = .ok (.ifCond .ne 9, 3) := by decide +kernel
theorem dX7_known_40 : decode cX7_known 40 = .ok (.ldc2_w 95, 3) := by decide +kernel
theorem dX7_known_43 : decode cX7_known 43 = .ok (.goto 13, 3) := by decide +kernel
theorem dX7_known_46 : decode cX7_known 46 = .ok (.iload_n 1, 1) := by decide +kernel
theorem dX7_known_47 : decode cX7_known 47 = .ok (.iconst 1, 1) := by decide +kernel
theorem dX7_known_48 : decode cX7_known 48 = .ok (.if_icmp .ne 7, 3) := by decide +kernel
theorem dX7_known_51 : decode cX7_known 51 = .ok (.lconst 0, 1) := by decide +kernel
theorem dX7_known_52 : decode cX7_known 52 = .ok (.goto 4, 3) := by decide +kernel
theorem dX7_known_55 : decode cX7_known 55 = .ok (.lconst 0, 1) := by decide +kernel
theorem dX7_known_56 : decode cX7_known 56 = .ok (.lreturn, 1) := by decide +kernel
theorem dX7_known_57 : decode cX7_known 57 = .ok (.iload_n 1, 1) := by decide +kernel
theorem dX7_known_58 : decode cX7_known 58 = .ok (.ifCond .ne 9, 3) := by decide +kernel
theorem dX7_known_61 : decode cX7_known 61 = .ok (.ldc2_w 97, 3) := by decide +kernel
theorem dX7_known_64 : decode cX7_known 64 = .ok (.goto 13, 3) := by decide +kernel
theorem dX7_known_67 : decode cX7_known 67 = .ok (.iload_n 1, 1) := by decide +kernel
theorem dX7_known_68 : decode cX7_known 68 = .ok (.iconst 1, 1) := by decide +kernel
theorem dX7_known_69 : decode cX7_known 69 = .ok (.if_icmp .ne 7, 3) := by decide +kernel
theorem dX7_known_72 : decode cX7_known 72 = .ok (.lconst 0, 1) := by decide +kernel
theorem dX7_known_73 : decode cX7_known 73 = .ok (.goto 4, 3) := by decide +kernel
theorem dX7_known_76 : decode cX7_known 76 = .ok (.lconst 0, 1) := by decide +kernel
theorem dX7_known_77 : decode cX7_known 77 = .ok (.lreturn, 1) := by decide +kernel
theorem dX7_known_78 : decode cX7_known 78 = .ok (.iload_n 1, 1) := by decide +kernel
theorem dX7_known_79 : decode cX7_known 79 = .ok (.ifCond .ne 9, 3) := by decide +kernel
theorem dX7_known_82 : decode cX7_known 82 = .ok (.ldc2_w 99, 3) := by decide +kernel
theorem dX7_known_85 : decode cX7_known 85 = .ok (.goto 15, 3) := by decide +kernel
theorem dX7_known_88 : decode cX7_known 88 = .ok (.iload_n 1, 1) := by decide +kernel
theorem dX7_known_89 : decode cX7_known 89 = .ok (.iconst 1, 1) := by decide +kernel
theorem dX7_known_90 : decode cX7_known 90 = .ok (.if_icmp .ne 9, 3) := by decide +kernel
theorem dX7_known_93 : decode cX7_known 93 = .ok (.ldc2_w 101, 3) := by decide +kernel
theorem dX7_known_96 : decode cX7_known 96 = .ok (.goto 4, 3) := by decide +kernel
theorem dX7_known_99 : decode cX7_known 99 = .ok (.lconst 0, 1) := by decide +kernel
theorem dX7_known_100 : decode cX7_known 100 = .ok (.lreturn, 1) := by decide +kernel
theorem dX7_known_101 : decode cX7_known 101 = .ok (.iload_n 1, 1) := by decide +kernel
theorem dX7_known_102 : decode cX7_known 102 = .ok (.ifCond .ne 9, 3) := by decide +kernel
theorem dX7_known_105 : decode cX7_known 105 = .ok (.ldc2_w 103, 3) := by decide +kernel
theorem dX7_known_108 : decode cX7_known 108 = .ok (.goto 17, 3) := by decide +kernel
theorem dX7_known_111 : decode cX7_known 111 = .ok (.iload_n 1, 1) := by decide +kernel
theorem dX7_known_112 : decode cX7_known 112 = .ok (.iconst 1, 1) := by decide +kernel
theorem dX7_known_113 : decode cX7_known 113 = .ok (.if_icmp .ne 9, 3) := by decide +kernel
theorem dX7_known_116 : decode cX7_known 116 = .ok (.ldc2_w 105, 3) := by decide +kernel
theorem dX7_known_119 : decode cX7_known 119 = .ok (.goto 6, 3) := by decide +kernel
theorem dX7_known_122 : decode cX7_known 122 = .ok (.ldc2_w 107, 3) := by decide +kernel
theorem dX7_known_125 : decode cX7_known 125 = .ok (.lreturn, 1) := by decide +kernel
theorem dX7_known_126 : decode cX7_known 126 = .ok (.iload_n 1, 1) := by decide +kernel
theorem dX7_known_127 : decode cX7_known 127 = .ok (.ifCond .ne 9, 3) := by decide +kernel
theorem dX7_known_130 : decode cX7_known 130 = .ok (.ldc2_w 103, 3) := by decide +kernel
theorem dX7_known_133 : decode cX7_known 133 = .ok (.goto 17, 3) := by decide +kernel
theorem dX7_known_136 : decode cX7_known 136 = .ok (.iload_n 1, 1) := by decide +kernel
theorem dX7_known_137 : decode cX7_known 137 = .ok (.iconst 1, 1) := by decide +kernel
theorem dX7_known_138 : decode cX7_known 138 = .ok (.if_icmp .ne 9, 3) := by decide +kernel
theorem dX7_known_141 : decode cX7_known 141 = .ok (.ldc2_w 109, 3) := by decide +kernel
theorem dX7_known_144 : decode cX7_known 144 = .ok (.goto 6, 3) := by decide +kernel
theorem dX7_known_147 : decode cX7_known 147 = .ok (.ldc2_w 111, 3) := by decide +kernel
theorem dX7_known_150 : decode cX7_known 150 = .ok (.lreturn, 1) := by decide +kernel
theorem dX7_known_151 : decode cX7_known 151 = .ok (.iload_n 1, 1) := by decide +kernel
theorem dX7_known_152 : decode cX7_known 152 = .ok (.ifCond .ne 9, 3) := by decide +kernel
theorem dX7_known_155 : decode cX7_known 155 = .ok (.ldc2_w 113, 3) := by decide +kernel
theorem dX7_known_158 : decode cX7_known 158 = .ok (.goto 15, 3) := by decide +kernel
theorem dX7_known_161 : decode cX7_known 161 = .ok (.iload_n 1, 1) := by decide +kernel
theorem dX7_known_162 : decode cX7_known 162 = .ok (.iconst 1, 1) := by decide +kernel
theorem dX7_known_163 : decode cX7_known 163 = .ok (.if_icmp .ne 9, 3) := by decide +kernel
theorem dX7_known_166 : decode cX7_known 166 = .ok (.ldc2_w 115, 3) := by decide +kernel
theorem dX7_known_169 : decode cX7_known 169 = .ok (.goto 4, 3) := by decide +kernel
theorem dX7_known_172 : decode cX7_known 172 = .ok (.lconst 0, 1) := by decide +kernel
theorem dX7_known_173 : decode cX7_known 173 = .ok (.lreturn, 1) := by decide +kernel
theorem dX7_letter_0 : decode cX7_letter 0 = .ok (.iload_n 1, 1) := by decide +kernel
theorem dX7_letter_1 : decode cX7_letter 1 = .ok (.bipush 23, 2) := by decide +kernel
theorem dX7_letter_3 : decode cX7_letter 3 = .ok (.if_icmp .le 7, 3) := by decide +kernel
theorem dX7_letter_6 : decode cX7_letter 6 = .ok (.iconst 0, 1) := by decide +kernel
theorem dX7_letter_7 : decode cX7_letter 7 = .ok (.goto 24, 3) := by decide +kernel
theorem dX7_letter_10 : decode cX7_letter 10 = .ok (.iload_n 0, 1) := by decide +kernel
theorem dX7_letter_11 : decode cX7_letter 11 = .ok (.iload_n 1, 1) := by decide +kernel
theorem dX7_letter_12 : decode cX7_letter 12 = .ok (.bipush 8, 2) := by decide +kernel
theorem dX7_letter_14 : decode cX7_letter 14 = .ok (.idiv, 1) := by decide +kernel
theorem dX7_letter_15 : decode cX7_letter 15 = .ok (.invokestatic 117, 3) := by decide +kernel
theorem dX7_letter_18 : decode cX7_letter 18 = .ok (.bipush 8, 2) := by decide +kernel
theorem dX7_letter_20 : decode cX7_letter 20 = .ok (.iload_n 1, 1) := by decide +kernel
theorem dX7_letter_21 : decode cX7_letter 21 = .ok (.bipush 8, 2) := by decide +kernel
theorem dX7_letter_23 : decode cX7_letter 23 = .ok (.irem, 1) := by decide +kernel
theorem dX7_letter_24 : decode cX7_letter 24 = .ok (.imul, 1) := by decide +kernel
theorem dX7_letter_25 : decode cX7_letter 25 = .ok (.lshr, 1) := by decide +kernel
theorem dX7_letter_26 : decode cX7_letter 26 = .ok (.ldc2_w 62, 3) := by decide +kernel
theorem dX7_letter_29 : decode cX7_letter 29 = .ok (.land, 1) := by decide +kernel
theorem dX7_letter_30 : decode cX7_letter 30 = .ok (.l2i, 1) := by decide +kernel
theorem dX7_letter_31 : decode cX7_letter 31 = .ok (.ireturn, 1) := by decide +kernel
theorem dX7_isWord_0 : decode cX7_isWord 0 = .ok (.iload_n 3, 1) := by decide +kernel
theorem dX7_isWord_1 : decode cX7_isWord 1 = .ok (.iload_n 2, 1) := by decide +kernel
theorem dX7_isWord_2 : decode cX7_isWord 2 = .ok (.iload_n 1, 1) := by decide +kernel
theorem dX7_isWord_3 : decode cX7_isWord 3 = .ok (.isub, 1) := by decide +kernel
theorem dX7_isWord_4 : decode cX7_isWord 4 = .ok (.invokestatic 121, 3) := by decide +kernel
theorem dX7_isWord_7 : decode cX7_isWord 7 = .ok (.ifCond .ne 7, 3) := by decide +kernel
theorem dX7_isWord_10 : decode cX7_isWord 10 = .ok (.iconst 1, 1) := by decide +kernel
theorem dX7_isWord_11 : decode cX7_isWord 11 = .ok (.goto 4, 3) := by decide +kernel
theorem dX7_isWord_14 : decode cX7_isWord 14 = .ok (.iconst 0, 1) := by decide +kernel
theorem dX7_isWord_15 : decode cX7_isWord 15 = .ok (.istore 4, 2) := by decide +kernel
theorem dX7_isWord_17 : decode cX7_isWord 17 = .ok (.iload_n 1, 1) := by decide +kernel
theorem dX7_isWord_18 : decode cX7_isWord 18 = .ok (.istore 5, 2) := by decide +kernel
theorem dX7_isWord_20 : decode cX7_isWord 20 = .ok (.iload 5, 2) := by decide +kernel
theorem dX7_isWord_22 : decode cX7_isWord 22 = .ok (.iload_n 2, 1) := by decide +kernel
theorem dX7_isWord_23 : decode cX7_isWord 23 = .ok (.if_icmp .ge 42, 3) := by decide +kernel
theorem dX7_isWord_26 : decode cX7_isWord 26 = .ok (.iload 4, 2) := by decide +kernel
theorem dX7_isWord_28 : decode cX7_isWord 28 = .ok (.ifCond .eq 37, 3) := by decide +kernel
theorem dX7_isWord_31 : decode cX7_isWord 31 = .ok (.aload_n 0, 1) := by decide +kernel
theorem dX7_isWord_32 : decode cX7_isWord 32 = .ok (.getfield 7, 3) := by decide +kernel
theorem dX7_isWord_35 : decode cX7_isWord 35 = .ok (.iload 5, 2) := by decide +kernel
theorem dX7_isWord_37 : decode cX7_isWord 37 = .ok (.iaload, 1) := by decide +kernel
theorem dX7_isWord_38 : decode cX7_isWord 38 = .ok (.invokestatic 91, 3) := by decide +kernel
theorem dX7_isWord_41 : decode cX7_isWord 41 = .ok (.iload_n 3, 1) := by decide +kernel
theorem dX7_isWord_42 : decode cX7_isWord 42 = .ok (.iload 5, 2) := by decide +kernel
theorem dX7_isWord_44 : decode cX7_isWord 44 = .ok (.iload_n 1, 1) := by decide +kernel
theorem dX7_isWord_45 : decode cX7_isWord 45 = .ok (.isub, 1) := by decide +kernel
theorem dX7_isWord_46 : decode cX7_isWord 46 = .ok (.invokestatic 121, 3) := by decide +kernel
theorem dX7_isWord_49 : decode cX7_isWord 49 = .ok (.if_icmp .ne 7, 3) := by decide +kernel
theorem dX7_isWord_52 : decode cX7_isWord 52 = .ok (.iconst 1, 1) := by decide +kernel
theorem dX7_isWord_53 : decode cX7_isWord 53 = .ok (.goto 4, 3) := by decide +kernel
theorem dX7_isWord_56 : decode cX7_isWord 56 = .ok (.iconst 0, 1) := by decide +kernel
theorem dX7_isWord_57 : decode cX7_isWord 57 = .ok (.istore 4, 2) := by decide +kernel
theorem dX7_isWord_59 : decode cX7_isWord 59 = .ok (.iinc 5 1, 3) := by decide +kernel
theorem dX7_isWord_62 : decode cX7_isWord 62 = .ok (.goto (-42), 3) := by decide +kernel
theorem dX7_isWord_65 : decode cX7_isWord 65 = .ok (.iload 4, 2) := by decide +kernel
theorem dX7_isWord_67 : decode cX7_isWord 67 = .ok (.ireturn, 1) := by decide +kernel
theorem dX7_isGap_0 : decode cX7_isGap 0 = .ok (.iload_n 0, 1) := by decide +kernel
theorem dX7_isGap_1 : decode cX7_isGap 1 = .ok (.bipush 32, 2) := by decide +kernel
theorem dX7_isGap_3 : decode cX7_isGap 3 = .ok (.if_icmp .eq 9, 3) := by decide +kernel
theorem dX7_isGap_6 : decode cX7_isGap 6 = .ok (.iload_n 0, 1) := by decide +kernel
theorem dX7_isGap_7 : decode cX7_isGap 7 = .ok (.bipush 9, 2) := by decide +kernel
theorem dX7_isGap_9 : decode cX7_isGap 9 = .ok (.if_icmp .ne 7, 3) := by decide +kernel
theorem dX7_isGap_12 : decode cX7_isGap 12 = .ok (.iconst 1, 1) := by decide +kernel
theorem dX7_isGap_13 : decode cX7_isGap 13 = .ok (.goto 4, 3) := by decide +kernel
theorem dX7_isGap_16 : decode cX7_isGap 16 = .ok (.iconst 0, 1) := by decide +kernel
theorem dX7_isGap_17 : decode cX7_isGap 17 = .ok (.ireturn, 1) := by decide +kernel
theorem dX7_begin_0 : decode cX7_begin 0 = .ok (.iload_n 1, 1) := by decide +kernel
theorem dX7_begin_1 : decode cX7_begin 1 = .ok (.istore_n 3, 1) := by decide +kernel
theorem dX7_begin_2 : decode cX7_begin 2 = .ok (.iload_n 3, 1) := by decide +kernel
theorem dX7_begin_3 : decode cX7_begin 3 = .ok (.iload_n 2, 1) := by decide +kernel
theorem dX7_begin_4 : decode cX7_begin 4 = .ok (.if_icmp .ge 21, 3) := by decide +kernel
theorem dX7_begin_7 : decode cX7_begin 7 = .ok (.aload_n 0, 1) := by decide +kernel
theorem dX7_begin_8 : decode cX7_begin 8 = .ok (.getfield 7, 3) := by decide +kernel
theorem dX7_begin_11 : decode cX7_begin 11 = .ok (.iload_n 3, 1) := by decide +kernel
theorem dX7_begin_12 : decode cX7_begin 12 = .ok (.iaload, 1) := by decide +kernel
theorem dX7_begin_13 : decode cX7_begin 13 = .ok (.invokestatic 125, 3) := by decide +kernel
theorem dX7_begin_16 : decode cX7_begin 16 = .ok (.ifCond .eq 9, 3) := by decide +kernel
theorem dX7_begin_19 : decode cX7_begin 19 = .ok (.iinc 3 1, 3) := by decide +kernel
theorem dX7_begin_22 : decode cX7_begin 22 = .ok (.goto (-20), 3) := by decide +kernel
theorem dX7_begin_25 : decode cX7_begin 25 = .ok (.iload_n 3, 1) := by decide +kernel
theorem dX7_begin_26 : decode cX7_begin 26 = .ok (.ireturn, 1) := by decide +kernel
theorem dX7_end_0 : decode cX7_end 0 = .ok (.iload_n 2, 1) := by decide +kernel
theorem dX7_end_1 : decode cX7_end 1 = .ok (.istore_n 3, 1) := by decide +kernel
theorem dX7_end_2 : decode cX7_end 2 = .ok (.iload_n 3, 1) := by decide +kernel
theorem dX7_end_3 : decode cX7_end 3 = .ok (.iload_n 1, 1) := by decide +kernel
theorem dX7_end_4 : decode cX7_end 4 = .ok (.if_icmp .le 23, 3) := by decide +kernel
theorem dX7_end_7 : decode cX7_end 7 = .ok (.aload_n 0, 1) := by decide +kernel
theorem dX7_end_8 : decode cX7_end 8 = .ok (.getfield 7, 3) := by decide +kernel
theorem dX7_end_11 : decode cX7_end 11 = .ok (.iload_n 3, 1) := by decide +kernel
theorem dX7_end_12 : decode cX7_end 12 = .ok (.iconst 1, 1) := by decide +kernel
theorem dX7_end_13 : decode cX7_end 13 = .ok (.isub, 1) := by decide +kernel
theorem dX7_end_14 : decode cX7_end 14 = .ok (.iaload, 1) := by decide +kernel
theorem dX7_end_15 : decode cX7_end 15 = .ok (.invokestatic 125, 3) := by decide +kernel
theorem dX7_end_18 : decode cX7_end 18 = .ok (.ifCond .eq 9, 3) := by decide +kernel
theorem dX7_end_21 : decode cX7_end 21 = .ok (.iinc 3 (-1), 3) := by decide +kernel
theorem dX7_end_24 : decode cX7_end 24 = .ok (.goto (-22), 3) := by decide +kernel
theorem dX7_end_27 : decode cX7_end 27 = .ok (.iload_n 3, 1) := by decide +kernel
theorem dX7_end_28 : decode cX7_end 28 = .ok (.ireturn, 1) := by decide +kernel
theorem dX7_isFirst_0 : decode cX7_isFirst 0 = .ok (.iload_n 1, 1) := by decide +kernel
theorem dX7_isFirst_1 : decode cX7_isFirst 1 = .ok (.bipush 13, 2) := by decide +kernel
theorem dX7_isFirst_3 : decode cX7_isFirst 3 = .ok (.if_icmp .le 172, 3) := by decide +kernel
theorem dX7_isFirst_6 : decode cX7_isFirst 6 = .ok (.aload_n 0, 1) := by decide +kernel
theorem dX7_isFirst_7 : decode cX7_isFirst 7 = .ok (.getfield 7, 3) := by decide +kernel
theorem dX7_isFirst_10 : decode cX7_isFirst 10 = .ok (.iconst 0, 1) := by decide +kernel
theorem dX7_isFirst_11 : decode cX7_isFirst 11 = .ok (.iaload, 1) := by decide +kernel
theorem dX7_isFirst_12 : decode cX7_isFirst 12 = .ok (.bipush 71, 2) := by decide +kernel
theorem dX7_isFirst_14 : decode cX7_isFirst 14 = .ok (.if_icmp .ne 161, 3) := by decide +kernel
theorem dX7_isFirst_17 : decode cX7_isFirst 17 = .ok (.aload_n 0, 1) := by decide +kernel
theorem dX7_isFirst_18 : decode cX7_isFirst 18 = .ok (.getfield 7, 3) := by decide +kernel
theorem dX7_isFirst_21 : decode cX7_isFirst 21 = .ok (.iconst 1, 1) := by decide +kernel
theorem dX7_isFirst_22 : decode cX7_isFirst 22 = .ok (.iaload, 1) := by decide +kernel
theorem dX7_isFirst_23 : decode cX7_isFirst 23 = .ok (.bipush 69, 2) := by decide +kernel
theorem dX7_isFirst_25 : decode cX7_isFirst 25 = .ok (.if_icmp .ne 150, 3) := by decide +kernel
theorem dX7_isFirst_28 : decode cX7_isFirst 28 = .ok (.aload_n 0, 1) := by decide +kernel
theorem dX7_isFirst_29 : decode cX7_isFirst 29 = .ok (.getfield 7, 3) := by decide +kernel
theorem dX7_isFirst_32 : decode cX7_isFirst 32 = .ok (.iconst 2, 1) := by decide +kernel
theorem dX7_isFirst_33 : decode cX7_isFirst 33 = .ok (.iaload, 1) := by decide +kernel
theorem dX7_isFirst_34 : decode cX7_isFirst 34 = .ok (.bipush 84, 2) := by decide +kernel
theorem dX7_isFirst_36 : decode cX7_isFirst 36 = .ok (.if_icmp .ne 139, 3) := by decide +kernel
theorem dX7_isFirst_39 : decode cX7_isFirst 39 = .ok (.aload_n 0, 1) := by decide +kernel
theorem dX7_isFirst_40 : decode cX7_isFirst 40 = .ok (.getfield 7, 3) := by decide +kernel
theorem dX7_isFirst_43 : decode cX7_isFirst 43 = .ok (.iconst 3, 1) := by decide +kernel
theorem dX7_isFirst_44 : decode cX7_isFirst 44 = .ok (.iaload, 1) := by decide +kernel
theorem dX7_isFirst_45 : decode cX7_isFirst 45 = .ok (.bipush 32, 2) := by decide +kernel
theorem dX7_isFirst_47 : decode cX7_isFirst 47 = .ok (.if_icmp .ne 128, 3) := by decide +kernel
theorem dX7_isFirst_50 : decode cX7_isFirst 50 = .ok (.aload_n 0, 1) := by decide +kernel
theorem dX7_isFirst_51 : decode cX7_isFirst 51 = .ok (.getfield 7, 3) := by decide +kernel
theorem dX7_isFirst_54 : decode cX7_isFirst 54 = .ok (.iload_n 1, 1) := by decide +kernel
theorem dX7_isFirst_55 : decode cX7_isFirst 55 = .ok (.bipush 9, 2) := by decide +kernel
theorem dX7_isFirst_57 : decode cX7_isFirst 57 = .ok (.isub, 1) := by decide +kernel
theorem dX7_isFirst_58 : decode cX7_isFirst 58 = .ok (.iaload, 1) := by decide +kernel
theorem dX7_isFirst_59 : decode cX7_isFirst 59 = .ok (.bipush 32, 2) := by decide +kernel
theorem dX7_isFirst_61 : decode cX7_isFirst 61 = .ok (.if_icmp .ne 114, 3) := by decide +kernel
theorem dX7_isFirst_64 : decode cX7_isFirst 64 = .ok (.aload_n 0, 1) := by decide +kernel
theorem dX7_isFirst_65 : decode cX7_isFirst 65 = .ok (.getfield 7, 3) := by decide +kernel
theorem dX7_isFirst_68 : decode cX7_isFirst 68 = .ok (.iload_n 1, 1) := by decide +kernel
theorem dX7_isFirst_69 : decode cX7_isFirst 69 = .ok (.bipush 8, 2) := by decide +kernel
theorem dX7_isFirst_71 : decode cX7_isFirst 71 = .ok (.isub, 1) := by decide +kernel
theorem dX7_isFirst_72 : decode cX7_isFirst 72 = .ok (.iaload, 1) := by decide +kernel
theorem dX7_isFirst_73 : decode cX7_isFirst 73 = .ok (.bipush 72, 2) := by decide +kernel
theorem dX7_isFirst_75 : decode cX7_isFirst 75 = .ok (.if_icmp .ne 100, 3) := by decide +kernel
theorem dX7_isFirst_78 : decode cX7_isFirst 78 = .ok (.aload_n 0, 1) := by decide +kernel
theorem dX7_isFirst_79 : decode cX7_isFirst 79 = .ok (.getfield 7, 3) := by decide +kernel
theorem dX7_isFirst_82 : decode cX7_isFirst 82 = .ok (.iload_n 1, 1) := by decide +kernel
theorem dX7_isFirst_83 : decode cX7_isFirst 83 = .ok (.bipush 7, 2) := by decide +kernel
theorem dX7_isFirst_85 : decode cX7_isFirst 85 = .ok (.isub, 1) := by decide +kernel
theorem dX7_isFirst_86 : decode cX7_isFirst 86 = .ok (.iaload, 1) := by decide +kernel
theorem dX7_isFirst_87 : decode cX7_isFirst 87 = .ok (.bipush 84, 2) := by decide +kernel
theorem dX7_isFirst_89 : decode cX7_isFirst 89 = .ok (.if_icmp .ne 86, 3) := by decide +kernel
theorem dX7_isFirst_92 : decode cX7_isFirst 92 = .ok (.aload_n 0, 1) := by decide +kernel
theorem dX7_isFirst_93 : decode cX7_isFirst 93 = .ok (.getfield 7, 3) := by decide +kernel
theorem dX7_isFirst_96 : decode cX7_isFirst 96 = .ok (.iload_n 1, 1) := by decide +kernel
theorem dX7_isFirst_97 : decode cX7_isFirst 97 = .ok (.bipush 6, 2) := by decide +kernel
theorem dX7_isFirst_99 : decode cX7_isFirst 99 = .ok (.isub, 1) := by decide +kernel
theorem dX7_isFirst_100 : decode cX7_isFirst 100 = .ok (.iaload, 1) := by decide +kernel
theorem dX7_isFirst_101 : decode cX7_isFirst 101 = .ok (.bipush 84, 2) := by decide +kernel
theorem dX7_isFirst_103 : decode cX7_isFirst 103 = .ok (.if_icmp .ne 72, 3) := by decide +kernel
theorem dX7_isFirst_106 : decode cX7_isFirst 106 = .ok (.aload_n 0, 1) := by decide +kernel
theorem dX7_isFirst_107 : decode cX7_isFirst 107 = .ok (.getfield 7, 3) := by decide +kernel
theorem dX7_isFirst_110 : decode cX7_isFirst 110 = .ok (.iload_n 1, 1) := by decide +kernel
theorem dX7_isFirst_111 : decode cX7_isFirst 111 = .ok (.iconst 5, 1) := by decide +kernel
theorem dX7_isFirst_112 : decode cX7_isFirst 112 = .ok (.isub, 1) := by decide +kernel
theorem dX7_isFirst_113 : decode cX7_isFirst 113 = .ok (.iaload, 1) := by decide +kernel
theorem dX7_isFirst_114 : decode cX7_isFirst 114 = .ok (.bipush 80, 2) := by decide +kernel
theorem dX7_isFirst_116 : decode cX7_isFirst 116 = .ok (.if_icmp .ne 59, 3) := by decide +kernel
theorem dX7_isFirst_119 : decode cX7_isFirst 119 = .ok (.aload_n 0, 1) := by decide +kernel
theorem dX7_isFirst_120 : decode cX7_isFirst 120 = .ok (.getfield 7, 3) := by decide +kernel
theorem dX7_isFirst_123 : decode cX7_isFirst 123 = .ok (.iload_n 1, 1) := by decide +kernel
theorem dX7_isFirst_124 : decode cX7_isFirst 124 = .ok (.iconst 4, 1) := by decide +kernel
theorem dX7_isFirst_125 : decode cX7_isFirst 125 = .ok (.isub, 1) := by decide +kernel
theorem dX7_isFirst_126 : decode cX7_isFirst 126 = .ok (.iaload, 1) := by decide +kernel
theorem dX7_isFirst_127 : decode cX7_isFirst 127 = .ok (.bipush 47, 2) := by decide +kernel
theorem dX7_isFirst_129 : decode cX7_isFirst 129 = .ok (.if_icmp .ne 46, 3) := by decide +kernel
theorem dX7_isFirst_132 : decode cX7_isFirst 132 = .ok (.aload_n 0, 1) := by decide +kernel
theorem dX7_isFirst_133 : decode cX7_isFirst 133 = .ok (.getfield 7, 3) := by decide +kernel
theorem dX7_isFirst_136 : decode cX7_isFirst 136 = .ok (.iload_n 1, 1) := by decide +kernel
theorem dX7_isFirst_137 : decode cX7_isFirst 137 = .ok (.iconst 3, 1) := by decide +kernel
theorem dX7_isFirst_138 : decode cX7_isFirst 138 = .ok (.isub, 1) := by decide +kernel
theorem dX7_isFirst_139 : decode cX7_isFirst 139 = .ok (.iaload, 1) := by decide +kernel
theorem dX7_isFirst_140 : decode cX7_isFirst 140 = .ok (.bipush 49, 2) := by decide +kernel
theorem dX7_isFirst_142 : decode cX7_isFirst 142 = .ok (.if_icmp .ne 33, 3) := by decide +kernel
theorem dX7_isFirst_145 : decode cX7_isFirst 145 = .ok (.aload_n 0, 1) := by decide +kernel
theorem dX7_isFirst_146 : decode cX7_isFirst 146 = .ok (.getfield 7, 3) := by decide +kernel
theorem dX7_isFirst_149 : decode cX7_isFirst 149 = .ok (.iload_n 1, 1) := by decide +kernel
theorem dX7_isFirst_150 : decode cX7_isFirst 150 = .ok (.iconst 2, 1) := by decide +kernel
theorem dX7_isFirst_151 : decode cX7_isFirst 151 = .ok (.isub, 1) := by decide +kernel
theorem dX7_isFirst_152 : decode cX7_isFirst 152 = .ok (.iaload, 1) := by decide +kernel
theorem dX7_isFirst_153 : decode cX7_isFirst 153 = .ok (.bipush 46, 2) := by decide +kernel
theorem dX7_isFirst_155 : decode cX7_isFirst 155 = .ok (.if_icmp .ne 20, 3) := by decide +kernel
theorem dX7_isFirst_158 : decode cX7_isFirst 158 = .ok (.aload_n 0, 1) := by decide +kernel
theorem dX7_isFirst_159 : decode cX7_isFirst 159 = .ok (.getfield 7, 3) := by decide +kernel
theorem dX7_isFirst_162 : decode cX7_isFirst 162 = .ok (.iload_n 1, 1) := by decide +kernel
theorem dX7_isFirst_163 : decode cX7_isFirst 163 = .ok (.iconst 1, 1) := by decide +kernel
theorem dX7_isFirst_164 : decode cX7_isFirst 164 = .ok (.isub, 1) := by decide +kernel
theorem dX7_isFirst_165 : decode cX7_isFirst 165 = .ok (.iaload, 1) := by decide +kernel
theorem dX7_isFirst_166 : decode cX7_isFirst 166 = .ok (.bipush 49, 2) := by decide +kernel
theorem dX7_isFirst_168 : decode cX7_isFirst 168 = .ok (.if_icmp .ne 7, 3) := by decide +kernel
theorem dX7_isFirst_171 : decode cX7_isFirst 171 = .ok (.iconst 1, 1) := by decide +kernel
theorem dX7_isFirst_172 : decode cX7_isFirst 172 = .ok (.goto 4, 3) := by decide +kernel
theorem dX7_isFirst_175 : decode cX7_isFirst 175 = .ok (.iconst 0, 1) := by decide +kernel
theorem dX7_isFirst_176 : decode cX7_isFirst 176 = .ok (.istore_n 2, 1) := by decide +kernel
theorem dX7_isFirst_177 : decode cX7_isFirst 177 = .ok (.iconst 4, 1) := by decide +kernel
theorem dX7_isFirst_178 : decode cX7_isFirst 178 = .ok (.istore_n 3, 1) := by decide +kernel
theorem dX7_isFirst_179 : decode cX7_isFirst 179 = .ok (.iload_n 3, 1) := by decide +kernel
theorem dX7_isFirst_180 : decode cX7_isFirst 180 = .ok (.iload_n 1, 1) := by decide +kernel
theorem dX7_isFirst_181 : decode cX7_isFirst 181 = .ok (.bipush 9, 2) := by decide +kernel
theorem dX7_isFirst_183 : decode cX7_isFirst 183 = .ok (.isub, 1) := by decide +kernel
theorem dX7_isFirst_184 : decode cX7_isFirst 184 = .ok (.if_icmp .ge 41, 3) := by decide +kernel
theorem dX7_isFirst_187 : decode cX7_isFirst 187 = .ok (.iload_n 2, 1) := by decide +kernel
theorem dX7_isFirst_188 : decode cX7_isFirst 188 = .ok (.ifCond .eq 29, 3) := by decide +kernel
theorem dX7_isFirst_191 : decode cX7_isFirst 191 = .ok (.aload_n 0, 1) := by decide +kernel
theorem dX7_isFirst_192 : decode cX7_isFirst 192 = .ok (.getfield 7, 3) := by decide +kernel
theorem dX7_isFirst_195 : decode cX7_isFirst 195 = .ok (.iload_n 3, 1) := by decide +kernel
theorem dX7_isFirst_196 : decode cX7_isFirst 196 = .ok (.iaload, 1) := by decide +kernel
theorem dX7_isFirst_197 : decode cX7_isFirst 197 = .ok (.bipush 32, 2) := by decide +kernel
theorem dX7_isFirst_199 : decode cX7_isFirst 199 = .ok (.if_icmp .le 18, 3) := by decide +kernel
theorem dX7_isFirst_202 : decode cX7_isFirst 202 = .ok (.aload_n 0, 1) := by decide +kernel
theorem dX7_isFirst_203 : decode cX7_isFirst 203 = .ok (.getfield 7, 3) := by decide +kernel
theorem dX7_isFirst_206 : decode cX7_isFirst 206 = .ok (.iload_n 3, 1) := by decide +kernel
theorem dX7_isFirst_207 : decode cX7_isFirst 207 = .ok (.iaload, 1) := by decide +kernel
theorem dX7_isFirst_208 : decode cX7_isFirst 208 = .ok (.bipush 127, 2) := by decide +kernel
theorem dX7_isFirst_210 : decode cX7_isFirst 210 = .ok (.if_icmp .ge 7, 3) := by decide +kernel
theorem dX7_isFirst_213 : decode cX7_isFirst 213 = .ok (.iconst 1, 1) := by decide +kernel
theorem dX7_isFirst_214 : decode cX7_isFirst 214 = .ok (.goto 4, 3) := by decide +kernel
theorem dX7_isFirst_217 : decode cX7_isFirst 217 = .ok (.iconst 0, 1) := by decide +kernel
theorem dX7_isFirst_218 : decode cX7_isFirst 218 = .ok (.istore_n 2, 1) := by decide +kernel
theorem dX7_isFirst_219 : decode cX7_isFirst 219 = .ok (.iinc 3 1, 3) := by decide +kernel
theorem dX7_isFirst_222 : decode cX7_isFirst 222 = .ok (.goto (-43), 3) := by decide +kernel
theorem dX7_isFirst_225 : decode cX7_isFirst 225 = .ok (.iload_n 2, 1) := by decide +kernel
theorem dX7_isFirst_226 : decode cX7_isFirst 226 = .ok (.ireturn, 1) := by decide +kernel
theorem dX7_takeLine_0 : decode cX7_takeLine 0 = .ok (.iload_n 1, 1) := by decide +kernel
theorem dX7_takeLine_1 : decode cX7_takeLine 1 = .ok (.istore_n 3, 1) := by decide +kernel
theorem dX7_takeLine_2 : decode cX7_takeLine 2 = .ok (.iload_n 3, 1) := by decide +kernel
theorem dX7_takeLine_3 : decode cX7_takeLine 3 = .ok (.iload_n 2, 1) := by decide +kernel
theorem dX7_takeLine_4 : decode cX7_takeLine 4 = .ok (.if_icmp .ge 44, 3) := by decide +kernel
theorem dX7_takeLine_7 : decode cX7_takeLine 7 = .ok (.aload_n 0, 1) := by decide +kernel
theorem dX7_takeLine_8 : decode cX7_takeLine 8 = .ok (.getfield 7, 3) := by decide +kernel
theorem dX7_takeLine_11 : decode cX7_takeLine 11 = .ok (.iload_n 3, 1) := by decide +kernel
theorem dX7_takeLine_12 : decode cX7_takeLine 12 = .ok (.iaload, 1) := by decide +kernel
theorem dX7_takeLine_13 : decode cX7_takeLine 13 = .ok (.invokestatic 128, 3) := by decide +kernel
theorem dX7_takeLine_16 : decode cX7_takeLine 16 = .ok (.ifCond .ne 26, 3) := by decide +kernel
theorem dX7_takeLine_19 : decode cX7_takeLine 19 = .ok (.aload_n 0, 1) := by decide +kernel
theorem dX7_takeLine_20 : decode cX7_takeLine 20 = .ok (.getfield 7, 3) := by decide +kernel
theorem dX7_takeLine_23 : decode cX7_takeLine 23 = .ok (.iload_n 3, 1) := by decide +kernel
theorem dX7_takeLine_24 : decode cX7_takeLine 24 = .ok (.iaload, 1) := by decide +kernel
theorem dX7_takeLine_25 : decode cX7_takeLine 25 = .ok (.invokestatic 131, 3) := by decide +kernel
theorem dX7_takeLine_28 : decode cX7_takeLine 28 = .ok (.ifCond .ne 14, 3) := by decide +kernel
theorem dX7_takeLine_31 : decode cX7_takeLine 31 = .ok (.aload_n 0, 1) := by decide +kernel
theorem dX7_takeLine_32 : decode cX7_takeLine 32 = .ok (.getfield 7, 3) := by decide +kernel
theorem dX7_takeLine_35 : decode cX7_takeLine 35 = .ok (.iload_n 3, 1) := by decide +kernel
theorem dX7_takeLine_36 : decode cX7_takeLine 36 = .ok (.iaload, 1) := by decide +kernel
theorem dX7_takeLine_37 : decode cX7_takeLine 37 = .ok (.bipush 45, 2) := by decide +kernel
theorem dX7_takeLine_39 : decode cX7_takeLine 39 = .ok (.if_icmp .ne 9, 3) := by decide +kernel
theorem dX7_takeLine_42 : decode cX7_takeLine 42 = .ok (.iinc 3 1, 3) := by decide +kernel
theorem dX7_takeLine_45 : decode cX7_takeLine 45 = .ok (.goto (-43), 3) := by decide +kernel
theorem dX7_takeLine_48 : decode cX7_takeLine 48 = .ok (.iload_n 3, 1) := by decide +kernel
theorem dX7_takeLine_49 : decode cX7_takeLine 49 = .ok (.iload_n 1, 1) := by decide +kernel
theorem dX7_takeLine_50 : decode cX7_takeLine 50 = .ok (.if_icmp .le 23, 3) := by decide +kernel
theorem dX7_takeLine_53 : decode cX7_takeLine 53 = .ok (.iload_n 3, 1) := by decide +kernel
theorem dX7_takeLine_54 : decode cX7_takeLine 54 = .ok (.iload_n 2, 1) := by decide +kernel
theorem dX7_takeLine_55 : decode cX7_takeLine 55 = .ok (.if_icmp .ge 18, 3) := by decide +kernel
theorem dX7_takeLine_58 : decode cX7_takeLine 58 = .ok (.aload_n 0, 1) := by decide +kernel
theorem dX7_takeLine_59 : decode cX7_takeLine 59 = .ok (.getfield 7, 3) := by decide +kernel
theorem dX7_takeLine_62 : decode cX7_takeLine 62 = .ok (.iload_n 3, 1) := by decide +kernel
theorem dX7_takeLine_63 : decode cX7_takeLine 63 = .ok (.iaload, 1) := by decide +kernel
theorem dX7_takeLine_64 : decode cX7_takeLine 64 = .ok (.bipush 58, 2) := by decide +kernel
theorem dX7_takeLine_66 : decode cX7_takeLine 66 = .ok (.if_icmp .ne 7, 3) := by decide +kernel
theorem dX7_takeLine_69 : decode cX7_takeLine 69 = .ok (.iconst 1, 1) := by decide +kernel
theorem dX7_takeLine_70 : decode cX7_takeLine 70 = .ok (.goto 4, 3) := by decide +kernel
theorem dX7_takeLine_73 : decode cX7_takeLine 73 = .ok (.iconst 0, 1) := by decide +kernel
theorem dX7_takeLine_74 : decode cX7_takeLine 74 = .ok (.istore 4, 2) := by decide +kernel
theorem dX7_takeLine_76 : decode cX7_takeLine 76 = .ok (.iload_n 3, 1) := by decide +kernel
theorem dX7_takeLine_77 : decode cX7_takeLine 77 = .ok (.iconst 1, 1) := by decide +kernel
theorem dX7_takeLine_78 : decode cX7_takeLine 78 = .ok (.iadd, 1) := by decide +kernel
theorem dX7_takeLine_79 : decode cX7_takeLine 79 = .ok (.istore 5, 2) := by decide +kernel
theorem dX7_takeLine_81 : decode cX7_takeLine 81 = .ok (.iload 5, 2) := by decide +kernel
theorem dX7_takeLine_83 : decode cX7_takeLine 83 = .ok (.iload_n 2, 1) := by decide +kernel
theorem dX7_takeLine_84 : decode cX7_takeLine 84 = .ok (.if_icmp .ge 57, 3) := by decide +kernel
theorem dX7_takeLine_87 : decode cX7_takeLine 87 = .ok (.iload 4, 2) := by decide +kernel
theorem dX7_takeLine_89 : decode cX7_takeLine 89 = .ok (.ifCond .eq 43, 3) := by decide +kernel
theorem dX7_takeLine_92 : decode cX7_takeLine 92 = .ok (.aload_n 0, 1) := by decide +kernel
theorem dX7_takeLine_93 : decode cX7_takeLine 93 = .ok (.getfield 7, 3) := by decide +kernel
theorem dX7_takeLine_96 : decode cX7_takeLine 96 = .ok (.iload 5, 2) := by decide +kernel
theorem dX7_takeLine_98 : decode cX7_takeLine 98 = .ok (.iaload, 1) := by decide +kernel
theorem dX7_takeLine_99 : decode cX7_takeLine 99 = .ok (.bipush 9, 2) := by decide +kernel
theorem dX7_takeLine_101 : decode cX7_takeLine 101 = .ok (.if_icmp .eq 27, 3) := by decide +kernel
theorem dX7_takeLine_104 : decode cX7_takeLine 104 = .ok (.aload_n 0, 1) := by decide +kernel
theorem dX7_takeLine_105 : decode cX7_takeLine 105 = .ok (.getfield 7, 3) := by decide +kernel
theorem dX7_takeLine_108 : decode cX7_takeLine 108 = .ok (.iload 5, 2) := by decide +kernel
theorem dX7_takeLine_110 : decode cX7_takeLine 110 = .ok (.iaload, 1) := by decide +kernel
theorem dX7_takeLine_111 : decode cX7_takeLine 111 = .ok (.bipush 31, 2) := by decide +kernel
theorem dX7_takeLine_113 : decode cX7_takeLine 113 = .ok (.if_icmp .le 19, 3) := by decide +kernel
theorem dX7_takeLine_116 : decode cX7_takeLine 116 = .ok (.aload_n 0, 1) := by decide +kernel
theorem dX7_takeLine_117 : decode cX7_takeLine 117 = .ok (.getfield 7, 3) := by decide +kernel
theorem dX7_takeLine_120 : decode cX7_takeLine 120 = .ok (.iload 5, 2) := by decide +kernel
theorem dX7_takeLine_122 : decode cX7_takeLine 122 = .ok (.iaload, 1) := by decide +kernel
theorem dX7_takeLine_123 : decode cX7_takeLine 123 = .ok (.bipush 127, 2) := by decide +kernel
theorem dX7_takeLine_125 : decode cX7_takeLine 125 = .ok (.if_icmp .ge 7, 3) := by decide +kernel
theorem dX7_takeLine_128 : decode cX7_takeLine 128 = .ok (.iconst 1, 1) := by decide +kernel
theorem dX7_takeLine_129 : decode cX7_takeLine 129 = .ok (.goto 4, 3) := by decide +kernel
theorem dX7_takeLine_132 : decode cX7_takeLine 132 = .ok (.iconst 0, 1) := by decide +kernel
theorem dX7_takeLine_133 : decode cX7_takeLine 133 = .ok (.istore 4, 2) := by decide +kernel
theorem dX7_takeLine_135 : decode cX7_takeLine 135 = .ok (.iinc 5 1, 3) := by decide +kernel
theorem dX7_takeLine_138 : decode cX7_takeLine 138 = .ok (.goto (-57), 3) := by decide +kernel
theorem dX7_takeLine_141 : decode cX7_takeLine 141 = .ok (.iconst 0, 1) := by decide +kernel
theorem dX7_takeLine_142 : decode cX7_takeLine 142 = .ok (.istore 5, 2) := by decide +kernel
theorem dX7_takeLine_144 : decode cX7_takeLine 144 = .ok (.iload 5, 2) := by decide +kernel
theorem dX7_takeLine_146 : decode cX7_takeLine 146 = .ok (.iconst 5, 1) := by decide +kernel
theorem dX7_takeLine_147 : decode cX7_takeLine 147 = .ok (.if_icmp .ge 70, 3) := by decide +kernel
theorem dX7_takeLine_150 : decode cX7_takeLine 150 = .ok (.iload 4, 2) := by decide +kernel
theorem dX7_takeLine_152 : decode cX7_takeLine 152 = .ok (.ifCond .eq 65, 3) := by decide +kernel
theorem dX7_takeLine_155 : decode cX7_takeLine 155 = .ok (.aload_n 0, 1) := by decide +kernel
theorem dX7_takeLine_156 : decode cX7_takeLine 156 = .ok (.iload_n 1, 1) := by decide +kernel
theorem dX7_takeLine_157 : decode cX7_takeLine 157 = .ok (.iload_n 3, 1) := by decide +kernel
theorem dX7_takeLine_158 : decode cX7_takeLine 158 = .ok (.iload 5, 2) := by decide +kernel
theorem dX7_takeLine_160 : decode cX7_takeLine 160 = .ok (.invokevirtual 134, 3) := by decide +kernel
theorem dX7_takeLine_163 : decode cX7_takeLine 163 = .ok (.ifCond .eq 48, 3) := by decide +kernel
theorem dX7_takeLine_166 : decode cX7_takeLine 166 = .ok (.aload_n 0, 1) := by decide +kernel
theorem dX7_takeLine_167 : decode cX7_takeLine 167 = .ok (.getfield 13, 3) := by decide +kernel
theorem dX7_takeLine_170 : decode cX7_takeLine 170 = .ok (.iload 5, 2) := by decide +kernel
theorem dX7_takeLine_172 : decode cX7_takeLine 172 = .ok (.dup2, 1) := by decide +kernel
theorem dX7_takeLine_173 : decode cX7_takeLine 173 = .ok (.iaload, 1) := by decide +kernel
theorem dX7_takeLine_174 : decode cX7_takeLine 174 = .ok (.iconst 1, 1) := by decide +kernel
theorem dX7_takeLine_175 : decode cX7_takeLine 175 = .ok (.iadd, 1) := by decide +kernel
theorem dX7_takeLine_176 : decode cX7_takeLine 176 = .ok (.iastore, 1) := by decide +kernel
theorem dX7_takeLine_177 : decode cX7_takeLine 177 = .ok (.aload_n 0, 1) := by decide +kernel
theorem dX7_takeLine_178 : decode cX7_takeLine 178 = .ok (.getfield 16, 3) := by decide +kernel
theorem dX7_takeLine_181 : decode cX7_takeLine 181 = .ok (.iload 5, 2) := by decide +kernel
theorem dX7_takeLine_183 : decode cX7_takeLine 183 = .ok (.aload_n 0, 1) := by decide +kernel
theorem dX7_takeLine_184 : decode cX7_takeLine 184 = .ok (.iload_n 3, 1) := by decide +kernel
theorem dX7_takeLine_185 : decode cX7_takeLine 185 = .ok (.iconst 1, 1) := by decide +kernel
theorem dX7_takeLine_186 : decode cX7_takeLine 186 = .ok (.iadd, 1) := by decide +kernel
theorem dX7_takeLine_187 : decode cX7_takeLine 187 = .ok (.iload_n 2, 1) := by decide +kernel
theorem dX7_takeLine_188 : decode cX7_takeLine 188 = .ok (.invokevirtual 138, 3) := by decide +kernel
theorem dX7_takeLine_191 : decode cX7_takeLine 191 = .ok (.iastore, 1) := by decide +kernel
theorem dX7_takeLine_192 : decode cX7_takeLine 192 = .ok (.aload_n 0, 1) := by decide +kernel
theorem dX7_takeLine_193 : decode cX7_takeLine 193 = .ok (.getfield 19, 3) := by decide +kernel
theorem dX7_takeLine_196 : decode cX7_takeLine 196 = .ok (.iload 5, 2) := by decide +kernel
theorem dX7_takeLine_198 : decode cX7_takeLine 198 = .ok (.aload_n 0, 1) := by decide +kernel
theorem dX7_takeLine_199 : decode cX7_takeLine 199 = .ok (.aload_n 0, 1) := by decide +kernel
theorem dX7_takeLine_200 : decode cX7_takeLine 200 = .ok (.getfield 16, 3) := by decide +kernel
theorem dX7_takeLine_203 : decode cX7_takeLine 203 = .ok (.iload 5, 2) := by decide +kernel
theorem dX7_takeLine_205 : decode cX7_takeLine 205 = .ok (.iaload, 1) := by decide +kernel
theorem dX7_takeLine_206 : decode cX7_takeLine 206 = .ok (.iload_n 2, 1) := by decide +kernel
theorem dX7_takeLine_207 : decode cX7_takeLine 207 = .ok (.invokevirtual 141, 3) := by decide +kernel
theorem dX7_takeLine_210 : decode cX7_takeLine 210 = .ok (.iastore, 1) := by decide +kernel
theorem dX7_takeLine_211 : decode cX7_takeLine 211 = .ok (.iinc 5 1, 3) := by decide +kernel
theorem dX7_takeLine_214 : decode cX7_takeLine 214 = .ok (.goto (-70), 3) := by decide +kernel
theorem dX7_takeLine_217 : decode cX7_takeLine 217 = .ok (.iload 4, 2) := by decide +kernel
theorem dX7_takeLine_219 : decode cX7_takeLine 219 = .ok (.ireturn, 1) := by decide +kernel
theorem dX7_hasWord_0 : decode cX7_hasWord 0 = .ok (.iconst 0, 1) := by decide +kernel
theorem dX7_hasWord_1 : decode cX7_hasWord 1 = .ok (.istore_n 3, 1) := by decide +kernel
theorem dX7_hasWord_2 : decode cX7_hasWord 2 = .ok (.aload_n 0, 1) := by decide +kernel
theorem dX7_hasWord_3 : decode cX7_hasWord 3 = .ok (.getfield 16, 3) := by decide +kernel
theorem dX7_hasWord_6 : decode cX7_hasWord 6 = .ok (.iload_n 1, 1) := by decide +kernel
theorem dX7_hasWord_7 : decode cX7_hasWord 7 = .ok (.iaload, 1) := by decide +kernel
theorem dX7_hasWord_8 : decode cX7_hasWord 8 = .ok (.istore 4, 2) := by decide +kernel
theorem dX7_hasWord_10 : decode cX7_hasWord 10 = .ok (.iload 4, 2) := by decide +kernel
theorem dX7_hasWord_12 : decode cX7_hasWord 12 = .ok (.istore 5, 2) := by decide +kernel
theorem dX7_hasWord_14 : decode cX7_hasWord 14 = .ok (.iload 5, 2) := by decide +kernel
theorem dX7_hasWord_16 : decode cX7_hasWord 16 = .ok (.aload_n 0, 1) := by decide +kernel
theorem dX7_hasWord_17 : decode cX7_hasWord 17 = .ok (.getfield 19, 3) := by decide +kernel
theorem dX7_hasWord_20 : decode cX7_hasWord 20 = .ok (.iload_n 1, 1) := by decide +kernel
theorem dX7_hasWord_21 : decode cX7_hasWord 21 = .ok (.iaload, 1) := by decide +kernel
theorem dX7_hasWord_22 : decode cX7_hasWord 22 = .ok (.if_icmp .gt 76, 3) := by decide +kernel
theorem dX7_hasWord_25 : decode cX7_hasWord 25 = .ok (.iload 5, 2) := by decide +kernel
theorem dX7_hasWord_27 : decode cX7_hasWord 27 = .ok (.aload_n 0, 1) := by decide +kernel
theorem dX7_hasWord_28 : decode cX7_hasWord 28 = .ok (.getfield 19, 3) := by decide +kernel
theorem dX7_hasWord_31 : decode cX7_hasWord 31 = .ok (.iload_n 1, 1) := by decide +kernel
theorem dX7_hasWord_32 : decode cX7_hasWord 32 = .ok (.iaload, 1) := by decide +kernel
theorem dX7_hasWord_33 : decode cX7_hasWord 33 = .ok (.if_icmp .eq 15, 3) := by decide +kernel
theorem dX7_hasWord_36 : decode cX7_hasWord 36 = .ok (.aload_n 0, 1) := by decide +kernel
theorem dX7_hasWord_37 : decode cX7_hasWord 37 = .ok (.getfield 7, 3) := by decide +kernel
theorem dX7_hasWord_40 : decode cX7_hasWord 40 = .ok (.iload 5, 2) := by decide +kernel
theorem dX7_hasWord_42 : decode cX7_hasWord 42 = .ok (.iaload, 1) := by decide +kernel
theorem dX7_hasWord_43 : decode cX7_hasWord 43 = .ok (.bipush 44, 2) := by decide +kernel
theorem dX7_hasWord_45 : decode cX7_hasWord 45 = .ok (.if_icmp .ne 47, 3) := by decide +kernel
theorem dX7_hasWord_48 : decode cX7_hasWord 48 = .ok (.aload_n 0, 1) := by decide +kernel
theorem dX7_hasWord_49 : decode cX7_hasWord 49 = .ok (.iload 4, 2) := by decide +kernel
theorem dX7_hasWord_51 : decode cX7_hasWord 51 = .ok (.iload 5, 2) := by decide +kernel
theorem dX7_hasWord_53 : decode cX7_hasWord 53 = .ok (.invokevirtual 138, 3) := by decide +kernel
theorem dX7_hasWord_56 : decode cX7_hasWord 56 = .ok (.istore 6, 2) := by decide +kernel
theorem dX7_hasWord_58 : decode cX7_hasWord 58 = .ok (.iload_n 3, 1) := by decide +kernel
theorem dX7_hasWord_59 : decode cX7_hasWord 59 = .ok (.ifCond .ne 21, 3) := by decide +kernel
theorem dX7_hasWord_62 : decode cX7_hasWord 62 = .ok (.aload_n 0, 1) := by decide +kernel
theorem dX7_hasWord_63 : decode cX7_hasWord 63 = .ok (.iload 6, 2) := by decide +kernel
theorem dX7_hasWord_65 : decode cX7_hasWord 65 = .ok (.aload_n 0, 1) := by decide +kernel
theorem dX7_hasWord_66 : decode cX7_hasWord 66 = .ok (.iload 6, 2) := by decide +kernel
theorem dX7_hasWord_68 : decode cX7_hasWord 68 = .ok (.iload 5, 2) := by decide +kernel
theorem dX7_hasWord_70 : decode cX7_hasWord 70 = .ok (.invokevirtual 141, 3) := by decide +kernel
theorem dX7_hasWord_73 : decode cX7_hasWord 73 = .ok (.iload_n 2, 1) := by decide +kernel
theorem dX7_hasWord_74 : decode cX7_hasWord 74 = .ok (.invokevirtual 134, 3) := by decide +kernel
theorem dX7_hasWord_77 : decode cX7_hasWord 77 = .ok (.ifCond .eq 7, 3) := by decide +kernel
theorem dX7_hasWord_80 : decode cX7_hasWord 80 = .ok (.iconst 1, 1) := by decide +kernel
theorem dX7_hasWord_81 : decode cX7_hasWord 81 = .ok (.goto 4, 3) := by decide +kernel
theorem dX7_hasWord_84 : decode cX7_hasWord 84 = .ok (.iconst 0, 1) := by decide +kernel
theorem dX7_hasWord_85 : decode cX7_hasWord 85 = .ok (.istore_n 3, 1) := by decide +kernel
theorem dX7_hasWord_86 : decode cX7_hasWord 86 = .ok (.iload 5, 2) := by decide +kernel
theorem dX7_hasWord_88 : decode cX7_hasWord 88 = .ok (.iconst 1, 1) := by decide +kernel
theorem dX7_hasWord_89 : decode cX7_hasWord 89 = .ok (.iadd, 1) := by decide +kernel
theorem dX7_hasWord_90 : decode cX7_hasWord 90 = .ok (.istore 4, 2) := by decide +kernel
theorem dX7_hasWord_92 : decode cX7_hasWord 92 = .ok (.iinc 5 1, 3) := by decide +kernel
theorem dX7_hasWord_95 : decode cX7_hasWord 95 = .ok (.goto (-81), 3) := by decide +kernel
theorem dX7_hasWord_98 : decode cX7_hasWord 98 = .ok (.iload_n 3, 1) := by decide +kernel
theorem dX7_hasWord_99 : decode cX7_hasWord 99 = .ok (.ireturn, 1) := by decide +kernel
theorem dX7_isBase64_0 : decode cX7_isBase64 0 = .ok (.iload_n 0, 1) := by decide +kernel
theorem dX7_isBase64_1 : decode cX7_isBase64 1 = .ok (.invokestatic 128, 3) := by decide +kernel
theorem dX7_isBase64_4 : decode cX7_isBase64 4 = .ok (.ifCond .ne 22, 3) := by decide +kernel
theorem dX7_isBase64_7 : decode cX7_isBase64 7 = .ok (.iload_n 0, 1) := by decide +kernel
theorem dX7_isBase64_8 : decode cX7_isBase64 8 = .ok (.invokestatic 131, 3) := by decide +kernel
theorem dX7_isBase64_11 : decode cX7_isBase64 11 = .ok (.ifCond .ne 15, 3) := by decide +kernel
theorem dX7_isBase64_14 : decode cX7_isBase64 14 = .ok (.iload_n 0, 1) := by decide +kernel
theorem dX7_isBase64_15 : decode cX7_isBase64 15 = .ok (.bipush 43, 2) := by decide +kernel
theorem dX7_isBase64_17 : decode cX7_isBase64 17 = .ok (.if_icmp .eq 9, 3) := by decide +kernel
theorem dX7_isBase64_20 : decode cX7_isBase64 20 = .ok (.iload_n 0, 1) := by decide +kernel
theorem dX7_isBase64_21 : decode cX7_isBase64 21 = .ok (.bipush 47, 2) := by decide +kernel
theorem dX7_isBase64_23 : decode cX7_isBase64 23 = .ok (.if_icmp .ne 7, 3) := by decide +kernel
theorem dX7_isBase64_26 : decode cX7_isBase64 26 = .ok (.iconst 1, 1) := by decide +kernel
theorem dX7_isBase64_27 : decode cX7_isBase64 27 = .ok (.goto 4, 3) := by decide +kernel
theorem dX7_isBase64_30 : decode cX7_isBase64 30 = .ok (.iconst 0, 1) := by decide +kernel
theorem dX7_isBase64_31 : decode cX7_isBase64 31 = .ok (.ireturn, 1) := by decide +kernel
theorem dX7_isKey_0 : decode cX7_isKey 0 = .ok (.iload_n 2, 1) := by decide +kernel
theorem dX7_isKey_1 : decode cX7_isKey 1 = .ok (.iload_n 1, 1) := by decide +kernel
theorem dX7_isKey_2 : decode cX7_isKey 2 = .ok (.isub, 1) := by decide +kernel
theorem dX7_isKey_3 : decode cX7_isKey 3 = .ok (.bipush 24, 2) := by decide +kernel
theorem dX7_isKey_5 : decode cX7_isKey 5 = .ok (.if_icmp .ne 33, 3) := by decide +kernel
theorem dX7_isKey_8 : decode cX7_isKey 8 = .ok (.aload_n 0, 1) := by decide +kernel
theorem dX7_isKey_9 : decode cX7_isKey 9 = .ok (.getfield 7, 3) := by decide +kernel
theorem dX7_isKey_12 : decode cX7_isKey 12 = .ok (.iload_n 2, 1) := by decide +kernel
theorem dX7_isKey_13 : decode cX7_isKey 13 = .ok (.iconst 1, 1) := by decide +kernel
theorem dX7_isKey_14 : decode cX7_isKey 14 = .ok (.isub, 1) := by decide +kernel
theorem dX7_isKey_15 : decode cX7_isKey 15 = .ok (.iaload, 1) := by decide +kernel
theorem dX7_isKey_16 : decode cX7_isKey 16 = .ok (.bipush 61, 2) := by decide +kernel
theorem dX7_isKey_18 : decode cX7_isKey 18 = .ok (.if_icmp .ne 20, 3) := by decide +kernel
theorem dX7_isKey_21 : decode cX7_isKey 21 = .ok (.aload_n 0, 1) := by decide +kernel
theorem dX7_isKey_22 : decode cX7_isKey 22 = .ok (.getfield 7, 3) := by decide +kernel
theorem dX7_isKey_25 : decode cX7_isKey 25 = .ok (.iload_n 2, 1) := by decide +kernel
theorem dX7_isKey_26 : decode cX7_isKey 26 = .ok (.iconst 2, 1) := by decide +kernel
theorem dX7_isKey_27 : decode cX7_isKey 27 = .ok (.isub, 1) := by decide +kernel
theorem dX7_isKey_28 : decode cX7_isKey 28 = .ok (.iaload, 1) := by decide +kernel
theorem dX7_isKey_29 : decode cX7_isKey 29 = .ok (.bipush 61, 2) := by decide +kernel
theorem dX7_isKey_31 : decode cX7_isKey 31 = .ok (.if_icmp .ne 7, 3) := by decide +kernel
theorem dX7_isKey_34 : decode cX7_isKey 34 = .ok (.iconst 1, 1) := by decide +kernel
theorem dX7_isKey_35 : decode cX7_isKey 35 = .ok (.goto 4, 3) := by decide +kernel
theorem dX7_isKey_38 : decode cX7_isKey 38 = .ok (.iconst 0, 1) := by decide +kernel
theorem dX7_isKey_39 : decode cX7_isKey 39 = .ok (.istore_n 3, 1) := by decide +kernel
theorem dX7_isKey_40 : decode cX7_isKey 40 = .ok (.iload_n 1, 1) := by decide +kernel
theorem dX7_isKey_41 : decode cX7_isKey 41 = .ok (.istore 4, 2) := by decide +kernel
theorem dX7_isKey_43 : decode cX7_isKey 43 = .ok (.iload 4, 2) := by decide +kernel
theorem dX7_isKey_45 : decode cX7_isKey 45 = .ok (.iload_n 2, 1) := by decide +kernel
theorem dX7_isKey_46 : decode cX7_isKey 46 = .ok (.iconst 2, 1) := by decide +kernel
theorem dX7_isKey_47 : decode cX7_isKey 47 = .ok (.isub, 1) := by decide +kernel
theorem dX7_isKey_48 : decode cX7_isKey 48 = .ok (.if_icmp .ge 24, 3) := by decide +kernel
theorem dX7_isKey_51 : decode cX7_isKey 51 = .ok (.iload_n 3, 1) := by decide +kernel
theorem dX7_isKey_52 : decode cX7_isKey 52 = .ok (.ifCond .eq 20, 3) := by decide +kernel
theorem dX7_isKey_55 : decode cX7_isKey 55 = .ok (.aload_n 0, 1) := by decide +kernel
theorem dX7_isKey_56 : decode cX7_isKey 56 = .ok (.getfield 7, 3) := by decide +kernel
theorem dX7_isKey_59 : decode cX7_isKey 59 = .ok (.iload 4, 2) := by decide +kernel
theorem dX7_isKey_61 : decode cX7_isKey 61 = .ok (.iaload, 1) := by decide +kernel
theorem dX7_isKey_62 : decode cX7_isKey 62 = .ok (.invokestatic 144, 3) := by decide +kernel
theorem dX7_isKey_65 : decode cX7_isKey 65 = .ok (.istore_n 3, 1) := by decide +kernel
theorem dX7_isKey_66 : decode cX7_isKey 66 = .ok (.iinc 4 1, 3) := by decide +kernel
theorem dX7_isKey_69 : decode cX7_isKey 69 = .ok (.goto (-26), 3) := by decide +kernel
theorem dX7_isKey_72 : decode cX7_isKey 72 = .ok (.iload_n 3, 1) := by decide +kernel
theorem dX7_isKey_73 : decode cX7_isKey 73 = .ok (.ifCond .eq 14, 3) := by decide +kernel
theorem dX7_isKey_76 : decode cX7_isKey 76 = .ok (.aload_n 0, 1) := by decide +kernel
theorem dX7_isKey_77 : decode cX7_isKey 77 = .ok (.getfield 7, 3) := by decide +kernel
theorem dX7_isKey_80 : decode cX7_isKey 80 = .ok (.iload_n 2, 1) := by decide +kernel
theorem dX7_isKey_81 : decode cX7_isKey 81 = .ok (.iconst 3, 1) := by decide +kernel
theorem dX7_isKey_82 : decode cX7_isKey 82 = .ok (.isub, 1) := by decide +kernel
theorem dX7_isKey_83 : decode cX7_isKey 83 = .ok (.iaload, 1) := by decide +kernel
theorem dX7_isKey_84 : decode cX7_isKey 84 = .ok (.goto 4, 3) := by decide +kernel
theorem dX7_isKey_87 : decode cX7_isKey 87 = .ok (.iconst 0, 1) := by decide +kernel
theorem dX7_isKey_88 : decode cX7_isKey 88 = .ok (.istore 4, 2) := by decide +kernel
theorem dX7_isKey_90 : decode cX7_isKey 90 = .ok (.iload 4, 2) := by decide +kernel
theorem dX7_isKey_92 : decode cX7_isKey 92 = .ok (.bipush 65, 2) := by decide +kernel
theorem dX7_isKey_94 : decode cX7_isKey 94 = .ok (.if_icmp .eq 24, 3) := by decide +kernel
theorem dX7_isKey_97 : decode cX7_isKey 97 = .ok (.iload 4, 2) := by decide +kernel
theorem dX7_isKey_99 : decode cX7_isKey 99 = .ok (.bipush 81, 2) := by decide +kernel
theorem dX7_isKey_101 : decode cX7_isKey 101 = .ok (.if_icmp .eq 17, 3) := by decide +kernel
theorem dX7_isKey_104 : decode cX7_isKey 104 = .ok (.iload 4, 2) := by decide +kernel
theorem dX7_isKey_106 : decode cX7_isKey 106 = .ok (.bipush 103, 2) := by decide +kernel
theorem dX7_isKey_108 : decode cX7_isKey 108 = .ok (.if_icmp .eq 10, 3) := by decide +kernel
theorem dX7_isKey_111 : decode cX7_isKey 111 = .ok (.iload 4, 2) := by decide +kernel
theorem dX7_isKey_113 : decode cX7_isKey 113 = .ok (.bipush 119, 2) := by decide +kernel
theorem dX7_isKey_115 : decode cX7_isKey 115 = .ok (.if_icmp .ne 7, 3) := by decide +kernel
theorem dX7_isKey_118 : decode cX7_isKey 118 = .ok (.iconst 1, 1) := by decide +kernel
theorem dX7_isKey_119 : decode cX7_isKey 119 = .ok (.goto 4, 3) := by decide +kernel
theorem dX7_isKey_122 : decode cX7_isKey 122 = .ok (.iconst 0, 1) := by decide +kernel
theorem dX7_isKey_123 : decode cX7_isKey 123 = .ok (.ireturn, 1) := by decide +kernel
theorem dX7_isRequest_0 : decode cX7_isRequest 0 = .ok (.iconst 1, 1) := by decide +kernel
theorem dX7_isRequest_1 : decode cX7_isRequest 1 = .ok (.istore_n 2, 1) := by decide +kernel
theorem dX7_isRequest_2 : decode cX7_isRequest 2 = .ok (.iconst 1, 1) := by decide +kernel
theorem dX7_isRequest_3 : decode cX7_isRequest 3 = .ok (.istore_n 3, 1) := by decide +kernel
theorem dX7_isRequest_4 : decode cX7_isRequest 4 = .ok (.iconst 0, 1) := by decide +kernel
theorem dX7_isRequest_5 : decode cX7_isRequest 5 = .ok (.istore 4, 2) := by decide +kernel
theorem dX7_isRequest_7 : decode cX7_isRequest 7 = .ok (.iconst 0, 1) := by decide +kernel
theorem dX7_isRequest_8 : decode cX7_isRequest 8 = .ok (.istore 5, 2) := by decide +kernel
theorem dX7_isRequest_10 : decode cX7_isRequest 10 = .ok (.iload 5, 2) := by decide +kernel
theorem dX7_isRequest_12 : decode cX7_isRequest 12 = .ok (.iconst 5, 1) := by decide +kernel
theorem dX7_isRequest_13 : decode cX7_isRequest 13 = .ok (.if_icmp .ge 17, 3) := by decide +kernel
theorem dX7_isRequest_16 : decode cX7_isRequest 16 = .ok (.aload_n 0, 1) := by decide +kernel
theorem dX7_isRequest_17 : decode cX7_isRequest 17 = .ok (.getfield 13, 3) := by decide +kernel
theorem dX7_isRequest_20 : decode cX7_isRequest 20 = .ok (.iload 5, 2) := by decide +kernel
theorem dX7_isRequest_22 : decode cX7_isRequest 22 = .ok (.iconst 0, 1) := by decide +kernel
theorem dX7_isRequest_23 : decode cX7_isRequest 23 = .ok (.iastore, 1) := by decide +kernel
theorem dX7_isRequest_24 : decode cX7_isRequest 24 = .ok (.iinc 5 1, 3) := by decide +kernel
theorem dX7_isRequest_27 : decode cX7_isRequest 27 = .ok (.goto (-17), 3) := by decide +kernel
theorem dX7_isRequest_30 : decode cX7_isRequest 30 = .ok (.iconst 0, 1) := by decide +kernel
theorem dX7_isRequest_31 : decode cX7_isRequest 31 = .ok (.istore 5, 2) := by decide +kernel
theorem dX7_isRequest_33 : decode cX7_isRequest 33 = .ok (.iload 5, 2) := by decide +kernel
theorem dX7_isRequest_35 : decode cX7_isRequest 35 = .ok (.iload_n 1, 1) := by decide +kernel
theorem dX7_isRequest_36 : decode cX7_isRequest 36 = .ok (.if_icmp .gt 75, 3) := by decide +kernel
theorem dX7_isRequest_39 : decode cX7_isRequest 39 = .ok (.iload_n 2, 1) := by decide +kernel
theorem dX7_isRequest_40 : decode cX7_isRequest 40 = .ok (.ifCond .eq 71, 3) := by decide +kernel
theorem dX7_isRequest_43 : decode cX7_isRequest 43 = .ok (.iload 5, 2) := by decide +kernel
theorem dX7_isRequest_45 : decode cX7_isRequest 45 = .ok (.iload_n 1, 1) := by decide +kernel
theorem dX7_isRequest_46 : decode cX7_isRequest 46 = .ok (.if_icmp .eq 29, 3) := by decide +kernel
theorem dX7_isRequest_49 : decode cX7_isRequest 49 = .ok (.aload_n 0, 1) := by decide +kernel
theorem dX7_isRequest_50 : decode cX7_isRequest 50 = .ok (.getfield 7, 3) := by decide +kernel
theorem dX7_isRequest_53 : decode cX7_isRequest 53 = .ok (.iload 5, 2) := by decide +kernel
theorem dX7_isRequest_55 : decode cX7_isRequest 55 = .ok (.iaload, 1) := by decide +kernel
theorem dX7_isRequest_56 : decode cX7_isRequest 56 = .ok (.bipush 13, 2) := by decide +kernel
theorem dX7_isRequest_58 : decode cX7_isRequest 58 = .ok (.if_icmp .ne 47, 3) := by decide +kernel
theorem dX7_isRequest_61 : decode cX7_isRequest 61 = .ok (.aload_n 0, 1) := by decide +kernel
theorem dX7_isRequest_62 : decode cX7_isRequest 62 = .ok (.getfield 7, 3) := by decide +kernel
theorem dX7_isRequest_65 : decode cX7_isRequest 65 = .ok (.iload 5, 2) := by decide +kernel
theorem dX7_isRequest_67 : decode cX7_isRequest 67 = .ok (.iconst 1, 1) := by decide +kernel
theorem dX7_isRequest_68 : decode cX7_isRequest 68 = .ok (.iadd, 1) := by decide +kernel
theorem dX7_isRequest_69 : decode cX7_isRequest 69 = .ok (.iaload, 1) := by decide +kernel
theorem dX7_isRequest_70 : decode cX7_isRequest 70 = .ok (.bipush 10, 2) := by decide +kernel
theorem dX7_isRequest_72 : decode cX7_isRequest 72 = .ok (.if_icmp .ne 33, 3) := by decide +kernel
theorem dX7_isRequest_75 : decode cX7_isRequest 75 = .ok (.iload_n 3, 1) := by decide +kernel
theorem dX7_isRequest_76 : decode cX7_isRequest 76 = .ok (.ifCond .eq 12, 3) := by decide +kernel
theorem dX7_isRequest_79 : decode cX7_isRequest 79 = .ok (.aload_n 0, 1) := by decide +kernel
theorem dX7_isRequest_80 : decode cX7_isRequest 80 = .ok (.iload 5, 2) := by decide +kernel
theorem dX7_isRequest_82 : decode cX7_isRequest 82 = .ok (.invokevirtual 147, 3) := by decide +kernel
theorem dX7_isRequest_85 : decode cX7_isRequest 85 = .ok (.goto 11, 3) := by decide +kernel
theorem dX7_isRequest_88 : decode cX7_isRequest 88 = .ok (.aload_n 0, 1) := by decide +kernel
theorem dX7_isRequest_89 : decode cX7_isRequest 89 = .ok (.iload 4, 2) := by decide +kernel
theorem dX7_isRequest_91 : decode cX7_isRequest 91 = .ok (.iload 5, 2) := by decide +kernel
theorem dX7_isRequest_93 : decode cX7_isRequest 93 = .ok (.invokevirtual 150, 3) := by decide +kernel
theorem dX7_isRequest_96 : decode cX7_isRequest 96 = .ok (.istore_n 2, 1) := by decide +kernel
theorem dX7_isRequest_97 : decode cX7_isRequest 97 = .ok (.iconst 0, 1) := by decide +kernel
theorem dX7_isRequest_98 : decode cX7_isRequest 98 = .ok (.istore_n 3, 1) := by decide +kernel
theorem dX7_isRequest_99 : decode cX7_isRequest 99 = .ok (.iload 5, 2) := by decide +kernel
theorem dX7_isRequest_101 : decode cX7_isRequest 101 = .ok (.iconst 2, 1) := by decide +kernel
theorem dX7_isRequest_102 : decode cX7_isRequest 102 = .ok (.iadd, 1) := by decide +kernel
theorem dX7_isRequest_103 : decode cX7_isRequest 103 = .ok (.istore 4, 2) := by decide +kernel
theorem dX7_isRequest_105 : decode cX7_isRequest 105 = .ok (.iinc 5 1, 3) := by decide +kernel
theorem dX7_isRequest_108 : decode cX7_isRequest 108 = .ok (.goto (-75), 3) := by decide +kernel
theorem dX7_isRequest_111 : decode cX7_isRequest 111 = .ok (.iconst 0, 1) := by decide +kernel
theorem dX7_isRequest_112 : decode cX7_isRequest 112 = .ok (.istore 5, 2) := by decide +kernel
theorem dX7_isRequest_114 : decode cX7_isRequest 114 = .ok (.iload 5, 2) := by decide +kernel
theorem dX7_isRequest_116 : decode cX7_isRequest 116 = .ok (.iconst 5, 1) := by decide +kernel
theorem dX7_isRequest_117 : decode cX7_isRequest 117 = .ok (.if_icmp .ge 30, 3) := by decide +kernel
theorem dX7_isRequest_120 : decode cX7_isRequest 120 = .ok (.iload_n 2, 1) := by decide +kernel
theorem dX7_isRequest_121 : decode cX7_isRequest 121 = .ok (.ifCond .eq 18, 3) := by decide +kernel
theorem dX7_isRequest_124 : decode cX7_isRequest 124 = .ok (.aload_n 0, 1) := by decide +kernel
theorem dX7_isRequest_125 : decode cX7_isRequest 125 = .ok (.getfield 13, 3) := by decide +kernel
theorem dX7_isRequest_128 : decode cX7_isRequest 128 = .ok (.iload 5, 2) := by decide +kernel
theorem dX7_isRequest_130 : decode cX7_isRequest 130 = .ok (.iaload, 1) := by decide +kernel
theorem dX7_isRequest_131 : decode cX7_isRequest 131 = .ok (.iconst 1, 1) := by decide +kernel
theorem dX7_isRequest_132 : decode cX7_isRequest 132 = .ok (.if_icmp .ne 7, 3) := by decide +kernel
theorem dX7_isRequest_135 : decode cX7_isRequest 135 = .ok (.iconst 1, 1) := by decide +kernel
theorem dX7_isRequest_136 : decode cX7_isRequest 136 = .ok (.goto 4, 3) := by decide +kernel
theorem dX7_isRequest_139 : decode cX7_isRequest 139 = .ok (.iconst 0, 1) := by decide +kernel
theorem dX7_isRequest_140 : decode cX7_isRequest 140 = .ok (.istore_n 2, 1) := by decide +kernel
theorem dX7_isRequest_141 : decode cX7_isRequest 141 = .ok (.iinc 5 1, 3) := by decide +kernel
theorem dX7_isRequest_144 : decode cX7_isRequest 144 = .ok (.goto (-30), 3) := by decide +kernel
theorem dX7_isRequest_147 : decode cX7_isRequest 147 = .ok (.iload_n 2, 1) := by decide +kernel
theorem dX7_isRequest_148 : decode cX7_isRequest 148 = .ok (.ifCond .eq 59, 3) := by decide +kernel
theorem dX7_isRequest_151 : decode cX7_isRequest 151 = .ok (.aload_n 0, 1) := by decide +kernel
theorem dX7_isRequest_152 : decode cX7_isRequest 152 = .ok (.getfield 19, 3) := by decide +kernel
theorem dX7_isRequest_155 : decode cX7_isRequest 155 = .ok (.iconst 0, 1) := by decide +kernel
theorem dX7_isRequest_156 : decode cX7_isRequest 156 = .ok (.iaload, 1) := by decide +kernel
theorem dX7_isRequest_157 : decode cX7_isRequest 157 = .ok (.aload_n 0, 1) := by decide +kernel
theorem dX7_isRequest_158 : decode cX7_isRequest 158 = .ok (.getfield 16, 3) := by decide +kernel
theorem dX7_isRequest_161 : decode cX7_isRequest 161 = .ok (.iconst 0, 1) := by decide +kernel
theorem dX7_isRequest_162 : decode cX7_isRequest 162 = .ok (.iaload, 1) := by decide +kernel
theorem dX7_isRequest_163 : decode cX7_isRequest 163 = .ok (.if_icmp .le 44, 3) := by decide +kernel
theorem dX7_isRequest_166 : decode cX7_isRequest 166 = .ok (.aload_n 0, 1) := by decide +kernel
theorem dX7_isRequest_167 : decode cX7_isRequest 167 = .ok (.iconst 1, 1) := by decide +kernel
theorem dX7_isRequest_168 : decode cX7_isRequest 168 = .ok (.iconst 5, 1) := by decide +kernel
theorem dX7_isRequest_169 : decode cX7_isRequest 169 = .ok (.invokevirtual 154, 3) := by decide +kernel
theorem dX7_isRequest_172 : decode cX7_isRequest 172 = .ok (.ifCond .eq 35, 3) := by decide +kernel
theorem dX7_isRequest_175 : decode cX7_isRequest 175 = .ok (.aload_n 0, 1) := by decide +kernel
theorem dX7_isRequest_176 : decode cX7_isRequest 176 = .ok (.iconst 2, 1) := by decide +kernel
theorem dX7_isRequest_177 : decode cX7_isRequest 177 = .ok (.iconst 1, 1) := by decide +kernel
theorem dX7_isRequest_178 : decode cX7_isRequest 178 = .ok (.invokevirtual 154, 3) := by decide +kernel
theorem dX7_isRequest_181 : decode cX7_isRequest 181 = .ok (.ifCond .eq 26, 3) := by decide +kernel
theorem dX7_isRequest_184 : decode cX7_isRequest 184 = .ok (.aload_n 0, 1) := by decide +kernel
theorem dX7_isRequest_185 : decode cX7_isRequest 185 = .ok (.aload_n 0, 1) := by decide +kernel
theorem dX7_isRequest_186 : decode cX7_isRequest 186 = .ok (.getfield 16, 3) := by decide +kernel
theorem dX7_isRequest_189 : decode cX7_isRequest 189 = .ok (.iconst 3, 1) := by decide +kernel
theorem dX7_isRequest_190 : decode cX7_isRequest 190 = .ok (.iaload, 1) := by decide +kernel
theorem dX7_isRequest_191 : decode cX7_isRequest 191 = .ok (.aload_n 0, 1) := by decide +kernel
theorem dX7_isRequest_192 : decode cX7_isRequest 192 = .ok (.getfield 19, 3) := by decide +kernel
theorem dX7_isRequest_195 : decode cX7_isRequest 195 = .ok (.iconst 3, 1) := by decide +kernel
theorem dX7_isRequest_196 : decode cX7_isRequest 196 = .ok (.iaload, 1) := by decide +kernel
theorem dX7_isRequest_197 : decode cX7_isRequest 197 = .ok (.invokevirtual 157, 3) := by decide +kernel
theorem dX7_isRequest_200 : decode cX7_isRequest 200 = .ok (.ifCond .eq 7, 3) := by decide +kernel
theorem dX7_isRequest_203 : decode cX7_isRequest 203 = .ok (.iconst 1, 1) := by decide +kernel
theorem dX7_isRequest_204 : decode cX7_isRequest 204 = .ok (.goto 4, 3) := by decide +kernel
theorem dX7_isRequest_207 : decode cX7_isRequest 207 = .ok (.iconst 0, 1) := by decide +kernel
theorem dX7_isRequest_208 : decode cX7_isRequest 208 = .ok (.ireturn, 1) := by decide +kernel
theorem dX7_rotated_0 : decode cX7_rotated 0 = .ok (.iload_n 0, 1) := by decide +kernel
theorem dX7_rotated_1 : decode cX7_rotated 1 = .ok (.iload_n 1, 1) := by decide +kernel
theorem dX7_rotated_2 : decode cX7_rotated 2 = .ok (.ishl, 1) := by decide +kernel
theorem dX7_rotated_3 : decode cX7_rotated 3 = .ok (.iload_n 0, 1) := by decide +kernel
theorem dX7_rotated_4 : decode cX7_rotated 4 = .ok (.bipush 32, 2) := by decide +kernel
theorem dX7_rotated_6 : decode cX7_rotated 6 = .ok (.iload_n 1, 1) := by decide +kernel
theorem dX7_rotated_7 : decode cX7_rotated 7 = .ok (.isub, 1) := by decide +kernel
theorem dX7_rotated_8 : decode cX7_rotated 8 = .ok (.iushr, 1) := by decide +kernel
theorem dX7_rotated_9 : decode cX7_rotated 9 = .ok (.ior, 1) := by decide +kernel
theorem dX7_rotated_10 : decode cX7_rotated 10 = .ok (.ireturn, 1) := by decide +kernel
theorem dX7_mix_0 : decode cX7_mix 0 = .ok (.iconst 0, 1) := by decide +kernel
theorem dX7_mix_1 : decode cX7_mix 1 = .ok (.istore_n 2, 1) := by decide +kernel
theorem dX7_mix_2 : decode cX7_mix 2 = .ok (.iload_n 2, 1) := by decide +kernel
theorem dX7_mix_3 : decode cX7_mix 3 = .ok (.bipush 80, 2) := by decide +kernel
theorem dX7_mix_5 : decode cX7_mix 5 = .ok (.if_icmp .ge 114, 3) := by decide +kernel
theorem dX7_mix_8 : decode cX7_mix 8 = .ok (.iload_n 1, 1) := by decide +kernel
theorem dX7_mix_9 : decode cX7_mix 9 = .ok (.iconst 4, 1) := by decide +kernel
theorem dX7_mix_10 : decode cX7_mix 10 = .ok (.iload_n 2, 1) := by decide +kernel
theorem dX7_mix_11 : decode cX7_mix 11 = .ok (.imul, 1) := by decide +kernel
theorem dX7_mix_12 : decode cX7_mix 12 = .ok (.iadd, 1) := by decide +kernel
theorem dX7_mix_13 : decode cX7_mix 13 = .ok (.istore_n 3, 1) := by decide +kernel
theorem dX7_mix_14 : decode cX7_mix 14 = .ok (.aload_n 0, 1) := by decide +kernel
theorem dX7_mix_15 : decode cX7_mix 15 = .ok (.getfield 49, 3) := by decide +kernel
theorem dX7_mix_18 : decode cX7_mix 18 = .ok (.iload_n 2, 1) := by decide +kernel
theorem dX7_mix_19 : decode cX7_mix 19 = .ok (.iload_n 2, 1) := by decide +kernel
theorem dX7_mix_20 : decode cX7_mix 20 = .ok (.bipush 16, 2) := by decide +kernel
theorem dX7_mix_22 : decode cX7_mix 22 = .ok (.if_icmp .ge 48, 3) := by decide +kernel
theorem dX7_mix_25 : decode cX7_mix 25 = .ok (.aload_n 0, 1) := by decide +kernel
theorem dX7_mix_26 : decode cX7_mix 26 = .ok (.getfield 46, 3) := by decide +kernel
theorem dX7_mix_29 : decode cX7_mix 29 = .ok (.iload_n 3, 1) := by decide +kernel
theorem dX7_mix_30 : decode cX7_mix 30 = .ok (.iaload, 1) := by decide +kernel
theorem dX7_mix_31 : decode cX7_mix 31 = .ok (.bipush 24, 2) := by decide +kernel
theorem dX7_mix_33 : decode cX7_mix 33 = .ok (.ishl, 1) := by decide +kernel
theorem dX7_mix_34 : decode cX7_mix 34 = .ok (.aload_n 0, 1) := by decide +kernel
theorem dX7_mix_35 : decode cX7_mix 35 = .ok (.getfield 46, 3) := by decide +kernel
theorem dX7_mix_38 : decode cX7_mix 38 = .ok (.iload_n 3, 1) := by decide +kernel
theorem dX7_mix_39 : decode cX7_mix 39 = .ok (.iconst 1, 1) := by decide +kernel
theorem dX7_mix_40 : decode cX7_mix 40 = .ok (.iadd, 1) := by decide +kernel
theorem dX7_mix_41 : decode cX7_mix 41 = .ok (.iaload, 1) := by decide +kernel
theorem dX7_mix_42 : decode cX7_mix 42 = .ok (.bipush 16, 2) := by decide +kernel
theorem dX7_mix_44 : decode cX7_mix 44 = .ok (.ishl, 1) := by decide +kernel
theorem dX7_mix_45 : decode cX7_mix 45 = .ok (.ior, 1) := by decide +kernel
theorem dX7_mix_46 : decode cX7_mix 46 = .ok (.aload_n 0, 1) := by decide +kernel
theorem dX7_mix_47 : decode cX7_mix 47 = .ok (.getfield 46, 3) := by decide +kernel
theorem dX7_mix_50 : decode cX7_mix 50 = .ok (.iload_n 3, 1) := by decide +kernel
theorem dX7_mix_51 : decode cX7_mix 51 = .ok (.iconst 2, 1) := by decide +kernel
theorem dX7_mix_52 : decode cX7_mix 52 = .ok (.iadd, 1) := by decide +kernel
theorem dX7_mix_53 : decode cX7_mix 53 = .ok (.iaload, 1) := by decide +kernel
theorem dX7_mix_54 : decode cX7_mix 54 = .ok (.bipush 8, 2) := by decide +kernel
theorem dX7_mix_56 : decode cX7_mix 56 = .ok (.ishl, 1) := by decide +kernel
theorem dX7_mix_57 : decode cX7_mix 57 = .ok (.ior, 1) := by decide +kernel
theorem dX7_mix_58 : decode cX7_mix 58 = .ok (.aload_n 0, 1) := by decide +kernel
theorem dX7_mix_59 : decode cX7_mix 59 = .ok (.getfield 46, 3) := by decide +kernel
theorem dX7_mix_62 : decode cX7_mix 62 = .ok (.iload_n 3, 1) := by decide +kernel
theorem dX7_mix_63 : decode cX7_mix 63 = .ok (.iconst 3, 1) := by decide +kernel
theorem dX7_mix_64 : decode cX7_mix 64 = .ok (.iadd, 1) := by decide +kernel
theorem dX7_mix_65 : decode cX7_mix 65 = .ok (.iaload, 1) := by decide +kernel
theorem dX7_mix_66 : decode cX7_mix 66 = .ok (.ior, 1) := by decide +kernel
theorem dX7_mix_67 : decode cX7_mix 67 = .ok (.goto 45, 3) := by decide +kernel
theorem dX7_mix_70 : decode cX7_mix 70 = .ok (.aload_n 0, 1) := by decide +kernel
theorem dX7_mix_71 : decode cX7_mix 71 = .ok (.getfield 49, 3) := by decide +kernel
theorem dX7_mix_74 : decode cX7_mix 74 = .ok (.iload_n 2, 1) := by decide +kernel
theorem dX7_mix_75 : decode cX7_mix 75 = .ok (.iconst 3, 1) := by decide +kernel
theorem dX7_mix_76 : decode cX7_mix 76 = .ok (.isub, 1) := by decide +kernel
theorem dX7_mix_77 : decode cX7_mix 77 = .ok (.iaload, 1) := by decide +kernel
theorem dX7_mix_78 : decode cX7_mix 78 = .ok (.aload_n 0, 1) := by decide +kernel
theorem dX7_mix_79 : decode cX7_mix 79 = .ok (.getfield 49, 3) := by decide +kernel
theorem dX7_mix_82 : decode cX7_mix 82 = .ok (.iload_n 2, 1) := by decide +kernel
theorem dX7_mix_83 : decode cX7_mix 83 = .ok (.bipush 8, 2) := by decide +kernel
theorem dX7_mix_85 : decode cX7_mix 85 = .ok (.isub, 1) := by decide +kernel
theorem dX7_mix_86 : decode cX7_mix 86 = .ok (.iaload, 1) := by decide +kernel
theorem dX7_mix_87 : decode cX7_mix 87 = .ok (.ixor, 1) := by decide +kernel
theorem dX7_mix_88 : decode cX7_mix 88 = .ok (.aload_n 0, 1) := by decide +kernel
theorem dX7_mix_89 : decode cX7_mix 89 = .ok (.getfield 49, 3) := by decide +kernel
theorem dX7_mix_92 : decode cX7_mix 92 = .ok (.iload_n 2, 1) := by decide +kernel
theorem dX7_mix_93 : decode cX7_mix 93 = .ok (.bipush 14, 2) := by decide +kernel
theorem dX7_mix_95 : decode cX7_mix 95 = .ok (.isub, 1) := by decide +kernel
theorem dX7_mix_96 : decode cX7_mix 96 = .ok (.iaload, 1) := by decide +kernel
theorem dX7_mix_97 : decode cX7_mix 97 = .ok (.ixor, 1) := by decide +kernel
theorem dX7_mix_98 : decode cX7_mix 98 = .ok (.aload_n 0, 1) := by decide +kernel
theorem dX7_mix_99 : decode cX7_mix 99 = .ok (.getfield 49, 3) := by decide +kernel
theorem dX7_mix_102 : decode cX7_mix 102 = .ok (.iload_n 2, 1) := by decide +kernel
theorem dX7_mix_103 : decode cX7_mix 103 = .ok (.bipush 16, 2) := by decide +kernel
theorem dX7_mix_105 : decode cX7_mix 105 = .ok (.isub, 1) := by decide +kernel
theorem dX7_mix_106 : decode cX7_mix 106 = .ok (.iaload, 1) := by decide +kernel
theorem dX7_mix_107 : decode cX7_mix 107 = .ok (.ixor, 1) := by decide +kernel
theorem dX7_mix_108 : decode cX7_mix 108 = .ok (.iconst 1, 1) := by decide +kernel
theorem dX7_mix_109 : decode cX7_mix 109 = .ok (.invokestatic 160, 3) := by decide +kernel
theorem dX7_mix_112 : decode cX7_mix 112 = .ok (.iastore, 1) := by decide +kernel
theorem dX7_mix_113 : decode cX7_mix 113 = .ok (.iinc 2 1, 3) := by decide +kernel
theorem dX7_mix_116 : decode cX7_mix 116 = .ok (.goto (-114), 3) := by decide +kernel
theorem dX7_mix_119 : decode cX7_mix 119 = .ok (.aload_n 0, 1) := by decide +kernel
theorem dX7_mix_120 : decode cX7_mix 120 = .ok (.getfield 52, 3) := by decide +kernel
theorem dX7_mix_123 : decode cX7_mix 123 = .ok (.iconst 0, 1) := by decide +kernel
theorem dX7_mix_124 : decode cX7_mix 124 = .ok (.iaload, 1) := by decide +kernel
theorem dX7_mix_125 : decode cX7_mix 125 = .ok (.istore_n 2, 1) := by decide +kernel
theorem dX7_mix_126 : decode cX7_mix 126 = .ok (.aload_n 0, 1) := by decide +kernel
theorem dX7_mix_127 : decode cX7_mix 127 = .ok (.getfield 52, 3) := by decide +kernel
theorem dX7_mix_130 : decode cX7_mix 130 = .ok (.iconst 1, 1) := by decide +kernel
theorem dX7_mix_131 : decode cX7_mix 131 = .ok (.iaload, 1) := by decide +kernel
theorem dX7_mix_132 : decode cX7_mix 132 = .ok (.istore_n 3, 1) := by decide +kernel
theorem dX7_mix_133 : decode cX7_mix 133 = .ok (.aload_n 0, 1) := by decide +kernel
theorem dX7_mix_134 : decode cX7_mix 134 = .ok (.getfield 52, 3) := by decide +kernel
theorem dX7_mix_137 : decode cX7_mix 137 = .ok (.iconst 2, 1) := by decide +kernel
theorem dX7_mix_138 : decode cX7_mix 138 = .ok (.iaload, 1) := by decide +kernel
theorem dX7_mix_139 : decode cX7_mix 139 = .ok (.istore 4, 2) := by decide +kernel
theorem dX7_mix_141 : decode cX7_mix 141 = .ok (.aload_n 0, 1) := by decide +kernel
theorem dX7_mix_142 : decode cX7_mix 142 = .ok (.getfield 52, 3) := by decide +kernel
theorem dX7_mix_145 : decode cX7_mix 145 = .ok (.iconst 3, 1) := by decide +kernel
theorem dX7_mix_146 : decode cX7_mix 146 = .ok (.iaload, 1) := by decide +kernel
theorem dX7_mix_147 : decode cX7_mix 147 = .ok (.istore 5, 2) := by decide +kernel
theorem dX7_mix_149 : decode cX7_mix 149 = .ok (.aload_n 0, 1) := by decide +kernel
theorem dX7_mix_150 : decode cX7_mix 150 = .ok (.getfield 52, 3) := by decide +kernel
theorem dX7_mix_153 : decode cX7_mix 153 = .ok (.iconst 4, 1) := by decide +kernel
theorem dX7_mix_154 : decode cX7_mix 154 = .ok (.iaload, 1) := by decide +kernel
theorem dX7_mix_155 : decode cX7_mix 155 = .ok (.istore 6, 2) := by decide +kernel
theorem dX7_mix_157 : decode cX7_mix 157 = .ok (.iconst 0, 1) := by decide +kernel
theorem dX7_mix_158 : decode cX7_mix 158 = .ok (.istore 7, 2) := by decide +kernel
theorem dX7_mix_160 : decode cX7_mix 160 = .ok (.iload 7, 2) := by decide +kernel
theorem dX7_mix_162 : decode cX7_mix 162 = .ok (.bipush 80, 2) := by decide +kernel
theorem dX7_mix_164 : decode cX7_mix 164 = .ok (.if_icmp .ge 156, 3) := by decide +kernel
theorem dX7_mix_167 : decode cX7_mix 167 = .ok (.iload 7, 2) := by decide +kernel
theorem dX7_mix_169 : decode cX7_mix 169 = .ok (.bipush 20, 2) := by decide +kernel
theorem dX7_mix_171 : decode cX7_mix 171 = .ok (.if_icmp .ge 17, 3) := by decide +kernel
theorem dX7_mix_174 : decode cX7_mix 174 = .ok (.iload_n 3, 1) := by decide +kernel
theorem dX7_mix_175 : decode cX7_mix 175 = .ok (.iload 4, 2) := by decide +kernel
theorem dX7_mix_177 : decode cX7_mix 177 = .ok (.iand, 1) := by decide +kernel
theorem dX7_mix_178 : decode cX7_mix 178 = .ok (.iload_n 3, 1) := by decide +kernel
theorem dX7_mix_179 : decode cX7_mix 179 = .ok (.iconst (-1), 1) := by decide +kernel
theorem dX7_mix_180 : decode cX7_mix 180 = .ok (.ixor, 1) := by decide +kernel
theorem dX7_mix_181 : decode cX7_mix 181 = .ok (.iload 5, 2) := by decide +kernel
theorem dX7_mix_183 : decode cX7_mix 183 = .ok (.iand, 1) := by decide +kernel
theorem dX7_mix_184 : decode cX7_mix 184 = .ok (.ior, 1) := by decide +kernel
theorem dX7_mix_185 : decode cX7_mix 185 = .ok (.goto 42, 3) := by decide +kernel
theorem dX7_mix_188 : decode cX7_mix 188 = .ok (.iload 7, 2) := by decide +kernel
theorem dX7_mix_190 : decode cX7_mix 190 = .ok (.bipush 40, 2) := by decide +kernel
theorem dX7_mix_192 : decode cX7_mix 192 = .ok (.if_icmp .lt 28, 3) := by decide +kernel
theorem dX7_mix_195 : decode cX7_mix 195 = .ok (.iload 7, 2) := by decide +kernel
theorem dX7_mix_197 : decode cX7_mix 197 = .ok (.bipush 60, 2) := by decide +kernel
theorem dX7_mix_199 : decode cX7_mix 199 = .ok (.if_icmp .ge 21, 3) := by decide +kernel
theorem dX7_mix_202 : decode cX7_mix 202 = .ok (.iload_n 3, 1) := by decide +kernel
theorem dX7_mix_203 : decode cX7_mix 203 = .ok (.iload 4, 2) := by decide +kernel
theorem dX7_mix_205 : decode cX7_mix 205 = .ok (.iand, 1) := by decide +kernel
theorem dX7_mix_206 : decode cX7_mix 206 = .ok (.iload_n 3, 1) := by decide +kernel
theorem dX7_mix_207 : decode cX7_mix 207 = .ok (.iload 5, 2) := by decide +kernel
theorem dX7_mix_209 : decode cX7_mix 209 = .ok (.iand, 1) := by decide +kernel
theorem dX7_mix_210 : decode cX7_mix 210 = .ok (.ior, 1) := by decide +kernel
theorem dX7_mix_211 : decode cX7_mix 211 = .ok (.iload 4, 2) := by decide +kernel
theorem dX7_mix_213 : decode cX7_mix 213 = .ok (.iload 5, 2) := by decide +kernel
theorem dX7_mix_215 : decode cX7_mix 215 = .ok (.iand, 1) := by decide +kernel
theorem dX7_mix_216 : decode cX7_mix 216 = .ok (.ior, 1) := by decide +kernel
theorem dX7_mix_217 : decode cX7_mix 217 = .ok (.goto 10, 3) := by decide +kernel
theorem dX7_mix_220 : decode cX7_mix 220 = .ok (.iload_n 3, 1) := by decide +kernel
theorem dX7_mix_221 : decode cX7_mix 221 = .ok (.iload 4, 2) := by decide +kernel
theorem dX7_mix_223 : decode cX7_mix 223 = .ok (.ixor, 1) := by decide +kernel
theorem dX7_mix_224 : decode cX7_mix 224 = .ok (.iload 5, 2) := by decide +kernel
theorem dX7_mix_226 : decode cX7_mix 226 = .ok (.ixor, 1) := by decide +kernel
theorem dX7_mix_227 : decode cX7_mix 227 = .ok (.istore 8, 2) := by decide +kernel
theorem dX7_mix_229 : decode cX7_mix 229 = .ok (.iload 7, 2) := by decide +kernel
theorem dX7_mix_231 : decode cX7_mix 231 = .ok (.bipush 20, 2) := by decide +kernel
theorem dX7_mix_233 : decode cX7_mix 233 = .ok (.if_icmp .ge 8, 3) := by decide +kernel
theorem dX7_mix_236 : decode cX7_mix 236 = .ok (.ldc 163, 2) := by decide +kernel
theorem dX7_mix_238 : decode cX7_mix 238 = .ok (.goto 29, 3) := by decide +kernel
theorem dX7_mix_241 : decode cX7_mix 241 = .ok (.iload 7, 2) := by decide +kernel
theorem dX7_mix_243 : decode cX7_mix 243 = .ok (.bipush 40, 2) := by decide +kernel
theorem dX7_mix_245 : decode cX7_mix 245 = .ok (.if_icmp .ge 8, 3) := by decide +kernel
theorem dX7_mix_248 : decode cX7_mix 248 = .ok (.ldc 164, 2) := by decide +kernel
theorem dX7_mix_250 : decode cX7_mix 250 = .ok (.goto 17, 3) := by decide +kernel
theorem dX7_mix_253 : decode cX7_mix 253 = .ok (.iload 7, 2) := by decide +kernel
theorem dX7_mix_255 : decode cX7_mix 255 = .ok (.bipush 60, 2) := by decide +kernel
theorem dX7_mix_257 : decode cX7_mix 257 = .ok (.if_icmp .ge 8, 3) := by decide +kernel
theorem dX7_mix_260 : decode cX7_mix 260 = .ok (.ldc 165, 2) := by decide +kernel
theorem dX7_mix_262 : decode cX7_mix 262 = .ok (.goto 5, 3) := by decide +kernel
theorem dX7_mix_265 : decode cX7_mix 265 = .ok (.ldc 166, 2) := by decide +kernel
theorem dX7_mix_267 : decode cX7_mix 267 = .ok (.istore 9, 2) := by decide +kernel
theorem dX7_mix_269 : decode cX7_mix 269 = .ok (.iload_n 2, 1) := by decide +kernel
theorem dX7_mix_270 : decode cX7_mix 270 = .ok (.iconst 5, 1) := by decide +kernel
theorem dX7_mix_271 : decode cX7_mix 271 = .ok (.invokestatic 160, 3) := by decide +kernel
theorem dX7_mix_274 : decode cX7_mix 274 = .ok (.iload 8, 2) := by decide +kernel
theorem dX7_mix_276 : decode cX7_mix 276 = .ok (.iadd, 1) := by decide +kernel
theorem dX7_mix_277 : decode cX7_mix 277 = .ok (.iload 6, 2) := by decide +kernel
theorem dX7_mix_279 : decode cX7_mix 279 = .ok (.iadd, 1) := by decide +kernel
theorem dX7_mix_280 : decode cX7_mix 280 = .ok (.iload 9, 2) := by decide +kernel
theorem dX7_mix_282 : decode cX7_mix 282 = .ok (.iadd, 1) := by decide +kernel
theorem dX7_mix_283 : decode cX7_mix 283 = .ok (.aload_n 0, 1) := by decide +kernel
theorem dX7_mix_284 : decode cX7_mix 284 = .ok (.getfield 49, 3) := by decide +kernel
theorem dX7_mix_287 : decode cX7_mix 287 = .ok (.iload 7, 2) := by decide +kernel
theorem dX7_mix_289 : decode cX7_mix 289 = .ok (.iaload, 1) := by decide +kernel
theorem dX7_mix_290 : decode cX7_mix 290 = .ok (.iadd, 1) := by decide +kernel
theorem dX7_mix_291 : decode cX7_mix 291 = .ok (.istore 10, 2) := by decide +kernel
theorem dX7_mix_293 : decode cX7_mix 293 = .ok (.iload 5, 2) := by decide +kernel
theorem dX7_mix_295 : decode cX7_mix 295 = .ok (.istore 6, 2) := by decide +kernel
theorem dX7_mix_297 : decode cX7_mix 297 = .ok (.iload 4, 2) := by decide +kernel
theorem dX7_mix_299 : decode cX7_mix 299 = .ok (.istore 5, 2) := by decide +kernel
theorem dX7_mix_301 : decode cX7_mix 301 = .ok (.iload_n 3, 1) := by decide +kernel
theorem dX7_mix_302 : decode cX7_mix 302 = .ok (.bipush 30, 2) := by decide +kernel
theorem dX7_mix_304 : decode cX7_mix 304 = .ok (.invokestatic 160, 3) := by decide +kernel
theorem dX7_mix_307 : decode cX7_mix 307 = .ok (.istore 4, 2) := by decide +kernel
theorem dX7_mix_309 : decode cX7_mix 309 = .ok (.iload_n 2, 1) := by decide +kernel
theorem dX7_mix_310 : decode cX7_mix 310 = .ok (.istore_n 3, 1) := by decide +kernel
theorem dX7_mix_311 : decode cX7_mix 311 = .ok (.iload 10, 2) := by decide +kernel
theorem dX7_mix_313 : decode cX7_mix 313 = .ok (.istore_n 2, 1) := by decide +kernel
theorem dX7_mix_314 : decode cX7_mix 314 = .ok (.iinc 7 1, 3) := by decide +kernel
theorem dX7_mix_317 : decode cX7_mix 317 = .ok (.goto (-157), 3) := by decide +kernel
theorem dX7_mix_320 : decode cX7_mix 320 = .ok (.aload_n 0, 1) := by decide +kernel
theorem dX7_mix_321 : decode cX7_mix 321 = .ok (.getfield 52, 3) := by decide +kernel
theorem dX7_mix_324 : decode cX7_mix 324 = .ok (.iconst 0, 1) := by decide +kernel
theorem dX7_mix_325 : decode cX7_mix 325 = .ok (.aload_n 0, 1) := by decide +kernel
theorem dX7_mix_326 : decode cX7_mix 326 = .ok (.getfield 52, 3) := by decide +kernel
theorem dX7_mix_329 : decode cX7_mix 329 = .ok (.iconst 0, 1) := by decide +kernel
theorem dX7_mix_330 : decode cX7_mix 330 = .ok (.iaload, 1) := by decide +kernel
theorem dX7_mix_331 : decode cX7_mix 331 = .ok (.iload_n 2, 1) := by decide +kernel
theorem dX7_mix_332 : decode cX7_mix 332 = .ok (.iadd, 1) := by decide +kernel
theorem dX7_mix_333 : decode cX7_mix 333 = .ok (.iastore, 1) := by decide +kernel
theorem dX7_mix_334 : decode cX7_mix 334 = .ok (.aload_n 0, 1) := by decide +kernel
theorem dX7_mix_335 : decode cX7_mix 335 = .ok (.getfield 52, 3) := by decide +kernel
theorem dX7_mix_338 : decode cX7_mix 338 = .ok (.iconst 1, 1) := by decide +kernel
theorem dX7_mix_339 : decode cX7_mix 339 = .ok (.aload_n 0, 1) := by decide +kernel
theorem dX7_mix_340 : decode cX7_mix 340 = .ok (.getfield 52, 3) := by decide +kernel
theorem dX7_mix_343 : decode cX7_mix 343 = .ok (.iconst 1, 1) := by decide +kernel
theorem dX7_mix_344 : decode cX7_mix 344 = .ok (.iaload, 1) := by decide +kernel
theorem dX7_mix_345 : decode cX7_mix 345 = .ok (.iload_n 3, 1) := by decide +kernel
theorem dX7_mix_346 : decode cX7_mix 346 = .ok (.iadd, 1) := by decide +kernel
theorem dX7_mix_347 : decode cX7_mix 347 = .ok (.iastore, 1) := by decide +kernel
theorem dX7_mix_348 : decode cX7_mix 348 = .ok (.aload_n 0, 1) := by decide +kernel
theorem dX7_mix_349 : decode cX7_mix 349 = .ok (.getfield 52, 3) := by decide +kernel
theorem dX7_mix_352 : decode cX7_mix 352 = .ok (.iconst 2, 1) := by decide +kernel
theorem dX7_mix_353 : decode cX7_mix 353 = .ok (.aload_n 0, 1) := by decide +kernel
theorem dX7_mix_354 : decode cX7_mix 354 = .ok (.getfield 52, 3) := by decide +kernel
theorem dX7_mix_357 : decode cX7_mix 357 = .ok (.iconst 2, 1) := by decide +kernel
theorem dX7_mix_358 : decode cX7_mix 358 = .ok (.iaload, 1) := by decide +kernel
theorem dX7_mix_359 : decode cX7_mix 359 = .ok (.iload 4, 2) := by decide +kernel
theorem dX7_mix_361 : decode cX7_mix 361 = .ok (.iadd, 1) := by decide +kernel
theorem dX7_mix_362 : decode cX7_mix 362 = .ok (.iastore, 1) := by decide +kernel
theorem dX7_mix_363 : decode cX7_mix 363 = .ok (.aload_n 0, 1) := by decide +kernel
theorem dX7_mix_364 : decode cX7_mix 364 = .ok (.getfield 52, 3) := by decide +kernel
theorem dX7_mix_367 : decode cX7_mix 367 = .ok (.iconst 3, 1) := by decide +kernel
theorem dX7_mix_368 : decode cX7_mix 368 = .ok (.aload_n 0, 1) := by decide +kernel
theorem dX7_mix_369 : decode cX7_mix 369 = .ok (.getfield 52, 3) := by decide +kernel
theorem dX7_mix_372 : decode cX7_mix 372 = .ok (.iconst 3, 1) := by decide +kernel
theorem dX7_mix_373 : decode cX7_mix 373 = .ok (.iaload, 1) := by decide +kernel
theorem dX7_mix_374 : decode cX7_mix 374 = .ok (.iload 5, 2) := by decide +kernel
theorem dX7_mix_376 : decode cX7_mix 376 = .ok (.iadd, 1) := by decide +kernel
theorem dX7_mix_377 : decode cX7_mix 377 = .ok (.iastore, 1) := by decide +kernel
theorem dX7_mix_378 : decode cX7_mix 378 = .ok (.aload_n 0, 1) := by decide +kernel
theorem dX7_mix_379 : decode cX7_mix 379 = .ok (.getfield 52, 3) := by decide +kernel
theorem dX7_mix_382 : decode cX7_mix 382 = .ok (.iconst 4, 1) := by decide +kernel
theorem dX7_mix_383 : decode cX7_mix 383 = .ok (.aload_n 0, 1) := by decide +kernel
theorem dX7_mix_384 : decode cX7_mix 384 = .ok (.getfield 52, 3) := by decide +kernel
theorem dX7_mix_387 : decode cX7_mix 387 = .ok (.iconst 4, 1) := by decide +kernel
theorem dX7_mix_388 : decode cX7_mix 388 = .ok (.iaload, 1) := by decide +kernel
theorem dX7_mix_389 : decode cX7_mix 389 = .ok (.iload 6, 2) := by decide +kernel
theorem dX7_mix_391 : decode cX7_mix 391 = .ok (.iadd, 1) := by decide +kernel
theorem dX7_mix_392 : decode cX7_mix 392 = .ok (.iastore, 1) := by decide +kernel
theorem dX7_mix_393 : decode cX7_mix 393 = .ok (.return_, 1) := by decide +kernel
theorem dX7_signs_0 : decode cX7_signs 0 = .ok (.iload_n 3, 1) := by decide +kernel
theorem dX7_signs_1 : decode cX7_signs 1 = .ok (.istore 4, 2) := by decide +kernel
theorem dX7_signs_3 : decode cX7_signs 3 = .ok (.lload_n 1, 1) := by decide +kernel
theorem dX7_signs_4 : decode cX7_signs 4 = .ok (.lstore 5, 2) := by decide +kernel
theorem dX7_signs_6 : decode cX7_signs 6 = .ok (.lload 5, 2) := by decide +kernel
theorem dX7_signs_8 : decode cX7_signs 8 = .ok (.lconst 0, 1) := by decide +kernel
theorem dX7_signs_9 : decode cX7_signs 9 = .ok (.lcmp, 1) := by decide +kernel
theorem dX7_signs_10 : decode cX7_signs 10 = .ok (.ifCond .eq 30, 3) := by decide +kernel
theorem dX7_signs_13 : decode cX7_signs 13 = .ok (.aload_n 0, 1) := by decide +kernel
theorem dX7_signs_14 : decode cX7_signs 14 = .ok (.getfield 46, 3) := by decide +kernel
theorem dX7_signs_17 : decode cX7_signs 17 = .ok (.iload 4, 2) := by decide +kernel
theorem dX7_signs_19 : decode cX7_signs 19 = .ok (.lload 5, 2) := by decide +kernel
theorem dX7_signs_21 : decode cX7_signs 21 = .ok (.ldc2_w 62, 3) := by decide +kernel
theorem dX7_signs_24 : decode cX7_signs 24 = .ok (.land, 1) := by decide +kernel
theorem dX7_signs_25 : decode cX7_signs 25 = .ok (.l2i, 1) := by decide +kernel
theorem dX7_signs_26 : decode cX7_signs 26 = .ok (.iastore, 1) := by decide +kernel
theorem dX7_signs_27 : decode cX7_signs 27 = .ok (.iinc 4 1, 3) := by decide +kernel
theorem dX7_signs_30 : decode cX7_signs 30 = .ok (.lload 5, 2) := by decide +kernel
theorem dX7_signs_32 : decode cX7_signs 32 = .ok (.bipush 8, 2) := by decide +kernel
theorem dX7_signs_34 : decode cX7_signs 34 = .ok (.lshr, 1) := by decide +kernel
theorem dX7_signs_35 : decode cX7_signs 35 = .ok (.lstore 5, 2) := by decide +kernel
theorem dX7_signs_37 : decode cX7_signs 37 = .ok (.goto (-31), 3) := by decide +kernel
theorem dX7_signs_40 : decode cX7_signs 40 = .ok (.iload 4, 2) := by decide +kernel
theorem dX7_signs_42 : decode cX7_signs 42 = .ok (.ireturn, 1) := by decide +kernel
theorem dX7_digest_0 : decode cX7_digest 0 = .ok (.iconst 0, 1) := by decide +kernel
theorem dX7_digest_1 : decode cX7_digest 1 = .ok (.istore_n 1, 1) := by decide +kernel
theorem dX7_digest_2 : decode cX7_digest 2 = .ok (.iload_n 1, 1) := by decide +kernel
theorem dX7_digest_3 : decode cX7_digest 3 = .ok (.sipush 128, 3) := by decide +kernel
theorem dX7_digest_6 : decode cX7_digest 6 = .ok (.if_icmp .ge 38, 3) := by decide +kernel
theorem dX7_digest_9 : decode cX7_digest 9 = .ok (.aload_n 0, 1) := by decide +kernel
theorem dX7_digest_10 : decode cX7_digest 10 = .ok (.getfield 46, 3) := by decide +kernel
theorem dX7_digest_13 : decode cX7_digest 13 = .ok (.iload_n 1, 1) := by decide +kernel
theorem dX7_digest_14 : decode cX7_digest 14 = .ok (.iload_n 1, 1) := by decide +kernel
theorem dX7_digest_15 : decode cX7_digest 15 = .ok (.bipush 24, 2) := by decide +kernel
theorem dX7_digest_17 : decode cX7_digest 17 = .ok (.if_icmp .ge 19, 3) := by decide +kernel
theorem dX7_digest_20 : decode cX7_digest 20 = .ok (.aload_n 0, 1) := by decide +kernel
theorem dX7_digest_21 : decode cX7_digest 21 = .ok (.getfield 7, 3) := by decide +kernel
theorem dX7_digest_24 : decode cX7_digest 24 = .ok (.aload_n 0, 1) := by decide +kernel
theorem dX7_digest_25 : decode cX7_digest 25 = .ok (.getfield 16, 3) := by decide +kernel
theorem dX7_digest_28 : decode cX7_digest 28 = .ok (.iconst 3, 1) := by decide +kernel
theorem dX7_digest_29 : decode cX7_digest 29 = .ok (.iaload, 1) := by decide +kernel
theorem dX7_digest_30 : decode cX7_digest 30 = .ok (.iload_n 1, 1) := by decide +kernel
theorem dX7_digest_31 : decode cX7_digest 31 = .ok (.iadd, 1) := by decide +kernel
theorem dX7_digest_32 : decode cX7_digest 32 = .ok (.iaload, 1) := by decide +kernel
theorem dX7_digest_33 : decode cX7_digest 33 = .ok (.goto 4, 3) := by decide +kernel
theorem dX7_digest_36 : decode cX7_digest 36 = .ok (.iconst 0, 1) := by decide +kernel
theorem dX7_digest_37 : decode cX7_digest 37 = .ok (.iastore, 1) := by decide +kernel
theorem dX7_digest_38 : decode cX7_digest 38 = .ok (.iinc 1 1, 3) := by decide +kernel
theorem dX7_digest_41 : decode cX7_digest 41 = .ok (.goto (-39), 3) := by decide +kernel
theorem dX7_digest_44 : decode cX7_digest 44 = .ok (.bipush 24, 2) := by decide +kernel
theorem dX7_digest_46 : decode cX7_digest 46 = .ok (.istore_n 1, 1) := by decide +kernel
theorem dX7_digest_47 : decode cX7_digest 47 = .ok (.aload_n 0, 1) := by decide +kernel
theorem dX7_digest_48 : decode cX7_digest 48 = .ok (.ldc2_w 167, 3) := by decide +kernel
theorem dX7_digest_51 : decode cX7_digest 51 = .ok (.iload_n 1, 1) := by decide +kernel
theorem dX7_digest_52 : decode cX7_digest 52 = .ok (.invokevirtual 169, 3) := by decide +kernel
theorem dX7_digest_55 : decode cX7_digest 55 = .ok (.istore_n 1, 1) := by decide +kernel
theorem dX7_digest_56 : decode cX7_digest 56 = .ok (.aload_n 0, 1) := by decide +kernel
theorem dX7_digest_57 : decode cX7_digest 57 = .ok (.ldc2_w 173, 3) := by decide +kernel
end
section
theorem dX7_digest_60 : decode cX7_digest 60 = .ok (.iload_n 1, 1) := by decide +kernel
theorem dX7_digest_61 : decode cX7_digest 61 = .ok (.invokevirtual 169, 3) := by decide +kernel
theorem dX7_digest_64 : decode cX7_digest 64 = .ok (.istore_n 1, 1) := by decide +kernel
theorem dX7_digest_65 : decode cX7_digest 65 = .ok (.aload_n 0, 1) := by decide +kernel
theorem dX7_digest_66 : decode cX7_digest 66 = .ok (.ldc2_w 175, 3) := by decide +kernel
theorem dX7_digest_69 : decode cX7_digest 69 = .ok (.iload_n 1, 1) := by decide +kernel
theorem dX7_digest_70 : decode cX7_digest 70 = .ok (.invokevirtual 169, 3) := by decide +kernel
theorem dX7_digest_73 : decode cX7_digest 73 = .ok (.istore_n 1, 1) := by decide +kernel
theorem dX7_digest_74 : decode cX7_digest 74 = .ok (.aload_n 0, 1) := by decide +kernel
theorem dX7_digest_75 : decode cX7_digest 75 = .ok (.ldc2_w 177, 3) := by decide +kernel
theorem dX7_digest_78 : decode cX7_digest 78 = .ok (.iload_n 1, 1) := by decide +kernel
theorem dX7_digest_79 : decode cX7_digest 79 = .ok (.invokevirtual 169, 3) := by decide +kernel
theorem dX7_digest_82 : decode cX7_digest 82 = .ok (.istore_n 1, 1) := by decide +kernel
theorem dX7_digest_83 : decode cX7_digest 83 = .ok (.aload_n 0, 1) := by decide +kernel
theorem dX7_digest_84 : decode cX7_digest 84 = .ok (.ldc2_w 179, 3) := by decide +kernel
theorem dX7_digest_87 : decode cX7_digest 87 = .ok (.iload_n 1, 1) := by decide +kernel
theorem dX7_digest_88 : decode cX7_digest 88 = .ok (.invokevirtual 169, 3) := by decide +kernel
theorem dX7_digest_91 : decode cX7_digest 91 = .ok (.istore_n 1, 1) := by decide +kernel
theorem dX7_digest_92 : decode cX7_digest 92 = .ok (.aload_n 0, 1) := by decide +kernel
theorem dX7_digest_93 : decode cX7_digest 93 = .ok (.getfield 46, 3) := by decide +kernel
theorem dX7_digest_96 : decode cX7_digest 96 = .ok (.iload_n 1, 1) := by decide +kernel
theorem dX7_digest_97 : decode cX7_digest 97 = .ok (.sipush 128, 3) := by decide +kernel
theorem dX7_digest_100 : decode cX7_digest 100 = .ok (.iastore, 1) := by decide +kernel
theorem dX7_digest_101 : decode cX7_digest 101 = .ok (.aload_n 0, 1) := by decide +kernel
theorem dX7_digest_102 : decode cX7_digest 102 = .ok (.getfield 46, 3) := by decide +kernel
theorem dX7_digest_105 : decode cX7_digest 105 = .ok (.bipush 126, 2) := by decide +kernel
theorem dX7_digest_107 : decode cX7_digest 107 = .ok (.iconst 1, 1) := by decide +kernel
theorem dX7_digest_108 : decode cX7_digest 108 = .ok (.iastore, 1) := by decide +kernel
theorem dX7_digest_109 : decode cX7_digest 109 = .ok (.aload_n 0, 1) := by decide +kernel
theorem dX7_digest_110 : decode cX7_digest 110 = .ok (.getfield 46, 3) := by decide +kernel
theorem dX7_digest_113 : decode cX7_digest 113 = .ok (.bipush 127, 2) := by decide +kernel
theorem dX7_digest_115 : decode cX7_digest 115 = .ok (.sipush 224, 3) := by decide +kernel
theorem dX7_digest_118 : decode cX7_digest 118 = .ok (.iastore, 1) := by decide +kernel
theorem dX7_digest_119 : decode cX7_digest 119 = .ok (.aload_n 0, 1) := by decide +kernel
theorem dX7_digest_120 : decode cX7_digest 120 = .ok (.getfield 52, 3) := by decide +kernel
theorem dX7_digest_123 : decode cX7_digest 123 = .ok (.iconst 0, 1) := by decide +kernel
theorem dX7_digest_124 : decode cX7_digest 124 = .ok (.ldc 181, 2) := by decide +kernel
theorem dX7_digest_126 : decode cX7_digest 126 = .ok (.iastore, 1) := by decide +kernel
theorem dX7_digest_127 : decode cX7_digest 127 = .ok (.aload_n 0, 1) := by decide +kernel
theorem dX7_digest_128 : decode cX7_digest 128 = .ok (.getfield 52, 3) := by decide +kernel
theorem dX7_digest_131 : decode cX7_digest 131 = .ok (.iconst 1, 1) := by decide +kernel
theorem dX7_digest_132 : decode cX7_digest 132 = .ok (.ldc 182, 2) := by decide +kernel
theorem dX7_digest_134 : decode cX7_digest 134 = .ok (.iastore, 1) := by decide +kernel
theorem dX7_digest_135 : decode cX7_digest 135 = .ok (.aload_n 0, 1) := by decide +kernel
theorem dX7_digest_136 : decode cX7_digest 136 = .ok (.getfield 52, 3) := by decide +kernel
theorem dX7_digest_139 : decode cX7_digest 139 = .ok (.iconst 2, 1) := by decide +kernel
theorem dX7_digest_140 : decode cX7_digest 140 = .ok (.ldc 183, 2) := by decide +kernel
theorem dX7_digest_142 : decode cX7_digest 142 = .ok (.iastore, 1) := by decide +kernel
theorem dX7_digest_143 : decode cX7_digest 143 = .ok (.aload_n 0, 1) := by decide +kernel
theorem dX7_digest_144 : decode cX7_digest 144 = .ok (.getfield 52, 3) := by decide +kernel
theorem dX7_digest_147 : decode cX7_digest 147 = .ok (.iconst 3, 1) := by decide +kernel
theorem dX7_digest_148 : decode cX7_digest 148 = .ok (.ldc 184, 2) := by decide +kernel
theorem dX7_digest_150 : decode cX7_digest 150 = .ok (.iastore, 1) := by decide +kernel
theorem dX7_digest_151 : decode cX7_digest 151 = .ok (.aload_n 0, 1) := by decide +kernel
theorem dX7_digest_152 : decode cX7_digest 152 = .ok (.getfield 52, 3) := by decide +kernel
theorem dX7_digest_155 : decode cX7_digest 155 = .ok (.iconst 4, 1) := by decide +kernel
theorem dX7_digest_156 : decode cX7_digest 156 = .ok (.ldc 185, 2) := by decide +kernel
theorem dX7_digest_158 : decode cX7_digest 158 = .ok (.iastore, 1) := by decide +kernel
theorem dX7_digest_159 : decode cX7_digest 159 = .ok (.aload_n 0, 1) := by decide +kernel
theorem dX7_digest_160 : decode cX7_digest 160 = .ok (.iconst 0, 1) := by decide +kernel
theorem dX7_digest_161 : decode cX7_digest 161 = .ok (.invokevirtual 186, 3) := by decide +kernel
theorem dX7_digest_164 : decode cX7_digest 164 = .ok (.aload_n 0, 1) := by decide +kernel
theorem dX7_digest_165 : decode cX7_digest 165 = .ok (.bipush 64, 2) := by decide +kernel
theorem dX7_digest_167 : decode cX7_digest 167 = .ok (.invokevirtual 186, 3) := by decide +kernel
theorem dX7_digest_170 : decode cX7_digest 170 = .ok (.return_, 1) := by decide +kernel
theorem dX7_digestByte_0 : decode cX7_digestByte 0 = .ok (.iload_n 1, 1) := by decide +kernel
theorem dX7_digestByte_1 : decode cX7_digestByte 1 = .ok (.bipush 19, 2) := by decide +kernel
theorem dX7_digestByte_3 : decode cX7_digestByte 3 = .ok (.if_icmp .le 7, 3) := by decide +kernel
theorem dX7_digestByte_6 : decode cX7_digestByte 6 = .ok (.iconst 0, 1) := by decide +kernel
theorem dX7_digestByte_7 : decode cX7_digestByte 7 = .ok (.goto 25, 3) := by decide +kernel
theorem dX7_digestByte_10 : decode cX7_digestByte 10 = .ok (.aload_n 0, 1) := by decide +kernel
theorem dX7_digestByte_11 : decode cX7_digestByte 11 = .ok (.getfield 52, 3) := by decide +kernel
theorem dX7_digestByte_14 : decode cX7_digestByte 14 = .ok (.iload_n 1, 1) := by decide +kernel
theorem dX7_digestByte_15 : decode cX7_digestByte 15 = .ok (.iconst 4, 1) := by decide +kernel
theorem dX7_digestByte_16 : decode cX7_digestByte 16 = .ok (.idiv, 1) := by decide +kernel
theorem dX7_digestByte_17 : decode cX7_digestByte 17 = .ok (.iaload, 1) := by decide +kernel
theorem dX7_digestByte_18 : decode cX7_digestByte 18 = .ok (.bipush 24, 2) := by decide +kernel
theorem dX7_digestByte_20 : decode cX7_digestByte 20 = .ok (.bipush 8, 2) := by decide +kernel
theorem dX7_digestByte_22 : decode cX7_digestByte 22 = .ok (.iload_n 1, 1) := by decide +kernel
theorem dX7_digestByte_23 : decode cX7_digestByte 23 = .ok (.iconst 4, 1) := by decide +kernel
theorem dX7_digestByte_24 : decode cX7_digestByte 24 = .ok (.irem, 1) := by decide +kernel
theorem dX7_digestByte_25 : decode cX7_digestByte 25 = .ok (.imul, 1) := by decide +kernel
theorem dX7_digestByte_26 : decode cX7_digestByte 26 = .ok (.isub, 1) := by decide +kernel
theorem dX7_digestByte_27 : decode cX7_digestByte 27 = .ok (.ishr, 1) := by decide +kernel
theorem dX7_digestByte_28 : decode cX7_digestByte 28 = .ok (.sipush 255, 3) := by decide +kernel
theorem dX7_digestByte_31 : decode cX7_digestByte 31 = .ok (.iand, 1) := by decide +kernel
theorem dX7_digestByte_32 : decode cX7_digestByte 32 = .ok (.ireturn, 1) := by decide +kernel
theorem dX7_sign_0 : decode cX7_sign 0 = .ok (.iload_n 0, 1) := by decide +kernel
theorem dX7_sign_1 : decode cX7_sign 1 = .ok (.bipush 26, 2) := by decide +kernel
theorem dX7_sign_3 : decode cX7_sign 3 = .ok (.if_icmp .ge 10, 3) := by decide +kernel
theorem dX7_sign_6 : decode cX7_sign 6 = .ok (.bipush 65, 2) := by decide +kernel
theorem dX7_sign_8 : decode cX7_sign 8 = .ok (.iload_n 0, 1) := by decide +kernel
theorem dX7_sign_9 : decode cX7_sign 9 = .ok (.iadd, 1) := by decide +kernel
theorem dX7_sign_10 : decode cX7_sign 10 = .ok (.goto 41, 3) := by decide +kernel
theorem dX7_sign_13 : decode cX7_sign 13 = .ok (.iload_n 0, 1) := by decide +kernel
theorem dX7_sign_14 : decode cX7_sign 14 = .ok (.bipush 52, 2) := by decide +kernel
theorem dX7_sign_16 : decode cX7_sign 16 = .ok (.if_icmp .ge 10, 3) := by decide +kernel
theorem dX7_sign_19 : decode cX7_sign 19 = .ok (.bipush 71, 2) := by decide +kernel
theorem dX7_sign_21 : decode cX7_sign 21 = .ok (.iload_n 0, 1) := by decide +kernel
theorem dX7_sign_22 : decode cX7_sign 22 = .ok (.iadd, 1) := by decide +kernel
theorem dX7_sign_23 : decode cX7_sign 23 = .ok (.goto 28, 3) := by decide +kernel
theorem dX7_sign_26 : decode cX7_sign 26 = .ok (.iload_n 0, 1) := by decide +kernel
theorem dX7_sign_27 : decode cX7_sign 27 = .ok (.bipush 62, 2) := by decide +kernel
theorem dX7_sign_29 : decode cX7_sign 29 = .ok (.if_icmp .ge 9, 3) := by decide +kernel
theorem dX7_sign_32 : decode cX7_sign 32 = .ok (.iload_n 0, 1) := by decide +kernel
theorem dX7_sign_33 : decode cX7_sign 33 = .ok (.iconst 4, 1) := by decide +kernel
theorem dX7_sign_34 : decode cX7_sign 34 = .ok (.isub, 1) := by decide +kernel
theorem dX7_sign_35 : decode cX7_sign 35 = .ok (.goto 16, 3) := by decide +kernel
theorem dX7_sign_38 : decode cX7_sign 38 = .ok (.iload_n 0, 1) := by decide +kernel
theorem dX7_sign_39 : decode cX7_sign 39 = .ok (.bipush 62, 2) := by decide +kernel
theorem dX7_sign_41 : decode cX7_sign 41 = .ok (.if_icmp .ne 8, 3) := by decide +kernel
theorem dX7_sign_44 : decode cX7_sign 44 = .ok (.bipush 43, 2) := by decide +kernel
theorem dX7_sign_46 : decode cX7_sign 46 = .ok (.goto 5, 3) := by decide +kernel
theorem dX7_sign_49 : decode cX7_sign 49 = .ok (.bipush 47, 2) := by decide +kernel
theorem dX7_sign_51 : decode cX7_sign 51 = .ok (.ireturn, 1) := by decide +kernel
theorem dX7_proof_0 : decode cX7_proof 0 = .ok (.aload_n 0, 1) := by decide +kernel
theorem dX7_proof_1 : decode cX7_proof 1 = .ok (.invokevirtual 189, 3) := by decide +kernel
theorem dX7_proof_4 : decode cX7_proof 4 = .ok (.iconst 0, 1) := by decide +kernel
theorem dX7_proof_5 : decode cX7_proof 5 = .ok (.istore_n 1, 1) := by decide +kernel
theorem dX7_proof_6 : decode cX7_proof 6 = .ok (.iload_n 1, 1) := by decide +kernel
theorem dX7_proof_7 : decode cX7_proof 7 = .ok (.bipush 20, 2) := by decide +kernel
theorem dX7_proof_9 : decode cX7_proof 9 = .ok (.if_icmp .ge 103, 3) := by decide +kernel
theorem dX7_proof_12 : decode cX7_proof 12 = .ok (.aload_n 0, 1) := by decide +kernel
theorem dX7_proof_13 : decode cX7_proof 13 = .ok (.iload_n 1, 1) := by decide +kernel
theorem dX7_proof_14 : decode cX7_proof 14 = .ok (.invokevirtual 192, 3) := by decide +kernel
theorem dX7_proof_17 : decode cX7_proof 17 = .ok (.bipush 16, 2) := by decide +kernel
theorem dX7_proof_19 : decode cX7_proof 19 = .ok (.ishl, 1) := by decide +kernel
theorem dX7_proof_20 : decode cX7_proof 20 = .ok (.aload_n 0, 1) := by decide +kernel
theorem dX7_proof_21 : decode cX7_proof 21 = .ok (.iload_n 1, 1) := by decide +kernel
theorem dX7_proof_22 : decode cX7_proof 22 = .ok (.iconst 1, 1) := by decide +kernel
theorem dX7_proof_23 : decode cX7_proof 23 = .ok (.iadd, 1) := by decide +kernel
theorem dX7_proof_24 : decode cX7_proof 24 = .ok (.invokevirtual 192, 3) := by decide +kernel
theorem dX7_proof_27 : decode cX7_proof 27 = .ok (.bipush 8, 2) := by decide +kernel
theorem dX7_proof_29 : decode cX7_proof 29 = .ok (.ishl, 1) := by decide +kernel
theorem dX7_proof_30 : decode cX7_proof 30 = .ok (.ior, 1) := by decide +kernel
theorem dX7_proof_31 : decode cX7_proof 31 = .ok (.aload_n 0, 1) := by decide +kernel
theorem dX7_proof_32 : decode cX7_proof 32 = .ok (.iload_n 1, 1) := by decide +kernel
theorem dX7_proof_33 : decode cX7_proof 33 = .ok (.iconst 2, 1) := by decide +kernel
theorem dX7_proof_34 : decode cX7_proof 34 = .ok (.iadd, 1) := by decide +kernel
theorem dX7_proof_35 : decode cX7_proof 35 = .ok (.invokevirtual 192, 3) := by decide +kernel
theorem dX7_proof_38 : decode cX7_proof 38 = .ok (.ior, 1) := by decide +kernel
theorem dX7_proof_39 : decode cX7_proof 39 = .ok (.istore_n 2, 1) := by decide +kernel
theorem dX7_proof_40 : decode cX7_proof 40 = .ok (.aload_n 0, 1) := by decide +kernel
theorem dX7_proof_41 : decode cX7_proof 41 = .ok (.iload_n 2, 1) := by decide +kernel
theorem dX7_proof_42 : decode cX7_proof 42 = .ok (.bipush 18, 2) := by decide +kernel
theorem dX7_proof_44 : decode cX7_proof 44 = .ok (.ishr, 1) := by decide +kernel
theorem dX7_proof_45 : decode cX7_proof 45 = .ok (.bipush 63, 2) := by decide +kernel
theorem dX7_proof_47 : decode cX7_proof 47 = .ok (.iand, 1) := by decide +kernel
theorem dX7_proof_48 : decode cX7_proof 48 = .ok (.invokestatic 195, 3) := by decide +kernel
theorem dX7_proof_51 : decode cX7_proof 51 = .ok (.invokevirtual 64, 3) := by decide +kernel
theorem dX7_proof_54 : decode cX7_proof 54 = .ok (.aload_n 0, 1) := by decide +kernel
theorem dX7_proof_55 : decode cX7_proof 55 = .ok (.iload_n 2, 1) := by decide +kernel
theorem dX7_proof_56 : decode cX7_proof 56 = .ok (.bipush 12, 2) := by decide +kernel
theorem dX7_proof_58 : decode cX7_proof 58 = .ok (.ishr, 1) := by decide +kernel
theorem dX7_proof_59 : decode cX7_proof 59 = .ok (.bipush 63, 2) := by decide +kernel
theorem dX7_proof_61 : decode cX7_proof 61 = .ok (.iand, 1) := by decide +kernel
theorem dX7_proof_62 : decode cX7_proof 62 = .ok (.invokestatic 195, 3) := by decide +kernel
theorem dX7_proof_65 : decode cX7_proof 65 = .ok (.invokevirtual 64, 3) := by decide +kernel
theorem dX7_proof_68 : decode cX7_proof 68 = .ok (.aload_n 0, 1) := by decide +kernel
theorem dX7_proof_69 : decode cX7_proof 69 = .ok (.iload_n 2, 1) := by decide +kernel
theorem dX7_proof_70 : decode cX7_proof 70 = .ok (.bipush 6, 2) := by decide +kernel
theorem dX7_proof_72 : decode cX7_proof 72 = .ok (.ishr, 1) := by decide +kernel
theorem dX7_proof_73 : decode cX7_proof 73 = .ok (.bipush 63, 2) := by decide +kernel
theorem dX7_proof_75 : decode cX7_proof 75 = .ok (.iand, 1) := by decide +kernel
theorem dX7_proof_76 : decode cX7_proof 76 = .ok (.invokestatic 195, 3) := by decide +kernel
theorem dX7_proof_79 : decode cX7_proof 79 = .ok (.invokevirtual 64, 3) := by decide +kernel
theorem dX7_proof_82 : decode cX7_proof 82 = .ok (.aload_n 0, 1) := by decide +kernel
theorem dX7_proof_83 : decode cX7_proof 83 = .ok (.iload_n 1, 1) := by decide +kernel
theorem dX7_proof_84 : decode cX7_proof 84 = .ok (.iconst 2, 1) := by decide +kernel
theorem dX7_proof_85 : decode cX7_proof 85 = .ok (.iadd, 1) := by decide +kernel
theorem dX7_proof_86 : decode cX7_proof 86 = .ok (.bipush 20, 2) := by decide +kernel
theorem dX7_proof_88 : decode cX7_proof 88 = .ok (.if_icmp .ge 13, 3) := by decide +kernel
theorem dX7_proof_91 : decode cX7_proof 91 = .ok (.iload_n 2, 1) := by decide +kernel
theorem dX7_proof_92 : decode cX7_proof 92 = .ok (.bipush 63, 2) := by decide +kernel
theorem dX7_proof_94 : decode cX7_proof 94 = .ok (.iand, 1) := by decide +kernel
theorem dX7_proof_95 : decode cX7_proof 95 = .ok (.invokestatic 195, 3) := by decide +kernel
theorem dX7_proof_98 : decode cX7_proof 98 = .ok (.goto 5, 3) := by decide +kernel
theorem dX7_proof_101 : decode cX7_proof 101 = .ok (.bipush 61, 2) := by decide +kernel
theorem dX7_proof_103 : decode cX7_proof 103 = .ok (.invokevirtual 64, 3) := by decide +kernel
theorem dX7_proof_106 : decode cX7_proof 106 = .ok (.iinc 1 3, 3) := by decide +kernel
theorem dX7_proof_109 : decode cX7_proof 109 = .ok (.goto (-103), 3) := by decide +kernel
theorem dX7_proof_112 : decode cX7_proof 112 = .ok (.return_, 1) := by decide +kernel
theorem dX7_answer_0 : decode cX7_answer 0 = .ok (.iload_n 1, 1) := by decide +kernel
theorem dX7_answer_1 : decode cX7_answer 1 = .ok (.ifCond .eq 16, 3) := by decide +kernel
theorem dX7_answer_4 : decode cX7_answer 4 = .ok (.aload_n 0, 1) := by decide +kernel
theorem dX7_answer_5 : decode cX7_answer 5 = .ok (.aload_n 0, 1) := by decide +kernel
theorem dX7_answer_6 : decode cX7_answer 6 = .ok (.getfield 198, 3) := by decide +kernel
theorem dX7_answer_9 : decode cX7_answer 9 = .ok (.iconst 4, 1) := by decide +kernel
theorem dX7_answer_10 : decode cX7_answer 10 = .ok (.isub, 1) := by decide +kernel
theorem dX7_answer_11 : decode cX7_answer 11 = .ok (.invokevirtual 201, 3) := by decide +kernel
theorem dX7_answer_14 : decode cX7_answer 14 = .ok (.ifCond .ne 40, 3) := by decide +kernel
theorem dX7_answer_17 : decode cX7_answer 17 = .ok (.aload_n 0, 1) := by decide +kernel
theorem dX7_answer_18 : decode cX7_answer 18 = .ok (.ldc2_w 204, 3) := by decide +kernel
theorem dX7_answer_21 : decode cX7_answer 21 = .ok (.invokevirtual 206, 3) := by decide +kernel
theorem dX7_answer_24 : decode cX7_answer 24 = .ok (.aload_n 0, 1) := by decide +kernel
theorem dX7_answer_25 : decode cX7_answer 25 = .ok (.ldc2_w 210, 3) := by decide +kernel
theorem dX7_answer_28 : decode cX7_answer 28 = .ok (.invokevirtual 206, 3) := by decide +kernel
theorem dX7_answer_31 : decode cX7_answer 31 = .ok (.aload_n 0, 1) := by decide +kernel
theorem dX7_answer_32 : decode cX7_answer 32 = .ok (.ldc2_w 212, 3) := by decide +kernel
theorem dX7_answer_35 : decode cX7_answer 35 = .ok (.invokevirtual 206, 3) := by decide +kernel
theorem dX7_answer_38 : decode cX7_answer 38 = .ok (.aload_n 0, 1) := by decide +kernel
theorem dX7_answer_39 : decode cX7_answer 39 = .ok (.invokevirtual 214, 3) := by decide +kernel
theorem dX7_answer_42 : decode cX7_answer 42 = .ok (.aload_n 0, 1) := by decide +kernel
theorem dX7_answer_43 : decode cX7_answer 43 = .ok (.invokevirtual 214, 3) := by decide +kernel
theorem dX7_answer_46 : decode cX7_answer 46 = .ok (.aload_n 0, 1) := by decide +kernel
theorem dX7_answer_47 : decode cX7_answer 47 = .ok (.iconst 3, 1) := by decide +kernel
theorem dX7_answer_48 : decode cX7_answer 48 = .ok (.putfield 217, 3) := by decide +kernel
theorem dX7_answer_51 : decode cX7_answer 51 = .ok (.goto 250, 3) := by decide +kernel
theorem dX7_answer_54 : decode cX7_answer 54 = .ok (.aload_n 0, 1) := by decide +kernel
theorem dX7_answer_55 : decode cX7_answer 55 = .ok (.getfield 19, 3) := by decide +kernel
theorem dX7_answer_58 : decode cX7_answer 58 = .ok (.iconst 4, 1) := by decide +kernel
theorem dX7_answer_59 : decode cX7_answer 59 = .ok (.iaload, 1) := by decide +kernel
theorem dX7_answer_60 : decode cX7_answer 60 = .ok (.aload_n 0, 1) := by decide +kernel
theorem dX7_answer_61 : decode cX7_answer 61 = .ok (.getfield 16, 3) := by decide +kernel
theorem dX7_answer_64 : decode cX7_answer 64 = .ok (.iconst 4, 1) := by decide +kernel
theorem dX7_answer_65 : decode cX7_answer 65 = .ok (.iaload, 1) := by decide +kernel
theorem dX7_answer_66 : decode cX7_answer 66 = .ok (.isub, 1) := by decide +kernel
theorem dX7_answer_67 : decode cX7_answer 67 = .ok (.iconst 2, 1) := by decide +kernel
theorem dX7_answer_68 : decode cX7_answer 68 = .ok (.if_icmp .ne 37, 3) := by decide +kernel
theorem dX7_answer_71 : decode cX7_answer 71 = .ok (.aload_n 0, 1) := by decide +kernel
theorem dX7_answer_72 : decode cX7_answer 72 = .ok (.getfield 7, 3) := by decide +kernel
theorem dX7_answer_75 : decode cX7_answer 75 = .ok (.aload_n 0, 1) := by decide +kernel
theorem dX7_answer_76 : decode cX7_answer 76 = .ok (.getfield 16, 3) := by decide +kernel
theorem dX7_answer_79 : decode cX7_answer 79 = .ok (.iconst 4, 1) := by decide +kernel
theorem dX7_answer_80 : decode cX7_answer 80 = .ok (.iaload, 1) := by decide +kernel
theorem dX7_answer_81 : decode cX7_answer 81 = .ok (.iaload, 1) := by decide +kernel
theorem dX7_answer_82 : decode cX7_answer 82 = .ok (.bipush 49, 2) := by decide +kernel
theorem dX7_answer_84 : decode cX7_answer 84 = .ok (.if_icmp .ne 21, 3) := by decide +kernel
theorem dX7_answer_87 : decode cX7_answer 87 = .ok (.aload_n 0, 1) := by decide +kernel
theorem dX7_answer_88 : decode cX7_answer 88 = .ok (.getfield 7, 3) := by decide +kernel
theorem dX7_answer_91 : decode cX7_answer 91 = .ok (.aload_n 0, 1) := by decide +kernel
theorem dX7_answer_92 : decode cX7_answer 92 = .ok (.getfield 16, 3) := by decide +kernel
theorem dX7_answer_95 : decode cX7_answer 95 = .ok (.iconst 4, 1) := by decide +kernel
theorem dX7_answer_96 : decode cX7_answer 96 = .ok (.iaload, 1) := by decide +kernel
theorem dX7_answer_97 : decode cX7_answer 97 = .ok (.iconst 1, 1) := by decide +kernel
theorem dX7_answer_98 : decode cX7_answer 98 = .ok (.iadd, 1) := by decide +kernel
theorem dX7_answer_99 : decode cX7_answer 99 = .ok (.iaload, 1) := by decide +kernel
theorem dX7_answer_100 : decode cX7_answer 100 = .ok (.bipush 51, 2) := by decide +kernel
theorem dX7_answer_102 : decode cX7_answer 102 = .ok (.if_icmp .eq 79, 3) := by decide +kernel
theorem dX7_answer_105 : decode cX7_answer 105 = .ok (.aload_n 0, 1) := by decide +kernel
theorem dX7_answer_106 : decode cX7_answer 106 = .ok (.ldc2_w 204, 3) := by decide +kernel
theorem dX7_answer_109 : decode cX7_answer 109 = .ok (.invokevirtual 206, 3) := by decide +kernel
theorem dX7_answer_112 : decode cX7_answer 112 = .ok (.aload_n 0, 1) := by decide +kernel
theorem dX7_answer_113 : decode cX7_answer 113 = .ok (.ldc2_w 220, 3) := by decide +kernel
theorem dX7_answer_116 : decode cX7_answer 116 = .ok (.invokevirtual 206, 3) := by decide +kernel
theorem dX7_answer_119 : decode cX7_answer 119 = .ok (.aload_n 0, 1) := by decide +kernel
theorem dX7_answer_120 : decode cX7_answer 120 = .ok (.ldc2_w 222, 3) := by decide +kernel
theorem dX7_answer_123 : decode cX7_answer 123 = .ok (.invokevirtual 206, 3) := by decide +kernel
theorem dX7_answer_126 : decode cX7_answer 126 = .ok (.aload_n 0, 1) := by decide +kernel
theorem dX7_answer_127 : decode cX7_answer 127 = .ok (.ldc2_w 224, 3) := by decide +kernel
theorem dX7_answer_130 : decode cX7_answer 130 = .ok (.invokevirtual 206, 3) := by decide +kernel
theorem dX7_answer_133 : decode cX7_answer 133 = .ok (.aload_n 0, 1) := by decide +kernel
theorem dX7_answer_134 : decode cX7_answer 134 = .ok (.invokevirtual 214, 3) := by decide +kernel
theorem dX7_answer_137 : decode cX7_answer 137 = .ok (.aload_n 0, 1) := by decide +kernel
theorem dX7_answer_138 : decode cX7_answer 138 = .ok (.ldc2_w 226, 3) := by decide +kernel
theorem dX7_answer_141 : decode cX7_answer 141 = .ok (.invokevirtual 206, 3) := by decide +kernel
theorem dX7_answer_144 : decode cX7_answer 144 = .ok (.aload_n 0, 1) := by decide +kernel
theorem dX7_answer_145 : decode cX7_answer 145 = .ok (.ldc2_w 228, 3) := by decide +kernel
theorem dX7_answer_148 : decode cX7_answer 148 = .ok (.invokevirtual 206, 3) := by decide +kernel
theorem dX7_answer_151 : decode cX7_answer 151 = .ok (.aload_n 0, 1) := by decide +kernel
theorem dX7_answer_152 : decode cX7_answer 152 = .ok (.ldc2_w 230, 3) := by decide +kernel
theorem dX7_answer_155 : decode cX7_answer 155 = .ok (.invokevirtual 206, 3) := by decide +kernel
theorem dX7_answer_158 : decode cX7_answer 158 = .ok (.aload_n 0, 1) := by decide +kernel
theorem dX7_answer_159 : decode cX7_answer 159 = .ok (.ldc2_w 232, 3) := by decide +kernel
theorem dX7_answer_162 : decode cX7_answer 162 = .ok (.invokevirtual 206, 3) := by decide +kernel
theorem dX7_answer_165 : decode cX7_answer 165 = .ok (.aload_n 0, 1) := by decide +kernel
theorem dX7_answer_166 : decode cX7_answer 166 = .ok (.invokevirtual 214, 3) := by decide +kernel
theorem dX7_answer_169 : decode cX7_answer 169 = .ok (.aload_n 0, 1) := by decide +kernel
theorem dX7_answer_170 : decode cX7_answer 170 = .ok (.invokevirtual 214, 3) := by decide +kernel
theorem dX7_answer_173 : decode cX7_answer 173 = .ok (.aload_n 0, 1) := by decide +kernel
theorem dX7_answer_174 : decode cX7_answer 174 = .ok (.iconst 3, 1) := by decide +kernel
theorem dX7_answer_175 : decode cX7_answer 175 = .ok (.putfield 217, 3) := by decide +kernel
theorem dX7_answer_178 : decode cX7_answer 178 = .ok (.goto 123, 3) := by decide +kernel
theorem dX7_answer_181 : decode cX7_answer 181 = .ok (.aload_n 0, 1) := by decide +kernel
theorem dX7_answer_182 : decode cX7_answer 182 = .ok (.ldc2_w 204, 3) := by decide +kernel
theorem dX7_answer_185 : decode cX7_answer 185 = .ok (.invokevirtual 206, 3) := by decide +kernel
theorem dX7_answer_188 : decode cX7_answer 188 = .ok (.aload_n 0, 1) := by decide +kernel
theorem dX7_answer_189 : decode cX7_answer 189 = .ok (.ldc2_w 234, 3) := by decide +kernel
theorem dX7_answer_192 : decode cX7_answer 192 = .ok (.invokevirtual 206, 3) := by decide +kernel
theorem dX7_answer_195 : decode cX7_answer 195 = .ok (.aload_n 0, 1) := by decide +kernel
theorem dX7_answer_196 : decode cX7_answer 196 = .ok (.ldc2_w 236, 3) := by decide +kernel
theorem dX7_answer_199 : decode cX7_answer 199 = .ok (.invokevirtual 206, 3) := by decide +kernel
theorem dX7_answer_202 : decode cX7_answer 202 = .ok (.aload_n 0, 1) := by decide +kernel
theorem dX7_answer_203 : decode cX7_answer 203 = .ok (.ldc2_w 238, 3) := by decide +kernel
theorem dX7_answer_206 : decode cX7_answer 206 = .ok (.invokevirtual 206, 3) := by decide +kernel
theorem dX7_answer_209 : decode cX7_answer 209 = .ok (.aload_n 0, 1) := by decide +kernel
theorem dX7_answer_210 : decode cX7_answer 210 = .ok (.invokevirtual 214, 3) := by decide +kernel
theorem dX7_answer_213 : decode cX7_answer 213 = .ok (.aload_n 0, 1) := by decide +kernel
theorem dX7_answer_214 : decode cX7_answer 214 = .ok (.ldc2_w 240, 3) := by decide +kernel
theorem dX7_answer_217 : decode cX7_answer 217 = .ok (.invokevirtual 206, 3) := by decide +kernel
theorem dX7_answer_220 : decode cX7_answer 220 = .ok (.aload_n 0, 1) := by decide +kernel
theorem dX7_answer_221 : decode cX7_answer 221 = .ok (.ldc2_w 242, 3) := by decide +kernel
theorem dX7_answer_224 : decode cX7_answer 224 = .ok (.invokevirtual 206, 3) := by decide +kernel
theorem dX7_answer_227 : decode cX7_answer 227 = .ok (.aload_n 0, 1) := by decide +kernel
theorem dX7_answer_228 : decode cX7_answer 228 = .ok (.ldc2_w 244, 3) := by decide +kernel
theorem dX7_answer_231 : decode cX7_answer 231 = .ok (.invokevirtual 206, 3) := by decide +kernel
theorem dX7_answer_234 : decode cX7_answer 234 = .ok (.aload_n 0, 1) := by decide +kernel
theorem dX7_answer_235 : decode cX7_answer 235 = .ok (.invokevirtual 214, 3) := by decide +kernel
theorem dX7_answer_238 : decode cX7_answer 238 = .ok (.aload_n 0, 1) := by decide +kernel
theorem dX7_answer_239 : decode cX7_answer 239 = .ok (.ldc2_w 246, 3) := by decide +kernel
theorem dX7_answer_242 : decode cX7_answer 242 = .ok (.invokevirtual 206, 3) := by decide +kernel
theorem dX7_answer_245 : decode cX7_answer 245 = .ok (.aload_n 0, 1) := by decide +kernel
theorem dX7_answer_246 : decode cX7_answer 246 = .ok (.ldc2_w 248, 3) := by decide +kernel
theorem dX7_answer_249 : decode cX7_answer 249 = .ok (.invokevirtual 206, 3) := by decide +kernel
theorem dX7_answer_252 : decode cX7_answer 252 = .ok (.aload_n 0, 1) := by decide +kernel
theorem dX7_answer_253 : decode cX7_answer 253 = .ok (.ldc2_w 250, 3) := by decide +kernel
theorem dX7_answer_256 : decode cX7_answer 256 = .ok (.invokevirtual 206, 3) := by decide +kernel
theorem dX7_answer_259 : decode cX7_answer 259 = .ok (.aload_n 0, 1) := by decide +kernel
theorem dX7_answer_260 : decode cX7_answer 260 = .ok (.invokevirtual 214, 3) := by decide +kernel
theorem dX7_answer_263 : decode cX7_answer 263 = .ok (.aload_n 0, 1) := by decide +kernel
theorem dX7_answer_264 : decode cX7_answer 264 = .ok (.ldc2_w 226, 3) := by decide +kernel
theorem dX7_answer_267 : decode cX7_answer 267 = .ok (.invokevirtual 206, 3) := by decide +kernel
theorem dX7_answer_270 : decode cX7_answer 270 = .ok (.aload_n 0, 1) := by decide +kernel
theorem dX7_answer_271 : decode cX7_answer 271 = .ok (.ldc2_w 252, 3) := by decide +kernel
theorem dX7_answer_274 : decode cX7_answer 274 = .ok (.invokevirtual 206, 3) := by decide +kernel
theorem dX7_answer_277 : decode cX7_answer 277 = .ok (.aload_n 0, 1) := by decide +kernel
theorem dX7_answer_278 : decode cX7_answer 278 = .ok (.ldc2_w 254, 3) := by decide +kernel
theorem dX7_answer_281 : decode cX7_answer 281 = .ok (.invokevirtual 206, 3) := by decide +kernel
theorem dX7_answer_284 : decode cX7_answer 284 = .ok (.aload_n 0, 1) := by decide +kernel
theorem dX7_answer_285 : decode cX7_answer 285 = .ok (.invokevirtual 256, 3) := by decide +kernel
theorem dX7_answer_288 : decode cX7_answer 288 = .ok (.aload_n 0, 1) := by decide +kernel
theorem dX7_answer_289 : decode cX7_answer 289 = .ok (.invokevirtual 214, 3) := by decide +kernel
theorem dX7_answer_292 : decode cX7_answer 292 = .ok (.aload_n 0, 1) := by decide +kernel
theorem dX7_answer_293 : decode cX7_answer 293 = .ok (.invokevirtual 214, 3) := by decide +kernel
theorem dX7_answer_296 : decode cX7_answer 296 = .ok (.aload_n 0, 1) := by decide +kernel
theorem dX7_answer_297 : decode cX7_answer 297 = .ok (.iconst 1, 1) := by decide +kernel
theorem dX7_answer_298 : decode cX7_answer 298 = .ok (.putfield 217, 3) := by decide +kernel
theorem dX7_answer_301 : decode cX7_answer 301 = .ok (.return_, 1) := by decide +kernel
theorem dX7_ask_0 : decode cX7_ask 0 = .ok (.aload_n 0, 1) := by decide +kernel
theorem dX7_ask_1 : decode cX7_ask 1 = .ok (.getfield 7, 3) := by decide +kernel
theorem dX7_ask_4 : decode cX7_ask 4 = .ok (.aload_n 0, 1) := by decide +kernel
theorem dX7_ask_5 : decode cX7_ask 5 = .ok (.getfield 198, 3) := by decide +kernel
theorem dX7_ask_8 : decode cX7_ask 8 = .ok (.iload_n 1, 1) := by decide +kernel
theorem dX7_ask_9 : decode cX7_ask 9 = .ok (.iastore, 1) := by decide +kernel
theorem dX7_ask_10 : decode cX7_ask 10 = .ok (.aload_n 0, 1) := by decide +kernel
theorem dX7_ask_11 : decode cX7_ask 11 = .ok (.dup, 1) := by decide +kernel
theorem dX7_ask_12 : decode cX7_ask 12 = .ok (.getfield 198, 3) := by decide +kernel
theorem dX7_ask_15 : decode cX7_ask 15 = .ok (.iconst 1, 1) := by decide +kernel
theorem dX7_ask_16 : decode cX7_ask 16 = .ok (.iadd, 1) := by decide +kernel
theorem dX7_ask_17 : decode cX7_ask 17 = .ok (.putfield 198, 3) := by decide +kernel
theorem dX7_ask_20 : decode cX7_ask 20 = .ok (.aload_n 0, 1) := by decide +kernel
theorem dX7_ask_21 : decode cX7_ask 21 = .ok (.getfield 198, 3) := by decide +kernel
theorem dX7_ask_24 : decode cX7_ask 24 = .ok (.iconst 3, 1) := by decide +kernel
theorem dX7_ask_25 : decode cX7_ask 25 = .ok (.if_icmp .le 61, 3) := by decide +kernel
theorem dX7_ask_28 : decode cX7_ask 28 = .ok (.aload_n 0, 1) := by decide +kernel
theorem dX7_ask_29 : decode cX7_ask 29 = .ok (.getfield 7, 3) := by decide +kernel
theorem dX7_ask_32 : decode cX7_ask 32 = .ok (.aload_n 0, 1) := by decide +kernel
theorem dX7_ask_33 : decode cX7_ask 33 = .ok (.getfield 198, 3) := by decide +kernel
theorem dX7_ask_36 : decode cX7_ask 36 = .ok (.iconst 4, 1) := by decide +kernel
theorem dX7_ask_37 : decode cX7_ask 37 = .ok (.isub, 1) := by decide +kernel
theorem dX7_ask_38 : decode cX7_ask 38 = .ok (.iaload, 1) := by decide +kernel
theorem dX7_ask_39 : decode cX7_ask 39 = .ok (.bipush 13, 2) := by decide +kernel
theorem dX7_ask_41 : decode cX7_ask 41 = .ok (.if_icmp .ne 45, 3) := by decide +kernel
theorem dX7_ask_44 : decode cX7_ask 44 = .ok (.aload_n 0, 1) := by decide +kernel
theorem dX7_ask_45 : decode cX7_ask 45 = .ok (.getfield 7, 3) := by decide +kernel
theorem dX7_ask_48 : decode cX7_ask 48 = .ok (.aload_n 0, 1) := by decide +kernel
theorem dX7_ask_49 : decode cX7_ask 49 = .ok (.getfield 198, 3) := by decide +kernel
theorem dX7_ask_52 : decode cX7_ask 52 = .ok (.iconst 3, 1) := by decide +kernel
theorem dX7_ask_53 : decode cX7_ask 53 = .ok (.isub, 1) := by decide +kernel
theorem dX7_ask_54 : decode cX7_ask 54 = .ok (.iaload, 1) := by decide +kernel
theorem dX7_ask_55 : decode cX7_ask 55 = .ok (.bipush 10, 2) := by decide +kernel
theorem dX7_ask_57 : decode cX7_ask 57 = .ok (.if_icmp .ne 29, 3) := by decide +kernel
theorem dX7_ask_60 : decode cX7_ask 60 = .ok (.aload_n 0, 1) := by decide +kernel
theorem dX7_ask_61 : decode cX7_ask 61 = .ok (.getfield 7, 3) := by decide +kernel
theorem dX7_ask_64 : decode cX7_ask 64 = .ok (.aload_n 0, 1) := by decide +kernel
theorem dX7_ask_65 : decode cX7_ask 65 = .ok (.getfield 198, 3) := by decide +kernel
theorem dX7_ask_68 : decode cX7_ask 68 = .ok (.iconst 2, 1) := by decide +kernel
theorem dX7_ask_69 : decode cX7_ask 69 = .ok (.isub, 1) := by decide +kernel
theorem dX7_ask_70 : decode cX7_ask 70 = .ok (.iaload, 1) := by decide +kernel
theorem dX7_ask_71 : decode cX7_ask 71 = .ok (.bipush 13, 2) := by decide +kernel
theorem dX7_ask_73 : decode cX7_ask 73 = .ok (.if_icmp .ne 13, 3) := by decide +kernel
theorem dX7_ask_76 : decode cX7_ask 76 = .ok (.iload_n 1, 1) := by decide +kernel
theorem dX7_ask_77 : decode cX7_ask 77 = .ok (.bipush 10, 2) := by decide +kernel
theorem dX7_ask_79 : decode cX7_ask 79 = .ok (.if_icmp .ne 7, 3) := by decide +kernel
theorem dX7_ask_82 : decode cX7_ask 82 = .ok (.iconst 1, 1) := by decide +kernel
theorem dX7_ask_83 : decode cX7_ask 83 = .ok (.goto 4, 3) := by decide +kernel
theorem dX7_ask_86 : decode cX7_ask 86 = .ok (.iconst 0, 1) := by decide +kernel
theorem dX7_ask_87 : decode cX7_ask 87 = .ok (.istore_n 2, 1) := by decide +kernel
theorem dX7_ask_88 : decode cX7_ask 88 = .ok (.iload_n 2, 1) := by decide +kernel
theorem dX7_ask_89 : decode cX7_ask 89 = .ok (.ifCond .ne 13, 3) := by decide +kernel
theorem dX7_ask_92 : decode cX7_ask 92 = .ok (.aload_n 0, 1) := by decide +kernel
theorem dX7_ask_93 : decode cX7_ask 93 = .ok (.getfield 198, 3) := by decide +kernel
theorem dX7_ask_96 : decode cX7_ask 96 = .ok (.sipush 400, 3) := by decide +kernel
theorem dX7_ask_99 : decode cX7_ask 99 = .ok (.if_icmp .ne 8, 3) := by decide +kernel
theorem dX7_ask_102 : decode cX7_ask 102 = .ok (.aload_n 0, 1) := by decide +kernel
theorem dX7_ask_103 : decode cX7_ask 103 = .ok (.iload_n 2, 1) := by decide +kernel
theorem dX7_ask_104 : decode cX7_ask 104 = .ok (.invokevirtual 259, 3) := by decide +kernel
theorem dX7_ask_107 : decode cX7_ask 107 = .ok (.return_, 1) := by decide +kernel
theorem dX7_violate_0 : decode cX7_violate 0 = .ok (.aload_n 0, 1) := by decide +kernel
theorem dX7_violate_1 : decode cX7_violate 1 = .ok (.getfield 217, 3) := by decide +kernel
theorem dX7_violate_4 : decode cX7_violate 4 = .ok (.iconst 1, 1) := by decide +kernel
theorem dX7_violate_5 : decode cX7_violate 5 = .ok (.if_icmp .ne 8, 3) := by decide +kernel
theorem dX7_violate_8 : decode cX7_violate 8 = .ok (.aload_n 0, 1) := by decide +kernel
theorem dX7_violate_9 : decode cX7_violate 9 = .ok (.iload_n 1, 1) := by decide +kernel
theorem dX7_violate_10 : decode cX7_violate 10 = .ok (.invokevirtual 263, 3) := by decide +kernel
theorem dX7_violate_13 : decode cX7_violate 13 = .ok (.aload_n 0, 1) := by decide +kernel
theorem dX7_violate_14 : decode cX7_violate 14 = .ok (.iconst 3, 1) := by decide +kernel
theorem dX7_violate_15 : decode cX7_violate 15 = .ok (.putfield 217, 3) := by decide +kernel
theorem dX7_violate_18 : decode cX7_violate 18 = .ok (.aload_n 0, 1) := by decide +kernel
theorem dX7_violate_19 : decode cX7_violate 19 = .ok (.iload_n 1, 1) := by decide +kernel
theorem dX7_violate_20 : decode cX7_violate 20 = .ok (.putfield 266, 3) := by decide +kernel
theorem dX7_violate_23 : decode cX7_violate 23 = .ok (.return_, 1) := by decide +kernel
theorem dX7_first_0 : decode cX7_first 0 = .ok (.aload_n 0, 1) := by decide +kernel
theorem dX7_first_1 : decode cX7_first 1 = .ok (.iload_n 1, 1) := by decide +kernel
theorem dX7_first_2 : decode cX7_first 2 = .ok (.bipush 127, 2) := by decide +kernel
theorem dX7_first_4 : decode cX7_first 4 = .ok (.if_icmp .le 7, 3) := by decide +kernel
theorem dX7_first_7 : decode cX7_first 7 = .ok (.iconst 1, 1) := by decide +kernel
theorem dX7_first_8 : decode cX7_first 8 = .ok (.goto 4, 3) := by decide +kernel
theorem dX7_first_11 : decode cX7_first 11 = .ok (.iconst 0, 1) := by decide +kernel
theorem dX7_first_12 : decode cX7_first 12 = .ok (.putfield 269, 3) := by decide +kernel
theorem dX7_first_15 : decode cX7_first 15 = .ok (.aload_n 0, 1) := by decide +kernel
theorem dX7_first_16 : decode cX7_first 16 = .ok (.iload_n 1, 1) := by decide +kernel
theorem dX7_first_17 : decode cX7_first 17 = .ok (.bipush 16, 2) := by decide +kernel
theorem dX7_first_19 : decode cX7_first 19 = .ok (.irem, 1) := by decide +kernel
theorem dX7_first_20 : decode cX7_first 20 = .ok (.putfield 273, 3) := by decide +kernel
theorem dX7_first_23 : decode cX7_first 23 = .ok (.aload_n 0, 1) := by decide +kernel
theorem dX7_first_24 : decode cX7_first 24 = .ok (.getfield 273, 3) := by decide +kernel
theorem dX7_first_27 : decode cX7_first 27 = .ok (.iconst 1, 1) := by decide +kernel
theorem dX7_first_28 : decode cX7_first 28 = .ok (.if_icmp .eq 11, 3) := by decide +kernel
theorem dX7_first_31 : decode cX7_first 31 = .ok (.aload_n 0, 1) := by decide +kernel
theorem dX7_first_32 : decode cX7_first 32 = .ok (.getfield 273, 3) := by decide +kernel
theorem dX7_first_35 : decode cX7_first 35 = .ok (.iconst 2, 1) := by decide +kernel
theorem dX7_first_36 : decode cX7_first 36 = .ok (.if_icmp .ne 7, 3) := by decide +kernel
theorem dX7_first_39 : decode cX7_first 39 = .ok (.iconst 1, 1) := by decide +kernel
theorem dX7_first_40 : decode cX7_first 40 = .ok (.goto 4, 3) := by decide +kernel
theorem dX7_first_43 : decode cX7_first 43 = .ok (.iconst 0, 1) := by decide +kernel
theorem dX7_first_44 : decode cX7_first 44 = .ok (.istore_n 2, 1) := by decide +kernel
theorem dX7_first_45 : decode cX7_first 45 = .ok (.aload_n 0, 1) := by decide +kernel
theorem dX7_first_46 : decode cX7_first 46 = .ok (.getfield 273, 3) := by decide +kernel
theorem dX7_first_49 : decode cX7_first 49 = .ok (.bipush 8, 2) := by decide +kernel
theorem dX7_first_51 : decode cX7_first 51 = .ok (.if_icmp .lt 16, 3) := by decide +kernel
theorem dX7_first_54 : decode cX7_first 54 = .ok (.aload_n 0, 1) := by decide +kernel
theorem dX7_first_55 : decode cX7_first 55 = .ok (.getfield 273, 3) := by decide +kernel
theorem dX7_first_58 : decode cX7_first 58 = .ok (.bipush 10, 2) := by decide +kernel
theorem dX7_first_60 : decode cX7_first 60 = .ok (.if_icmp .gt 7, 3) := by decide +kernel
theorem dX7_first_63 : decode cX7_first 63 = .ok (.iconst 1, 1) := by decide +kernel
theorem dX7_first_64 : decode cX7_first 64 = .ok (.goto 4, 3) := by decide +kernel
theorem dX7_first_67 : decode cX7_first 67 = .ok (.iconst 0, 1) := by decide +kernel
theorem dX7_first_68 : decode cX7_first 68 = .ok (.istore_n 3, 1) := by decide +kernel
theorem dX7_first_69 : decode cX7_first 69 = .ok (.iload_n 1, 1) := by decide +kernel
theorem dX7_first_70 : decode cX7_first 70 = .ok (.bipush 16, 2) := by decide +kernel
theorem dX7_first_72 : decode cX7_first 72 = .ok (.idiv, 1) := by decide +kernel
theorem dX7_first_73 : decode cX7_first 73 = .ok (.bipush 8, 2) := by decide +kernel
theorem dX7_first_75 : decode cX7_first 75 = .ok (.irem, 1) := by decide +kernel
theorem dX7_first_76 : decode cX7_first 76 = .ok (.ifCond .ne 49, 3) := by decide +kernel
theorem dX7_first_79 : decode cX7_first 79 = .ok (.iload_n 3, 1) := by decide +kernel
theorem dX7_first_80 : decode cX7_first 80 = .ok (.ifCond .eq 13, 3) := by decide +kernel
theorem dX7_first_83 : decode cX7_first 83 = .ok (.aload_n 0, 1) := by decide +kernel
theorem dX7_first_84 : decode cX7_first 84 = .ok (.getfield 269, 3) := by decide +kernel
theorem dX7_first_87 : decode cX7_first 87 = .ok (.ifCond .eq 38, 3) := by decide +kernel
theorem dX7_first_90 : decode cX7_first 90 = .ok (.goto 31, 3) := by decide +kernel
theorem dX7_first_93 : decode cX7_first 93 = .ok (.aload_n 0, 1) := by decide +kernel
theorem dX7_first_94 : decode cX7_first 94 = .ok (.getfield 273, 3) := by decide +kernel
theorem dX7_first_97 : decode cX7_first 97 = .ok (.ifCond .ne 13, 3) := by decide +kernel
theorem dX7_first_100 : decode cX7_first 100 = .ok (.aload_n 0, 1) := by decide +kernel
theorem dX7_first_101 : decode cX7_first 101 = .ok (.getfield 276, 3) := by decide +kernel
theorem dX7_first_104 : decode cX7_first 104 = .ok (.ifCond .eq 21, 3) := by decide +kernel
theorem dX7_first_107 : decode cX7_first 107 = .ok (.goto 14, 3) := by decide +kernel
theorem dX7_first_110 : decode cX7_first 110 = .ok (.iload_n 2, 1) := by decide +kernel
theorem dX7_first_111 : decode cX7_first 111 = .ok (.ifCond .eq 14, 3) := by decide +kernel
theorem dX7_first_114 : decode cX7_first 114 = .ok (.aload_n 0, 1) := by decide +kernel
theorem dX7_first_115 : decode cX7_first 115 = .ok (.getfield 276, 3) := by decide +kernel
theorem dX7_first_118 : decode cX7_first 118 = .ok (.ifCond .ne 7, 3) := by decide +kernel
theorem dX7_first_121 : decode cX7_first 121 = .ok (.iconst 1, 1) := by decide +kernel
theorem dX7_first_122 : decode cX7_first 122 = .ok (.goto 4, 3) := by decide +kernel
theorem dX7_first_125 : decode cX7_first 125 = .ok (.iconst 0, 1) := by decide +kernel
theorem dX7_first_126 : decode cX7_first 126 = .ok (.istore 4, 2) := by decide +kernel
theorem dX7_first_128 : decode cX7_first 128 = .ok (.iload 4, 2) := by decide +kernel
theorem dX7_first_130 : decode cX7_first 130 = .ok (.ifCond .ne 11, 3) := by decide +kernel
theorem dX7_first_133 : decode cX7_first 133 = .ok (.aload_n 0, 1) := by decide +kernel
theorem dX7_first_134 : decode cX7_first 134 = .ok (.sipush 1002, 3) := by decide +kernel
theorem dX7_first_137 : decode cX7_first 137 = .ok (.invokevirtual 279, 3) := by decide +kernel
theorem dX7_first_140 : decode cX7_first 140 = .ok (.return_, 1) := by decide +kernel
theorem dX7_first_141 : decode cX7_first 141 = .ok (.iload_n 2, 1) := by decide +kernel
theorem dX7_first_142 : decode cX7_first 142 = .ok (.ifCond .eq 25, 3) := by decide +kernel
theorem dX7_first_145 : decode cX7_first 145 = .ok (.aload_n 0, 1) := by decide +kernel
theorem dX7_first_146 : decode cX7_first 146 = .ok (.iconst 1, 1) := by decide +kernel
theorem dX7_first_147 : decode cX7_first 147 = .ok (.putfield 276, 3) := by decide +kernel
theorem dX7_first_150 : decode cX7_first 150 = .ok (.aload_n 0, 1) := by decide +kernel
theorem dX7_first_151 : decode cX7_first 151 = .ok (.aload_n 0, 1) := by decide +kernel
theorem dX7_first_152 : decode cX7_first 152 = .ok (.getfield 273, 3) := by decide +kernel
theorem dX7_first_155 : decode cX7_first 155 = .ok (.putfield 282, 3) := by decide +kernel
theorem dX7_first_158 : decode cX7_first 158 = .ok (.aload_n 0, 1) := by decide +kernel
theorem dX7_first_159 : decode cX7_first 159 = .ok (.iconst 0, 1) := by decide +kernel
theorem dX7_first_160 : decode cX7_first 160 = .ok (.putfield 285, 3) := by decide +kernel
theorem dX7_first_163 : decode cX7_first 163 = .ok (.aload_n 0, 1) := by decide +kernel
theorem dX7_first_164 : decode cX7_first 164 = .ok (.invokevirtual 81, 3) := by decide +kernel
theorem dX7_first_167 : decode cX7_first 167 = .ok (.aload_n 0, 1) := by decide +kernel
theorem dX7_first_168 : decode cX7_first 168 = .ok (.iconst 1, 1) := by decide +kernel
theorem dX7_first_169 : decode cX7_first 169 = .ok (.putfield 288, 3) := by decide +kernel
theorem dX7_first_172 : decode cX7_first 172 = .ok (.return_, 1) := by decide +kernel
theorem dX7_isBrief_0 : decode cX7_isBrief 0 = .ok (.aload_n 0, 1) := by decide +kernel
theorem dX7_isBrief_1 : decode cX7_isBrief 1 = .ok (.getfield 273, 3) := by decide +kernel
theorem dX7_isBrief_4 : decode cX7_isBrief 4 = .ok (.bipush 8, 2) := by decide +kernel
theorem dX7_isBrief_6 : decode cX7_isBrief 6 = .ok (.if_icmp .lt 7, 3) := by decide +kernel
theorem dX7_isBrief_9 : decode cX7_isBrief 9 = .ok (.iconst 1, 1) := by decide +kernel
theorem dX7_isBrief_10 : decode cX7_isBrief 10 = .ok (.goto 4, 3) := by decide +kernel
theorem dX7_isBrief_13 : decode cX7_isBrief 13 = .ok (.iconst 0, 1) := by decide +kernel
theorem dX7_isBrief_14 : decode cX7_isBrief 14 = .ok (.ireturn, 1) := by decide +kernel
theorem dX7_measured_0 : decode cX7_measured 0 = .ok (.aload_n 0, 1) := by decide +kernel
theorem dX7_measured_1 : decode cX7_measured 1 = .ok (.invokevirtual 291, 3) := by decide +kernel
theorem dX7_measured_4 : decode cX7_measured 4 = .ok (.ifCond .ne 28, 3) := by decide +kernel
theorem dX7_measured_7 : decode cX7_measured 7 = .ok (.aload_n 0, 1) := by decide +kernel
theorem dX7_measured_8 : decode cX7_measured 8 = .ok (.getfield 295, 3) := by decide +kernel
theorem dX7_measured_11 : decode cX7_measured 11 = .ok (.ldc2_w 299, 3) := by decide +kernel
theorem dX7_measured_14 : decode cX7_measured 14 = .ok (.aload_n 0, 1) := by decide +kernel
theorem dX7_measured_15 : decode cX7_measured 15 = .ok (.getfield 285, 3) := by decide +kernel
theorem dX7_measured_18 : decode cX7_measured 18 = .ok (.i2l, 1) := by decide +kernel
theorem dX7_measured_19 : decode cX7_measured 19 = .ok (.lsub, 1) := by decide +kernel
theorem dX7_measured_20 : decode cX7_measured 20 = .ok (.lcmp, 1) := by decide +kernel
theorem dX7_measured_21 : decode cX7_measured 21 = .ok (.ifCond .le 11, 3) := by decide +kernel
theorem dX7_measured_24 : decode cX7_measured 24 = .ok (.aload_n 0, 1) := by decide +kernel
theorem dX7_measured_25 : decode cX7_measured 25 = .ok (.sipush 1009, 3) := by decide +kernel
theorem dX7_measured_28 : decode cX7_measured 28 = .ok (.invokevirtual 279, 3) := by decide +kernel
theorem dX7_measured_31 : decode cX7_measured 31 = .ok (.return_, 1) := by decide +kernel
theorem dX7_measured_32 : decode cX7_measured 32 = .ok (.aload_n 0, 1) := by decide +kernel
theorem dX7_measured_33 : decode cX7_measured 33 = .ok (.iconst 3, 1) := by decide +kernel
theorem dX7_measured_34 : decode cX7_measured 34 = .ok (.putfield 288, 3) := by decide +kernel
theorem dX7_measured_37 : decode cX7_measured 37 = .ok (.aload_n 0, 1) := by decide +kernel
theorem dX7_measured_38 : decode cX7_measured 38 = .ok (.iconst 0, 1) := by decide +kernel
theorem dX7_measured_39 : decode cX7_measured 39 = .ok (.putfield 301, 3) := by decide +kernel
theorem dX7_measured_42 : decode cX7_measured 42 = .ok (.return_, 1) := by decide +kernel
theorem dX7_second_0 : decode cX7_second 0 = .ok (.iload_n 1, 1) := by decide +kernel
theorem dX7_second_1 : decode cX7_second 1 = .ok (.sipush 128, 3) := by decide +kernel
theorem dX7_second_4 : decode cX7_second 4 = .ok (.irem, 1) := by decide +kernel
theorem dX7_second_5 : decode cX7_second 5 = .ok (.istore_n 2, 1) := by decide +kernel
theorem dX7_second_6 : decode cX7_second 6 = .ok (.iload_n 1, 1) := by decide +kernel
theorem dX7_second_7 : decode cX7_second 7 = .ok (.sipush 128, 3) := by decide +kernel
theorem dX7_second_10 : decode cX7_second 10 = .ok (.if_icmp .lt 16, 3) := by decide +kernel
theorem dX7_second_13 : decode cX7_second 13 = .ok (.aload_n 0, 1) := by decide +kernel
theorem dX7_second_14 : decode cX7_second 14 = .ok (.invokevirtual 291, 3) := by decide +kernel
theorem dX7_second_17 : decode cX7_second 17 = .ok (.ifCond .eq 17, 3) := by decide +kernel
theorem dX7_second_20 : decode cX7_second 20 = .ok (.iload_n 2, 1) := by decide +kernel
theorem dX7_second_21 : decode cX7_second 21 = .ok (.bipush 125, 2) := by decide +kernel
theorem dX7_second_23 : decode cX7_second 23 = .ok (.if_icmp .le 11, 3) := by decide +kernel
theorem dX7_second_26 : decode cX7_second 26 = .ok (.aload_n 0, 1) := by decide +kernel
theorem dX7_second_27 : decode cX7_second 27 = .ok (.sipush 1002, 3) := by decide +kernel
theorem dX7_second_30 : decode cX7_second 30 = .ok (.invokevirtual 279, 3) := by decide +kernel
theorem dX7_second_33 : decode cX7_second 33 = .ok (.return_, 1) := by decide +kernel
theorem dX7_second_34 : decode cX7_second 34 = .ok (.aload_n 0, 1) := by decide +kernel
theorem dX7_second_35 : decode cX7_second 35 = .ok (.iload_n 2, 1) := by decide +kernel
theorem dX7_second_36 : decode cX7_second 36 = .ok (.i2l, 1) := by decide +kernel
theorem dX7_second_37 : decode cX7_second 37 = .ok (.putfield 295, 3) := by decide +kernel
theorem dX7_second_40 : decode cX7_second 40 = .ok (.aload_n 0, 1) := by decide +kernel
theorem dX7_second_41 : decode cX7_second 41 = .ok (.iload_n 2, 1) := by decide +kernel
theorem dX7_second_42 : decode cX7_second 42 = .ok (.bipush 126, 2) := by decide +kernel
theorem dX7_second_44 : decode cX7_second 44 = .ok (.if_icmp .ne 7, 3) := by decide +kernel
theorem dX7_second_47 : decode cX7_second 47 = .ok (.iconst 2, 1) := by decide +kernel
theorem dX7_second_48 : decode cX7_second 48 = .ok (.goto 15, 3) := by decide +kernel
theorem dX7_second_51 : decode cX7_second 51 = .ok (.iload_n 2, 1) := by decide +kernel
theorem dX7_second_52 : decode cX7_second 52 = .ok (.bipush 127, 2) := by decide +kernel
theorem dX7_second_54 : decode cX7_second 54 = .ok (.if_icmp .ne 8, 3) := by decide +kernel
theorem dX7_second_57 : decode cX7_second 57 = .ok (.bipush 8, 2) := by decide +kernel
theorem dX7_second_59 : decode cX7_second 59 = .ok (.goto 4, 3) := by decide +kernel
theorem dX7_second_62 : decode cX7_second 62 = .ok (.iconst 0, 1) := by decide +kernel
theorem dX7_second_63 : decode cX7_second 63 = .ok (.putfield 304, 3) := by decide +kernel
theorem dX7_second_66 : decode cX7_second 66 = .ok (.aload_n 0, 1) := by decide +kernel
theorem dX7_second_67 : decode cX7_second 67 = .ok (.getfield 304, 3) := by decide +kernel
theorem dX7_second_70 : decode cX7_second 70 = .ok (.ifCond .ne 8, 3) := by decide +kernel
theorem dX7_second_73 : decode cX7_second 73 = .ok (.aload_n 0, 1) := by decide +kernel
theorem dX7_second_74 : decode cX7_second 74 = .ok (.invokevirtual 307, 3) := by decide +kernel
theorem dX7_second_77 : decode cX7_second 77 = .ok (.return_, 1) := by decide +kernel
theorem dX7_second_78 : decode cX7_second 78 = .ok (.aload_n 0, 1) := by decide +kernel
theorem dX7_second_79 : decode cX7_second 79 = .ok (.lconst 0, 1) := by decide +kernel
theorem dX7_second_80 : decode cX7_second 80 = .ok (.putfield 295, 3) := by decide +kernel
theorem dX7_second_83 : decode cX7_second 83 = .ok (.aload_n 0, 1) := by decide +kernel
theorem dX7_second_84 : decode cX7_second 84 = .ok (.iconst 0, 1) := by decide +kernel
theorem dX7_second_85 : decode cX7_second 85 = .ok (.putfield 301, 3) := by decide +kernel
theorem dX7_second_88 : decode cX7_second 88 = .ok (.aload_n 0, 1) := by decide +kernel
theorem dX7_second_89 : decode cX7_second 89 = .ok (.iconst 2, 1) := by decide +kernel
theorem dX7_second_90 : decode cX7_second 90 = .ok (.putfield 288, 3) := by decide +kernel
theorem dX7_second_93 : decode cX7_second 93 = .ok (.return_, 1) := by decide +kernel
theorem dX7_lengthByte_0 : decode cX7_lengthByte 0 = .ok (.aload_n 0, 1) := by decide +kernel
theorem dX7_lengthByte_1 : decode cX7_lengthByte 1 = .ok (.aload_n 0, 1) := by decide +kernel
theorem dX7_lengthByte_2 : decode cX7_lengthByte 2 = .ok (.getfield 295, 3) := by decide +kernel
theorem dX7_lengthByte_5 : decode cX7_lengthByte 5 = .ok (.bipush 8, 2) := by decide +kernel
theorem dX7_lengthByte_7 : decode cX7_lengthByte 7 = .ok (.lshl, 1) := by decide +kernel
theorem dX7_lengthByte_8 : decode cX7_lengthByte 8 = .ok (.iload_n 1, 1) := by decide +kernel
theorem dX7_lengthByte_9 : decode cX7_lengthByte 9 = .ok (.i2l, 1) := by decide +kernel
theorem dX7_lengthByte_10 : decode cX7_lengthByte 10 = .ok (.lor, 1) := by decide +kernel
theorem dX7_lengthByte_11 : decode cX7_lengthByte 11 = .ok (.putfield 295, 3) := by decide +kernel
theorem dX7_lengthByte_14 : decode cX7_lengthByte 14 = .ok (.aload_n 0, 1) := by decide +kernel
theorem dX7_lengthByte_15 : decode cX7_lengthByte 15 = .ok (.dup, 1) := by decide +kernel
theorem dX7_lengthByte_16 : decode cX7_lengthByte 16 = .ok (.getfield 301, 3) := by decide +kernel
theorem dX7_lengthByte_19 : decode cX7_lengthByte 19 = .ok (.iconst 1, 1) := by decide +kernel
theorem dX7_lengthByte_20 : decode cX7_lengthByte 20 = .ok (.iadd, 1) := by decide +kernel
theorem dX7_lengthByte_21 : decode cX7_lengthByte 21 = .ok (.putfield 301, 3) := by decide +kernel
theorem dX7_lengthByte_24 : decode cX7_lengthByte 24 = .ok (.aload_n 0, 1) := by decide +kernel
theorem dX7_lengthByte_25 : decode cX7_lengthByte 25 = .ok (.getfield 301, 3) := by decide +kernel
theorem dX7_lengthByte_28 : decode cX7_lengthByte 28 = .ok (.aload_n 0, 1) := by decide +kernel
theorem dX7_lengthByte_29 : decode cX7_lengthByte 29 = .ok (.getfield 304, 3) := by decide +kernel
theorem dX7_lengthByte_32 : decode cX7_lengthByte 32 = .ok (.if_icmp .ge 4, 3) := by decide +kernel
theorem dX7_lengthByte_35 : decode cX7_lengthByte 35 = .ok (.return_, 1) := by decide +kernel
theorem dX7_lengthByte_36 : decode cX7_lengthByte 36 = .ok (.aload_n 0, 1) := by decide +kernel
theorem dX7_lengthByte_37 : decode cX7_lengthByte 37 = .ok (.getfield 304, 3) := by decide +kernel
theorem dX7_lengthByte_40 : decode cX7_lengthByte 40 = .ok (.iconst 2, 1) := by decide +kernel
theorem dX7_lengthByte_41 : decode cX7_lengthByte 41 = .ok (.if_icmp .ne 17, 3) := by decide +kernel
theorem dX7_lengthByte_44 : decode cX7_lengthByte 44 = .ok (.aload_n 0, 1) := by decide +kernel
theorem dX7_lengthByte_45 : decode cX7_lengthByte 45 = .ok (.getfield 295, 3) := by decide +kernel
theorem dX7_lengthByte_48 : decode cX7_lengthByte 48 = .ok (.ldc2_w 310, 3) := by decide +kernel
theorem dX7_lengthByte_51 : decode cX7_lengthByte 51 = .ok (.lcmp, 1) := by decide +kernel
theorem dX7_lengthByte_52 : decode cX7_lengthByte 52 = .ok (.ifCond .ge 27, 3) := by decide +kernel
theorem dX7_lengthByte_55 : decode cX7_lengthByte 55 = .ok (.goto 14, 3) := by decide +kernel
theorem dX7_lengthByte_58 : decode cX7_lengthByte 58 = .ok (.aload_n 0, 1) := by decide +kernel
theorem dX7_lengthByte_59 : decode cX7_lengthByte 59 = .ok (.getfield 295, 3) := by decide +kernel
theorem dX7_lengthByte_62 : decode cX7_lengthByte 62 = .ok (.ldc2_w 312, 3) := by decide +kernel
theorem dX7_lengthByte_65 : decode cX7_lengthByte 65 = .ok (.lcmp, 1) := by decide +kernel
theorem dX7_lengthByte_66 : decode cX7_lengthByte 66 = .ok (.ifCond .ge 13, 3) := by decide +kernel
theorem dX7_lengthByte_69 : decode cX7_lengthByte 69 = .ok (.aload_n 0, 1) := by decide +kernel
theorem dX7_lengthByte_70 : decode cX7_lengthByte 70 = .ok (.sipush 1002, 3) := by decide +kernel
theorem dX7_lengthByte_73 : decode cX7_lengthByte 73 = .ok (.invokevirtual 279, 3) := by decide +kernel
theorem dX7_lengthByte_76 : decode cX7_lengthByte 76 = .ok (.goto 7, 3) := by decide +kernel
theorem dX7_lengthByte_79 : decode cX7_lengthByte 79 = .ok (.aload_n 0, 1) := by decide +kernel
theorem dX7_lengthByte_80 : decode cX7_lengthByte 80 = .ok (.invokevirtual 307, 3) := by decide +kernel
theorem dX7_lengthByte_83 : decode cX7_lengthByte 83 = .ok (.return_, 1) := by decide +kernel
theorem dX7_maskByte_0 : decode cX7_maskByte 0 = .ok (.aload_n 0, 1) := by decide +kernel
theorem dX7_maskByte_1 : decode cX7_maskByte 1 = .ok (.getfield 28, 3) := by decide +kernel
theorem dX7_maskByte_4 : decode cX7_maskByte 4 = .ok (.aload_n 0, 1) := by decide +kernel
theorem dX7_maskByte_5 : decode cX7_maskByte 5 = .ok (.getfield 301, 3) := by decide +kernel
theorem dX7_maskByte_8 : decode cX7_maskByte 8 = .ok (.iload_n 1, 1) := by decide +kernel
theorem dX7_maskByte_9 : decode cX7_maskByte 9 = .ok (.iastore, 1) := by decide +kernel
theorem dX7_maskByte_10 : decode cX7_maskByte 10 = .ok (.aload_n 0, 1) := by decide +kernel
theorem dX7_maskByte_11 : decode cX7_maskByte 11 = .ok (.dup, 1) := by decide +kernel
theorem dX7_maskByte_12 : decode cX7_maskByte 12 = .ok (.getfield 301, 3) := by decide +kernel
theorem dX7_maskByte_15 : decode cX7_maskByte 15 = .ok (.iconst 1, 1) := by decide +kernel
theorem dX7_maskByte_16 : decode cX7_maskByte 16 = .ok (.iadd, 1) := by decide +kernel
theorem dX7_maskByte_17 : decode cX7_maskByte 17 = .ok (.putfield 301, 3) := by decide +kernel
theorem dX7_maskByte_20 : decode cX7_maskByte 20 = .ok (.aload_n 0, 1) := by decide +kernel
theorem dX7_maskByte_21 : decode cX7_maskByte 21 = .ok (.getfield 301, 3) := by decide +kernel
theorem dX7_maskByte_24 : decode cX7_maskByte 24 = .ok (.iconst 4, 1) := by decide +kernel
theorem dX7_maskByte_25 : decode cX7_maskByte 25 = .ok (.if_icmp .ge 4, 3) := by decide +kernel
theorem dX7_maskByte_28 : decode cX7_maskByte 28 = .ok (.return_, 1) := by decide +kernel
theorem dX7_maskByte_29 : decode cX7_maskByte 29 = .ok (.aload_n 0, 1) := by decide +kernel
theorem dX7_maskByte_30 : decode cX7_maskByte 30 = .ok (.iconst 0, 1) := by decide +kernel
theorem dX7_maskByte_31 : decode cX7_maskByte 31 = .ok (.putfield 301, 3) := by decide +kernel
theorem dX7_maskByte_34 : decode cX7_maskByte 34 = .ok (.aload_n 0, 1) := by decide +kernel
theorem dX7_maskByte_35 : decode cX7_maskByte 35 = .ok (.iconst 4, 1) := by decide +kernel
theorem dX7_maskByte_36 : decode cX7_maskByte 36 = .ok (.putfield 288, 3) := by decide +kernel
theorem dX7_maskByte_39 : decode cX7_maskByte 39 = .ok (.aload_n 0, 1) := by decide +kernel
theorem dX7_maskByte_40 : decode cX7_maskByte 40 = .ok (.getfield 295, 3) := by decide +kernel
theorem dX7_maskByte_43 : decode cX7_maskByte 43 = .ok (.lconst 0, 1) := by decide +kernel
theorem dX7_maskByte_44 : decode cX7_maskByte 44 = .ok (.lcmp, 1) := by decide +kernel
theorem dX7_maskByte_45 : decode cX7_maskByte 45 = .ok (.ifCond .ne 7, 3) := by decide +kernel
theorem dX7_maskByte_48 : decode cX7_maskByte 48 = .ok (.aload_n 0, 1) := by decide +kernel
theorem dX7_maskByte_49 : decode cX7_maskByte 49 = .ok (.invokevirtual 314, 3) := by decide +kernel
theorem dX7_maskByte_52 : decode cX7_maskByte 52 = .ok (.return_, 1) := by decide +kernel
theorem dX7_contentByte_0 : decode cX7_contentByte 0 = .ok (.iload_n 1, 1) := by decide +kernel
theorem dX7_contentByte_1 : decode cX7_contentByte 1 = .ok (.aload_n 0, 1) := by decide +kernel
theorem dX7_contentByte_2 : decode cX7_contentByte 2 = .ok (.getfield 28, 3) := by decide +kernel
theorem dX7_contentByte_5 : decode cX7_contentByte 5 = .ok (.aload_n 0, 1) := by decide +kernel
theorem dX7_contentByte_6 : decode cX7_contentByte 6 = .ok (.getfield 301, 3) := by decide +kernel
theorem dX7_contentByte_9 : decode cX7_contentByte 9 = .ok (.iconst 4, 1) := by decide +kernel
theorem dX7_contentByte_10 : decode cX7_contentByte 10 = .ok (.irem, 1) := by decide +kernel
theorem dX7_contentByte_11 : decode cX7_contentByte 11 = .ok (.iaload, 1) := by decide +kernel
theorem dX7_contentByte_12 : decode cX7_contentByte 12 = .ok (.ixor, 1) := by decide +kernel
theorem dX7_contentByte_13 : decode cX7_contentByte 13 = .ok (.istore_n 2, 1) := by decide +kernel
theorem dX7_contentByte_14 : decode cX7_contentByte 14 = .ok (.aload_n 0, 1) := by decide +kernel
theorem dX7_contentByte_15 : decode cX7_contentByte 15 = .ok (.dup, 1) := by decide +kernel
theorem dX7_contentByte_16 : decode cX7_contentByte 16 = .ok (.getfield 301, 3) := by decide +kernel
theorem dX7_contentByte_19 : decode cX7_contentByte 19 = .ok (.iconst 1, 1) := by decide +kernel
theorem dX7_contentByte_20 : decode cX7_contentByte 20 = .ok (.iadd, 1) := by decide +kernel
theorem dX7_contentByte_21 : decode cX7_contentByte 21 = .ok (.putfield 301, 3) := by decide +kernel
theorem dX7_contentByte_24 : decode cX7_contentByte 24 = .ok (.aload_n 0, 1) := by decide +kernel
theorem dX7_contentByte_25 : decode cX7_contentByte 25 = .ok (.invokevirtual 291, 3) := by decide +kernel
theorem dX7_contentByte_28 : decode cX7_contentByte 28 = .ok (.ifCond .eq 18, 3) := by decide +kernel
theorem dX7_contentByte_31 : decode cX7_contentByte 31 = .ok (.aload_n 0, 1) := by decide +kernel
theorem dX7_contentByte_32 : decode cX7_contentByte 32 = .ok (.getfield 31, 3) := by decide +kernel
theorem dX7_contentByte_35 : decode cX7_contentByte 35 = .ok (.aload_n 0, 1) := by decide +kernel
theorem dX7_contentByte_36 : decode cX7_contentByte 36 = .ok (.getfield 301, 3) := by decide +kernel
theorem dX7_contentByte_39 : decode cX7_contentByte 39 = .ok (.iconst 1, 1) := by decide +kernel
theorem dX7_contentByte_40 : decode cX7_contentByte 40 = .ok (.isub, 1) := by decide +kernel
theorem dX7_contentByte_41 : decode cX7_contentByte 41 = .ok (.iload_n 2, 1) := by decide +kernel
theorem dX7_contentByte_42 : decode cX7_contentByte 42 = .ok (.iastore, 1) := by decide +kernel
theorem dX7_contentByte_43 : decode cX7_contentByte 43 = .ok (.goto 47, 3) := by decide +kernel
theorem dX7_contentByte_46 : decode cX7_contentByte 46 = .ok (.aload_n 0, 1) := by decide +kernel
theorem dX7_contentByte_47 : decode cX7_contentByte 47 = .ok (.getfield 34, 3) := by decide +kernel
theorem dX7_contentByte_50 : decode cX7_contentByte 50 = .ok (.aload_n 0, 1) := by decide +kernel
theorem dX7_contentByte_51 : decode cX7_contentByte 51 = .ok (.getfield 285, 3) := by decide +kernel
theorem dX7_contentByte_54 : decode cX7_contentByte 54 = .ok (.iload_n 2, 1) := by decide +kernel
theorem dX7_contentByte_55 : decode cX7_contentByte 55 = .ok (.iastore, 1) := by decide +kernel
theorem dX7_contentByte_56 : decode cX7_contentByte 56 = .ok (.aload_n 0, 1) := by decide +kernel
theorem dX7_contentByte_57 : decode cX7_contentByte 57 = .ok (.dup, 1) := by decide +kernel
theorem dX7_contentByte_58 : decode cX7_contentByte 58 = .ok (.getfield 285, 3) := by decide +kernel
theorem dX7_contentByte_61 : decode cX7_contentByte 61 = .ok (.iconst 1, 1) := by decide +kernel
theorem dX7_contentByte_62 : decode cX7_contentByte 62 = .ok (.iadd, 1) := by decide +kernel
theorem dX7_contentByte_63 : decode cX7_contentByte 63 = .ok (.putfield 285, 3) := by decide +kernel
theorem dX7_contentByte_66 : decode cX7_contentByte 66 = .ok (.aload_n 0, 1) := by decide +kernel
theorem dX7_contentByte_67 : decode cX7_contentByte 67 = .ok (.getfield 282, 3) := by decide +kernel
theorem dX7_contentByte_70 : decode cX7_contentByte 70 = .ok (.iconst 1, 1) := by decide +kernel
theorem dX7_contentByte_71 : decode cX7_contentByte 71 = .ok (.if_icmp .ne 19, 3) := by decide +kernel
theorem dX7_contentByte_74 : decode cX7_contentByte 74 = .ok (.aload_n 0, 1) := by decide +kernel
theorem dX7_contentByte_75 : decode cX7_contentByte 75 = .ok (.iload_n 2, 1) := by decide +kernel
theorem dX7_contentByte_76 : decode cX7_contentByte 76 = .ok (.invokevirtual 87, 3) := by decide +kernel
theorem dX7_contentByte_79 : decode cX7_contentByte 79 = .ok (.ifCond .ne 11, 3) := by decide +kernel
theorem dX7_contentByte_82 : decode cX7_contentByte 82 = .ok (.aload_n 0, 1) := by decide +kernel
theorem dX7_contentByte_83 : decode cX7_contentByte 83 = .ok (.sipush 1007, 3) := by decide +kernel
theorem dX7_contentByte_86 : decode cX7_contentByte 86 = .ok (.invokevirtual 279, 3) := by decide +kernel
theorem dX7_contentByte_89 : decode cX7_contentByte 89 = .ok (.return_, 1) := by decide +kernel
theorem dX7_contentByte_90 : decode cX7_contentByte 90 = .ok (.aload_n 0, 1) := by decide +kernel
theorem dX7_contentByte_91 : decode cX7_contentByte 91 = .ok (.getfield 301, 3) := by decide +kernel
theorem dX7_contentByte_94 : decode cX7_contentByte 94 = .ok (.i2l, 1) := by decide +kernel
theorem dX7_contentByte_95 : decode cX7_contentByte 95 = .ok (.aload_n 0, 1) := by decide +kernel
theorem dX7_contentByte_96 : decode cX7_contentByte 96 = .ok (.getfield 295, 3) := by decide +kernel
theorem dX7_contentByte_99 : decode cX7_contentByte 99 = .ok (.lcmp, 1) := by decide +kernel
theorem dX7_contentByte_100 : decode cX7_contentByte 100 = .ok (.ifCond .ne 7, 3) := by decide +kernel
theorem dX7_contentByte_103 : decode cX7_contentByte 103 = .ok (.aload_n 0, 1) := by decide +kernel
theorem dX7_contentByte_104 : decode cX7_contentByte 104 = .ok (.invokevirtual 314, 3) := by decide +kernel
theorem dX7_contentByte_107 : decode cX7_contentByte 107 = .ok (.return_, 1) := by decide +kernel
theorem dX7_isCode_0 : decode cX7_isCode 0 = .ok (.iload_n 0, 1) := by decide +kernel
theorem dX7_isCode_1 : decode cX7_isCode 1 = .ok (.sipush 1000, 3) := by decide +kernel
theorem dX7_isCode_4 : decode cX7_isCode 4 = .ok (.if_icmp .lt 10, 3) := by decide +kernel
theorem dX7_isCode_7 : decode cX7_isCode 7 = .ok (.iload_n 0, 1) := by decide +kernel
theorem dX7_isCode_8 : decode cX7_isCode 8 = .ok (.sipush 1003, 3) := by decide +kernel
theorem dX7_isCode_11 : decode cX7_isCode 11 = .ok (.if_icmp .le 31, 3) := by decide +kernel
theorem dX7_isCode_14 : decode cX7_isCode 14 = .ok (.iload_n 0, 1) := by decide +kernel
theorem dX7_isCode_15 : decode cX7_isCode 15 = .ok (.sipush 1007, 3) := by decide +kernel
theorem dX7_isCode_18 : decode cX7_isCode 18 = .ok (.if_icmp .lt 10, 3) := by decide +kernel
theorem dX7_isCode_21 : decode cX7_isCode 21 = .ok (.iload_n 0, 1) := by decide +kernel
theorem dX7_isCode_22 : decode cX7_isCode 22 = .ok (.sipush 1011, 3) := by decide +kernel
theorem dX7_isCode_25 : decode cX7_isCode 25 = .ok (.if_icmp .le 17, 3) := by decide +kernel
theorem dX7_isCode_28 : decode cX7_isCode 28 = .ok (.iload_n 0, 1) := by decide +kernel
theorem dX7_isCode_29 : decode cX7_isCode 29 = .ok (.sipush 3000, 3) := by decide +kernel
theorem dX7_isCode_32 : decode cX7_isCode 32 = .ok (.if_icmp .lt 14, 3) := by decide +kernel
theorem dX7_isCode_35 : decode cX7_isCode 35 = .ok (.iload_n 0, 1) := by decide +kernel
theorem dX7_isCode_36 : decode cX7_isCode 36 = .ok (.sipush 4999, 3) := by decide +kernel
theorem dX7_isCode_39 : decode cX7_isCode 39 = .ok (.if_icmp .gt 7, 3) := by decide +kernel
theorem dX7_isCode_42 : decode cX7_isCode 42 = .ok (.iconst 1, 1) := by decide +kernel
theorem dX7_isCode_43 : decode cX7_isCode 43 = .ok (.goto 4, 3) := by decide +kernel
theorem dX7_isCode_46 : decode cX7_isCode 46 = .ok (.iconst 0, 1) := by decide +kernel
theorem dX7_isCode_47 : decode cX7_isCode 47 = .ok (.ireturn, 1) := by decide +kernel
theorem dX7_isReason_0 : decode cX7_isReason 0 = .ok (.aload_n 0, 1) := by decide +kernel
theorem dX7_isReason_1 : decode cX7_isReason 1 = .ok (.getfield 72, 3) := by decide +kernel
theorem dX7_isReason_4 : decode cX7_isReason 4 = .ok (.istore_n 1, 1) := by decide +kernel
theorem dX7_isReason_5 : decode cX7_isReason 5 = .ok (.aload_n 0, 1) := by decide +kernel
theorem dX7_isReason_6 : decode cX7_isReason 6 = .ok (.getfield 75, 3) := by decide +kernel
theorem dX7_isReason_9 : decode cX7_isReason 9 = .ok (.istore_n 2, 1) := by decide +kernel
theorem dX7_isReason_10 : decode cX7_isReason 10 = .ok (.aload_n 0, 1) := by decide +kernel
theorem dX7_isReason_11 : decode cX7_isReason 11 = .ok (.getfield 78, 3) := by decide +kernel
theorem dX7_isReason_14 : decode cX7_isReason 14 = .ok (.istore_n 3, 1) := by decide +kernel
theorem dX7_isReason_15 : decode cX7_isReason 15 = .ok (.iconst 1, 1) := by decide +kernel
theorem dX7_isReason_16 : decode cX7_isReason 16 = .ok (.istore 4, 2) := by decide +kernel
theorem dX7_isReason_18 : decode cX7_isReason 18 = .ok (.aload_n 0, 1) := by decide +kernel
theorem dX7_isReason_19 : decode cX7_isReason 19 = .ok (.invokevirtual 81, 3) := by decide +kernel
theorem dX7_isReason_22 : decode cX7_isReason 22 = .ok (.iconst 2, 1) := by decide +kernel
theorem dX7_isReason_23 : decode cX7_isReason 23 = .ok (.istore 5, 2) := by decide +kernel
theorem dX7_isReason_25 : decode cX7_isReason 25 = .ok (.iload 5, 2) := by decide +kernel
theorem dX7_isReason_27 : decode cX7_isReason 27 = .ok (.aload_n 0, 1) := by decide +kernel
theorem dX7_isReason_28 : decode cX7_isReason 28 = .ok (.getfield 301, 3) := by decide +kernel
theorem dX7_isReason_31 : decode cX7_isReason 31 = .ok (.if_icmp .ge 27, 3) := by decide +kernel
theorem dX7_isReason_34 : decode cX7_isReason 34 = .ok (.iload 4, 2) := by decide +kernel
theorem dX7_isReason_36 : decode cX7_isReason 36 = .ok (.ifCond .eq 22, 3) := by decide +kernel
theorem dX7_isReason_39 : decode cX7_isReason 39 = .ok (.aload_n 0, 1) := by decide +kernel
theorem dX7_isReason_40 : decode cX7_isReason 40 = .ok (.aload_n 0, 1) := by decide +kernel
theorem dX7_isReason_41 : decode cX7_isReason 41 = .ok (.getfield 31, 3) := by decide +kernel
theorem dX7_isReason_44 : decode cX7_isReason 44 = .ok (.iload 5, 2) := by decide +kernel
theorem dX7_isReason_46 : decode cX7_isReason 46 = .ok (.iaload, 1) := by decide +kernel
theorem dX7_isReason_47 : decode cX7_isReason 47 = .ok (.invokevirtual 87, 3) := by decide +kernel
theorem dX7_isReason_50 : decode cX7_isReason 50 = .ok (.istore 4, 2) := by decide +kernel
theorem dX7_isReason_52 : decode cX7_isReason 52 = .ok (.iinc 5 1, 3) := by decide +kernel
theorem dX7_isReason_55 : decode cX7_isReason 55 = .ok (.goto (-30), 3) := by decide +kernel
theorem dX7_isReason_58 : decode cX7_isReason 58 = .ok (.iload 4, 2) := by decide +kernel
theorem dX7_isReason_60 : decode cX7_isReason 60 = .ok (.ifCond .eq 14, 3) := by decide +kernel
theorem dX7_isReason_63 : decode cX7_isReason 63 = .ok (.aload_n 0, 1) := by decide +kernel
theorem dX7_isReason_64 : decode cX7_isReason 64 = .ok (.getfield 72, 3) := by decide +kernel
theorem dX7_isReason_67 : decode cX7_isReason 67 = .ok (.ifCond .ne 7, 3) := by decide +kernel
theorem dX7_isReason_70 : decode cX7_isReason 70 = .ok (.iconst 1, 1) := by decide +kernel
theorem dX7_isReason_71 : decode cX7_isReason 71 = .ok (.goto 4, 3) := by decide +kernel
theorem dX7_isReason_74 : decode cX7_isReason 74 = .ok (.iconst 0, 1) := by decide +kernel
theorem dX7_isReason_75 : decode cX7_isReason 75 = .ok (.istore 4, 2) := by decide +kernel
theorem dX7_isReason_77 : decode cX7_isReason 77 = .ok (.aload_n 0, 1) := by decide +kernel
theorem dX7_isReason_78 : decode cX7_isReason 78 = .ok (.iload_n 1, 1) := by decide +kernel
theorem dX7_isReason_79 : decode cX7_isReason 79 = .ok (.putfield 72, 3) := by decide +kernel
theorem dX7_isReason_82 : decode cX7_isReason 82 = .ok (.aload_n 0, 1) := by decide +kernel
theorem dX7_isReason_83 : decode cX7_isReason 83 = .ok (.iload_n 2, 1) := by decide +kernel
theorem dX7_isReason_84 : decode cX7_isReason 84 = .ok (.putfield 75, 3) := by decide +kernel
theorem dX7_isReason_87 : decode cX7_isReason 87 = .ok (.aload_n 0, 1) := by decide +kernel
theorem dX7_isReason_88 : decode cX7_isReason 88 = .ok (.iload_n 3, 1) := by decide +kernel
theorem dX7_isReason_89 : decode cX7_isReason 89 = .ok (.putfield 78, 3) := by decide +kernel
theorem dX7_isReason_92 : decode cX7_isReason 92 = .ok (.iload 4, 2) := by decide +kernel
theorem dX7_isReason_94 : decode cX7_isReason 94 = .ok (.ireturn, 1) := by decide +kernel
theorem dX7_closed_0 : decode cX7_closed 0 = .ok (.aload_n 0, 1) := by decide +kernel
theorem dX7_closed_1 : decode cX7_closed 1 = .ok (.getfield 301, 3) := by decide +kernel
theorem dX7_closed_4 : decode cX7_closed 4 = .ok (.iconst 2, 1) := by decide +kernel
theorem dX7_closed_5 : decode cX7_closed 5 = .ok (.if_icmp .ge 9, 3) := by decide +kernel
theorem dX7_closed_8 : decode cX7_closed 8 = .ok (.sipush 1005, 3) := by decide +kernel
theorem dX7_closed_11 : decode cX7_closed 11 = .ok (.goto 20, 3) := by decide +kernel
theorem dX7_closed_14 : decode cX7_closed 14 = .ok (.sipush 256, 3) := by decide +kernel
theorem dX7_closed_17 : decode cX7_closed 17 = .ok (.aload_n 0, 1) := by decide +kernel
theorem dX7_closed_18 : decode cX7_closed 18 = .ok (.getfield 31, 3) := by decide +kernel
theorem dX7_closed_21 : decode cX7_closed 21 = .ok (.iconst 0, 1) := by decide +kernel
theorem dX7_closed_22 : decode cX7_closed 22 = .ok (.iaload, 1) := by decide +kernel
theorem dX7_closed_23 : decode cX7_closed 23 = .ok (.imul, 1) := by decide +kernel
theorem dX7_closed_24 : decode cX7_closed 24 = .ok (.aload_n 0, 1) := by decide +kernel
theorem dX7_closed_25 : decode cX7_closed 25 = .ok (.getfield 31, 3) := by decide +kernel
theorem dX7_closed_28 : decode cX7_closed 28 = .ok (.iconst 1, 1) := by decide +kernel
theorem dX7_closed_29 : decode cX7_closed 29 = .ok (.iaload, 1) := by decide +kernel
theorem dX7_closed_30 : decode cX7_closed 30 = .ok (.iadd, 1) := by decide +kernel
theorem dX7_closed_31 : decode cX7_closed 31 = .ok (.istore_n 1, 1) := by decide +kernel
theorem dX7_closed_32 : decode cX7_closed 32 = .ok (.aload_n 0, 1) := by decide +kernel
theorem dX7_closed_33 : decode cX7_closed 33 = .ok (.getfield 301, 3) := by decide +kernel
theorem dX7_closed_36 : decode cX7_closed 36 = .ok (.iconst 1, 1) := by decide +kernel
theorem dX7_closed_37 : decode cX7_closed 37 = .ok (.if_icmp .eq 18, 3) := by decide +kernel
theorem dX7_closed_40 : decode cX7_closed 40 = .ok (.aload_n 0, 1) := by decide +kernel
theorem dX7_closed_41 : decode cX7_closed 41 = .ok (.getfield 301, 3) := by decide +kernel
theorem dX7_closed_44 : decode cX7_closed 44 = .ok (.iconst 1, 1) := by decide +kernel
theorem dX7_closed_45 : decode cX7_closed 45 = .ok (.if_icmp .le 18, 3) := by decide +kernel
theorem dX7_closed_48 : decode cX7_closed 48 = .ok (.iload_n 1, 1) := by decide +kernel
theorem dX7_closed_49 : decode cX7_closed 49 = .ok (.invokestatic 317, 3) := by decide +kernel
theorem dX7_closed_52 : decode cX7_closed 52 = .ok (.ifCond .ne 11, 3) := by decide +kernel
theorem dX7_closed_55 : decode cX7_closed 55 = .ok (.aload_n 0, 1) := by decide +kernel
theorem dX7_closed_56 : decode cX7_closed 56 = .ok (.sipush 1002, 3) := by decide +kernel
theorem dX7_closed_59 : decode cX7_closed 59 = .ok (.invokevirtual 279, 3) := by decide +kernel
theorem dX7_closed_62 : decode cX7_closed 62 = .ok (.return_, 1) := by decide +kernel
theorem dX7_closed_63 : decode cX7_closed 63 = .ok (.aload_n 0, 1) := by decide +kernel
theorem dX7_closed_64 : decode cX7_closed 64 = .ok (.invokevirtual 320, 3) := by decide +kernel
theorem dX7_closed_67 : decode cX7_closed 67 = .ok (.ifCond .ne 11, 3) := by decide +kernel
theorem dX7_closed_70 : decode cX7_closed 70 = .ok (.aload_n 0, 1) := by decide +kernel
theorem dX7_closed_71 : decode cX7_closed 71 = .ok (.sipush 1007, 3) := by decide +kernel
theorem dX7_closed_74 : decode cX7_closed 74 = .ok (.invokevirtual 279, 3) := by decide +kernel
theorem dX7_closed_77 : decode cX7_closed 77 = .ok (.return_, 1) := by decide +kernel
theorem dX7_closed_78 : decode cX7_closed 78 = .ok (.aload_n 0, 1) := by decide +kernel
theorem dX7_closed_79 : decode cX7_closed 79 = .ok (.getfield 217, 3) := by decide +kernel
theorem dX7_closed_82 : decode cX7_closed 82 = .ok (.iconst 1, 1) := by decide +kernel
theorem dX7_closed_83 : decode cX7_closed 83 = .ok (.if_icmp .ne 26, 3) := by decide +kernel
theorem dX7_closed_86 : decode cX7_closed 86 = .ok (.aload_n 0, 1) := by decide +kernel
theorem dX7_closed_87 : decode cX7_closed 87 = .ok (.getfield 301, 3) := by decide +kernel
theorem dX7_closed_90 : decode cX7_closed 90 = .ok (.ifCond .ne 14, 3) := by decide +kernel
theorem dX7_closed_93 : decode cX7_closed 93 = .ok (.aload_n 0, 1) := by decide +kernel
theorem dX7_closed_94 : decode cX7_closed 94 = .ok (.bipush 8, 2) := by decide +kernel
theorem dX7_closed_96 : decode cX7_closed 96 = .ok (.iconst 1, 1) := by decide +kernel
theorem dX7_closed_97 : decode cX7_closed 97 = .ok (.iconst 0, 1) := by decide +kernel
theorem dX7_closed_98 : decode cX7_closed 98 = .ok (.invokevirtual 68, 3) := by decide +kernel
theorem dX7_closed_101 : decode cX7_closed 101 = .ok (.goto 8, 3) := by decide +kernel
theorem dX7_closed_104 : decode cX7_closed 104 = .ok (.aload_n 0, 1) := by decide +kernel
theorem dX7_closed_105 : decode cX7_closed 105 = .ok (.iload_n 1, 1) := by decide +kernel
theorem dX7_closed_106 : decode cX7_closed 106 = .ok (.invokevirtual 263, 3) := by decide +kernel
theorem dX7_closed_109 : decode cX7_closed 109 = .ok (.aload_n 0, 1) := by decide +kernel
theorem dX7_closed_110 : decode cX7_closed 110 = .ok (.iconst 3, 1) := by decide +kernel
theorem dX7_closed_111 : decode cX7_closed 111 = .ok (.putfield 217, 3) := by decide +kernel
theorem dX7_closed_114 : decode cX7_closed 114 = .ok (.aload_n 0, 1) := by decide +kernel
theorem dX7_closed_115 : decode cX7_closed 115 = .ok (.iload_n 1, 1) := by decide +kernel
theorem dX7_closed_116 : decode cX7_closed 116 = .ok (.putfield 266, 3) := by decide +kernel
theorem dX7_closed_119 : decode cX7_closed 119 = .ok (.return_, 1) := by decide +kernel
theorem dX7_deliver_0 : decode cX7_deliver 0 = .ok (.aload_n 0, 1) := by decide +kernel
theorem dX7_deliver_1 : decode cX7_deliver 1 = .ok (.iconst 0, 1) := by decide +kernel
theorem dX7_deliver_2 : decode cX7_deliver 2 = .ok (.putfield 276, 3) := by decide +kernel
theorem dX7_deliver_5 : decode cX7_deliver 5 = .ok (.aload_n 0, 1) := by decide +kernel
theorem dX7_deliver_6 : decode cX7_deliver 6 = .ok (.dup, 1) := by decide +kernel
theorem dX7_deliver_7 : decode cX7_deliver 7 = .ok (.getfield 323, 3) := by decide +kernel
theorem dX7_deliver_10 : decode cX7_deliver 10 = .ok (.iconst 1, 1) := by decide +kernel
theorem dX7_deliver_11 : decode cX7_deliver 11 = .ok (.iadd, 1) := by decide +kernel
theorem dX7_deliver_12 : decode cX7_deliver 12 = .ok (.putfield 323, 3) := by decide +kernel
theorem dX7_deliver_15 : decode cX7_deliver 15 = .ok (.aload_n 0, 1) := by decide +kernel
theorem dX7_deliver_16 : decode cX7_deliver 16 = .ok (.getfield 326, 3) := by decide +kernel
theorem dX7_deliver_19 : decode cX7_deliver 19 = .ok (.iconst 4, 1) := by decide +kernel
theorem dX7_deliver_20 : decode cX7_deliver 20 = .ok (.if_icmp .ne 4, 3) := by decide +kernel
theorem dX7_deliver_23 : decode cX7_deliver 23 = .ok (.return_, 1) := by decide +kernel
theorem dX7_deliver_24 : decode cX7_deliver 24 = .ok (.aload_n 0, 1) := by decide +kernel
theorem dX7_deliver_25 : decode cX7_deliver 25 = .ok (.getfield 37, 3) := by decide +kernel
theorem dX7_deliver_28 : decode cX7_deliver 28 = .ok (.aload_n 0, 1) := by decide +kernel
theorem dX7_deliver_29 : decode cX7_deliver 29 = .ok (.getfield 326, 3) := by decide +kernel
theorem dX7_deliver_32 : decode cX7_deliver 32 = .ok (.aload_n 0, 1) := by decide +kernel
theorem dX7_deliver_33 : decode cX7_deliver 33 = .ok (.getfield 282, 3) := by decide +kernel
theorem dX7_deliver_36 : decode cX7_deliver 36 = .ok (.iastore, 1) := by decide +kernel
theorem dX7_deliver_37 : decode cX7_deliver 37 = .ok (.aload_n 0, 1) := by decide +kernel
theorem dX7_deliver_38 : decode cX7_deliver 38 = .ok (.getfield 40, 3) := by decide +kernel
theorem dX7_deliver_41 : decode cX7_deliver 41 = .ok (.aload_n 0, 1) := by decide +kernel
theorem dX7_deliver_42 : decode cX7_deliver 42 = .ok (.getfield 326, 3) := by decide +kernel
theorem dX7_deliver_45 : decode cX7_deliver 45 = .ok (.aload_n 0, 1) := by decide +kernel
theorem dX7_deliver_46 : decode cX7_deliver 46 = .ok (.getfield 285, 3) := by decide +kernel
theorem dX7_deliver_49 : decode cX7_deliver 49 = .ok (.iastore, 1) := by decide +kernel
theorem dX7_deliver_50 : decode cX7_deliver 50 = .ok (.iconst 0, 1) := by decide +kernel
theorem dX7_deliver_51 : decode cX7_deliver 51 = .ok (.istore_n 1, 1) := by decide +kernel
theorem dX7_deliver_52 : decode cX7_deliver 52 = .ok (.iload_n 1, 1) := by decide +kernel
theorem dX7_deliver_53 : decode cX7_deliver 53 = .ok (.aload_n 0, 1) := by decide +kernel
theorem dX7_deliver_54 : decode cX7_deliver 54 = .ok (.getfield 285, 3) := by decide +kernel
theorem dX7_deliver_57 : decode cX7_deliver 57 = .ok (.if_icmp .ge 30, 3) := by decide +kernel
theorem dX7_deliver_60 : decode cX7_deliver 60 = .ok (.aload_n 0, 1) := by decide +kernel
theorem dX7_deliver_61 : decode cX7_deliver 61 = .ok (.getfield 43, 3) := by decide +kernel
theorem dX7_deliver_64 : decode cX7_deliver 64 = .ok (.sipush 300, 3) := by decide +kernel
theorem dX7_deliver_67 : decode cX7_deliver 67 = .ok (.aload_n 0, 1) := by decide +kernel
theorem dX7_deliver_68 : decode cX7_deliver 68 = .ok (.getfield 326, 3) := by decide +kernel
theorem dX7_deliver_71 : decode cX7_deliver 71 = .ok (.imul, 1) := by decide +kernel
theorem dX7_deliver_72 : decode cX7_deliver 72 = .ok (.iload_n 1, 1) := by decide +kernel
theorem dX7_deliver_73 : decode cX7_deliver 73 = .ok (.iadd, 1) := by decide +kernel
theorem dX7_deliver_74 : decode cX7_deliver 74 = .ok (.aload_n 0, 1) := by decide +kernel
theorem dX7_deliver_75 : decode cX7_deliver 75 = .ok (.getfield 34, 3) := by decide +kernel
theorem dX7_deliver_78 : decode cX7_deliver 78 = .ok (.iload_n 1, 1) := by decide +kernel
theorem dX7_deliver_79 : decode cX7_deliver 79 = .ok (.iaload, 1) := by decide +kernel
theorem dX7_deliver_80 : decode cX7_deliver 80 = .ok (.iastore, 1) := by decide +kernel
theorem dX7_deliver_81 : decode cX7_deliver 81 = .ok (.iinc 1 1, 3) := by decide +kernel
theorem dX7_deliver_84 : decode cX7_deliver 84 = .ok (.goto (-32), 3) := by decide +kernel
theorem dX7_deliver_87 : decode cX7_deliver 87 = .ok (.aload_n 0, 1) := by decide +kernel
theorem dX7_deliver_88 : decode cX7_deliver 88 = .ok (.dup, 1) := by decide +kernel
theorem dX7_deliver_89 : decode cX7_deliver 89 = .ok (.getfield 326, 3) := by decide +kernel
theorem dX7_deliver_92 : decode cX7_deliver 92 = .ok (.iconst 1, 1) := by decide +kernel
theorem dX7_deliver_93 : decode cX7_deliver 93 = .ok (.iadd, 1) := by decide +kernel
theorem dX7_deliver_94 : decode cX7_deliver 94 = .ok (.putfield 326, 3) := by decide +kernel
theorem dX7_deliver_97 : decode cX7_deliver 97 = .ok (.return_, 1) := by decide +kernel
theorem dX7_whole_0 : decode cX7_whole 0 = .ok (.aload_n 0, 1) := by decide +kernel
theorem dX7_whole_1 : decode cX7_whole 1 = .ok (.iconst 0, 1) := by decide +kernel
theorem dX7_whole_2 : decode cX7_whole 2 = .ok (.putfield 288, 3) := by decide +kernel
theorem dX7_whole_5 : decode cX7_whole 5 = .ok (.aload_n 0, 1) := by decide +kernel
theorem dX7_whole_6 : decode cX7_whole 6 = .ok (.getfield 273, 3) := by decide +kernel
theorem dX7_whole_9 : decode cX7_whole 9 = .ok (.bipush 8, 2) := by decide +kernel
theorem dX7_whole_11 : decode cX7_whole 11 = .ok (.if_icmp .ne 10, 3) := by decide +kernel
theorem dX7_whole_14 : decode cX7_whole 14 = .ok (.aload_n 0, 1) := by decide +kernel
theorem dX7_whole_15 : decode cX7_whole 15 = .ok (.invokevirtual 329, 3) := by decide +kernel
theorem dX7_whole_18 : decode cX7_whole 18 = .ok (.goto 135, 3) := by decide +kernel
theorem dX7_whole_21 : decode cX7_whole 21 = .ok (.aload_n 0, 1) := by decide +kernel
theorem dX7_whole_22 : decode cX7_whole 22 = .ok (.getfield 273, 3) := by decide +kernel
theorem dX7_whole_25 : decode cX7_whole 25 = .ok (.bipush 9, 2) := by decide +kernel
theorem dX7_whole_27 : decode cX7_whole 27 = .ok (.if_icmp .ne 68, 3) := by decide +kernel
theorem dX7_whole_30 : decode cX7_whole 30 = .ok (.aload_n 0, 1) := by decide +kernel
theorem dX7_whole_31 : decode cX7_whole 31 = .ok (.getfield 217, 3) := by decide +kernel
theorem dX7_whole_34 : decode cX7_whole 34 = .ok (.iconst 1, 1) := by decide +kernel
theorem dX7_whole_35 : decode cX7_whole 35 = .ok (.if_icmp .ne 118, 3) := by decide +kernel
theorem dX7_whole_38 : decode cX7_whole 38 = .ok (.aload_n 0, 1) := by decide +kernel
theorem dX7_whole_39 : decode cX7_whole 39 = .ok (.getfield 59, 3) := by decide +kernel
theorem dX7_whole_42 : decode cX7_whole 42 = .ok (.iconst 2, 1) := by decide +kernel
theorem dX7_whole_43 : decode cX7_whole 43 = .ok (.iadd, 1) := by decide +kernel
theorem dX7_whole_44 : decode cX7_whole 44 = .ok (.aload_n 0, 1) := by decide +kernel
theorem dX7_whole_45 : decode cX7_whole 45 = .ok (.getfield 301, 3) := by decide +kernel
theorem dX7_whole_48 : decode cX7_whole 48 = .ok (.iadd, 1) := by decide +kernel
theorem dX7_whole_49 : decode cX7_whole 49 = .ok (.sipush 470, 3) := by decide +kernel
theorem dX7_whole_52 : decode cX7_whole 52 = .ok (.if_icmp .gt 101, 3) := by decide +kernel
theorem dX7_whole_55 : decode cX7_whole 55 = .ok (.aload_n 0, 1) := by decide +kernel
theorem dX7_whole_56 : decode cX7_whole 56 = .ok (.bipush 10, 2) := by decide +kernel
theorem dX7_whole_58 : decode cX7_whole 58 = .ok (.iconst 1, 1) := by decide +kernel
theorem dX7_whole_59 : decode cX7_whole 59 = .ok (.aload_n 0, 1) := by decide +kernel
theorem dX7_whole_60 : decode cX7_whole 60 = .ok (.getfield 301, 3) := by decide +kernel
theorem dX7_whole_63 : decode cX7_whole 63 = .ok (.invokevirtual 68, 3) := by decide +kernel
theorem dX7_whole_66 : decode cX7_whole 66 = .ok (.iconst 0, 1) := by decide +kernel
theorem dX7_whole_67 : decode cX7_whole 67 = .ok (.istore_n 1, 1) := by decide +kernel
theorem dX7_whole_68 : decode cX7_whole 68 = .ok (.iload_n 1, 1) := by decide +kernel
theorem dX7_whole_69 : decode cX7_whole 69 = .ok (.aload_n 0, 1) := by decide +kernel
theorem dX7_whole_70 : decode cX7_whole 70 = .ok (.getfield 301, 3) := by decide +kernel
theorem dX7_whole_73 : decode cX7_whole 73 = .ok (.if_icmp .ge 19, 3) := by decide +kernel
theorem dX7_whole_76 : decode cX7_whole 76 = .ok (.aload_n 0, 1) := by decide +kernel
theorem dX7_whole_77 : decode cX7_whole 77 = .ok (.aload_n 0, 1) := by decide +kernel
theorem dX7_whole_78 : decode cX7_whole 78 = .ok (.getfield 31, 3) := by decide +kernel
theorem dX7_whole_81 : decode cX7_whole 81 = .ok (.iload_n 1, 1) := by decide +kernel
theorem dX7_whole_82 : decode cX7_whole 82 = .ok (.iaload, 1) := by decide +kernel
theorem dX7_whole_83 : decode cX7_whole 83 = .ok (.invokevirtual 64, 3) := by decide +kernel
theorem dX7_whole_86 : decode cX7_whole 86 = .ok (.iinc 1 1, 3) := by decide +kernel
theorem dX7_whole_89 : decode cX7_whole 89 = .ok (.goto (-21), 3) := by decide +kernel
theorem dX7_whole_92 : decode cX7_whole 92 = .ok (.goto 61, 3) := by decide +kernel
theorem dX7_whole_95 : decode cX7_whole 95 = .ok (.aload_n 0, 1) := by decide +kernel
theorem dX7_whole_96 : decode cX7_whole 96 = .ok (.getfield 273, 3) := by decide +kernel
theorem dX7_whole_99 : decode cX7_whole 99 = .ok (.bipush 10, 2) := by decide +kernel
theorem dX7_whole_101 : decode cX7_whole 101 = .ok (.if_icmp .ne 16, 3) := by decide +kernel
theorem dX7_whole_104 : decode cX7_whole 104 = .ok (.aload_n 0, 1) := by decide +kernel
theorem dX7_whole_105 : decode cX7_whole 105 = .ok (.dup, 1) := by decide +kernel
theorem dX7_whole_106 : decode cX7_whole 106 = .ok (.getfield 332, 3) := by decide +kernel
theorem dX7_whole_109 : decode cX7_whole 109 = .ok (.iconst 1, 1) := by decide +kernel
theorem dX7_whole_110 : decode cX7_whole 110 = .ok (.iadd, 1) := by decide +kernel
theorem dX7_whole_111 : decode cX7_whole 111 = .ok (.putfield 332, 3) := by decide +kernel
theorem dX7_whole_114 : decode cX7_whole 114 = .ok (.goto 39, 3) := by decide +kernel
theorem dX7_whole_117 : decode cX7_whole 117 = .ok (.aload_n 0, 1) := by decide +kernel
theorem dX7_whole_118 : decode cX7_whole 118 = .ok (.getfield 269, 3) := by decide +kernel
theorem dX7_whole_121 : decode cX7_whole 121 = .ok (.ifCond .eq 32, 3) := by decide +kernel
theorem dX7_whole_124 : decode cX7_whole 124 = .ok (.aload_n 0, 1) := by decide +kernel
theorem dX7_whole_125 : decode cX7_whole 125 = .ok (.getfield 282, 3) := by decide +kernel
theorem dX7_whole_128 : decode cX7_whole 128 = .ok (.iconst 1, 1) := by decide +kernel
theorem dX7_whole_129 : decode cX7_whole 129 = .ok (.if_icmp .ne 20, 3) := by decide +kernel
theorem dX7_whole_132 : decode cX7_whole 132 = .ok (.aload_n 0, 1) := by decide +kernel
theorem dX7_whole_133 : decode cX7_whole 133 = .ok (.getfield 72, 3) := by decide +kernel
theorem dX7_whole_136 : decode cX7_whole 136 = .ok (.ifCond .le 13, 3) := by decide +kernel
theorem dX7_whole_139 : decode cX7_whole 139 = .ok (.aload_n 0, 1) := by decide +kernel
theorem dX7_whole_140 : decode cX7_whole 140 = .ok (.sipush 1007, 3) := by decide +kernel
theorem dX7_whole_143 : decode cX7_whole 143 = .ok (.invokevirtual 279, 3) := by decide +kernel
theorem dX7_whole_146 : decode cX7_whole 146 = .ok (.goto 7, 3) := by decide +kernel
theorem dX7_whole_149 : decode cX7_whole 149 = .ok (.aload_n 0, 1) := by decide +kernel
theorem dX7_whole_150 : decode cX7_whole 150 = .ok (.invokevirtual 335, 3) := by decide +kernel
theorem dX7_whole_153 : decode cX7_whole 153 = .ok (.return_, 1) := by decide +kernel
theorem dX7_come_0 : decode cX7_come 0 = .ok (.aload_n 0, 1) := by decide +kernel
theorem dX7_come_1 : decode cX7_come 1 = .ok (.getfield 217, 3) := by decide +kernel
theorem dX7_come_4 : decode cX7_come 4 = .ok (.ifCond .ne 11, 3) := by decide +kernel
theorem dX7_come_7 : decode cX7_come 7 = .ok (.aload_n 0, 1) := by decide +kernel
theorem dX7_come_8 : decode cX7_come 8 = .ok (.iload_n 1, 1) := by decide +kernel
theorem dX7_come_9 : decode cX7_come 9 = .ok (.invokevirtual 338, 3) := by decide +kernel
theorem dX7_come_12 : decode cX7_come 12 = .ok (.goto 71, 3) := by decide +kernel
theorem dX7_come_15 : decode cX7_come 15 = .ok (.aload_n 0, 1) := by decide +kernel
theorem dX7_come_16 : decode cX7_come 16 = .ok (.getfield 288, 3) := by decide +kernel
theorem dX7_come_19 : decode cX7_come 19 = .ok (.ifCond .ne 11, 3) := by decide +kernel
theorem dX7_come_22 : decode cX7_come 22 = .ok (.aload_n 0, 1) := by decide +kernel
theorem dX7_come_23 : decode cX7_come 23 = .ok (.iload_n 1, 1) := by decide +kernel
theorem dX7_come_24 : decode cX7_come 24 = .ok (.invokevirtual 341, 3) := by decide +kernel
theorem dX7_come_27 : decode cX7_come 27 = .ok (.goto 56, 3) := by decide +kernel
theorem dX7_come_30 : decode cX7_come 30 = .ok (.aload_n 0, 1) := by decide +kernel
theorem dX7_come_31 : decode cX7_come 31 = .ok (.getfield 288, 3) := by decide +kernel
theorem dX7_come_34 : decode cX7_come 34 = .ok (.iconst 1, 1) := by decide +kernel
theorem dX7_come_35 : decode cX7_come 35 = .ok (.if_icmp .ne 11, 3) := by decide +kernel
theorem dX7_come_38 : decode cX7_come 38 = .ok (.aload_n 0, 1) := by decide +kernel
theorem dX7_come_39 : decode cX7_come 39 = .ok (.iload_n 1, 1) := by decide +kernel
theorem dX7_come_40 : decode cX7_come 40 = .ok (.invokevirtual 344, 3) := by decide +kernel
theorem dX7_come_43 : decode cX7_come 43 = .ok (.goto 40, 3) := by decide +kernel
theorem dX7_come_46 : decode cX7_come 46 = .ok (.aload_n 0, 1) := by decide +kernel
theorem dX7_come_47 : decode cX7_come 47 = .ok (.getfield 288, 3) := by decide +kernel
theorem dX7_come_50 : decode cX7_come 50 = .ok (.iconst 2, 1) := by decide +kernel
theorem dX7_come_51 : decode cX7_come 51 = .ok (.if_icmp .ne 11, 3) := by decide +kernel
theorem dX7_come_54 : decode cX7_come 54 = .ok (.aload_n 0, 1) := by decide +kernel
theorem dX7_come_55 : decode cX7_come 55 = .ok (.iload_n 1, 1) := by decide +kernel
theorem dX7_come_56 : decode cX7_come 56 = .ok (.invokevirtual 347, 3) := by decide +kernel
theorem dX7_come_59 : decode cX7_come 59 = .ok (.goto 24, 3) := by decide +kernel
theorem dX7_come_62 : decode cX7_come 62 = .ok (.aload_n 0, 1) := by decide +kernel
theorem dX7_come_63 : decode cX7_come 63 = .ok (.getfield 288, 3) := by decide +kernel
theorem dX7_come_66 : decode cX7_come 66 = .ok (.iconst 3, 1) := by decide +kernel
theorem dX7_come_67 : decode cX7_come 67 = .ok (.if_icmp .ne 11, 3) := by decide +kernel
theorem dX7_come_70 : decode cX7_come 70 = .ok (.aload_n 0, 1) := by decide +kernel
theorem dX7_come_71 : decode cX7_come 71 = .ok (.iload_n 1, 1) := by decide +kernel
theorem dX7_come_72 : decode cX7_come 72 = .ok (.invokevirtual 350, 3) := by decide +kernel
theorem dX7_come_75 : decode cX7_come 75 = .ok (.goto 8, 3) := by decide +kernel
theorem dX7_come_78 : decode cX7_come 78 = .ok (.aload_n 0, 1) := by decide +kernel
theorem dX7_come_79 : decode cX7_come 79 = .ok (.iload_n 1, 1) := by decide +kernel
theorem dX7_come_80 : decode cX7_come 80 = .ok (.invokevirtual 353, 3) := by decide +kernel
theorem dX7_come_83 : decode cX7_come 83 = .ok (.return_, 1) := by decide +kernel
theorem dX7_feed_0 : decode cX7_feed 0 = .ok (.aload_n 0, 1) := by decide +kernel
theorem dX7_feed_1 : decode cX7_feed 1 = .ok (.iconst 0, 1) := by decide +kernel
theorem dX7_feed_2 : decode cX7_feed 2 = .ok (.putfield 55, 3) := by decide +kernel
theorem dX7_feed_5 : decode cX7_feed 5 = .ok (.iload_n 3, 1) := by decide +kernel
theorem dX7_feed_6 : decode cX7_feed 6 = .ok (.iconst 1, 1) := by decide +kernel
theorem dX7_feed_7 : decode cX7_feed 7 = .ok (.if_icmp .lt 9, 3) := by decide +kernel
theorem dX7_feed_10 : decode cX7_feed 10 = .ok (.iload_n 3, 1) := by decide +kernel
theorem dX7_feed_11 : decode cX7_feed 11 = .ok (.bipush 8, 2) := by decide +kernel
theorem dX7_feed_13 : decode cX7_feed 13 = .ok (.if_icmp .le 9, 3) := by decide +kernel
theorem dX7_feed_16 : decode cX7_feed 16 = .ok (.aload_n 0, 1) := by decide +kernel
theorem dX7_feed_17 : decode cX7_feed 17 = .ok (.iconst 1, 1) := by decide +kernel
theorem dX7_feed_18 : decode cX7_feed 18 = .ok (.invokevirtual 356, 3) := by decide +kernel
theorem dX7_feed_21 : decode cX7_feed 21 = .ok (.ireturn, 1) := by decide +kernel
theorem dX7_feed_22 : decode cX7_feed 22 = .ok (.aload_n 0, 1) := by decide +kernel
theorem dX7_feed_23 : decode cX7_feed 23 = .ok (.getfield 217, 3) := by decide +kernel
theorem dX7_feed_26 : decode cX7_feed 26 = .ok (.iconst 3, 1) := by decide +kernel
theorem dX7_feed_27 : decode cX7_feed 27 = .ok (.if_icmp .ne 9, 3) := by decide +kernel
theorem dX7_feed_30 : decode cX7_feed 30 = .ok (.aload_n 0, 1) := by decide +kernel
theorem dX7_feed_31 : decode cX7_feed 31 = .ok (.iconst 2, 1) := by decide +kernel
theorem dX7_feed_32 : decode cX7_feed 32 = .ok (.invokevirtual 356, 3) := by decide +kernel
theorem dX7_feed_35 : decode cX7_feed 35 = .ok (.ireturn, 1) := by decide +kernel
theorem dX7_feed_36 : decode cX7_feed 36 = .ok (.aload_n 0, 1) := by decide +kernel
theorem dX7_feed_37 : decode cX7_feed 37 = .ok (.getfield 323, 3) := by decide +kernel
theorem dX7_feed_40 : decode cX7_feed 40 = .ok (.istore 4, 2) := by decide +kernel
theorem dX7_feed_42 : decode cX7_feed 42 = .ok (.iconst 0, 1) := by decide +kernel
theorem dX7_feed_43 : decode cX7_feed 43 = .ok (.istore 5, 2) := by decide +kernel
theorem dX7_feed_45 : decode cX7_feed 45 = .ok (.iload 5, 2) := by decide +kernel
theorem dX7_feed_47 : decode cX7_feed 47 = .ok (.iload_n 3, 1) := by decide +kernel
theorem dX7_feed_48 : decode cX7_feed 48 = .ok (.if_icmp .ge 33, 3) := by decide +kernel
theorem dX7_feed_51 : decode cX7_feed 51 = .ok (.aload_n 0, 1) := by decide +kernel
theorem dX7_feed_52 : decode cX7_feed 52 = .ok (.getfield 217, 3) := by decide +kernel
theorem dX7_feed_55 : decode cX7_feed 55 = .ok (.iconst 3, 1) := by decide +kernel
theorem dX7_feed_56 : decode cX7_feed 56 = .ok (.if_icmp .eq 25, 3) := by decide +kernel
theorem dX7_feed_59 : decode cX7_feed 59 = .ok (.aload_n 0, 1) := by decide +kernel
theorem dX7_feed_60 : decode cX7_feed 60 = .ok (.lload_n 1, 1) := by decide +kernel
theorem dX7_feed_61 : decode cX7_feed 61 = .ok (.bipush 8, 2) := by decide +kernel
theorem dX7_feed_63 : decode cX7_feed 63 = .ok (.iload 5, 2) := by decide +kernel
theorem dX7_feed_65 : decode cX7_feed 65 = .ok (.imul, 1) := by decide +kernel
theorem dX7_feed_66 : decode cX7_feed 66 = .ok (.lshr, 1) := by decide +kernel
theorem dX7_feed_67 : decode cX7_feed 67 = .ok (.ldc2_w 62, 3) := by decide +kernel
theorem dX7_feed_70 : decode cX7_feed 70 = .ok (.land, 1) := by decide +kernel
theorem dX7_feed_71 : decode cX7_feed 71 = .ok (.l2i, 1) := by decide +kernel
theorem dX7_feed_72 : decode cX7_feed 72 = .ok (.invokevirtual 359, 3) := by decide +kernel
theorem dX7_feed_75 : decode cX7_feed 75 = .ok (.iinc 5 1, 3) := by decide +kernel
theorem dX7_feed_78 : decode cX7_feed 78 = .ok (.goto (-33), 3) := by decide +kernel
theorem dX7_feed_81 : decode cX7_feed 81 = .ok (.aload_n 0, 1) := by decide +kernel
theorem dX7_feed_82 : decode cX7_feed 82 = .ok (.getfield 323, 3) := by decide +kernel
theorem dX7_feed_85 : decode cX7_feed 85 = .ok (.iload 4, 2) := by decide +kernel
theorem dX7_feed_87 : decode cX7_feed 87 = .ok (.isub, 1) := by decide +kernel
theorem dX7_feed_88 : decode cX7_feed 88 = .ok (.ireturn, 1) := by decide +kernel
theorem dX7_state_0 : decode cX7_state 0 = .ok (.aload_n 0, 1) := by decide +kernel
theorem dX7_state_1 : decode cX7_state 1 = .ok (.iconst 0, 1) := by decide +kernel
theorem dX7_state_2 : decode cX7_state 2 = .ok (.putfield 55, 3) := by decide +kernel
theorem dX7_state_5 : decode cX7_state 5 = .ok (.aload_n 0, 1) := by decide +kernel
theorem dX7_state_6 : decode cX7_state 6 = .ok (.getfield 217, 3) := by decide +kernel
theorem dX7_state_9 : decode cX7_state 9 = .ok (.ireturn, 1) := by decide +kernel
theorem dX7_endCode_0 : decode cX7_endCode 0 = .ok (.aload_n 0, 1) := by decide +kernel
theorem dX7_endCode_1 : decode cX7_endCode 1 = .ok (.iconst 0, 1) := by decide +kernel
theorem dX7_endCode_2 : decode cX7_endCode 2 = .ok (.putfield 55, 3) := by decide +kernel
theorem dX7_endCode_5 : decode cX7_endCode 5 = .ok (.aload_n 0, 1) := by decide +kernel
theorem dX7_endCode_6 : decode cX7_endCode 6 = .ok (.getfield 266, 3) := by decide +kernel
theorem dX7_endCode_9 : decode cX7_endCode 9 = .ok (.ireturn, 1) := by decide +kernel
theorem dX7_outLength_0 : decode cX7_outLength 0 = .ok (.aload_n 0, 1) := by decide +kernel
theorem dX7_outLength_1 : decode cX7_outLength 1 = .ok (.iconst 0, 1) := by decide +kernel
theorem dX7_outLength_2 : decode cX7_outLength 2 = .ok (.putfield 55, 3) := by decide +kernel
theorem dX7_outLength_5 : decode cX7_outLength 5 = .ok (.aload_n 0, 1) := by decide +kernel
theorem dX7_outLength_6 : decode cX7_outLength 6 = .ok (.getfield 59, 3) := by decide +kernel
theorem dX7_outLength_9 : decode cX7_outLength 9 = .ok (.ireturn, 1) := by decide +kernel
theorem dX7_outAt_0 : decode cX7_outAt 0 = .ok (.aload_n 0, 1) := by decide +kernel
theorem dX7_outAt_1 : decode cX7_outAt 1 = .ok (.iload_n 1, 1) := by decide +kernel
theorem dX7_outAt_2 : decode cX7_outAt 2 = .ok (.ifCond .lt 11, 3) := by decide +kernel
theorem dX7_outAt_5 : decode cX7_outAt 5 = .ok (.iload_n 1, 1) := by decide +kernel
theorem dX7_outAt_6 : decode cX7_outAt 6 = .ok (.aload_n 0, 1) := by decide +kernel
theorem dX7_outAt_7 : decode cX7_outAt 7 = .ok (.getfield 59, 3) := by decide +kernel
theorem dX7_outAt_10 : decode cX7_outAt 10 = .ok (.if_icmp .lt 7, 3) := by decide +kernel
theorem dX7_outAt_13 : decode cX7_outAt 13 = .ok (.iconst 1, 1) := by decide +kernel
theorem dX7_outAt_14 : decode cX7_outAt 14 = .ok (.goto 4, 3) := by decide +kernel
theorem dX7_outAt_17 : decode cX7_outAt 17 = .ok (.iconst 0, 1) := by decide +kernel
theorem dX7_outAt_18 : decode cX7_outAt 18 = .ok (.putfield 55, 3) := by decide +kernel
theorem dX7_outAt_21 : decode cX7_outAt 21 = .ok (.aload_n 0, 1) := by decide +kernel
theorem dX7_outAt_22 : decode cX7_outAt 22 = .ok (.getfield 55, 3) := by decide +kernel
theorem dX7_outAt_25 : decode cX7_outAt 25 = .ok (.ifCond .ne 12, 3) := by decide +kernel
theorem dX7_outAt_28 : decode cX7_outAt 28 = .ok (.aload_n 0, 1) := by decide +kernel
theorem dX7_outAt_29 : decode cX7_outAt 29 = .ok (.getfield 22, 3) := by decide +kernel
theorem dX7_outAt_32 : decode cX7_outAt 32 = .ok (.iload_n 1, 1) := by decide +kernel
theorem dX7_outAt_33 : decode cX7_outAt 33 = .ok (.iaload, 1) := by decide +kernel
theorem dX7_outAt_34 : decode cX7_outAt 34 = .ok (.goto 4, 3) := by decide +kernel
theorem dX7_outAt_37 : decode cX7_outAt 37 = .ok (.iconst 0, 1) := by decide +kernel
theorem dX7_outAt_38 : decode cX7_outAt 38 = .ok (.ireturn, 1) := by decide +kernel
theorem dX7_drop_0 : decode cX7_drop 0 = .ok (.aload_n 0, 1) := by decide +kernel
theorem dX7_drop_1 : decode cX7_drop 1 = .ok (.iconst 0, 1) := by decide +kernel
theorem dX7_drop_2 : decode cX7_drop 2 = .ok (.putfield 55, 3) := by decide +kernel
theorem dX7_drop_5 : decode cX7_drop 5 = .ok (.iload_n 1, 1) := by decide +kernel
theorem dX7_drop_6 : decode cX7_drop 6 = .ok (.ifCond .lt 11, 3) := by decide +kernel
theorem dX7_drop_9 : decode cX7_drop 9 = .ok (.iload_n 1, 1) := by decide +kernel
theorem dX7_drop_10 : decode cX7_drop 10 = .ok (.aload_n 0, 1) := by decide +kernel
theorem dX7_drop_11 : decode cX7_drop 11 = .ok (.getfield 59, 3) := by decide +kernel
theorem dX7_drop_14 : decode cX7_drop 14 = .ok (.if_icmp .le 5, 3) := by decide +kernel
theorem dX7_drop_17 : decode cX7_drop 17 = .ok (.iconst 0, 1) := by decide +kernel
theorem dX7_drop_18 : decode cX7_drop 18 = .ok (.ireturn, 1) := by decide +kernel
theorem dX7_drop_19 : decode cX7_drop 19 = .ok (.aload_n 0, 1) := by decide +kernel
theorem dX7_drop_20 : decode cX7_drop 20 = .ok (.aload_n 0, 1) := by decide +kernel
theorem dX7_drop_21 : decode cX7_drop 21 = .ok (.getfield 59, 3) := by decide +kernel
theorem dX7_drop_24 : decode cX7_drop 24 = .ok (.iload_n 1, 1) := by decide +kernel
theorem dX7_drop_25 : decode cX7_drop 25 = .ok (.isub, 1) := by decide +kernel
theorem dX7_drop_26 : decode cX7_drop 26 = .ok (.putfield 59, 3) := by decide +kernel
theorem dX7_drop_29 : decode cX7_drop 29 = .ok (.iconst 0, 1) := by decide +kernel
theorem dX7_drop_30 : decode cX7_drop 30 = .ok (.istore_n 2, 1) := by decide +kernel
theorem dX7_drop_31 : decode cX7_drop 31 = .ok (.iload_n 2, 1) := by decide +kernel
theorem dX7_drop_32 : decode cX7_drop 32 = .ok (.aload_n 0, 1) := by decide +kernel
theorem dX7_drop_33 : decode cX7_drop 33 = .ok (.getfield 59, 3) := by decide +kernel
theorem dX7_drop_36 : decode cX7_drop 36 = .ok (.if_icmp .ge 23, 3) := by decide +kernel
theorem dX7_drop_39 : decode cX7_drop 39 = .ok (.aload_n 0, 1) := by decide +kernel
theorem dX7_drop_40 : decode cX7_drop 40 = .ok (.getfield 22, 3) := by decide +kernel
theorem dX7_drop_43 : decode cX7_drop 43 = .ok (.iload_n 2, 1) := by decide +kernel
theorem dX7_drop_44 : decode cX7_drop 44 = .ok (.aload_n 0, 1) := by decide +kernel
theorem dX7_drop_45 : decode cX7_drop 45 = .ok (.getfield 22, 3) := by decide +kernel
theorem dX7_drop_48 : decode cX7_drop 48 = .ok (.iload_n 2, 1) := by decide +kernel
theorem dX7_drop_49 : decode cX7_drop 49 = .ok (.iload_n 1, 1) := by decide +kernel
theorem dX7_drop_50 : decode cX7_drop 50 = .ok (.iadd, 1) := by decide +kernel
theorem dX7_drop_51 : decode cX7_drop 51 = .ok (.iaload, 1) := by decide +kernel
theorem dX7_drop_52 : decode cX7_drop 52 = .ok (.iastore, 1) := by decide +kernel
theorem dX7_drop_53 : decode cX7_drop 53 = .ok (.iinc 2 1, 3) := by decide +kernel
theorem dX7_drop_56 : decode cX7_drop 56 = .ok (.goto (-25), 3) := by decide +kernel
theorem dX7_drop_59 : decode cX7_drop 59 = .ok (.iconst 1, 1) := by decide +kernel
theorem dX7_drop_60 : decode cX7_drop 60 = .ok (.ireturn, 1) := by decide +kernel
theorem dX7_messages_0 : decode cX7_messages 0 = .ok (.aload_n 0, 1) := by decide +kernel
theorem dX7_messages_1 : decode cX7_messages 1 = .ok (.iconst 0, 1) := by decide +kernel
theorem dX7_messages_2 : decode cX7_messages 2 = .ok (.putfield 55, 3) := by decide +kernel
theorem dX7_messages_5 : decode cX7_messages 5 = .ok (.aload_n 0, 1) := by decide +kernel
theorem dX7_messages_6 : decode cX7_messages 6 = .ok (.getfield 326, 3) := by decide +kernel
theorem dX7_messages_9 : decode cX7_messages 9 = .ok (.ireturn, 1) := by decide +kernel
theorem dX7_delivered_0 : decode cX7_delivered 0 = .ok (.aload_n 0, 1) := by decide +kernel
theorem dX7_delivered_1 : decode cX7_delivered 1 = .ok (.iconst 0, 1) := by decide +kernel
theorem dX7_delivered_2 : decode cX7_delivered 2 = .ok (.putfield 55, 3) := by decide +kernel
theorem dX7_delivered_5 : decode cX7_delivered 5 = .ok (.aload_n 0, 1) := by decide +kernel
theorem dX7_delivered_6 : decode cX7_delivered 6 = .ok (.getfield 323, 3) := by decide +kernel
theorem dX7_delivered_9 : decode cX7_delivered 9 = .ok (.ireturn, 1) := by decide +kernel
theorem dX7_isMessage_0 : decode cX7_isMessage 0 = .ok (.iload_n 1, 1) := by decide +kernel
theorem dX7_isMessage_1 : decode cX7_isMessage 1 = .ok (.ifCond .lt 15, 3) := by decide +kernel
theorem dX7_isMessage_4 : decode cX7_isMessage 4 = .ok (.iload_n 1, 1) := by decide +kernel
theorem dX7_isMessage_5 : decode cX7_isMessage 5 = .ok (.aload_n 0, 1) := by decide +kernel
theorem dX7_isMessage_6 : decode cX7_isMessage 6 = .ok (.getfield 326, 3) := by decide +kernel
theorem dX7_isMessage_9 : decode cX7_isMessage 9 = .ok (.if_icmp .ge 7, 3) := by decide +kernel
theorem dX7_isMessage_12 : decode cX7_isMessage 12 = .ok (.iconst 1, 1) := by decide +kernel
theorem dX7_isMessage_13 : decode cX7_isMessage 13 = .ok (.goto 4, 3) := by decide +kernel
theorem dX7_isMessage_16 : decode cX7_isMessage 16 = .ok (.iconst 0, 1) := by decide +kernel
theorem dX7_isMessage_17 : decode cX7_isMessage 17 = .ok (.ireturn, 1) := by decide +kernel
theorem dX7_kind_0 : decode cX7_kind 0 = .ok (.aload_n 0, 1) := by decide +kernel
theorem dX7_kind_1 : decode cX7_kind 1 = .ok (.aload_n 0, 1) := by decide +kernel
theorem dX7_kind_2 : decode cX7_kind 2 = .ok (.iload_n 1, 1) := by decide +kernel
theorem dX7_kind_3 : decode cX7_kind 3 = .ok (.invokevirtual 362, 3) := by decide +kernel
theorem dX7_kind_6 : decode cX7_kind 6 = .ok (.ifCond .eq 7, 3) := by decide +kernel
theorem dX7_kind_9 : decode cX7_kind 9 = .ok (.iconst 0, 1) := by decide +kernel
theorem dX7_kind_10 : decode cX7_kind 10 = .ok (.goto 4, 3) := by decide +kernel
theorem dX7_kind_13 : decode cX7_kind 13 = .ok (.iconst 1, 1) := by decide +kernel
theorem dX7_kind_14 : decode cX7_kind 14 = .ok (.putfield 55, 3) := by decide +kernel
theorem dX7_kind_17 : decode cX7_kind 17 = .ok (.aload_n 0, 1) := by decide +kernel
theorem dX7_kind_18 : decode cX7_kind 18 = .ok (.getfield 55, 3) := by decide +kernel
theorem dX7_kind_21 : decode cX7_kind 21 = .ok (.ifCond .ne 12, 3) := by decide +kernel
theorem dX7_kind_24 : decode cX7_kind 24 = .ok (.aload_n 0, 1) := by decide +kernel
theorem dX7_kind_25 : decode cX7_kind 25 = .ok (.getfield 37, 3) := by decide +kernel
theorem dX7_kind_28 : decode cX7_kind 28 = .ok (.iload_n 1, 1) := by decide +kernel
theorem dX7_kind_29 : decode cX7_kind 29 = .ok (.iaload, 1) := by decide +kernel
theorem dX7_kind_30 : decode cX7_kind 30 = .ok (.goto 4, 3) := by decide +kernel
theorem dX7_kind_33 : decode cX7_kind 33 = .ok (.iconst 0, 1) := by decide +kernel
theorem dX7_kind_34 : decode cX7_kind 34 = .ok (.ireturn, 1) := by decide +kernel
theorem dX7_length_0 : decode cX7_length 0 = .ok (.aload_n 0, 1) := by decide +kernel
theorem dX7_length_1 : decode cX7_length 1 = .ok (.aload_n 0, 1) := by decide +kernel
theorem dX7_length_2 : decode cX7_length 2 = .ok (.iload_n 1, 1) := by decide +kernel
theorem dX7_length_3 : decode cX7_length 3 = .ok (.invokevirtual 362, 3) := by decide +kernel
theorem dX7_length_6 : decode cX7_length 6 = .ok (.ifCond .eq 7, 3) := by decide +kernel
theorem dX7_length_9 : decode cX7_length 9 = .ok (.iconst 0, 1) := by decide +kernel
theorem dX7_length_10 : decode cX7_length 10 = .ok (.goto 4, 3) := by decide +kernel
theorem dX7_length_13 : decode cX7_length 13 = .ok (.iconst 1, 1) := by decide +kernel
theorem dX7_length_14 : decode cX7_length 14 = .ok (.putfield 55, 3) := by decide +kernel
theorem dX7_length_17 : decode cX7_length 17 = .ok (.aload_n 0, 1) := by decide +kernel
theorem dX7_length_18 : decode cX7_length 18 = .ok (.getfield 55, 3) := by decide +kernel
theorem dX7_length_21 : decode cX7_length 21 = .ok (.ifCond .ne 12, 3) := by decide +kernel
theorem dX7_length_24 : decode cX7_length 24 = .ok (.aload_n 0, 1) := by decide +kernel
theorem dX7_length_25 : decode cX7_length 25 = .ok (.getfield 40, 3) := by decide +kernel
theorem dX7_length_28 : decode cX7_length 28 = .ok (.iload_n 1, 1) := by decide +kernel
theorem dX7_length_29 : decode cX7_length 29 = .ok (.iaload, 1) := by decide +kernel
theorem dX7_length_30 : decode cX7_length 30 = .ok (.goto 4, 3) := by decide +kernel
theorem dX7_length_33 : decode cX7_length 33 = .ok (.iconst 0, 1) := by decide +kernel
theorem dX7_length_34 : decode cX7_length 34 = .ok (.ireturn, 1) := by decide +kernel
theorem dX7_byteAt_0 : decode cX7_byteAt 0 = .ok (.aload_n 0, 1) := by decide +kernel
theorem dX7_byteAt_1 : decode cX7_byteAt 1 = .ok (.aload_n 0, 1) := by decide +kernel
theorem dX7_byteAt_2 : decode cX7_byteAt 2 = .ok (.iload_n 1, 1) := by decide +kernel
theorem dX7_byteAt_3 : decode cX7_byteAt 3 = .ok (.invokevirtual 362, 3) := by decide +kernel
theorem dX7_byteAt_6 : decode cX7_byteAt 6 = .ok (.ifCond .ne 7, 3) := by decide +kernel
theorem dX7_byteAt_9 : decode cX7_byteAt 9 = .ok (.iconst 1, 1) := by decide +kernel
theorem dX7_byteAt_10 : decode cX7_byteAt 10 = .ok (.goto 22, 3) := by decide +kernel
theorem dX7_byteAt_13 : decode cX7_byteAt 13 = .ok (.iload_n 2, 1) := by decide +kernel
theorem dX7_byteAt_14 : decode cX7_byteAt 14 = .ok (.ifCond .lt 13, 3) := by decide +kernel
theorem dX7_byteAt_17 : decode cX7_byteAt 17 = .ok (.iload_n 2, 1) := by decide +kernel
theorem dX7_byteAt_18 : decode cX7_byteAt 18 = .ok (.aload_n 0, 1) := by decide +kernel
theorem dX7_byteAt_19 : decode cX7_byteAt 19 = .ok (.getfield 40, 3) := by decide +kernel
theorem dX7_byteAt_22 : decode cX7_byteAt 22 = .ok (.iload_n 1, 1) := by decide +kernel
theorem dX7_byteAt_23 : decode cX7_byteAt 23 = .ok (.iaload, 1) := by decide +kernel
theorem dX7_byteAt_24 : decode cX7_byteAt 24 = .ok (.if_icmp .lt 7, 3) := by decide +kernel
theorem dX7_byteAt_27 : decode cX7_byteAt 27 = .ok (.iconst 2, 1) := by decide +kernel
theorem dX7_byteAt_28 : decode cX7_byteAt 28 = .ok (.goto 4, 3) := by decide +kernel
theorem dX7_byteAt_31 : decode cX7_byteAt 31 = .ok (.iconst 0, 1) := by decide +kernel
theorem dX7_byteAt_32 : decode cX7_byteAt 32 = .ok (.putfield 55, 3) := by decide +kernel
theorem dX7_byteAt_35 : decode cX7_byteAt 35 = .ok (.aload_n 0, 1) := by decide +kernel
theorem dX7_byteAt_36 : decode cX7_byteAt 36 = .ok (.getfield 55, 3) := by decide +kernel
theorem dX7_byteAt_39 : decode cX7_byteAt 39 = .ok (.ifCond .ne 18, 3) := by decide +kernel
theorem dX7_byteAt_42 : decode cX7_byteAt 42 = .ok (.aload_n 0, 1) := by decide +kernel
theorem dX7_byteAt_43 : decode cX7_byteAt 43 = .ok (.getfield 43, 3) := by decide +kernel
theorem dX7_byteAt_46 : decode cX7_byteAt 46 = .ok (.sipush 300, 3) := by decide +kernel
theorem dX7_byteAt_49 : decode cX7_byteAt 49 = .ok (.iload_n 1, 1) := by decide +kernel
theorem dX7_byteAt_50 : decode cX7_byteAt 50 = .ok (.imul, 1) := by decide +kernel
theorem dX7_byteAt_51 : decode cX7_byteAt 51 = .ok (.iload_n 2, 1) := by decide +kernel
theorem dX7_byteAt_52 : decode cX7_byteAt 52 = .ok (.iadd, 1) := by decide +kernel
theorem dX7_byteAt_53 : decode cX7_byteAt 53 = .ok (.iaload, 1) := by decide +kernel
theorem dX7_byteAt_54 : decode cX7_byteAt 54 = .ok (.goto 4, 3) := by decide +kernel
theorem dX7_byteAt_57 : decode cX7_byteAt 57 = .ok (.iconst 0, 1) := by decide +kernel
theorem dX7_byteAt_58 : decode cX7_byteAt 58 = .ok (.ireturn, 1) := by decide +kernel
theorem dX7_take_0 : decode cX7_take 0 = .ok (.aload_n 0, 1) := by decide +kernel
theorem dX7_take_1 : decode cX7_take 1 = .ok (.aload_n 0, 1) := by decide +kernel
theorem dX7_take_2 : decode cX7_take 2 = .ok (.getfield 326, 3) := by decide +kernel
theorem dX7_take_5 : decode cX7_take 5 = .ok (.ifCond .ne 7, 3) := by decide +kernel
theorem dX7_take_8 : decode cX7_take 8 = .ok (.iconst 1, 1) := by decide +kernel
theorem dX7_take_9 : decode cX7_take 9 = .ok (.goto 4, 3) := by decide +kernel
theorem dX7_take_12 : decode cX7_take 12 = .ok (.iconst 0, 1) := by decide +kernel
theorem dX7_take_13 : decode cX7_take 13 = .ok (.putfield 55, 3) := by decide +kernel
theorem dX7_take_16 : decode cX7_take 16 = .ok (.aload_n 0, 1) := by decide +kernel
theorem dX7_take_17 : decode cX7_take 17 = .ok (.getfield 326, 3) := by decide +kernel
theorem dX7_take_20 : decode cX7_take 20 = .ok (.ifCond .ne 5, 3) := by decide +kernel
theorem dX7_take_23 : decode cX7_take 23 = .ok (.iconst 0, 1) := by decide +kernel
theorem dX7_take_24 : decode cX7_take 24 = .ok (.ireturn, 1) := by decide +kernel
theorem dX7_take_25 : decode cX7_take 25 = .ok (.aload_n 0, 1) := by decide +kernel
theorem dX7_take_26 : decode cX7_take 26 = .ok (.getfield 40, 3) := by decide +kernel
theorem dX7_take_29 : decode cX7_take 29 = .ok (.iconst 0, 1) := by decide +kernel
theorem dX7_take_30 : decode cX7_take 30 = .ok (.iaload, 1) := by decide +kernel
theorem dX7_take_31 : decode cX7_take 31 = .ok (.istore_n 1, 1) := by decide +kernel
theorem dX7_take_32 : decode cX7_take 32 = .ok (.aload_n 0, 1) := by decide +kernel
theorem dX7_take_33 : decode cX7_take 33 = .ok (.dup, 1) := by decide +kernel
theorem dX7_take_34 : decode cX7_take 34 = .ok (.getfield 326, 3) := by decide +kernel
theorem dX7_take_37 : decode cX7_take 37 = .ok (.iconst 1, 1) := by decide +kernel
theorem dX7_take_38 : decode cX7_take 38 = .ok (.isub, 1) := by decide +kernel
theorem dX7_take_39 : decode cX7_take 39 = .ok (.putfield 326, 3) := by decide +kernel
theorem dX7_take_42 : decode cX7_take 42 = .ok (.iconst 0, 1) := by decide +kernel
theorem dX7_take_43 : decode cX7_take 43 = .ok (.istore_n 2, 1) := by decide +kernel
theorem dX7_take_44 : decode cX7_take 44 = .ok (.iload_n 2, 1) := by decide +kernel
theorem dX7_take_45 : decode cX7_take 45 = .ok (.aload_n 0, 1) := by decide +kernel
theorem dX7_take_46 : decode cX7_take 46 = .ok (.getfield 326, 3) := by decide +kernel
theorem dX7_take_49 : decode cX7_take 49 = .ok (.if_icmp .ge 83, 3) := by decide +kernel
theorem dX7_take_52 : decode cX7_take 52 = .ok (.aload_n 0, 1) := by decide +kernel
theorem dX7_take_53 : decode cX7_take 53 = .ok (.getfield 37, 3) := by decide +kernel
theorem dX7_take_56 : decode cX7_take 56 = .ok (.iload_n 2, 1) := by decide +kernel
theorem dX7_take_57 : decode cX7_take 57 = .ok (.aload_n 0, 1) := by decide +kernel
theorem dX7_take_58 : decode cX7_take 58 = .ok (.getfield 37, 3) := by decide +kernel
theorem dX7_take_61 : decode cX7_take 61 = .ok (.iload_n 2, 1) := by decide +kernel
theorem dX7_take_62 : decode cX7_take 62 = .ok (.iconst 1, 1) := by decide +kernel
theorem dX7_take_63 : decode cX7_take 63 = .ok (.iadd, 1) := by decide +kernel
theorem dX7_take_64 : decode cX7_take 64 = .ok (.iaload, 1) := by decide +kernel
theorem dX7_take_65 : decode cX7_take 65 = .ok (.iastore, 1) := by decide +kernel
theorem dX7_take_66 : decode cX7_take 66 = .ok (.aload_n 0, 1) := by decide +kernel
theorem dX7_take_67 : decode cX7_take 67 = .ok (.getfield 40, 3) := by decide +kernel
theorem dX7_take_70 : decode cX7_take 70 = .ok (.iload_n 2, 1) := by decide +kernel
theorem dX7_take_71 : decode cX7_take 71 = .ok (.aload_n 0, 1) := by decide +kernel
theorem dX7_take_72 : decode cX7_take 72 = .ok (.getfield 40, 3) := by decide +kernel
theorem dX7_take_75 : decode cX7_take 75 = .ok (.iload_n 2, 1) := by decide +kernel
theorem dX7_take_76 : decode cX7_take 76 = .ok (.iconst 1, 1) := by decide +kernel
theorem dX7_take_77 : decode cX7_take 77 = .ok (.iadd, 1) := by decide +kernel
theorem dX7_take_78 : decode cX7_take 78 = .ok (.iaload, 1) := by decide +kernel
theorem dX7_take_79 : decode cX7_take 79 = .ok (.iastore, 1) := by decide +kernel
theorem dX7_take_80 : decode cX7_take 80 = .ok (.iconst 0, 1) := by decide +kernel
theorem dX7_take_81 : decode cX7_take 81 = .ok (.istore_n 3, 1) := by decide +kernel
theorem dX7_take_82 : decode cX7_take 82 = .ok (.iload_n 3, 1) := by decide +kernel
theorem dX7_take_83 : decode cX7_take 83 = .ok (.aload_n 0, 1) := by decide +kernel
theorem dX7_take_84 : decode cX7_take 84 = .ok (.getfield 40, 3) := by decide +kernel
theorem dX7_take_87 : decode cX7_take 87 = .ok (.iload_n 2, 1) := by decide +kernel
theorem dX7_take_88 : decode cX7_take 88 = .ok (.iaload, 1) := by decide +kernel
theorem dX7_take_89 : decode cX7_take 89 = .ok (.if_icmp .ge 37, 3) := by decide +kernel
theorem dX7_take_92 : decode cX7_take 92 = .ok (.aload_n 0, 1) := by decide +kernel
theorem dX7_take_93 : decode cX7_take 93 = .ok (.getfield 43, 3) := by decide +kernel
theorem dX7_take_96 : decode cX7_take 96 = .ok (.sipush 300, 3) := by decide +kernel
theorem dX7_take_99 : decode cX7_take 99 = .ok (.iload_n 2, 1) := by decide +kernel
theorem dX7_take_100 : decode cX7_take 100 = .ok (.imul, 1) := by decide +kernel
theorem dX7_take_101 : decode cX7_take 101 = .ok (.iload_n 3, 1) := by decide +kernel
end
section
theorem dX7_take_102 : decode cX7_take 102 = .ok (.iadd, 1) := by decide +kernel
theorem dX7_take_103 : decode cX7_take 103 = .ok (.aload_n 0, 1) := by decide +kernel
theorem dX7_take_104 : decode cX7_take 104 = .ok (.getfield 43, 3) := by decide +kernel
theorem dX7_take_107 : decode cX7_take 107 = .ok (.sipush 300, 3) := by decide +kernel
theorem dX7_take_110 : decode cX7_take 110 = .ok (.iload_n 2, 1) := by decide +kernel
theorem dX7_take_111 : decode cX7_take 111 = .ok (.imul, 1) := by decide +kernel
theorem dX7_take_112 : decode cX7_take 112 = .ok (.sipush 300, 3) := by decide +kernel
theorem dX7_take_115 : decode cX7_take 115 = .ok (.iadd, 1) := by decide +kernel
theorem dX7_take_116 : decode cX7_take 116 = .ok (.iload_n 3, 1) := by decide +kernel
theorem dX7_take_117 : decode cX7_take 117 = .ok (.iadd, 1) := by decide +kernel
theorem dX7_take_118 : decode cX7_take 118 = .ok (.iaload, 1) := by decide +kernel
theorem dX7_take_119 : decode cX7_take 119 = .ok (.iastore, 1) := by decide +kernel
theorem dX7_take_120 : decode cX7_take 120 = .ok (.iinc 3 1, 3) := by decide +kernel
theorem dX7_take_123 : decode cX7_take 123 = .ok (.goto (-41), 3) := by decide +kernel
theorem dX7_take_126 : decode cX7_take 126 = .ok (.iinc 2 1, 3) := by decide +kernel
theorem dX7_take_129 : decode cX7_take 129 = .ok (.goto (-85), 3) := by decide +kernel
theorem dX7_take_132 : decode cX7_take 132 = .ok (.iload_n 1, 1) := by decide +kernel
theorem dX7_take_133 : decode cX7_take 133 = .ok (.ireturn, 1) := by decide +kernel
theorem dX7_pongs_0 : decode cX7_pongs 0 = .ok (.aload_n 0, 1) := by decide +kernel
theorem dX7_pongs_1 : decode cX7_pongs 1 = .ok (.iconst 0, 1) := by decide +kernel
theorem dX7_pongs_2 : decode cX7_pongs 2 = .ok (.putfield 55, 3) := by decide +kernel
theorem dX7_pongs_5 : decode cX7_pongs 5 = .ok (.aload_n 0, 1) := by decide +kernel
theorem dX7_pongs_6 : decode cX7_pongs 6 = .ok (.getfield 332, 3) := by decide +kernel
theorem dX7_pongs_9 : decode cX7_pongs 9 = .ok (.ireturn, 1) := by decide +kernel
theorem dX7_write_0 : decode cX7_write 0 = .ok (.aload_n 0, 1) := by decide +kernel
theorem dX7_write_1 : decode cX7_write 1 = .ok (.iconst 0, 1) := by decide +kernel
theorem dX7_write_2 : decode cX7_write 2 = .ok (.putfield 55, 3) := by decide +kernel
theorem dX7_write_5 : decode cX7_write 5 = .ok (.iload_n 3, 1) := by decide +kernel
theorem dX7_write_6 : decode cX7_write 6 = .ok (.iconst 1, 1) := by decide +kernel
theorem dX7_write_7 : decode cX7_write 7 = .ok (.if_icmp .lt 20, 3) := by decide +kernel
theorem dX7_write_10 : decode cX7_write 10 = .ok (.iload_n 3, 1) := by decide +kernel
theorem dX7_write_11 : decode cX7_write 11 = .ok (.bipush 8, 2) := by decide +kernel
theorem dX7_write_13 : decode cX7_write 13 = .ok (.if_icmp .gt 14, 3) := by decide +kernel
theorem dX7_write_16 : decode cX7_write 16 = .ok (.aload_n 0, 1) := by decide +kernel
theorem dX7_write_17 : decode cX7_write 17 = .ok (.getfield 84, 3) := by decide +kernel
theorem dX7_write_20 : decode cX7_write 20 = .ok (.iload_n 3, 1) := by decide +kernel
theorem dX7_write_21 : decode cX7_write 21 = .ok (.iadd, 1) := by decide +kernel
theorem dX7_write_22 : decode cX7_write 22 = .ok (.bipush 100, 2) := by decide +kernel
theorem dX7_write_24 : decode cX7_write 24 = .ok (.if_icmp .le 5, 3) := by decide +kernel
theorem dX7_write_27 : decode cX7_write 27 = .ok (.iconst 0, 1) := by decide +kernel
theorem dX7_write_28 : decode cX7_write 28 = .ok (.ireturn, 1) := by decide +kernel
theorem dX7_write_29 : decode cX7_write 29 = .ok (.iconst 0, 1) := by decide +kernel
theorem dX7_write_30 : decode cX7_write 30 = .ok (.istore 4, 2) := by decide +kernel
theorem dX7_write_32 : decode cX7_write 32 = .ok (.iload 4, 2) := by decide +kernel
theorem dX7_write_34 : decode cX7_write 34 = .ok (.iload_n 3, 1) := by decide +kernel
theorem dX7_write_35 : decode cX7_write 35 = .ok (.if_icmp .ge 40, 3) := by decide +kernel
theorem dX7_write_38 : decode cX7_write 38 = .ok (.aload_n 0, 1) := by decide +kernel
theorem dX7_write_39 : decode cX7_write 39 = .ok (.getfield 25, 3) := by decide +kernel
theorem dX7_write_42 : decode cX7_write 42 = .ok (.aload_n 0, 1) := by decide +kernel
theorem dX7_write_43 : decode cX7_write 43 = .ok (.getfield 84, 3) := by decide +kernel
theorem dX7_write_46 : decode cX7_write 46 = .ok (.lload_n 1, 1) := by decide +kernel
theorem dX7_write_47 : decode cX7_write 47 = .ok (.bipush 8, 2) := by decide +kernel
theorem dX7_write_49 : decode cX7_write 49 = .ok (.iload 4, 2) := by decide +kernel
theorem dX7_write_51 : decode cX7_write 51 = .ok (.imul, 1) := by decide +kernel
theorem dX7_write_52 : decode cX7_write 52 = .ok (.lshr, 1) := by decide +kernel
theorem dX7_write_53 : decode cX7_write 53 = .ok (.ldc2_w 62, 3) := by decide +kernel
theorem dX7_write_56 : decode cX7_write 56 = .ok (.land, 1) := by decide +kernel
theorem dX7_write_57 : decode cX7_write 57 = .ok (.l2i, 1) := by decide +kernel
theorem dX7_write_58 : decode cX7_write 58 = .ok (.iastore, 1) := by decide +kernel
theorem dX7_write_59 : decode cX7_write 59 = .ok (.aload_n 0, 1) := by decide +kernel
theorem dX7_write_60 : decode cX7_write 60 = .ok (.dup, 1) := by decide +kernel
theorem dX7_write_61 : decode cX7_write 61 = .ok (.getfield 84, 3) := by decide +kernel
theorem dX7_write_64 : decode cX7_write 64 = .ok (.iconst 1, 1) := by decide +kernel
theorem dX7_write_65 : decode cX7_write 65 = .ok (.iadd, 1) := by decide +kernel
theorem dX7_write_66 : decode cX7_write 66 = .ok (.putfield 84, 3) := by decide +kernel
theorem dX7_write_69 : decode cX7_write 69 = .ok (.iinc 4 1, 3) := by decide +kernel
theorem dX7_write_72 : decode cX7_write 72 = .ok (.goto (-40), 3) := by decide +kernel
theorem dX7_write_75 : decode cX7_write 75 = .ok (.iconst 1, 1) := by decide +kernel
theorem dX7_write_76 : decode cX7_write 76 = .ok (.ireturn, 1) := by decide +kernel
theorem dX7_clear_0 : decode cX7_clear 0 = .ok (.aload_n 0, 1) := by decide +kernel
theorem dX7_clear_1 : decode cX7_clear 1 = .ok (.iconst 0, 1) := by decide +kernel
theorem dX7_clear_2 : decode cX7_clear 2 = .ok (.putfield 55, 3) := by decide +kernel
theorem dX7_clear_5 : decode cX7_clear 5 = .ok (.aload_n 0, 1) := by decide +kernel
theorem dX7_clear_6 : decode cX7_clear 6 = .ok (.iconst 0, 1) := by decide +kernel
theorem dX7_clear_7 : decode cX7_clear 7 = .ok (.putfield 84, 3) := by decide +kernel
theorem dX7_clear_10 : decode cX7_clear 10 = .ok (.return_, 1) := by decide +kernel
theorem dX7_send_0 : decode cX7_send 0 = .ok (.aload_n 0, 1) := by decide +kernel
theorem dX7_send_1 : decode cX7_send 1 = .ok (.iconst 0, 1) := by decide +kernel
theorem dX7_send_2 : decode cX7_send 2 = .ok (.putfield 55, 3) := by decide +kernel
theorem dX7_send_5 : decode cX7_send 5 = .ok (.iload_n 1, 1) := by decide +kernel
theorem dX7_send_6 : decode cX7_send 6 = .ok (.iconst 1, 1) := by decide +kernel
theorem dX7_send_7 : decode cX7_send 7 = .ok (.if_icmp .lt 30, 3) := by decide +kernel
theorem dX7_send_10 : decode cX7_send 10 = .ok (.iload_n 1, 1) := by decide +kernel
theorem dX7_send_11 : decode cX7_send 11 = .ok (.iconst 2, 1) := by decide +kernel
theorem dX7_send_12 : decode cX7_send 12 = .ok (.if_icmp .gt 25, 3) := by decide +kernel
theorem dX7_send_15 : decode cX7_send 15 = .ok (.iload_n 2, 1) := by decide +kernel
theorem dX7_send_16 : decode cX7_send 16 = .ok (.ifCond .lt 21, 3) := by decide +kernel
theorem dX7_send_19 : decode cX7_send 19 = .ok (.iload_n 2, 1) := by decide +kernel
theorem dX7_send_20 : decode cX7_send 20 = .ok (.bipush 100, 2) := by decide +kernel
theorem dX7_send_22 : decode cX7_send 22 = .ok (.if_icmp .gt 15, 3) := by decide +kernel
theorem dX7_send_25 : decode cX7_send 25 = .ok (.iload_n 1, 1) := by decide +kernel
theorem dX7_send_26 : decode cX7_send 26 = .ok (.iconst 1, 1) := by decide +kernel
theorem dX7_send_27 : decode cX7_send 27 = .ok (.if_icmp .ne 16, 3) := by decide +kernel
theorem dX7_send_30 : decode cX7_send 30 = .ok (.aload_n 0, 1) := by decide +kernel
theorem dX7_send_31 : decode cX7_send 31 = .ok (.invokevirtual 365, 3) := by decide +kernel
theorem dX7_send_34 : decode cX7_send 34 = .ok (.ifCond .ne 9, 3) := by decide +kernel
theorem dX7_send_37 : decode cX7_send 37 = .ok (.aload_n 0, 1) := by decide +kernel
theorem dX7_send_38 : decode cX7_send 38 = .ok (.iconst 1, 1) := by decide +kernel
theorem dX7_send_39 : decode cX7_send 39 = .ok (.invokevirtual 356, 3) := by decide +kernel
theorem dX7_send_42 : decode cX7_send 42 = .ok (.ireturn, 1) := by decide +kernel
theorem dX7_send_43 : decode cX7_send 43 = .ok (.iload_n 2, 1) := by decide +kernel
theorem dX7_send_44 : decode cX7_send 44 = .ok (.ifCond .eq 10, 3) := by decide +kernel
theorem dX7_send_47 : decode cX7_send 47 = .ok (.aload_n 0, 1) := by decide +kernel
theorem dX7_send_48 : decode cX7_send 48 = .ok (.getfield 84, 3) := by decide +kernel
theorem dX7_send_51 : decode cX7_send 51 = .ok (.ifCond .ne 7, 3) := by decide +kernel
theorem dX7_send_54 : decode cX7_send 54 = .ok (.iconst 1, 1) := by decide +kernel
theorem dX7_send_55 : decode cX7_send 55 = .ok (.goto 13, 3) := by decide +kernel
theorem dX7_send_58 : decode cX7_send 58 = .ok (.aload_n 0, 1) := by decide +kernel
theorem dX7_send_59 : decode cX7_send 59 = .ok (.getfield 84, 3) := by decide +kernel
theorem dX7_send_62 : decode cX7_send 62 = .ok (.iload_n 2, 1) := by decide +kernel
theorem dX7_send_63 : decode cX7_send 63 = .ok (.iadd, 1) := by decide +kernel
theorem dX7_send_64 : decode cX7_send 64 = .ok (.iconst 1, 1) := by decide +kernel
theorem dX7_send_65 : decode cX7_send 65 = .ok (.isub, 1) := by decide +kernel
theorem dX7_send_66 : decode cX7_send 66 = .ok (.iload_n 2, 1) := by decide +kernel
theorem dX7_send_67 : decode cX7_send 67 = .ok (.idiv, 1) := by decide +kernel
theorem dX7_send_68 : decode cX7_send 68 = .ok (.istore_n 3, 1) := by decide +kernel
theorem dX7_send_69 : decode cX7_send 69 = .ok (.aload_n 0, 1) := by decide +kernel
theorem dX7_send_70 : decode cX7_send 70 = .ok (.getfield 217, 3) := by decide +kernel
theorem dX7_send_73 : decode cX7_send 73 = .ok (.iconst 1, 1) := by decide +kernel
theorem dX7_send_74 : decode cX7_send 74 = .ok (.if_icmp .ne 22, 3) := by decide +kernel
theorem dX7_send_77 : decode cX7_send 77 = .ok (.aload_n 0, 1) := by decide +kernel
theorem dX7_send_78 : decode cX7_send 78 = .ok (.getfield 59, 3) := by decide +kernel
theorem dX7_send_81 : decode cX7_send 81 = .ok (.aload_n 0, 1) := by decide +kernel
theorem dX7_send_82 : decode cX7_send 82 = .ok (.getfield 84, 3) := by decide +kernel
theorem dX7_send_85 : decode cX7_send 85 = .ok (.iadd, 1) := by decide +kernel
theorem dX7_send_86 : decode cX7_send 86 = .ok (.iconst 2, 1) := by decide +kernel
theorem dX7_send_87 : decode cX7_send 87 = .ok (.iload_n 3, 1) := by decide +kernel
theorem dX7_send_88 : decode cX7_send 88 = .ok (.imul, 1) := by decide +kernel
theorem dX7_send_89 : decode cX7_send 89 = .ok (.iadd, 1) := by decide +kernel
theorem dX7_send_90 : decode cX7_send 90 = .ok (.sipush 400, 3) := by decide +kernel
theorem dX7_send_93 : decode cX7_send 93 = .ok (.if_icmp .le 9, 3) := by decide +kernel
theorem dX7_send_96 : decode cX7_send 96 = .ok (.aload_n 0, 1) := by decide +kernel
theorem dX7_send_97 : decode cX7_send 97 = .ok (.iconst 2, 1) := by decide +kernel
theorem dX7_send_98 : decode cX7_send 98 = .ok (.invokevirtual 356, 3) := by decide +kernel
theorem dX7_send_101 : decode cX7_send 101 = .ok (.ireturn, 1) := by decide +kernel
theorem dX7_send_102 : decode cX7_send 102 = .ok (.iload_n 2, 1) := by decide +kernel
theorem dX7_send_103 : decode cX7_send 103 = .ok (.ifCond .ne 10, 3) := by decide +kernel
theorem dX7_send_106 : decode cX7_send 106 = .ok (.aload_n 0, 1) := by decide +kernel
theorem dX7_send_107 : decode cX7_send 107 = .ok (.getfield 84, 3) := by decide +kernel
theorem dX7_send_110 : decode cX7_send 110 = .ok (.goto 4, 3) := by decide +kernel
theorem dX7_send_113 : decode cX7_send 113 = .ok (.iload_n 2, 1) := by decide +kernel
theorem dX7_send_114 : decode cX7_send 114 = .ok (.istore 4, 2) := by decide +kernel
theorem dX7_send_116 : decode cX7_send 116 = .ok (.iconst 0, 1) := by decide +kernel
theorem dX7_send_117 : decode cX7_send 117 = .ok (.istore 5, 2) := by decide +kernel
theorem dX7_send_119 : decode cX7_send 119 = .ok (.iload 5, 2) := by decide +kernel
theorem dX7_send_121 : decode cX7_send 121 = .ok (.iload_n 3, 1) := by decide +kernel
theorem dX7_send_122 : decode cX7_send 122 = .ok (.if_icmp .ge 98, 3) := by decide +kernel
theorem dX7_send_125 : decode cX7_send 125 = .ok (.iload 5, 2) := by decide +kernel
theorem dX7_send_127 : decode cX7_send 127 = .ok (.iload 4, 2) := by decide +kernel
theorem dX7_send_129 : decode cX7_send 129 = .ok (.imul, 1) := by decide +kernel
theorem dX7_send_130 : decode cX7_send 130 = .ok (.istore 6, 2) := by decide +kernel
theorem dX7_send_132 : decode cX7_send 132 = .ok (.iload 5, 2) := by decide +kernel
theorem dX7_send_134 : decode cX7_send 134 = .ok (.iload_n 3, 1) := by decide +kernel
theorem dX7_send_135 : decode cX7_send 135 = .ok (.iconst 1, 1) := by decide +kernel
theorem dX7_send_136 : decode cX7_send 136 = .ok (.isub, 1) := by decide +kernel
theorem dX7_send_137 : decode cX7_send 137 = .ok (.if_icmp .ne 10, 3) := by decide +kernel
theorem dX7_send_140 : decode cX7_send 140 = .ok (.aload_n 0, 1) := by decide +kernel
theorem dX7_send_141 : decode cX7_send 141 = .ok (.getfield 84, 3) := by decide +kernel
theorem dX7_send_144 : decode cX7_send 144 = .ok (.goto 8, 3) := by decide +kernel
theorem dX7_send_147 : decode cX7_send 147 = .ok (.iload 6, 2) := by decide +kernel
theorem dX7_send_149 : decode cX7_send 149 = .ok (.iload 4, 2) := by decide +kernel
theorem dX7_send_151 : decode cX7_send 151 = .ok (.iadd, 1) := by decide +kernel
theorem dX7_send_152 : decode cX7_send 152 = .ok (.istore 7, 2) := by decide +kernel
theorem dX7_send_154 : decode cX7_send 154 = .ok (.aload_n 0, 1) := by decide +kernel
theorem dX7_send_155 : decode cX7_send 155 = .ok (.iload 5, 2) := by decide +kernel
theorem dX7_send_157 : decode cX7_send 157 = .ok (.ifCond .ne 7, 3) := by decide +kernel
theorem dX7_send_160 : decode cX7_send 160 = .ok (.iload_n 1, 1) := by decide +kernel
theorem dX7_send_161 : decode cX7_send 161 = .ok (.goto 4, 3) := by decide +kernel
theorem dX7_send_164 : decode cX7_send 164 = .ok (.iconst 0, 1) := by decide +kernel
theorem dX7_send_165 : decode cX7_send 165 = .ok (.iload 5, 2) := by decide +kernel
theorem dX7_send_167 : decode cX7_send 167 = .ok (.iload_n 3, 1) := by decide +kernel
theorem dX7_send_168 : decode cX7_send 168 = .ok (.iconst 1, 1) := by decide +kernel
theorem dX7_send_169 : decode cX7_send 169 = .ok (.isub, 1) := by decide +kernel
theorem dX7_send_170 : decode cX7_send 170 = .ok (.if_icmp .ne 7, 3) := by decide +kernel
theorem dX7_send_173 : decode cX7_send 173 = .ok (.iconst 1, 1) := by decide +kernel
theorem dX7_send_174 : decode cX7_send 174 = .ok (.goto 4, 3) := by decide +kernel
theorem dX7_send_177 : decode cX7_send 177 = .ok (.iconst 0, 1) := by decide +kernel
theorem dX7_send_178 : decode cX7_send 178 = .ok (.iload 7, 2) := by decide +kernel
theorem dX7_send_180 : decode cX7_send 180 = .ok (.iload 6, 2) := by decide +kernel
theorem dX7_send_182 : decode cX7_send 182 = .ok (.isub, 1) := by decide +kernel
theorem dX7_send_183 : decode cX7_send 183 = .ok (.invokevirtual 68, 3) := by decide +kernel
theorem dX7_send_186 : decode cX7_send 186 = .ok (.iload 6, 2) := by decide +kernel
theorem dX7_send_188 : decode cX7_send 188 = .ok (.istore 8, 2) := by decide +kernel
theorem dX7_send_190 : decode cX7_send 190 = .ok (.iload 8, 2) := by decide +kernel
theorem dX7_send_192 : decode cX7_send 192 = .ok (.iload 7, 2) := by decide +kernel
theorem dX7_send_194 : decode cX7_send 194 = .ok (.if_icmp .ge 20, 3) := by decide +kernel
theorem dX7_send_197 : decode cX7_send 197 = .ok (.aload_n 0, 1) := by decide +kernel
theorem dX7_send_198 : decode cX7_send 198 = .ok (.aload_n 0, 1) := by decide +kernel
theorem dX7_send_199 : decode cX7_send 199 = .ok (.getfield 25, 3) := by decide +kernel
theorem dX7_send_202 : decode cX7_send 202 = .ok (.iload 8, 2) := by decide +kernel
theorem dX7_send_204 : decode cX7_send 204 = .ok (.iaload, 1) := by decide +kernel
theorem dX7_send_205 : decode cX7_send 205 = .ok (.invokevirtual 64, 3) := by decide +kernel
theorem dX7_send_208 : decode cX7_send 208 = .ok (.iinc 8 1, 3) := by decide +kernel
theorem dX7_send_211 : decode cX7_send 211 = .ok (.goto (-21), 3) := by decide +kernel
theorem dX7_send_214 : decode cX7_send 214 = .ok (.iinc 5 1, 3) := by decide +kernel
theorem dX7_send_217 : decode cX7_send 217 = .ok (.goto (-98), 3) := by decide +kernel
theorem dX7_send_220 : decode cX7_send 220 = .ok (.iload_n 3, 1) := by decide +kernel
theorem dX7_send_221 : decode cX7_send 221 = .ok (.ireturn, 1) := by decide +kernel
theorem dX7_putDraft_0 : decode cX7_putDraft 0 = .ok (.iconst 0, 1) := by decide +kernel
theorem dX7_putDraft_1 : decode cX7_putDraft 1 = .ok (.istore_n 1, 1) := by decide +kernel
theorem dX7_putDraft_2 : decode cX7_putDraft 2 = .ok (.iload_n 1, 1) := by decide +kernel
theorem dX7_putDraft_3 : decode cX7_putDraft 3 = .ok (.aload_n 0, 1) := by decide +kernel
theorem dX7_putDraft_4 : decode cX7_putDraft 4 = .ok (.getfield 84, 3) := by decide +kernel
theorem dX7_putDraft_7 : decode cX7_putDraft 7 = .ok (.if_icmp .ge 19, 3) := by decide +kernel
theorem dX7_putDraft_10 : decode cX7_putDraft 10 = .ok (.aload_n 0, 1) := by decide +kernel
theorem dX7_putDraft_11 : decode cX7_putDraft 11 = .ok (.aload_n 0, 1) := by decide +kernel
theorem dX7_putDraft_12 : decode cX7_putDraft 12 = .ok (.getfield 25, 3) := by decide +kernel
theorem dX7_putDraft_15 : decode cX7_putDraft 15 = .ok (.iload_n 1, 1) := by decide +kernel
theorem dX7_putDraft_16 : decode cX7_putDraft 16 = .ok (.iaload, 1) := by decide +kernel
theorem dX7_putDraft_17 : decode cX7_putDraft 17 = .ok (.invokevirtual 64, 3) := by decide +kernel
theorem dX7_putDraft_20 : decode cX7_putDraft 20 = .ok (.iinc 1 1, 3) := by decide +kernel
theorem dX7_putDraft_23 : decode cX7_putDraft 23 = .ok (.goto (-21), 3) := by decide +kernel
theorem dX7_putDraft_26 : decode cX7_putDraft 26 = .ok (.return_, 1) := by decide +kernel
theorem dX7_ping_0 : decode cX7_ping 0 = .ok (.aload_n 0, 1) := by decide +kernel
theorem dX7_ping_1 : decode cX7_ping 1 = .ok (.aload_n 0, 1) := by decide +kernel
theorem dX7_ping_2 : decode cX7_ping 2 = .ok (.getfield 217, 3) := by decide +kernel
theorem dX7_ping_5 : decode cX7_ping 5 = .ok (.iconst 1, 1) := by decide +kernel
theorem dX7_ping_6 : decode cX7_ping 6 = .ok (.if_icmp .ne 20, 3) := by decide +kernel
theorem dX7_ping_9 : decode cX7_ping 9 = .ok (.aload_n 0, 1) := by decide +kernel
theorem dX7_ping_10 : decode cX7_ping 10 = .ok (.getfield 59, 3) := by decide +kernel
theorem dX7_ping_13 : decode cX7_ping 13 = .ok (.iconst 2, 1) := by decide +kernel
theorem dX7_ping_14 : decode cX7_ping 14 = .ok (.iadd, 1) := by decide +kernel
theorem dX7_ping_15 : decode cX7_ping 15 = .ok (.aload_n 0, 1) := by decide +kernel
theorem dX7_ping_16 : decode cX7_ping 16 = .ok (.getfield 84, 3) := by decide +kernel
theorem dX7_ping_19 : decode cX7_ping 19 = .ok (.iadd, 1) := by decide +kernel
theorem dX7_ping_20 : decode cX7_ping 20 = .ok (.sipush 400, 3) := by decide +kernel
theorem dX7_ping_23 : decode cX7_ping 23 = .ok (.if_icmp .le 7, 3) := by decide +kernel
theorem dX7_ping_26 : decode cX7_ping 26 = .ok (.iconst 1, 1) := by decide +kernel
theorem dX7_ping_27 : decode cX7_ping 27 = .ok (.goto 4, 3) := by decide +kernel
theorem dX7_ping_30 : decode cX7_ping 30 = .ok (.iconst 0, 1) := by decide +kernel
theorem dX7_ping_31 : decode cX7_ping 31 = .ok (.putfield 55, 3) := by decide +kernel
theorem dX7_ping_34 : decode cX7_ping 34 = .ok (.aload_n 0, 1) := by decide +kernel
theorem dX7_ping_35 : decode cX7_ping 35 = .ok (.getfield 55, 3) := by decide +kernel
theorem dX7_ping_38 : decode cX7_ping 38 = .ok (.ifCond .ne 18, 3) := by decide +kernel
theorem dX7_ping_41 : decode cX7_ping 41 = .ok (.aload_n 0, 1) := by decide +kernel
theorem dX7_ping_42 : decode cX7_ping 42 = .ok (.bipush 9, 2) := by decide +kernel
theorem dX7_ping_44 : decode cX7_ping 44 = .ok (.iconst 1, 1) := by decide +kernel
theorem dX7_ping_45 : decode cX7_ping 45 = .ok (.aload_n 0, 1) := by decide +kernel
theorem dX7_ping_46 : decode cX7_ping 46 = .ok (.getfield 84, 3) := by decide +kernel
theorem dX7_ping_49 : decode cX7_ping 49 = .ok (.invokevirtual 68, 3) := by decide +kernel
theorem dX7_ping_52 : decode cX7_ping 52 = .ok (.aload_n 0, 1) := by decide +kernel
theorem dX7_ping_53 : decode cX7_ping 53 = .ok (.invokevirtual 368, 3) := by decide +kernel
theorem dX7_ping_56 : decode cX7_ping 56 = .ok (.return_, 1) := by decide +kernel
theorem dX7_close_0 : decode cX7_close 0 = .ok (.aload_n 0, 1) := by decide +kernel
theorem dX7_close_1 : decode cX7_close 1 = .ok (.iload_n 1, 1) := by decide +kernel
theorem dX7_close_2 : decode cX7_close 2 = .ok (.invokestatic 317, 3) := by decide +kernel
theorem dX7_close_5 : decode cX7_close 5 = .ok (.ifCond .eq 10, 3) := by decide +kernel
theorem dX7_close_8 : decode cX7_close 8 = .ok (.aload_n 0, 1) := by decide +kernel
theorem dX7_close_9 : decode cX7_close 9 = .ok (.invokevirtual 365, 3) := by decide +kernel
theorem dX7_close_12 : decode cX7_close 12 = .ok (.ifCond .ne 7, 3) := by decide +kernel
theorem dX7_close_15 : decode cX7_close 15 = .ok (.iconst 1, 1) := by decide +kernel
theorem dX7_close_16 : decode cX7_close 16 = .ok (.goto 16, 3) := by decide +kernel
theorem dX7_close_19 : decode cX7_close 19 = .ok (.aload_n 0, 1) := by decide +kernel
theorem dX7_close_20 : decode cX7_close 20 = .ok (.getfield 217, 3) := by decide +kernel
theorem dX7_close_23 : decode cX7_close 23 = .ok (.iconst 1, 1) := by decide +kernel
theorem dX7_close_24 : decode cX7_close 24 = .ok (.if_icmp .eq 7, 3) := by decide +kernel
theorem dX7_close_27 : decode cX7_close 27 = .ok (.iconst 2, 1) := by decide +kernel
theorem dX7_close_28 : decode cX7_close 28 = .ok (.goto 4, 3) := by decide +kernel
theorem dX7_close_31 : decode cX7_close 31 = .ok (.iconst 0, 1) := by decide +kernel
theorem dX7_close_32 : decode cX7_close 32 = .ok (.putfield 55, 3) := by decide +kernel
theorem dX7_close_35 : decode cX7_close 35 = .ok (.aload_n 0, 1) := by decide +kernel
theorem dX7_close_36 : decode cX7_close 36 = .ok (.getfield 55, 3) := by decide +kernel
theorem dX7_close_39 : decode cX7_close 39 = .ok (.ifCond .ne 43, 3) := by decide +kernel
theorem dX7_close_42 : decode cX7_close 42 = .ok (.aload_n 0, 1) := by decide +kernel
theorem dX7_close_43 : decode cX7_close 43 = .ok (.bipush 8, 2) := by decide +kernel
theorem dX7_close_45 : decode cX7_close 45 = .ok (.iconst 1, 1) := by decide +kernel
theorem dX7_close_46 : decode cX7_close 46 = .ok (.iconst 2, 1) := by decide +kernel
theorem dX7_close_47 : decode cX7_close 47 = .ok (.aload_n 0, 1) := by decide +kernel
theorem dX7_close_48 : decode cX7_close 48 = .ok (.getfield 84, 3) := by decide +kernel
theorem dX7_close_51 : decode cX7_close 51 = .ok (.iadd, 1) := by decide +kernel
theorem dX7_close_52 : decode cX7_close 52 = .ok (.invokevirtual 68, 3) := by decide +kernel
theorem dX7_close_55 : decode cX7_close 55 = .ok (.aload_n 0, 1) := by decide +kernel
theorem dX7_close_56 : decode cX7_close 56 = .ok (.iload_n 1, 1) := by decide +kernel
theorem dX7_close_57 : decode cX7_close 57 = .ok (.sipush 256, 3) := by decide +kernel
theorem dX7_close_60 : decode cX7_close 60 = .ok (.idiv, 1) := by decide +kernel
theorem dX7_close_61 : decode cX7_close 61 = .ok (.invokevirtual 64, 3) := by decide +kernel
theorem dX7_close_64 : decode cX7_close 64 = .ok (.aload_n 0, 1) := by decide +kernel
theorem dX7_close_65 : decode cX7_close 65 = .ok (.iload_n 1, 1) := by decide +kernel
theorem dX7_close_66 : decode cX7_close 66 = .ok (.sipush 256, 3) := by decide +kernel
theorem dX7_close_69 : decode cX7_close 69 = .ok (.irem, 1) := by decide +kernel
theorem dX7_close_70 : decode cX7_close 70 = .ok (.invokevirtual 64, 3) := by decide +kernel
theorem dX7_close_73 : decode cX7_close 73 = .ok (.aload_n 0, 1) := by decide +kernel
theorem dX7_close_74 : decode cX7_close 74 = .ok (.invokevirtual 368, 3) := by decide +kernel
theorem dX7_close_77 : decode cX7_close 77 = .ok (.aload_n 0, 1) := by decide +kernel
theorem dX7_close_78 : decode cX7_close 78 = .ok (.iconst 2, 1) := by decide +kernel
theorem dX7_close_79 : decode cX7_close 79 = .ok (.putfield 217, 3) := by decide +kernel
theorem dX7_close_82 : decode cX7_close 82 = .ok (.return_, 1) := by decide +kernel
theorem dJ9_floorMod_7cf53_0 : decode cJ9_floorMod_7cf53 0 = .ok (.iload_n 0, 1) := by decide +kernel
theorem dJ9_floorMod_7cf53_1 : decode cJ9_floorMod_7cf53 1 = .ok (.iload_n 1, 1) := by decide +kernel
theorem dJ9_floorMod_7cf53_2 : decode cJ9_floorMod_7cf53 2 = .ok (.irem, 1) := by decide +kernel
theorem dJ9_floorMod_7cf53_3 : decode cJ9_floorMod_7cf53 3 = .ok (.istore_n 2, 1) := by decide +kernel
theorem dJ9_floorMod_7cf53_4 : decode cJ9_floorMod_7cf53 4 = .ok (.iload_n 0, 1) := by decide +kernel
theorem dJ9_floorMod_7cf53_5 : decode cJ9_floorMod_7cf53 5 = .ok (.iload_n 1, 1) := by decide +kernel
theorem dJ9_floorMod_7cf53_6 : decode cJ9_floorMod_7cf53 6 = .ok (.ixor, 1) := by decide +kernel
theorem dJ9_floorMod_7cf53_7 : decode cJ9_floorMod_7cf53 7 = .ok (.ifCond .ge 11, 3) := by decide +kernel
theorem dJ9_floorMod_7cf53_10 : decode cJ9_floorMod_7cf53 10 = .ok (.iload_n 2, 1) := by decide +kernel
theorem dJ9_floorMod_7cf53_11 : decode cJ9_floorMod_7cf53 11 = .ok (.ifCond .eq 7, 3) := by decide +kernel
theorem dJ9_floorMod_7cf53_14 : decode cJ9_floorMod_7cf53 14 = .ok (.iload_n 2, 1) := by decide +kernel
theorem dJ9_floorMod_7cf53_15 : decode cJ9_floorMod_7cf53 15 = .ok (.iload_n 1, 1) := by decide +kernel
theorem dJ9_floorMod_7cf53_16 : decode cJ9_floorMod_7cf53 16 = .ok (.iadd, 1) := by decide +kernel
theorem dJ9_floorMod_7cf53_17 : decode cJ9_floorMod_7cf53 17 = .ok (.ireturn, 1) := by decide +kernel
theorem dJ9_floorMod_7cf53_18 : decode cJ9_floorMod_7cf53 18 = .ok (.iload_n 2, 1) := by decide +kernel
theorem dJ9_floorMod_7cf53_19 : decode cJ9_floorMod_7cf53 19 = .ok (.ireturn, 1) := by decide +kernel
theorem dJ9_min_7cf53_0 : decode cJ9_min_7cf53 0 = .ok (.iload_n 0, 1) := by decide +kernel
theorem dJ9_min_7cf53_1 : decode cJ9_min_7cf53 1 = .ok (.iload_n 1, 1) := by decide +kernel
theorem dJ9_min_7cf53_2 : decode cJ9_min_7cf53 2 = .ok (.if_icmp .gt 7, 3) := by decide +kernel
theorem dJ9_min_7cf53_5 : decode cJ9_min_7cf53 5 = .ok (.iload_n 0, 1) := by decide +kernel
theorem dJ9_min_7cf53_6 : decode cJ9_min_7cf53 6 = .ok (.goto 4, 3) := by decide +kernel
theorem dJ9_min_7cf53_9 : decode cJ9_min_7cf53 9 = .ok (.iload_n 1, 1) := by decide +kernel
theorem dJ9_min_7cf53_10 : decode cJ9_min_7cf53 10 = .ok (.ireturn, 1) := by decide +kernel
theorem dJ0_length_8abf5_0 : decode cJ0_length_8abf5 0 = .ok (.aload_n 0, 1) := by decide +kernel
theorem dJ0_length_8abf5_1 : decode cJ0_length_8abf5 1 = .ok (.getfield 9, 3) := by decide +kernel
theorem dJ0_length_8abf5_4 : decode cJ0_length_8abf5 4 = .ok (.arraylength, 1) := by decide +kernel
theorem dJ0_length_8abf5_5 : decode cJ0_length_8abf5 5 = .ok (.aload_n 0, 1) := by decide +kernel
theorem dJ0_length_8abf5_6 : decode cJ0_length_8abf5 6 = .ok (.invokevirtual 335, 3) := by decide +kernel
theorem dJ0_length_8abf5_9 : decode cJ0_length_8abf5 9 = .ok (.ishr, 1) := by decide +kernel
theorem dJ0_length_8abf5_10 : decode cJ0_length_8abf5 10 = .ok (.ireturn, 1) := by decide +kernel
theorem dJ0_charAt_5068e_0 : decode cJ0_charAt_5068e 0 = .ok (.aload_n 0, 1) := by decide +kernel
theorem dJ0_charAt_5068e_1 : decode cJ0_charAt_5068e 1 = .ok (.invokevirtual 492, 3) := by decide +kernel
theorem dJ0_charAt_5068e_4 : decode cJ0_charAt_5068e 4 = .ok (.ifCond .eq 12, 3) := by decide +kernel
theorem dJ0_charAt_5068e_7 : decode cJ0_charAt_5068e 7 = .ok (.aload_n 0, 1) := by decide +kernel
theorem dJ0_charAt_5068e_8 : decode cJ0_charAt_5068e 8 = .ok (.getfield 9, 3) := by decide +kernel
theorem dJ0_charAt_5068e_11 : decode cJ0_charAt_5068e 11 = .ok (.iload_n 1, 1) := by decide +kernel
theorem dJ0_charAt_5068e_12 : decode cJ0_charAt_5068e 12 = .ok (.invokestatic 495, 3) := by decide +kernel
theorem dJ0_charAt_5068e_15 : decode cJ0_charAt_5068e 15 = .ok (.ireturn, 1) := by decide +kernel
theorem dJ0_charAt_5068e_16 : decode cJ0_charAt_5068e 16 = .ok (.aload_n 0, 1) := by decide +kernel
theorem dJ0_charAt_5068e_17 : decode cJ0_charAt_5068e 17 = .ok (.getfield 9, 3) := by decide +kernel
theorem dJ0_charAt_5068e_20 : decode cJ0_charAt_5068e 20 = .ok (.iload_n 1, 1) := by decide +kernel
theorem dJ0_charAt_5068e_21 : decode cJ0_charAt_5068e 21 = .ok (.invokestatic 498, 3) := by decide +kernel
theorem dJ0_charAt_5068e_24 : decode cJ0_charAt_5068e 24 = .ok (.ireturn, 1) := by decide +kernel
theorem dJ0_coder_7d493_0 : decode cJ0_coder_7d493 0 = .ok (.getstatic 38, 3) := by decide +kernel
theorem dJ0_coder_7d493_3 : decode cJ0_coder_7d493 3 = .ok (.ifCond .eq 10, 3) := by decide +kernel
theorem dJ0_coder_7d493_6 : decode cJ0_coder_7d493 6 = .ok (.aload_n 0, 1) := by decide +kernel
theorem dJ0_coder_7d493_7 : decode cJ0_coder_7d493 7 = .ok (.getfield 15, 3) := by decide +kernel
theorem dJ0_coder_7d493_10 : decode cJ0_coder_7d493 10 = .ok (.goto 4, 3) := by decide +kernel
theorem dJ0_coder_7d493_13 : decode cJ0_coder_7d493 13 = .ok (.iconst 1, 1) := by decide +kernel
theorem dJ0_coder_7d493_14 : decode cJ0_coder_7d493 14 = .ok (.ireturn, 1) := by decide +kernel
theorem dJ0_isLatin1_aae02_0 : decode cJ0_isLatin1_aae02 0 = .ok (.getstatic 38, 3) := by decide +kernel
theorem dJ0_isLatin1_aae02_3 : decode cJ0_isLatin1_aae02 3 = .ok (.ifCond .eq 14, 3) := by decide +kernel
theorem dJ0_isLatin1_aae02_6 : decode cJ0_isLatin1_aae02 6 = .ok (.aload_n 0, 1) := by decide +kernel
theorem dJ0_isLatin1_aae02_7 : decode cJ0_isLatin1_aae02 7 = .ok (.getfield 15, 3) := by decide +kernel
theorem dJ0_isLatin1_aae02_10 : decode cJ0_isLatin1_aae02 10 = .ok (.ifCond .ne 7, 3) := by decide +kernel
theorem dJ0_isLatin1_aae02_13 : decode cJ0_isLatin1_aae02 13 = .ok (.iconst 1, 1) := by decide +kernel
theorem dJ0_isLatin1_aae02_14 : decode cJ0_isLatin1_aae02 14 = .ok (.goto 4, 3) := by decide +kernel
theorem dJ0_isLatin1_aae02_17 : decode cJ0_isLatin1_aae02 17 = .ok (.iconst 0, 1) := by decide +kernel
theorem dJ0_isLatin1_aae02_18 : decode cJ0_isLatin1_aae02 18 = .ok (.ireturn, 1) := by decide +kernel
theorem dJ0_checkIndex_df160_0 : decode cJ0_checkIndex_df160 0 = .ok (.iload_n 0, 1) := by decide +kernel
theorem dJ0_checkIndex_df160_1 : decode cJ0_checkIndex_df160 1 = .ok (.iload_n 1, 1) := by decide +kernel
theorem dJ0_checkIndex_df160_2 : decode cJ0_checkIndex_df160 2 = .ok (.getstatic 1053, 3) := by decide +kernel
theorem dJ0_checkIndex_df160_5 : decode cJ0_checkIndex_df160 5 = .ok (.invokestatic 1059, 3) := by decide +kernel
theorem dJ0_checkIndex_df160_8 : decode cJ0_checkIndex_df160 8 = .ok (.pop, 1) := by decide +kernel
theorem dJ0_checkIndex_df160_9 : decode cJ0_checkIndex_df160 9 = .ok (.return_, 1) := by decide +kernel
theorem dJ1_charAt_3b067_0 : decode cJ1_charAt_3b067 0 = .ok (.iload_n 1, 1) := by decide +kernel
theorem dJ1_charAt_3b067_1 : decode cJ1_charAt_3b067 1 = .ok (.aload_n 0, 1) := by decide +kernel
theorem dJ1_charAt_3b067_2 : decode cJ1_charAt_3b067 2 = .ok (.arraylength, 1) := by decide +kernel
theorem dJ1_charAt_3b067_3 : decode cJ1_charAt_3b067 3 = .ok (.invokestatic 9, 3) := by decide +kernel
theorem dJ1_charAt_3b067_6 : decode cJ1_charAt_3b067 6 = .ok (.aload_n 0, 1) := by decide +kernel
theorem dJ1_charAt_3b067_7 : decode cJ1_charAt_3b067 7 = .ok (.iload_n 1, 1) := by decide +kernel
theorem dJ1_charAt_3b067_8 : decode cJ1_charAt_3b067 8 = .ok (.baload, 1) := by decide +kernel
theorem dJ1_charAt_3b067_9 : decode cJ1_charAt_3b067 9 = .ok (.sipush 255, 3) := by decide +kernel
theorem dJ1_charAt_3b067_12 : decode cJ1_charAt_3b067 12 = .ok (.iand, 1) := by decide +kernel
theorem dJ1_charAt_3b067_13 : decode cJ1_charAt_3b067 13 = .ok (.i2c, 1) := by decide +kernel
theorem dJ1_charAt_3b067_14 : decode cJ1_charAt_3b067 14 = .ok (.ireturn, 1) := by decide +kernel
theorem dJ2_getChar_3b067_0 : decode cJ2_getChar_3b067 0 = .ok (.getstatic 44, 3) := by decide +kernel
theorem dJ2_getChar_3b067_3 : decode cJ2_getChar_3b067 3 = .ok (.ifCond .ne 25, 3) := by decide +kernel
theorem dJ2_getChar_3b067_6 : decode cJ2_getChar_3b067 6 = .ok (.iload_n 1, 1) := by decide +kernel
theorem dJ2_getChar_3b067_7 : decode cJ2_getChar_3b067 7 = .ok (.ifCond .lt 11, 3) := by decide +kernel
theorem dJ2_getChar_3b067_10 : decode cJ2_getChar_3b067 10 = .ok (.iload_n 1, 1) := by decide +kernel
theorem dJ2_getChar_3b067_11 : decode cJ2_getChar_3b067 11 = .ok (.aload_n 0, 1) := by decide +kernel
theorem dJ2_getChar_3b067_12 : decode cJ2_getChar_3b067 12 = .ok (.invokestatic 48, 3) := by decide +kernel
theorem dJ2_getChar_3b067_15 : decode cJ2_getChar_3b067 15 = .ok (.if_icmp .lt 13, 3) := by decide +kernel
theorem dJ2_getChar_3b067_18 : decode cJ2_getChar_3b067 18 = .ok (.new 52, 3) := by decide +kernel
theorem dJ2_getChar_3b067_21 : decode cJ2_getChar_3b067 21 = .ok (.dup, 1) := by decide +kernel
theorem dJ2_getChar_3b067_22 : decode cJ2_getChar_3b067 22 = .ok (.ldc 54, 2) := by decide +kernel
theorem dJ2_getChar_3b067_24 : decode cJ2_getChar_3b067 24 = .ok (.invokespecial 56, 3) := by decide +kernel
theorem dJ2_getChar_3b067_27 : decode cJ2_getChar_3b067 27 = .ok (.athrow, 1) := by decide +kernel
theorem dJ2_getChar_3b067_28 : decode cJ2_getChar_3b067 28 = .ok (.iload_n 1, 1) := by decide +kernel
theorem dJ2_getChar_3b067_29 : decode cJ2_getChar_3b067 29 = .ok (.iconst 1, 1) := by decide +kernel
theorem dJ2_getChar_3b067_30 : decode cJ2_getChar_3b067 30 = .ok (.ishl, 1) := by decide +kernel
theorem dJ2_getChar_3b067_31 : decode cJ2_getChar_3b067 31 = .ok (.istore_n 1, 1) := by decide +kernel
theorem dJ2_getChar_3b067_32 : decode cJ2_getChar_3b067 32 = .ok (.aload_n 0, 1) := by decide +kernel
theorem dJ2_getChar_3b067_33 : decode cJ2_getChar_3b067 33 = .ok (.iload_n 1, 1) := by decide +kernel
theorem dJ2_getChar_3b067_34 : decode cJ2_getChar_3b067 34 = .ok (.iinc 1 1, 3) := by decide +kernel
theorem dJ2_getChar_3b067_37 : decode cJ2_getChar_3b067 37 = .ok (.baload, 1) := by decide +kernel
theorem dJ2_getChar_3b067_38 : decode cJ2_getChar_3b067 38 = .ok (.sipush 255, 3) := by decide +kernel
theorem dJ2_getChar_3b067_41 : decode cJ2_getChar_3b067 41 = .ok (.iand, 1) := by decide +kernel
theorem dJ2_getChar_3b067_42 : decode cJ2_getChar_3b067 42 = .ok (.getstatic 59, 3) := by decide +kernel
theorem dJ2_getChar_3b067_45 : decode cJ2_getChar_3b067 45 = .ok (.ishl, 1) := by decide +kernel
theorem dJ2_getChar_3b067_46 : decode cJ2_getChar_3b067 46 = .ok (.aload_n 0, 1) := by decide +kernel
theorem dJ2_getChar_3b067_47 : decode cJ2_getChar_3b067 47 = .ok (.iload_n 1, 1) := by decide +kernel
theorem dJ2_getChar_3b067_48 : decode cJ2_getChar_3b067 48 = .ok (.baload, 1) := by decide +kernel
theorem dJ2_getChar_3b067_49 : decode cJ2_getChar_3b067 49 = .ok (.sipush 255, 3) := by decide +kernel
theorem dJ2_getChar_3b067_52 : decode cJ2_getChar_3b067 52 = .ok (.iand, 1) := by decide +kernel
theorem dJ2_getChar_3b067_53 : decode cJ2_getChar_3b067 53 = .ok (.getstatic 63, 3) := by decide +kernel
theorem dJ2_getChar_3b067_56 : decode cJ2_getChar_3b067 56 = .ok (.ishl, 1) := by decide +kernel
theorem dJ2_getChar_3b067_57 : decode cJ2_getChar_3b067 57 = .ok (.ior, 1) := by decide +kernel
theorem dJ2_getChar_3b067_58 : decode cJ2_getChar_3b067 58 = .ok (.i2c, 1) := by decide +kernel
theorem dJ2_getChar_3b067_59 : decode cJ2_getChar_3b067 59 = .ok (.ireturn, 1) := by decide +kernel
theorem dJ2_length_9d52b_0 : decode cJ2_length_9d52b 0 = .ok (.aload_n 0, 1) := by decide +kernel
theorem dJ2_length_9d52b_1 : decode cJ2_length_9d52b 1 = .ok (.arraylength, 1) := by decide +kernel
theorem dJ2_length_9d52b_2 : decode cJ2_length_9d52b 2 = .ok (.iconst 1, 1) := by decide +kernel
theorem dJ2_length_9d52b_3 : decode cJ2_length_9d52b 3 = .ok (.ishr, 1) := by decide +kernel
theorem dJ2_length_9d52b_4 : decode cJ2_length_9d52b 4 = .ok (.ireturn, 1) := by decide +kernel
theorem dJ2_charAt_3b067_0 : decode cJ2_charAt_3b067 0 = .ok (.iload_n 1, 1) := by decide +kernel
theorem dJ2_charAt_3b067_1 : decode cJ2_charAt_3b067 1 = .ok (.aload_n 0, 1) := by decide +kernel
theorem dJ2_charAt_3b067_2 : decode cJ2_charAt_3b067 2 = .ok (.invokestatic 67, 3) := by decide +kernel
theorem dJ2_charAt_3b067_5 : decode cJ2_charAt_3b067 5 = .ok (.aload_n 0, 1) := by decide +kernel
theorem dJ2_charAt_3b067_6 : decode cJ2_charAt_3b067 6 = .ok (.iload_n 1, 1) := by decide +kernel
theorem dJ2_charAt_3b067_7 : decode cJ2_charAt_3b067 7 = .ok (.invokestatic 71, 3) := by decide +kernel
theorem dJ2_charAt_3b067_10 : decode cJ2_charAt_3b067 10 = .ok (.ireturn, 1) := by decide +kernel
theorem dJ2_checkIndex_2214a_0 : decode cJ2_checkIndex_2214a 0 = .ok (.iload_n 0, 1) := by decide +kernel
theorem dJ2_checkIndex_2214a_1 : decode cJ2_checkIndex_2214a 1 = .ok (.aload_n 1, 1) := by decide +kernel
theorem dJ2_checkIndex_2214a_2 : decode cJ2_checkIndex_2214a 2 = .ok (.invokestatic 48, 3) := by decide +kernel
theorem dJ2_checkIndex_2214a_5 : decode cJ2_checkIndex_2214a 5 = .ok (.invokestatic 414, 3) := by decide +kernel
theorem dJ2_checkIndex_2214a_8 : decode cJ2_checkIndex_2214a 8 = .ok (.return_, 1) := by decide +kernel
theorem dJ3_checkIndex_8e157_0 : decode cJ3_checkIndex_8e157 0 = .ok (.iload_n 0, 1) := by decide +kernel
theorem dJ3_checkIndex_8e157_1 : decode cJ3_checkIndex_8e157 1 = .ok (.ifCond .lt 8, 3) := by decide +kernel
theorem dJ3_checkIndex_8e157_4 : decode cJ3_checkIndex_8e157 4 = .ok (.iload_n 0, 1) := by decide +kernel
theorem dJ3_checkIndex_8e157_5 : decode cJ3_checkIndex_8e157 5 = .ok (.iload_n 1, 1) := by decide +kernel
theorem dJ3_checkIndex_8e157_6 : decode cJ3_checkIndex_8e157 6 = .ok (.if_icmp .lt 10, 3) := by decide +kernel
theorem dJ3_checkIndex_8e157_9 : decode cJ3_checkIndex_8e157 9 = .ok (.aload_n 2, 1) := by decide +kernel
theorem dJ3_checkIndex_8e157_10 : decode cJ3_checkIndex_8e157 10 = .ok (.iload_n 0, 1) := by decide +kernel
theorem dJ3_checkIndex_8e157_11 : decode cJ3_checkIndex_8e157 11 = .ok (.iload_n 1, 1) := by decide +kernel
theorem dJ3_checkIndex_8e157_12 : decode cJ3_checkIndex_8e157 12 = .ok (.invokestatic 95, 3) := by decide +kernel
theorem dJ3_checkIndex_8e157_15 : decode cJ3_checkIndex_8e157 15 = .ok (.athrow, 1) := by decide +kernel
theorem dJ3_checkIndex_8e157_16 : decode cJ3_checkIndex_8e157 16 = .ok (.iload_n 0, 1) := by decide +kernel
theorem dJ3_checkIndex_8e157_17 : decode cJ3_checkIndex_8e157 17 = .ok (.ireturn, 1) := by decide +kernel
theorem dL_feed_0 : decode cL_feed 0 = .ok (.aload 4, 2) := by decide +kernel
theorem dL_feed_2 : decode cL_feed 2 = .ok (.iconst 0, 1) := by decide +kernel
theorem dL_feed_3 : decode cL_feed 3 = .ok (.aload_n 0, 1) := by decide +kernel
theorem dL_feed_4 : decode cL_feed 4 = .ok (.lload_n 1, 1) := by decide +kernel
theorem dL_feed_5 : decode cL_feed 5 = .ok (.iload_n 3, 1) := by decide +kernel
theorem dL_feed_6 : decode cL_feed 6 = .ok (.invokevirtual 7, 3) := by decide +kernel
theorem dL_feed_9 : decode cL_feed 9 = .ok (.i2l, 1) := by decide +kernel
theorem dL_feed_10 : decode cL_feed 10 = .ok (.lastore, 1) := by decide +kernel
theorem dL_feed_11 : decode cL_feed 11 = .ok (.goto 11, 3) := by decide +kernel
theorem dL_feed_14 : decode cL_feed 14 = .ok (.astore 5, 2) := by decide +kernel
theorem dL_feed_16 : decode cL_feed 16 = .ok (.iconst 1, 1) := by decide +kernel
theorem dL_feed_17 : decode cL_feed 17 = .ok (.ireturn, 1) := by decide +kernel
theorem dL_feed_18 : decode cL_feed 18 = .ok (.astore 5, 2) := by decide +kernel
theorem dL_feed_20 : decode cL_feed 20 = .ok (.iconst 2, 1) := by decide +kernel
theorem dL_feed_21 : decode cL_feed 21 = .ok (.ireturn, 1) := by decide +kernel
theorem dL_feed_22 : decode cL_feed 22 = .ok (.iconst 0, 1) := by decide +kernel
theorem dL_feed_23 : decode cL_feed 23 = .ok (.ireturn, 1) := by decide +kernel
theorem dL_outAt_0 : decode cL_outAt 0 = .ok (.aload_n 2, 1) := by decide +kernel
theorem dL_outAt_1 : decode cL_outAt 1 = .ok (.iconst 0, 1) := by decide +kernel
theorem dL_outAt_2 : decode cL_outAt 2 = .ok (.aload_n 0, 1) := by decide +kernel
theorem dL_outAt_3 : decode cL_outAt 3 = .ok (.iload_n 1, 1) := by decide +kernel
theorem dL_outAt_4 : decode cL_outAt 4 = .ok (.invokevirtual 17, 3) := by decide +kernel
theorem dL_outAt_7 : decode cL_outAt 7 = .ok (.i2l, 1) := by decide +kernel
theorem dL_outAt_8 : decode cL_outAt 8 = .ok (.lastore, 1) := by decide +kernel
theorem dL_outAt_9 : decode cL_outAt 9 = .ok (.goto 6, 3) := by decide +kernel
theorem dL_outAt_12 : decode cL_outAt 12 = .ok (.astore_n 3, 1) := by decide +kernel
theorem dL_outAt_13 : decode cL_outAt 13 = .ok (.iconst 1, 1) := by decide +kernel
theorem dL_outAt_14 : decode cL_outAt 14 = .ok (.ireturn, 1) := by decide +kernel
theorem dL_outAt_15 : decode cL_outAt 15 = .ok (.iconst 0, 1) := by decide +kernel
theorem dL_outAt_16 : decode cL_outAt 16 = .ok (.ireturn, 1) := by decide +kernel
theorem dL_kind_0 : decode cL_kind 0 = .ok (.aload_n 2, 1) := by decide +kernel
theorem dL_kind_1 : decode cL_kind 1 = .ok (.iconst 0, 1) := by decide +kernel
theorem dL_kind_2 : decode cL_kind 2 = .ok (.aload_n 0, 1) := by decide +kernel
theorem dL_kind_3 : decode cL_kind 3 = .ok (.iload_n 1, 1) := by decide +kernel
theorem dL_kind_4 : decode cL_kind 4 = .ok (.invokevirtual 23, 3) := by decide +kernel
theorem dL_kind_7 : decode cL_kind 7 = .ok (.i2l, 1) := by decide +kernel
theorem dL_kind_8 : decode cL_kind 8 = .ok (.lastore, 1) := by decide +kernel
theorem dL_kind_9 : decode cL_kind 9 = .ok (.goto 6, 3) := by decide +kernel
theorem dL_kind_12 : decode cL_kind 12 = .ok (.astore_n 3, 1) := by decide +kernel
theorem dL_kind_13 : decode cL_kind 13 = .ok (.iconst 1, 1) := by decide +kernel
theorem dL_kind_14 : decode cL_kind 14 = .ok (.ireturn, 1) := by decide +kernel
theorem dL_kind_15 : decode cL_kind 15 = .ok (.iconst 0, 1) := by decide +kernel
theorem dL_kind_16 : decode cL_kind 16 = .ok (.ireturn, 1) := by decide +kernel
theorem dL_length_0 : decode cL_length 0 = .ok (.aload_n 2, 1) := by decide +kernel
theorem dL_length_1 : decode cL_length 1 = .ok (.iconst 0, 1) := by decide +kernel
theorem dL_length_2 : decode cL_length 2 = .ok (.aload_n 0, 1) := by decide +kernel
theorem dL_length_3 : decode cL_length 3 = .ok (.iload_n 1, 1) := by decide +kernel
theorem dL_length_4 : decode cL_length 4 = .ok (.invokevirtual 28, 3) := by decide +kernel
theorem dL_length_7 : decode cL_length 7 = .ok (.i2l, 1) := by decide +kernel
theorem dL_length_8 : decode cL_length 8 = .ok (.lastore, 1) := by decide +kernel
theorem dL_length_9 : decode cL_length 9 = .ok (.goto 6, 3) := by decide +kernel
theorem dL_length_12 : decode cL_length 12 = .ok (.astore_n 3, 1) := by decide +kernel
theorem dL_length_13 : decode cL_length 13 = .ok (.iconst 1, 1) := by decide +kernel
theorem dL_length_14 : decode cL_length 14 = .ok (.ireturn, 1) := by decide +kernel
theorem dL_length_15 : decode cL_length 15 = .ok (.iconst 0, 1) := by decide +kernel
theorem dL_length_16 : decode cL_length 16 = .ok (.ireturn, 1) := by decide +kernel
theorem dL_byteAt_0 : decode cL_byteAt 0 = .ok (.aload_n 3, 1) := by decide +kernel
theorem dL_byteAt_1 : decode cL_byteAt 1 = .ok (.iconst 0, 1) := by decide +kernel
theorem dL_byteAt_2 : decode cL_byteAt 2 = .ok (.aload_n 0, 1) := by decide +kernel
theorem dL_byteAt_3 : decode cL_byteAt 3 = .ok (.iload_n 1, 1) := by decide +kernel
theorem dL_byteAt_4 : decode cL_byteAt 4 = .ok (.iload_n 2, 1) := by decide +kernel
theorem dL_byteAt_5 : decode cL_byteAt 5 = .ok (.invokevirtual 31, 3) := by decide +kernel
theorem dL_byteAt_8 : decode cL_byteAt 8 = .ok (.i2l, 1) := by decide +kernel
theorem dL_byteAt_9 : decode cL_byteAt 9 = .ok (.lastore, 1) := by decide +kernel
theorem dL_byteAt_10 : decode cL_byteAt 10 = .ok (.goto 11, 3) := by decide +kernel
theorem dL_byteAt_13 : decode cL_byteAt 13 = .ok (.astore 4, 2) := by decide +kernel
theorem dL_byteAt_15 : decode cL_byteAt 15 = .ok (.iconst 1, 1) := by decide +kernel
theorem dL_byteAt_16 : decode cL_byteAt 16 = .ok (.ireturn, 1) := by decide +kernel
theorem dL_byteAt_17 : decode cL_byteAt 17 = .ok (.astore 4, 2) := by decide +kernel
theorem dL_byteAt_19 : decode cL_byteAt 19 = .ok (.iconst 2, 1) := by decide +kernel
theorem dL_byteAt_20 : decode cL_byteAt 20 = .ok (.ireturn, 1) := by decide +kernel
theorem dL_byteAt_21 : decode cL_byteAt 21 = .ok (.iconst 0, 1) := by decide +kernel
theorem dL_byteAt_22 : decode cL_byteAt 22 = .ok (.ireturn, 1) := by decide +kernel
theorem dL_take_0 : decode cL_take 0 = .ok (.aload_n 1, 1) := by decide +kernel
theorem dL_take_1 : decode cL_take 1 = .ok (.iconst 0, 1) := by decide +kernel
theorem dL_take_2 : decode cL_take 2 = .ok (.aload_n 0, 1) := by decide +kernel
theorem dL_take_3 : decode cL_take 3 = .ok (.invokevirtual 35, 3) := by decide +kernel
theorem dL_take_6 : decode cL_take 6 = .ok (.i2l, 1) := by decide +kernel
theorem dL_take_7 : decode cL_take 7 = .ok (.lastore, 1) := by decide +kernel
theorem dL_take_8 : decode cL_take 8 = .ok (.goto 6, 3) := by decide +kernel
theorem dL_take_11 : decode cL_take 11 = .ok (.astore_n 2, 1) := by decide +kernel
theorem dL_take_12 : decode cL_take 12 = .ok (.iconst 1, 1) := by decide +kernel
theorem dL_take_13 : decode cL_take 13 = .ok (.ireturn, 1) := by decide +kernel
theorem dL_take_14 : decode cL_take 14 = .ok (.iconst 0, 1) := by decide +kernel
theorem dL_take_15 : decode cL_take 15 = .ok (.ireturn, 1) := by decide +kernel
theorem dL_send_0 : decode cL_send 0 = .ok (.aload_n 3, 1) := by decide +kernel
theorem dL_send_1 : decode cL_send 1 = .ok (.iconst 0, 1) := by decide +kernel
theorem dL_send_2 : decode cL_send 2 = .ok (.aload_n 0, 1) := by decide +kernel
theorem dL_send_3 : decode cL_send 3 = .ok (.iload_n 1, 1) := by decide +kernel
theorem dL_send_4 : decode cL_send 4 = .ok (.iload_n 2, 1) := by decide +kernel
theorem dL_send_5 : decode cL_send 5 = .ok (.invokevirtual 39, 3) := by decide +kernel
theorem dL_send_8 : decode cL_send 8 = .ok (.i2l, 1) := by decide +kernel
theorem dL_send_9 : decode cL_send 9 = .ok (.lastore, 1) := by decide +kernel
theorem dL_send_10 : decode cL_send 10 = .ok (.goto 11, 3) := by decide +kernel
theorem dL_send_13 : decode cL_send 13 = .ok (.astore 4, 2) := by decide +kernel
theorem dL_send_15 : decode cL_send 15 = .ok (.iconst 1, 1) := by decide +kernel
theorem dL_send_16 : decode cL_send 16 = .ok (.ireturn, 1) := by decide +kernel
theorem dL_send_17 : decode cL_send 17 = .ok (.astore 4, 2) := by decide +kernel
theorem dL_send_19 : decode cL_send 19 = .ok (.iconst 2, 1) := by decide +kernel
theorem dL_send_20 : decode cL_send 20 = .ok (.ireturn, 1) := by decide +kernel
theorem dL_send_21 : decode cL_send 21 = .ok (.iconst 0, 1) := by decide +kernel
theorem dL_send_22 : decode cL_send 22 = .ok (.ireturn, 1) := by decide +kernel
theorem dL_ping_0 : decode cL_ping 0 = .ok (.aload_n 0, 1) := by decide +kernel
theorem dL_ping_1 : decode cL_ping 1 = .ok (.invokevirtual 42, 3) := by decide +kernel
theorem dL_ping_4 : decode cL_ping 4 = .ok (.goto 6, 3) := by decide +kernel
theorem dL_ping_7 : decode cL_ping 7 = .ok (.astore_n 1, 1) := by decide +kernel
theorem dL_ping_8 : decode cL_ping 8 = .ok (.iconst 1, 1) := by decide +kernel
theorem dL_ping_9 : decode cL_ping 9 = .ok (.ireturn, 1) := by decide +kernel
theorem dL_ping_10 : decode cL_ping 10 = .ok (.iconst 0, 1) := by decide +kernel
theorem dL_ping_11 : decode cL_ping 11 = .ok (.ireturn, 1) := by decide +kernel
theorem dL_close_0 : decode cL_close 0 = .ok (.aload_n 0, 1) := by decide +kernel
theorem dL_close_1 : decode cL_close 1 = .ok (.iload_n 1, 1) := by decide +kernel
theorem dL_close_2 : decode cL_close 2 = .ok (.invokevirtual 45, 3) := by decide +kernel
theorem dL_close_5 : decode cL_close 5 = .ok (.goto 9, 3) := by decide +kernel
theorem dL_close_8 : decode cL_close 8 = .ok (.astore_n 2, 1) := by decide +kernel
theorem dL_close_9 : decode cL_close 9 = .ok (.iconst 1, 1) := by decide +kernel
theorem dL_close_10 : decode cL_close 10 = .ok (.ireturn, 1) := by decide +kernel
theorem dL_close_11 : decode cL_close 11 = .ok (.astore_n 2, 1) := by decide +kernel
theorem dL_close_12 : decode cL_close 12 = .ok (.iconst 2, 1) := by decide +kernel
theorem dL_close_13 : decode cL_close 13 = .ok (.ireturn, 1) := by decide +kernel
theorem dL_close_14 : decode cL_close 14 = .ok (.iconst 0, 1) := by decide +kernel
theorem dL_close_15 : decode cL_close 15 = .ok (.ireturn, 1) := by decide +kernel
theorem dL_law_0 : decode cL_law 0 = .ok (.new 8, 3) := by decide +kernel
theorem dL_law_3 : decode cL_law 3 = .ok (.dup, 1) := by decide +kernel
theorem dL_law_4 : decode cL_law 4 = .ok (.invokespecial 49, 3) := by decide +kernel
theorem dL_law_7 : decode cL_law 7 = .ok (.astore_n 1, 1) := by decide +kernel
theorem dL_law_8 : decode cL_law 8 = .ok (.new 50, 3) := by decide +kernel
theorem dL_law_11 : decode cL_law 11 = .ok (.dup, 1) := by decide +kernel
theorem dL_law_12 : decode cL_law 12 = .ok (.invokespecial 52, 3) := by decide +kernel
theorem dL_law_15 : decode cL_law 15 = .ok (.astore_n 2, 1) := by decide +kernel
theorem dL_law_16 : decode cL_law 16 = .ok (.iconst 1, 1) := by decide +kernel
theorem dL_law_17 : decode cL_law 17 = .ok (.newarray .long, 2) := by decide +kernel
theorem dL_law_19 : decode cL_law 19 = .ok (.astore_n 3, 1) := by decide +kernel
theorem dL_law_20 : decode cL_law 20 = .ok (.iconst 0, 1) := by decide +kernel
theorem dL_law_21 : decode cL_law 21 = .ok (.istore 4, 2) := by decide +kernel
theorem dL_law_23 : decode cL_law 23 = .ok (.iload 4, 2) := by decide +kernel
theorem dL_law_25 : decode cL_law 25 = .ok (.aload_n 0, 1) := by decide +kernel
theorem dL_law_26 : decode cL_law 26 = .ok (.arraylength, 1) := by decide +kernel
theorem dL_law_27 : decode cL_law 27 = .ok (.iconst 4, 1) := by decide +kernel
theorem dL_law_28 : decode cL_law 28 = .ok (.isub, 1) := by decide +kernel
theorem dL_law_29 : decode cL_law 29 = .ok (.if_icmp .gt 792, 3) := by decide +kernel
theorem dL_law_32 : decode cL_law 32 = .ok (.aload_n 0, 1) := by decide +kernel
theorem dL_law_33 : decode cL_law 33 = .ok (.iload 4, 2) := by decide +kernel
theorem dL_law_35 : decode cL_law 35 = .ok (.iaload, 1) := by decide +kernel
theorem dL_law_36 : decode cL_law 36 = .ok (.bipush 31, 2) := by decide +kernel
theorem dL_law_38 : decode cL_law 38 = .ok (.iand, 1) := by decide +kernel
theorem dL_law_39 : decode cL_law 39 = .ok (.tableswitch 776 0 17 #[85, 185, 198, 211, 224, 280, 305, 318, 331, 387, 443, 511, 555, 568, 637, 648, 716, 740], 85) := by decide +kernel
theorem dL_law_124 : decode cL_law 124 = .ok (.aload_n 1, 1) := by decide +kernel
theorem dL_law_125 : decode cL_law 125 = .ok (.aload_n 0, 1) := by decide +kernel
theorem dL_law_126 : decode cL_law 126 = .ok (.iload 4, 2) := by decide +kernel
theorem dL_law_128 : decode cL_law 128 = .ok (.iconst 1, 1) := by decide +kernel
theorem dL_law_129 : decode cL_law 129 = .ok (.iadd, 1) := by decide +kernel
theorem dL_law_130 : decode cL_law 130 = .ok (.iaload, 1) := by decide +kernel
theorem dL_law_131 : decode cL_law 131 = .ok (.i2l, 1) := by decide +kernel
theorem dL_law_132 : decode cL_law 132 = .ok (.bipush 32, 2) := by decide +kernel
theorem dL_law_134 : decode cL_law 134 = .ok (.lshl, 1) := by decide +kernel
theorem dL_law_135 : decode cL_law 135 = .ok (.aload_n 0, 1) := by decide +kernel
theorem dL_law_136 : decode cL_law 136 = .ok (.iload 4, 2) := by decide +kernel
theorem dL_law_138 : decode cL_law 138 = .ok (.iconst 2, 1) := by decide +kernel
theorem dL_law_139 : decode cL_law 139 = .ok (.iadd, 1) := by decide +kernel
theorem dL_law_140 : decode cL_law 140 = .ok (.iaload, 1) := by decide +kernel
theorem dL_law_141 : decode cL_law 141 = .ok (.i2l, 1) := by decide +kernel
theorem dL_law_142 : decode cL_law 142 = .ok (.ldc2_w 53, 3) := by decide +kernel
theorem dL_law_145 : decode cL_law 145 = .ok (.land, 1) := by decide +kernel
theorem dL_law_146 : decode cL_law 146 = .ok (.lor, 1) := by decide +kernel
theorem dL_law_147 : decode cL_law 147 = .ok (.aload_n 0, 1) := by decide +kernel
theorem dL_law_148 : decode cL_law 148 = .ok (.iload 4, 2) := by decide +kernel
theorem dL_law_150 : decode cL_law 150 = .ok (.iconst 3, 1) := by decide +kernel
theorem dL_law_151 : decode cL_law 151 = .ok (.iadd, 1) := by decide +kernel
theorem dL_law_152 : decode cL_law 152 = .ok (.iaload, 1) := by decide +kernel
theorem dL_law_153 : decode cL_law 153 = .ok (.aload_n 3, 1) := by decide +kernel
theorem dL_law_154 : decode cL_law 154 = .ok (.invokestatic 55, 3) := by decide +kernel
theorem dL_law_157 : decode cL_law 157 = .ok (.istore 5, 2) := by decide +kernel
theorem dL_law_159 : decode cL_law 159 = .ok (.aload_n 2, 1) := by decide +kernel
theorem dL_law_160 : decode cL_law 160 = .ok (.aload_n 0, 1) := by decide +kernel
theorem dL_law_161 : decode cL_law 161 = .ok (.iload 4, 2) := by decide +kernel
theorem dL_law_163 : decode cL_law 163 = .ok (.iconst 1, 1) := by decide +kernel
theorem dL_law_164 : decode cL_law 164 = .ok (.iadd, 1) := by decide +kernel
theorem dL_law_165 : decode cL_law 165 = .ok (.iaload, 1) := by decide +kernel
theorem dL_law_166 : decode cL_law 166 = .ok (.i2l, 1) := by decide +kernel
theorem dL_law_167 : decode cL_law 167 = .ok (.bipush 32, 2) := by decide +kernel
theorem dL_law_169 : decode cL_law 169 = .ok (.lshl, 1) := by decide +kernel
theorem dL_law_170 : decode cL_law 170 = .ok (.aload_n 0, 1) := by decide +kernel
theorem dL_law_171 : decode cL_law 171 = .ok (.iload 4, 2) := by decide +kernel
theorem dL_law_173 : decode cL_law 173 = .ok (.iconst 2, 1) := by decide +kernel
theorem dL_law_174 : decode cL_law 174 = .ok (.iadd, 1) := by decide +kernel
theorem dL_law_175 : decode cL_law 175 = .ok (.iaload, 1) := by decide +kernel
theorem dL_law_176 : decode cL_law 176 = .ok (.i2l, 1) := by decide +kernel
theorem dL_law_177 : decode cL_law 177 = .ok (.ldc2_w 53, 3) := by decide +kernel
theorem dL_law_180 : decode cL_law 180 = .ok (.land, 1) := by decide +kernel
theorem dL_law_181 : decode cL_law 181 = .ok (.lor, 1) := by decide +kernel
theorem dL_law_182 : decode cL_law 182 = .ok (.aload_n 0, 1) := by decide +kernel
theorem dL_law_183 : decode cL_law 183 = .ok (.iload 4, 2) := by decide +kernel
theorem dL_law_185 : decode cL_law 185 = .ok (.iconst 3, 1) := by decide +kernel
theorem dL_law_186 : decode cL_law 186 = .ok (.iadd, 1) := by decide +kernel
theorem dL_law_187 : decode cL_law 187 = .ok (.iaload, 1) := by decide +kernel
theorem dL_law_188 : decode cL_law 188 = .ok (.invokevirtual 60, 3) := by decide +kernel
theorem dL_law_191 : decode cL_law 191 = .ok (.istore 6, 2) := by decide +kernel
theorem dL_law_193 : decode cL_law 193 = .ok (.aload_n 2, 1) := by decide +kernel
theorem dL_law_194 : decode cL_law 194 = .ok (.invokevirtual 61, 3) := by decide +kernel
theorem dL_law_197 : decode cL_law 197 = .ok (.iload 5, 2) := by decide +kernel
theorem dL_law_199 : decode cL_law 199 = .ok (.if_icmp .eq 5, 3) := by decide +kernel
theorem dL_law_202 : decode cL_law 202 = .ok (.iconst 0, 1) := by decide +kernel
theorem dL_law_203 : decode cL_law 203 = .ok (.ireturn, 1) := by decide +kernel
theorem dL_law_204 : decode cL_law 204 = .ok (.iload 5, 2) := by decide +kernel
theorem dL_law_206 : decode cL_law 206 = .ok (.ifCond .ne 15, 3) := by decide +kernel
theorem dL_law_209 : decode cL_law 209 = .ok (.aload_n 3, 1) := by decide +kernel
theorem dL_law_210 : decode cL_law 210 = .ok (.iconst 0, 1) := by decide +kernel
theorem dL_law_211 : decode cL_law 211 = .ok (.laload, 1) := by decide +kernel
theorem dL_law_212 : decode cL_law 212 = .ok (.iload 6, 2) := by decide +kernel
theorem dL_law_214 : decode cL_law 214 = .ok (.i2l, 1) := by decide +kernel
theorem dL_law_215 : decode cL_law 215 = .ok (.lcmp, 1) := by decide +kernel
theorem dL_law_216 : decode cL_law 216 = .ok (.ifCond .eq 5, 3) := by decide +kernel
theorem dL_law_219 : decode cL_law 219 = .ok (.iconst 0, 1) := by decide +kernel
theorem dL_law_220 : decode cL_law 220 = .ok (.ireturn, 1) := by decide +kernel
theorem dL_law_221 : decode cL_law 221 = .ok (.goto 594, 3) := by decide +kernel
theorem dL_law_224 : decode cL_law 224 = .ok (.aload_n 1, 1) := by decide +kernel
theorem dL_law_225 : decode cL_law 225 = .ok (.invokevirtual 64, 3) := by decide +kernel
theorem dL_law_228 : decode cL_law 228 = .ok (.aload_n 2, 1) := by decide +kernel
theorem dL_law_229 : decode cL_law 229 = .ok (.invokevirtual 67, 3) := by decide +kernel
theorem dL_law_232 : decode cL_law 232 = .ok (.if_icmp .eq 583, 3) := by decide +kernel
theorem dL_law_235 : decode cL_law 235 = .ok (.iconst 0, 1) := by decide +kernel
theorem dL_law_236 : decode cL_law 236 = .ok (.ireturn, 1) := by decide +kernel
theorem dL_law_237 : decode cL_law 237 = .ok (.aload_n 1, 1) := by decide +kernel
theorem dL_law_238 : decode cL_law 238 = .ok (.invokevirtual 68, 3) := by decide +kernel
theorem dL_law_241 : decode cL_law 241 = .ok (.aload_n 2, 1) := by decide +kernel
theorem dL_law_242 : decode cL_law 242 = .ok (.invokevirtual 71, 3) := by decide +kernel
theorem dL_law_245 : decode cL_law 245 = .ok (.if_icmp .eq 570, 3) := by decide +kernel
theorem dL_law_248 : decode cL_law 248 = .ok (.iconst 0, 1) := by decide +kernel
theorem dL_law_249 : decode cL_law 249 = .ok (.ireturn, 1) := by decide +kernel
theorem dL_law_250 : decode cL_law 250 = .ok (.aload_n 1, 1) := by decide +kernel
theorem dL_law_251 : decode cL_law 251 = .ok (.invokevirtual 72, 3) := by decide +kernel
theorem dL_law_254 : decode cL_law 254 = .ok (.aload_n 2, 1) := by decide +kernel
theorem dL_law_255 : decode cL_law 255 = .ok (.invokevirtual 75, 3) := by decide +kernel
theorem dL_law_258 : decode cL_law 258 = .ok (.if_icmp .eq 557, 3) := by decide +kernel
theorem dL_law_261 : decode cL_law 261 = .ok (.iconst 0, 1) := by decide +kernel
theorem dL_law_262 : decode cL_law 262 = .ok (.ireturn, 1) := by decide +kernel
theorem dL_law_263 : decode cL_law 263 = .ok (.aload_n 1, 1) := by decide +kernel
theorem dL_law_264 : decode cL_law 264 = .ok (.aload_n 0, 1) := by decide +kernel
theorem dL_law_265 : decode cL_law 265 = .ok (.iload 4, 2) := by decide +kernel
theorem dL_law_267 : decode cL_law 267 = .ok (.iconst 1, 1) := by decide +kernel
theorem dL_law_268 : decode cL_law 268 = .ok (.iadd, 1) := by decide +kernel
theorem dL_law_269 : decode cL_law 269 = .ok (.iaload, 1) := by decide +kernel
theorem dL_law_270 : decode cL_law 270 = .ok (.aload_n 3, 1) := by decide +kernel
theorem dL_law_271 : decode cL_law 271 = .ok (.invokestatic 76, 3) := by decide +kernel
theorem dL_law_274 : decode cL_law 274 = .ok (.istore 5, 2) := by decide +kernel
theorem dL_law_276 : decode cL_law 276 = .ok (.aload_n 2, 1) := by decide +kernel
theorem dL_law_277 : decode cL_law 277 = .ok (.aload_n 0, 1) := by decide +kernel
theorem dL_law_278 : decode cL_law 278 = .ok (.iload 4, 2) := by decide +kernel
theorem dL_law_280 : decode cL_law 280 = .ok (.iconst 1, 1) := by decide +kernel
theorem dL_law_281 : decode cL_law 281 = .ok (.iadd, 1) := by decide +kernel
theorem dL_law_282 : decode cL_law 282 = .ok (.iaload, 1) := by decide +kernel
theorem dL_law_283 : decode cL_law 283 = .ok (.invokevirtual 79, 3) := by decide +kernel
theorem dL_law_286 : decode cL_law 286 = .ok (.istore 6, 2) := by decide +kernel
theorem dL_law_288 : decode cL_law 288 = .ok (.aload_n 2, 1) := by decide +kernel
theorem dL_law_289 : decode cL_law 289 = .ok (.invokevirtual 61, 3) := by decide +kernel
theorem dL_law_292 : decode cL_law 292 = .ok (.iload 5, 2) := by decide +kernel
theorem dL_law_294 : decode cL_law 294 = .ok (.if_icmp .eq 5, 3) := by decide +kernel
theorem dL_law_297 : decode cL_law 297 = .ok (.iconst 0, 1) := by decide +kernel
theorem dL_law_298 : decode cL_law 298 = .ok (.ireturn, 1) := by decide +kernel
theorem dL_law_299 : decode cL_law 299 = .ok (.iload 5, 2) := by decide +kernel
theorem dL_law_301 : decode cL_law 301 = .ok (.ifCond .ne 15, 3) := by decide +kernel
theorem dL_law_304 : decode cL_law 304 = .ok (.aload_n 3, 1) := by decide +kernel
theorem dL_law_305 : decode cL_law 305 = .ok (.iconst 0, 1) := by decide +kernel
theorem dL_law_306 : decode cL_law 306 = .ok (.laload, 1) := by decide +kernel
theorem dL_law_307 : decode cL_law 307 = .ok (.iload 6, 2) := by decide +kernel
theorem dL_law_309 : decode cL_law 309 = .ok (.i2l, 1) := by decide +kernel
theorem dL_law_310 : decode cL_law 310 = .ok (.lcmp, 1) := by decide +kernel
theorem dL_law_311 : decode cL_law 311 = .ok (.ifCond .eq 5, 3) := by decide +kernel
theorem dL_law_314 : decode cL_law 314 = .ok (.iconst 0, 1) := by decide +kernel
theorem dL_law_315 : decode cL_law 315 = .ok (.ireturn, 1) := by decide +kernel
theorem dL_law_316 : decode cL_law 316 = .ok (.goto 499, 3) := by decide +kernel
theorem dL_law_319 : decode cL_law 319 = .ok (.aload_n 1, 1) := by decide +kernel
theorem dL_law_320 : decode cL_law 320 = .ok (.aload_n 0, 1) := by decide +kernel
theorem dL_law_321 : decode cL_law 321 = .ok (.iload 4, 2) := by decide +kernel
theorem dL_law_323 : decode cL_law 323 = .ok (.iconst 1, 1) := by decide +kernel
theorem dL_law_324 : decode cL_law 324 = .ok (.iadd, 1) := by decide +kernel
theorem dL_law_325 : decode cL_law 325 = .ok (.iaload, 1) := by decide +kernel
theorem dL_law_326 : decode cL_law 326 = .ok (.invokevirtual 80, 3) := by decide +kernel
theorem dL_law_329 : decode cL_law 329 = .ok (.aload_n 2, 1) := by decide +kernel
theorem dL_law_330 : decode cL_law 330 = .ok (.aload_n 0, 1) := by decide +kernel
theorem dL_law_331 : decode cL_law 331 = .ok (.iload 4, 2) := by decide +kernel
theorem dL_law_333 : decode cL_law 333 = .ok (.iconst 1, 1) := by decide +kernel
theorem dL_law_334 : decode cL_law 334 = .ok (.iadd, 1) := by decide +kernel
theorem dL_law_335 : decode cL_law 335 = .ok (.iaload, 1) := by decide +kernel
theorem dL_law_336 : decode cL_law 336 = .ok (.invokevirtual 84, 3) := by decide +kernel
theorem dL_law_339 : decode cL_law 339 = .ok (.if_icmp .eq 476, 3) := by decide +kernel
theorem dL_law_342 : decode cL_law 342 = .ok (.iconst 0, 1) := by decide +kernel
theorem dL_law_343 : decode cL_law 343 = .ok (.ireturn, 1) := by decide +kernel
theorem dL_law_344 : decode cL_law 344 = .ok (.aload_n 1, 1) := by decide +kernel
theorem dL_law_345 : decode cL_law 345 = .ok (.invokevirtual 85, 3) := by decide +kernel
theorem dL_law_348 : decode cL_law 348 = .ok (.aload_n 2, 1) := by decide +kernel
theorem dL_law_349 : decode cL_law 349 = .ok (.invokevirtual 88, 3) := by decide +kernel
theorem dL_law_352 : decode cL_law 352 = .ok (.if_icmp .eq 463, 3) := by decide +kernel
theorem dL_law_355 : decode cL_law 355 = .ok (.iconst 0, 1) := by decide +kernel
theorem dL_law_356 : decode cL_law 356 = .ok (.ireturn, 1) := by decide +kernel
theorem dL_law_357 : decode cL_law 357 = .ok (.aload_n 1, 1) := by decide +kernel
theorem dL_law_358 : decode cL_law 358 = .ok (.invokevirtual 89, 3) := by decide +kernel
theorem dL_law_361 : decode cL_law 361 = .ok (.aload_n 2, 1) := by decide +kernel
theorem dL_law_362 : decode cL_law 362 = .ok (.invokevirtual 92, 3) := by decide +kernel
theorem dL_law_365 : decode cL_law 365 = .ok (.if_icmp .eq 450, 3) := by decide +kernel
theorem dL_law_368 : decode cL_law 368 = .ok (.iconst 0, 1) := by decide +kernel
theorem dL_law_369 : decode cL_law 369 = .ok (.ireturn, 1) := by decide +kernel
theorem dL_law_370 : decode cL_law 370 = .ok (.aload_n 1, 1) := by decide +kernel
theorem dL_law_371 : decode cL_law 371 = .ok (.aload_n 0, 1) := by decide +kernel
theorem dL_law_372 : decode cL_law 372 = .ok (.iload 4, 2) := by decide +kernel
theorem dL_law_374 : decode cL_law 374 = .ok (.iconst 1, 1) := by decide +kernel
theorem dL_law_375 : decode cL_law 375 = .ok (.iadd, 1) := by decide +kernel
theorem dL_law_376 : decode cL_law 376 = .ok (.iaload, 1) := by decide +kernel
theorem dL_law_377 : decode cL_law 377 = .ok (.aload_n 3, 1) := by decide +kernel
theorem dL_law_378 : decode cL_law 378 = .ok (.invokestatic 93, 3) := by decide +kernel
theorem dL_law_381 : decode cL_law 381 = .ok (.istore 5, 2) := by decide +kernel
theorem dL_law_383 : decode cL_law 383 = .ok (.aload_n 2, 1) := by decide +kernel
theorem dL_law_384 : decode cL_law 384 = .ok (.aload_n 0, 1) := by decide +kernel
theorem dL_law_385 : decode cL_law 385 = .ok (.iload 4, 2) := by decide +kernel
theorem dL_law_387 : decode cL_law 387 = .ok (.iconst 1, 1) := by decide +kernel
theorem dL_law_388 : decode cL_law 388 = .ok (.iadd, 1) := by decide +kernel
theorem dL_law_389 : decode cL_law 389 = .ok (.iaload, 1) := by decide +kernel
theorem dL_law_390 : decode cL_law 390 = .ok (.invokevirtual 95, 3) := by decide +kernel
theorem dL_law_393 : decode cL_law 393 = .ok (.istore 6, 2) := by decide +kernel
theorem dL_law_395 : decode cL_law 395 = .ok (.aload_n 2, 1) := by decide +kernel
theorem dL_law_396 : decode cL_law 396 = .ok (.invokevirtual 61, 3) := by decide +kernel
theorem dL_law_399 : decode cL_law 399 = .ok (.iload 5, 2) := by decide +kernel
theorem dL_law_401 : decode cL_law 401 = .ok (.if_icmp .eq 5, 3) := by decide +kernel
theorem dL_law_404 : decode cL_law 404 = .ok (.iconst 0, 1) := by decide +kernel
theorem dL_law_405 : decode cL_law 405 = .ok (.ireturn, 1) := by decide +kernel
theorem dL_law_406 : decode cL_law 406 = .ok (.iload 5, 2) := by decide +kernel
theorem dL_law_408 : decode cL_law 408 = .ok (.ifCond .ne 15, 3) := by decide +kernel
theorem dL_law_411 : decode cL_law 411 = .ok (.aload_n 3, 1) := by decide +kernel
theorem dL_law_412 : decode cL_law 412 = .ok (.iconst 0, 1) := by decide +kernel
theorem dL_law_413 : decode cL_law 413 = .ok (.laload, 1) := by decide +kernel
theorem dL_law_414 : decode cL_law 414 = .ok (.iload 6, 2) := by decide +kernel
theorem dL_law_416 : decode cL_law 416 = .ok (.i2l, 1) := by decide +kernel
theorem dL_law_417 : decode cL_law 417 = .ok (.lcmp, 1) := by decide +kernel
theorem dL_law_418 : decode cL_law 418 = .ok (.ifCond .eq 5, 3) := by decide +kernel
theorem dL_law_421 : decode cL_law 421 = .ok (.iconst 0, 1) := by decide +kernel
theorem dL_law_422 : decode cL_law 422 = .ok (.ireturn, 1) := by decide +kernel
theorem dL_law_423 : decode cL_law 423 = .ok (.goto 392, 3) := by decide +kernel
theorem dL_law_426 : decode cL_law 426 = .ok (.aload_n 1, 1) := by decide +kernel
theorem dL_law_427 : decode cL_law 427 = .ok (.aload_n 0, 1) := by decide +kernel
theorem dL_law_428 : decode cL_law 428 = .ok (.iload 4, 2) := by decide +kernel
theorem dL_law_430 : decode cL_law 430 = .ok (.iconst 1, 1) := by decide +kernel
theorem dL_law_431 : decode cL_law 431 = .ok (.iadd, 1) := by decide +kernel
theorem dL_law_432 : decode cL_law 432 = .ok (.iaload, 1) := by decide +kernel
theorem dL_law_433 : decode cL_law 433 = .ok (.aload_n 3, 1) := by decide +kernel
theorem dL_law_434 : decode cL_law 434 = .ok (.invokestatic 96, 3) := by decide +kernel
theorem dL_law_437 : decode cL_law 437 = .ok (.istore 5, 2) := by decide +kernel
theorem dL_law_439 : decode cL_law 439 = .ok (.aload_n 2, 1) := by decide +kernel
theorem dL_law_440 : decode cL_law 440 = .ok (.aload_n 0, 1) := by decide +kernel
theorem dL_law_441 : decode cL_law 441 = .ok (.iload 4, 2) := by decide +kernel
theorem dL_law_443 : decode cL_law 443 = .ok (.iconst 1, 1) := by decide +kernel
theorem dL_law_444 : decode cL_law 444 = .ok (.iadd, 1) := by decide +kernel
theorem dL_law_445 : decode cL_law 445 = .ok (.iaload, 1) := by decide +kernel
theorem dL_law_446 : decode cL_law 446 = .ok (.invokevirtual 98, 3) := by decide +kernel
theorem dL_law_449 : decode cL_law 449 = .ok (.istore 6, 2) := by decide +kernel
theorem dL_law_451 : decode cL_law 451 = .ok (.aload_n 2, 1) := by decide +kernel
theorem dL_law_452 : decode cL_law 452 = .ok (.invokevirtual 61, 3) := by decide +kernel
theorem dL_law_455 : decode cL_law 455 = .ok (.iload 5, 2) := by decide +kernel
theorem dL_law_457 : decode cL_law 457 = .ok (.if_icmp .eq 5, 3) := by decide +kernel
theorem dL_law_460 : decode cL_law 460 = .ok (.iconst 0, 1) := by decide +kernel
theorem dL_law_461 : decode cL_law 461 = .ok (.ireturn, 1) := by decide +kernel
theorem dL_law_462 : decode cL_law 462 = .ok (.iload 5, 2) := by decide +kernel
theorem dL_law_464 : decode cL_law 464 = .ok (.ifCond .ne 15, 3) := by decide +kernel
theorem dL_law_467 : decode cL_law 467 = .ok (.aload_n 3, 1) := by decide +kernel
theorem dL_law_468 : decode cL_law 468 = .ok (.iconst 0, 1) := by decide +kernel
theorem dL_law_469 : decode cL_law 469 = .ok (.laload, 1) := by decide +kernel
theorem dL_law_470 : decode cL_law 470 = .ok (.iload 6, 2) := by decide +kernel
theorem dL_law_472 : decode cL_law 472 = .ok (.i2l, 1) := by decide +kernel
theorem dL_law_473 : decode cL_law 473 = .ok (.lcmp, 1) := by decide +kernel
theorem dL_law_474 : decode cL_law 474 = .ok (.ifCond .eq 5, 3) := by decide +kernel
theorem dL_law_477 : decode cL_law 477 = .ok (.iconst 0, 1) := by decide +kernel
theorem dL_law_478 : decode cL_law 478 = .ok (.ireturn, 1) := by decide +kernel
theorem dL_law_479 : decode cL_law 479 = .ok (.goto 336, 3) := by decide +kernel
theorem dL_law_482 : decode cL_law 482 = .ok (.aload_n 1, 1) := by decide +kernel
theorem dL_law_483 : decode cL_law 483 = .ok (.aload_n 0, 1) := by decide +kernel
theorem dL_law_484 : decode cL_law 484 = .ok (.iload 4, 2) := by decide +kernel
theorem dL_law_486 : decode cL_law 486 = .ok (.iconst 1, 1) := by decide +kernel
theorem dL_law_487 : decode cL_law 487 = .ok (.iadd, 1) := by decide +kernel
theorem dL_law_488 : decode cL_law 488 = .ok (.iaload, 1) := by decide +kernel
theorem dL_law_489 : decode cL_law 489 = .ok (.aload_n 0, 1) := by decide +kernel
theorem dL_law_490 : decode cL_law 490 = .ok (.iload 4, 2) := by decide +kernel
theorem dL_law_492 : decode cL_law 492 = .ok (.iconst 2, 1) := by decide +kernel
theorem dL_law_493 : decode cL_law 493 = .ok (.iadd, 1) := by decide +kernel
theorem dL_law_494 : decode cL_law 494 = .ok (.iaload, 1) := by decide +kernel
theorem dL_law_495 : decode cL_law 495 = .ok (.aload_n 3, 1) := by decide +kernel
theorem dL_law_496 : decode cL_law 496 = .ok (.invokestatic 99, 3) := by decide +kernel
theorem dL_law_499 : decode cL_law 499 = .ok (.istore 5, 2) := by decide +kernel
theorem dL_law_501 : decode cL_law 501 = .ok (.aload_n 2, 1) := by decide +kernel
theorem dL_law_502 : decode cL_law 502 = .ok (.aload_n 0, 1) := by decide +kernel
theorem dL_law_503 : decode cL_law 503 = .ok (.iload 4, 2) := by decide +kernel
theorem dL_law_505 : decode cL_law 505 = .ok (.iconst 1, 1) := by decide +kernel
theorem dL_law_506 : decode cL_law 506 = .ok (.iadd, 1) := by decide +kernel
theorem dL_law_507 : decode cL_law 507 = .ok (.iaload, 1) := by decide +kernel
theorem dL_law_508 : decode cL_law 508 = .ok (.aload_n 0, 1) := by decide +kernel
theorem dL_law_509 : decode cL_law 509 = .ok (.iload 4, 2) := by decide +kernel
theorem dL_law_511 : decode cL_law 511 = .ok (.iconst 2, 1) := by decide +kernel
theorem dL_law_512 : decode cL_law 512 = .ok (.iadd, 1) := by decide +kernel
theorem dL_law_513 : decode cL_law 513 = .ok (.iaload, 1) := by decide +kernel
theorem dL_law_514 : decode cL_law 514 = .ok (.invokevirtual 102, 3) := by decide +kernel
theorem dL_law_517 : decode cL_law 517 = .ok (.istore 6, 2) := by decide +kernel
theorem dL_law_519 : decode cL_law 519 = .ok (.aload_n 2, 1) := by decide +kernel
theorem dL_law_520 : decode cL_law 520 = .ok (.invokevirtual 61, 3) := by decide +kernel
theorem dL_law_523 : decode cL_law 523 = .ok (.iload 5, 2) := by decide +kernel
theorem dL_law_525 : decode cL_law 525 = .ok (.if_icmp .eq 5, 3) := by decide +kernel
theorem dL_law_528 : decode cL_law 528 = .ok (.iconst 0, 1) := by decide +kernel
theorem dL_law_529 : decode cL_law 529 = .ok (.ireturn, 1) := by decide +kernel
theorem dL_law_530 : decode cL_law 530 = .ok (.iload 5, 2) := by decide +kernel
theorem dL_law_532 : decode cL_law 532 = .ok (.ifCond .ne 15, 3) := by decide +kernel
theorem dL_law_535 : decode cL_law 535 = .ok (.aload_n 3, 1) := by decide +kernel
theorem dL_law_536 : decode cL_law 536 = .ok (.iconst 0, 1) := by decide +kernel
theorem dL_law_537 : decode cL_law 537 = .ok (.laload, 1) := by decide +kernel
theorem dL_law_538 : decode cL_law 538 = .ok (.iload 6, 2) := by decide +kernel
theorem dL_law_540 : decode cL_law 540 = .ok (.i2l, 1) := by decide +kernel
theorem dL_law_541 : decode cL_law 541 = .ok (.lcmp, 1) := by decide +kernel
theorem dL_law_542 : decode cL_law 542 = .ok (.ifCond .eq 5, 3) := by decide +kernel
theorem dL_law_545 : decode cL_law 545 = .ok (.iconst 0, 1) := by decide +kernel
theorem dL_law_546 : decode cL_law 546 = .ok (.ireturn, 1) := by decide +kernel
theorem dL_law_547 : decode cL_law 547 = .ok (.goto 268, 3) := by decide +kernel
theorem dL_law_550 : decode cL_law 550 = .ok (.aload_n 1, 1) := by decide +kernel
theorem dL_law_551 : decode cL_law 551 = .ok (.aload_n 3, 1) := by decide +kernel
theorem dL_law_552 : decode cL_law 552 = .ok (.invokestatic 103, 3) := by decide +kernel
theorem dL_law_555 : decode cL_law 555 = .ok (.istore 5, 2) := by decide +kernel
theorem dL_law_557 : decode cL_law 557 = .ok (.aload_n 2, 1) := by decide +kernel
theorem dL_law_558 : decode cL_law 558 = .ok (.invokevirtual 106, 3) := by decide +kernel
theorem dL_law_561 : decode cL_law 561 = .ok (.istore 6, 2) := by decide +kernel
theorem dL_law_563 : decode cL_law 563 = .ok (.aload_n 2, 1) := by decide +kernel
theorem dL_law_564 : decode cL_law 564 = .ok (.invokevirtual 61, 3) := by decide +kernel
theorem dL_law_567 : decode cL_law 567 = .ok (.iload 5, 2) := by decide +kernel
theorem dL_law_569 : decode cL_law 569 = .ok (.if_icmp .eq 5, 3) := by decide +kernel
theorem dL_law_572 : decode cL_law 572 = .ok (.iconst 0, 1) := by decide +kernel
theorem dL_law_573 : decode cL_law 573 = .ok (.ireturn, 1) := by decide +kernel
theorem dL_law_574 : decode cL_law 574 = .ok (.iload 5, 2) := by decide +kernel
theorem dL_law_576 : decode cL_law 576 = .ok (.ifCond .ne 15, 3) := by decide +kernel
theorem dL_law_579 : decode cL_law 579 = .ok (.aload_n 3, 1) := by decide +kernel
theorem dL_law_580 : decode cL_law 580 = .ok (.iconst 0, 1) := by decide +kernel
theorem dL_law_581 : decode cL_law 581 = .ok (.laload, 1) := by decide +kernel
theorem dL_law_582 : decode cL_law 582 = .ok (.iload 6, 2) := by decide +kernel
theorem dL_law_584 : decode cL_law 584 = .ok (.i2l, 1) := by decide +kernel
theorem dL_law_585 : decode cL_law 585 = .ok (.lcmp, 1) := by decide +kernel
theorem dL_law_586 : decode cL_law 586 = .ok (.ifCond .eq 5, 3) := by decide +kernel
theorem dL_law_589 : decode cL_law 589 = .ok (.iconst 0, 1) := by decide +kernel
theorem dL_law_590 : decode cL_law 590 = .ok (.ireturn, 1) := by decide +kernel
theorem dL_law_591 : decode cL_law 591 = .ok (.goto 224, 3) := by decide +kernel
theorem dL_law_594 : decode cL_law 594 = .ok (.aload_n 1, 1) := by decide +kernel
theorem dL_law_595 : decode cL_law 595 = .ok (.invokevirtual 107, 3) := by decide +kernel
theorem dL_law_598 : decode cL_law 598 = .ok (.aload_n 2, 1) := by decide +kernel
theorem dL_law_599 : decode cL_law 599 = .ok (.invokevirtual 110, 3) := by decide +kernel
theorem dL_law_602 : decode cL_law 602 = .ok (.if_icmp .eq 213, 3) := by decide +kernel
theorem dL_law_605 : decode cL_law 605 = .ok (.iconst 0, 1) := by decide +kernel
theorem dL_law_606 : decode cL_law 606 = .ok (.ireturn, 1) := by decide +kernel
theorem dL_law_607 : decode cL_law 607 = .ok (.aload_n 1, 1) := by decide +kernel
theorem dL_law_608 : decode cL_law 608 = .ok (.aload_n 0, 1) := by decide +kernel
theorem dL_law_609 : decode cL_law 609 = .ok (.iload 4, 2) := by decide +kernel
theorem dL_law_611 : decode cL_law 611 = .ok (.iconst 1, 1) := by decide +kernel
theorem dL_law_612 : decode cL_law 612 = .ok (.iadd, 1) := by decide +kernel
theorem dL_law_613 : decode cL_law 613 = .ok (.iaload, 1) := by decide +kernel
theorem dL_law_614 : decode cL_law 614 = .ok (.i2l, 1) := by decide +kernel
theorem dL_law_615 : decode cL_law 615 = .ok (.bipush 32, 2) := by decide +kernel
theorem dL_law_617 : decode cL_law 617 = .ok (.lshl, 1) := by decide +kernel
theorem dL_law_618 : decode cL_law 618 = .ok (.aload_n 0, 1) := by decide +kernel
theorem dL_law_619 : decode cL_law 619 = .ok (.iload 4, 2) := by decide +kernel
theorem dL_law_621 : decode cL_law 621 = .ok (.iconst 2, 1) := by decide +kernel
theorem dL_law_622 : decode cL_law 622 = .ok (.iadd, 1) := by decide +kernel
theorem dL_law_623 : decode cL_law 623 = .ok (.iaload, 1) := by decide +kernel
theorem dL_law_624 : decode cL_law 624 = .ok (.i2l, 1) := by decide +kernel
theorem dL_law_625 : decode cL_law 625 = .ok (.ldc2_w 53, 3) := by decide +kernel
theorem dL_law_628 : decode cL_law 628 = .ok (.land, 1) := by decide +kernel
theorem dL_law_629 : decode cL_law 629 = .ok (.lor, 1) := by decide +kernel
theorem dL_law_630 : decode cL_law 630 = .ok (.aload_n 0, 1) := by decide +kernel
theorem dL_law_631 : decode cL_law 631 = .ok (.iload 4, 2) := by decide +kernel
theorem dL_law_633 : decode cL_law 633 = .ok (.iconst 3, 1) := by decide +kernel
theorem dL_law_634 : decode cL_law 634 = .ok (.iadd, 1) := by decide +kernel
theorem dL_law_635 : decode cL_law 635 = .ok (.iaload, 1) := by decide +kernel
theorem dL_law_636 : decode cL_law 636 = .ok (.invokevirtual 111, 3) := by decide +kernel
theorem dL_law_639 : decode cL_law 639 = .ok (.aload_n 2, 1) := by decide +kernel
theorem dL_law_640 : decode cL_law 640 = .ok (.aload_n 0, 1) := by decide +kernel
theorem dL_law_641 : decode cL_law 641 = .ok (.iload 4, 2) := by decide +kernel
theorem dL_law_643 : decode cL_law 643 = .ok (.iconst 1, 1) := by decide +kernel
theorem dL_law_644 : decode cL_law 644 = .ok (.iadd, 1) := by decide +kernel
theorem dL_law_645 : decode cL_law 645 = .ok (.iaload, 1) := by decide +kernel
theorem dL_law_646 : decode cL_law 646 = .ok (.i2l, 1) := by decide +kernel
theorem dL_law_647 : decode cL_law 647 = .ok (.bipush 32, 2) := by decide +kernel
theorem dL_law_649 : decode cL_law 649 = .ok (.lshl, 1) := by decide +kernel
theorem dL_law_650 : decode cL_law 650 = .ok (.aload_n 0, 1) := by decide +kernel
theorem dL_law_651 : decode cL_law 651 = .ok (.iload 4, 2) := by decide +kernel
theorem dL_law_653 : decode cL_law 653 = .ok (.iconst 2, 1) := by decide +kernel
theorem dL_law_654 : decode cL_law 654 = .ok (.iadd, 1) := by decide +kernel
theorem dL_law_655 : decode cL_law 655 = .ok (.iaload, 1) := by decide +kernel
theorem dL_law_656 : decode cL_law 656 = .ok (.i2l, 1) := by decide +kernel
theorem dL_law_657 : decode cL_law 657 = .ok (.ldc2_w 53, 3) := by decide +kernel
theorem dL_law_660 : decode cL_law 660 = .ok (.land, 1) := by decide +kernel
theorem dL_law_661 : decode cL_law 661 = .ok (.lor, 1) := by decide +kernel
theorem dL_law_662 : decode cL_law 662 = .ok (.aload_n 0, 1) := by decide +kernel
theorem dL_law_663 : decode cL_law 663 = .ok (.iload 4, 2) := by decide +kernel
theorem dL_law_665 : decode cL_law 665 = .ok (.iconst 3, 1) := by decide +kernel
theorem dL_law_666 : decode cL_law 666 = .ok (.iadd, 1) := by decide +kernel
theorem dL_law_667 : decode cL_law 667 = .ok (.iaload, 1) := by decide +kernel
theorem dL_law_668 : decode cL_law 668 = .ok (.invokevirtual 115, 3) := by decide +kernel
theorem dL_law_671 : decode cL_law 671 = .ok (.if_icmp .eq 144, 3) := by decide +kernel
theorem dL_law_674 : decode cL_law 674 = .ok (.iconst 0, 1) := by decide +kernel
theorem dL_law_675 : decode cL_law 675 = .ok (.ireturn, 1) := by decide +kernel
theorem dL_law_676 : decode cL_law 676 = .ok (.aload_n 1, 1) := by decide +kernel
theorem dL_law_677 : decode cL_law 677 = .ok (.invokevirtual 116, 3) := by decide +kernel
theorem dL_law_680 : decode cL_law 680 = .ok (.aload_n 2, 1) := by decide +kernel
theorem dL_law_681 : decode cL_law 681 = .ok (.invokevirtual 119, 3) := by decide +kernel
theorem dL_law_684 : decode cL_law 684 = .ok (.goto 131, 3) := by decide +kernel
theorem dL_law_687 : decode cL_law 687 = .ok (.aload_n 1, 1) := by decide +kernel
theorem dL_law_688 : decode cL_law 688 = .ok (.aload_n 0, 1) := by decide +kernel
theorem dL_law_689 : decode cL_law 689 = .ok (.iload 4, 2) := by decide +kernel
theorem dL_law_691 : decode cL_law 691 = .ok (.iconst 1, 1) := by decide +kernel
theorem dL_law_692 : decode cL_law 692 = .ok (.iadd, 1) := by decide +kernel
theorem dL_law_693 : decode cL_law 693 = .ok (.iaload, 1) := by decide +kernel
theorem dL_law_694 : decode cL_law 694 = .ok (.aload_n 0, 1) := by decide +kernel
theorem dL_law_695 : decode cL_law 695 = .ok (.iload 4, 2) := by decide +kernel
theorem dL_law_697 : decode cL_law 697 = .ok (.iconst 2, 1) := by decide +kernel
theorem dL_law_698 : decode cL_law 698 = .ok (.iadd, 1) := by decide +kernel
theorem dL_law_699 : decode cL_law 699 = .ok (.iaload, 1) := by decide +kernel
theorem dL_law_700 : decode cL_law 700 = .ok (.aload_n 3, 1) := by decide +kernel
theorem dL_law_701 : decode cL_law 701 = .ok (.invokestatic 120, 3) := by decide +kernel
theorem dL_law_704 : decode cL_law 704 = .ok (.istore 5, 2) := by decide +kernel
theorem dL_law_706 : decode cL_law 706 = .ok (.aload_n 2, 1) := by decide +kernel
theorem dL_law_707 : decode cL_law 707 = .ok (.aload_n 0, 1) := by decide +kernel
theorem dL_law_708 : decode cL_law 708 = .ok (.iload 4, 2) := by decide +kernel
theorem dL_law_710 : decode cL_law 710 = .ok (.iconst 1, 1) := by decide +kernel
theorem dL_law_711 : decode cL_law 711 = .ok (.iadd, 1) := by decide +kernel
theorem dL_law_712 : decode cL_law 712 = .ok (.iaload, 1) := by decide +kernel
theorem dL_law_713 : decode cL_law 713 = .ok (.aload_n 0, 1) := by decide +kernel
theorem dL_law_714 : decode cL_law 714 = .ok (.iload 4, 2) := by decide +kernel
theorem dL_law_716 : decode cL_law 716 = .ok (.iconst 2, 1) := by decide +kernel
theorem dL_law_717 : decode cL_law 717 = .ok (.iadd, 1) := by decide +kernel
theorem dL_law_718 : decode cL_law 718 = .ok (.iaload, 1) := by decide +kernel
theorem dL_law_719 : decode cL_law 719 = .ok (.invokevirtual 122, 3) := by decide +kernel
theorem dL_law_722 : decode cL_law 722 = .ok (.istore 6, 2) := by decide +kernel
theorem dL_law_724 : decode cL_law 724 = .ok (.aload_n 2, 1) := by decide +kernel
theorem dL_law_725 : decode cL_law 725 = .ok (.invokevirtual 61, 3) := by decide +kernel
theorem dL_law_728 : decode cL_law 728 = .ok (.iload 5, 2) := by decide +kernel
theorem dL_law_730 : decode cL_law 730 = .ok (.if_icmp .eq 5, 3) := by decide +kernel
theorem dL_law_733 : decode cL_law 733 = .ok (.iconst 0, 1) := by decide +kernel
theorem dL_law_734 : decode cL_law 734 = .ok (.ireturn, 1) := by decide +kernel
theorem dL_law_735 : decode cL_law 735 = .ok (.iload 5, 2) := by decide +kernel
theorem dL_law_737 : decode cL_law 737 = .ok (.ifCond .ne 15, 3) := by decide +kernel
theorem dL_law_740 : decode cL_law 740 = .ok (.aload_n 3, 1) := by decide +kernel
theorem dL_law_741 : decode cL_law 741 = .ok (.iconst 0, 1) := by decide +kernel
theorem dL_law_742 : decode cL_law 742 = .ok (.laload, 1) := by decide +kernel
theorem dL_law_743 : decode cL_law 743 = .ok (.iload 6, 2) := by decide +kernel
theorem dL_law_745 : decode cL_law 745 = .ok (.i2l, 1) := by decide +kernel
theorem dL_law_746 : decode cL_law 746 = .ok (.lcmp, 1) := by decide +kernel
theorem dL_law_747 : decode cL_law 747 = .ok (.ifCond .eq 5, 3) := by decide +kernel
theorem dL_law_750 : decode cL_law 750 = .ok (.iconst 0, 1) := by decide +kernel
theorem dL_law_751 : decode cL_law 751 = .ok (.ireturn, 1) := by decide +kernel
theorem dL_law_752 : decode cL_law 752 = .ok (.goto 63, 3) := by decide +kernel
theorem dL_law_755 : decode cL_law 755 = .ok (.aload_n 1, 1) := by decide +kernel
theorem dL_law_756 : decode cL_law 756 = .ok (.invokestatic 123, 3) := by decide +kernel
theorem dL_law_759 : decode cL_law 759 = .ok (.istore 5, 2) := by decide +kernel
theorem dL_law_761 : decode cL_law 761 = .ok (.aload_n 2, 1) := by decide +kernel
theorem dL_law_762 : decode cL_law 762 = .ok (.invokevirtual 126, 3) := by decide +kernel
theorem dL_law_765 : decode cL_law 765 = .ok (.aload_n 2, 1) := by decide +kernel
theorem dL_law_766 : decode cL_law 766 = .ok (.invokevirtual 61, 3) := by decide +kernel
theorem dL_law_769 : decode cL_law 769 = .ok (.iload 5, 2) := by decide +kernel
theorem dL_law_771 : decode cL_law 771 = .ok (.if_icmp .eq 5, 3) := by decide +kernel
theorem dL_law_774 : decode cL_law 774 = .ok (.iconst 0, 1) := by decide +kernel
theorem dL_law_775 : decode cL_law 775 = .ok (.ireturn, 1) := by decide +kernel
theorem dL_law_776 : decode cL_law 776 = .ok (.goto 39, 3) := by decide +kernel
theorem dL_law_779 : decode cL_law 779 = .ok (.aload_n 1, 1) := by decide +kernel
theorem dL_law_780 : decode cL_law 780 = .ok (.aload_n 0, 1) := by decide +kernel
theorem dL_law_781 : decode cL_law 781 = .ok (.iload 4, 2) := by decide +kernel
theorem dL_law_783 : decode cL_law 783 = .ok (.iconst 1, 1) := by decide +kernel
theorem dL_law_784 : decode cL_law 784 = .ok (.iadd, 1) := by decide +kernel
theorem dL_law_785 : decode cL_law 785 = .ok (.iaload, 1) := by decide +kernel
theorem dL_law_786 : decode cL_law 786 = .ok (.invokestatic 127, 3) := by decide +kernel
theorem dL_law_789 : decode cL_law 789 = .ok (.istore 5, 2) := by decide +kernel
theorem dL_law_791 : decode cL_law 791 = .ok (.aload_n 2, 1) := by decide +kernel
theorem dL_law_792 : decode cL_law 792 = .ok (.aload_n 0, 1) := by decide +kernel
theorem dL_law_793 : decode cL_law 793 = .ok (.iload 4, 2) := by decide +kernel
theorem dL_law_795 : decode cL_law 795 = .ok (.iconst 1, 1) := by decide +kernel
theorem dL_law_796 : decode cL_law 796 = .ok (.iadd, 1) := by decide +kernel
theorem dL_law_797 : decode cL_law 797 = .ok (.iaload, 1) := by decide +kernel
theorem dL_law_798 : decode cL_law 798 = .ok (.invokevirtual 130, 3) := by decide +kernel
theorem dL_law_801 : decode cL_law 801 = .ok (.aload_n 2, 1) := by decide +kernel
theorem dL_law_802 : decode cL_law 802 = .ok (.invokevirtual 61, 3) := by decide +kernel
theorem dL_law_805 : decode cL_law 805 = .ok (.iload 5, 2) := by decide +kernel
theorem dL_law_807 : decode cL_law 807 = .ok (.if_icmp .eq 5, 3) := by decide +kernel
theorem dL_law_810 : decode cL_law 810 = .ok (.iconst 0, 1) := by decide +kernel
theorem dL_law_811 : decode cL_law 811 = .ok (.ireturn, 1) := by decide +kernel
theorem dL_law_812 : decode cL_law 812 = .ok (.goto 3, 3) := by decide +kernel
theorem dL_law_815 : decode cL_law 815 = .ok (.iinc 4 4, 3) := by decide +kernel
theorem dL_law_818 : decode cL_law 818 = .ok (.goto (-795), 3) := by decide +kernel
theorem dL_law_821 : decode cL_law 821 = .ok (.iconst 1, 1) := by decide +kernel
theorem dL_law_822 : decode cL_law 822 = .ok (.ireturn, 1) := by decide +kernel
end
section
/-! THE PACKED JUDGEMENT: a heap as a partial map, a method's body as q_X, a method's contract as q_SP -/
section QBase
abbrev q_C : Type := vp_A ⊕ (Nat × List Value)
abbrev q_H : Type := Nat → Option q_C
abbrev k_ar (N : Nat) (f : Nat → Int32) : q_C := .inl (N, .inl f)
abbrev k_al (N : Nat) (f : Nat → Int64) : q_C := .inl (N, .inr (.inl f))
abbrev k_ob (ci : Nat) (fs : List Value) : q_C := .inr (ci, fs)
def q_E (cI cL : ClassId) (e : q_C) : va_E := match e with
  | .inl (n, .inl f) => .inl (cI, n, .inl f)
  | .inl (n, .inr x) => .inl (cL, n, .inr x)
  | .inr o => .inr o
/-- launch and start; class numbers and slots; the classes int[] and long[]; the String constants and their rows; the script -/
abbrev q_G : Type := (Launch × State) × va_G × (ClassId × ClassId) × ((Nat → Nat) × (Nat → Nat)) × (Nat × Nat × (Nat → Int32))
abbrev q_l (G : q_G) : Launch := G.1.1
abbrev q_s (G : q_G) : State := G.1.2
abbrev q_D (G : q_G) : va_G := G.2.1
abbrev q_cI (G : q_G) : ClassId := G.2.2.1.1
abbrev q_cL (G : q_G) : ClassId := G.2.2.1.2
abbrev q_aK (G : q_G) : Nat → Nat := G.2.2.2.1.1
abbrev q_aV (G : q_G) : Nat → Nat := G.2.2.2.1.2
abbrev q_b (G : q_G) : Nat := G.2.2.2.2.1
abbrev q_L (G : q_G) : Nat := G.2.2.2.2.2.1
abbrev q_xs (G : q_G) : Nat → Int32 := G.2.2.2.2.2.2
def q_A (G : q_G) : Nat → Prop := fun q => (q_s G).heap.size ≤ q
def q_tys (G : q_G) : List (ClassId × FieldType) := [(q_cI G, .int), (q_cL G, .long)]
/-- the String constants: class, entry, text -/
def q_str : List (String × Nat × String) := [(RX3, 72, "GET "), (RX3, 78, " HTTP/1.1"), (RX3, 107, "host"), (RX3, 109, "upgrade"), (RX3, 111, "connection"), (RX3, 113, "sec-websocket-key"), (RX3, 115, "sec-websocket-version"), (RX3, 129, "websocket"), (RX3, 137, "=="), (RX3, 51, "13"), (RX6, 168, "HTTP/1.1 101 Switching Protocols\r\nUpgrade: websocket\r\nConnection: Upgrade\r\nSec-WebSocket-Accept: "), (RX2, 33, "258EAFA5-E914-47DA-95CA-C5AB0DC85B11"), (RX2, 89, "ABCDEFGHIJKLMNOPQRSTUVWXYZabcdefghijklmnopqrstuvwxyz0123456789+/"), (RX6, 181, "\r\n\r\n"), (RX6, 183, "HTTP/1.1 426 Upgrade Required\r\nSec-WebSocket-Version: 13\r\n\r\n"), (RX6, 185, "HTTP/1.1 400 Bad Request\r\n\r\n")]
def q_len : List Nat := [4, 9, 4, 7, 10, 17, 21, 9, 2, 2, 97, 36, 64, 4, 60, 28]
def q_byt : List (List Int32) := [[71, 69, 84, 32], [32, 72, 84, 84, 80, 47, 49, 46, 49], [104, 111, 115, 116], [117, 112, 103, 114, 97, 100, 101], [99, 111, 110, 110, 101, 99, 116, 105, 111, 110], [115, 101, 99, 45, 119, 101, 98, 115, 111, 99, 107, 101, 116, 45, 107, 101, 121], [115, 101, 99, 45, 119, 101, 98, 115, 111, 99, 107, 101, 116, 45, 118, 101, 114, 115, 105, 111, 110], [119, 101, 98, 115, 111, 99, 107, 101, 116], [61, 61], [49, 51], [72, 84, 84, 80, 47, 49, 46, 49, 32, 49, 48, 49, 32, 83, 119, 105, 116, 99, 104, 105, 110, 103, 32, 80, 114, 111, 116, 111, 99, 111, 108, 115, 13, 10, 85, 112, 103, 114, 97, 100, 101, 58, 32, 119, 101, 98, 115, 111, 99, 107, 101, 116, 13, 10, 67, 111, 110, 110, 101, 99, 116, 105, 111, 110, 58, 32, 85, 112, 103, 114, 97, 100, 101, 13, 10, 83, 101, 99, 45, 87, 101, 98, 83, 111, 99, 107, 101, 116, 45, 65, 99, 99, 101, 112, 116, 58, 32], [50, 53, 56, 69, 65, 70, 65, 53, 45, 69, 57, 49, 52, 45, 52, 55, 68, 65, 45, 57, 53, 67, 65, 45, 67, 53, 65, 66, 48, 68, 67, 56, 53, 66, 49, 49], [65, 66, 67, 68, 69, 70, 71, 72, 73, 74, 75, 76, 77, 78, 79, 80, 81, 82, 83, 84, 85, 86, 87, 88, 89, 90, 97, 98, 99, 100, 101, 102, 103, 104, 105, 106, 107, 108, 109, 110, 111, 112, 113, 114, 115, 116, 117, 118, 119, 120, 121, 122, 48, 49, 50, 51, 52, 53, 54, 55, 56, 57, 43, 47], [13, 10, 13, 10], [72, 84, 84, 80, 47, 49, 46, 49, 32, 52, 50, 54, 32, 85, 112, 103, 114, 97, 100, 101, 32, 82, 101, 113, 117, 105, 114, 101, 100, 13, 10, 83, 101, 99, 45, 87, 101, 98, 83, 111, 99, 107, 101, 116, 45, 86, 101, 114, 115, 105, 111, 110, 58, 32, 49, 51, 13, 10, 13, 10], [72, 84, 84, 80, 47, 49, 46, 49, 32, 52, 48, 48, 32, 66, 97, 100, 32, 82, 101, 113, 117, 101, 115, 116, 13, 10, 13, 10]]
def q_ok (G : q_G) : Prop := va_K (q_D G) vwCl (q_tys G) (q_s G)
  ∧ vk_S 16 q_len q_byt (q_aK G) (q_aV G) (q_A G) (q_s G) (q_s G).heap
  ∧ (∀ (i : Nat) (z : String × Nat × String), q_str[i]? = some z → vk_R z.1 z.2.1 z.2.2 (q_aK G i) (q_s G))
  ∧ va_Z "java/lang/String" "COMPACT_STRINGS" "Z" (.int 1) (q_A G) (q_s G) (q_s G).heap
  ∧ vx_Zq Bundle.tN "UNASSIGNED_STACK" Bundle.steD (q_A G) (q_s G) (q_s G).heap
  ∧ vx_Zq Bundle.tN "SUPPRESSED_SENTINEL" Bundle.listD (q_A G) (q_s G) (q_s G).heap
  ∧ (q_l G).stackTraces = false
  ∧ (va_Nw (.methodLinkNest RX1 29 yX4_init RX6) (q_s G) ∧ va_Nw (.methodLinkNest RX6 44 yX4_init RX6) (q_s G) ∧ va_Nw (.methodLinkNest RX1 132 yX6_mayStandInClose RX6) (q_s G))
  ∧ va_X (q_b G) (q_L G) (q_xs G) (q_s G) (q_s G).heap ∧ q_b G < (q_s G).heap.size
/-- the heap H holds h; nothing below the start's end has changed -/
def q_P (G : q_G) (h : q_H) (H : Heap) : Prop := (∀ (a : Nat) (e : q_C), h a = some e → va_at (q_D G) vwCl (a, q_E (q_cI G) (q_cL G) e) H ∧ q_A G a) ∧ va_S (q_A G) (q_s G).heap H []
/-- the words that every method of ours is called with -/
def q_TB : List Cond := lw_tbl.filter goodWord
/-- a method: name, bytes, locals, answer, frames, words of locals below it, its table -/
abbrev q_M : Type := MethodName × ByteArray × Nat × Option FieldType × Nat × Nat × List (Nat × Nat × Nat × Nat)
abbrev q_y (M : q_M) : MethodName := M.1
abbrev q_cc (M : q_M) : ByteArray := M.2.1
abbrev q_nL (M : q_M) : Nat := M.2.2.1
abbrev q_ret (M : q_M) : Option FieldType := M.2.2.2.1
abbrev q_fr (M : q_M) : Nat := M.2.2.2.2.1
abbrev q_lo (M : q_M) : Nat := M.2.2.2.2.2.1
abbrev q_hh (M : q_M) : List (Nat × Nat × Nat × Nat) := M.2.2.2.2.2.2
abbrev q_hd (M : q_M) : Cond := .code (q_y M) (q_cc M) (q_nL M) (q_ret M)
abbrev q_ws (M : q_M) : List Cond := q_hd M :: q_TB
abbrev q_wsH (M : q_M) : List Cond := .codeWith (q_y M) (q_cc M) (q_nL M) (q_ret M) (q_hh M) :: q_TB
abbrev q_R (M : q_M) (mc ms : Nat) : Room := { frames := q_fr M, cells := mc, slots := ms, locals := q_lo M }
def q_X0 (G : q_G) (M : q_M) (p : Program) (s : State) (m : MethodId) (args : Array Value) (meth : Method) (c : Code) : Prop :=
  p.tables.exec = Jvm.exec ∧ c.code = q_cc M ∧ c.maxLocals = q_nL M ∧ s.vm.findClass (q_y M).cls = some m.cls ∧ (∀ w ∈ q_TB, w.before args s = true) ∧ meth.sig.returnType = q_ret M ∧ meth.locks = false ∧ meth.name = (q_y M).name
  ∧ (q_s G).WarmedH s.vm ∧ va_S (q_A G) (q_s G).heap s.heap [] ∧ c.exceptionTable.toList = tableOf (q_hh M) ∧ q_ok G
abbrev q_F : Type := State → Array Value → List Frame → State → Prop
def q_X (G : q_G) (M : q_M) (R : Room) (F : q_F) (pc : Nat) (lv : List (Nat × Value)) (st : List Value) (h : q_H) (cells slots : Nat) : Prop :=
  ∀ (p : Program) (e : Env) (s : State) (m : MethodId) (args : Array Value) (below : List Frame) (meth : Method) (c : Code) (H : Heap) (locs : List Loc) (ls : Array Slot),
    q_X0 G M p s m args meth c → q_P G h H → va_S (q_A G) s.heap H locs → lv_has ls (q_nL M) lv →
    W p (q_l G) e R s m args below meth c H locs cells slots (F s args below) (F0 m pc ls st)
abbrev q_Q : Type := Option Value → q_H → Prop
def q_Qc (G : q_G) (Q : q_Q) : Array Value → State → Outcome → State → Prop := fun _ st o t => ∃ (r : Option Value) (h' : q_H), o = .returned r ∧ Q r h' ∧ q_P G h' t.heap ∧ st.heap.size ≤ t.heap.size
def q_Xc (G : q_G) (QX : String → q_H → Prop) : String → State → State → Prop := fun E st t => ∃ h' : q_H, QX E h' ∧ q_P G h' t.heap ∧ st.heap.size ≤ t.heap.size
def q_Pc (G : q_G) (as : List Value) (h : q_H) : Array Value → State → Prop := fun a U => a = as.toArray ∧ (q_s G).WarmedH U.vm ∧ q_P G h U.heap ∧ q_ok G
/-- the final state of a body that returns -/
def q_FN (G : q_G) (Q : q_Q) (mc ms : Nat) : q_F := fun s args below => MQ below (q_Qc G Q) args s mc ms (q_A G)
/-- the final state of a body that returns or throws -/
def q_FX (G : q_G) (Q : q_Q) (QX : String → q_H → Prop) (mc ms : Nat) : q_F := fun s args below => vx_MQ below (q_Qc G Q) (q_Xc G QX) args s mc ms (q_A G)
/-- a method's contract: called with these arguments from the heap h, it returns and Q holds; at most mc cells of ms slots are new -/
def q_SP (G : q_G) (M : q_M) (as : List Value) (h : q_H) (mc ms : Nat) (Q : q_Q) : Prop :=
  Met (q_l G) (q_y M) (q_ws M) (q_R M mc ms) (q_Pc G as h) (q_Qc G Q) mc ms (q_A G)
/-- the same of one that may throw -/
def q_SX (G : q_G) (M : q_M) (as : List Value) (h : q_H) (mc ms : Nat) (Q : q_Q) (QX : String → q_H → Prop) : Prop :=
  vx_Met (q_l G) (q_y M) (q_ws M) (q_R M mc ms) (q_Pc G as h) (q_Qc G Q) (q_Xc G QX) mc ms (q_A G)
/-! locals -/
def q_get : List (Nat × Value) → Nat → Option Value
  | [], _ => none
  | q :: l, i => bif q.1 == i then some q.2 else q_get l i
def q_rep (i : Nat) (v : Value) : List (Nat × Value) → List (Nat × Value)
  | [] => []
  | q :: l => (bif q.1 == i then (i, v) else q) :: q_rep i v l
def q_in (i : Nat) : List (Nat × Value) → Bool
  | [] => false
  | q :: l => bif q.1 == i then true else q_in i l
def q_set (l : List (Nat × Value)) (i : Nat) (v : Value) : List (Nat × Value) := bif q_in i l then q_rep i v l else l ++ [(i, v)]
def q_fit1 (i : Nat) : List (Nat × Value) → Bool
  | [] => true
  | q :: l => !(q.1 + 1 == i && q.2.category == 2) && q_fit1 i l
def q_fit2 (i : Nat) : List (Nat × Value) → Bool
  | [] => true
  | q :: l => !(q.1 + 1 == i && q.2.category == 2) && !(q.1 == i + 1) && q_fit2 i l
theorem q_get_at {ls : Array Slot} {nL i : Nat} {lv : List (Nat × Value)} {v : Value} (hl : lv_has ls nL lv) (h : q_get lv i = some v) : ls[i]? = some (.val v) := by
  have key : ∀ l : List (Nat × Value), q_get l i = some v → (i, v) ∈ l := by
    intro l
    induction l with
    | nil => intro h; cases h
    | cons q l ih =>
      intro h
      unfold q_get at h
      by_cases hq : q.1 = i
      · rw [show (q.1 == i) = true by simpa using hq] at h
        cases h
        rw [← hq]
        exact List.mem_cons_self
      · rw [show (q.1 == i) = false by simpa using hq] at h
        exact List.mem_cons_of_mem _ (ih h)
  exact hl.2.2 (i, v) (key lv h)
theorem q_rep_mem {i : Nat} {v : Value} {q : Nat × Value} : ∀ l : List (Nat × Value), q ∈ q_rep i v l → q = (i, v) ∨ (q ∈ l ∧ q.1 ≠ i) := by
  intro l
  induction l with
  | nil => intro h; cases h
  | cons x l ih =>
    intro h
    rcases List.mem_cons.mp h with h | h
    · by_cases hx : x.1 = i
      · rw [show (x.1 == i) = true by simpa using hx] at h
        exact Or.inl h
      · rw [show (x.1 == i) = false by simpa using hx] at h
        subst h
        exact Or.inr ⟨List.mem_cons_self, hx⟩
    · rcases ih h with h | ⟨h1, h2⟩
      · exact Or.inl h
      · exact Or.inr ⟨List.mem_cons_of_mem _ h1, h2⟩
theorem q_in_no {i : Nat} : ∀ l : List (Nat × Value), q_in i l = false → ∀ q ∈ l, q.1 ≠ i := by
  intro l
  induction l with
  | nil => intro _ q h; cases h
  | cons x l ih =>
    intro h q hq
    unfold q_in at h
    by_cases hx : x.1 = i
    · rw [show (x.1 == i) = true by simpa using hx] at h
      cases h
    · rw [show (x.1 == i) = false by simpa using hx] at h
      rcases List.mem_cons.mp hq with rfl | hq
      · exact hx
      · exact ih h q hq
theorem q_set_mem {i : Nat} {v : Value} {l : List (Nat × Value)} {q : Nat × Value} (h : q ∈ q_set l i v) : q = (i, v) ∨ (q ∈ l ∧ q.1 ≠ i) := by
  unfold q_set at h
  cases hi : q_in i l with
  | true => rw [hi] at h; exact q_rep_mem l h
  | false =>
    rw [hi] at h
    rcases List.mem_append.mp h with h | h
    · exact Or.inr ⟨h, q_in_no l hi q h⟩
    · exact Or.inl (List.mem_singleton.mp h)
theorem q_fit1_at {i : Nat} : ∀ l : List (Nat × Value), q_fit1 i l = true → ∀ q ∈ l, (q.1 + 1 == i && q.2.category == 2) = false := by
  intro l
  induction l with
  | nil => intro _ q h; cases h
  | cons x l ih =>
    intro h q hq
    unfold q_fit1 at h
    rw [Bool.and_eq_true] at h
    rcases List.mem_cons.mp hq with rfl | hq
    · have z := h.1
      rwa [Bool.not_eq_true'] at z
    · exact ih h.2 q hq
theorem q_fit2_at {i : Nat} : ∀ l : List (Nat × Value), q_fit2 i l = true → ∀ q ∈ l, (q.1 + 1 == i && q.2.category == 2) = false ∧ (q.1 == i + 1) = false := by
  intro l
  induction l with
  | nil => intro _ q h; cases h
  | cons x l ih =>
    intro h q hq
    unfold q_fit2 at h
    rw [Bool.and_eq_true, Bool.and_eq_true] at h
    rcases List.mem_cons.mp hq with rfl | hq
    · exact ⟨by have z := h.1.1; rwa [Bool.not_eq_true'] at z, by have z := h.1.2; rwa [Bool.not_eq_true'] at z⟩
    · exact ih h.2 q hq
theorem q_has1 {ls : Array Slot} {nL i : Nat} {v : Value} {lv : List (Nat × Value)} (hf : q_fit1 i lv = true) (h : lv_has ls nL ((i, v) :: lv.filter (fun q => !(q.1 == i) && !(q.1 + 1 == i && q.2.category == 2)))) : lv_has ls nL (q_set lv i v) := by
  refine ⟨h.1, h.2.1, fun q hq => h.2.2 q ?_⟩
  rcases q_set_mem hq with rfl | ⟨h1, h2⟩
  · exact List.mem_cons_self
  · refine List.mem_cons_of_mem _ (List.mem_filter.mpr ⟨h1, ?_⟩)
    rw [q_fit1_at lv hf q h1, show (q.1 == i) = false by simpa using h2]
    rfl
theorem q_has2 {ls : Array Slot} {nL i : Nat} {v : Value} {lv : List (Nat × Value)} (hf : q_fit2 i lv = true) (h : lv_has ls nL ((i, v) :: lv.filter (fun q => !(q.1 == i) && (!(q.1 == i + 1) && !(q.1 + 1 == i && q.2.category == 2))))) : lv_has ls nL (q_set lv i v) := by
  refine ⟨h.1, h.2.1, fun q hq => h.2.2 q ?_⟩
  rcases q_set_mem hq with rfl | ⟨h1, h2⟩
  · exact List.mem_cons_self
  · refine List.mem_cons_of_mem _ (List.mem_filter.mpr ⟨h1, ?_⟩)
    obtain ⟨f1, f2⟩ := q_fit2_at lv hf q h1
    rw [f1, f2, show (q.1 == i) = false by simpa using h2]
    rfl
end QBase
section QRows
variable {G : q_G} {M : q_M} {R : Room} {F : q_F} {pc : Nat} {lv : List (Nat × Value)} {st : List Value} {h : q_H} {cells slots : Nat}
/-- fewer locals -/
theorem x_lv (lv' : List (Nat × Value)) (hs : ∀ q ∈ lv', q ∈ lv) (k : q_X G M R F pc lv' st h cells slots) : q_X G M R F pc lv st h cells slots := by
  intro p e s m args below meth c H locs ls C0 hP hS hl
  exact k p e s m args below meth c H locs ls C0 hP hS ⟨hl.1, hl.2.1, fun q hq => hl.2.2 q (hs q hq)⟩
/-- more room used -/
theorem x_widen (c' s' : Nat) (h1 : cells ≤ c') (h2 : slots ≤ s') (k : q_X G M R F pc lv st h c' s') : q_X G M R F pc lv st h cells slots := by
  intro p e s m args below meth c H locs ls C0 hP hS hl
  exact W.widen h1 h2 (k p e s m args below meth c H locs ls C0 hP hS hl)
theorem x_iconst {n : Int} (v : Int32) (hd : decode (q_cc M) pc = .ok (.iconst n, 1)) (hv : Int32.ofInt n = v) (k : q_X G M R F (pc + 1) lv (.int v :: st) h cells slots) : q_X G M R F pc lv st h cells slots := by
  intro p e s m args below meth c H locs ls C0 hP hS hl
  exact lv_iconst C0.1 C0.2.1 hd hv (k p e s m args below meth c H locs ls C0 hP hS hl)
theorem x_bipush {n : Int} (v : Int32) (hd : decode (q_cc M) pc = .ok (.bipush n, 2)) (hv : (Int8.ofInt n).toInt32 = v) (k : q_X G M R F (pc + 2) lv (.int v :: st) h cells slots) : q_X G M R F pc lv st h cells slots := by
  intro p e s m args below meth c H locs ls C0 hP hS hl
  exact lv_bipush C0.1 C0.2.1 hd hv (k p e s m args below meth c H locs ls C0 hP hS hl)
theorem x_sipush {n : Int} (v : Int32) (hd : decode (q_cc M) pc = .ok (.sipush n, 3)) (hv : (Int16.ofInt n).toInt32 = v) (k : q_X G M R F (pc + 3) lv (.int v :: st) h cells slots) : q_X G M R F pc lv st h cells slots := by
  intro p e s m args below meth c H locs ls C0 hP hS hl
  exact lv_sipush C0.1 C0.2.1 hd hv (k p e s m args below meth c H locs ls C0 hP hS hl)
theorem x_lconst {n : Fin 2} (v : Int64) (hd : decode (q_cc M) pc = .ok (.lconst n, 1)) (hv : Int64.ofNat (n : Nat) = v) (k : q_X G M R F (pc + 1) lv (.long v :: st) h cells slots) : q_X G M R F pc lv st h cells slots := by
  intro p e s m args below meth c H locs ls C0 hP hS hl
  exact lv_lconst C0.1 C0.2.1 hd hv (k p e s m args below meth c H locs ls C0 hP hS hl)
theorem x_iload_n {k9 : Fin 4} (i : Nat) {x : Int32} (hd : decode (q_cc M) pc = .ok (.iload_n k9, 1)) (hi : (k9 : Nat) = i) (hg : q_get lv i = some (.int x)) (k : q_X G M R F (pc + 1) lv (.int x :: st) h cells slots) : q_X G M R F pc lv st h cells slots := by
  intro p e s m args below meth c H locs ls C0 hP hS hl
  exact lv_iload_n C0.1 C0.2.1 hd hi (q_get_at hl hg) (k p e s m args below meth c H locs ls C0 hP hS hl)
theorem x_iload {i : Nat} {x : Int32} (hd : decode (q_cc M) pc = .ok (.iload i, 2)) (hg : q_get lv i = some (.int x)) (k : q_X G M R F (pc + 2) lv (.int x :: st) h cells slots) : q_X G M R F pc lv st h cells slots := by
  intro p e s m args below meth c H locs ls C0 hP hS hl
  exact lv_iload C0.1 C0.2.1 hd (q_get_at hl hg) (k p e s m args below meth c H locs ls C0 hP hS hl)
theorem x_istore_n {k9 : Fin 4} (i : Nat) {x : Int32} (hd : decode (q_cc M) pc = .ok (.istore_n k9, 1)) (hi : (k9 : Nat) = i) (hn : i < q_nL M) (hf : q_fit1 i lv = true) (k : q_X G M R F (pc + 1) (q_set lv i (.int x)) st h cells slots) : q_X G M R F pc lv (.int x :: st) h cells slots := by
  intro p e s m args below meth c H locs ls C0 hP hS hl
  exact lv_istore_n C0.1 C0.2.1 hd hi hl hn rfl (fun ls hl => k p e s m args below meth c H locs ls C0 hP hS (q_has1 hf hl))
theorem x_istore {i : Nat} {x : Int32} (hd : decode (q_cc M) pc = .ok (.istore i, 2)) (hn : i < q_nL M) (hf : q_fit1 i lv = true) (k : q_X G M R F (pc + 2) (q_set lv i (.int x)) st h cells slots) : q_X G M R F pc lv (.int x :: st) h cells slots := by
  intro p e s m args below meth c H locs ls C0 hP hS hl
  exact lv_istore C0.1 C0.2.1 hd hl hn rfl (fun ls hl => k p e s m args below meth c H locs ls C0 hP hS (q_has1 hf hl))
theorem x_lload_n {k9 : Fin 4} (i : Nat) {x : Int64} (hd : decode (q_cc M) pc = .ok (.lload_n k9, 1)) (hi : (k9 : Nat) = i) (hg : q_get lv i = some (.long x)) (k : q_X G M R F (pc + 1) lv (.long x :: st) h cells slots) : q_X G M R F pc lv st h cells slots := by
  intro p e s m args below meth c H locs ls C0 hP hS hl
  exact lv_lload_n C0.1 C0.2.1 hd hi (q_get_at hl hg) (k p e s m args below meth c H locs ls C0 hP hS hl)
theorem x_lload {i : Nat} {x : Int64} (hd : decode (q_cc M) pc = .ok (.lload i, 2)) (hg : q_get lv i = some (.long x)) (k : q_X G M R F (pc + 2) lv (.long x :: st) h cells slots) : q_X G M R F pc lv st h cells slots := by
  intro p e s m args below meth c H locs ls C0 hP hS hl
  exact lv_lload C0.1 C0.2.1 hd (q_get_at hl hg) (k p e s m args below meth c H locs ls C0 hP hS hl)
theorem x_lstore_n {k9 : Fin 4} (i : Nat) {x : Int64} (hd : decode (q_cc M) pc = .ok (.lstore_n k9, 1)) (hi : (k9 : Nat) = i) (hn : i + 1 < q_nL M) (hf : q_fit2 i lv = true) (k : q_X G M R F (pc + 1) (q_set lv i (.long x)) st h cells slots) : q_X G M R F pc lv (.long x :: st) h cells slots := by
  intro p e s m args below meth c H locs ls C0 hP hS hl
  exact lv_lstore_n C0.1 C0.2.1 hd hi hl hn rfl (fun ls hl => k p e s m args below meth c H locs ls C0 hP hS (q_has2 hf hl))
theorem x_lstore {i : Nat} {x : Int64} (hd : decode (q_cc M) pc = .ok (.lstore i, 2)) (hn : i + 1 < q_nL M) (hf : q_fit2 i lv = true) (k : q_X G M R F (pc + 2) (q_set lv i (.long x)) st h cells slots) : q_X G M R F pc lv (.long x :: st) h cells slots := by
  intro p e s m args below meth c H locs ls C0 hP hS hl
  exact lv_lstore C0.1 C0.2.1 hd hl hn rfl (fun ls hl => k p e s m args below meth c H locs ls C0 hP hS (q_has2 hf hl))
theorem x_aload_n {k9 : Fin 4} (i : Nat) {x : Nat} (hd : decode (q_cc M) pc = .ok (.aload_n k9, 1)) (hi : (k9 : Nat) = i) (hg : q_get lv i = some (.ref x)) (k : q_X G M R F (pc + 1) lv (.ref x :: st) h cells slots) : q_X G M R F pc lv st h cells slots := by
  intro p e s m args below meth c H locs ls C0 hP hS hl
  exact lv_aload_n C0.1 C0.2.1 hd hi (q_get_at hl hg) (k p e s m args below meth c H locs ls C0 hP hS hl)
theorem x_aload {i : Nat} {x : Nat} (hd : decode (q_cc M) pc = .ok (.aload i, 2)) (hg : q_get lv i = some (.ref x)) (k : q_X G M R F (pc + 2) lv (.ref x :: st) h cells slots) : q_X G M R F pc lv st h cells slots := by
  intro p e s m args below meth c H locs ls C0 hP hS hl
  exact lv_aload C0.1 C0.2.1 hd (q_get_at hl hg) (k p e s m args below meth c H locs ls C0 hP hS hl)
theorem x_astore_n {k9 : Fin 4} (i : Nat) {x : Nat} (hd : decode (q_cc M) pc = .ok (.astore_n k9, 1)) (hi : (k9 : Nat) = i) (hn : i < q_nL M) (hf : q_fit1 i lv = true) (k : q_X G M R F (pc + 1) (q_set lv i (.ref x)) st h cells slots) : q_X G M R F pc lv (.ref x :: st) h cells slots := by
  intro p e s m args below meth c H locs ls C0 hP hS hl
  exact lv_astore_n C0.1 C0.2.1 hd hi hl hn rfl (fun ls hl => k p e s m args below meth c H locs ls C0 hP hS (q_has1 hf hl))
theorem x_astore {i : Nat} {x : Nat} (hd : decode (q_cc M) pc = .ok (.astore i, 2)) (hn : i < q_nL M) (hf : q_fit1 i lv = true) (k : q_X G M R F (pc + 2) (q_set lv i (.ref x)) st h cells slots) : q_X G M R F pc lv (.ref x :: st) h cells slots := by
  intro p e s m args below meth c H locs ls C0 hP hS hl
  exact lv_astore C0.1 C0.2.1 hd hl hn rfl (fun ls hl => k p e s m args below meth c H locs ls C0 hP hS (q_has1 hf hl))
theorem x_iinc {i : Nat} {n : Int} {x : Int32} (v : Int32) (hd : decode (q_cc M) pc = .ok (.iinc i n, 3)) (hg : q_get lv i = some (.int x)) (hv : Int32.ofInt n = v) (hn : i < q_nL M) (hf : q_fit1 i lv = true) (k : q_X G M R F (pc + 3) (q_set lv i (.int (x + v))) st h cells slots) : q_X G M R F pc lv st h cells slots := by
  intro p e s m args below meth c H locs ls C0 hP hS hl
  have hl' : lv_has ls (q_nL M) ((i, .int x) :: lv) := ⟨hl.1, hl.2.1, fun q hq => by
    rcases List.mem_cons.mp hq with rfl | hq
    · exact q_get_at hl hg
    · exact hl.2.2 q hq⟩
  refine lv_iinc (k := 0) C0.1 C0.2.1 hd hl' rfl (by rw [hv]) hn rfl (fun ls hl => k p e s m args below meth c H locs ls C0 hP hS (q_has1 hf ?_))
  refine ⟨hl.1, hl.2.1, fun q hq => hl.2.2 q ?_⟩
  rcases List.mem_cons.mp hq with rfl | hq
  · exact List.mem_cons_self
  · refine List.mem_cons_of_mem _ ?_
    obtain ⟨a1, a2⟩ := List.mem_filter.mp hq
    exact List.mem_filter.mpr ⟨List.mem_cons_of_mem _ a1, a2⟩
theorem x_iadd {x y : Int32} (hd : decode (q_cc M) pc = .ok (.iadd, 1)) (k : q_X G M R F (pc + 1) lv (.int (x + y) :: st) h cells slots) : q_X G M R F pc lv (.int y :: .int x :: st) h cells slots := by
  intro p e s m args below meth c H locs ls C0 hP hS hl
  exact lv_iadd C0.1 C0.2.1 hd (k p e s m args below meth c H locs ls C0 hP hS hl)
theorem x_isub {x y : Int32} (hd : decode (q_cc M) pc = .ok (.isub, 1)) (k : q_X G M R F (pc + 1) lv (.int (x - y) :: st) h cells slots) : q_X G M R F pc lv (.int y :: .int x :: st) h cells slots := by
  intro p e s m args below meth c H locs ls C0 hP hS hl
  exact lv_isub C0.1 C0.2.1 hd (k p e s m args below meth c H locs ls C0 hP hS hl)
theorem x_imul {x y : Int32} (hd : decode (q_cc M) pc = .ok (.imul, 1)) (k : q_X G M R F (pc + 1) lv (.int (x * y) :: st) h cells slots) : q_X G M R F pc lv (.int y :: .int x :: st) h cells slots := by
  intro p e s m args below meth c H locs ls C0 hP hS hl
  exact lv_imul C0.1 C0.2.1 hd (k p e s m args below meth c H locs ls C0 hP hS hl)
theorem x_iand {x y : Int32} (hd : decode (q_cc M) pc = .ok (.iand, 1)) (k : q_X G M R F (pc + 1) lv (.int (x &&& y) :: st) h cells slots) : q_X G M R F pc lv (.int y :: .int x :: st) h cells slots := by
  intro p e s m args below meth c H locs ls C0 hP hS hl
  exact lv_iand C0.1 C0.2.1 hd (k p e s m args below meth c H locs ls C0 hP hS hl)
theorem x_ior {x y : Int32} (hd : decode (q_cc M) pc = .ok (.ior, 1)) (k : q_X G M R F (pc + 1) lv (.int (x ||| y) :: st) h cells slots) : q_X G M R F pc lv (.int y :: .int x :: st) h cells slots := by
  intro p e s m args below meth c H locs ls C0 hP hS hl
  exact lv_ior C0.1 C0.2.1 hd (k p e s m args below meth c H locs ls C0 hP hS hl)
theorem x_ixor {x y : Int32} (hd : decode (q_cc M) pc = .ok (.ixor, 1)) (k : q_X G M R F (pc + 1) lv (.int (x ^^^ y) :: st) h cells slots) : q_X G M R F pc lv (.int y :: .int x :: st) h cells slots := by
  intro p e s m args below meth c H locs ls C0 hP hS hl
  exact lv_ixor C0.1 C0.2.1 hd (k p e s m args below meth c H locs ls C0 hP hS hl)
theorem x_ishl {x y : Int32} (hd : decode (q_cc M) pc = .ok (.ishl, 1)) (k : q_X G M R F (pc + 1) lv (.int (x <<< (y &&& 31)) :: st) h cells slots) : q_X G M R F pc lv (.int y :: .int x :: st) h cells slots := by
  intro p e s m args below meth c H locs ls C0 hP hS hl
  exact lv_ishl C0.1 C0.2.1 hd (k p e s m args below meth c H locs ls C0 hP hS hl)
theorem x_ishr {x y : Int32} (hd : decode (q_cc M) pc = .ok (.ishr, 1)) (k : q_X G M R F (pc + 1) lv (.int (x >>> (y &&& 31)) :: st) h cells slots) : q_X G M R F pc lv (.int y :: .int x :: st) h cells slots := by
  intro p e s m args below meth c H locs ls C0 hP hS hl
  exact lv_ishr C0.1 C0.2.1 hd (k p e s m args below meth c H locs ls C0 hP hS hl)
theorem x_idiv {x y : Int32} (hd : decode (q_cc M) pc = .ok (.idiv, 1)) (hne : ¬ y = 0) (k : q_X G M R F (pc + 1) lv (.int (x / y) :: st) h cells slots) : q_X G M R F pc lv (.int y :: .int x :: st) h cells slots := by
  intro p e s m args below meth c H locs ls C0 hP hS hl
  exact lv_idiv C0.1 C0.2.1 hd hne (k p e s m args below meth c H locs ls C0 hP hS hl)
theorem x_irem {x y : Int32} (hd : decode (q_cc M) pc = .ok (.irem, 1)) (hne : ¬ y = 0) (k : q_X G M R F (pc + 1) lv (.int (x - x / y * y) :: st) h cells slots) : q_X G M R F pc lv (.int y :: .int x :: st) h cells slots := by
  intro p e s m args below meth c H locs ls C0 hP hS hl
  exact lv_irem C0.1 C0.2.1 hd hne (k p e s m args below meth c H locs ls C0 hP hS hl)
theorem x_iushr {x y : Int32} (hd : decode (q_cc M) pc = .ok (.iushr, 1)) (k : q_X G M R F (pc + 1) lv (.int (x.toUInt32 >>> (y.toUInt32 &&& Int32.toUInt32 31)).toInt32 :: st) h cells slots) : q_X G M R F pc lv (.int y :: .int x :: st) h cells slots := by
  intro p e s m args below meth c H locs ls C0 hP hS hl
  exact lv_iushr C0.1 C0.2.1 hd rfl (k p e s m args below meth c H locs ls C0 hP hS hl)
theorem x_ladd {x y : Int64} (hd : decode (q_cc M) pc = .ok (.ladd, 1)) (k : q_X G M R F (pc + 1) lv (.long (x + y) :: st) h cells slots) : q_X G M R F pc lv (.long y :: .long x :: st) h cells slots := by
  intro p e s m args below meth c H locs ls C0 hP hS hl
  exact lv_ladd C0.1 C0.2.1 hd (k p e s m args below meth c H locs ls C0 hP hS hl)
theorem x_lsub {x y : Int64} (hd : decode (q_cc M) pc = .ok (.lsub, 1)) (k : q_X G M R F (pc + 1) lv (.long (x - y) :: st) h cells slots) : q_X G M R F pc lv (.long y :: .long x :: st) h cells slots := by
  intro p e s m args below meth c H locs ls C0 hP hS hl
  exact lv_lsub C0.1 C0.2.1 hd (k p e s m args below meth c H locs ls C0 hP hS hl)
theorem x_land {x y : Int64} (hd : decode (q_cc M) pc = .ok (.land, 1)) (k : q_X G M R F (pc + 1) lv (.long (x &&& y) :: st) h cells slots) : q_X G M R F pc lv (.long y :: .long x :: st) h cells slots := by
  intro p e s m args below meth c H locs ls C0 hP hS hl
  exact lv_land C0.1 C0.2.1 hd (k p e s m args below meth c H locs ls C0 hP hS hl)
theorem x_lor {x y : Int64} (hd : decode (q_cc M) pc = .ok (.lor, 1)) (k : q_X G M R F (pc + 1) lv (.long (x ||| y) :: st) h cells slots) : q_X G M R F pc lv (.long y :: .long x :: st) h cells slots := by
  intro p e s m args below meth c H locs ls C0 hP hS hl
  exact lv_lor C0.1 C0.2.1 hd (k p e s m args below meth c H locs ls C0 hP hS hl)
theorem x_lxor {x y : Int64} (hd : decode (q_cc M) pc = .ok (.lxor, 1)) (k : q_X G M R F (pc + 1) lv (.long (x ^^^ y) :: st) h cells slots) : q_X G M R F pc lv (.long y :: .long x :: st) h cells slots := by
  intro p e s m args below meth c H locs ls C0 hP hS hl
  exact lv_lxor C0.1 C0.2.1 hd (k p e s m args below meth c H locs ls C0 hP hS hl)
theorem x_lshl {x : Int64} {y : Int32} (hd : decode (q_cc M) pc = .ok (.lshl, 1)) (k : q_X G M R F (pc + 1) lv (.long (x <<< (y.toInt64 &&& 63)) :: st) h cells slots) : q_X G M R F pc lv (.int y :: .long x :: st) h cells slots := by
  intro p e s m args below meth c H locs ls C0 hP hS hl
  exact lv_lshl C0.1 C0.2.1 hd rfl (k p e s m args below meth c H locs ls C0 hP hS hl)
theorem x_lshr {x : Int64} {y : Int32} (hd : decode (q_cc M) pc = .ok (.lshr, 1)) (k : q_X G M R F (pc + 1) lv (.long (x >>> (y.toInt64 &&& 63)) :: st) h cells slots) : q_X G M R F pc lv (.int y :: .long x :: st) h cells slots := by
  intro p e s m args below meth c H locs ls C0 hP hS hl
  exact lv_lshr C0.1 C0.2.1 hd rfl (k p e s m args below meth c H locs ls C0 hP hS hl)
theorem x_lushr {x : Int64} {y : Int32} (hd : decode (q_cc M) pc = .ok (.lushr, 1)) (k : q_X G M R F (pc + 1) lv (.long ((x.toUInt64 >>> (y.toInt64.toUInt64 &&& Int64.toUInt64 63)).toInt64) :: st) h cells slots) : q_X G M R F pc lv (.int y :: .long x :: st) h cells slots := by
  intro p e s m args below meth c H locs ls C0 hP hS hl
  exact lv_lushr C0.1 C0.2.1 hd rfl (k p e s m args below meth c H locs ls C0 hP hS hl)
theorem x_lcmp {x y : Int64} (hd : decode (q_cc M) pc = .ok (.lcmp, 1)) (k : q_X G M R F (pc + 1) lv (.int (lg_cmp x y) :: st) h cells slots) : q_X G M R F pc lv (.long y :: .long x :: st) h cells slots := by
  intro p e s m args below meth c H locs ls C0 hP hS hl
  exact W.lcmp C0.1 C0.2.1 hd (k p e s m args below meth c H locs ls C0 hP hS hl)
theorem x_i2l {x : Int32} (hd : decode (q_cc M) pc = .ok (.i2l, 1)) (k : q_X G M R F (pc + 1) lv (.long (x.toInt64) :: st) h cells slots) : q_X G M R F pc lv (.int x :: st) h cells slots := by
  intro p e s m args below meth c H locs ls C0 hP hS hl
  exact lv_i2l C0.1 C0.2.1 hd rfl (k p e s m args below meth c H locs ls C0 hP hS hl)
theorem x_l2i {x : Int64} (hd : decode (q_cc M) pc = .ok (.l2i, 1)) (k : q_X G M R F (pc + 1) lv (.int (x.toInt32) :: st) h cells slots) : q_X G M R F pc lv (.long x :: st) h cells slots := by
  intro p e s m args below meth c H locs ls C0 hP hS hl
  exact lv_l2i C0.1 C0.2.1 hd rfl (k p e s m args below meth c H locs ls C0 hP hS hl)
theorem x_i2b {x : Int32} (hd : decode (q_cc M) pc = .ok (.i2b, 1)) (k : q_X G M R F (pc + 1) lv (.int (x.toInt8.toInt32) :: st) h cells slots) : q_X G M R F pc lv (.int x :: st) h cells slots := by
  intro p e s m args below meth c H locs ls C0 hP hS hl
  exact lv_i2b C0.1 C0.2.1 hd rfl (k p e s m args below meth c H locs ls C0 hP hS hl)
theorem x_i2c {x : Int32} (hd : decode (q_cc M) pc = .ok (.i2c, 1)) (k : q_X G M R F (pc + 1) lv (.int ((x.toUInt32 % 65536).toInt32) :: st) h cells slots) : q_X G M R F pc lv (.int x :: st) h cells slots := by
  intro p e s m args below meth c H locs ls C0 hP hS hl
  exact lv_i2c C0.1 C0.2.1 hd rfl (k p e s m args below meth c H locs ls C0 hP hS hl)
theorem x_dup {va : Value} (hd : decode (q_cc M) pc = .ok (.dup, 1)) (hc : va.category = 1) (k : q_X G M R F (pc + 1) lv (va :: va :: st) h cells slots) : q_X G M R F pc lv (va :: st) h cells slots := by
  intro p e s m args below meth c H locs ls C0 hP hS hl
  exact lv_dup C0.1 C0.2.1 hd hc (k p e s m args below meth c H locs ls C0 hP hS hl)
theorem x_dup2 {va vb : Value} (hd : decode (q_cc M) pc = .ok (.dup2, 1)) (hc : va.category = 1) (hc2 : vb.category = 1) (k : q_X G M R F (pc + 1) lv (va :: vb :: va :: vb :: st) h cells slots) : q_X G M R F pc lv (va :: vb :: st) h cells slots := by
  intro p e s m args below meth c H locs ls C0 hP hS hl
  exact lv_dup2_11 C0.1 C0.2.1 hd hc hc2 (k p e s m args below meth c H locs ls C0 hP hS hl)
theorem x_pop {va : Value} (hd : decode (q_cc M) pc = .ok (.pop, 1)) (hc : va.category = 1) (k : q_X G M R F (pc + 1) lv st h cells slots) : q_X G M R F pc lv (va :: st) h cells slots := by
  intro p e s m args below meth c H locs ls C0 hP hS hl
  exact lv_pop C0.1 C0.2.1 hd hc (k p e s m args below meth c H locs ls C0 hP hS hl)
theorem x_goto {off : Int} (tgt : Nat) (hd : decode (q_cc M) pc = .ok (.goto off, 3)) (ht : (pc : Int) + off = (tgt : Int)) (k : q_X G M R F tgt lv st h cells slots) : q_X G M R F pc lv st h cells slots := by
  intro p e s m args below meth c H locs ls C0 hP hS hl
  exact lv_goto C0.1 C0.2.1 hd ht (k p e s m args below meth c H locs ls C0 hP hS hl)
theorem x_if_eq {x : Int32} {off : Int} (tgt : Nat) (hd : decode (q_cc M) pc = .ok (.ifCond .eq off, 3)) (ht : (pc : Int) + off = (tgt : Int)) (kt : x = 0 → q_X G M R F tgt lv st h cells slots) (kf : ¬ x = 0 → q_X G M R F (pc + 3) lv st h cells slots) : q_X G M R F pc lv (.int x :: st) h cells slots := by
  intro p e s m args below meth c H locs ls C0 hP hS hl
  exact lv_if_eq C0.1 C0.2.1 hd ht (fun z => kt z p e s m args below meth c H locs ls C0 hP hS hl) (fun z => kf z p e s m args below meth c H locs ls C0 hP hS hl)
theorem x_icmp_eq {x y : Int32} {off : Int} (tgt : Nat) (hd : decode (q_cc M) pc = .ok (.if_icmp .eq off, 3)) (ht : (pc : Int) + off = (tgt : Int)) (kt : x = y → q_X G M R F tgt lv st h cells slots) (kf : ¬ x = y → q_X G M R F (pc + 3) lv st h cells slots) : q_X G M R F pc lv (.int y :: .int x :: st) h cells slots := by
  intro p e s m args below meth c H locs ls C0 hP hS hl
  exact lv_icmp_eq C0.1 C0.2.1 hd ht (fun z => kt z p e s m args below meth c H locs ls C0 hP hS hl) (fun z => kf z p e s m args below meth c H locs ls C0 hP hS hl)
theorem x_if_ne {x : Int32} {off : Int} (tgt : Nat) (hd : decode (q_cc M) pc = .ok (.ifCond .ne off, 3)) (ht : (pc : Int) + off = (tgt : Int)) (kt : ¬ x = 0 → q_X G M R F tgt lv st h cells slots) (kf : x = 0 → q_X G M R F (pc + 3) lv st h cells slots) : q_X G M R F pc lv (.int x :: st) h cells slots := by
  intro p e s m args below meth c H locs ls C0 hP hS hl
  exact lv_if_ne C0.1 C0.2.1 hd ht (fun z => kt z p e s m args below meth c H locs ls C0 hP hS hl) (fun z => kf z p e s m args below meth c H locs ls C0 hP hS hl)
theorem x_icmp_ne {x y : Int32} {off : Int} (tgt : Nat) (hd : decode (q_cc M) pc = .ok (.if_icmp .ne off, 3)) (ht : (pc : Int) + off = (tgt : Int)) (kt : ¬ x = y → q_X G M R F tgt lv st h cells slots) (kf : x = y → q_X G M R F (pc + 3) lv st h cells slots) : q_X G M R F pc lv (.int y :: .int x :: st) h cells slots := by
  intro p e s m args below meth c H locs ls C0 hP hS hl
  exact lv_icmp_ne C0.1 C0.2.1 hd ht (fun z => kt z p e s m args below meth c H locs ls C0 hP hS hl) (fun z => kf z p e s m args below meth c H locs ls C0 hP hS hl)
theorem x_if_lt {x : Int32} {off : Int} (tgt : Nat) (hd : decode (q_cc M) pc = .ok (.ifCond .lt off, 3)) (ht : (pc : Int) + off = (tgt : Int)) (kt : x < 0 → q_X G M R F tgt lv st h cells slots) (kf : ¬ x < 0 → q_X G M R F (pc + 3) lv st h cells slots) : q_X G M R F pc lv (.int x :: st) h cells slots := by
  intro p e s m args below meth c H locs ls C0 hP hS hl
  exact lv_if_lt C0.1 C0.2.1 hd ht (fun z => kt z p e s m args below meth c H locs ls C0 hP hS hl) (fun z => kf z p e s m args below meth c H locs ls C0 hP hS hl)
theorem x_icmp_lt {x y : Int32} {off : Int} (tgt : Nat) (hd : decode (q_cc M) pc = .ok (.if_icmp .lt off, 3)) (ht : (pc : Int) + off = (tgt : Int)) (kt : x < y → q_X G M R F tgt lv st h cells slots) (kf : ¬ x < y → q_X G M R F (pc + 3) lv st h cells slots) : q_X G M R F pc lv (.int y :: .int x :: st) h cells slots := by
  intro p e s m args below meth c H locs ls C0 hP hS hl
  exact lv_icmp_lt C0.1 C0.2.1 hd ht (fun z => kt z p e s m args below meth c H locs ls C0 hP hS hl) (fun z => kf z p e s m args below meth c H locs ls C0 hP hS hl)
theorem x_if_ge {x : Int32} {off : Int} (tgt : Nat) (hd : decode (q_cc M) pc = .ok (.ifCond .ge off, 3)) (ht : (pc : Int) + off = (tgt : Int)) (kt : 0 ≤ x → q_X G M R F tgt lv st h cells slots) (kf : ¬ 0 ≤ x → q_X G M R F (pc + 3) lv st h cells slots) : q_X G M R F pc lv (.int x :: st) h cells slots := by
  intro p e s m args below meth c H locs ls C0 hP hS hl
  exact lv_if_ge C0.1 C0.2.1 hd ht (fun z => kt z p e s m args below meth c H locs ls C0 hP hS hl) (fun z => kf z p e s m args below meth c H locs ls C0 hP hS hl)
theorem x_icmp_ge {x y : Int32} {off : Int} (tgt : Nat) (hd : decode (q_cc M) pc = .ok (.if_icmp .ge off, 3)) (ht : (pc : Int) + off = (tgt : Int)) (kt : y ≤ x → q_X G M R F tgt lv st h cells slots) (kf : ¬ y ≤ x → q_X G M R F (pc + 3) lv st h cells slots) : q_X G M R F pc lv (.int y :: .int x :: st) h cells slots := by
  intro p e s m args below meth c H locs ls C0 hP hS hl
  exact lv_icmp_ge C0.1 C0.2.1 hd ht (fun z => kt z p e s m args below meth c H locs ls C0 hP hS hl) (fun z => kf z p e s m args below meth c H locs ls C0 hP hS hl)
theorem x_if_gt {x : Int32} {off : Int} (tgt : Nat) (hd : decode (q_cc M) pc = .ok (.ifCond .gt off, 3)) (ht : (pc : Int) + off = (tgt : Int)) (kt : 0 < x → q_X G M R F tgt lv st h cells slots) (kf : ¬ 0 < x → q_X G M R F (pc + 3) lv st h cells slots) : q_X G M R F pc lv (.int x :: st) h cells slots := by
  intro p e s m args below meth c H locs ls C0 hP hS hl
  exact lv_if_gt C0.1 C0.2.1 hd ht (fun z => kt z p e s m args below meth c H locs ls C0 hP hS hl) (fun z => kf z p e s m args below meth c H locs ls C0 hP hS hl)
theorem x_icmp_gt {x y : Int32} {off : Int} (tgt : Nat) (hd : decode (q_cc M) pc = .ok (.if_icmp .gt off, 3)) (ht : (pc : Int) + off = (tgt : Int)) (kt : y < x → q_X G M R F tgt lv st h cells slots) (kf : ¬ y < x → q_X G M R F (pc + 3) lv st h cells slots) : q_X G M R F pc lv (.int y :: .int x :: st) h cells slots := by
  intro p e s m args below meth c H locs ls C0 hP hS hl
  exact lv_icmp_gt C0.1 C0.2.1 hd ht (fun z => kt z p e s m args below meth c H locs ls C0 hP hS hl) (fun z => kf z p e s m args below meth c H locs ls C0 hP hS hl)
theorem x_if_le {x : Int32} {off : Int} (tgt : Nat) (hd : decode (q_cc M) pc = .ok (.ifCond .le off, 3)) (ht : (pc : Int) + off = (tgt : Int)) (kt : x ≤ 0 → q_X G M R F tgt lv st h cells slots) (kf : ¬ x ≤ 0 → q_X G M R F (pc + 3) lv st h cells slots) : q_X G M R F pc lv (.int x :: st) h cells slots := by
  intro p e s m args below meth c H locs ls C0 hP hS hl
  exact lv_if_le C0.1 C0.2.1 hd ht (fun z => kt z p e s m args below meth c H locs ls C0 hP hS hl) (fun z => kf z p e s m args below meth c H locs ls C0 hP hS hl)
theorem x_icmp_le {x y : Int32} {off : Int} (tgt : Nat) (hd : decode (q_cc M) pc = .ok (.if_icmp .le off, 3)) (ht : (pc : Int) + off = (tgt : Int)) (kt : x ≤ y → q_X G M R F tgt lv st h cells slots) (kf : ¬ x ≤ y → q_X G M R F (pc + 3) lv st h cells slots) : q_X G M R F pc lv (.int y :: .int x :: st) h cells slots := by
  intro p e s m args below meth c H locs ls C0 hP hS hl
  exact lv_icmp_le C0.1 C0.2.1 hd ht (fun z => kt z p e s m args below meth c H locs ls C0 hP hS hl) (fun z => kf z p e s m args below meth c H locs ls C0 hP hS hl)
theorem x_ldc {idx : Nat} (v : Int32) (hw : Cond.constant (q_y M).cls idx v ∈ q_TB) (hd : decode (q_cc M) pc = .ok (.ldc idx, 2)) (k : q_X G M R F (pc + 2) lv (.int v :: st) h cells slots) : q_X G M R F pc lv st h cells slots := by
  intro p e s m args below meth c H locs ls C0 hP hS hl
  exact lv_ldc C0.1 C0.2.1 C0.2.2.2.1 (C0.2.2.2.2.1 _ hw) hd (k p e s m args below meth c H locs ls C0 hP hS hl)
theorem x_ldc2 {idx : Nat} (v : Int64) (hw : Cond.constantLong (q_y M).cls idx v ∈ q_TB) (hd : decode (q_cc M) pc = .ok (.ldc2_w idx, 3)) (k : q_X G M R F (pc + 3) lv (.long v :: st) h cells slots) : q_X G M R F pc lv st h cells slots := by
  intro p e s m args below meth c H locs ls C0 hP hS hl
  exact lv_ldc2 C0.1 C0.2.1 C0.2.2.2.1 (C0.2.2.2.2.1 _ hw) hd (k p e s m args below meth c H locs ls C0 hP hS hl)
theorem x_ldcS (i : Nat) {idx : Nat} {tx : String} (hz : q_str[i]? = some ((q_y M).cls, idx, tx)) (hd : decode (q_cc M) pc = .ok (.ldc idx, 2)) (k : q_X G M R F (pc + 2) lv (.ref (q_aK G i) :: st) h cells slots) : q_X G M R F pc lv st h cells slots := by
  intro p e s m args below meth c H locs ls C0 hP hS hl
  obtain ⟨hx, hb, -, hown, -, -, -, -, hv, -, -, hG⟩ := id C0
  exact va_ldcS hx hb hown (vk_R.warm hv (hG.2.2.1 i _ hz)) hd (k p e s m args below meth c H locs ls C0 hP hS hl)
theorem x_tableIn {dflt lo hi : Int} {offs : Array Int} {len : Nat} {x : Int32} {off : Int} (tgt : Nat) (hd : decode (q_cc M) pc = .ok (.tableswitch dflt lo hi offs, len)) (h1 : ¬ x.toInt < lo) (h2 : ¬ hi < x.toInt) (ho : offs[(x.toInt - lo).toNat]? = some off) (ht : (pc : Int) + off = (tgt : Int)) (k : q_X G M R F tgt lv st h cells slots) : q_X G M R F pc lv (.int x :: st) h cells slots := by
  intro p e s m args below meth c H locs ls C0 hP hS hl
  exact lv_tableIn C0.1 C0.2.1 hd h1 h2 ho ht (k p e s m args below meth c H locs ls C0 hP hS hl)
theorem x_tableOut {dflt lo hi : Int} {offs : Array Int} {len : Nat} {x : Int32} (tgt : Nat) (hd : decode (q_cc M) pc = .ok (.tableswitch dflt lo hi offs, len)) (h1 : x.toInt < lo ∨ hi < x.toInt) (ht : (pc : Int) + dflt = (tgt : Int)) (k : q_X G M R F tgt lv st h cells slots) : q_X G M R F pc lv (.int x :: st) h cells slots := by
  intro p e s m args below meth c H locs ls C0 hP hS hl
  exact lv_tableOut C0.1 C0.2.1 hd h1 ht (k p e s m args below meth c H locs ls C0 hP hS hl)
end QRows
end
section
/-! ROWS OF q_X: fields, rows of numbers, new cells, calls, ends -/
section QHeap
theorem q_P.at {G : q_G} {h : q_H} {H : Heap} (hP : q_P G h H) {a : Nat} {e : q_C} (ha : h a = some e) : va_P (q_D G) vwCl [(a, q_E (q_cI G) (q_cL G) e)] H := by
  intro k q hk
  have hz : k < 1 := (List.getElem?_eq_some_iff.mp hk).1
  rw [show k = 0 by omega] at hk
  cases hk
  exact (hP.1 a e ha).1
theorem q_P.lt {G : q_G} {h : q_H} {H : Heap} (hP : q_P G h H) {a : Nat} {e : q_C} (ha : h a = some e) : a < H.size := (hP.1 a e ha).1.lt
theorem q_P.put {G : q_G} {h : q_H} {H H1 : Heap} (hP : q_P G h H) {a : Nat} {e0 e : q_C} (ha : h a = some e0) (hz : H1.size = H.size) (ho : ∀ q : Nat, q ≠ a → H1[q]? = H[q]?) (he : va_at (q_D G) vwCl (a, q_E (q_cI G) (q_cL G) e) H1) : q_P G (va_up h a (some e)) H1 := by
  have hA := (hP.1 a e0 ha).2
  refine ⟨fun b x hb => ?_, by rw [hz]; exact hP.2.1, fun q h1 h2 => ?_, fun l hl => by cases hl⟩
  · unfold va_up at hb
    by_cases hba : b = a
    · subst hba
      rw [if_pos rfl] at hb
      cases hb
      exact ⟨he, hA⟩
    · rw [if_neg hba] at hb
      obtain ⟨h1, h2⟩ := hP.1 b x hb
      exact ⟨h1.kept (ho b hba), h2⟩
  · rw [ho q (fun z => h2 (z ▸ hA))]
    exact hP.2.2.1 q h1 h2
theorem q_P.new {G : q_G} {h : q_H} {H H1 : Heap} (hP : q_P G h H) {e : q_C} (hz : H1.size = H.size + 1) (ho : ∀ q : Nat, q < H.size → H1[q]? = H[q]?) (he : va_at (q_D G) vwCl (H.size, q_E (q_cI G) (q_cL G) e) H1) : h H.size = none ∧ q_P G (va_up h H.size (some e)) H1 := by
  have hn : h H.size = none := by
    cases hc : h H.size with
    | none => rfl
    | some x => exact absurd (hP.lt hc) (Nat.lt_irrefl _)
  refine ⟨hn, fun b x hb => ?_, by rw [hz]; exact Nat.le_succ_of_le hP.2.1, fun q h1 h2 => ?_, fun l hl => by cases hl⟩
  · unfold va_up at hb
    by_cases hba : b = H.size
    · subst hba
      rw [if_pos rfl] at hb
      cases hb
      exact ⟨he, hP.2.1⟩
    · rw [if_neg hba] at hb
      obtain ⟨h1, h2⟩ := hP.1 b x hb
      exact ⟨h1.kept (ho b (hP.lt hb)), h2⟩
  · rw [ho q (Nat.lt_of_lt_of_le h1 hP.2.1)]
    exact hP.2.2.1 q h1 h2
variable {G : q_G} {M : q_M} {R : Room} {F : q_F} {pc : Nat} {lv : List (Nat × Value)} {st : List Value} {h : q_H} {cells slots : Nat}
theorem x_getf {ci kf N idx a : Nat} {C : String} {T : u_T} {fs : List Value} {v : Value} (hc : vwCl[ci]? = some (C, T, N)) (hin : ∀ w ∈ u_ws C T N, w ∈ q_TB) (hk : kf < N) (hw : Cond.fieldLink (q_y M).cls idx (T kf).1 (T kf).2.1 (T kf).2.2.1 ∈ q_TB) (hd : decode (q_cc M) pc = .ok (.getfield idx, 3)) (ha : h a = some (k_ob ci fs)) (hv : fs[kf]? = some v) (k : q_X G M R F (pc + 3) lv (v :: st) h cells slots) : q_X G M R F pc lv (.ref a :: st) h cells slots := by
  intro p e s m args below meth c H locs ls C0 hP hS hl
  obtain ⟨hx, hb, -, hown, hts, -, -, -, hW, -, -, hG⟩ := id C0
  exact va_get hx hb hts hin hown (va_K.moved hW.alike hG.1) (hP.at ha) 0 rfl hc kf hk (hts _ hw) (fun _ h9 => h9) hv hd (k p e s m args below meth c H locs ls C0 hP hS hl)
theorem x_putf {ci kf N idx a : Nat} {C : String} {T : u_T} {fs : List Value} {v : Value} (ty0 : Nat → FieldType) (hty : ∀ k, k < N → parseFieldDescriptor (T k).2.2.1 = some (ty0 k)) (hnm : ∀ a, a < N → ∀ b, b < N → a ≠ b → (T a).2.1 ≠ (T b).2.1) (hc : vwCl[ci]? = some (C, T, N)) (hin : ∀ w ∈ u_ws C T N, w ∈ q_TB) (hk : kf < N) (hw : Cond.fieldLink (q_y M).cls idx (T kf).1 (T kf).2.1 (T kf).2.2.1 ∈ q_TB) (hfin : (T kf).2.2.2 = false) (hd : decode (q_cc M) pc = .ok (.putfield idx, 3)) (hn : narrow (ty0 kf) v = v) (hfit : fits (ty0 kf) v = true) (ha : h a = some (k_ob ci fs)) (hlen : kf < fs.length) (k : q_X G M R F (pc + 3) lv st (va_up h a (some (k_ob ci (fs.set kf v)))) cells slots) : q_X G M R F pc lv (v :: .ref a :: st) h cells slots := by
  intro p e s m args below meth c H locs ls C0 hP hS hl
  obtain ⟨hx, hb, -, hown, hts, -, -, -, hW, -, -, hG⟩ := id C0
  have hK := va_K.moved hW.alike hG.1
  have hap := va_apart (own := (q_y M).cls) hts hin ty0 hty hnm hK hc
  obtain ⟨⟨r, h1, cell, q1, q2, q3, q4⟩, hA⟩ := hP.1 a _ ha
  have hr : r = (C, T, N) := Option.some.inj (h1.symm.trans hc)
  subst hr
  obtain ⟨hSl, hfc, kC, hkC, hkind⟩ := hK.1 ci _ hc
  obtain ⟨cf, kf', fi, f, hi, hsl⟩ := hSl kf hk
  have hlay := hts _ (hin _ (u_in_lay hk))
  unfold u_lay at hlay
  rw [if_neg (by rw [hfin]; decide)] at hlay
  have hst := (u_facts hfc hkC (u_lays hts hin hk) hi).1
  have h6 := u_store hfc hkC hkind hlay hi (hty kf hk) hn hfit
  refine W.putK hx hb (f := f) ⟨hown, hts _ hw, ⟨_, _, _, hi⟩, hst⟩ (by rw [q2]; exact h6) q1 q3 (by rw [hsl]; exact k2_hasslot (q4 kf hk)) rfl rfl hd fun H' e1 e2 e3 => ?_
  rw [hsl] at e1 ⊢
  exact k p e s m args below meth c H' _ ls C0 (hP.put ha e2 e3 ⟨_, hc, t_OB.to (V := updV (vp_V fs) kf v) ⟨_, e1, q2, q3, t_set q4 hap hk v⟩ (fun j _ => vp_updV_set hlen v j)⟩) (hS.put e2 e3 hA) hl
theorem x_putF {ci kf N idx a : Nat} {C : String} {T : u_T} {fs : List Value} {v : Value} (ty0 : Nat → FieldType) (hty : ∀ k, k < N → parseFieldDescriptor (T k).2.2.1 = some (ty0 k)) (hnm : ∀ a, a < N → ∀ b, b < N → a ≠ b → (T a).2.1 ≠ (T b).2.1) (hc : vwCl[ci]? = some (C, T, N)) (hin : ∀ w ∈ u_ws C T N, w ∈ q_TB) (hk : kf < N) (hw : Cond.fieldLink (q_y M).cls idx (T kf).1 (T kf).2.1 (T kf).2.2.1 ∈ q_TB) (hfin : (T kf).2.2.2 = true) (hini : (q_y M).name = "<init>") (hdecl : (T kf).1 = (q_y M).cls) (hd : decode (q_cc M) pc = .ok (.putfield idx, 3)) (hn : narrow (ty0 kf) v = v) (hfit : fits (ty0 kf) v = true) (ha : h a = some (k_ob ci fs)) (hlen : kf < fs.length) (k : q_X G M R F (pc + 3) lv st (va_up h a (some (k_ob ci (fs.set kf v)))) cells slots) : q_X G M R F pc lv (v :: .ref a :: st) h cells slots := by
  intro p e s m args below meth c H locs ls C0 hP hS hl
  obtain ⟨hx, hb, -, hown, hts, -, -, hnam, hW, -, -, hG⟩ := id C0
  have hK := va_K.moved hW.alike hG.1
  have hap := va_apart (own := (q_y M).cls) hts hin ty0 hty hnm hK hc
  obtain ⟨⟨r, h1, cell, q1, q2, q3, q4⟩, hA⟩ := hP.1 a _ ha
  have hr : r = (C, T, N) := Option.some.inj (h1.symm.trans hc)
  subst hr
  obtain ⟨hSl, hfc, kC, hkC, hkind⟩ := hK.1 ci _ hc
  obtain ⟨cf, kf', fi, f, hi, hsl⟩ := hSl kf hk
  have hlay := hts _ (hin _ (u_in_lay hk))
  unfold u_lay at hlay
  rw [if_pos hfin] at hlay
  have hst := (u_facts hfc hkC (u_lays hts hin hk) hi).1
  have hcf : m.cls = cf := by
    obtain ⟨_, _, c', _, _, _, -, -, hf', -, -, -, hown2, -⟩ := Cond.laysFinal_spec hlay
    have e1 : c' = cf := by have := hi.symm.trans hf'; simp at this; exact this.1.symm
    rw [hdecl] at hown2
    rw [← e1]; exact Option.some.inj (hown.symm.trans hown2)
  have h6 := u_fits hfc hkC hkind (Or.inr hlay) hi (hty kf hk) hn hfit
  refine W.putFinK hx hb hown (hts _ hw) hi hst hcf (hnam.trans hini) (by rw [q2]; exact h6) q1 q3 (by rw [hsl]; exact k2_hasslot (q4 kf hk)) rfl rfl hd fun H' e1 e2 e3 => ?_
  rw [hsl] at e1 ⊢
  exact k p e s m args below meth c H' _ ls C0 (hP.put ha e2 e3 ⟨_, hc, t_OB.to (V := updV (vp_V fs) kf v) ⟨_, e1, q2, q3, t_set q4 hap hk v⟩ (fun j _ => vp_updV_set hlen v j)⟩) (hS.put e2 e3 hA) hl
theorem x_iald {a N : Nat} {f : Nat → Int32} {i : Int32} (hd : decode (q_cc M) pc = .ok (.iaload, 1)) (ha : h a = some (k_ar N f)) (hi : vp_in i N) (k : q_X G M R F (pc + 1) lv (.int (f i.toNatClampNeg) :: st) h cells slots) : q_X G M R F pc lv (.int i :: .ref a :: st) h cells slots := by
  intro p e s m args below meth c H locs ls C0 hP hS hl
  obtain ⟨hx, hb, -, -, -, -, -, -, hW, -, -, hG⟩ := id C0
  exact va_iald hx hb (va_K.moved hW.alike hG.1) (hP.at ha) 0 0 rfl rfl hi hd (k p e s m args below meth c H locs ls C0 hP hS hl)
theorem x_lald {a N : Nat} {f : Nat → Int64} {i : Int32} (hd : decode (q_cc M) pc = .ok (.laload, 1)) (ha : h a = some (k_al N f)) (hi : vp_in i N) (k : q_X G M R F (pc + 1) lv (.long (f i.toNatClampNeg) :: st) h cells slots) : q_X G M R F pc lv (.int i :: .ref a :: st) h cells slots := by
  intro p e s m args below meth c H locs ls C0 hP hS hl
  obtain ⟨hx, hb, -, -, -, -, -, -, hW, -, -, hG⟩ := id C0
  exact va_lald hx hb (va_K.moved hW.alike hG.1) (hP.at ha) 0 1 rfl rfl hi hd (k p e s m args below meth c H locs ls C0 hP hS hl)
theorem x_alen {a N : Nat} {f : Nat → Int32} (hd : decode (q_cc M) pc = .ok (.arraylength, 1)) (ha : h a = some (k_ar N f)) (k : q_X G M R F (pc + 1) lv (.int (nI N) :: st) h cells slots) : q_X G M R F pc lv (.ref a :: st) h cells slots := by
  intro p e s m args below meth c H locs ls C0 hP hS hl
  obtain ⟨hx, hb, -, -, -, -, -, -, hW, -, -, hG⟩ := id C0
  exact va_alen hx hb (va_K.moved hW.alike hG.1) (hP.at ha) 0 0 rfl rfl rfl hd (k p e s m args below meth c H locs ls C0 hP hS hl)
theorem x_iast {a N : Nat} {f : Nat → Int32} {i x : Int32} (hd : decode (q_cc M) pc = .ok (.iastore, 1)) (ha : h a = some (k_ar N f)) (hi : vp_in i N) (k : q_X G M R F (pc + 1) lv st (va_up h a (some (k_ar N (upd f i.toNatClampNeg x)))) cells slots) : q_X G M R F pc lv (.int x :: .int i :: .ref a :: st) h cells slots := by
  intro p e s m args below meth c H locs ls C0 hP hS hl
  obtain ⟨hx, hb, -, -, -, -, -, -, hW, -, -, hG⟩ := id C0
  have hK := va_K.moved hW.alike hG.1
  obtain ⟨hcell, hA⟩ := hP.1 a _ ha
  refine W.iast hx hb hcell ((hK.2 0 _ rfl).1 N (fun j => .int (f j))) (fun q => by cases q) (by show ¬ (i < 0 ∨ (arrV _ _ _).slots.size ≤ _); rw [arrV_size]; exact hi) rfl rfl hd fun H1 e9 z oq => ?_
  refine k p e s m args below meth c H1 _ ls C0 (hP.put ha z oq ?_) (hS.put z oq hA) hl
  show H1[a]? = some (vp_cell _ _)
  rw [e9]
  show some ((vp_cell (q_cI G) (N, .inl f)).setSlot _ _) = some (vp_cell (q_cI G) (N, .inl _))
  rw [vp_cell_i, vp_cell_i, arrV_store]
  congr 2
  funext q
  by_cases hq : q = i.toNatClampNeg
  · subst hq
    simp [updV, upd]
  · simp [updV, upd, hq]
theorem x_last {a N : Nat} {f : Nat → Int64} {i : Int32} {x : Int64} (hd : decode (q_cc M) pc = .ok (.lastore, 1)) (ha : h a = some (k_al N f)) (hi : vp_in i N) (k : q_X G M R F (pc + 1) lv st (va_up h a (some (k_al N (vp_updL f i.toNatClampNeg x)))) cells slots) : q_X G M R F pc lv (.long x :: .int i :: .ref a :: st) h cells slots := by
  intro p e s m args below meth c H locs ls C0 hP hS hl
  obtain ⟨hx, hb, -, -, -, -, -, -, hW, -, -, hG⟩ := id C0
  have hK := va_K.moved hW.alike hG.1
  obtain ⟨hcell, hA⟩ := hP.1 a _ ha
  refine W.last hx hb hcell ((hK.2 1 _ rfl).1 N (fun j => .long (f j))) (fun q => by cases q) (by show ¬ (i < 0 ∨ (arrV _ _ _).slots.size ≤ _); rw [arrV_size]; exact hi) rfl rfl hd fun H1 e9 z oq => ?_
  refine k p e s m args below meth c H1 _ ls C0 (hP.put ha z oq ?_) (hS.put z oq hA) hl
  show H1[a]? = some (vp_cell _ _)
  rw [e9]
  show some ((vp_cell (q_cL G) (N, .inr (.inl f))).setSlot _ _) = some (vp_cell (q_cL G) (N, .inr (.inl _)))
  rw [vp_cell_l, vp_cell_l, arrV_store]
  congr 2
  funext q
  by_cases hq : q = i.toNatClampNeg
  · subst hq
    simp [updV, vp_updL]
  · simp [updV, vp_updL, hq]
theorem x_new {ci N idx : Nat} {C : String} {T : u_T} (fs : List Value) (ty : Nat → FieldType) (hty : ∀ k, k < N → parseFieldDescriptor (T k).2.2.1 = some (ty k)) (hc : vwCl[ci]? = some (C, T, N)) (hin : ∀ w ∈ u_ws C T N, w ∈ q_TB) (hcl : Cond.classLink (q_y M).cls idx C ∈ q_TB) (hinst : Cond.instantiable C N ∈ q_TB) (hini : Cond.initialized C ∈ q_TB) (hfs : ∀ j, j < N → defaultValue (ty j) = vp_V fs j) (hd : decode (q_cc M) pc = .ok (.new idx, 3)) (hcells : cells + 1 ≤ R.cells) (hslots : slots + N ≤ R.slots) (k : ∀ q : Nat, h q = none → q_X G M R F (pc + 3) lv (.ref q :: st) (va_up h q (some (k_ob ci fs))) (cells + 1) (slots + N)) : q_X G M R F pc lv st h cells slots := by
  intro p e s m args below meth c H locs ls C0 hP hS hl
  obtain ⟨hx, hb, -, hown, hts, -, -, -, hW, -, -, hG⟩ := id C0
  have hK := va_K.moved hW.alike hG.1
  have hKn := hK.1 ci _ hc
  refine W.newcK hx hb hown (hts _ hcl) (hts _ hinst) (hts _ hini) rfl hd hcells hslots hKn.2.1 rfl fun H1 kC hkC e1 z1 o1 => ?_
  obtain ⟨hn, hP1⟩ := hP.new (e := k_ob ci fs) z1 o1 ⟨_, hc, (u_born ty hts hin hKn hkC e1 hty).to hfs⟩
  exact k H.size hn p e s m args below meth c H1 locs ls C0 hP1 ⟨Nat.le_trans hS.1 (by omega), fun x h1 h2 => (o1 x (Nat.lt_of_lt_of_le h1 hS.1)).trans (hS.2.1 x h1 h2), hS.2.2⟩ hl
theorem x_newI {n : Int32} (N : Nat) (hw : Cond.arrayClass .int ∈ q_TB) (hd : decode (q_cc M) pc = .ok (.newarray .int, 2)) (hn : ¬ n < 0) (hN : n.toNatClampNeg = N) (hbytes : N * 4 ≤ 536870912) (hcells : cells + 1 ≤ R.cells) (hslots : slots + N ≤ R.slots) (k : ∀ q : Nat, h q = none → q_X G M R F (pc + 2) lv (.ref q :: st) (va_up h q (some (k_ar N (fun _ => 0)))) (cells + 1) (slots + N)) : q_X G M R F pc lv (.int n :: st) h cells slots := by
  intro p e s m args below meth c H locs ls C0 hP hS hl
  obtain ⟨hx, hb, -, hown, hts, -, -, -, hW, -, -, hG⟩ := id C0
  have hK := va_K.moved hW.alike hG.1
  refine va_newaK (atype := .int) hx hb (hts _ hw) rfl hd rfl hn hN hbytes hcells hslots rfl fun H1 cA e1 z1 o1 hAr hNm => ?_
  have hcA : cA = q_cI G := Option.some.inj (hNm.symm.trans (show s.vm.findClass _ = some (q_cI G) from (hK.2 0 _ rfl).2))
  subst hcA
  obtain ⟨hno, hP1⟩ := hP.new (e := k_ar N (fun _ => 0)) z1 o1 e1
  exact k H.size hno p e s m args below meth c H1 locs ls C0 hP1 ⟨Nat.le_trans hS.1 (by omega), fun x h1 h2 => (o1 x (Nat.lt_of_lt_of_le h1 hS.1)).trans (hS.2.1 x h1 h2), hS.2.2⟩ hl
theorem x_newL {n : Int32} (N : Nat) (hw : Cond.arrayClass .long ∈ q_TB) (hd : decode (q_cc M) pc = .ok (.newarray .long, 2)) (hn : ¬ n < 0) (hN : n.toNatClampNeg = N) (hbytes : N * 8 ≤ 536870912) (hcells : cells + 1 ≤ R.cells) (hslots : slots + N ≤ R.slots) (k : ∀ q : Nat, h q = none → q_X G M R F (pc + 2) lv (.ref q :: st) (va_up h q (some (k_al N (fun _ => 0)))) (cells + 1) (slots + N)) : q_X G M R F pc lv (.int n :: st) h cells slots := by
  intro p e s m args below meth c H locs ls C0 hP hS hl
  obtain ⟨hx, hb, -, hown, hts, -, -, -, hW, -, -, hG⟩ := id C0
  have hK := va_K.moved hW.alike hG.1
  refine va_newaK (atype := .long) hx hb (hts _ hw) rfl hd rfl hn hN hbytes hcells hslots rfl fun H1 cA e1 z1 o1 hAr hNm => ?_
  have hcA : cA = q_cL G := Option.some.inj (hNm.symm.trans (show s.vm.findClass _ = some (q_cL G) from (hK.2 1 _ rfl).2))
  subst hcA
  obtain ⟨hno, hP1⟩ := hP.new (e := k_al N (fun _ => 0)) z1 o1 e1
  exact k H.size hno p e s m args below meth c H1 locs ls C0 hP1 ⟨Nat.le_trans hS.1 (by omega), fun x h1 h2 => (o1 x (Nat.lt_of_lt_of_le h1 hS.1)).trans (hS.2.1 x h1 h2), hS.2.2⟩ hl
theorem x_objInit {idx a : Nat} (h1 : Cond.methodLink (q_y M).cls idx objectInit ∈ q_TB) (h2 : Cond.instanceMethod objectInit ∈ q_TB) (h3 : Cond.code objectInit ⟨#[0xb1]⟩ 1 none ∈ q_TB) (hd : decode (q_cc M) pc = .ok (.invokespecial idx, 3)) (hf : 1 ≤ R.frames) (hlo : (st.map fun v => v.category).sum + 12 ≤ R.locals) (k : q_X G M R F (pc + 3) lv st h cells slots) : q_X G M R F pc lv (.ref a :: st) h cells slots := by
  intro p e s m args below meth c H locs ls C0 hP hS hl
  obtain ⟨hx, hb, hml, hown, hts, -⟩ := id C0
  refine W.objInit hx hb hown (hts _ h1) (hts _ h2) (hts _ h3) rfl (by rw [hml]; exact hl.1) rfl hd hf (by show 2 * 0 + _ + 12 ≤ _; omega) ?_
  exact k p e s m args below meth c H locs ls C0 hP hS hl
end QHeap
section QCalls
variable {G : q_G} {M M' : q_M} {R : Room} {F : q_F} {pc : Nat} {lv : List (Nat × Value)} {st : List Value} {h : q_H} {cells slots mc ms : Nat} {Q : q_Q}
theorem q_blind {as : List Value} : FrameBlind (q_Pc G as h) := fun a U g mk q => q
theorem q_paid {p : Program} {s : State} {m : MethodId} {args : Array Value} {meth : Method} {c : Code} (C0 : q_X0 G M p s m args meth c) (hc : q_hd M' ∈ q_TB) : ∀ w ∈ q_ws M', ∀ (a' : Array Value) (U : State), s.WarmedH U.vm → w.before a' U = true := by
  have hG : GoodIn q_TB (q_ws M') := by
    intro w hw
    have hin : w ∈ q_TB := by
      rcases List.mem_cons.mp hw with rfl | hw
      · exact hc
      · exact hw
    exact ⟨hin, good_of_word (List.mem_filter.mp hin).2⟩
  exact pay_in C0.2.2.2.2.1 hG
theorem q_pre {p : Program} {s : State} {m : MethodId} {args : Array Value} {meth : Method} {c : Code} {H : Heap} {as : List Value} (C0 : q_X0 G M p s m args meth c) (hP : q_P G h H) : ∀ U : State, U.heap = H → s.WarmedH U.vm → q_Pc G as h as.toArray U := by
  intro U hU hW
  obtain ⟨-, -, -, -, -, -, -, -, hW0, -, -, hG⟩ := id C0
  exact ⟨rfl, State.WarmedH.trans hW0 hW, by rw [hU]; exact hP, hG⟩
theorem q_ofRun {p : Program} {e : Env} {s : State} {m : MethodId} {args : Array Value} {below : List Frame} {meth : Method} {c : Code} {H : Heap} {locs : List Loc} {ls : Array Slot} {st0 : List Value} {a : Array Value}
    (hr : va_Run p (q_l G) e R s m args below meth c H locs cells slots mc ms (F0 m pc ls st0) st (q_Qc G Q a) (q_A G)) (C0 : q_X0 G M p s m args meth c) (hS : va_S (q_A G) s.heap H locs) (hl : lv_has ls (q_nL M) lv)
    (kk : ∀ (r : Option Value) (h' : q_H), Q r h' → q_X G M R F (pc + 3) lv (r.toList ++ st) h' (cells + mc) (slots + ms)) : W p (q_l G) e R s m args below meth c H locs cells slots (F s args below) (F0 m pc ls st0) := by
  intro T hT X
  obtain ⟨v, st₀, t, T', L, h0, X', hL, e1, e2, ⟨r, h', hv, hQ, hP', hsz⟩, stp⟩ := hr T hT X
  cases hv
  obtain ⟨-, -, -, -, -, -, -, -, -, hS0, -, -⟩ := id C0
  have hP2 : q_P G h' T'.heap := by rw [e1]; exact hP'
  have hS2 : va_S (q_A G) s.heap T'.heap (locs ++ L) := by
    refine ⟨Nat.le_trans hS.1 (by rw [e1, ← h0]; exact hsz), fun q h1 h2 => ?_, fun z hz => ?_⟩
    · have hq : q < (q_s G).heap.size := Nat.lt_of_not_le h2
      rw [hP2.2.2.1 q hq h2, hS0.2.1 q hq h2]
    · rcases List.mem_append.mp hz with hz | hz
      · exact hS.2.2 z hz
      · exact hL z hz
  obtain ⟨t2, a1, b1⟩ := kk v h' hQ p e s m args below meth c T'.heap (locs ++ L) ls C0 hP2 hS2 hl T' rfl X'
  exact ⟨t2, stp t2 a1, b1⟩
theorem q_recv {ci a N : Nat} {C : String} {T : u_T} {fs : List Value} {p : Program} {s : State} {m : MethodId} {args : Array Value} {meth : Method} {c : Code} {H : Heap} (C0 : q_X0 G M p s m args meth c) (hP : q_P G h H) (hc : vwCl[ci]? = some (C, T, N)) (ha : h a = some (k_ob ci fs)) : ∃ cellB : Cell, H[a]? = some cellB ∧ cellB.vm.isStatics = false ∧ s.vm.findClass C = some cellB.cls := by
  obtain ⟨-, -, -, -, -, -, -, -, hW, -, -, hG⟩ := id C0
  exact va_recv (va_K.moved hW.alike hG.1) (hP.at ha) hc (q0 := 0) rfl
/-- invokevirtual of a method of our own -/
theorem x_callV {idx n a ci N : Nat} {C : String} {T : u_T} {fs : List Value} (As : List Value) (hs : q_SP G M' (.ref a :: As) h mc ms Q) (hd : decode (q_cc M) pc = .ok (.invokevirtual idx, 3))
    (w1 : Cond.methodLink (q_y M).cls idx (q_y M') ∈ q_TB) (w2 : Cond.instanceMethod (q_y M') ∈ q_TB) (w3 : Cond.selects C (q_y M') (q_y M') ∈ q_TB) (w4 : Cond.initialized C ∈ q_TB) (w5 : q_hd M' ∈ q_TB)
    (hn : As.length = n) (hy : (q_y M').cls = C ∧ (q_y M').cls ≠ "java/lang/invoke/MethodHandle" ∧ (q_y M').cls ≠ "java/lang/invoke/VarHandle" ∧ (parseMethodDescriptor (q_y M').desc).map (fun d => d.parameters.length) = some n)
    (hR : q_fr M' + 1 ≤ R.frames ∧ 8 + (q_nL M' + 11) + q_lo M' ≤ R.locals) (hc : vwCl[ci]? = some (C, T, N)) (ha : h a = some (k_ob ci fs)) (hst : (st.map fun v => v.category).sum ≤ 8) (hf : cells + mc ≤ R.cells ∧ slots + ms ≤ R.slots)
    (kk : ∀ (r : Option Value) (h' : q_H), Q r h' → q_X G M R F (pc + 3) lv (r.toList ++ st) h' (cells + mc) (slots + ms)) : q_X G M R F pc lv (As.reverse ++ .ref a :: st) h cells slots := by
  intro p e s m args below meth c H locs ls C0 hP hS hl
  obtain ⟨hx, hb, hml, hown, hts, -⟩ := id C0
  obtain ⟨hyC, hy1, hy2, hy3⟩ := hy
  have cw : CallW R s args (q_y M).cls C idx (q_y M') (q_cc M') (q_nL M') (q_ret M') (q_ws M') (q_R M' mc ms) mc ms n :=
    ⟨⟨rfl, rfl, hR.1, hR.2, q_paid C0 w5, List.mem_cons_self, hts _ w5, by rw [hyC]; exact hts _ w4, ⟨hy1, hy2⟩, fun sig hsg => by rw [hsg] at hy3; exact (Option.some.inj hy3).symm, hts _ w1⟩, hts _ w2, hts _ w3⟩
  exact q_ofRun (va_runV (As := As) (rest := st) ⟨hx, hb, hml, hown, hts⟩ hs cw ⟨q_blind, q_recv C0 hP hc ha, q_pre C0 hP⟩ rfl hn hl.1 rfl (lv_room hst) hd hf) C0 hS hl kk
/-- invokespecial of a constructor of our own -/
theorem x_callI {idx n a : Nat} (As : List Value) (hs : q_SP G M' (.ref a :: As) h mc ms Q) (hd : decode (q_cc M) pc = .ok (.invokespecial idx, 3)) (hret : q_ret M' = none)
    (w1 : Cond.methodLink (q_y M).cls idx (q_y M') ∈ q_TB) (w2 : Cond.instanceMethod (q_y M') ∈ q_TB) (w4 : Cond.initialized (q_y M').cls ∈ q_TB) (w5 : q_hd M' ∈ q_TB)
    (hn : As.length = n) (hy : (q_y M').name = "<init>" ∧ (q_y M').cls ≠ "java/lang/invoke/MethodHandle" ∧ (q_y M').cls ≠ "java/lang/invoke/VarHandle" ∧ (parseMethodDescriptor (q_y M').desc).map (fun d => d.parameters.length) = some n)
    (hR : q_fr M' + 1 ≤ R.frames ∧ 8 + (q_nL M' + 11) + q_lo M' ≤ R.locals) (hst : (st.map fun v => v.category).sum ≤ 8) (hf : cells + mc ≤ R.cells ∧ slots + ms ≤ R.slots)
    (kk : ∀ (r : Option Value) (h' : q_H), Q r h' → q_X G M R F (pc + 3) lv (r.toList ++ st) h' (cells + mc) (slots + ms)) : q_X G M R F pc lv (As.reverse ++ .ref a :: st) h cells slots := by
  intro p e s m args below meth c H locs ls C0 hP hS hl
  obtain ⟨hx, hb, hml, hown, hts, -⟩ := id C0
  obtain ⟨hy0, hy1, hy2, hy3⟩ := hy
  have hc5 : Cond.code (q_y M') (q_cc M') (q_nL M') none ∈ q_ws M' := by rw [← hret]; exact List.mem_cons_self
  have cw : CallB R s args (q_y M).cls idx (q_y M') (q_cc M') (q_nL M') none (q_ws M') (q_R M' mc ms) mc ms n ∧ (q_y M').name = "<init>" ∧ (Cond.instanceMethod (q_y M')).before args s = true :=
    ⟨⟨rfl, rfl, hR.1, hR.2, q_paid C0 w5, hc5, by rw [← hret]; exact hts _ w5, hts _ w4, ⟨hy1, hy2⟩, fun sig hsg => by rw [hsg] at hy3; exact (Option.some.inj hy3).symm, hts _ w1⟩, hy0, hts _ w2⟩
  exact q_ofRun (va_runI (As := As) (rest := st) ⟨hx, hb, hml, hown, hts⟩ hs cw ⟨q_blind, q_pre C0 hP⟩ rfl hn hl.1 rfl (lv_room hst) hd hf) C0 hS hl kk
/-- invokestatic -/
theorem x_callS {idx n : Nat} (As : List Value) (hs : q_SP G M' As h mc ms Q) (hd : decode (q_cc M) pc = .ok (.invokestatic idx, 3))
    (w1 : Cond.methodLink (q_y M).cls idx (q_y M') ∈ q_TB) (w2 : Cond.static (q_y M') ∈ q_TB) (w4 : Cond.initialized (q_y M').cls ∈ q_TB) (w5 : q_hd M' ∈ q_TB)
    (hn : As.length = n) (hy : (q_y M').cls ≠ "java/lang/invoke/MethodHandle" ∧ (q_y M').cls ≠ "java/lang/invoke/VarHandle" ∧ (parseMethodDescriptor (q_y M').desc).map (fun d => d.parameters.length) = some n)
    (hR : q_fr M' + 1 ≤ R.frames ∧ 8 + (q_nL M' + 11) + q_lo M' ≤ R.locals) (hst : (st.map fun v => v.category).sum ≤ 8) (hf : cells + mc ≤ R.cells ∧ slots + ms ≤ R.slots)
    (kk : ∀ (r : Option Value) (h' : q_H), Q r h' → q_X G M R F (pc + 3) lv (r.toList ++ st) h' (cells + mc) (slots + ms)) : q_X G M R F pc lv (As.reverse ++ st) h cells slots := by
  intro p e s m args below meth c H locs ls C0 hP hS hl
  obtain ⟨hx, hb, hml, hown, hts, -⟩ := id C0
  obtain ⟨hy1, hy2, hy3⟩ := hy
  have cw : CallB R s args (q_y M).cls idx (q_y M') (q_cc M') (q_nL M') (q_ret M') (q_ws M') (q_R M' mc ms) mc ms n ∧ (Cond.static (q_y M')).before args s = true :=
    ⟨⟨rfl, rfl, hR.1, hR.2, q_paid C0 w5, List.mem_cons_self, hts _ w5, hts _ w4, ⟨hy1, hy2⟩, fun sig hsg => by rw [hsg] at hy3; exact (Option.some.inj hy3).symm, hts _ w1⟩, hts _ w2⟩
  exact q_ofRun (va_runS (As := As) (rest := st) ⟨hx, hb, hml, hown, hts⟩ hs cw ⟨q_blind, q_pre C0 hP⟩ rfl hn hl.1 rfl (lv_room hst) hd hf) C0 hS hl kk
/-- a private static of a nest mate -/
theorem x_callSN {idx n : Nat} {host : String} (As : List Value) (hs : q_SP G M' As h mc ms Q) (hd : decode (q_cc M) pc = .ok (.invokestatic idx, 3))
    (w1 : q_ok G → va_Nw (.methodLinkNest (q_y M).cls idx (q_y M') host) (q_s G)) (w2 : Cond.static (q_y M') ∈ q_TB) (w4 : Cond.initialized (q_y M').cls ∈ q_TB) (w5 : q_hd M' ∈ q_TB)
    (hn : As.length = n) (hy : (q_y M').cls ≠ "java/lang/invoke/MethodHandle" ∧ (q_y M').cls ≠ "java/lang/invoke/VarHandle" ∧ (parseMethodDescriptor (q_y M').desc).map (fun d => d.parameters.length) = some n)
    (hR : q_fr M' + 1 ≤ R.frames ∧ 8 + (q_nL M' + 11) + q_lo M' ≤ R.locals) (hst : (st.map fun v => v.category).sum ≤ 8) (hf : cells + mc ≤ R.cells ∧ slots + ms ≤ R.slots)
    (kk : ∀ (r : Option Value) (h' : q_H), Q r h' → q_X G M R F (pc + 3) lv (r.toList ++ st) h' (cells + mc) (slots + ms)) : q_X G M R F pc lv (As.reverse ++ st) h cells slots := by
  intro p e s m args below meth c H locs ls C0 hP hS hl
  obtain ⟨hx, hb, hml, hown, hts, -, -, -, hW, -, -, hG⟩ := id C0
  obtain ⟨hy1, hy2, hy3⟩ := hy
  have cw : va_CN R s args (q_y M).cls idx (q_y M') host (q_cc M') (q_nL M') (q_ret M') (q_ws M') (q_R M' mc ms) mc ms n ∧ (Cond.static (q_y M')).before args s = true ∧ True :=
    ⟨⟨⟨rfl, rfl, hR.1, hR.2, q_paid C0 w5, List.mem_cons_self⟩, hts _ w5, hts _ w4, ⟨hy1, hy2⟩, fun sig hsg => by rw [hsg] at hy3; exact (Option.some.inj hy3).symm, va_Nw.use rfl (va_Nw.warmM hW (w1 hG))⟩, hts _ w2, trivial⟩
  exact q_ofRun (va_runSN (As := As) (rest := st) ⟨hx, hb, hml, hown, hts⟩ hs cw ⟨q_blind, q_pre C0 hP⟩ rfl hn hl.1 rfl (lv_room hst) hd hf) C0 hS hl kk
/-- a private constructor of a nest mate -/
theorem x_callIN {idx n a : Nat} {host : String} (As : List Value) (hs : q_SP G M' (.ref a :: As) h mc ms Q) (hd : decode (q_cc M) pc = .ok (.invokespecial idx, 3)) (hret : q_ret M' = none)
    (w1 : q_ok G → va_Nw (.methodLinkNest (q_y M).cls idx (q_y M') host) (q_s G)) (w2 : Cond.instanceMethod (q_y M') ∈ q_TB) (w4 : Cond.initialized (q_y M').cls ∈ q_TB) (w5 : q_hd M' ∈ q_TB)
    (hn : As.length = n) (hy : (q_y M').name = "<init>" ∧ (q_y M').cls ≠ "java/lang/invoke/MethodHandle" ∧ (q_y M').cls ≠ "java/lang/invoke/VarHandle" ∧ (parseMethodDescriptor (q_y M').desc).map (fun d => d.parameters.length) = some n)
    (hR : q_fr M' + 1 ≤ R.frames ∧ 8 + (q_nL M' + 11) + q_lo M' ≤ R.locals) (hst : (st.map fun v => v.category).sum ≤ 8) (hf : cells + mc ≤ R.cells ∧ slots + ms ≤ R.slots)
    (kk : ∀ (r : Option Value) (h' : q_H), Q r h' → q_X G M R F (pc + 3) lv (r.toList ++ st) h' (cells + mc) (slots + ms)) : q_X G M R F pc lv (As.reverse ++ .ref a :: st) h cells slots := by
  intro p e s m args below meth c H locs ls C0 hP hS hl
  obtain ⟨hx, hb, hml, hown, hts, -, -, -, hW, -, -, hG⟩ := id C0
  obtain ⟨hy0, hy1, hy2, hy3⟩ := hy
  have hc5 : Cond.code (q_y M') (q_cc M') (q_nL M') none ∈ q_ws M' := by rw [← hret]; exact List.mem_cons_self
  have cw : va_CN R s args (q_y M).cls idx (q_y M') host (q_cc M') (q_nL M') none (q_ws M') (q_R M' mc ms) mc ms n ∧ (q_y M').name = "<init>" ∧ (Cond.instanceMethod (q_y M')).before args s = true :=
    ⟨⟨⟨rfl, rfl, hR.1, hR.2, q_paid C0 w5, hc5⟩, by rw [← hret]; exact hts _ w5, hts _ w4, ⟨hy1, hy2⟩, fun sig hsg => by rw [hsg] at hy3; exact (Option.some.inj hy3).symm, va_Nw.use rfl (va_Nw.warmM hW (w1 hG))⟩, hy0, hts _ w2⟩
  exact q_ofRun (va_runIN (As := As) (rest := st) ⟨hx, hb, hml, hown, hts⟩ hs cw ⟨q_blind, q_pre C0 hP⟩ rfl hn hl.1 rfl (lv_room hst) hd hf) C0 hS hl kk
end QCalls
section QEnds
variable {G : q_G} {M : q_M} {pc : Nat} {lv : List (Nat × Value)} {h : q_H} {cells slots mc ms : Nat} {Q : q_Q} {QX : String → q_H → Prop} {R : Room}
theorem q_end {H : Heap} {s : State} {locs : List Loc} {args : Array Value} {r : Option Value} (hQ : Q r h) (hP : q_P G h H) (hS : va_S (q_A G) s.heap H locs) : ∀ t : State, t.heap = H → s.WarmedH t.vm → q_Qc G Q args s (.returned r) t := by
  intro t ht _
  exact ⟨r, h, rfl, hQ, by rw [ht]; exact hP, by rw [ht]; exact hS.1⟩
theorem x_iret {x : Int32} {ty : FieldType} (hr : q_ret M = some ty) (hn : narrow ty (.int x) = .int x) (hd : decode (q_cc M) pc = .ok (.ireturn, 1)) (hc : cells ≤ mc) (hs : slots ≤ ms) (hQ : Q (some (.int x)) h) : q_X G M R (q_FN G Q mc ms) pc lv [.int x] h cells slots := by
  intro p e s m args below meth c H locs ls C0 hP hS hl
  obtain ⟨hx, hb, -, -, -, hret, hlocks, -⟩ := id C0
  exact W.widen hc hs (W.zret hx hb (hret.trans hr) hn (q_end hQ hP hS) hS.2.2 hd hlocks)
theorem x_vret (hr : q_ret M = none) (hd : decode (q_cc M) pc = .ok (.return_, 1)) (hc : cells ≤ mc) (hs : slots ≤ ms) (hQ : Q none h) : q_X G M R (q_FN G Q mc ms) pc lv [] h cells slots := by
  intro p e s m args below meth c H locs ls C0 hP hS hl
  obtain ⟨hx, hb, -, -, -, hret, hlocks, -⟩ := id C0
  exact W.widen hc hs (W.vret hx hb (hret.trans hr) (q_end hQ hP hS) hS.2.2 hd hlocks)
theorem x_lret {x : Int64} (hr : q_ret M = some .long) (hd : decode (q_cc M) pc = .ok (.lreturn, 1)) (hc : cells ≤ mc) (hs : slots ≤ ms) (hQ : Q (some (.long x)) h) : q_X G M R (q_FN G Q mc ms) pc lv [.long x] h cells slots := by
  intro p e s m args below meth c H locs ls C0 hP hS hl
  obtain ⟨hx, hb, -, -, -, hret, hlocks, -⟩ := id C0
  exact W.widen hc hs (W.lret hx hb (hret.trans hr) (q_end hQ hP hS) hS.2.2 hd hlocks)
theorem x_aret {a : Nat} {n : String} (hr : q_ret M = some (.object n)) (hd : decode (q_cc M) pc = .ok (.areturn, 1)) (hc : cells ≤ mc) (hs : slots ≤ ms) (hQ : Q (some (.ref a)) h) : q_X G M R (q_FN G Q mc ms) pc lv [.ref a] h cells slots := by
  intro p e s m args below meth c H locs ls C0 hP hS hl
  obtain ⟨hx, hb, -, -, -, hret, hlocks, -⟩ := id C0
  exact W.widen hc hs (W.aret hx hb (hret.trans hr) (Or.inl ⟨_, rfl⟩) (Or.inr ⟨_, rfl⟩) (q_end hQ hP hS) hS.2.2 hd hlocks)
/-- a body that may throw ends as one that doesn't -/
theorem x_fx {st : List Value} (k : q_X G M R (q_FN G Q mc ms) pc lv st h cells slots) : q_X G M R (q_FX G Q QX mc ms) pc lv st h cells slots := by
  intro p e s m args below meth c H locs ls C0 hP hS hl
  exact vx_ret (k p e s m args below meth c H locs ls C0 hP hS hl)
/-- the contract out of the body -/
theorem q_enter {as : List Value} (hy : plainName (q_y M).cls = true) (hh : q_hh M = []) (hlen : (lg_sl as).length ≤ q_nL M) (body : q_X G M (q_R M mc ms) (q_FN G Q mc ms) 0 (lv_args 0 as) [] h 0 0) : q_SP G M as h mc ms Q := by
  refine Met.ofW (cc := q_cc M) (maxL := q_nL M) (ret := q_ret M) (ws' := q_TB) hy rfl ?_
  intro p e s m args below meth c s₁ B hml hv
  obtain ⟨rfl, hW, hP, hG⟩ := hv
  have hts := atoms_spec (ws := q_ws M) B.pre
  have hin := (name_of_methodNamed B.named B.method).1
  have hl := lv_entry as (n := q_nL M) hlen
  rw [lg_entry_eq]
  have ht : c.exceptionTable.toList = tableOf (q_hh M) := by
    obtain ⟨meth9, c9, h1, h2, -, -, -, -, h7, -⟩ := Cond.code_spec B.named (hts _ List.mem_cons_self)
    cases Option.some.inj (h1.symm.trans B.method)
    cases Option.some.inj (h2.symm.trans (Stand.of_body B).code)
    rw [Array.isEmpty_iff.mp h7, hh]
    rfl
  exact body p e s m as.toArray below meth c s.heap [] _ ⟨B.exec, B.bytes, hml, findClass_of_methodNamed B.named, fun w hw => hts w (List.mem_cons_of_mem _ hw), B.returns, B.notSynchronized, hin, hW, hP.2, ht, hG⟩ hP va_S.rf hl
theorem q_enterX {as : List Value} (hy : plainName (q_y M).cls = true) (hh : q_hh M = []) (hlen : (lg_sl as).length ≤ q_nL M) (body : q_X G M (q_R M mc ms) (q_FX G Q QX mc ms) 0 (lv_args 0 as) [] h 0 0) : q_SX G M as h mc ms Q QX := by
  refine vx_ofW (cc := q_cc M) (maxL := q_nL M) (ret := q_ret M) (ws' := q_TB) hy rfl ?_
  intro p e s m args below meth c s₁ B hml htb hv
  obtain ⟨rfl, hW, hP, hG⟩ := hv
  have hts := atoms_spec (ws := q_ws M) B.pre
  have hin := (name_of_methodNamed B.named B.method).1
  have hl := lv_entry as (n := q_nL M) hlen
  rw [lg_entry_eq]
  have ht : c.exceptionTable.toList = tableOf (q_hh M) := by
    rw [hh]
    cases hc : c.exceptionTable.toList with
    | nil => rfl
    | cons x l => exact (htb x (by rw [hc]; exact List.mem_cons_self)).elim
  exact body p e s m as.toArray below meth c s.heap [] _ ⟨B.exec, B.bytes, hml, findClass_of_methodNamed B.named, fun w hw => hts w (List.mem_cons_of_mem _ hw), B.returns, B.notSynchronized, hin, hW, hP.2, ht, hG⟩ hP va_S.rf hl
/-- weaker ends -/
theorem q_SP.to {as : List Value} {Q' : q_Q} (hs : q_SP G M as h mc ms Q) (hq : ∀ r h', Q r h' → Q' r h') : q_SP G M as h mc ms Q' := by
  intro p e ha hc hk s m args below hf hsp hP hK
  obtain ⟨n, o, h1, h2, h3, h4, h5⟩ := hs p e ha hc hk s m args below hf hsp hP hK
  obtain ⟨r, h', e1, e2, e3⟩ := h4
  exact ⟨n, o, h1, h2, h3, ⟨r, h', e1, hq r h' e2, e3⟩, h5⟩
end QEnds
end
