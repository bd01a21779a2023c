section
-- ===== PART A: goes FIRST, ahead of the names: the tables' words, and 'selects' of the private methods out of them =====
/-- a private method of a class that the tables say can be made, by its rows of tables_1 -/
def lw_okq (q : MethodName × Nat) : Prop := (q.1.cls ≠ "java/lang/invoke/MethodHandle" ∧ q.1.cls ≠ "java/lang/invoke/VarHandle") ∧ Cond.instantiable q.1.cls q.2 ∈ tables_1 ∧ Cond.privateMethod q.1 ∈ tables_1 ∧ Cond.instanceMethod q.1 ∈ tables_1
theorem lw_p0 : lw_okq (⟨"MothsShare", "noted", "(I)I"⟩, 9) := ⟨⟨by decide +kernel, by decide +kernel⟩, List.mem_of_getElem? (i := 14) (by decide +kernel), List.mem_of_getElem? (i := 193) (by decide +kernel), List.mem_of_getElem? (i := 194) (by decide +kernel)⟩
theorem lw_p1 : lw_okq (⟨"MothsShare$Share", "setEach", "(I)I"⟩, 14) := ⟨⟨by decide +kernel, by decide +kernel⟩, List.mem_of_getElem? (i := 22) (by decide +kernel), List.mem_of_getElem? (i := 221) (by decide +kernel), List.mem_of_getElem? (i := 222) (by decide +kernel)⟩
theorem lw_p2 : lw_okq (⟨"MothsShare$Share", "setWant", "(I)I"⟩, 14) := ⟨⟨by decide +kernel, by decide +kernel⟩, List.mem_of_getElem? (i := 22) (by decide +kernel), List.mem_of_getElem? (i := 225) (by decide +kernel), List.mem_of_getElem? (i := 226) (by decide +kernel)⟩
theorem lw_p3 : lw_okq (⟨"MothsShare$Share", "setMood", "(I)I"⟩, 14) := ⟨⟨by decide +kernel, by decide +kernel⟩, List.mem_of_getElem? (i := 22) (by decide +kernel), List.mem_of_getElem? (i := 229) (by decide +kernel), List.mem_of_getElem? (i := 230) (by decide +kernel)⟩
theorem lw_p4 : lw_okq (⟨"MothsShare$Share", "hungerAt", "(III)I"⟩, 14) := ⟨⟨by decide +kernel, by decide +kernel⟩, List.mem_of_getElem? (i := 22) (by decide +kernel), List.mem_of_getElem? (i := 250) (by decide +kernel), List.mem_of_getElem? (i := 251) (by decide +kernel)⟩
theorem lw_p5 : lw_okq (⟨"MothsShare$Deed", "nextToken", "()V"⟩, 7) := ⟨⟨by decide +kernel, by decide +kernel⟩, List.mem_of_getElem? (i := 112) (by decide +kernel), List.mem_of_getElem? (i := 283) (by decide +kernel), List.mem_of_getElem? (i := 284) (by decide +kernel)⟩
theorem lw_p6 : lw_okq (⟨"MothsShare$Deed", "readWord", "()V"⟩, 7) := ⟨⟨by decide +kernel, by decide +kernel⟩, List.mem_of_getElem? (i := 112) (by decide +kernel), List.mem_of_getElem? (i := 290) (by decide +kernel), List.mem_of_getElem? (i := 291) (by decide +kernel)⟩
theorem lw_p7 : lw_okq (⟨"MothsShare$Deed", "isWord", "(Ljava/lang/String;)Z"⟩, 7) := ⟨⟨by decide +kernel, by decide +kernel⟩, List.mem_of_getElem? (i := 112) (by decide +kernel), List.mem_of_getElem? (i := 304) (by decide +kernel), List.mem_of_getElem? (i := 305) (by decide +kernel)⟩
theorem lw_p8 : lw_okq (⟨"MothsShare$Deed", "readFigures", "()V"⟩, 7) := ⟨⟨by decide +kernel, by decide +kernel⟩, List.mem_of_getElem? (i := 112) (by decide +kernel), List.mem_of_getElem? (i := 359) (by decide +kernel), List.mem_of_getElem? (i := 360) (by decide +kernel)⟩
theorem lw_p9 : lw_okq (⟨"MothsShare$Deed", "readNumbers", "(I)Z"⟩, 7) := ⟨⟨by decide +kernel, by decide +kernel⟩, List.mem_of_getElem? (i := 112) (by decide +kernel), List.mem_of_getElem? (i := 366) (by decide +kernel), List.mem_of_getElem? (i := 367) (by decide +kernel)⟩
theorem lw_p10 : lw_okq (⟨"MothsShare$Deed", "tellItem", "(LMothsShare$Share;I)I"⟩, 7) := ⟨⟨by decide +kernel, by decide +kernel⟩, List.mem_of_getElem? (i := 112) (by decide +kernel), List.mem_of_getElem? (i := 370) (by decide +kernel), List.mem_of_getElem? (i := 371) (by decide +kernel)⟩
theorem lw_p11 : lw_okq (⟨"MothsShare$Plan", "choose", "(LMothsShare$Share;III)V"⟩, 7) := ⟨⟨by decide +kernel, by decide +kernel⟩, List.mem_of_getElem? (i := 83) (by decide +kernel), List.mem_of_getElem? (i := 419) (by decide +kernel), List.mem_of_getElem? (i := 420) (by decide +kernel)⟩
theorem lw_p12 : lw_okq (⟨"MothsShare$Plan", "leastFrom", "(II)I"⟩, 7) := ⟨⟨by decide +kernel, by decide +kernel⟩, List.mem_of_getElem? (i := 83) (by decide +kernel), List.mem_of_getElem? (i := 423) (by decide +kernel), List.mem_of_getElem? (i := 424) (by decide +kernel)⟩
theorem lw_p13 : lw_okq (⟨"MothsShare$Plan", "follow", "(I)V"⟩, 7) := ⟨⟨by decide +kernel, by decide +kernel⟩, List.mem_of_getElem? (i := 83) (by decide +kernel), List.mem_of_getElem? (i := 434) (by decide +kernel), List.mem_of_getElem? (i := 435) (by decide +kernel)⟩
theorem lw_p14 : lw_okq (⟨"MothsShare$Share", "goneAhead", "(I)I"⟩, 14) := ⟨⟨by decide +kernel, by decide +kernel⟩, List.mem_of_getElem? (i := 22) (by decide +kernel), List.mem_of_getElem? (i := 525) (by decide +kernel), List.mem_of_getElem? (i := 526) (by decide +kernel)⟩
theorem lw_p15 : lw_okq (⟨"MothsShare$Share", "favourite", "(II)I"⟩, 14) := ⟨⟨by decide +kernel, by decide +kernel⟩, List.mem_of_getElem? (i := 22) (by decide +kernel), List.mem_of_getElem? (i := 530) (by decide +kernel), List.mem_of_getElem? (i := 531) (by decide +kernel)⟩
def lw_privs_1 : List (MethodName × Nat) := [(⟨"MothsShare", "noted", "(I)I"⟩, 9), (⟨"MothsShare$Share", "setEach", "(I)I"⟩, 14), (⟨"MothsShare$Share", "setWant", "(I)I"⟩, 14), (⟨"MothsShare$Share", "setMood", "(I)I"⟩, 14), (⟨"MothsShare$Share", "hungerAt", "(III)I"⟩, 14), (⟨"MothsShare$Deed", "nextToken", "()V"⟩, 7), (⟨"MothsShare$Deed", "readWord", "()V"⟩, 7), (⟨"MothsShare$Deed", "isWord", "(Ljava/lang/String;)Z"⟩, 7), (⟨"MothsShare$Deed", "readFigures", "()V"⟩, 7), (⟨"MothsShare$Deed", "readNumbers", "(I)Z"⟩, 7), (⟨"MothsShare$Deed", "tellItem", "(LMothsShare$Share;I)I"⟩, 7), (⟨"MothsShare$Plan", "choose", "(LMothsShare$Share;III)V"⟩, 7), (⟨"MothsShare$Plan", "leastFrom", "(II)I"⟩, 7), (⟨"MothsShare$Plan", "follow", "(I)V"⟩, 7), (⟨"MothsShare$Share", "goneAhead", "(I)I"⟩, 14), (⟨"MothsShare$Share", "favourite", "(II)I"⟩, 14)]
theorem lw_r1 : ∀ q ∈ lw_privs_1, lw_okq q := List.forall_mem_cons.mpr ⟨lw_p0, List.forall_mem_cons.mpr ⟨lw_p1, List.forall_mem_cons.mpr ⟨lw_p2, List.forall_mem_cons.mpr ⟨lw_p3, List.forall_mem_cons.mpr ⟨lw_p4, List.forall_mem_cons.mpr ⟨lw_p5, List.forall_mem_cons.mpr ⟨lw_p6, List.forall_mem_cons.mpr ⟨lw_p7, List.forall_mem_cons.mpr ⟨lw_p8, List.forall_mem_cons.mpr ⟨lw_p9, List.forall_mem_cons.mpr ⟨lw_p10, List.forall_mem_cons.mpr ⟨lw_p11, List.forall_mem_cons.mpr ⟨lw_p12, List.forall_mem_cons.mpr ⟨lw_p13, List.forall_mem_cons.mpr ⟨lw_p14, List.forall_mem_cons.mpr ⟨lw_p15, fun _ h => absurd h List.not_mem_nil⟩⟩⟩⟩⟩⟩⟩⟩⟩⟩⟩⟩⟩⟩⟩⟩
theorem lw_p16 : lw_okq (⟨"MothsShare$Share", "fits", "(I)Z"⟩, 14) := ⟨⟨by decide +kernel, by decide +kernel⟩, List.mem_of_getElem? (i := 22) (by decide +kernel), List.mem_of_getElem? (i := 560) (by decide +kernel), List.mem_of_getElem? (i := 561) (by decide +kernel)⟩
theorem lw_p17 : lw_okq (⟨"MothsShare$Share", "holesBy", "(II)I"⟩, 14) := ⟨⟨by decide +kernel, by decide +kernel⟩, List.mem_of_getElem? (i := 22) (by decide +kernel), List.mem_of_getElem? (i := 572) (by decide +kernel), List.mem_of_getElem? (i := 573) (by decide +kernel)⟩
theorem lw_p18 : lw_okq (⟨"MothsShare$Share", "greatestHunger", "(II)I"⟩, 14) := ⟨⟨by decide +kernel, by decide +kernel⟩, List.mem_of_getElem? (i := 22) (by decide +kernel), List.mem_of_getElem? (i := 597) (by decide +kernel), List.mem_of_getElem? (i := 598) (by decide +kernel)⟩
theorem lw_p19 : lw_okq (⟨"MothsShareModel", "begins", "()V"⟩, 20) := ⟨⟨by decide +kernel, by decide +kernel⟩, List.mem_of_getElem? (i := 645) (by decide +kernel), List.mem_of_getElem? (i := 651) (by decide +kernel), List.mem_of_getElem? (i := 652) (by decide +kernel)⟩
theorem lw_p20 : lw_okq (⟨"MothsShareModel", "anew", "()V"⟩, 20) := ⟨⟨by decide +kernel, by decide +kernel⟩, List.mem_of_getElem? (i := 645) (by decide +kernel), List.mem_of_getElem? (i := 655) (by decide +kernel), List.mem_of_getElem? (i := 656) (by decide +kernel)⟩
theorem lw_p21 : lw_okq (⟨"MothsShareModel", "bad", "()I"⟩, 20) := ⟨⟨by decide +kernel, by decide +kernel⟩, List.mem_of_getElem? (i := 645) (by decide +kernel), List.mem_of_getElem? (i := 729) (by decide +kernel), List.mem_of_getElem? (i := 730) (by decide +kernel)⟩
theorem lw_p22 : lw_okq (⟨"MothsShareModel", "refuses", "(II)I"⟩, 20) := ⟨⟨by decide +kernel, by decide +kernel⟩, List.mem_of_getElem? (i := 645) (by decide +kernel), List.mem_of_getElem? (i := 733) (by decide +kernel), List.mem_of_getElem? (i := 734) (by decide +kernel)⟩
theorem lw_p23 : lw_okq (⟨"MothsShareModel", "full", "()I"⟩, 20) := ⟨⟨by decide +kernel, by decide +kernel⟩, List.mem_of_getElem? (i := 645) (by decide +kernel), List.mem_of_getElem? (i := 737) (by decide +kernel), List.mem_of_getElem? (i := 738) (by decide +kernel)⟩
theorem lw_p24 : lw_okq (⟨"MothsShareModel", "isMoth", "(I)Z"⟩, 20) := ⟨⟨by decide +kernel, by decide +kernel⟩, List.mem_of_getElem? (i := 645) (by decide +kernel), List.mem_of_getElem? (i := 761) (by decide +kernel), List.mem_of_getElem? (i := 762) (by decide +kernel)⟩
theorem lw_p25 : lw_okq (⟨"MothsShareModel", "isBolt", "(I)Z"⟩, 20) := ⟨⟨by decide +kernel, by decide +kernel⟩, List.mem_of_getElem? (i := 645) (by decide +kernel), List.mem_of_getElem? (i := 765) (by decide +kernel), List.mem_of_getElem? (i := 766) (by decide +kernel)⟩
theorem lw_p26 : lw_okq (⟨"MothsShareModel", "ofBolt", "(II)I"⟩, 20) := ⟨⟨by decide +kernel, by decide +kernel⟩, List.mem_of_getElem? (i := 645) (by decide +kernel), List.mem_of_getElem? (i := 769) (by decide +kernel), List.mem_of_getElem? (i := 770) (by decide +kernel)⟩
theorem lw_p27 : lw_okq (⟨"MothsShareModel", "wants", "(III)I"⟩, 20) := ⟨⟨by decide +kernel, by decide +kernel⟩, List.mem_of_getElem? (i := 645) (by decide +kernel), List.mem_of_getElem? (i := 773) (by decide +kernel), List.mem_of_getElem? (i := 774) (by decide +kernel)⟩
theorem lw_p28 : lw_okq (⟨"MothsShareModel", "reads", "()Z"⟩, 20) := ⟨⟨by decide +kernel, by decide +kernel⟩, List.mem_of_getElem? (i := 645) (by decide +kernel), List.mem_of_getElem? (i := 791) (by decide +kernel), List.mem_of_getElem? (i := 792) (by decide +kernel)⟩
theorem lw_p29 : lw_okq (⟨"MothsShareModel", "scans", "()V"⟩, 20) := ⟨⟨by decide +kernel, by decide +kernel⟩, List.mem_of_getElem? (i := 645) (by decide +kernel), List.mem_of_getElem? (i := 795) (by decide +kernel), List.mem_of_getElem? (i := 796) (by decide +kernel)⟩
theorem lw_p30 : lw_okq (⟨"MothsShareModel", "isAt", "(II)Z"⟩, 20) := ⟨⟨by decide +kernel, by decide +kernel⟩, List.mem_of_getElem? (i := 645) (by decide +kernel), List.mem_of_getElem? (i := 799) (by decide +kernel), List.mem_of_getElem? (i := 800) (by decide +kernel)⟩
theorem lw_p31 : lw_okq (⟨"MothsShareModel", "tellsItem", "(I)Z"⟩, 20) := ⟨⟨by decide +kernel, by decide +kernel⟩, List.mem_of_getElem? (i := 645) (by decide +kernel), List.mem_of_getElem? (i := 818) (by decide +kernel), List.mem_of_getElem? (i := 819) (by decide +kernel)⟩
def lw_privs_2 : List (MethodName × Nat) := [(⟨"MothsShare$Share", "fits", "(I)Z"⟩, 14), (⟨"MothsShare$Share", "holesBy", "(II)I"⟩, 14), (⟨"MothsShare$Share", "greatestHunger", "(II)I"⟩, 14), (⟨"MothsShareModel", "begins", "()V"⟩, 20), (⟨"MothsShareModel", "anew", "()V"⟩, 20), (⟨"MothsShareModel", "bad", "()I"⟩, 20), (⟨"MothsShareModel", "refuses", "(II)I"⟩, 20), (⟨"MothsShareModel", "full", "()I"⟩, 20), (⟨"MothsShareModel", "isMoth", "(I)Z"⟩, 20), (⟨"MothsShareModel", "isBolt", "(I)Z"⟩, 20), (⟨"MothsShareModel", "ofBolt", "(II)I"⟩, 20), (⟨"MothsShareModel", "wants", "(III)I"⟩, 20), (⟨"MothsShareModel", "reads", "()Z"⟩, 20), (⟨"MothsShareModel", "scans", "()V"⟩, 20), (⟨"MothsShareModel", "isAt", "(II)Z"⟩, 20), (⟨"MothsShareModel", "tellsItem", "(I)Z"⟩, 20)]
theorem lw_r2 : ∀ q ∈ lw_privs_2, lw_okq q := List.forall_mem_cons.mpr ⟨lw_p16, List.forall_mem_cons.mpr ⟨lw_p17, List.forall_mem_cons.mpr ⟨lw_p18, List.forall_mem_cons.mpr ⟨lw_p19, List.forall_mem_cons.mpr ⟨lw_p20, List.forall_mem_cons.mpr ⟨lw_p21, List.forall_mem_cons.mpr ⟨lw_p22, List.forall_mem_cons.mpr ⟨lw_p23, List.forall_mem_cons.mpr ⟨lw_p24, List.forall_mem_cons.mpr ⟨lw_p25, List.forall_mem_cons.mpr ⟨lw_p26, List.forall_mem_cons.mpr ⟨lw_p27, List.forall_mem_cons.mpr ⟨lw_p28, List.forall_mem_cons.mpr ⟨lw_p29, List.forall_mem_cons.mpr ⟨lw_p30, List.forall_mem_cons.mpr ⟨lw_p31, fun _ h => absurd h List.not_mem_nil⟩⟩⟩⟩⟩⟩⟩⟩⟩⟩⟩⟩⟩⟩⟩⟩
theorem lw_p32 : lw_okq (⟨"MothsShareModel", "pleases", "(I)Z"⟩, 20) := ⟨⟨by decide +kernel, by decide +kernel⟩, List.mem_of_getElem? (i := 645) (by decide +kernel), List.mem_of_getElem? (i := 834) (by decide +kernel), List.mem_of_getElem? (i := 835) (by decide +kernel)⟩
theorem lw_p33 : lw_okq (⟨"MothsShareModel", "groups", "(I)I"⟩, 20) := ⟨⟨by decide +kernel, by decide +kernel⟩, List.mem_of_getElem? (i := 645) (by decide +kernel), List.mem_of_getElem? (i := 843) (by decide +kernel), List.mem_of_getElem? (i := 844) (by decide +kernel)⟩
theorem lw_p34 : lw_okq (⟨"MothsShareModel", "cheapestBy", "(I)I"⟩, 20) := ⟨⟨by decide +kernel, by decide +kernel⟩, List.mem_of_getElem? (i := 645) (by decide +kernel), List.mem_of_getElem? (i := 847) (by decide +kernel), List.mem_of_getElem? (i := 848) (by decide +kernel)⟩
theorem lw_p35 : lw_okq (⟨"MothsShareModel", "moodBehind", "(II)I"⟩, 20) := ⟨⟨by decide +kernel, by decide +kernel⟩, List.mem_of_getElem? (i := 645) (by decide +kernel), List.mem_of_getElem? (i := 851) (by decide +kernel), List.mem_of_getElem? (i := 852) (by decide +kernel)⟩
theorem lw_p36 : lw_okq (⟨"MothsShareModel", "no", "()I"⟩, 20) := ⟨⟨by decide +kernel, by decide +kernel⟩, List.mem_of_getElem? (i := 645) (by decide +kernel), List.mem_of_getElem? (i := 863) (by decide +kernel), List.mem_of_getElem? (i := 864) (by decide +kernel)⟩
theorem lw_p37 : lw_okq (⟨"MothsShareModel", "keeps", "(JJ)I"⟩, 20) := ⟨⟨by decide +kernel, by decide +kernel⟩, List.mem_of_getElem? (i := 645) (by decide +kernel), List.mem_of_getElem? (i := 868) (by decide +kernel), List.mem_of_getElem? (i := 869) (by decide +kernel)⟩
theorem lw_p38 : lw_okq (⟨"MothsShareModel", "isNext", "()Z"⟩, 20) := ⟨⟨by decide +kernel, by decide +kernel⟩, List.mem_of_getElem? (i := 645) (by decide +kernel), List.mem_of_getElem? (i := 879) (by decide +kernel), List.mem_of_getElem? (i := 880) (by decide +kernel)⟩
theorem lw_p39 : lw_okq (⟨"MothsShareModel", "moodNow", "()I"⟩, 20) := ⟨⟨by decide +kernel, by decide +kernel⟩, List.mem_of_getElem? (i := 645) (by decide +kernel), List.mem_of_getElem? (i := 883) (by decide +kernel), List.mem_of_getElem? (i := 884) (by decide +kernel)⟩
theorem lw_p40 : lw_okq (⟨"MothsShareModel", "givenUp", "()I"⟩, 20) := ⟨⟨by decide +kernel, by decide +kernel⟩, List.mem_of_getElem? (i := 645) (by decide +kernel), List.mem_of_getElem? (i := 895) (by decide +kernel), List.mem_of_getElem? (i := 896) (by decide +kernel)⟩
theorem lw_p41 : lw_okq (⟨"MothsShareModel", "finds", "()V"⟩, 20) := ⟨⟨by decide +kernel, by decide +kernel⟩, List.mem_of_getElem? (i := 645) (by decide +kernel), List.mem_of_getElem? (i := 917) (by decide +kernel), List.mem_of_getElem? (i := 918) (by decide +kernel)⟩
theorem lw_p42 : lw_okq (⟨"MothsShareModel", "bites", "(II)I"⟩, 20) := ⟨⟨by decide +kernel, by decide +kernel⟩, List.mem_of_getElem? (i := 645) (by decide +kernel), List.mem_of_getElem? (i := 921) (by decide +kernel), List.mem_of_getElem? (i := 922) (by decide +kernel)⟩
theorem lw_p43 : lw_okq (⟨"MothsShareModel", "countOf", "(I)I"⟩, 20) := ⟨⟨by decide +kernel, by decide +kernel⟩, List.mem_of_getElem? (i := 645) (by decide +kernel), List.mem_of_getElem? (i := 964) (by decide +kernel), List.mem_of_getElem? (i := 965) (by decide +kernel)⟩
theorem lw_p44 : lw_okq (⟨"MothsShareModel", "mixed", "(JII)J"⟩, 20) := ⟨⟨by decide +kernel, by decide +kernel⟩, List.mem_of_getElem? (i := 645) (by decide +kernel), List.mem_of_getElem? (i := 974) (by decide +kernel), List.mem_of_getElem? (i := 975) (by decide +kernel)⟩
def lw_privs_3 : List (MethodName × Nat) := [(⟨"MothsShareModel", "pleases", "(I)Z"⟩, 20), (⟨"MothsShareModel", "groups", "(I)I"⟩, 20), (⟨"MothsShareModel", "cheapestBy", "(I)I"⟩, 20), (⟨"MothsShareModel", "moodBehind", "(II)I"⟩, 20), (⟨"MothsShareModel", "no", "()I"⟩, 20), (⟨"MothsShareModel", "keeps", "(JJ)I"⟩, 20), (⟨"MothsShareModel", "isNext", "()Z"⟩, 20), (⟨"MothsShareModel", "moodNow", "()I"⟩, 20), (⟨"MothsShareModel", "givenUp", "()I"⟩, 20), (⟨"MothsShareModel", "finds", "()V"⟩, 20), (⟨"MothsShareModel", "bites", "(II)I"⟩, 20), (⟨"MothsShareModel", "countOf", "(I)I"⟩, 20), (⟨"MothsShareModel", "mixed", "(JII)J"⟩, 20)]
theorem lw_r3 : ∀ q ∈ lw_privs_3, lw_okq q := List.forall_mem_cons.mpr ⟨lw_p32, List.forall_mem_cons.mpr ⟨lw_p33, List.forall_mem_cons.mpr ⟨lw_p34, List.forall_mem_cons.mpr ⟨lw_p35, List.forall_mem_cons.mpr ⟨lw_p36, List.forall_mem_cons.mpr ⟨lw_p37, List.forall_mem_cons.mpr ⟨lw_p38, List.forall_mem_cons.mpr ⟨lw_p39, List.forall_mem_cons.mpr ⟨lw_p40, List.forall_mem_cons.mpr ⟨lw_p41, List.forall_mem_cons.mpr ⟨lw_p42, List.forall_mem_cons.mpr ⟨lw_p43, List.forall_mem_cons.mpr ⟨lw_p44, fun _ h => absurd h List.not_mem_nil⟩⟩⟩⟩⟩⟩⟩⟩⟩⟩⟩⟩⟩
def lw_privs : List (MethodName × Nat) := lw_privs_1 ++ (lw_privs_2 ++ (lw_privs_3))
def lw_tbl : List Cond := k2_sels lw_privs ++ tables_1
theorem lw_privs_ok : ∀ q ∈ lw_privs, lw_okq q := by
  show ∀ q ∈ lw_privs_1 ++ (lw_privs_2 ++ (lw_privs_3)), lw_okq q
  exact List.forall_mem_append.mpr ⟨lw_r1, List.forall_mem_append.mpr ⟨lw_r2, lw_r3⟩⟩
end
section
/-! ===== BEGIN words of one list among another's, by their places ===== -/
theorem goodIn_r {big : List Cond} (ws : List Cond) (ps : List Nat) (hp : ws = ps.filterMap (fun i => big[i]?)) (h : ws.all goodWord = true) : GoodIn big ws := by
  intro w hw
  have h1 := List.all_eq_true.mp h w hw
  rw [hp] at hw
  obtain ⟨i, -, hi⟩ := List.mem_filterMap.mp hw
  have hm : w ∈ big := by first | exact List.mem_of_getElem? hi | exact List.getElem?_mem hi
  exact ⟨hm, good_of_word h1⟩
theorem goodIn_app {big a b : List Cond} (ha : GoodIn big a) (hb : GoodIn big b) : GoodIn big (a ++ b) := fun w h => (List.mem_append.mp h).elim (ha w) (hb w)
theorem goodIn_ca {big a b : List Cond} {c : Cond} (ha : GoodIn big (c :: a)) (hb : GoodIn big b) : GoodIn big (c :: (a ++ b)) := fun w h => (List.mem_cons.mp h).elim (fun e => ha w (List.mem_cons.mpr (Or.inl e))) (fun h => (List.mem_append.mp h).elim (fun h => ha w (List.mem_cons.mpr (Or.inr h))) (hb w))
theorem goodIn_sub {big ws : List Cond} (hm : ∀ w ∈ ws, w ∈ big) (h : ws.all goodWord = true) : GoodIn big ws := fun w hw => ⟨hm w hw, good_of_word (List.all_eq_true.mp h w hw)⟩
/-! ===== END ===== -/

/-! ===== BEGIN printed: names, fields, word lists, decode rows ===== -/
def RX0 : String := "MothsShare$Breeds"
def TX0 : u_T := fun k => match k with
  | _ => ("", "", "", false)
def tyX0 : Nat → FieldType := fun k => match k with
  | _ => .int
abbrev wsX00 : List Cond := u_ws RX0 TX0 0
theorem nmX0 : ∀ a, a < 0 → ∀ b, b < 0 → a ≠ b → (TX0 a).2.1 ≠ (TX0 b).2.1 := by decide +kernel
theorem tyX0_ok : ∀ k, k < 0 → parseFieldDescriptor (TX0 k).2.2.1 = some (tyX0 k) := by decide +kernel
abbrev cX0_hunger : ByteArray := prog_2_method_2_code
def yX0_hunger : MethodName := ⟨RX0, "hunger", "(IIII)I"⟩
def RX1 : String := "MothsShare$Deed"
def TX1 : u_T := fun k => match k with
  | 0 => ("MothsShare$Deed", "text", "[B", true)
  | 1 => ("MothsShare$Deed", "length", "I", false)
  | 2 => ("MothsShare$Deed", "place", "I", false)
  | 3 => ("MothsShare$Deed", "token", "I", false)
  | 4 => ("MothsShare$Deed", "start", "I", false)
  | 5 => ("MothsShare$Deed", "value", "I", false)
  | _ => ("MothsShare$Deed", "numbers", "[I", true)
def tyX1 : Nat → FieldType := fun k => match k with
  | 0 => .array .byte
  | 1 => .int
  | 2 => .int
  | 3 => .int
  | 4 => .int
  | 5 => .int
  | _ => .array .int
abbrev wsX10 : List Cond := u_ws RX1 TX1 7
theorem nmX1 : ∀ a, a < 7 → ∀ b, b < 7 → a ≠ b → (TX1 a).2.1 ≠ (TX1 b).2.1 := by decide +kernel
theorem tyX1_ok : ∀ k, k < 7 → parseFieldDescriptor (TX1 k).2.2.1 = some (tyX1 k) := by decide +kernel
abbrev cX1_init : ByteArray := prog_3_method_1_code
def yX1_init : MethodName := ⟨RX1, "<init>", "()V"⟩
abbrev cX1_append : ByteArray := prog_3_method_2_code
def yX1_append : MethodName := ⟨RX1, "append", "(JI)I"⟩
abbrev cX1_empty : ByteArray := prog_3_method_3_code
def yX1_empty : MethodName := ⟨RX1, "empty", "()I"⟩
abbrev cX1_tellTo : ByteArray := prog_3_method_4_code
def yX1_tellTo : MethodName := ⟨RX1, "tellTo", "(LMothsShare$Share;)I"⟩
abbrev cX1_tellItem : ByteArray := prog_3_method_5_code
def yX1_tellItem : MethodName := ⟨RX1, "tellItem", "(LMothsShare$Share;I)I"⟩
abbrev cX1_numbersOf : ByteArray := prog_3_method_6_code
def yX1_numbersOf : MethodName := ⟨RX1, "numbersOf", "(I)I"⟩
abbrev cX1_readNumbers : ByteArray := prog_3_method_7_code
def yX1_readNumbers : MethodName := ⟨RX1, "readNumbers", "(I)Z"⟩
abbrev cX1_nextToken : ByteArray := prog_3_method_8_code
def yX1_nextToken : MethodName := ⟨RX1, "nextToken", "()V"⟩
abbrev cX1_readWord : ByteArray := prog_3_method_9_code
def yX1_readWord : MethodName := ⟨RX1, "readWord", "()V"⟩
abbrev cX1_isWord : ByteArray := prog_3_method_10_code
def yX1_isWord : MethodName := ⟨RX1, "isWord", "(Ljava/lang/String;)Z"⟩
abbrev cX1_wordAt : ByteArray := prog_3_method_11_code
def yX1_wordAt : MethodName := ⟨RX1, "wordAt", "(I)Ljava/lang/String;"⟩
abbrev cX1_readFigures : ByteArray := prog_3_method_12_code
def yX1_readFigures : MethodName := ⟨RX1, "readFigures", "()V"⟩
abbrev cX1_isLetter : ByteArray := prog_3_method_13_code
def yX1_isLetter : MethodName := ⟨RX1, "isLetter", "(B)Z"⟩
abbrev cX1_isFigure : ByteArray := prog_3_method_14_code
def yX1_isFigure : MethodName := ⟨RX1, "isFigure", "(B)Z"⟩
def RX2 : String := "MothsShare$Fraction"
def TX2 : u_T := fun k => match k with
  | 0 => ("MothsShare$Fraction", "above", "J", false)
  | _ => ("MothsShare$Fraction", "below", "J", false)
def tyX2 : Nat → FieldType := fun k => match k with
  | 0 => .long
  | _ => .long
abbrev wsX20 : List Cond := u_ws RX2 TX2 2
theorem nmX2 : ∀ a, a < 2 → ∀ b, b < 2 → a ≠ b → (TX2 a).2.1 ≠ (TX2 b).2.1 := by decide +kernel
theorem tyX2_ok : ∀ k, k < 2 → parseFieldDescriptor (TX2 k).2.2.1 = some (tyX2 k) := by decide +kernel
abbrev cX2_init : ByteArray := prog_4_method_1_code
def yX2_init : MethodName := ⟨RX2, "<init>", "()V"⟩
abbrev cX2_become : ByteArray := prog_4_method_2_code
def yX2_become : MethodName := ⟨RX2, "become", "(JJ)V"⟩
abbrev cX2_greatestCommon : ByteArray := prog_4_method_3_code
def yX2_greatestCommon : MethodName := ⟨RX2, "greatestCommon", "(JJ)J"⟩
def RX3 : String := "MothsShare$Plan"
def TX3 : u_T := fun k => match k with
  | 0 => ("MothsShare$Plan", "pleasing", "[Z", true)
  | 1 => ("MothsShare$Plan", "least", "[I", true)
  | 2 => ("MothsShare$Plan", "choice", "[I", true)
  | 3 => ("MothsShare$Plan", "gifts", "[I", true)
  | 4 => ("MothsShare$Plan", "ahead", "[I", true)
  | 5 => ("MothsShare$Plan", "rows", "I", false)
  | _ => ("MothsShare$Plan", "total", "I", false)
def tyX3 : Nat → FieldType := fun k => match k with
  | 0 => .array .boolean
  | 1 => .array .int
  | 2 => .array .int
  | 3 => .array .int
  | 4 => .array .int
  | 5 => .int
  | _ => .int
abbrev wsX30 : List Cond := u_ws RX3 TX3 7
theorem nmX3 : ∀ a, a < 7 → ∀ b, b < 7 → a ≠ b → (TX3 a).2.1 ≠ (TX3 b).2.1 := by decide +kernel
theorem tyX3_ok : ∀ k, k < 7 → parseFieldDescriptor (TX3 k).2.2.1 = some (tyX3 k) := by decide +kernel
abbrev cX3_init : ByteArray := prog_5_method_1_code
def yX3_init : MethodName := ⟨RX3, "<init>", "()V"⟩
abbrev cX3_moodBehind : ByteArray := prog_5_method_2_code
def yX3_moodBehind : MethodName := ⟨RX3, "moodBehind", "(IZ)I"⟩
abbrev cX3_lay : ByteArray := prog_5_method_3_code
def yX3_lay : MethodName := ⟨RX3, "lay", "(LMothsShare$Share;I)V"⟩
abbrev cX3_choose : ByteArray := prog_5_method_4_code
def yX3_choose : MethodName := ⟨RX3, "choose", "(LMothsShare$Share;III)V"⟩
abbrev cX3_leastFrom : ByteArray := prog_5_method_5_code
def yX3_leastFrom : MethodName := ⟨RX3, "leastFrom", "(II)I"⟩
abbrev cX3_follow : ByteArray := prog_5_method_6_code
def yX3_follow : MethodName := ⟨RX3, "follow", "(I)V"⟩
abbrev cX3_worth : ByteArray := prog_5_method_7_code
def yX3_worth : MethodName := ⟨RX3, "worth", "()I"⟩
abbrev cX3_groups : ByteArray := prog_5_method_8_code
def yX3_groups : MethodName := ⟨RX3, "groups", "()I"⟩
abbrev cX3_giftOf : ByteArray := prog_5_method_9_code
def yX3_giftOf : MethodName := ⟨RX3, "giftOf", "(I)I"⟩
abbrev cX3_moodAhead : ByteArray := prog_5_method_10_code
def yX3_moodAhead : MethodName := ⟨RX3, "moodAhead", "(I)I"⟩
def RX4 : String := "MothsShare$Share"
def TX4 : u_T := fun k => match k with
  | 0 => ("MothsShare$Share", "colours", "[I", true)
  | 1 => ("MothsShare$Share", "smells", "[I", true)
  | 2 => ("MothsShare$Share", "worths", "[I", true)
  | 3 => ("MothsShare$Share", "holesTold", "[I", true)
  | 4 => ("MothsShare$Share", "bolts", "I", false)
  | 5 => ("MothsShare$Share", "breeds", "[I", true)
  | 6 => ("MothsShare$Share", "moths", "I", false)
  | 7 => ("MothsShare$Share", "tastes", "[I", true)
  | 8 => ("MothsShare$Share", "each", "I", false)
  | 9 => ("MothsShare$Share", "want", "I", false)
  | 10 => ("MothsShare$Share", "mood", "I", false)
  | 11 => ("MothsShare$Share", "gifts", "[I", true)
  | 12 => ("MothsShare$Share", "moods", "[I", true)
  | _ => ("MothsShare$Share", "given", "I", false)
def tyX4 : Nat → FieldType := fun k => match k with
  | 0 => .array .int
  | 1 => .array .int
  | 2 => .array .int
  | 3 => .array .int
  | 4 => .int
  | 5 => .array .int
  | 6 => .int
  | 7 => .array .int
  | 8 => .int
  | 9 => .int
  | 10 => .int
  | 11 => .array .int
  | 12 => .array .int
  | _ => .int
abbrev wsX40 : List Cond := u_ws RX4 TX4 14
theorem nmX4 : ∀ a, a < 14 → ∀ b, b < 14 → a ≠ b → (TX4 a).2.1 ≠ (TX4 b).2.1 := by decide +kernel
theorem tyX4_ok : ∀ k, k < 14 → parseFieldDescriptor (TX4 k).2.2.1 = some (tyX4 k) := by decide +kernel
abbrev cX4_init : ByteArray := prog_6_method_1_code
def yX4_init : MethodName := ⟨RX4, "<init>", "()V"⟩
abbrev cX4_startAnew : ByteArray := prog_6_method_2_code
def yX4_startAnew : MethodName := ⟨RX4, "startAnew", "()V"⟩
abbrev cX4_copyFrom : ByteArray := prog_6_method_3_code
def yX4_copyFrom : MethodName := ⟨RX4, "copyFrom", "(LMothsShare$Share;)V"⟩
abbrev cX4_copyRow : ByteArray := prog_6_method_4_code
def yX4_copyRow : MethodName := ⟨RX4, "copyRow", "([I[I)V"⟩
abbrev cX4_addBolt : ByteArray := prog_6_method_5_code
def yX4_addBolt : MethodName := ⟨RX4, "addBolt", "(III)I"⟩
abbrev cX4_addMoth : ByteArray := prog_6_method_6_code
def yX4_addMoth : MethodName := ⟨RX4, "addMoth", "(I)I"⟩
abbrev cX4_setTaste : ByteArray := prog_6_method_7_code
def yX4_setTaste : MethodName := ⟨RX4, "setTaste", "(II)I"⟩
abbrev cX4_setTerm : ByteArray := prog_6_method_8_code
def yX4_setTerm : MethodName := ⟨RX4, "setTerm", "(II)I"⟩
abbrev cX4_setEach : ByteArray := prog_6_method_9_code
def yX4_setEach : MethodName := ⟨RX4, "setEach", "(I)I"⟩
abbrev cX4_setWant : ByteArray := prog_6_method_10_code
def yX4_setWant : MethodName := ⟨RX4, "setWant", "(I)I"⟩
abbrev cX4_setMood : ByteArray := prog_6_method_11_code
def yX4_setMood : MethodName := ⟨RX4, "setMood", "(I)I"⟩
abbrev cX4_setHoles : ByteArray := prog_6_method_12_code
def yX4_setHoles : MethodName := ⟨RX4, "setHoles", "(II)I"⟩
abbrev cX4_hasBolt : ByteArray := prog_6_method_13_code
def yX4_hasBolt : MethodName := ⟨RX4, "hasBolt", "(I)Z"⟩
abbrev cX4_hasMoth : ByteArray := prog_6_method_14_code
def yX4_hasMoth : MethodName := ⟨RX4, "hasMoth", "(I)Z"⟩
abbrev cX4_groups : ByteArray := prog_6_method_15_code
def yX4_groups : MethodName := ⟨RX4, "groups", "()I"⟩
abbrev cX4_groupsBy : ByteArray := prog_6_method_16_code
def yX4_groupsBy : MethodName := ⟨RX4, "groupsBy", "(I)I"⟩
abbrev cX4_groupOf : ByteArray := prog_6_method_17_code
def yX4_groupOf : MethodName := ⟨RX4, "groupOf", "(I)I"⟩
abbrev cX4_worthOf : ByteArray := prog_6_method_18_code
def yX4_worthOf : MethodName := ⟨RX4, "worthOf", "(I)I"⟩
abbrev cX4_hunger : ByteArray := prog_6_method_19_code
def yX4_hunger : MethodName := ⟨RX4, "hunger", "(II)I"⟩
abbrev cX4_hungerAt : ByteArray := prog_6_method_20_code
def yX4_hungerAt : MethodName := ⟨RX4, "hungerAt", "(III)I"⟩
abbrev cX4_pleases : ByteArray := prog_6_method_21_code
def yX4_pleases : MethodName := ⟨RX4, "pleases", "(I)Z"⟩
abbrev cX4_moodNow : ByteArray := prog_6_method_22_code
def yX4_moodNow : MethodName := ⟨RX4, "moodNow", "()I"⟩
abbrev cX4_broken : ByteArray := prog_6_method_23_code
def yX4_broken : MethodName := ⟨RX4, "broken", "()Z"⟩
abbrev cX4_giveNext : ByteArray := prog_6_method_24_code
def yX4_giveNext : MethodName := ⟨RX4, "giveNext", "(I)I"⟩
abbrev cX4_takeBack : ByteArray := prog_6_method_25_code
def yX4_takeBack : MethodName := ⟨RX4, "takeBack", "()Z"⟩
abbrev cX4_givenBits : ByteArray := prog_6_method_26_code
def yX4_givenBits : MethodName := ⟨RX4, "givenBits", "()I"⟩
abbrev cX4_givenWorth : ByteArray := prog_6_method_27_code
def yX4_givenWorth : MethodName := ⟨RX4, "givenWorth", "()I"⟩
abbrev cX4_eatenBits : ByteArray := prog_6_method_28_code
def yX4_eatenBits : MethodName := ⟨RX4, "eatenBits", "()I"⟩
abbrev cX4_mealOf : ByteArray := prog_6_method_29_code
def yX4_mealOf : MethodName := ⟨RX4, "mealOf", "(I)I"⟩
abbrev cX4_goneAhead : ByteArray := prog_6_method_30_code
def yX4_goneAhead : MethodName := ⟨RX4, "goneAhead", "(I)I"⟩
abbrev cX4_favourite : ByteArray := prog_6_method_31_code
def yX4_favourite : MethodName := ⟨RX4, "favourite", "(II)I"⟩
abbrev cX4_holesOf : ByteArray := prog_6_method_32_code
def yX4_holesOf : MethodName := ⟨RX4, "holesOf", "(I)I"⟩
abbrev cX4_holesAreTold : ByteArray := prog_6_method_33_code
def yX4_holesAreTold : MethodName := ⟨RX4, "holesAreTold", "(I)Z"⟩
abbrev cX4_setsThatFit : ByteArray := prog_6_method_34_code
def yX4_setsThatFit : MethodName := ⟨RX4, "setsThatFit", "()I"⟩
abbrev cX4_leastSet : ByteArray := prog_6_method_35_code
def yX4_leastSet : MethodName := ⟨RX4, "leastSet", "()I"⟩
abbrev cX4_fits : ByteArray := prog_6_method_36_code
def yX4_fits : MethodName := ⟨RX4, "fits", "(I)Z"⟩
abbrev cX4_holesBy : ByteArray := prog_6_method_37_code
def yX4_holesBy : MethodName := ⟨RX4, "holesBy", "(II)I"⟩
abbrev cX4_mouthAt : ByteArray := prog_6_method_38_code
def yX4_mouthAt : MethodName := ⟨RX4, "mouthAt", "(III)I"⟩
abbrev cX4_mostHoles : ByteArray := prog_6_method_39_code
def yX4_mostHoles : MethodName := ⟨RX4, "mostHoles", "(I)I"⟩
abbrev cX4_cedarFor : ByteArray := prog_6_method_40_code
def yX4_cedarFor : MethodName := ⟨RX4, "cedarFor", "(I)I"⟩
abbrev cX4_greatestHunger : ByteArray := prog_6_method_41_code
def yX4_greatestHunger : MethodName := ⟨RX4, "greatestHunger", "(II)I"⟩
abbrev cX4_foldInto : ByteArray := prog_6_method_42_code
def yX4_foldInto : MethodName := ⟨RX4, "foldInto", "(J)J"⟩
def RX5 : String := "MothsShare"
def TX5 : u_T := fun k => match k with
  | 0 => ("MothsShare", "told", "LMothsShare$Share;", true)
  | 1 => ("MothsShare", "trial", "LMothsShare$Share;", true)
  | 2 => ("MothsShare", "images", "[LMothsShare$Share;", true)
  | 3 => ("MothsShare", "plan", "LMothsShare$Plan;", true)
  | 4 => ("MothsShare", "deed", "LMothsShare$Deed;", true)
  | 5 => ("MothsShare", "fraction", "LMothsShare$Fraction;", true)
  | 6 => ("MothsShare", "refusedBad", "I", false)
  | 7 => ("MothsShare", "refusedNo", "I", false)
  | _ => ("MothsShare", "refusedFull", "I", false)
def tyX5 : Nat → FieldType := fun k => match k with
  | 0 => .object "MothsShare$Share"
  | 1 => .object "MothsShare$Share"
  | 2 => .array (.object "MothsShare$Share")
  | 3 => .object "MothsShare$Plan"
  | 4 => .object "MothsShare$Deed"
  | 5 => .object "MothsShare$Fraction"
  | 6 => .int
  | 7 => .int
  | _ => .int
abbrev wsX50 : List Cond := u_ws RX5 TX5 9
theorem nmX5 : ∀ a, a < 9 → ∀ b, b < 9 → a ≠ b → (TX5 a).2.1 ≠ (TX5 b).2.1 := by decide +kernel
theorem tyX5_ok : ∀ k, k < 9 → parseFieldDescriptor (TX5 k).2.2.1 = some (tyX5 k) := by decide +kernel
abbrev cX5_init : ByteArray := prog_1_method_1_code
def yX5_init : MethodName := ⟨RX5, "<init>", "()V"⟩
abbrev cX5_bolt : ByteArray := prog_1_method_2_code
def yX5_bolt : MethodName := ⟨RX5, "bolt", "(III)I"⟩
abbrev cX5_moth : ByteArray := prog_1_method_3_code
def yX5_moth : MethodName := ⟨RX5, "moth", "(I)I"⟩
abbrev cX5_taste : ByteArray := prog_1_method_4_code
def yX5_taste : MethodName := ⟨RX5, "taste", "(II)I"⟩
abbrev cX5_put : ByteArray := prog_1_method_5_code
def yX5_put : MethodName := ⟨RX5, "put", "(II)I"⟩
abbrev cX5_appetite : ByteArray := prog_1_method_6_code
def yX5_appetite : MethodName := ⟨RX5, "appetite", "(II)I"⟩
abbrev cX5_type : ByteArray := prog_1_method_7_code
def yX5_type : MethodName := ⟨RX5, "type", "(JI)I"⟩
abbrev cX5_clear : ByteArray := prog_1_method_8_code
def yX5_clear : MethodName := ⟨RX5, "clear", "()I"⟩
abbrev cX5_read : ByteArray := prog_1_method_9_code
def yX5_read : MethodName := ⟨RX5, "read", "()I"⟩
abbrev cX5_pleased : ByteArray := prog_1_method_10_code
def yX5_pleased : MethodName := ⟨RX5, "pleased", "(I)I"⟩
abbrev cX5_cheapest : ByteArray := prog_1_method_11_code
def yX5_cheapest : MethodName := ⟨RX5, "cheapest", "(I)I"⟩
abbrev cX5_number : ByteArray := prog_1_method_12_code
def yX5_number : MethodName := ⟨RX5, "number", "()I"⟩
abbrev cX5_stands : ByteArray := prog_1_method_13_code
def yX5_stands : MethodName := ⟨RX5, "stands", "()I"⟩
abbrev cX5_give : ByteArray := prog_1_method_14_code
def yX5_give : MethodName := ⟨RX5, "give", "(I)I"⟩
abbrev cX5_undo : ByteArray := prog_1_method_15_code
def yX5_undo : MethodName := ⟨RX5, "undo", "()I"⟩
abbrev cX5_now : ByteArray := prog_1_method_16_code
def yX5_now : MethodName := ⟨RX5, "now", "(I)I"⟩
abbrev cX5_eaten : ByteArray := prog_1_method_17_code
def yX5_eaten : MethodName := ⟨RX5, "eaten", "(I)I"⟩
abbrev cX5_drawn : ByteArray := prog_1_method_18_code
def yX5_drawn : MethodName := ⟨RX5, "drawn", "(I)I"⟩
abbrev cX5_holes : ByteArray := prog_1_method_19_code
def yX5_holes : MethodName := ⟨RX5, "holes", "(II)I"⟩
abbrev cX5_byWhom : ByteArray := prog_1_method_20_code
def yX5_byWhom : MethodName := ⟨RX5, "byWhom", "(I)I"⟩
abbrev cX5_mouth : ByteArray := prog_1_method_21_code
def yX5_mouth : MethodName := ⟨RX5, "mouth", "(II)I"⟩
abbrev cX5_cedar : ByteArray := prog_1_method_22_code
def yX5_cedar : MethodName := ⟨RX5, "cedar", "(I)I"⟩
abbrev cX5_oracle : ByteArray := prog_1_method_23_code
def yX5_oracle : MethodName := ⟨RX5, "oracle", "(II)I"⟩
abbrev cX5_tailor : ByteArray := prog_1_method_24_code
def yX5_tailor : MethodName := ⟨RX5, "tailor", "(II)I"⟩
abbrev cX5_part : ByteArray := prog_1_method_25_code
def yX5_part : MethodName := ⟨RX5, "part", "(I)J"⟩
abbrev cX5_image : ByteArray := prog_1_method_26_code
def yX5_image : MethodName := ⟨RX5, "image", "(I)I"⟩
abbrev cX5_from : ByteArray := prog_1_method_27_code
def yX5_from : MethodName := ⟨RX5, "from", "(I)I"⟩
abbrev cX5_status : ByteArray := prog_1_method_28_code
def yX5_status : MethodName := ⟨RX5, "status", "(I)I"⟩
abbrev cX5_count : ByteArray := prog_1_method_29_code
def yX5_count : MethodName := ⟨RX5, "count", "(I)I"⟩
abbrev cX5_digest : ByteArray := prog_1_method_30_code
def yX5_digest : MethodName := ⟨RX5, "digest", "()J"⟩
abbrev cX5_noted : ByteArray := prog_1_method_31_code
def yX5_noted : MethodName := ⟨RX5, "noted", "(I)I"⟩
def RX6 : String := "MothsShareModel"
def TX6 : u_T := fun k => match k with
  | 0 => ("MothsShareModel", "book", "[I", true)
  | 1 => ("MothsShareModel", "images", "[I", true)
  | 2 => ("MothsShareModel", "kept", "[Z", true)
  | 3 => ("MothsShareModel", "aside", "[I", true)
  | 4 => ("MothsShareModel", "refused", "[I", true)
  | 5 => ("MothsShareModel", "quiet", "Z", false)
  | 6 => ("MothsShareModel", "above", "J", false)
  | 7 => ("MothsShareModel", "below", "J", false)
  | 8 => ("MothsShareModel", "text", "[I", true)
  | 9 => ("MothsShareModel", "typed", "I", false)
  | 10 => ("MothsShareModel", "at", "I", false)
  | 11 => ("MothsShareModel", "start", "I", false)
  | 12 => ("MothsShareModel", "token", "I", false)
  | 13 => ("MothsShareModel", "value", "I", false)
  | 14 => ("MothsShareModel", "items", "[I", true)
  | 15 => ("MothsShareModel", "many", "I", false)
  | 16 => ("MothsShareModel", "best", "[I", true)
  | 17 => ("MothsShareModel", "row", "[I", true)
  | 18 => ("MothsShareModel", "sets", "I", false)
  | _ => ("MothsShareModel", "leastSet", "I", false)
def tyX6 : Nat → FieldType := fun k => match k with
  | 0 => .array .int
  | 1 => .array .int
  | 2 => .array .boolean
  | 3 => .array .int
  | 4 => .array .int
  | 5 => .boolean
  | 6 => .long
  | 7 => .long
  | 8 => .array .int
  | 9 => .int
  | 10 => .int
  | 11 => .int
  | 12 => .int
  | 13 => .int
  | 14 => .array .int
  | 15 => .int
  | 16 => .array .int
  | 17 => .array .int
  | 18 => .int
  | _ => .int
abbrev wsX60 : List Cond := u_ws RX6 TX6 20
theorem nmX6 : ∀ a, a < 20 → ∀ b, b < 20 → a ≠ b → (TX6 a).2.1 ≠ (TX6 b).2.1 := by decide +kernel
theorem tyX6_ok : ∀ k, k < 20 → parseFieldDescriptor (TX6 k).2.2.1 = some (tyX6 k) := by decide +kernel
abbrev cX6_in : ByteArray := prog_8_method_2_code
def yX6_in : MethodName := ⟨RX6, "in", "(JJJ)Z"⟩
abbrev cX6_init : ByteArray := prog_8_method_3_code
def yX6_init : MethodName := ⟨RX6, "<init>", "()V"⟩
abbrev cX6_begins : ByteArray := prog_8_method_4_code
def yX6_begins : MethodName := ⟨RX6, "begins", "()V"⟩
abbrev cX6_anew : ByteArray := prog_8_method_5_code
def yX6_anew : MethodName := ⟨RX6, "anew", "()V"⟩
abbrev cX6_refuses : ByteArray := prog_8_method_6_code
def yX6_refuses : MethodName := ⟨RX6, "refuses", "(II)I"⟩
abbrev cX6_bad : ByteArray := prog_8_method_7_code
def yX6_bad : MethodName := ⟨RX6, "bad", "()I"⟩
abbrev cX6_no : ByteArray := prog_8_method_8_code
def yX6_no : MethodName := ⟨RX6, "no", "()I"⟩
abbrev cX6_full : ByteArray := prog_8_method_9_code
def yX6_full : MethodName := ⟨RX6, "full", "()I"⟩
abbrev cX6_isBolt : ByteArray := prog_8_method_10_code
def yX6_isBolt : MethodName := ⟨RX6, "isBolt", "(I)Z"⟩
abbrev cX6_isMoth : ByteArray := prog_8_method_11_code
def yX6_isMoth : MethodName := ⟨RX6, "isMoth", "(I)Z"⟩
abbrev cX6_ofBolt : ByteArray := prog_8_method_12_code
def yX6_ofBolt : MethodName := ⟨RX6, "ofBolt", "(II)I"⟩
abbrev cX6_divisor : ByteArray := prog_8_method_13_code
def yX6_divisor : MethodName := ⟨RX6, "divisor", "(JJ)J"⟩
abbrev cX6_keeps : ByteArray := prog_8_method_14_code
def yX6_keeps : MethodName := ⟨RX6, "keeps", "(JJ)I"⟩
abbrev cX6_bolt : ByteArray := prog_8_method_15_code
def yX6_bolt : MethodName := ⟨RX6, "bolt", "(III)I"⟩
abbrev cX6_moth : ByteArray := prog_8_method_16_code
def yX6_moth : MethodName := ⟨RX6, "moth", "(I)I"⟩
abbrev cX6_taste : ByteArray := prog_8_method_17_code
def yX6_taste : MethodName := ⟨RX6, "taste", "(II)I"⟩
abbrev cX6_put : ByteArray := prog_8_method_18_code
def yX6_put : MethodName := ⟨RX6, "put", "(II)I"⟩
abbrev cX6_wants : ByteArray := prog_8_method_19_code
def yX6_wants : MethodName := ⟨RX6, "wants", "(III)I"⟩
abbrev cX6_appetite : ByteArray := prog_8_method_20_code
def yX6_appetite : MethodName := ⟨RX6, "appetite", "(II)I"⟩
abbrev cX6_type : ByteArray := prog_8_method_21_code
def yX6_type : MethodName := ⟨RX6, "type", "(JI)I"⟩
abbrev cX6_clear : ByteArray := prog_8_method_22_code
def yX6_clear : MethodName := ⟨RX6, "clear", "()I"⟩
abbrev cX6_isAt : ByteArray := prog_8_method_23_code
def yX6_isAt : MethodName := ⟨RX6, "isAt", "(II)Z"⟩
abbrev cX6_verbOf : ByteArray := prog_8_method_24_code
def yX6_verbOf : MethodName := ⟨RX6, "verbOf", "(J)I"⟩
abbrev cX6_scans : ByteArray := prog_8_method_25_code
def yX6_scans : MethodName := ⟨RX6, "scans", "()V"⟩
abbrev cX6_numbers : ByteArray := prog_8_method_26_code
def yX6_numbers : MethodName := ⟨RX6, "numbers", "(I)I"⟩
abbrev cX6_reads : ByteArray := prog_8_method_27_code
def yX6_reads : MethodName := ⟨RX6, "reads", "()Z"⟩
abbrev cX6_tellsItem : ByteArray := prog_8_method_28_code
def yX6_tellsItem : MethodName := ⟨RX6, "tellsItem", "(I)Z"⟩
abbrev cX6_read : ByteArray := prog_8_method_29_code
def yX6_read : MethodName := ⟨RX6, "read", "()I"⟩
abbrev cX6_pleases : ByteArray := prog_8_method_30_code
def yX6_pleases : MethodName := ⟨RX6, "pleases", "(I)Z"⟩
abbrev cX6_pleased : ByteArray := prog_8_method_31_code
def yX6_pleased : MethodName := ⟨RX6, "pleased", "(I)I"⟩
abbrev cX6_groups : ByteArray := prog_8_method_32_code
def yX6_groups : MethodName := ⟨RX6, "groups", "(I)I"⟩
abbrev cX6_moodBehind : ByteArray := prog_8_method_33_code
def yX6_moodBehind : MethodName := ⟨RX6, "moodBehind", "(II)I"⟩
abbrev cX6_cheapestBy : ByteArray := prog_8_method_34_code
def yX6_cheapestBy : MethodName := ⟨RX6, "cheapestBy", "(I)I"⟩
abbrev cX6_cheapest : ByteArray := prog_8_method_35_code
def yX6_cheapest : MethodName := ⟨RX6, "cheapest", "(I)I"⟩
abbrev cX6_number : ByteArray := prog_8_method_36_code
def yX6_number : MethodName := ⟨RX6, "number", "()I"⟩
abbrev cX6_stands : ByteArray := prog_8_method_37_code
def yX6_stands : MethodName := ⟨RX6, "stands", "()I"⟩
abbrev cX6_moodNow : ByteArray := prog_8_method_38_code
def yX6_moodNow : MethodName := ⟨RX6, "moodNow", "()I"⟩
abbrev cX6_isNext : ByteArray := prog_8_method_39_code
def yX6_isNext : MethodName := ⟨RX6, "isNext", "()Z"⟩
abbrev cX6_give : ByteArray := prog_8_method_40_code
def yX6_give : MethodName := ⟨RX6, "give", "(I)I"⟩
abbrev cX6_undo : ByteArray := prog_8_method_41_code
def yX6_undo : MethodName := ⟨RX6, "undo", "()I"⟩
abbrev cX6_givenUp : ByteArray := prog_8_method_42_code
def yX6_givenUp : MethodName := ⟨RX6, "givenUp", "()I"⟩
abbrev cX6_now : ByteArray := prog_8_method_43_code
def yX6_now : MethodName := ⟨RX6, "now", "(I)I"⟩
abbrev cX6_eaten : ByteArray := prog_8_method_44_code
def yX6_eaten : MethodName := ⟨RX6, "eaten", "(I)I"⟩
abbrev cX6_drawn : ByteArray := prog_8_method_45_code
def yX6_drawn : MethodName := ⟨RX6, "drawn", "(I)I"⟩
abbrev cX6_holes : ByteArray := prog_8_method_46_code
def yX6_holes : MethodName := ⟨RX6, "holes", "(II)I"⟩
abbrev cX6_bites : ByteArray := prog_8_method_47_code
def yX6_bites : MethodName := ⟨RX6, "bites", "(II)I"⟩
abbrev cX6_finds : ByteArray := prog_8_method_48_code
def yX6_finds : MethodName := ⟨RX6, "finds", "()V"⟩
abbrev cX6_byWhom : ByteArray := prog_8_method_49_code
def yX6_byWhom : MethodName := ⟨RX6, "byWhom", "(I)I"⟩
abbrev cX6_mouth : ByteArray := prog_8_method_50_code
def yX6_mouth : MethodName := ⟨RX6, "mouth", "(II)I"⟩
abbrev cX6_cedar : ByteArray := prog_8_method_51_code
def yX6_cedar : MethodName := ⟨RX6, "cedar", "(I)I"⟩
abbrev cX6_oracle : ByteArray := prog_8_method_52_code
def yX6_oracle : MethodName := ⟨RX6, "oracle", "(II)I"⟩
abbrev cX6_tailor : ByteArray := prog_8_method_53_code
def yX6_tailor : MethodName := ⟨RX6, "tailor", "(II)I"⟩
abbrev cX6_part : ByteArray := prog_8_method_54_code
def yX6_part : MethodName := ⟨RX6, "part", "(I)J"⟩
abbrev cX6_image : ByteArray := prog_8_method_55_code
def yX6_image : MethodName := ⟨RX6, "image", "(I)I"⟩
abbrev cX6_from : ByteArray := prog_8_method_56_code
def yX6_from : MethodName := ⟨RX6, "from", "(I)I"⟩
abbrev cX6_status : ByteArray := prog_8_method_57_code
def yX6_status : MethodName := ⟨RX6, "status", "(I)I"⟩
abbrev cX6_countOf : ByteArray := prog_8_method_58_code
def yX6_countOf : MethodName := ⟨RX6, "countOf", "(I)I"⟩
abbrev cX6_count : ByteArray := prog_8_method_59_code
def yX6_count : MethodName := ⟨RX6, "count", "(I)I"⟩
abbrev cX6_mixed : ByteArray := prog_8_method_60_code
def yX6_mixed : MethodName := ⟨RX6, "mixed", "(JII)J"⟩
abbrev cX6_digest : ByteArray := prog_8_method_61_code
def yX6_digest : MethodName := ⟨RX6, "digest", "()J"⟩
def RJ9 : String := "java/lang/Math"
def TJ9 : u_T := fun k => match k with
  | _ => ("", "", "", false)
def tyJ9 : Nat → FieldType := fun k => match k with
  | _ => .int
abbrev wsJ90 : List Cond := u_ws RJ9 TJ9 0
theorem nmJ9 : ∀ a, a < 0 → ∀ b, b < 0 → a ≠ b → (TJ9 a).2.1 ≠ (TJ9 b).2.1 := by decide +kernel
theorem tyJ9_ok : ∀ k, k < 0 → parseFieldDescriptor (TJ9 k).2.2.1 = some (tyJ9 k) := by decide +kernel
abbrev cJ9_max_7cf53 : ByteArray := prog_9_method_65_code
def yJ9_max_7cf53 : MethodName := ⟨RJ9, "max", "(II)I"⟩
abbrev cJ9_min_7cf53 : ByteArray := prog_9_method_69_code
def yJ9_min_7cf53 : MethodName := ⟨RJ9, "min", "(II)I"⟩
def RJ0 : String := "java/lang/String"
def TJ0 : u_T := fun k => match k with
  | _ => ("", "", "", false)
def tyJ0 : Nat → FieldType := fun k => match k with
  | _ => .int
abbrev wsJ00 : List Cond := u_ws RJ0 TJ0 0
theorem nmJ0 : ∀ a, a < 0 → ∀ b, b < 0 → a ≠ b → (TJ0 a).2.1 ≠ (TJ0 b).2.1 := by decide +kernel
theorem tyJ0_ok : ∀ k, k < 0 → parseFieldDescriptor (TJ0 k).2.2.1 = some (tyJ0 k) := by decide +kernel
abbrev cJ0_length_8abf5 : ByteArray := prog_10_method_54_code
def yJ0_length_8abf5 : MethodName := ⟨RJ0, "length", "()I"⟩
abbrev cJ0_charAt_5068e : ByteArray := prog_10_method_56_code
def yJ0_charAt_5068e : MethodName := ⟨RJ0, "charAt", "(I)C"⟩
abbrev cJ0_coder_7d493 : ByteArray := prog_10_method_152_code
def yJ0_coder_7d493 : MethodName := ⟨RJ0, "coder", "()B"⟩
abbrev cJ0_isLatin1_aae02 : ByteArray := prog_10_method_154_code
def yJ0_isLatin1_aae02 : MethodName := ⟨RJ0, "isLatin1", "()Z"⟩
abbrev cJ0_checkIndex_df160 : ByteArray := prog_10_method_155_code
def yJ0_checkIndex_df160 : MethodName := ⟨RJ0, "checkIndex", "(II)V"⟩
def RJ1 : String := "java/lang/StringLatin1"
def TJ1 : u_T := fun k => match k with
  | _ => ("", "", "", false)
def tyJ1 : Nat → FieldType := fun k => match k with
  | _ => .int
abbrev wsJ10 : List Cond := u_ws RJ1 TJ1 0
theorem nmJ1 : ∀ a, a < 0 → ∀ b, b < 0 → a ≠ b → (TJ1 a).2.1 ≠ (TJ1 b).2.1 := by decide +kernel
theorem tyJ1_ok : ∀ k, k < 0 → parseFieldDescriptor (TJ1 k).2.2.1 = some (tyJ1 k) := by decide +kernel
abbrev cJ1_charAt_3b067 : ByteArray := prog_11_method_2_code
def yJ1_charAt_3b067 : MethodName := ⟨RJ1, "charAt", "([BI)C"⟩
def RJ2 : String := "java/lang/StringUTF16"
def TJ2 : u_T := fun k => match k with
  | _ => ("", "", "", false)
def tyJ2 : Nat → FieldType := fun k => match k with
  | _ => .int
abbrev wsJ20 : List Cond := u_ws RJ2 TJ2 0
theorem nmJ2 : ∀ a, a < 0 → ∀ b, b < 0 → a ≠ b → (TJ2 a).2.1 ≠ (TJ2 b).2.1 := by decide +kernel
theorem tyJ2_ok : ∀ k, k < 0 → parseFieldDescriptor (TJ2 k).2.2.1 = some (tyJ2 k) := by decide +kernel
abbrev cJ2_getChar_3b067 : ByteArray := prog_12_method_5_code
def yJ2_getChar_3b067 : MethodName := ⟨RJ2, "getChar", "([BI)C"⟩
abbrev cJ2_length_9d52b : ByteArray := prog_12_method_6_code
def yJ2_length_9d52b : MethodName := ⟨RJ2, "length", "([B)I"⟩
abbrev cJ2_charAt_3b067 : ByteArray := prog_12_method_83_code
def yJ2_charAt_3b067 : MethodName := ⟨RJ2, "charAt", "([BI)C"⟩
abbrev cJ2_checkIndex_2214a : ByteArray := prog_12_method_91_code
def yJ2_checkIndex_2214a : MethodName := ⟨RJ2, "checkIndex", "(I[B)V"⟩
def RJ3 : String := "jdk/internal/util/Preconditions"
def TJ3 : u_T := fun k => match k with
  | _ => ("", "", "", false)
def tyJ3 : Nat → FieldType := fun k => match k with
  | _ => .int
abbrev wsJ30 : List Cond := u_ws RJ3 TJ3 0
theorem nmJ3 : ∀ a, a < 0 → ∀ b, b < 0 → a ≠ b → (TJ3 a).2.1 ≠ (TJ3 b).2.1 := by decide +kernel
theorem tyJ3_ok : ∀ k, k < 0 → parseFieldDescriptor (TJ3 k).2.2.1 = some (tyJ3 k) := by decide +kernel
abbrev cJ3_checkIndex_8e157 : ByteArray := prog_13_method_11_code
def yJ3_checkIndex_8e157 : MethodName := ⟨RJ3, "checkIndex", "(IILjava/util/function/BiFunction;)I"⟩
def RL : String := "MothsShareLaw"
abbrev cL_law : ByteArray := code
def yL_law : MethodName := ⟨RL, "law", "([I)Z"⟩
def wsX0_hunger : List Cond := .code yX0_hunger cX0_hunger 6 (some .int) :: ([])
def wsX1_init : List Cond := .code yX1_init cX1_init 1 none :: ([.methodLink RX1 3 objectInit, .instanceMethod objectInit, .code objectInit ⟨#[0xb1]⟩ 1 none, .arrayClass .byte, .fieldLink RX1 11 "MothsShare$Deed" "text" "[B", .arrayClass .int, .fieldLink RX1 15 "MothsShare$Deed" "numbers" "[I"] ++ wsX10)
def wsX1_append : List Cond := .code yX1_append cX1_append 5 (some .int) :: ([.fieldLink RX1 19 "MothsShare$Deed" "length" "I", .fieldLink RX1 11 "MothsShare$Deed" "text" "[B"] ++ wsX10)
def wsX1_empty : List Cond := .code yX1_empty cX1_empty 2 (some .int) :: ([.fieldLink RX1 19 "MothsShare$Deed" "length" "I"] ++ wsX10)
def wsX4_startAnew : List Cond := .code yX4_startAnew cX4_startAnew 2 none :: ([.fieldLink RX4 39 "MothsShare$Share" "bolts" "I", .fieldLink RX4 43 "MothsShare$Share" "moths" "I", .fieldLink RX4 27 "MothsShare$Share" "tastes" "[I", .fieldLink RX4 46 "MothsShare$Share" "each" "I", .fieldLink RX4 49 "MothsShare$Share" "want" "I", .fieldLink RX4 52 "MothsShare$Share" "mood" "I", .fieldLink RX4 55 "MothsShare$Share" "given" "I"] ++ wsX40)
def wsX1_isLetter : List Cond := .code yX1_isLetter cX1_isLetter 1 (some .boolean) :: ([])
def wsX1_wordAt : List Cond := .code yX1_wordAt cX1_wordAt 1 (some (.object "java/lang/String")) :: ([])
def wsJ0_coder_7d493 : List Cond := .code yJ0_coder_7d493 cJ0_coder_7d493 1 (some .byte) :: ([.fieldLink RJ0 38 "java/lang/String" "COMPACT_STRINGS" "Z", .fieldLink RJ0 15 "java/lang/String" "coder" "B"])
def wsJ0_length_8abf5 : List Cond := .code yJ0_length_8abf5 cJ0_length_8abf5 1 (some .int) :: ([.fieldLink RJ0 9 "java/lang/String" "value" "[B", .methodLink RJ0 335 yJ0_coder_7d493, .instanceMethod yJ0_coder_7d493, .selects RJ0 yJ0_coder_7d493 yJ0_coder_7d493, .initialized RJ0, .code yJ0_coder_7d493 cJ0_coder_7d493 1 (some .byte), .fieldLink RJ0 38 "java/lang/String" "COMPACT_STRINGS" "Z", .fieldLink RJ0 15 "java/lang/String" "coder" "B"])
def wsJ0_isLatin1_aae02 : List Cond := .code yJ0_isLatin1_aae02 cJ0_isLatin1_aae02 1 (some .boolean) :: ([.fieldLink RJ0 38 "java/lang/String" "COMPACT_STRINGS" "Z", .fieldLink RJ0 15 "java/lang/String" "coder" "B"])
def wsJ3_checkIndex_8e157 : List Cond := .code yJ3_checkIndex_8e157 cJ3_checkIndex_8e157 3 (some .int) :: ([])
def wsJ0_checkIndex_df160 : List Cond := .code yJ0_checkIndex_df160 cJ0_checkIndex_df160 2 none :: ([.fieldLink RJ0 1053 "jdk/internal/util/Preconditions" "SIOOBE_FORMATTER" "Ljava/util/function/BiFunction;", .methodLink RJ0 1059 yJ3_checkIndex_8e157, .static yJ3_checkIndex_8e157, .initialized RJ3, .code yJ3_checkIndex_8e157 cJ3_checkIndex_8e157 3 (some .int)])
def wsJ1_charAt_3b067 : List Cond := .code yJ1_charAt_3b067 cJ1_charAt_3b067 2 (some .char) :: ([.methodLink RJ1 9 yJ0_checkIndex_df160, .static yJ0_checkIndex_df160, .initialized RJ0, .code yJ0_checkIndex_df160 cJ0_checkIndex_df160 2 none, .fieldLink RJ0 1053 "jdk/internal/util/Preconditions" "SIOOBE_FORMATTER" "Ljava/util/function/BiFunction;", .methodLink RJ0 1059 yJ3_checkIndex_8e157, .static yJ3_checkIndex_8e157, .initialized RJ3, .code yJ3_checkIndex_8e157 cJ3_checkIndex_8e157 3 (some .int)])
def wsJ2_length_9d52b : List Cond := .code yJ2_length_9d52b cJ2_length_9d52b 1 (some .int) :: ([])
def wsJ2_checkIndex_2214a : List Cond := .code yJ2_checkIndex_2214a cJ2_checkIndex_2214a 2 none :: ([.methodLink RJ2 48 yJ2_length_9d52b, .static yJ2_length_9d52b, .initialized RJ2, .code yJ2_length_9d52b cJ2_length_9d52b 1 (some .int), .methodLink RJ2 414 yJ0_checkIndex_df160, .static yJ0_checkIndex_df160, .initialized RJ0, .code yJ0_checkIndex_df160 cJ0_checkIndex_df160 2 none, .fieldLink RJ0 1053 "jdk/internal/util/Preconditions" "SIOOBE_FORMATTER" "Ljava/util/function/BiFunction;", .methodLink RJ0 1059 yJ3_checkIndex_8e157, .static yJ3_checkIndex_8e157, .initialized RJ3, .code yJ3_checkIndex_8e157 cJ3_checkIndex_8e157 3 (some .int)])
def wsJ2_getChar_3b067 : List Cond := .code yJ2_getChar_3b067 cJ2_getChar_3b067 2 (some .char) :: ([.fieldLink RJ2 44 "java/lang/StringUTF16" "$assertionsDisabled" "Z", .fieldLink RJ2 59 "java/lang/StringUTF16" "HI_BYTE_SHIFT" "I", .fieldLink RJ2 63 "java/lang/StringUTF16" "LO_BYTE_SHIFT" "I", .methodLink RJ2 48 yJ2_length_9d52b, .static yJ2_length_9d52b, .initialized RJ2, .code yJ2_length_9d52b cJ2_length_9d52b 1 (some .int)])
def wsJ2_charAt_3b067 : List Cond := .code yJ2_charAt_3b067 cJ2_charAt_3b067 2 (some .char) :: ([.methodLink RJ2 67 yJ2_checkIndex_2214a, .static yJ2_checkIndex_2214a, .initialized RJ2, .code yJ2_checkIndex_2214a cJ2_checkIndex_2214a 2 none, .methodLink RJ2 48 yJ2_length_9d52b, .static yJ2_length_9d52b, .code yJ2_length_9d52b cJ2_length_9d52b 1 (some .int), .methodLink RJ2 414 yJ0_checkIndex_df160, .static yJ0_checkIndex_df160, .initialized RJ0, .code yJ0_checkIndex_df160 cJ0_checkIndex_df160 2 none, .fieldLink RJ0 1053 "jdk/internal/util/Preconditions" "SIOOBE_FORMATTER" "Ljava/util/function/BiFunction;", .methodLink RJ0 1059 yJ3_checkIndex_8e157, .static yJ3_checkIndex_8e157, .initialized RJ3, .code yJ3_checkIndex_8e157 cJ3_checkIndex_8e157 3 (some .int), .methodLink RJ2 71 yJ2_getChar_3b067, .static yJ2_getChar_3b067, .code yJ2_getChar_3b067 cJ2_getChar_3b067 2 (some .char), .fieldLink RJ2 44 "java/lang/StringUTF16" "$assertionsDisabled" "Z", .fieldLink RJ2 59 "java/lang/StringUTF16" "HI_BYTE_SHIFT" "I", .fieldLink RJ2 63 "java/lang/StringUTF16" "LO_BYTE_SHIFT" "I"])
def wsJ0_charAt_5068e_r1 : List Cond := [Cond.fieldLink RJ0 9 "java/lang/String" "value" "[B", Cond.methodLink RJ0 492 yJ0_isLatin1_aae02, Cond.instanceMethod yJ0_isLatin1_aae02, Cond.selects RJ0 yJ0_isLatin1_aae02 yJ0_isLatin1_aae02, Cond.initialized RJ0, Cond.code yJ0_isLatin1_aae02 cJ0_isLatin1_aae02 1 (some .boolean), Cond.fieldLink RJ0 38 "java/lang/String" "COMPACT_STRINGS" "Z", Cond.fieldLink RJ0 15 "java/lang/String" "coder" "B", Cond.methodLink RJ0 495 yJ1_charAt_3b067, Cond.static yJ1_charAt_3b067, Cond.initialized RJ1, Cond.code yJ1_charAt_3b067 cJ1_charAt_3b067 2 (some .char), Cond.methodLink RJ1 9 yJ0_checkIndex_df160, Cond.static yJ0_checkIndex_df160, Cond.code yJ0_checkIndex_df160 cJ0_checkIndex_df160 2 none, Cond.fieldLink RJ0 1053 "jdk/internal/util/Preconditions" "SIOOBE_FORMATTER" "Ljava/util/function/BiFunction;", Cond.methodLink RJ0 1059 yJ3_checkIndex_8e157, Cond.static yJ3_checkIndex_8e157, Cond.initialized RJ3, Cond.code yJ3_checkIndex_8e157 cJ3_checkIndex_8e157 3 (some .int), Cond.methodLink RJ0 498 yJ2_charAt_3b067, Cond.static yJ2_charAt_3b067, Cond.initialized RJ2, Cond.code yJ2_charAt_3b067 cJ2_charAt_3b067 2 (some .char)]
def wsJ0_charAt_5068e_r2 : List Cond := [Cond.methodLink RJ2 67 yJ2_checkIndex_2214a, Cond.static yJ2_checkIndex_2214a, Cond.code yJ2_checkIndex_2214a cJ2_checkIndex_2214a 2 none, Cond.methodLink RJ2 48 yJ2_length_9d52b, Cond.static yJ2_length_9d52b, Cond.code yJ2_length_9d52b cJ2_length_9d52b 1 (some .int), Cond.methodLink RJ2 414 yJ0_checkIndex_df160, Cond.methodLink RJ2 71 yJ2_getChar_3b067, Cond.static yJ2_getChar_3b067, Cond.code yJ2_getChar_3b067 cJ2_getChar_3b067 2 (some .char), Cond.fieldLink RJ2 44 "java/lang/StringUTF16" "$assertionsDisabled" "Z", Cond.fieldLink RJ2 59 "java/lang/StringUTF16" "HI_BYTE_SHIFT" "I", Cond.fieldLink RJ2 63 "java/lang/StringUTF16" "LO_BYTE_SHIFT" "I"]
def wsJ0_charAt_5068e : List Cond := .code yJ0_charAt_5068e cJ0_charAt_5068e 2 (some .char) :: ((wsJ0_charAt_5068e_r1 ++ wsJ0_charAt_5068e_r2))
def wsX1_isWord_r1 : List Cond := [Cond.fieldLink RX1 28 "MothsShare$Deed" "place" "I", Cond.fieldLink RX1 48 "MothsShare$Deed" "start" "I", Cond.fieldLink RX1 19 "MothsShare$Deed" "length" "I", Cond.fieldLink RX1 11 "MothsShare$Deed" "text" "[B", Cond.methodLink RX1 93 yJ0_length_8abf5, Cond.instanceMethod yJ0_length_8abf5, Cond.selects RJ0 yJ0_length_8abf5 yJ0_length_8abf5, Cond.initialized RJ0, Cond.code yJ0_length_8abf5 cJ0_length_8abf5 1 (some .int), Cond.fieldLink RJ0 9 "java/lang/String" "value" "[B", Cond.methodLink RJ0 335 yJ0_coder_7d493, Cond.instanceMethod yJ0_coder_7d493, Cond.selects RJ0 yJ0_coder_7d493 yJ0_coder_7d493, Cond.code yJ0_coder_7d493 cJ0_coder_7d493 1 (some .byte), Cond.fieldLink RJ0 38 "java/lang/String" "COMPACT_STRINGS" "Z", Cond.fieldLink RJ0 15 "java/lang/String" "coder" "B", Cond.methodLink RX1 98 yJ0_charAt_5068e, Cond.instanceMethod yJ0_charAt_5068e, Cond.selects RJ0 yJ0_charAt_5068e yJ0_charAt_5068e, Cond.code yJ0_charAt_5068e cJ0_charAt_5068e 2 (some .char), Cond.methodLink RJ0 492 yJ0_isLatin1_aae02, Cond.instanceMethod yJ0_isLatin1_aae02, Cond.selects RJ0 yJ0_isLatin1_aae02 yJ0_isLatin1_aae02, Cond.code yJ0_isLatin1_aae02 cJ0_isLatin1_aae02 1 (some .boolean)]
def wsX1_isWord_r2 : List Cond := [Cond.methodLink RJ0 495 yJ1_charAt_3b067, Cond.static yJ1_charAt_3b067, Cond.initialized RJ1, Cond.code yJ1_charAt_3b067 cJ1_charAt_3b067 2 (some .char), Cond.methodLink RJ1 9 yJ0_checkIndex_df160, Cond.static yJ0_checkIndex_df160, Cond.code yJ0_checkIndex_df160 cJ0_checkIndex_df160 2 none, Cond.fieldLink RJ0 1053 "jdk/internal/util/Preconditions" "SIOOBE_FORMATTER" "Ljava/util/function/BiFunction;", Cond.methodLink RJ0 1059 yJ3_checkIndex_8e157, Cond.static yJ3_checkIndex_8e157, Cond.initialized RJ3, Cond.code yJ3_checkIndex_8e157 cJ3_checkIndex_8e157 3 (some .int), Cond.methodLink RJ0 498 yJ2_charAt_3b067, Cond.static yJ2_charAt_3b067, Cond.initialized RJ2, Cond.code yJ2_charAt_3b067 cJ2_charAt_3b067 2 (some .char), Cond.methodLink RJ2 67 yJ2_checkIndex_2214a, Cond.static yJ2_checkIndex_2214a, Cond.code yJ2_checkIndex_2214a cJ2_checkIndex_2214a 2 none, Cond.methodLink RJ2 48 yJ2_length_9d52b, Cond.static yJ2_length_9d52b, Cond.code yJ2_length_9d52b cJ2_length_9d52b 1 (some .int), Cond.methodLink RJ2 414 yJ0_checkIndex_df160, Cond.methodLink RJ2 71 yJ2_getChar_3b067]
def wsX1_isWord_r3 : List Cond := [Cond.static yJ2_getChar_3b067, Cond.code yJ2_getChar_3b067 cJ2_getChar_3b067 2 (some .char), Cond.fieldLink RJ2 44 "java/lang/StringUTF16" "$assertionsDisabled" "Z", Cond.fieldLink RJ2 59 "java/lang/StringUTF16" "HI_BYTE_SHIFT" "I", Cond.fieldLink RJ2 63 "java/lang/StringUTF16" "LO_BYTE_SHIFT" "I"]
def wsX1_isWord : List Cond := .code yX1_isWord cX1_isWord 3 (some .boolean) :: ((wsX1_isWord_r1 ++ (wsX1_isWord_r2 ++ wsX1_isWord_r3)) ++ wsX10)
def wsX1_readWord_r1 : List Cond := [Cond.fieldLink RX1 28 "MothsShare$Deed" "place" "I", Cond.fieldLink RX1 19 "MothsShare$Deed" "length" "I", Cond.fieldLink RX1 11 "MothsShare$Deed" "text" "[B", Cond.fieldLink RX1 34 "MothsShare$Deed" "token" "I", Cond.fieldLink RX1 37 "MothsShare$Deed" "value" "I", Cond.methodLink RX1 72 yX1_isLetter, Cond.static yX1_isLetter, Cond.initialized RX1, Cond.code yX1_isLetter cX1_isLetter 1 (some .boolean), Cond.methodLink RX1 85 yX1_wordAt, Cond.static yX1_wordAt, Cond.code yX1_wordAt cX1_wordAt 1 (some (.object "java/lang/String")), Cond.methodLink RX1 89 yX1_isWord, Cond.instanceMethod yX1_isWord, Cond.selects RX1 yX1_isWord yX1_isWord, Cond.code yX1_isWord cX1_isWord 3 (some .boolean), Cond.fieldLink RX1 48 "MothsShare$Deed" "start" "I", Cond.methodLink RX1 93 yJ0_length_8abf5, Cond.instanceMethod yJ0_length_8abf5, Cond.selects RJ0 yJ0_length_8abf5 yJ0_length_8abf5, Cond.initialized RJ0, Cond.code yJ0_length_8abf5 cJ0_length_8abf5 1 (some .int), Cond.fieldLink RJ0 9 "java/lang/String" "value" "[B", Cond.methodLink RJ0 335 yJ0_coder_7d493]
def wsX1_readWord_r2 : List Cond := [Cond.instanceMethod yJ0_coder_7d493, Cond.selects RJ0 yJ0_coder_7d493 yJ0_coder_7d493, Cond.code yJ0_coder_7d493 cJ0_coder_7d493 1 (some .byte), Cond.fieldLink RJ0 38 "java/lang/String" "COMPACT_STRINGS" "Z", Cond.fieldLink RJ0 15 "java/lang/String" "coder" "B", Cond.methodLink RX1 98 yJ0_charAt_5068e, Cond.instanceMethod yJ0_charAt_5068e, Cond.selects RJ0 yJ0_charAt_5068e yJ0_charAt_5068e, Cond.code yJ0_charAt_5068e cJ0_charAt_5068e 2 (some .char), Cond.methodLink RJ0 492 yJ0_isLatin1_aae02, Cond.instanceMethod yJ0_isLatin1_aae02, Cond.selects RJ0 yJ0_isLatin1_aae02 yJ0_isLatin1_aae02, Cond.code yJ0_isLatin1_aae02 cJ0_isLatin1_aae02 1 (some .boolean), Cond.methodLink RJ0 495 yJ1_charAt_3b067, Cond.static yJ1_charAt_3b067, Cond.initialized RJ1, Cond.code yJ1_charAt_3b067 cJ1_charAt_3b067 2 (some .char), Cond.methodLink RJ1 9 yJ0_checkIndex_df160, Cond.static yJ0_checkIndex_df160, Cond.code yJ0_checkIndex_df160 cJ0_checkIndex_df160 2 none, Cond.fieldLink RJ0 1053 "jdk/internal/util/Preconditions" "SIOOBE_FORMATTER" "Ljava/util/function/BiFunction;", Cond.methodLink RJ0 1059 yJ3_checkIndex_8e157, Cond.static yJ3_checkIndex_8e157, Cond.initialized RJ3]
def wsX1_readWord_r3 : List Cond := [Cond.code yJ3_checkIndex_8e157 cJ3_checkIndex_8e157 3 (some .int), Cond.methodLink RJ0 498 yJ2_charAt_3b067, Cond.static yJ2_charAt_3b067, Cond.initialized RJ2, Cond.code yJ2_charAt_3b067 cJ2_charAt_3b067 2 (some .char), Cond.methodLink RJ2 67 yJ2_checkIndex_2214a, Cond.static yJ2_checkIndex_2214a, Cond.code yJ2_checkIndex_2214a cJ2_checkIndex_2214a 2 none, Cond.methodLink RJ2 48 yJ2_length_9d52b, Cond.static yJ2_length_9d52b, Cond.code yJ2_length_9d52b cJ2_length_9d52b 1 (some .int), Cond.methodLink RJ2 414 yJ0_checkIndex_df160, Cond.methodLink RJ2 71 yJ2_getChar_3b067, Cond.static yJ2_getChar_3b067, Cond.code yJ2_getChar_3b067 cJ2_getChar_3b067 2 (some .char), Cond.fieldLink RJ2 44 "java/lang/StringUTF16" "$assertionsDisabled" "Z", Cond.fieldLink RJ2 59 "java/lang/StringUTF16" "HI_BYTE_SHIFT" "I", Cond.fieldLink RJ2 63 "java/lang/StringUTF16" "LO_BYTE_SHIFT" "I"]
def wsX1_readWord : List Cond := .code yX1_readWord cX1_readWord 2 none :: ((wsX1_readWord_r1 ++ (wsX1_readWord_r2 ++ wsX1_readWord_r3)) ++ wsX10)
def wsX1_isFigure : List Cond := .code yX1_isFigure cX1_isFigure 1 (some .boolean) :: ([])
def wsX1_readFigures : List Cond := .code yX1_readFigures cX1_readFigures 1 none :: ([.fieldLink RX1 37 "MothsShare$Deed" "value" "I", .fieldLink RX1 28 "MothsShare$Deed" "place" "I", .fieldLink RX1 19 "MothsShare$Deed" "length" "I", .fieldLink RX1 11 "MothsShare$Deed" "text" "[B", .fieldLink RX1 48 "MothsShare$Deed" "start" "I", .fieldLink RX1 34 "MothsShare$Deed" "token" "I", .methodLink RX1 79 yX1_isFigure, .static yX1_isFigure, .initialized RX1, .code yX1_isFigure cX1_isFigure 1 (some .boolean)] ++ wsX10)
def wsX1_nextToken_r1 : List Cond := [Cond.fieldLink RX1 28 "MothsShare$Deed" "place" "I", Cond.fieldLink RX1 19 "MothsShare$Deed" "length" "I", Cond.fieldLink RX1 11 "MothsShare$Deed" "text" "[B", Cond.fieldLink RX1 48 "MothsShare$Deed" "start" "I", Cond.fieldLink RX1 34 "MothsShare$Deed" "token" "I", Cond.methodLink RX1 72 yX1_isLetter, Cond.static yX1_isLetter, Cond.initialized RX1, Cond.code yX1_isLetter cX1_isLetter 1 (some .boolean), Cond.methodLink RX1 76 yX1_readWord, Cond.instanceMethod yX1_readWord, Cond.selects RX1 yX1_readWord yX1_readWord, Cond.code yX1_readWord cX1_readWord 2 none, Cond.fieldLink RX1 37 "MothsShare$Deed" "value" "I", Cond.methodLink RX1 85 yX1_wordAt, Cond.static yX1_wordAt, Cond.code yX1_wordAt cX1_wordAt 1 (some (.object "java/lang/String")), Cond.methodLink RX1 89 yX1_isWord, Cond.instanceMethod yX1_isWord, Cond.selects RX1 yX1_isWord yX1_isWord, Cond.code yX1_isWord cX1_isWord 3 (some .boolean), Cond.methodLink RX1 93 yJ0_length_8abf5, Cond.instanceMethod yJ0_length_8abf5, Cond.selects RJ0 yJ0_length_8abf5 yJ0_length_8abf5]
def wsX1_nextToken_r2 : List Cond := [Cond.initialized RJ0, Cond.code yJ0_length_8abf5 cJ0_length_8abf5 1 (some .int), Cond.fieldLink RJ0 9 "java/lang/String" "value" "[B", Cond.methodLink RJ0 335 yJ0_coder_7d493, Cond.instanceMethod yJ0_coder_7d493, Cond.selects RJ0 yJ0_coder_7d493 yJ0_coder_7d493, Cond.code yJ0_coder_7d493 cJ0_coder_7d493 1 (some .byte), Cond.fieldLink RJ0 38 "java/lang/String" "COMPACT_STRINGS" "Z", Cond.fieldLink RJ0 15 "java/lang/String" "coder" "B", Cond.methodLink RX1 98 yJ0_charAt_5068e, Cond.instanceMethod yJ0_charAt_5068e, Cond.selects RJ0 yJ0_charAt_5068e yJ0_charAt_5068e, Cond.code yJ0_charAt_5068e cJ0_charAt_5068e 2 (some .char), Cond.methodLink RJ0 492 yJ0_isLatin1_aae02, Cond.instanceMethod yJ0_isLatin1_aae02, Cond.selects RJ0 yJ0_isLatin1_aae02 yJ0_isLatin1_aae02, Cond.code yJ0_isLatin1_aae02 cJ0_isLatin1_aae02 1 (some .boolean), Cond.methodLink RJ0 495 yJ1_charAt_3b067, Cond.static yJ1_charAt_3b067, Cond.initialized RJ1, Cond.code yJ1_charAt_3b067 cJ1_charAt_3b067 2 (some .char), Cond.methodLink RJ1 9 yJ0_checkIndex_df160, Cond.static yJ0_checkIndex_df160, Cond.code yJ0_checkIndex_df160 cJ0_checkIndex_df160 2 none]
def wsX1_nextToken_r3 : List Cond := [Cond.fieldLink RJ0 1053 "jdk/internal/util/Preconditions" "SIOOBE_FORMATTER" "Ljava/util/function/BiFunction;", Cond.methodLink RJ0 1059 yJ3_checkIndex_8e157, Cond.static yJ3_checkIndex_8e157, Cond.initialized RJ3, Cond.code yJ3_checkIndex_8e157 cJ3_checkIndex_8e157 3 (some .int), Cond.methodLink RJ0 498 yJ2_charAt_3b067, Cond.static yJ2_charAt_3b067, Cond.initialized RJ2, Cond.code yJ2_charAt_3b067 cJ2_charAt_3b067 2 (some .char), Cond.methodLink RJ2 67 yJ2_checkIndex_2214a, Cond.static yJ2_checkIndex_2214a, Cond.code yJ2_checkIndex_2214a cJ2_checkIndex_2214a 2 none, Cond.methodLink RJ2 48 yJ2_length_9d52b, Cond.static yJ2_length_9d52b, Cond.code yJ2_length_9d52b cJ2_length_9d52b 1 (some .int), Cond.methodLink RJ2 414 yJ0_checkIndex_df160, Cond.methodLink RJ2 71 yJ2_getChar_3b067, Cond.static yJ2_getChar_3b067, Cond.code yJ2_getChar_3b067 cJ2_getChar_3b067 2 (some .char), Cond.fieldLink RJ2 44 "java/lang/StringUTF16" "$assertionsDisabled" "Z", Cond.fieldLink RJ2 59 "java/lang/StringUTF16" "HI_BYTE_SHIFT" "I", Cond.fieldLink RJ2 63 "java/lang/StringUTF16" "LO_BYTE_SHIFT" "I", Cond.methodLink RX1 79 yX1_isFigure, Cond.static yX1_isFigure]
def wsX1_nextToken_r4 : List Cond := [Cond.code yX1_isFigure cX1_isFigure 1 (some .boolean), Cond.methodLink RX1 82 yX1_readFigures, Cond.instanceMethod yX1_readFigures, Cond.selects RX1 yX1_readFigures yX1_readFigures, Cond.code yX1_readFigures cX1_readFigures 1 none]
def wsX1_nextToken : List Cond := .code yX1_nextToken cX1_nextToken 1 none :: ((wsX1_nextToken_r1 ++ (wsX1_nextToken_r2 ++ (wsX1_nextToken_r3 ++ wsX1_nextToken_r4))) ++ wsX10)
def wsX1_numbersOf : List Cond := .code yX1_numbersOf cX1_numbersOf 1 (some .int) :: ([])
def wsX1_readNumbers_r1 : List Cond := [Cond.fieldLink RX1 15 "MothsShare$Deed" "numbers" "[I", Cond.fieldLink RX1 34 "MothsShare$Deed" "token" "I", Cond.fieldLink RX1 37 "MothsShare$Deed" "value" "I", Cond.methodLink RX1 31 yX1_nextToken, Cond.instanceMethod yX1_nextToken, Cond.selects RX1 yX1_nextToken yX1_nextToken, Cond.initialized RX1, Cond.code yX1_nextToken cX1_nextToken 1 none, Cond.fieldLink RX1 28 "MothsShare$Deed" "place" "I", Cond.fieldLink RX1 19 "MothsShare$Deed" "length" "I", Cond.fieldLink RX1 11 "MothsShare$Deed" "text" "[B", Cond.fieldLink RX1 48 "MothsShare$Deed" "start" "I", Cond.methodLink RX1 72 yX1_isLetter, Cond.static yX1_isLetter, Cond.code yX1_isLetter cX1_isLetter 1 (some .boolean), Cond.methodLink RX1 76 yX1_readWord, Cond.instanceMethod yX1_readWord, Cond.selects RX1 yX1_readWord yX1_readWord, Cond.code yX1_readWord cX1_readWord 2 none, Cond.methodLink RX1 85 yX1_wordAt, Cond.static yX1_wordAt, Cond.code yX1_wordAt cX1_wordAt 1 (some (.object "java/lang/String")), Cond.methodLink RX1 89 yX1_isWord, Cond.instanceMethod yX1_isWord]
def wsX1_readNumbers_r2 : List Cond := [Cond.selects RX1 yX1_isWord yX1_isWord, Cond.code yX1_isWord cX1_isWord 3 (some .boolean), Cond.methodLink RX1 93 yJ0_length_8abf5, Cond.instanceMethod yJ0_length_8abf5, Cond.selects RJ0 yJ0_length_8abf5 yJ0_length_8abf5, Cond.initialized RJ0, Cond.code yJ0_length_8abf5 cJ0_length_8abf5 1 (some .int), Cond.fieldLink RJ0 9 "java/lang/String" "value" "[B", Cond.methodLink RJ0 335 yJ0_coder_7d493, Cond.instanceMethod yJ0_coder_7d493, Cond.selects RJ0 yJ0_coder_7d493 yJ0_coder_7d493, Cond.code yJ0_coder_7d493 cJ0_coder_7d493 1 (some .byte), Cond.fieldLink RJ0 38 "java/lang/String" "COMPACT_STRINGS" "Z", Cond.fieldLink RJ0 15 "java/lang/String" "coder" "B", Cond.methodLink RX1 98 yJ0_charAt_5068e, Cond.instanceMethod yJ0_charAt_5068e, Cond.selects RJ0 yJ0_charAt_5068e yJ0_charAt_5068e, Cond.code yJ0_charAt_5068e cJ0_charAt_5068e 2 (some .char), Cond.methodLink RJ0 492 yJ0_isLatin1_aae02, Cond.instanceMethod yJ0_isLatin1_aae02, Cond.selects RJ0 yJ0_isLatin1_aae02 yJ0_isLatin1_aae02, Cond.code yJ0_isLatin1_aae02 cJ0_isLatin1_aae02 1 (some .boolean), Cond.methodLink RJ0 495 yJ1_charAt_3b067, Cond.static yJ1_charAt_3b067]
def wsX1_readNumbers_r3 : List Cond := [Cond.initialized RJ1, Cond.code yJ1_charAt_3b067 cJ1_charAt_3b067 2 (some .char), Cond.methodLink RJ1 9 yJ0_checkIndex_df160, Cond.static yJ0_checkIndex_df160, Cond.code yJ0_checkIndex_df160 cJ0_checkIndex_df160 2 none, Cond.fieldLink RJ0 1053 "jdk/internal/util/Preconditions" "SIOOBE_FORMATTER" "Ljava/util/function/BiFunction;", Cond.methodLink RJ0 1059 yJ3_checkIndex_8e157, Cond.static yJ3_checkIndex_8e157, Cond.initialized RJ3, Cond.code yJ3_checkIndex_8e157 cJ3_checkIndex_8e157 3 (some .int), Cond.methodLink RJ0 498 yJ2_charAt_3b067, Cond.static yJ2_charAt_3b067, Cond.initialized RJ2, Cond.code yJ2_charAt_3b067 cJ2_charAt_3b067 2 (some .char), Cond.methodLink RJ2 67 yJ2_checkIndex_2214a, Cond.static yJ2_checkIndex_2214a, Cond.code yJ2_checkIndex_2214a cJ2_checkIndex_2214a 2 none, Cond.methodLink RJ2 48 yJ2_length_9d52b, Cond.static yJ2_length_9d52b, Cond.code yJ2_length_9d52b cJ2_length_9d52b 1 (some .int), Cond.methodLink RJ2 414 yJ0_checkIndex_df160, Cond.methodLink RJ2 71 yJ2_getChar_3b067, Cond.static yJ2_getChar_3b067, Cond.code yJ2_getChar_3b067 cJ2_getChar_3b067 2 (some .char)]
def wsX1_readNumbers_r4 : List Cond := [Cond.fieldLink RJ2 44 "java/lang/StringUTF16" "$assertionsDisabled" "Z", Cond.fieldLink RJ2 59 "java/lang/StringUTF16" "HI_BYTE_SHIFT" "I", Cond.fieldLink RJ2 63 "java/lang/StringUTF16" "LO_BYTE_SHIFT" "I", Cond.methodLink RX1 79 yX1_isFigure, Cond.static yX1_isFigure, Cond.code yX1_isFigure cX1_isFigure 1 (some .boolean), Cond.methodLink RX1 82 yX1_readFigures, Cond.instanceMethod yX1_readFigures, Cond.selects RX1 yX1_readFigures yX1_readFigures, Cond.code yX1_readFigures cX1_readFigures 1 none]
def wsX1_readNumbers : List Cond := .code yX1_readNumbers cX1_readNumbers 3 (some .boolean) :: ((wsX1_readNumbers_r1 ++ (wsX1_readNumbers_r2 ++ (wsX1_readNumbers_r3 ++ wsX1_readNumbers_r4))) ++ wsX10)
def wsX4_addBolt : List Cond := .code yX4_addBolt cX4_addBolt 4 (some .int) :: ([.fieldLink RX4 27 "MothsShare$Share" "tastes" "[I", .fieldLink RX4 39 "MothsShare$Share" "bolts" "I", .fieldLink RX4 9 "MothsShare$Share" "colours" "[I", .fieldLink RX4 15 "MothsShare$Share" "smells" "[I", .fieldLink RX4 18 "MothsShare$Share" "worths" "[I", .fieldLink RX4 21 "MothsShare$Share" "holesTold" "[I", .fieldLink RX4 55 "MothsShare$Share" "given" "I"] ++ wsX40)
def wsX4_addMoth : List Cond := .code yX4_addMoth cX4_addMoth 2 (some .int) :: ([.fieldLink RX4 43 "MothsShare$Share" "moths" "I", .fieldLink RX4 24 "MothsShare$Share" "breeds" "[I", .fieldLink RX4 55 "MothsShare$Share" "given" "I"] ++ wsX40)
def wsX4_setTaste : List Cond := .code yX4_setTaste cX4_setTaste 4 (some .int) :: ([.fieldLink RX4 27 "MothsShare$Share" "tastes" "[I"] ++ wsX40)
def wsX4_hasBolt : List Cond := .code yX4_hasBolt cX4_hasBolt 2 (some .boolean) :: ([.fieldLink RX4 39 "MothsShare$Share" "bolts" "I"] ++ wsX40)
def wsX4_setHoles : List Cond := .code yX4_setHoles cX4_setHoles 4 (some .int) :: ([.fieldLink RX4 21 "MothsShare$Share" "holesTold" "[I", .methodLink RX4 74 yX4_hasBolt, .instanceMethod yX4_hasBolt, .selects RX4 yX4_hasBolt yX4_hasBolt, .initialized RX4, .code yX4_hasBolt cX4_hasBolt 2 (some .boolean), .fieldLink RX4 39 "MothsShare$Share" "bolts" "I"] ++ wsX40)
def wsX4_setEach : List Cond := .code yX4_setEach cX4_setEach 3 (some .int) :: ([.fieldLink RX4 46 "MothsShare$Share" "each" "I", .fieldLink RX4 55 "MothsShare$Share" "given" "I"] ++ wsX40)
def wsX4_setWant : List Cond := .code yX4_setWant cX4_setWant 3 (some .int) :: ([.fieldLink RX4 49 "MothsShare$Share" "want" "I"] ++ wsX40)
def wsX4_setMood : List Cond := .code yX4_setMood cX4_setMood 3 (some .int) :: ([.fieldLink RX4 52 "MothsShare$Share" "mood" "I", .fieldLink RX4 55 "MothsShare$Share" "given" "I"] ++ wsX40)
def wsX4_setTerm : List Cond := .code yX4_setTerm cX4_setTerm 3 (some .int) :: ([.methodLink RX4 64 yX4_setEach, .instanceMethod yX4_setEach, .selects RX4 yX4_setEach yX4_setEach, .initialized RX4, .code yX4_setEach cX4_setEach 3 (some .int), .fieldLink RX4 46 "MothsShare$Share" "each" "I", .fieldLink RX4 55 "MothsShare$Share" "given" "I", .methodLink RX4 68 yX4_setWant, .instanceMethod yX4_setWant, .selects RX4 yX4_setWant yX4_setWant, .code yX4_setWant cX4_setWant 3 (some .int), .fieldLink RX4 49 "MothsShare$Share" "want" "I", .methodLink RX4 71 yX4_setMood, .instanceMethod yX4_setMood, .selects RX4 yX4_setMood yX4_setMood, .code yX4_setMood cX4_setMood 3 (some .int), .fieldLink RX4 52 "MothsShare$Share" "mood" "I"] ++ wsX40)
def wsX1_tellItem_r1 : List Cond := [Cond.fieldLink RX1 15 "MothsShare$Deed" "numbers" "[I", Cond.methodLink RX1 55 yX4_addBolt, Cond.instanceMethod yX4_addBolt, Cond.selects RX4 yX4_addBolt yX4_addBolt, Cond.initialized RX4, Cond.code yX4_addBolt cX4_addBolt 4 (some .int), Cond.fieldLink RX4 27 "MothsShare$Share" "tastes" "[I", Cond.fieldLink RX4 39 "MothsShare$Share" "bolts" "I", Cond.fieldLink RX4 9 "MothsShare$Share" "colours" "[I", Cond.fieldLink RX4 15 "MothsShare$Share" "smells" "[I", Cond.fieldLink RX4 18 "MothsShare$Share" "worths" "[I", Cond.fieldLink RX4 21 "MothsShare$Share" "holesTold" "[I", Cond.fieldLink RX4 55 "MothsShare$Share" "given" "I", Cond.methodLink RX1 59 yX4_addMoth, Cond.instanceMethod yX4_addMoth, Cond.selects RX4 yX4_addMoth yX4_addMoth, Cond.code yX4_addMoth cX4_addMoth 2 (some .int), Cond.fieldLink RX4 43 "MothsShare$Share" "moths" "I", Cond.fieldLink RX4 24 "MothsShare$Share" "breeds" "[I", Cond.methodLink RX1 62 yX4_setTaste, Cond.instanceMethod yX4_setTaste, Cond.selects RX4 yX4_setTaste yX4_setTaste, Cond.code yX4_setTaste cX4_setTaste 4 (some .int), Cond.methodLink RX1 66 yX4_setHoles]
def wsX1_tellItem_r2 : List Cond := [Cond.instanceMethod yX4_setHoles, Cond.selects RX4 yX4_setHoles yX4_setHoles, Cond.code yX4_setHoles cX4_setHoles 4 (some .int), Cond.methodLink RX4 74 yX4_hasBolt, Cond.instanceMethod yX4_hasBolt, Cond.selects RX4 yX4_hasBolt yX4_hasBolt, Cond.code yX4_hasBolt cX4_hasBolt 2 (some .boolean), Cond.methodLink RX1 69 yX4_setTerm, Cond.instanceMethod yX4_setTerm, Cond.selects RX4 yX4_setTerm yX4_setTerm, Cond.code yX4_setTerm cX4_setTerm 3 (some .int), Cond.methodLink RX4 64 yX4_setEach, Cond.instanceMethod yX4_setEach, Cond.selects RX4 yX4_setEach yX4_setEach, Cond.code yX4_setEach cX4_setEach 3 (some .int), Cond.fieldLink RX4 46 "MothsShare$Share" "each" "I", Cond.methodLink RX4 68 yX4_setWant, Cond.instanceMethod yX4_setWant, Cond.selects RX4 yX4_setWant yX4_setWant, Cond.code yX4_setWant cX4_setWant 3 (some .int), Cond.fieldLink RX4 49 "MothsShare$Share" "want" "I", Cond.methodLink RX4 71 yX4_setMood, Cond.instanceMethod yX4_setMood, Cond.selects RX4 yX4_setMood yX4_setMood]
def wsX1_tellItem_r3 : List Cond := [Cond.code yX4_setMood cX4_setMood 3 (some .int), Cond.fieldLink RX4 52 "MothsShare$Share" "mood" "I"]
def wsX1_tellItem : List Cond := .code yX1_tellItem cX1_tellItem 3 (some .int) :: ((wsX1_tellItem_r1 ++ (wsX1_tellItem_r2 ++ wsX1_tellItem_r3)) ++ wsX10 ++ wsX40)
def wsX1_tellTo_r1 : List Cond := [Cond.fieldLink RX1 28 "MothsShare$Deed" "place" "I", Cond.fieldLink RX1 34 "MothsShare$Deed" "token" "I", Cond.fieldLink RX1 37 "MothsShare$Deed" "value" "I", Cond.fieldLink RX1 48 "MothsShare$Deed" "start" "I", Cond.fieldLink RX1 19 "MothsShare$Deed" "length" "I", Cond.methodLink RX1 23 yX4_startAnew, Cond.instanceMethod yX4_startAnew, Cond.selects RX4 yX4_startAnew yX4_startAnew, Cond.initialized RX4, Cond.code yX4_startAnew cX4_startAnew 2 none, Cond.fieldLink RX4 39 "MothsShare$Share" "bolts" "I", Cond.fieldLink RX4 43 "MothsShare$Share" "moths" "I", Cond.fieldLink RX4 27 "MothsShare$Share" "tastes" "[I", Cond.fieldLink RX4 46 "MothsShare$Share" "each" "I", Cond.fieldLink RX4 49 "MothsShare$Share" "want" "I", Cond.fieldLink RX4 52 "MothsShare$Share" "mood" "I", Cond.fieldLink RX4 55 "MothsShare$Share" "given" "I", Cond.methodLink RX1 31 yX1_nextToken, Cond.instanceMethod yX1_nextToken, Cond.selects RX1 yX1_nextToken yX1_nextToken, Cond.initialized RX1, Cond.code yX1_nextToken cX1_nextToken 1 none, Cond.fieldLink RX1 11 "MothsShare$Deed" "text" "[B", Cond.methodLink RX1 72 yX1_isLetter]
def wsX1_tellTo_r2 : List Cond := [Cond.static yX1_isLetter, Cond.code yX1_isLetter cX1_isLetter 1 (some .boolean), Cond.methodLink RX1 76 yX1_readWord, Cond.instanceMethod yX1_readWord, Cond.selects RX1 yX1_readWord yX1_readWord, Cond.code yX1_readWord cX1_readWord 2 none, Cond.methodLink RX1 85 yX1_wordAt, Cond.static yX1_wordAt, Cond.code yX1_wordAt cX1_wordAt 1 (some (.object "java/lang/String")), Cond.methodLink RX1 89 yX1_isWord, Cond.instanceMethod yX1_isWord, Cond.selects RX1 yX1_isWord yX1_isWord, Cond.code yX1_isWord cX1_isWord 3 (some .boolean), Cond.methodLink RX1 93 yJ0_length_8abf5, Cond.instanceMethod yJ0_length_8abf5, Cond.selects RJ0 yJ0_length_8abf5 yJ0_length_8abf5, Cond.initialized RJ0, Cond.code yJ0_length_8abf5 cJ0_length_8abf5 1 (some .int), Cond.fieldLink RJ0 9 "java/lang/String" "value" "[B", Cond.methodLink RJ0 335 yJ0_coder_7d493, Cond.instanceMethod yJ0_coder_7d493, Cond.selects RJ0 yJ0_coder_7d493 yJ0_coder_7d493, Cond.code yJ0_coder_7d493 cJ0_coder_7d493 1 (some .byte), Cond.fieldLink RJ0 38 "java/lang/String" "COMPACT_STRINGS" "Z"]
def wsX1_tellTo_r3 : List Cond := [Cond.fieldLink RJ0 15 "java/lang/String" "coder" "B", Cond.methodLink RX1 98 yJ0_charAt_5068e, Cond.instanceMethod yJ0_charAt_5068e, Cond.selects RJ0 yJ0_charAt_5068e yJ0_charAt_5068e, Cond.code yJ0_charAt_5068e cJ0_charAt_5068e 2 (some .char), Cond.methodLink RJ0 492 yJ0_isLatin1_aae02, Cond.instanceMethod yJ0_isLatin1_aae02, Cond.selects RJ0 yJ0_isLatin1_aae02 yJ0_isLatin1_aae02, Cond.code yJ0_isLatin1_aae02 cJ0_isLatin1_aae02 1 (some .boolean), Cond.methodLink RJ0 495 yJ1_charAt_3b067, Cond.static yJ1_charAt_3b067, Cond.initialized RJ1, Cond.code yJ1_charAt_3b067 cJ1_charAt_3b067 2 (some .char), Cond.methodLink RJ1 9 yJ0_checkIndex_df160, Cond.static yJ0_checkIndex_df160, Cond.code yJ0_checkIndex_df160 cJ0_checkIndex_df160 2 none, Cond.fieldLink RJ0 1053 "jdk/internal/util/Preconditions" "SIOOBE_FORMATTER" "Ljava/util/function/BiFunction;", Cond.methodLink RJ0 1059 yJ3_checkIndex_8e157, Cond.static yJ3_checkIndex_8e157, Cond.initialized RJ3, Cond.code yJ3_checkIndex_8e157 cJ3_checkIndex_8e157 3 (some .int), Cond.methodLink RJ0 498 yJ2_charAt_3b067, Cond.static yJ2_charAt_3b067, Cond.initialized RJ2]
def wsX1_tellTo_r4 : List Cond := [Cond.code yJ2_charAt_3b067 cJ2_charAt_3b067 2 (some .char), Cond.methodLink RJ2 67 yJ2_checkIndex_2214a, Cond.static yJ2_checkIndex_2214a, Cond.code yJ2_checkIndex_2214a cJ2_checkIndex_2214a 2 none, Cond.methodLink RJ2 48 yJ2_length_9d52b, Cond.static yJ2_length_9d52b, Cond.code yJ2_length_9d52b cJ2_length_9d52b 1 (some .int), Cond.methodLink RJ2 414 yJ0_checkIndex_df160, Cond.methodLink RJ2 71 yJ2_getChar_3b067, Cond.static yJ2_getChar_3b067, Cond.code yJ2_getChar_3b067 cJ2_getChar_3b067 2 (some .char), Cond.fieldLink RJ2 44 "java/lang/StringUTF16" "$assertionsDisabled" "Z", Cond.fieldLink RJ2 59 "java/lang/StringUTF16" "HI_BYTE_SHIFT" "I", Cond.fieldLink RJ2 63 "java/lang/StringUTF16" "LO_BYTE_SHIFT" "I", Cond.methodLink RX1 79 yX1_isFigure, Cond.static yX1_isFigure, Cond.code yX1_isFigure cX1_isFigure 1 (some .boolean), Cond.methodLink RX1 82 yX1_readFigures, Cond.instanceMethod yX1_readFigures, Cond.selects RX1 yX1_readFigures yX1_readFigures, Cond.code yX1_readFigures cX1_readFigures 1 none, Cond.methodLink RX1 40 yX1_numbersOf, Cond.static yX1_numbersOf, Cond.code yX1_numbersOf cX1_numbersOf 1 (some .int)]
def wsX1_tellTo_r5 : List Cond := [Cond.methodLink RX1 44 yX1_readNumbers, Cond.instanceMethod yX1_readNumbers, Cond.selects RX1 yX1_readNumbers yX1_readNumbers, Cond.code yX1_readNumbers cX1_readNumbers 3 (some .boolean), Cond.fieldLink RX1 15 "MothsShare$Deed" "numbers" "[I", Cond.methodLink RX1 51 yX1_tellItem, Cond.instanceMethod yX1_tellItem, Cond.selects RX1 yX1_tellItem yX1_tellItem, Cond.code yX1_tellItem cX1_tellItem 3 (some .int), Cond.methodLink RX1 55 yX4_addBolt, Cond.instanceMethod yX4_addBolt, Cond.selects RX4 yX4_addBolt yX4_addBolt, Cond.code yX4_addBolt cX4_addBolt 4 (some .int), Cond.fieldLink RX4 9 "MothsShare$Share" "colours" "[I", Cond.fieldLink RX4 15 "MothsShare$Share" "smells" "[I", Cond.fieldLink RX4 18 "MothsShare$Share" "worths" "[I", Cond.fieldLink RX4 21 "MothsShare$Share" "holesTold" "[I", Cond.methodLink RX1 59 yX4_addMoth, Cond.instanceMethod yX4_addMoth, Cond.selects RX4 yX4_addMoth yX4_addMoth, Cond.code yX4_addMoth cX4_addMoth 2 (some .int), Cond.fieldLink RX4 24 "MothsShare$Share" "breeds" "[I", Cond.methodLink RX1 62 yX4_setTaste, Cond.instanceMethod yX4_setTaste]
def wsX1_tellTo_r6 : List Cond := [Cond.selects RX4 yX4_setTaste yX4_setTaste, Cond.code yX4_setTaste cX4_setTaste 4 (some .int), Cond.methodLink RX1 66 yX4_setHoles, Cond.instanceMethod yX4_setHoles, Cond.selects RX4 yX4_setHoles yX4_setHoles, Cond.code yX4_setHoles cX4_setHoles 4 (some .int), Cond.methodLink RX4 74 yX4_hasBolt, Cond.instanceMethod yX4_hasBolt, Cond.selects RX4 yX4_hasBolt yX4_hasBolt, Cond.code yX4_hasBolt cX4_hasBolt 2 (some .boolean), Cond.methodLink RX1 69 yX4_setTerm, Cond.instanceMethod yX4_setTerm, Cond.selects RX4 yX4_setTerm yX4_setTerm, Cond.code yX4_setTerm cX4_setTerm 3 (some .int), Cond.methodLink RX4 64 yX4_setEach, Cond.instanceMethod yX4_setEach, Cond.selects RX4 yX4_setEach yX4_setEach, Cond.code yX4_setEach cX4_setEach 3 (some .int), Cond.methodLink RX4 68 yX4_setWant, Cond.instanceMethod yX4_setWant, Cond.selects RX4 yX4_setWant yX4_setWant, Cond.code yX4_setWant cX4_setWant 3 (some .int), Cond.methodLink RX4 71 yX4_setMood, Cond.instanceMethod yX4_setMood]
def wsX1_tellTo_r7 : List Cond := [Cond.selects RX4 yX4_setMood yX4_setMood, Cond.code yX4_setMood cX4_setMood 3 (some .int)]
def wsX1_tellTo : List Cond := .code yX1_tellTo cX1_tellTo 5 (some .int) :: ((wsX1_tellTo_r1 ++ (wsX1_tellTo_r2 ++ (wsX1_tellTo_r3 ++ (wsX1_tellTo_r4 ++ (wsX1_tellTo_r5 ++ (wsX1_tellTo_r6 ++ wsX1_tellTo_r7)))))) ++ wsX10 ++ wsX40)
def wsX2_init : List Cond := .code yX2_init cX2_init 1 none :: ([.methodLink RX2 1 objectInit, .instanceMethod objectInit, .code objectInit ⟨#[0xb1]⟩ 1 none, .fieldLink RX2 7 "MothsShare$Fraction" "above" "J", .fieldLink RX2 13 "MothsShare$Fraction" "below" "J"] ++ wsX20)
def wsX2_greatestCommon : List Cond := .code yX2_greatestCommon cX2_greatestCommon 7 (some .long) :: ([])
def wsX2_become : List Cond := .code yX2_become cX2_become 7 none :: ([.fieldLink RX2 7 "MothsShare$Fraction" "above" "J", .fieldLink RX2 13 "MothsShare$Fraction" "below" "J", .methodLink RX2 16 yX2_greatestCommon, .static yX2_greatestCommon, .initialized RX2, .code yX2_greatestCommon cX2_greatestCommon 7 (some .long)] ++ wsX20)
def wsX3_init : List Cond := .code yX3_init cX3_init 1 none :: ([.methodLink RX3 3 objectInit, .instanceMethod objectInit, .code objectInit ⟨#[0xb1]⟩ 1 none, .arrayClass .boolean, .fieldLink RX3 9 "MothsShare$Plan" "pleasing" "[Z", .arrayClass .int, .fieldLink RX3 15 "MothsShare$Plan" "least" "[I", .fieldLink RX3 19 "MothsShare$Plan" "choice" "[I", .fieldLink RX3 22 "MothsShare$Plan" "gifts" "[I", .fieldLink RX3 25 "MothsShare$Plan" "ahead" "[I"] ++ wsX30)
def wsX3_moodBehind : List Cond := .code yX3_moodBehind cX3_moodBehind 2 (some .int) :: ([.methodLink RX3 28 Lib.Math.min.name, .static Lib.Math.min.name, .initialized "java/lang/Math", .code Lib.Math.min.name Lib.Math.min.code 2 (some .int)])
def wsX4_hasMoth : List Cond := .code yX4_hasMoth cX4_hasMoth 2 (some .boolean) :: ([.fieldLink RX4 43 "MothsShare$Share" "moths" "I"] ++ wsX40)
def wsX4_hungerAt : List Cond := .code yX4_hungerAt cX4_hungerAt 6 (some .int) :: ([.fieldLink RX4 9 "MothsShare$Share" "colours" "[I", .fieldLink RX4 27 "MothsShare$Share" "tastes" "[I", .fieldLink RX4 24 "MothsShare$Share" "breeds" "[I", .methodLink RX4 85 yX4_hasMoth, .instanceMethod yX4_hasMoth, .selects RX4 yX4_hasMoth yX4_hasMoth, .initialized RX4, .code yX4_hasMoth cX4_hasMoth 2 (some .boolean), .fieldLink RX4 43 "MothsShare$Share" "moths" "I", .methodLink RX4 74 yX4_hasBolt, .instanceMethod yX4_hasBolt, .selects RX4 yX4_hasBolt yX4_hasBolt, .code yX4_hasBolt cX4_hasBolt 2 (some .boolean), .fieldLink RX4 39 "MothsShare$Share" "bolts" "I", .methodLink RX4 88 yX0_hunger, .static yX0_hunger, .initialized RX0, .code yX0_hunger cX0_hunger 6 (some .int)] ++ wsX40)
def wsX4_hunger : List Cond := .code yX4_hunger cX4_hunger 3 (some .int) :: ([.fieldLink RX4 15 "MothsShare$Share" "smells" "[I", .methodLink RX4 74 yX4_hasBolt, .instanceMethod yX4_hasBolt, .selects RX4 yX4_hasBolt yX4_hasBolt, .initialized RX4, .code yX4_hasBolt cX4_hasBolt 2 (some .boolean), .fieldLink RX4 39 "MothsShare$Share" "bolts" "I", .methodLink RX4 81 yX4_hungerAt, .instanceMethod yX4_hungerAt, .selects RX4 yX4_hungerAt yX4_hungerAt, .code yX4_hungerAt cX4_hungerAt 6 (some .int), .fieldLink RX4 9 "MothsShare$Share" "colours" "[I", .fieldLink RX4 27 "MothsShare$Share" "tastes" "[I", .fieldLink RX4 24 "MothsShare$Share" "breeds" "[I", .methodLink RX4 85 yX4_hasMoth, .instanceMethod yX4_hasMoth, .selects RX4 yX4_hasMoth yX4_hasMoth, .code yX4_hasMoth cX4_hasMoth 2 (some .boolean), .fieldLink RX4 43 "MothsShare$Share" "moths" "I", .methodLink RX4 88 yX0_hunger, .static yX0_hunger, .initialized RX0, .code yX0_hunger cX0_hunger 6 (some .int)] ++ wsX40)
def wsX4_pleases_r1 : List Cond := [Cond.fieldLink RX4 43 "MothsShare$Share" "moths" "I", Cond.fieldLink RX4 49 "MothsShare$Share" "want" "I", Cond.methodLink RX4 92 yX4_hunger, Cond.instanceMethod yX4_hunger, Cond.selects RX4 yX4_hunger yX4_hunger, Cond.initialized RX4, Cond.code yX4_hunger cX4_hunger 3 (some .int), Cond.fieldLink RX4 15 "MothsShare$Share" "smells" "[I", Cond.methodLink RX4 74 yX4_hasBolt, Cond.instanceMethod yX4_hasBolt, Cond.selects RX4 yX4_hasBolt yX4_hasBolt, Cond.code yX4_hasBolt cX4_hasBolt 2 (some .boolean), Cond.fieldLink RX4 39 "MothsShare$Share" "bolts" "I", Cond.methodLink RX4 81 yX4_hungerAt, Cond.instanceMethod yX4_hungerAt, Cond.selects RX4 yX4_hungerAt yX4_hungerAt, Cond.code yX4_hungerAt cX4_hungerAt 6 (some .int), Cond.fieldLink RX4 9 "MothsShare$Share" "colours" "[I", Cond.fieldLink RX4 27 "MothsShare$Share" "tastes" "[I", Cond.fieldLink RX4 24 "MothsShare$Share" "breeds" "[I", Cond.methodLink RX4 85 yX4_hasMoth, Cond.instanceMethod yX4_hasMoth, Cond.selects RX4 yX4_hasMoth yX4_hasMoth, Cond.code yX4_hasMoth cX4_hasMoth 2 (some .boolean)]
def wsX4_pleases_r2 : List Cond := [Cond.methodLink RX4 88 yX0_hunger, Cond.static yX0_hunger, Cond.initialized RX0, Cond.code yX0_hunger cX0_hunger 6 (some .int)]
def wsX4_pleases : List Cond := .code yX4_pleases cX4_pleases 4 (some .boolean) :: ((wsX4_pleases_r1 ++ wsX4_pleases_r2) ++ wsX40)
def wsX4_groupsBy : List Cond := .code yX4_groupsBy cX4_groupsBy 2 (some .int) :: ([.fieldLink RX4 39 "MothsShare$Share" "bolts" "I"] ++ wsX40)
def wsX3_leastFrom : List Cond := .code yX3_leastFrom cX3_leastFrom 3 (some .int) :: ([.fieldLink RX3 15 "MothsShare$Plan" "least" "[I"] ++ wsX30)
def wsX4_worthOf : List Cond := .code yX4_worthOf cX4_worthOf 2 (some .int) :: ([.fieldLink RX4 18 "MothsShare$Share" "worths" "[I", .methodLink RX4 74 yX4_hasBolt, .instanceMethod yX4_hasBolt, .selects RX4 yX4_hasBolt yX4_hasBolt, .initialized RX4, .code yX4_hasBolt cX4_hasBolt 2 (some .boolean), .fieldLink RX4 39 "MothsShare$Share" "bolts" "I"] ++ wsX40)
def wsX3_choose_r1 : List Cond := [Cond.methodLink RX3 28 Lib.Math.min.name, Cond.static Lib.Math.min.name, Cond.initialized "java/lang/Math", Cond.code Lib.Math.min.name Lib.Math.min.code 2 (some .int), Cond.fieldLink RX3 9 "MothsShare$Plan" "pleasing" "[Z", Cond.fieldLink RX3 15 "MothsShare$Plan" "least" "[I", Cond.fieldLink RX3 19 "MothsShare$Plan" "choice" "[I", Cond.methodLink RX3 62 yX3_leastFrom, Cond.instanceMethod yX3_leastFrom, Cond.selects RX3 yX3_leastFrom yX3_leastFrom, Cond.initialized RX3, Cond.code yX3_leastFrom cX3_leastFrom 3 (some .int), Cond.methodLink RX3 65 yX3_moodBehind, Cond.static yX3_moodBehind, Cond.code yX3_moodBehind cX3_moodBehind 2 (some .int), Cond.methodLink RX3 69 yX4_worthOf, Cond.instanceMethod yX4_worthOf, Cond.selects RX4 yX4_worthOf yX4_worthOf, Cond.initialized RX4, Cond.code yX4_worthOf cX4_worthOf 2 (some .int), Cond.fieldLink RX4 18 "MothsShare$Share" "worths" "[I", Cond.methodLink RX4 74 yX4_hasBolt, Cond.instanceMethod yX4_hasBolt, Cond.selects RX4 yX4_hasBolt yX4_hasBolt]
def wsX3_choose_r2 : List Cond := [Cond.code yX4_hasBolt cX4_hasBolt 2 (some .boolean), Cond.fieldLink RX4 39 "MothsShare$Share" "bolts" "I"]
def wsX3_choose : List Cond := .code yX3_choose cX3_choose 11 none :: ((wsX3_choose_r1 ++ wsX3_choose_r2) ++ wsX40 ++ wsX30)
def wsX3_follow : List Cond := .code yX3_follow cX3_follow 5 none :: ([.fieldLink RX3 72 "MothsShare$Plan" "total" "I", .fieldLink RX3 48 "MothsShare$Plan" "rows" "I", .fieldLink RX3 19 "MothsShare$Plan" "choice" "[I", .fieldLink RX3 22 "MothsShare$Plan" "gifts" "[I", .fieldLink RX3 25 "MothsShare$Plan" "ahead" "[I", .fieldLink RX3 9 "MothsShare$Plan" "pleasing" "[Z", .methodLink RX3 62 yX3_leastFrom, .instanceMethod yX3_leastFrom, .selects RX3 yX3_leastFrom yX3_leastFrom, .initialized RX3, .code yX3_leastFrom cX3_leastFrom 3 (some .int), .fieldLink RX3 15 "MothsShare$Plan" "least" "[I", .methodLink RX3 65 yX3_moodBehind, .static yX3_moodBehind, .code yX3_moodBehind cX3_moodBehind 2 (some .int), .methodLink RX3 28 Lib.Math.min.name, .static Lib.Math.min.name, .initialized "java/lang/Math", .code Lib.Math.min.name Lib.Math.min.code 2 (some .int)] ++ wsX30)
def wsX3_lay_r1 : List Cond := [Cond.fieldLink RX3 9 "MothsShare$Plan" "pleasing" "[Z", Cond.methodLink RX3 28 Lib.Math.min.name, Cond.static Lib.Math.min.name, Cond.initialized "java/lang/Math", Cond.code Lib.Math.min.name Lib.Math.min.code 2 (some .int), Cond.fieldLink RX3 48 "MothsShare$Plan" "rows" "I", Cond.fieldLink RX3 15 "MothsShare$Plan" "least" "[I", Cond.methodLink RX3 40 yX4_pleases, Cond.instanceMethod yX4_pleases, Cond.selects RX4 yX4_pleases yX4_pleases, Cond.initialized RX4, Cond.code yX4_pleases cX4_pleases 4 (some .boolean), Cond.fieldLink RX4 43 "MothsShare$Share" "moths" "I", Cond.fieldLink RX4 49 "MothsShare$Share" "want" "I", Cond.methodLink RX4 92 yX4_hunger, Cond.instanceMethod yX4_hunger, Cond.selects RX4 yX4_hunger yX4_hunger, Cond.code yX4_hunger cX4_hunger 3 (some .int), Cond.fieldLink RX4 15 "MothsShare$Share" "smells" "[I", Cond.methodLink RX4 74 yX4_hasBolt, Cond.instanceMethod yX4_hasBolt, Cond.selects RX4 yX4_hasBolt yX4_hasBolt, Cond.code yX4_hasBolt cX4_hasBolt 2 (some .boolean), Cond.fieldLink RX4 39 "MothsShare$Share" "bolts" "I"]
def wsX3_lay_r2 : List Cond := [Cond.methodLink RX4 81 yX4_hungerAt, Cond.instanceMethod yX4_hungerAt, Cond.selects RX4 yX4_hungerAt yX4_hungerAt, Cond.code yX4_hungerAt cX4_hungerAt 6 (some .int), Cond.fieldLink RX4 9 "MothsShare$Share" "colours" "[I", Cond.fieldLink RX4 27 "MothsShare$Share" "tastes" "[I", Cond.fieldLink RX4 24 "MothsShare$Share" "breeds" "[I", Cond.methodLink RX4 85 yX4_hasMoth, Cond.instanceMethod yX4_hasMoth, Cond.selects RX4 yX4_hasMoth yX4_hasMoth, Cond.code yX4_hasMoth cX4_hasMoth 2 (some .boolean), Cond.methodLink RX4 88 yX0_hunger, Cond.static yX0_hunger, Cond.initialized RX0, Cond.code yX0_hunger cX0_hunger 6 (some .int), Cond.methodLink RX3 44 yX4_groupsBy, Cond.instanceMethod yX4_groupsBy, Cond.selects RX4 yX4_groupsBy yX4_groupsBy, Cond.code yX4_groupsBy cX4_groupsBy 2 (some .int), Cond.methodLink RX3 51 yX3_choose, Cond.instanceMethod yX3_choose, Cond.selects RX3 yX3_choose yX3_choose, Cond.initialized RX3, Cond.code yX3_choose cX3_choose 11 none]
def wsX3_lay_r3 : List Cond := [Cond.fieldLink RX3 19 "MothsShare$Plan" "choice" "[I", Cond.methodLink RX3 62 yX3_leastFrom, Cond.instanceMethod yX3_leastFrom, Cond.selects RX3 yX3_leastFrom yX3_leastFrom, Cond.code yX3_leastFrom cX3_leastFrom 3 (some .int), Cond.methodLink RX3 65 yX3_moodBehind, Cond.static yX3_moodBehind, Cond.code yX3_moodBehind cX3_moodBehind 2 (some .int), Cond.methodLink RX3 69 yX4_worthOf, Cond.instanceMethod yX4_worthOf, Cond.selects RX4 yX4_worthOf yX4_worthOf, Cond.code yX4_worthOf cX4_worthOf 2 (some .int), Cond.fieldLink RX4 18 "MothsShare$Share" "worths" "[I", Cond.methodLink RX3 58 yX3_follow, Cond.instanceMethod yX3_follow, Cond.selects RX3 yX3_follow yX3_follow, Cond.code yX3_follow cX3_follow 5 none, Cond.fieldLink RX3 72 "MothsShare$Plan" "total" "I", Cond.fieldLink RX3 22 "MothsShare$Plan" "gifts" "[I", Cond.fieldLink RX3 25 "MothsShare$Plan" "ahead" "[I"]
def wsX3_lay : List Cond := .code yX3_lay cX3_lay 5 none :: ((wsX3_lay_r1 ++ (wsX3_lay_r2 ++ wsX3_lay_r3)) ++ wsX40 ++ wsX30)
def wsX3_worth : List Cond := .code yX3_worth cX3_worth 1 (some .int) :: ([.fieldLink RX3 72 "MothsShare$Plan" "total" "I"] ++ wsX30)
def wsX3_groups : List Cond := .code yX3_groups cX3_groups 1 (some .int) :: ([.fieldLink RX3 48 "MothsShare$Plan" "rows" "I"] ++ wsX30)
def wsX3_giftOf : List Cond := .code yX3_giftOf cX3_giftOf 2 (some .int) :: ([.fieldLink RX3 72 "MothsShare$Plan" "total" "I", .fieldLink RX3 48 "MothsShare$Plan" "rows" "I", .fieldLink RX3 22 "MothsShare$Plan" "gifts" "[I"] ++ wsX30)
def wsX3_moodAhead : List Cond := .code yX3_moodAhead cX3_moodAhead 2 (some .int) :: ([.fieldLink RX3 72 "MothsShare$Plan" "total" "I", .fieldLink RX3 48 "MothsShare$Plan" "rows" "I", .fieldLink RX3 25 "MothsShare$Plan" "ahead" "[I"] ++ wsX30)
def wsX4_init : List Cond := .code yX4_init cX4_init 1 none :: ([.methodLink RX4 3 objectInit, .instanceMethod objectInit, .code objectInit ⟨#[0xb1]⟩ 1 none, .arrayClass .int, .fieldLink RX4 9 "MothsShare$Share" "colours" "[I", .fieldLink RX4 15 "MothsShare$Share" "smells" "[I", .fieldLink RX4 18 "MothsShare$Share" "worths" "[I", .fieldLink RX4 21 "MothsShare$Share" "holesTold" "[I", .fieldLink RX4 24 "MothsShare$Share" "breeds" "[I", .fieldLink RX4 27 "MothsShare$Share" "tastes" "[I", .fieldLink RX4 30 "MothsShare$Share" "gifts" "[I", .fieldLink RX4 33 "MothsShare$Share" "moods" "[I", .methodLink RX4 36 yX4_startAnew, .instanceMethod yX4_startAnew, .selects RX4 yX4_startAnew yX4_startAnew, .initialized RX4, .code yX4_startAnew cX4_startAnew 2 none, .fieldLink RX4 39 "MothsShare$Share" "bolts" "I", .fieldLink RX4 43 "MothsShare$Share" "moths" "I", .fieldLink RX4 46 "MothsShare$Share" "each" "I", .fieldLink RX4 49 "MothsShare$Share" "want" "I", .fieldLink RX4 52 "MothsShare$Share" "mood" "I", .fieldLink RX4 55 "MothsShare$Share" "given" "I"] ++ wsX40)
def wsX4_copyRow : List Cond := .code yX4_copyRow cX4_copyRow 3 none :: ([])
def wsX4_copyFrom : List Cond := .code yX4_copyFrom cX4_copyFrom 2 none :: ([.fieldLink RX4 9 "MothsShare$Share" "colours" "[I", .fieldLink RX4 15 "MothsShare$Share" "smells" "[I", .fieldLink RX4 18 "MothsShare$Share" "worths" "[I", .fieldLink RX4 21 "MothsShare$Share" "holesTold" "[I", .fieldLink RX4 39 "MothsShare$Share" "bolts" "I", .fieldLink RX4 24 "MothsShare$Share" "breeds" "[I", .fieldLink RX4 43 "MothsShare$Share" "moths" "I", .fieldLink RX4 27 "MothsShare$Share" "tastes" "[I", .fieldLink RX4 46 "MothsShare$Share" "each" "I", .fieldLink RX4 49 "MothsShare$Share" "want" "I", .fieldLink RX4 52 "MothsShare$Share" "mood" "I", .fieldLink RX4 30 "MothsShare$Share" "gifts" "[I", .fieldLink RX4 33 "MothsShare$Share" "moods" "[I", .fieldLink RX4 55 "MothsShare$Share" "given" "I", .methodLink RX4 58 yX4_copyRow, .static yX4_copyRow, .initialized RX4, .code yX4_copyRow cX4_copyRow 3 none] ++ wsX40)
def wsX4_groups : List Cond := .code yX4_groups cX4_groups 1 (some .int) :: ([.fieldLink RX4 46 "MothsShare$Share" "each" "I", .methodLink RX4 78 yX4_groupsBy, .instanceMethod yX4_groupsBy, .selects RX4 yX4_groupsBy yX4_groupsBy, .initialized RX4, .code yX4_groupsBy cX4_groupsBy 2 (some .int), .fieldLink RX4 39 "MothsShare$Share" "bolts" "I"] ++ wsX40)
def wsX4_groupOf : List Cond := .code yX4_groupOf cX4_groupOf 2 (some .int) :: ([.fieldLink RX4 46 "MothsShare$Share" "each" "I"] ++ wsX40)
def wsX4_moodNow : List Cond := .code yX4_moodNow cX4_moodNow 1 (some .int) :: ([.fieldLink RX4 55 "MothsShare$Share" "given" "I", .fieldLink RX4 33 "MothsShare$Share" "moods" "[I", .fieldLink RX4 52 "MothsShare$Share" "mood" "I"] ++ wsX40)
def wsX4_broken : List Cond := .code yX4_broken cX4_broken 1 (some .boolean) :: ([.methodLink RX4 95 yX4_moodNow, .instanceMethod yX4_moodNow, .selects RX4 yX4_moodNow yX4_moodNow, .initialized RX4, .code yX4_moodNow cX4_moodNow 1 (some .int), .fieldLink RX4 55 "MothsShare$Share" "given" "I", .fieldLink RX4 33 "MothsShare$Share" "moods" "[I", .fieldLink RX4 52 "MothsShare$Share" "mood" "I"] ++ wsX40)
def wsX4_giveNext_r1 : List Cond := [Cond.fieldLink RX4 55 "MothsShare$Share" "given" "I", Cond.fieldLink RX4 30 "MothsShare$Share" "gifts" "[I", Cond.fieldLink RX4 33 "MothsShare$Share" "moods" "[I", Cond.methodLink RX4 108 Lib.Math.max.name, Cond.static Lib.Math.max.name, Cond.initialized "java/lang/Math", Cond.code Lib.Math.max.name Lib.Math.max.code 2 (some .int), Cond.methodLink RX4 95 yX4_moodNow, Cond.instanceMethod yX4_moodNow, Cond.selects RX4 yX4_moodNow yX4_moodNow, Cond.initialized RX4, Cond.code yX4_moodNow cX4_moodNow 1 (some .int), Cond.fieldLink RX4 52 "MothsShare$Share" "mood" "I", Cond.methodLink RX4 99 yX4_pleases, Cond.instanceMethod yX4_pleases, Cond.selects RX4 yX4_pleases yX4_pleases, Cond.code yX4_pleases cX4_pleases 4 (some .boolean), Cond.fieldLink RX4 43 "MothsShare$Share" "moths" "I", Cond.fieldLink RX4 49 "MothsShare$Share" "want" "I", Cond.methodLink RX4 92 yX4_hunger, Cond.instanceMethod yX4_hunger, Cond.selects RX4 yX4_hunger yX4_hunger, Cond.code yX4_hunger cX4_hunger 3 (some .int), Cond.fieldLink RX4 15 "MothsShare$Share" "smells" "[I"]
def wsX4_giveNext_r2 : List Cond := [Cond.methodLink RX4 74 yX4_hasBolt, Cond.instanceMethod yX4_hasBolt, Cond.selects RX4 yX4_hasBolt yX4_hasBolt, Cond.code yX4_hasBolt cX4_hasBolt 2 (some .boolean), Cond.fieldLink RX4 39 "MothsShare$Share" "bolts" "I", Cond.methodLink RX4 81 yX4_hungerAt, Cond.instanceMethod yX4_hungerAt, Cond.selects RX4 yX4_hungerAt yX4_hungerAt, Cond.code yX4_hungerAt cX4_hungerAt 6 (some .int), Cond.fieldLink RX4 9 "MothsShare$Share" "colours" "[I", Cond.fieldLink RX4 27 "MothsShare$Share" "tastes" "[I", Cond.fieldLink RX4 24 "MothsShare$Share" "breeds" "[I", Cond.methodLink RX4 85 yX4_hasMoth, Cond.instanceMethod yX4_hasMoth, Cond.selects RX4 yX4_hasMoth yX4_hasMoth, Cond.code yX4_hasMoth cX4_hasMoth 2 (some .boolean), Cond.methodLink RX4 88 yX0_hunger, Cond.static yX0_hunger, Cond.initialized RX0, Cond.code yX0_hunger cX0_hunger 6 (some .int), Cond.methodLink RX4 102 yX3_moodBehind, Cond.static yX3_moodBehind, Cond.initialized RX3, Cond.code yX3_moodBehind cX3_moodBehind 2 (some .int)]
def wsX4_giveNext_r3 : List Cond := [Cond.methodLink RX3 28 Lib.Math.min.name, Cond.static Lib.Math.min.name, Cond.code Lib.Math.min.name Lib.Math.min.code 2 (some .int)]
def wsX4_giveNext : List Cond := .code yX4_giveNext cX4_giveNext 3 (some .int) :: ((wsX4_giveNext_r1 ++ (wsX4_giveNext_r2 ++ wsX4_giveNext_r3)) ++ wsX40)
def wsX4_takeBack : List Cond := .code yX4_takeBack cX4_takeBack 1 (some .boolean) :: ([.fieldLink RX4 55 "MothsShare$Share" "given" "I"] ++ wsX40)
def wsX4_givenBits : List Cond := .code yX4_givenBits cX4_givenBits 3 (some .int) :: ([.fieldLink RX4 55 "MothsShare$Share" "given" "I", .fieldLink RX4 30 "MothsShare$Share" "gifts" "[I"] ++ wsX40)
def wsX4_givenWorth : List Cond := .code yX4_givenWorth cX4_givenWorth 3 (some .int) :: ([.fieldLink RX4 55 "MothsShare$Share" "given" "I", .fieldLink RX4 30 "MothsShare$Share" "gifts" "[I", .methodLink RX4 113 yX4_worthOf, .instanceMethod yX4_worthOf, .selects RX4 yX4_worthOf yX4_worthOf, .initialized RX4, .code yX4_worthOf cX4_worthOf 2 (some .int), .fieldLink RX4 18 "MothsShare$Share" "worths" "[I", .methodLink RX4 74 yX4_hasBolt, .instanceMethod yX4_hasBolt, .selects RX4 yX4_hasBolt yX4_hasBolt, .code yX4_hasBolt cX4_hasBolt 2 (some .boolean), .fieldLink RX4 39 "MothsShare$Share" "bolts" "I"] ++ wsX40)
def wsX4_favourite_r1 : List Cond := [Cond.fieldLink RX4 39 "MothsShare$Share" "bolts" "I", Cond.methodLink RX4 92 yX4_hunger, Cond.instanceMethod yX4_hunger, Cond.selects RX4 yX4_hunger yX4_hunger, Cond.initialized RX4, Cond.code yX4_hunger cX4_hunger 3 (some .int), Cond.fieldLink RX4 15 "MothsShare$Share" "smells" "[I", Cond.methodLink RX4 74 yX4_hasBolt, Cond.instanceMethod yX4_hasBolt, Cond.selects RX4 yX4_hasBolt yX4_hasBolt, Cond.code yX4_hasBolt cX4_hasBolt 2 (some .boolean), Cond.methodLink RX4 81 yX4_hungerAt, Cond.instanceMethod yX4_hungerAt, Cond.selects RX4 yX4_hungerAt yX4_hungerAt, Cond.code yX4_hungerAt cX4_hungerAt 6 (some .int), Cond.fieldLink RX4 9 "MothsShare$Share" "colours" "[I", Cond.fieldLink RX4 27 "MothsShare$Share" "tastes" "[I", Cond.fieldLink RX4 24 "MothsShare$Share" "breeds" "[I", Cond.methodLink RX4 85 yX4_hasMoth, Cond.instanceMethod yX4_hasMoth, Cond.selects RX4 yX4_hasMoth yX4_hasMoth, Cond.code yX4_hasMoth cX4_hasMoth 2 (some .boolean), Cond.fieldLink RX4 43 "MothsShare$Share" "moths" "I", Cond.methodLink RX4 88 yX0_hunger]
def wsX4_favourite_r2 : List Cond := [Cond.static yX0_hunger, Cond.initialized RX0, Cond.code yX0_hunger cX0_hunger 6 (some .int)]
def wsX4_favourite : List Cond := .code yX4_favourite cX4_favourite 7 (some .int) :: ((wsX4_favourite_r1 ++ wsX4_favourite_r2) ++ wsX40)
def wsX4_goneAhead_r1 : List Cond := [Cond.methodLink RX4 119 yX4_givenBits, Cond.instanceMethod yX4_givenBits, Cond.selects RX4 yX4_givenBits yX4_givenBits, Cond.initialized RX4, Cond.code yX4_givenBits cX4_givenBits 3 (some .int), Cond.fieldLink RX4 55 "MothsShare$Share" "given" "I", Cond.fieldLink RX4 30 "MothsShare$Share" "gifts" "[I", Cond.methodLink RX4 122 yX4_favourite, Cond.instanceMethod yX4_favourite, Cond.selects RX4 yX4_favourite yX4_favourite, Cond.code yX4_favourite cX4_favourite 7 (some .int), Cond.fieldLink RX4 39 "MothsShare$Share" "bolts" "I", Cond.methodLink RX4 92 yX4_hunger, Cond.instanceMethod yX4_hunger, Cond.selects RX4 yX4_hunger yX4_hunger, Cond.code yX4_hunger cX4_hunger 3 (some .int), Cond.fieldLink RX4 15 "MothsShare$Share" "smells" "[I", Cond.methodLink RX4 74 yX4_hasBolt, Cond.instanceMethod yX4_hasBolt, Cond.selects RX4 yX4_hasBolt yX4_hasBolt, Cond.code yX4_hasBolt cX4_hasBolt 2 (some .boolean), Cond.methodLink RX4 81 yX4_hungerAt, Cond.instanceMethod yX4_hungerAt, Cond.selects RX4 yX4_hungerAt yX4_hungerAt]
def wsX4_goneAhead_r2 : List Cond := [Cond.code yX4_hungerAt cX4_hungerAt 6 (some .int), Cond.fieldLink RX4 9 "MothsShare$Share" "colours" "[I", Cond.fieldLink RX4 27 "MothsShare$Share" "tastes" "[I", Cond.fieldLink RX4 24 "MothsShare$Share" "breeds" "[I", Cond.methodLink RX4 85 yX4_hasMoth, Cond.instanceMethod yX4_hasMoth, Cond.selects RX4 yX4_hasMoth yX4_hasMoth, Cond.code yX4_hasMoth cX4_hasMoth 2 (some .boolean), Cond.fieldLink RX4 43 "MothsShare$Share" "moths" "I", Cond.methodLink RX4 88 yX0_hunger, Cond.static yX0_hunger, Cond.initialized RX0, Cond.code yX0_hunger cX0_hunger 6 (some .int)]
def wsX4_goneAhead : List Cond := .code yX4_goneAhead cX4_goneAhead 5 (some .int) :: ((wsX4_goneAhead_r1 ++ wsX4_goneAhead_r2) ++ wsX40)
def wsX4_eatenBits_r1 : List Cond := [Cond.fieldLink RX4 43 "MothsShare$Share" "moths" "I", Cond.methodLink RX4 116 yX4_goneAhead, Cond.instanceMethod yX4_goneAhead, Cond.selects RX4 yX4_goneAhead yX4_goneAhead, Cond.initialized RX4, Cond.code yX4_goneAhead cX4_goneAhead 5 (some .int), Cond.methodLink RX4 119 yX4_givenBits, Cond.instanceMethod yX4_givenBits, Cond.selects RX4 yX4_givenBits yX4_givenBits, Cond.code yX4_givenBits cX4_givenBits 3 (some .int), Cond.fieldLink RX4 55 "MothsShare$Share" "given" "I", Cond.fieldLink RX4 30 "MothsShare$Share" "gifts" "[I", Cond.methodLink RX4 122 yX4_favourite, Cond.instanceMethod yX4_favourite, Cond.selects RX4 yX4_favourite yX4_favourite, Cond.code yX4_favourite cX4_favourite 7 (some .int), Cond.fieldLink RX4 39 "MothsShare$Share" "bolts" "I", Cond.methodLink RX4 92 yX4_hunger, Cond.instanceMethod yX4_hunger, Cond.selects RX4 yX4_hunger yX4_hunger, Cond.code yX4_hunger cX4_hunger 3 (some .int), Cond.fieldLink RX4 15 "MothsShare$Share" "smells" "[I", Cond.methodLink RX4 74 yX4_hasBolt, Cond.instanceMethod yX4_hasBolt]
def wsX4_eatenBits_r2 : List Cond := [Cond.selects RX4 yX4_hasBolt yX4_hasBolt, Cond.code yX4_hasBolt cX4_hasBolt 2 (some .boolean), Cond.methodLink RX4 81 yX4_hungerAt, Cond.instanceMethod yX4_hungerAt, Cond.selects RX4 yX4_hungerAt yX4_hungerAt, Cond.code yX4_hungerAt cX4_hungerAt 6 (some .int), Cond.fieldLink RX4 9 "MothsShare$Share" "colours" "[I", Cond.fieldLink RX4 27 "MothsShare$Share" "tastes" "[I", Cond.fieldLink RX4 24 "MothsShare$Share" "breeds" "[I", Cond.methodLink RX4 85 yX4_hasMoth, Cond.instanceMethod yX4_hasMoth, Cond.selects RX4 yX4_hasMoth yX4_hasMoth, Cond.code yX4_hasMoth cX4_hasMoth 2 (some .boolean), Cond.methodLink RX4 88 yX0_hunger, Cond.static yX0_hunger, Cond.initialized RX0, Cond.code yX0_hunger cX0_hunger 6 (some .int)]
def wsX4_eatenBits : List Cond := .code yX4_eatenBits cX4_eatenBits 1 (some .int) :: ((wsX4_eatenBits_r1 ++ wsX4_eatenBits_r2) ++ wsX40)
def wsX4_mealOf_r1 : List Cond := [Cond.methodLink RX4 116 yX4_goneAhead, Cond.instanceMethod yX4_goneAhead, Cond.selects RX4 yX4_goneAhead yX4_goneAhead, Cond.initialized RX4, Cond.code yX4_goneAhead cX4_goneAhead 5 (some .int), Cond.methodLink RX4 119 yX4_givenBits, Cond.instanceMethod yX4_givenBits, Cond.selects RX4 yX4_givenBits yX4_givenBits, Cond.code yX4_givenBits cX4_givenBits 3 (some .int), Cond.fieldLink RX4 55 "MothsShare$Share" "given" "I", Cond.fieldLink RX4 30 "MothsShare$Share" "gifts" "[I", Cond.methodLink RX4 122 yX4_favourite, Cond.instanceMethod yX4_favourite, Cond.selects RX4 yX4_favourite yX4_favourite, Cond.code yX4_favourite cX4_favourite 7 (some .int), Cond.fieldLink RX4 39 "MothsShare$Share" "bolts" "I", Cond.methodLink RX4 92 yX4_hunger, Cond.instanceMethod yX4_hunger, Cond.selects RX4 yX4_hunger yX4_hunger, Cond.code yX4_hunger cX4_hunger 3 (some .int), Cond.fieldLink RX4 15 "MothsShare$Share" "smells" "[I", Cond.methodLink RX4 74 yX4_hasBolt, Cond.instanceMethod yX4_hasBolt, Cond.selects RX4 yX4_hasBolt yX4_hasBolt]
def wsX4_mealOf_r2 : List Cond := [Cond.code yX4_hasBolt cX4_hasBolt 2 (some .boolean), Cond.methodLink RX4 81 yX4_hungerAt, Cond.instanceMethod yX4_hungerAt, Cond.selects RX4 yX4_hungerAt yX4_hungerAt, Cond.code yX4_hungerAt cX4_hungerAt 6 (some .int), Cond.fieldLink RX4 9 "MothsShare$Share" "colours" "[I", Cond.fieldLink RX4 27 "MothsShare$Share" "tastes" "[I", Cond.fieldLink RX4 24 "MothsShare$Share" "breeds" "[I", Cond.methodLink RX4 85 yX4_hasMoth, Cond.instanceMethod yX4_hasMoth, Cond.selects RX4 yX4_hasMoth yX4_hasMoth, Cond.code yX4_hasMoth cX4_hasMoth 2 (some .boolean), Cond.fieldLink RX4 43 "MothsShare$Share" "moths" "I", Cond.methodLink RX4 88 yX0_hunger, Cond.static yX0_hunger, Cond.initialized RX0, Cond.code yX0_hunger cX0_hunger 6 (some .int)]
def wsX4_mealOf : List Cond := .code yX4_mealOf cX4_mealOf 2 (some .int) :: ((wsX4_mealOf_r1 ++ wsX4_mealOf_r2) ++ wsX40)
def wsX4_holesOf : List Cond := .code yX4_holesOf cX4_holesOf 2 (some .int) :: ([.fieldLink RX4 21 "MothsShare$Share" "holesTold" "[I", .methodLink RX4 74 yX4_hasBolt, .instanceMethod yX4_hasBolt, .selects RX4 yX4_hasBolt yX4_hasBolt, .initialized RX4, .code yX4_hasBolt cX4_hasBolt 2 (some .boolean), .fieldLink RX4 39 "MothsShare$Share" "bolts" "I"] ++ wsX40)
def wsX4_holesAreTold : List Cond := .code yX4_holesAreTold cX4_holesAreTold 2 (some .boolean) :: ([.methodLink RX4 125 yX4_holesOf, .instanceMethod yX4_holesOf, .selects RX4 yX4_holesOf yX4_holesOf, .initialized RX4, .code yX4_holesOf cX4_holesOf 2 (some .int), .fieldLink RX4 21 "MothsShare$Share" "holesTold" "[I", .methodLink RX4 74 yX4_hasBolt, .instanceMethod yX4_hasBolt, .selects RX4 yX4_hasBolt yX4_hasBolt, .code yX4_hasBolt cX4_hasBolt 2 (some .boolean), .fieldLink RX4 39 "MothsShare$Share" "bolts" "I"] ++ wsX40)
def wsX4_holesBy_r1 : List Cond := [Cond.fieldLink RX4 43 "MothsShare$Share" "moths" "I", Cond.methodLink RX4 92 yX4_hunger, Cond.instanceMethod yX4_hunger, Cond.selects RX4 yX4_hunger yX4_hunger, Cond.initialized RX4, Cond.code yX4_hunger cX4_hunger 3 (some .int), Cond.fieldLink RX4 15 "MothsShare$Share" "smells" "[I", Cond.methodLink RX4 74 yX4_hasBolt, Cond.instanceMethod yX4_hasBolt, Cond.selects RX4 yX4_hasBolt yX4_hasBolt, Cond.code yX4_hasBolt cX4_hasBolt 2 (some .boolean), Cond.fieldLink RX4 39 "MothsShare$Share" "bolts" "I", Cond.methodLink RX4 81 yX4_hungerAt, Cond.instanceMethod yX4_hungerAt, Cond.selects RX4 yX4_hungerAt yX4_hungerAt, Cond.code yX4_hungerAt cX4_hungerAt 6 (some .int), Cond.fieldLink RX4 9 "MothsShare$Share" "colours" "[I", Cond.fieldLink RX4 27 "MothsShare$Share" "tastes" "[I", Cond.fieldLink RX4 24 "MothsShare$Share" "breeds" "[I", Cond.methodLink RX4 85 yX4_hasMoth, Cond.instanceMethod yX4_hasMoth, Cond.selects RX4 yX4_hasMoth yX4_hasMoth, Cond.code yX4_hasMoth cX4_hasMoth 2 (some .boolean), Cond.methodLink RX4 88 yX0_hunger]
def wsX4_holesBy_r2 : List Cond := [Cond.static yX0_hunger, Cond.initialized RX0, Cond.code yX0_hunger cX0_hunger 6 (some .int)]
def wsX4_holesBy : List Cond := .code yX4_holesBy cX4_holesBy 5 (some .int) :: ((wsX4_holesBy_r1 ++ wsX4_holesBy_r2) ++ wsX40)
def wsX4_fits_r1 : List Cond := [Cond.fieldLink RX4 39 "MothsShare$Share" "bolts" "I", Cond.fieldLink RX4 21 "MothsShare$Share" "holesTold" "[I", Cond.methodLink RX4 131 yX4_holesAreTold, Cond.instanceMethod yX4_holesAreTold, Cond.selects RX4 yX4_holesAreTold yX4_holesAreTold, Cond.initialized RX4, Cond.code yX4_holesAreTold cX4_holesAreTold 2 (some .boolean), Cond.methodLink RX4 125 yX4_holesOf, Cond.instanceMethod yX4_holesOf, Cond.selects RX4 yX4_holesOf yX4_holesOf, Cond.code yX4_holesOf cX4_holesOf 2 (some .int), Cond.methodLink RX4 74 yX4_hasBolt, Cond.instanceMethod yX4_hasBolt, Cond.selects RX4 yX4_hasBolt yX4_hasBolt, Cond.code yX4_hasBolt cX4_hasBolt 2 (some .boolean), Cond.methodLink RX4 134 yX4_holesBy, Cond.instanceMethod yX4_holesBy, Cond.selects RX4 yX4_holesBy yX4_holesBy, Cond.code yX4_holesBy cX4_holesBy 5 (some .int), Cond.fieldLink RX4 43 "MothsShare$Share" "moths" "I", Cond.methodLink RX4 92 yX4_hunger, Cond.instanceMethod yX4_hunger, Cond.selects RX4 yX4_hunger yX4_hunger, Cond.code yX4_hunger cX4_hunger 3 (some .int)]
def wsX4_fits_r2 : List Cond := [Cond.fieldLink RX4 15 "MothsShare$Share" "smells" "[I", Cond.methodLink RX4 81 yX4_hungerAt, Cond.instanceMethod yX4_hungerAt, Cond.selects RX4 yX4_hungerAt yX4_hungerAt, Cond.code yX4_hungerAt cX4_hungerAt 6 (some .int), Cond.fieldLink RX4 9 "MothsShare$Share" "colours" "[I", Cond.fieldLink RX4 27 "MothsShare$Share" "tastes" "[I", Cond.fieldLink RX4 24 "MothsShare$Share" "breeds" "[I", Cond.methodLink RX4 85 yX4_hasMoth, Cond.instanceMethod yX4_hasMoth, Cond.selects RX4 yX4_hasMoth yX4_hasMoth, Cond.code yX4_hasMoth cX4_hasMoth 2 (some .boolean), Cond.methodLink RX4 88 yX0_hunger, Cond.static yX0_hunger, Cond.initialized RX0, Cond.code yX0_hunger cX0_hunger 6 (some .int)]
def wsX4_fits : List Cond := .code yX4_fits cX4_fits 3 (some .boolean) :: ((wsX4_fits_r1 ++ wsX4_fits_r2) ++ wsX40)
def wsX4_setsThatFit_r1 : List Cond := [Cond.fieldLink RX4 43 "MothsShare$Share" "moths" "I", Cond.methodLink RX4 128 yX4_fits, Cond.instanceMethod yX4_fits, Cond.selects RX4 yX4_fits yX4_fits, Cond.initialized RX4, Cond.code yX4_fits cX4_fits 3 (some .boolean), Cond.fieldLink RX4 39 "MothsShare$Share" "bolts" "I", Cond.fieldLink RX4 21 "MothsShare$Share" "holesTold" "[I", Cond.methodLink RX4 131 yX4_holesAreTold, Cond.instanceMethod yX4_holesAreTold, Cond.selects RX4 yX4_holesAreTold yX4_holesAreTold, Cond.code yX4_holesAreTold cX4_holesAreTold 2 (some .boolean), Cond.methodLink RX4 125 yX4_holesOf, Cond.instanceMethod yX4_holesOf, Cond.selects RX4 yX4_holesOf yX4_holesOf, Cond.code yX4_holesOf cX4_holesOf 2 (some .int), Cond.methodLink RX4 74 yX4_hasBolt, Cond.instanceMethod yX4_hasBolt, Cond.selects RX4 yX4_hasBolt yX4_hasBolt, Cond.code yX4_hasBolt cX4_hasBolt 2 (some .boolean), Cond.methodLink RX4 134 yX4_holesBy, Cond.instanceMethod yX4_holesBy, Cond.selects RX4 yX4_holesBy yX4_holesBy, Cond.code yX4_holesBy cX4_holesBy 5 (some .int)]
def wsX4_setsThatFit_r2 : List Cond := [Cond.methodLink RX4 92 yX4_hunger, Cond.instanceMethod yX4_hunger, Cond.selects RX4 yX4_hunger yX4_hunger, Cond.code yX4_hunger cX4_hunger 3 (some .int), Cond.fieldLink RX4 15 "MothsShare$Share" "smells" "[I", Cond.methodLink RX4 81 yX4_hungerAt, Cond.instanceMethod yX4_hungerAt, Cond.selects RX4 yX4_hungerAt yX4_hungerAt, Cond.code yX4_hungerAt cX4_hungerAt 6 (some .int), Cond.fieldLink RX4 9 "MothsShare$Share" "colours" "[I", Cond.fieldLink RX4 27 "MothsShare$Share" "tastes" "[I", Cond.fieldLink RX4 24 "MothsShare$Share" "breeds" "[I", Cond.methodLink RX4 85 yX4_hasMoth, Cond.instanceMethod yX4_hasMoth, Cond.selects RX4 yX4_hasMoth yX4_hasMoth, Cond.code yX4_hasMoth cX4_hasMoth 2 (some .boolean), Cond.methodLink RX4 88 yX0_hunger, Cond.static yX0_hunger, Cond.initialized RX0, Cond.code yX0_hunger cX0_hunger 6 (some .int)]
def wsX4_setsThatFit : List Cond := .code yX4_setsThatFit cX4_setsThatFit 3 (some .int) :: ((wsX4_setsThatFit_r1 ++ wsX4_setsThatFit_r2) ++ wsX40)
def wsX4_leastSet_r1 : List Cond := [Cond.fieldLink RX4 43 "MothsShare$Share" "moths" "I", Cond.methodLink RX4 128 yX4_fits, Cond.instanceMethod yX4_fits, Cond.selects RX4 yX4_fits yX4_fits, Cond.initialized RX4, Cond.code yX4_fits cX4_fits 3 (some .boolean), Cond.fieldLink RX4 39 "MothsShare$Share" "bolts" "I", Cond.fieldLink RX4 21 "MothsShare$Share" "holesTold" "[I", Cond.methodLink RX4 131 yX4_holesAreTold, Cond.instanceMethod yX4_holesAreTold, Cond.selects RX4 yX4_holesAreTold yX4_holesAreTold, Cond.code yX4_holesAreTold cX4_holesAreTold 2 (some .boolean), Cond.methodLink RX4 125 yX4_holesOf, Cond.instanceMethod yX4_holesOf, Cond.selects RX4 yX4_holesOf yX4_holesOf, Cond.code yX4_holesOf cX4_holesOf 2 (some .int), Cond.methodLink RX4 74 yX4_hasBolt, Cond.instanceMethod yX4_hasBolt, Cond.selects RX4 yX4_hasBolt yX4_hasBolt, Cond.code yX4_hasBolt cX4_hasBolt 2 (some .boolean), Cond.methodLink RX4 134 yX4_holesBy, Cond.instanceMethod yX4_holesBy, Cond.selects RX4 yX4_holesBy yX4_holesBy, Cond.code yX4_holesBy cX4_holesBy 5 (some .int)]
def wsX4_leastSet_r2 : List Cond := [Cond.methodLink RX4 92 yX4_hunger, Cond.instanceMethod yX4_hunger, Cond.selects RX4 yX4_hunger yX4_hunger, Cond.code yX4_hunger cX4_hunger 3 (some .int), Cond.fieldLink RX4 15 "MothsShare$Share" "smells" "[I", Cond.methodLink RX4 81 yX4_hungerAt, Cond.instanceMethod yX4_hungerAt, Cond.selects RX4 yX4_hungerAt yX4_hungerAt, Cond.code yX4_hungerAt cX4_hungerAt 6 (some .int), Cond.fieldLink RX4 9 "MothsShare$Share" "colours" "[I", Cond.fieldLink RX4 27 "MothsShare$Share" "tastes" "[I", Cond.fieldLink RX4 24 "MothsShare$Share" "breeds" "[I", Cond.methodLink RX4 85 yX4_hasMoth, Cond.instanceMethod yX4_hasMoth, Cond.selects RX4 yX4_hasMoth yX4_hasMoth, Cond.code yX4_hasMoth cX4_hasMoth 2 (some .boolean), Cond.methodLink RX4 88 yX0_hunger, Cond.static yX0_hunger, Cond.initialized RX0, Cond.code yX0_hunger cX0_hunger 6 (some .int)]
def wsX4_leastSet : List Cond := .code yX4_leastSet cX4_leastSet 2 (some .int) :: ((wsX4_leastSet_r1 ++ wsX4_leastSet_r2) ++ wsX40)
def wsX4_mouthAt_r1 : List Cond := [Cond.fieldLink RX4 43 "MothsShare$Share" "moths" "I", Cond.methodLink RX4 92 yX4_hunger, Cond.instanceMethod yX4_hunger, Cond.selects RX4 yX4_hunger yX4_hunger, Cond.initialized RX4, Cond.code yX4_hunger cX4_hunger 3 (some .int), Cond.fieldLink RX4 15 "MothsShare$Share" "smells" "[I", Cond.methodLink RX4 74 yX4_hasBolt, Cond.instanceMethod yX4_hasBolt, Cond.selects RX4 yX4_hasBolt yX4_hasBolt, Cond.code yX4_hasBolt cX4_hasBolt 2 (some .boolean), Cond.fieldLink RX4 39 "MothsShare$Share" "bolts" "I", Cond.methodLink RX4 81 yX4_hungerAt, Cond.instanceMethod yX4_hungerAt, Cond.selects RX4 yX4_hungerAt yX4_hungerAt, Cond.code yX4_hungerAt cX4_hungerAt 6 (some .int), Cond.fieldLink RX4 9 "MothsShare$Share" "colours" "[I", Cond.fieldLink RX4 27 "MothsShare$Share" "tastes" "[I", Cond.fieldLink RX4 24 "MothsShare$Share" "breeds" "[I", Cond.methodLink RX4 85 yX4_hasMoth, Cond.instanceMethod yX4_hasMoth, Cond.selects RX4 yX4_hasMoth yX4_hasMoth, Cond.code yX4_hasMoth cX4_hasMoth 2 (some .boolean), Cond.methodLink RX4 88 yX0_hunger]
def wsX4_mouthAt_r2 : List Cond := [Cond.static yX0_hunger, Cond.initialized RX0, Cond.code yX0_hunger cX0_hunger 6 (some .int)]
def wsX4_mouthAt : List Cond := .code yX4_mouthAt cX4_mouthAt 6 (some .int) :: ((wsX4_mouthAt_r1 ++ wsX4_mouthAt_r2) ++ wsX40)
def wsX4_mostHoles : List Cond := .code yX4_mostHoles cX4_mostHoles 4 (some .int) :: ([.fieldLink RX4 39 "MothsShare$Share" "bolts" "I", .methodLink RX4 125 yX4_holesOf, .instanceMethod yX4_holesOf, .selects RX4 yX4_holesOf yX4_holesOf, .initialized RX4, .code yX4_holesOf cX4_holesOf 2 (some .int), .fieldLink RX4 21 "MothsShare$Share" "holesTold" "[I", .methodLink RX4 74 yX4_hasBolt, .instanceMethod yX4_hasBolt, .selects RX4 yX4_hasBolt yX4_hasBolt, .code yX4_hasBolt cX4_hasBolt 2 (some .boolean)] ++ wsX40)
def wsX4_greatestHunger_r1 : List Cond := [Cond.fieldLink RX4 43 "MothsShare$Share" "moths" "I", Cond.methodLink RX4 108 Lib.Math.max.name, Cond.static Lib.Math.max.name, Cond.initialized "java/lang/Math", Cond.code Lib.Math.max.name Lib.Math.max.code 2 (some .int), Cond.methodLink RX4 81 yX4_hungerAt, Cond.instanceMethod yX4_hungerAt, Cond.selects RX4 yX4_hungerAt yX4_hungerAt, Cond.initialized RX4, Cond.code yX4_hungerAt cX4_hungerAt 6 (some .int), Cond.fieldLink RX4 9 "MothsShare$Share" "colours" "[I", Cond.fieldLink RX4 27 "MothsShare$Share" "tastes" "[I", Cond.fieldLink RX4 24 "MothsShare$Share" "breeds" "[I", Cond.methodLink RX4 85 yX4_hasMoth, Cond.instanceMethod yX4_hasMoth, Cond.selects RX4 yX4_hasMoth yX4_hasMoth, Cond.code yX4_hasMoth cX4_hasMoth 2 (some .boolean), Cond.methodLink RX4 74 yX4_hasBolt, Cond.instanceMethod yX4_hasBolt, Cond.selects RX4 yX4_hasBolt yX4_hasBolt, Cond.code yX4_hasBolt cX4_hasBolt 2 (some .boolean), Cond.fieldLink RX4 39 "MothsShare$Share" "bolts" "I", Cond.methodLink RX4 88 yX0_hunger, Cond.static yX0_hunger]
def wsX4_greatestHunger_r2 : List Cond := [Cond.initialized RX0, Cond.code yX0_hunger cX0_hunger 6 (some .int)]
def wsX4_greatestHunger : List Cond := .code yX4_greatestHunger cX4_greatestHunger 5 (some .int) :: ((wsX4_greatestHunger_r1 ++ wsX4_greatestHunger_r2) ++ wsX40)
def wsX4_cedarFor_r1 : List Cond := [Cond.fieldLink RX4 39 "MothsShare$Share" "bolts" "I", Cond.fieldLink RX4 15 "MothsShare$Share" "smells" "[I", Cond.methodLink RX4 137 yX4_greatestHunger, Cond.instanceMethod yX4_greatestHunger, Cond.selects RX4 yX4_greatestHunger yX4_greatestHunger, Cond.initialized RX4, Cond.code yX4_greatestHunger cX4_greatestHunger 5 (some .int), Cond.fieldLink RX4 43 "MothsShare$Share" "moths" "I", Cond.methodLink RX4 108 Lib.Math.max.name, Cond.static Lib.Math.max.name, Cond.initialized "java/lang/Math", Cond.code Lib.Math.max.name Lib.Math.max.code 2 (some .int), Cond.methodLink RX4 81 yX4_hungerAt, Cond.instanceMethod yX4_hungerAt, Cond.selects RX4 yX4_hungerAt yX4_hungerAt, Cond.code yX4_hungerAt cX4_hungerAt 6 (some .int), Cond.fieldLink RX4 9 "MothsShare$Share" "colours" "[I", Cond.fieldLink RX4 27 "MothsShare$Share" "tastes" "[I", Cond.fieldLink RX4 24 "MothsShare$Share" "breeds" "[I", Cond.methodLink RX4 85 yX4_hasMoth, Cond.instanceMethod yX4_hasMoth, Cond.selects RX4 yX4_hasMoth yX4_hasMoth, Cond.code yX4_hasMoth cX4_hasMoth 2 (some .boolean), Cond.methodLink RX4 74 yX4_hasBolt]
def wsX4_cedarFor_r2 : List Cond := [Cond.instanceMethod yX4_hasBolt, Cond.selects RX4 yX4_hasBolt yX4_hasBolt, Cond.code yX4_hasBolt cX4_hasBolt 2 (some .boolean), Cond.methodLink RX4 88 yX0_hunger, Cond.static yX0_hunger, Cond.initialized RX0, Cond.code yX0_hunger cX0_hunger 6 (some .int)]
def wsX4_cedarFor : List Cond := .code yX4_cedarFor cX4_cedarFor 4 (some .int) :: ((wsX4_cedarFor_r1 ++ wsX4_cedarFor_r2) ++ wsX40)
def wsX4_foldInto : List Cond := .code yX4_foldInto cX4_foldInto 6 (some .long) :: ([.fieldLink RX4 39 "MothsShare$Share" "bolts" "I", .constantLong RX4 140 (31), .fieldLink RX4 9 "MothsShare$Share" "colours" "[I", .fieldLink RX4 15 "MothsShare$Share" "smells" "[I", .fieldLink RX4 18 "MothsShare$Share" "worths" "[I", .fieldLink RX4 21 "MothsShare$Share" "holesTold" "[I", .fieldLink RX4 43 "MothsShare$Share" "moths" "I", .fieldLink RX4 24 "MothsShare$Share" "breeds" "[I", .fieldLink RX4 27 "MothsShare$Share" "tastes" "[I", .fieldLink RX4 46 "MothsShare$Share" "each" "I", .fieldLink RX4 49 "MothsShare$Share" "want" "I", .fieldLink RX4 52 "MothsShare$Share" "mood" "I", .fieldLink RX4 55 "MothsShare$Share" "given" "I", .fieldLink RX4 30 "MothsShare$Share" "gifts" "[I", .methodLink RX4 95 yX4_moodNow, .instanceMethod yX4_moodNow, .selects RX4 yX4_moodNow yX4_moodNow, .initialized RX4, .code yX4_moodNow cX4_moodNow 1 (some .int), .fieldLink RX4 33 "MothsShare$Share" "moods" "[I"] ++ wsX40)
def wsX5_init_r1 : List Cond := [Cond.methodLink RX5 3 objectInit, Cond.instanceMethod objectInit, Cond.code objectInit ⟨#[0xb1]⟩ 1 none, Cond.classLink RX5 9 RX4, Cond.instantiable RX4 14, Cond.initialized RX4, Cond.fieldLink RX5 12 "MothsShare" "told" "LMothsShare$Share;", Cond.fieldLink RX5 16 "MothsShare" "trial" "LMothsShare$Share;", Cond.fieldLink RX5 19 "MothsShare" "images" "[LMothsShare$Share;", Cond.classLink RX5 23 RX3, Cond.instantiable RX3 7, Cond.initialized RX3, Cond.fieldLink RX5 26 "MothsShare" "plan" "LMothsShare$Plan;", Cond.classLink RX5 30 RX1, Cond.instantiable RX1 7, Cond.initialized RX1, Cond.fieldLink RX5 33 "MothsShare" "deed" "LMothsShare$Deed;", Cond.classLink RX5 37 RX2, Cond.instantiable RX2 2, Cond.initialized RX2, Cond.fieldLink RX5 40 "MothsShare" "fraction" "LMothsShare$Fraction;", Cond.methodLink RX5 11 yX4_init, Cond.instanceMethod yX4_init, Cond.code yX4_init cX4_init 1 none]
def wsX5_init_r2 : List Cond := [Cond.methodLink RX4 3 objectInit, Cond.arrayClass .int, Cond.fieldLink RX4 9 "MothsShare$Share" "colours" "[I", Cond.fieldLink RX4 15 "MothsShare$Share" "smells" "[I", Cond.fieldLink RX4 18 "MothsShare$Share" "worths" "[I", Cond.fieldLink RX4 21 "MothsShare$Share" "holesTold" "[I", Cond.fieldLink RX4 24 "MothsShare$Share" "breeds" "[I", Cond.fieldLink RX4 27 "MothsShare$Share" "tastes" "[I", Cond.fieldLink RX4 30 "MothsShare$Share" "gifts" "[I", Cond.fieldLink RX4 33 "MothsShare$Share" "moods" "[I", Cond.methodLink RX4 36 yX4_startAnew, Cond.instanceMethod yX4_startAnew, Cond.selects RX4 yX4_startAnew yX4_startAnew, Cond.code yX4_startAnew cX4_startAnew 2 none, Cond.fieldLink RX4 39 "MothsShare$Share" "bolts" "I", Cond.fieldLink RX4 43 "MothsShare$Share" "moths" "I", Cond.fieldLink RX4 46 "MothsShare$Share" "each" "I", Cond.fieldLink RX4 49 "MothsShare$Share" "want" "I", Cond.fieldLink RX4 52 "MothsShare$Share" "mood" "I", Cond.fieldLink RX4 55 "MothsShare$Share" "given" "I", Cond.instanceMethod yX3_init, Cond.code yX3_init cX3_init 1 none, Cond.methodLink RX3 3 objectInit, Cond.arrayClass .boolean]
def wsX5_init_r3 : List Cond := [Cond.fieldLink RX3 9 "MothsShare$Plan" "pleasing" "[Z", Cond.fieldLink RX3 15 "MothsShare$Plan" "least" "[I", Cond.fieldLink RX3 19 "MothsShare$Plan" "choice" "[I", Cond.fieldLink RX3 22 "MothsShare$Plan" "gifts" "[I", Cond.fieldLink RX3 25 "MothsShare$Plan" "ahead" "[I", Cond.instanceMethod yX1_init, Cond.code yX1_init cX1_init 1 none, Cond.methodLink RX1 3 objectInit, Cond.arrayClass .byte, Cond.fieldLink RX1 11 "MothsShare$Deed" "text" "[B", Cond.fieldLink RX1 15 "MothsShare$Deed" "numbers" "[I", Cond.instanceMethod yX2_init, Cond.code yX2_init cX2_init 1 none, Cond.methodLink RX2 1 objectInit, Cond.fieldLink RX2 7 "MothsShare$Fraction" "above" "J", Cond.fieldLink RX2 13 "MothsShare$Fraction" "below" "J"]
def wsX5_init : List Cond := .code yX5_init cX5_init 1 none :: ((wsX5_init_r1 ++ (wsX5_init_r2 ++ wsX5_init_r3)) ++ wsX40 ++ wsX50 ++ wsX30 ++ wsX10 ++ wsX20)
def wsX5_noted : List Cond := .code yX5_noted cX5_noted 2 (some .int) :: ([.fieldLink RX5 189 "MothsShare" "refusedBad" "I", .fieldLink RX5 192 "MothsShare" "refusedNo" "I", .fieldLink RX5 195 "MothsShare" "refusedFull" "I"] ++ wsX50)
def wsX5_bolt : List Cond := .code yX5_bolt cX5_bolt 4 (some .int) :: ([.fieldLink RX5 12 "MothsShare" "told" "LMothsShare$Share;", .methodLink RX5 44 yX4_addBolt, .instanceMethod yX4_addBolt, .selects RX4 yX4_addBolt yX4_addBolt, .initialized RX4, .code yX4_addBolt cX4_addBolt 4 (some .int), .fieldLink RX4 27 "MothsShare$Share" "tastes" "[I", .fieldLink RX4 39 "MothsShare$Share" "bolts" "I", .fieldLink RX4 9 "MothsShare$Share" "colours" "[I", .fieldLink RX4 15 "MothsShare$Share" "smells" "[I", .fieldLink RX4 18 "MothsShare$Share" "worths" "[I", .fieldLink RX4 21 "MothsShare$Share" "holesTold" "[I", .fieldLink RX4 55 "MothsShare$Share" "given" "I", .methodLink RX5 48 yX5_noted, .instanceMethod yX5_noted, .selects RX5 yX5_noted yX5_noted, .initialized RX5, .code yX5_noted cX5_noted 2 (some .int), .fieldLink RX5 189 "MothsShare" "refusedBad" "I", .fieldLink RX5 192 "MothsShare" "refusedNo" "I", .fieldLink RX5 195 "MothsShare" "refusedFull" "I"] ++ wsX50 ++ wsX40)
def wsX5_moth : List Cond := .code yX5_moth cX5_moth 2 (some .int) :: ([.fieldLink RX5 12 "MothsShare" "told" "LMothsShare$Share;", .methodLink RX5 52 yX4_addMoth, .instanceMethod yX4_addMoth, .selects RX4 yX4_addMoth yX4_addMoth, .initialized RX4, .code yX4_addMoth cX4_addMoth 2 (some .int), .fieldLink RX4 43 "MothsShare$Share" "moths" "I", .fieldLink RX4 24 "MothsShare$Share" "breeds" "[I", .fieldLink RX4 55 "MothsShare$Share" "given" "I", .methodLink RX5 48 yX5_noted, .instanceMethod yX5_noted, .selects RX5 yX5_noted yX5_noted, .initialized RX5, .code yX5_noted cX5_noted 2 (some .int), .fieldLink RX5 189 "MothsShare" "refusedBad" "I", .fieldLink RX5 192 "MothsShare" "refusedNo" "I", .fieldLink RX5 195 "MothsShare" "refusedFull" "I"] ++ wsX50 ++ wsX40)
def wsX5_taste : List Cond := .code yX5_taste cX5_taste 3 (some .int) :: ([.fieldLink RX5 12 "MothsShare" "told" "LMothsShare$Share;", .methodLink RX5 55 yX4_setTaste, .instanceMethod yX4_setTaste, .selects RX4 yX4_setTaste yX4_setTaste, .initialized RX4, .code yX4_setTaste cX4_setTaste 4 (some .int), .fieldLink RX4 27 "MothsShare$Share" "tastes" "[I", .methodLink RX5 48 yX5_noted, .instanceMethod yX5_noted, .selects RX5 yX5_noted yX5_noted, .initialized RX5, .code yX5_noted cX5_noted 2 (some .int), .fieldLink RX5 189 "MothsShare" "refusedBad" "I", .fieldLink RX5 192 "MothsShare" "refusedNo" "I", .fieldLink RX5 195 "MothsShare" "refusedFull" "I"] ++ wsX50 ++ wsX40)
def wsX5_put_r1 : List Cond := [Cond.fieldLink RX5 12 "MothsShare" "told" "LMothsShare$Share;", Cond.methodLink RX5 59 yX4_setTerm, Cond.instanceMethod yX4_setTerm, Cond.selects RX4 yX4_setTerm yX4_setTerm, Cond.initialized RX4, Cond.code yX4_setTerm cX4_setTerm 3 (some .int), Cond.methodLink RX4 64 yX4_setEach, Cond.instanceMethod yX4_setEach, Cond.selects RX4 yX4_setEach yX4_setEach, Cond.code yX4_setEach cX4_setEach 3 (some .int), Cond.fieldLink RX4 46 "MothsShare$Share" "each" "I", Cond.fieldLink RX4 55 "MothsShare$Share" "given" "I", Cond.methodLink RX4 68 yX4_setWant, Cond.instanceMethod yX4_setWant, Cond.selects RX4 yX4_setWant yX4_setWant, Cond.code yX4_setWant cX4_setWant 3 (some .int), Cond.fieldLink RX4 49 "MothsShare$Share" "want" "I", Cond.methodLink RX4 71 yX4_setMood, Cond.instanceMethod yX4_setMood, Cond.selects RX4 yX4_setMood yX4_setMood, Cond.code yX4_setMood cX4_setMood 3 (some .int), Cond.fieldLink RX4 52 "MothsShare$Share" "mood" "I", Cond.methodLink RX5 48 yX5_noted, Cond.instanceMethod yX5_noted]
def wsX5_put_r2 : List Cond := [Cond.selects RX5 yX5_noted yX5_noted, Cond.initialized RX5, Cond.code yX5_noted cX5_noted 2 (some .int), Cond.fieldLink RX5 189 "MothsShare" "refusedBad" "I", Cond.fieldLink RX5 192 "MothsShare" "refusedNo" "I", Cond.fieldLink RX5 195 "MothsShare" "refusedFull" "I"]
def wsX5_put : List Cond := .code yX5_put cX5_put 3 (some .int) :: ((wsX5_put_r1 ++ wsX5_put_r2) ++ wsX50 ++ wsX40)
def wsX5_appetite_r1 : List Cond := [Cond.fieldLink RX5 12 "MothsShare" "told" "LMothsShare$Share;", Cond.methodLink RX5 62 yX4_hasMoth, Cond.instanceMethod yX4_hasMoth, Cond.selects RX4 yX4_hasMoth yX4_hasMoth, Cond.initialized RX4, Cond.code yX4_hasMoth cX4_hasMoth 2 (some .boolean), Cond.fieldLink RX4 43 "MothsShare$Share" "moths" "I", Cond.methodLink RX5 66 yX4_hasBolt, Cond.instanceMethod yX4_hasBolt, Cond.selects RX4 yX4_hasBolt yX4_hasBolt, Cond.code yX4_hasBolt cX4_hasBolt 2 (some .boolean), Cond.fieldLink RX4 39 "MothsShare$Share" "bolts" "I", Cond.methodLink RX5 48 yX5_noted, Cond.instanceMethod yX5_noted, Cond.selects RX5 yX5_noted yX5_noted, Cond.initialized RX5, Cond.code yX5_noted cX5_noted 2 (some .int), Cond.fieldLink RX5 189 "MothsShare" "refusedBad" "I", Cond.fieldLink RX5 192 "MothsShare" "refusedNo" "I", Cond.fieldLink RX5 195 "MothsShare" "refusedFull" "I", Cond.methodLink RX5 69 yX4_hunger, Cond.instanceMethod yX4_hunger, Cond.selects RX4 yX4_hunger yX4_hunger, Cond.code yX4_hunger cX4_hunger 3 (some .int)]
def wsX5_appetite_r2 : List Cond := [Cond.fieldLink RX4 15 "MothsShare$Share" "smells" "[I", Cond.methodLink RX4 74 yX4_hasBolt, Cond.methodLink RX4 81 yX4_hungerAt, Cond.instanceMethod yX4_hungerAt, Cond.selects RX4 yX4_hungerAt yX4_hungerAt, Cond.code yX4_hungerAt cX4_hungerAt 6 (some .int), Cond.fieldLink RX4 9 "MothsShare$Share" "colours" "[I", Cond.fieldLink RX4 27 "MothsShare$Share" "tastes" "[I", Cond.fieldLink RX4 24 "MothsShare$Share" "breeds" "[I", Cond.methodLink RX4 85 yX4_hasMoth, Cond.methodLink RX4 88 yX0_hunger, Cond.static yX0_hunger, Cond.initialized RX0, Cond.code yX0_hunger cX0_hunger 6 (some .int)]
def wsX5_appetite : List Cond := .code yX5_appetite cX5_appetite 3 (some .int) :: ((wsX5_appetite_r1 ++ wsX5_appetite_r2) ++ wsX50 ++ wsX40)
def wsX5_type : List Cond := .code yX5_type cX5_type 4 (some .int) :: ([.fieldLink RX5 33 "MothsShare" "deed" "LMothsShare$Deed;", .methodLink RX5 72 yX1_append, .instanceMethod yX1_append, .selects RX1 yX1_append yX1_append, .initialized RX1, .code yX1_append cX1_append 5 (some .int), .fieldLink RX1 19 "MothsShare$Deed" "length" "I", .fieldLink RX1 11 "MothsShare$Deed" "text" "[B", .methodLink RX5 48 yX5_noted, .instanceMethod yX5_noted, .selects RX5 yX5_noted yX5_noted, .initialized RX5, .code yX5_noted cX5_noted 2 (some .int), .fieldLink RX5 189 "MothsShare" "refusedBad" "I", .fieldLink RX5 192 "MothsShare" "refusedNo" "I", .fieldLink RX5 195 "MothsShare" "refusedFull" "I"] ++ wsX50 ++ wsX10)
def wsX5_clear : List Cond := .code yX5_clear cX5_clear 1 (some .int) :: ([.fieldLink RX5 33 "MothsShare" "deed" "LMothsShare$Deed;", .methodLink RX5 76 yX1_empty, .instanceMethod yX1_empty, .selects RX1 yX1_empty yX1_empty, .initialized RX1, .code yX1_empty cX1_empty 2 (some .int), .fieldLink RX1 19 "MothsShare$Deed" "length" "I"] ++ wsX50 ++ wsX10)
def wsX5_read_r1 : List Cond := [Cond.fieldLink RX5 33 "MothsShare" "deed" "LMothsShare$Deed;", Cond.fieldLink RX5 16 "MothsShare" "trial" "LMothsShare$Share;", Cond.fieldLink RX5 12 "MothsShare" "told" "LMothsShare$Share;", Cond.methodLink RX5 80 yX1_tellTo, Cond.instanceMethod yX1_tellTo, Cond.selects RX1 yX1_tellTo yX1_tellTo, Cond.initialized RX1, Cond.code yX1_tellTo cX1_tellTo 5 (some .int), Cond.fieldLink RX1 28 "MothsShare$Deed" "place" "I", Cond.fieldLink RX1 34 "MothsShare$Deed" "token" "I", Cond.fieldLink RX1 37 "MothsShare$Deed" "value" "I", Cond.fieldLink RX1 48 "MothsShare$Deed" "start" "I", Cond.fieldLink RX1 19 "MothsShare$Deed" "length" "I", Cond.methodLink RX1 23 yX4_startAnew, Cond.instanceMethod yX4_startAnew, Cond.selects RX4 yX4_startAnew yX4_startAnew, Cond.initialized RX4, Cond.code yX4_startAnew cX4_startAnew 2 none, Cond.fieldLink RX4 39 "MothsShare$Share" "bolts" "I", Cond.fieldLink RX4 43 "MothsShare$Share" "moths" "I", Cond.fieldLink RX4 27 "MothsShare$Share" "tastes" "[I", Cond.fieldLink RX4 46 "MothsShare$Share" "each" "I", Cond.fieldLink RX4 49 "MothsShare$Share" "want" "I", Cond.fieldLink RX4 52 "MothsShare$Share" "mood" "I"]
def wsX5_read_r2 : List Cond := [Cond.fieldLink RX4 55 "MothsShare$Share" "given" "I", Cond.methodLink RX1 31 yX1_nextToken, Cond.instanceMethod yX1_nextToken, Cond.selects RX1 yX1_nextToken yX1_nextToken, Cond.code yX1_nextToken cX1_nextToken 1 none, Cond.fieldLink RX1 11 "MothsShare$Deed" "text" "[B", Cond.methodLink RX1 72 yX1_isLetter, Cond.static yX1_isLetter, Cond.code yX1_isLetter cX1_isLetter 1 (some .boolean), Cond.methodLink RX1 76 yX1_readWord, Cond.instanceMethod yX1_readWord, Cond.selects RX1 yX1_readWord yX1_readWord, Cond.code yX1_readWord cX1_readWord 2 none, Cond.methodLink RX1 85 yX1_wordAt, Cond.static yX1_wordAt, Cond.code yX1_wordAt cX1_wordAt 1 (some (.object "java/lang/String")), Cond.methodLink RX1 89 yX1_isWord, Cond.instanceMethod yX1_isWord, Cond.selects RX1 yX1_isWord yX1_isWord, Cond.code yX1_isWord cX1_isWord 3 (some .boolean), Cond.methodLink RX1 93 yJ0_length_8abf5, Cond.instanceMethod yJ0_length_8abf5, Cond.selects RJ0 yJ0_length_8abf5 yJ0_length_8abf5, Cond.initialized RJ0]
def wsX5_read_r3 : List Cond := [Cond.code yJ0_length_8abf5 cJ0_length_8abf5 1 (some .int), Cond.fieldLink RJ0 9 "java/lang/String" "value" "[B", Cond.methodLink RJ0 335 yJ0_coder_7d493, Cond.instanceMethod yJ0_coder_7d493, Cond.selects RJ0 yJ0_coder_7d493 yJ0_coder_7d493, Cond.code yJ0_coder_7d493 cJ0_coder_7d493 1 (some .byte), Cond.fieldLink RJ0 38 "java/lang/String" "COMPACT_STRINGS" "Z", Cond.fieldLink RJ0 15 "java/lang/String" "coder" "B", Cond.methodLink RX1 98 yJ0_charAt_5068e, Cond.instanceMethod yJ0_charAt_5068e, Cond.selects RJ0 yJ0_charAt_5068e yJ0_charAt_5068e, Cond.code yJ0_charAt_5068e cJ0_charAt_5068e 2 (some .char), Cond.methodLink RJ0 492 yJ0_isLatin1_aae02, Cond.instanceMethod yJ0_isLatin1_aae02, Cond.selects RJ0 yJ0_isLatin1_aae02 yJ0_isLatin1_aae02, Cond.code yJ0_isLatin1_aae02 cJ0_isLatin1_aae02 1 (some .boolean), Cond.methodLink RJ0 495 yJ1_charAt_3b067, Cond.static yJ1_charAt_3b067, Cond.initialized RJ1, Cond.code yJ1_charAt_3b067 cJ1_charAt_3b067 2 (some .char), Cond.methodLink RJ1 9 yJ0_checkIndex_df160, Cond.static yJ0_checkIndex_df160, Cond.code yJ0_checkIndex_df160 cJ0_checkIndex_df160 2 none, Cond.fieldLink RJ0 1053 "jdk/internal/util/Preconditions" "SIOOBE_FORMATTER" "Ljava/util/function/BiFunction;"]
def wsX5_read_r4 : List Cond := [Cond.methodLink RJ0 1059 yJ3_checkIndex_8e157, Cond.static yJ3_checkIndex_8e157, Cond.initialized RJ3, Cond.code yJ3_checkIndex_8e157 cJ3_checkIndex_8e157 3 (some .int), Cond.methodLink RJ0 498 yJ2_charAt_3b067, Cond.static yJ2_charAt_3b067, Cond.initialized RJ2, Cond.code yJ2_charAt_3b067 cJ2_charAt_3b067 2 (some .char), Cond.methodLink RJ2 67 yJ2_checkIndex_2214a, Cond.static yJ2_checkIndex_2214a, Cond.code yJ2_checkIndex_2214a cJ2_checkIndex_2214a 2 none, Cond.methodLink RJ2 48 yJ2_length_9d52b, Cond.static yJ2_length_9d52b, Cond.code yJ2_length_9d52b cJ2_length_9d52b 1 (some .int), Cond.methodLink RJ2 414 yJ0_checkIndex_df160, Cond.methodLink RJ2 71 yJ2_getChar_3b067, Cond.static yJ2_getChar_3b067, Cond.code yJ2_getChar_3b067 cJ2_getChar_3b067 2 (some .char), Cond.fieldLink RJ2 44 "java/lang/StringUTF16" "$assertionsDisabled" "Z", Cond.fieldLink RJ2 59 "java/lang/StringUTF16" "HI_BYTE_SHIFT" "I", Cond.fieldLink RJ2 63 "java/lang/StringUTF16" "LO_BYTE_SHIFT" "I", Cond.methodLink RX1 79 yX1_isFigure, Cond.static yX1_isFigure, Cond.code yX1_isFigure cX1_isFigure 1 (some .boolean)]
def wsX5_read_r5 : List Cond := [Cond.methodLink RX1 82 yX1_readFigures, Cond.instanceMethod yX1_readFigures, Cond.selects RX1 yX1_readFigures yX1_readFigures, Cond.code yX1_readFigures cX1_readFigures 1 none, Cond.methodLink RX1 40 yX1_numbersOf, Cond.static yX1_numbersOf, Cond.code yX1_numbersOf cX1_numbersOf 1 (some .int), Cond.methodLink RX1 44 yX1_readNumbers, Cond.instanceMethod yX1_readNumbers, Cond.selects RX1 yX1_readNumbers yX1_readNumbers, Cond.code yX1_readNumbers cX1_readNumbers 3 (some .boolean), Cond.fieldLink RX1 15 "MothsShare$Deed" "numbers" "[I", Cond.methodLink RX1 51 yX1_tellItem, Cond.instanceMethod yX1_tellItem, Cond.selects RX1 yX1_tellItem yX1_tellItem, Cond.code yX1_tellItem cX1_tellItem 3 (some .int), Cond.methodLink RX1 55 yX4_addBolt, Cond.instanceMethod yX4_addBolt, Cond.selects RX4 yX4_addBolt yX4_addBolt, Cond.code yX4_addBolt cX4_addBolt 4 (some .int), Cond.fieldLink RX4 9 "MothsShare$Share" "colours" "[I", Cond.fieldLink RX4 15 "MothsShare$Share" "smells" "[I", Cond.fieldLink RX4 18 "MothsShare$Share" "worths" "[I", Cond.fieldLink RX4 21 "MothsShare$Share" "holesTold" "[I"]
def wsX5_read_r6 : List Cond := [Cond.methodLink RX1 59 yX4_addMoth, Cond.instanceMethod yX4_addMoth, Cond.selects RX4 yX4_addMoth yX4_addMoth, Cond.code yX4_addMoth cX4_addMoth 2 (some .int), Cond.fieldLink RX4 24 "MothsShare$Share" "breeds" "[I", Cond.methodLink RX1 62 yX4_setTaste, Cond.instanceMethod yX4_setTaste, Cond.selects RX4 yX4_setTaste yX4_setTaste, Cond.code yX4_setTaste cX4_setTaste 4 (some .int), Cond.methodLink RX1 66 yX4_setHoles, Cond.instanceMethod yX4_setHoles, Cond.selects RX4 yX4_setHoles yX4_setHoles, Cond.code yX4_setHoles cX4_setHoles 4 (some .int), Cond.methodLink RX4 74 yX4_hasBolt, Cond.instanceMethod yX4_hasBolt, Cond.selects RX4 yX4_hasBolt yX4_hasBolt, Cond.code yX4_hasBolt cX4_hasBolt 2 (some .boolean), Cond.methodLink RX1 69 yX4_setTerm, Cond.instanceMethod yX4_setTerm, Cond.selects RX4 yX4_setTerm yX4_setTerm, Cond.code yX4_setTerm cX4_setTerm 3 (some .int), Cond.methodLink RX4 64 yX4_setEach, Cond.instanceMethod yX4_setEach, Cond.selects RX4 yX4_setEach yX4_setEach]
def wsX5_read_r7 : List Cond := [Cond.code yX4_setEach cX4_setEach 3 (some .int), Cond.methodLink RX4 68 yX4_setWant, Cond.instanceMethod yX4_setWant, Cond.selects RX4 yX4_setWant yX4_setWant, Cond.code yX4_setWant cX4_setWant 3 (some .int), Cond.methodLink RX4 71 yX4_setMood, Cond.instanceMethod yX4_setMood, Cond.selects RX4 yX4_setMood yX4_setMood, Cond.code yX4_setMood cX4_setMood 3 (some .int), Cond.methodLink RX5 84 yX4_copyFrom, Cond.instanceMethod yX4_copyFrom, Cond.selects RX4 yX4_copyFrom yX4_copyFrom, Cond.code yX4_copyFrom cX4_copyFrom 2 none, Cond.fieldLink RX4 30 "MothsShare$Share" "gifts" "[I", Cond.fieldLink RX4 33 "MothsShare$Share" "moods" "[I", Cond.methodLink RX4 58 yX4_copyRow, Cond.static yX4_copyRow, Cond.code yX4_copyRow cX4_copyRow 3 none]
def wsX5_read : List Cond := .code yX5_read cX5_read 2 (some .int) :: ((wsX5_read_r1 ++ (wsX5_read_r2 ++ (wsX5_read_r3 ++ (wsX5_read_r4 ++ (wsX5_read_r5 ++ (wsX5_read_r6 ++ wsX5_read_r7)))))) ++ wsX50 ++ wsX10 ++ wsX40)
def wsX5_pleased_r1 : List Cond := [Cond.fieldLink RX5 12 "MothsShare" "told" "LMothsShare$Share;", Cond.methodLink RX5 66 yX4_hasBolt, Cond.instanceMethod yX4_hasBolt, Cond.selects RX4 yX4_hasBolt yX4_hasBolt, Cond.initialized RX4, Cond.code yX4_hasBolt cX4_hasBolt 2 (some .boolean), Cond.fieldLink RX4 39 "MothsShare$Share" "bolts" "I", Cond.methodLink RX5 48 yX5_noted, Cond.instanceMethod yX5_noted, Cond.selects RX5 yX5_noted yX5_noted, Cond.initialized RX5, Cond.code yX5_noted cX5_noted 2 (some .int), Cond.fieldLink RX5 189 "MothsShare" "refusedBad" "I", Cond.fieldLink RX5 192 "MothsShare" "refusedNo" "I", Cond.fieldLink RX5 195 "MothsShare" "refusedFull" "I", Cond.methodLink RX5 88 yX4_pleases, Cond.instanceMethod yX4_pleases, Cond.selects RX4 yX4_pleases yX4_pleases, Cond.code yX4_pleases cX4_pleases 4 (some .boolean), Cond.fieldLink RX4 43 "MothsShare$Share" "moths" "I", Cond.fieldLink RX4 49 "MothsShare$Share" "want" "I", Cond.methodLink RX4 92 yX4_hunger, Cond.instanceMethod yX4_hunger, Cond.selects RX4 yX4_hunger yX4_hunger]
def wsX5_pleased_r2 : List Cond := [Cond.code yX4_hunger cX4_hunger 3 (some .int), Cond.fieldLink RX4 15 "MothsShare$Share" "smells" "[I", Cond.methodLink RX4 74 yX4_hasBolt, Cond.methodLink RX4 81 yX4_hungerAt, Cond.instanceMethod yX4_hungerAt, Cond.selects RX4 yX4_hungerAt yX4_hungerAt, Cond.code yX4_hungerAt cX4_hungerAt 6 (some .int), Cond.fieldLink RX4 9 "MothsShare$Share" "colours" "[I", Cond.fieldLink RX4 27 "MothsShare$Share" "tastes" "[I", Cond.fieldLink RX4 24 "MothsShare$Share" "breeds" "[I", Cond.methodLink RX4 85 yX4_hasMoth, Cond.instanceMethod yX4_hasMoth, Cond.selects RX4 yX4_hasMoth yX4_hasMoth, Cond.code yX4_hasMoth cX4_hasMoth 2 (some .boolean), Cond.methodLink RX4 88 yX0_hunger, Cond.static yX0_hunger, Cond.initialized RX0, Cond.code yX0_hunger cX0_hunger 6 (some .int)]
def wsX5_pleased : List Cond := .code yX5_pleased cX5_pleased 2 (some .int) :: ((wsX5_pleased_r1 ++ wsX5_pleased_r2) ++ wsX50 ++ wsX40)
def wsX5_cheapest_r1 : List Cond := [Cond.fieldLink RX5 12 "MothsShare" "told" "LMothsShare$Share;", Cond.fieldLink RX5 26 "MothsShare" "plan" "LMothsShare$Plan;", Cond.methodLink RX5 91 yX4_groups, Cond.instanceMethod yX4_groups, Cond.selects RX4 yX4_groups yX4_groups, Cond.initialized RX4, Cond.code yX4_groups cX4_groups 1 (some .int), Cond.fieldLink RX4 46 "MothsShare$Share" "each" "I", Cond.methodLink RX4 78 yX4_groupsBy, Cond.instanceMethod yX4_groupsBy, Cond.selects RX4 yX4_groupsBy yX4_groupsBy, Cond.code yX4_groupsBy cX4_groupsBy 2 (some .int), Cond.fieldLink RX4 39 "MothsShare$Share" "bolts" "I", Cond.methodLink RX5 48 yX5_noted, Cond.instanceMethod yX5_noted, Cond.selects RX5 yX5_noted yX5_noted, Cond.initialized RX5, Cond.code yX5_noted cX5_noted 2 (some .int), Cond.fieldLink RX5 189 "MothsShare" "refusedBad" "I", Cond.fieldLink RX5 192 "MothsShare" "refusedNo" "I", Cond.fieldLink RX5 195 "MothsShare" "refusedFull" "I", Cond.methodLink RX5 98 yX3_lay, Cond.instanceMethod yX3_lay, Cond.selects RX3 yX3_lay yX3_lay]
def wsX5_cheapest_r2 : List Cond := [Cond.initialized RX3, Cond.code yX3_lay cX3_lay 5 none, Cond.fieldLink RX3 9 "MothsShare$Plan" "pleasing" "[Z", Cond.methodLink RX3 28 Lib.Math.min.name, Cond.static Lib.Math.min.name, Cond.initialized "java/lang/Math", Cond.code Lib.Math.min.name Lib.Math.min.code 2 (some .int), Cond.fieldLink RX3 48 "MothsShare$Plan" "rows" "I", Cond.fieldLink RX3 15 "MothsShare$Plan" "least" "[I", Cond.methodLink RX3 40 yX4_pleases, Cond.instanceMethod yX4_pleases, Cond.selects RX4 yX4_pleases yX4_pleases, Cond.code yX4_pleases cX4_pleases 4 (some .boolean), Cond.fieldLink RX4 43 "MothsShare$Share" "moths" "I", Cond.fieldLink RX4 49 "MothsShare$Share" "want" "I", Cond.methodLink RX4 92 yX4_hunger, Cond.instanceMethod yX4_hunger, Cond.selects RX4 yX4_hunger yX4_hunger, Cond.code yX4_hunger cX4_hunger 3 (some .int), Cond.fieldLink RX4 15 "MothsShare$Share" "smells" "[I", Cond.methodLink RX4 74 yX4_hasBolt, Cond.instanceMethod yX4_hasBolt, Cond.selects RX4 yX4_hasBolt yX4_hasBolt, Cond.code yX4_hasBolt cX4_hasBolt 2 (some .boolean)]
def wsX5_cheapest_r3 : List Cond := [Cond.methodLink RX4 81 yX4_hungerAt, Cond.instanceMethod yX4_hungerAt, Cond.selects RX4 yX4_hungerAt yX4_hungerAt, Cond.code yX4_hungerAt cX4_hungerAt 6 (some .int), Cond.fieldLink RX4 9 "MothsShare$Share" "colours" "[I", Cond.fieldLink RX4 27 "MothsShare$Share" "tastes" "[I", Cond.fieldLink RX4 24 "MothsShare$Share" "breeds" "[I", Cond.methodLink RX4 85 yX4_hasMoth, Cond.instanceMethod yX4_hasMoth, Cond.selects RX4 yX4_hasMoth yX4_hasMoth, Cond.code yX4_hasMoth cX4_hasMoth 2 (some .boolean), Cond.methodLink RX4 88 yX0_hunger, Cond.static yX0_hunger, Cond.initialized RX0, Cond.code yX0_hunger cX0_hunger 6 (some .int), Cond.methodLink RX3 44 yX4_groupsBy, Cond.methodLink RX3 51 yX3_choose, Cond.instanceMethod yX3_choose, Cond.selects RX3 yX3_choose yX3_choose, Cond.code yX3_choose cX3_choose 11 none, Cond.fieldLink RX3 19 "MothsShare$Plan" "choice" "[I", Cond.methodLink RX3 62 yX3_leastFrom, Cond.instanceMethod yX3_leastFrom, Cond.selects RX3 yX3_leastFrom yX3_leastFrom]
def wsX5_cheapest_r4 : List Cond := [Cond.code yX3_leastFrom cX3_leastFrom 3 (some .int), Cond.methodLink RX3 65 yX3_moodBehind, Cond.static yX3_moodBehind, Cond.code yX3_moodBehind cX3_moodBehind 2 (some .int), Cond.methodLink RX3 69 yX4_worthOf, Cond.instanceMethod yX4_worthOf, Cond.selects RX4 yX4_worthOf yX4_worthOf, Cond.code yX4_worthOf cX4_worthOf 2 (some .int), Cond.fieldLink RX4 18 "MothsShare$Share" "worths" "[I", Cond.methodLink RX3 58 yX3_follow, Cond.instanceMethod yX3_follow, Cond.selects RX3 yX3_follow yX3_follow, Cond.code yX3_follow cX3_follow 5 none, Cond.fieldLink RX3 72 "MothsShare$Plan" "total" "I", Cond.fieldLink RX3 22 "MothsShare$Plan" "gifts" "[I", Cond.fieldLink RX3 25 "MothsShare$Plan" "ahead" "[I", Cond.methodLink RX5 102 yX3_worth, Cond.instanceMethod yX3_worth, Cond.selects RX3 yX3_worth yX3_worth, Cond.code yX3_worth cX3_worth 1 (some .int), Cond.methodLink RX5 105 yX3_giftOf, Cond.instanceMethod yX3_giftOf, Cond.selects RX3 yX3_giftOf yX3_giftOf, Cond.code yX3_giftOf cX3_giftOf 2 (some .int)]
def wsX5_cheapest : List Cond := .code yX5_cheapest cX5_cheapest 2 (some .int) :: ((wsX5_cheapest_r1 ++ (wsX5_cheapest_r2 ++ (wsX5_cheapest_r3 ++ wsX5_cheapest_r4))) ++ wsX50 ++ wsX40 ++ wsX30)
def wsX5_number_r1 : List Cond := [Cond.fieldLink RX5 26 "MothsShare" "plan" "LMothsShare$Plan;", Cond.fieldLink RX5 12 "MothsShare" "told" "LMothsShare$Share;", Cond.methodLink RX5 98 yX3_lay, Cond.instanceMethod yX3_lay, Cond.selects RX3 yX3_lay yX3_lay, Cond.initialized RX3, Cond.code yX3_lay cX3_lay 5 none, Cond.fieldLink RX3 9 "MothsShare$Plan" "pleasing" "[Z", Cond.methodLink RX3 28 Lib.Math.min.name, Cond.static Lib.Math.min.name, Cond.initialized "java/lang/Math", Cond.code Lib.Math.min.name Lib.Math.min.code 2 (some .int), Cond.fieldLink RX3 48 "MothsShare$Plan" "rows" "I", Cond.fieldLink RX3 15 "MothsShare$Plan" "least" "[I", Cond.methodLink RX3 40 yX4_pleases, Cond.instanceMethod yX4_pleases, Cond.selects RX4 yX4_pleases yX4_pleases, Cond.initialized RX4, Cond.code yX4_pleases cX4_pleases 4 (some .boolean), Cond.fieldLink RX4 43 "MothsShare$Share" "moths" "I", Cond.fieldLink RX4 49 "MothsShare$Share" "want" "I", Cond.methodLink RX4 92 yX4_hunger, Cond.instanceMethod yX4_hunger, Cond.selects RX4 yX4_hunger yX4_hunger]
def wsX5_number_r2 : List Cond := [Cond.code yX4_hunger cX4_hunger 3 (some .int), Cond.fieldLink RX4 15 "MothsShare$Share" "smells" "[I", Cond.methodLink RX4 74 yX4_hasBolt, Cond.instanceMethod yX4_hasBolt, Cond.selects RX4 yX4_hasBolt yX4_hasBolt, Cond.code yX4_hasBolt cX4_hasBolt 2 (some .boolean), Cond.fieldLink RX4 39 "MothsShare$Share" "bolts" "I", Cond.methodLink RX4 81 yX4_hungerAt, Cond.instanceMethod yX4_hungerAt, Cond.selects RX4 yX4_hungerAt yX4_hungerAt, Cond.code yX4_hungerAt cX4_hungerAt 6 (some .int), Cond.fieldLink RX4 9 "MothsShare$Share" "colours" "[I", Cond.fieldLink RX4 27 "MothsShare$Share" "tastes" "[I", Cond.fieldLink RX4 24 "MothsShare$Share" "breeds" "[I", Cond.methodLink RX4 85 yX4_hasMoth, Cond.instanceMethod yX4_hasMoth, Cond.selects RX4 yX4_hasMoth yX4_hasMoth, Cond.code yX4_hasMoth cX4_hasMoth 2 (some .boolean), Cond.methodLink RX4 88 yX0_hunger, Cond.static yX0_hunger, Cond.initialized RX0, Cond.code yX0_hunger cX0_hunger 6 (some .int), Cond.methodLink RX3 44 yX4_groupsBy, Cond.instanceMethod yX4_groupsBy]
def wsX5_number_r3 : List Cond := [Cond.selects RX4 yX4_groupsBy yX4_groupsBy, Cond.code yX4_groupsBy cX4_groupsBy 2 (some .int), Cond.methodLink RX3 51 yX3_choose, Cond.instanceMethod yX3_choose, Cond.selects RX3 yX3_choose yX3_choose, Cond.code yX3_choose cX3_choose 11 none, Cond.fieldLink RX3 19 "MothsShare$Plan" "choice" "[I", Cond.methodLink RX3 62 yX3_leastFrom, Cond.instanceMethod yX3_leastFrom, Cond.selects RX3 yX3_leastFrom yX3_leastFrom, Cond.code yX3_leastFrom cX3_leastFrom 3 (some .int), Cond.methodLink RX3 65 yX3_moodBehind, Cond.static yX3_moodBehind, Cond.code yX3_moodBehind cX3_moodBehind 2 (some .int), Cond.methodLink RX3 69 yX4_worthOf, Cond.instanceMethod yX4_worthOf, Cond.selects RX4 yX4_worthOf yX4_worthOf, Cond.code yX4_worthOf cX4_worthOf 2 (some .int), Cond.fieldLink RX4 18 "MothsShare$Share" "worths" "[I", Cond.methodLink RX3 58 yX3_follow, Cond.instanceMethod yX3_follow, Cond.selects RX3 yX3_follow yX3_follow, Cond.code yX3_follow cX3_follow 5 none, Cond.fieldLink RX3 72 "MothsShare$Plan" "total" "I"]
def wsX5_number_r4 : List Cond := [Cond.fieldLink RX3 22 "MothsShare$Plan" "gifts" "[I", Cond.fieldLink RX3 25 "MothsShare$Plan" "ahead" "[I", Cond.methodLink RX5 102 yX3_worth, Cond.instanceMethod yX3_worth, Cond.selects RX3 yX3_worth yX3_worth, Cond.code yX3_worth cX3_worth 1 (some .int)]
def wsX5_number : List Cond := .code yX5_number cX5_number 5 (some .int) :: ((wsX5_number_r1 ++ (wsX5_number_r2 ++ (wsX5_number_r3 ++ wsX5_number_r4))) ++ wsX50 ++ wsX40 ++ wsX30)
def wsX5_stands_r1 : List Cond := [Cond.fieldLink RX5 26 "MothsShare" "plan" "LMothsShare$Plan;", Cond.fieldLink RX5 12 "MothsShare" "told" "LMothsShare$Share;", Cond.constantLong RX5 112 (20), Cond.fieldLink RX5 40 "MothsShare" "fraction" "LMothsShare$Fraction;", Cond.methodLink RX5 98 yX3_lay, Cond.instanceMethod yX3_lay, Cond.selects RX3 yX3_lay yX3_lay, Cond.initialized RX3, Cond.code yX3_lay cX3_lay 5 none, Cond.fieldLink RX3 9 "MothsShare$Plan" "pleasing" "[Z", Cond.methodLink RX3 28 Lib.Math.min.name, Cond.static Lib.Math.min.name, Cond.initialized "java/lang/Math", Cond.code Lib.Math.min.name Lib.Math.min.code 2 (some .int), Cond.fieldLink RX3 48 "MothsShare$Plan" "rows" "I", Cond.fieldLink RX3 15 "MothsShare$Plan" "least" "[I", Cond.methodLink RX3 40 yX4_pleases, Cond.instanceMethod yX4_pleases, Cond.selects RX4 yX4_pleases yX4_pleases, Cond.initialized RX4, Cond.code yX4_pleases cX4_pleases 4 (some .boolean), Cond.fieldLink RX4 43 "MothsShare$Share" "moths" "I", Cond.fieldLink RX4 49 "MothsShare$Share" "want" "I", Cond.methodLink RX4 92 yX4_hunger]
def wsX5_stands_r2 : List Cond := [Cond.instanceMethod yX4_hunger, Cond.selects RX4 yX4_hunger yX4_hunger, Cond.code yX4_hunger cX4_hunger 3 (some .int), Cond.fieldLink RX4 15 "MothsShare$Share" "smells" "[I", Cond.methodLink RX4 74 yX4_hasBolt, Cond.instanceMethod yX4_hasBolt, Cond.selects RX4 yX4_hasBolt yX4_hasBolt, Cond.code yX4_hasBolt cX4_hasBolt 2 (some .boolean), Cond.fieldLink RX4 39 "MothsShare$Share" "bolts" "I", Cond.methodLink RX4 81 yX4_hungerAt, Cond.instanceMethod yX4_hungerAt, Cond.selects RX4 yX4_hungerAt yX4_hungerAt, Cond.code yX4_hungerAt cX4_hungerAt 6 (some .int), Cond.fieldLink RX4 9 "MothsShare$Share" "colours" "[I", Cond.fieldLink RX4 27 "MothsShare$Share" "tastes" "[I", Cond.fieldLink RX4 24 "MothsShare$Share" "breeds" "[I", Cond.methodLink RX4 85 yX4_hasMoth, Cond.instanceMethod yX4_hasMoth, Cond.selects RX4 yX4_hasMoth yX4_hasMoth, Cond.code yX4_hasMoth cX4_hasMoth 2 (some .boolean), Cond.methodLink RX4 88 yX0_hunger, Cond.static yX0_hunger, Cond.initialized RX0, Cond.code yX0_hunger cX0_hunger 6 (some .int)]
def wsX5_stands_r3 : List Cond := [Cond.methodLink RX3 44 yX4_groupsBy, Cond.instanceMethod yX4_groupsBy, Cond.selects RX4 yX4_groupsBy yX4_groupsBy, Cond.code yX4_groupsBy cX4_groupsBy 2 (some .int), Cond.methodLink RX3 51 yX3_choose, Cond.instanceMethod yX3_choose, Cond.selects RX3 yX3_choose yX3_choose, Cond.code yX3_choose cX3_choose 11 none, Cond.fieldLink RX3 19 "MothsShare$Plan" "choice" "[I", Cond.methodLink RX3 62 yX3_leastFrom, Cond.instanceMethod yX3_leastFrom, Cond.selects RX3 yX3_leastFrom yX3_leastFrom, Cond.code yX3_leastFrom cX3_leastFrom 3 (some .int), Cond.methodLink RX3 65 yX3_moodBehind, Cond.static yX3_moodBehind, Cond.code yX3_moodBehind cX3_moodBehind 2 (some .int), Cond.methodLink RX3 69 yX4_worthOf, Cond.instanceMethod yX4_worthOf, Cond.selects RX4 yX4_worthOf yX4_worthOf, Cond.code yX4_worthOf cX4_worthOf 2 (some .int), Cond.fieldLink RX4 18 "MothsShare$Share" "worths" "[I", Cond.methodLink RX3 58 yX3_follow, Cond.instanceMethod yX3_follow, Cond.selects RX3 yX3_follow yX3_follow]
def wsX5_stands_r4 : List Cond := [Cond.code yX3_follow cX3_follow 5 none, Cond.fieldLink RX3 72 "MothsShare$Plan" "total" "I", Cond.fieldLink RX3 22 "MothsShare$Plan" "gifts" "[I", Cond.fieldLink RX3 25 "MothsShare$Plan" "ahead" "[I", Cond.methodLink RX5 102 yX3_worth, Cond.instanceMethod yX3_worth, Cond.selects RX3 yX3_worth yX3_worth, Cond.code yX3_worth cX3_worth 1 (some .int), Cond.methodLink RX5 48 yX5_noted, Cond.instanceMethod yX5_noted, Cond.selects RX5 yX5_noted yX5_noted, Cond.initialized RX5, Cond.code yX5_noted cX5_noted 2 (some .int), Cond.fieldLink RX5 189 "MothsShare" "refusedBad" "I", Cond.fieldLink RX5 192 "MothsShare" "refusedNo" "I", Cond.fieldLink RX5 195 "MothsShare" "refusedFull" "I", Cond.methodLink RX5 108 yX3_groups, Cond.instanceMethod yX3_groups, Cond.selects RX3 yX3_groups yX3_groups, Cond.code yX3_groups cX3_groups 1 (some .int), Cond.methodLink RX5 109 yX3_moodAhead, Cond.instanceMethod yX3_moodAhead, Cond.selects RX3 yX3_moodAhead yX3_moodAhead, Cond.code yX3_moodAhead cX3_moodAhead 2 (some .int)]
def wsX5_stands_r5 : List Cond := [Cond.methodLink RX5 114 yX2_become, Cond.instanceMethod yX2_become, Cond.selects RX2 yX2_become yX2_become, Cond.initialized RX2, Cond.code yX2_become cX2_become 7 none, Cond.fieldLink RX2 7 "MothsShare$Fraction" "above" "J", Cond.fieldLink RX2 13 "MothsShare$Fraction" "below" "J", Cond.methodLink RX2 16 yX2_greatestCommon, Cond.static yX2_greatestCommon, Cond.code yX2_greatestCommon cX2_greatestCommon 7 (some .long)]
def wsX5_stands : List Cond := .code yX5_stands cX5_stands 6 (some .int) :: ((wsX5_stands_r1 ++ (wsX5_stands_r2 ++ (wsX5_stands_r3 ++ (wsX5_stands_r4 ++ wsX5_stands_r5)))) ++ wsX50 ++ wsX40 ++ wsX30 ++ wsX20)
def wsX5_give_r1 : List Cond := [Cond.fieldLink RX5 12 "MothsShare" "told" "LMothsShare$Share;", Cond.methodLink RX5 66 yX4_hasBolt, Cond.instanceMethod yX4_hasBolt, Cond.selects RX4 yX4_hasBolt yX4_hasBolt, Cond.initialized RX4, Cond.code yX4_hasBolt cX4_hasBolt 2 (some .boolean), Cond.fieldLink RX4 39 "MothsShare$Share" "bolts" "I", Cond.methodLink RX5 48 yX5_noted, Cond.instanceMethod yX5_noted, Cond.selects RX5 yX5_noted yX5_noted, Cond.initialized RX5, Cond.code yX5_noted cX5_noted 2 (some .int), Cond.fieldLink RX5 189 "MothsShare" "refusedBad" "I", Cond.fieldLink RX5 192 "MothsShare" "refusedNo" "I", Cond.fieldLink RX5 195 "MothsShare" "refusedFull" "I", Cond.methodLink RX5 118 yX4_broken, Cond.instanceMethod yX4_broken, Cond.selects RX4 yX4_broken yX4_broken, Cond.code yX4_broken cX4_broken 1 (some .boolean), Cond.methodLink RX4 95 yX4_moodNow, Cond.instanceMethod yX4_moodNow, Cond.selects RX4 yX4_moodNow yX4_moodNow, Cond.code yX4_moodNow cX4_moodNow 1 (some .int), Cond.fieldLink RX4 55 "MothsShare$Share" "given" "I"]
def wsX5_give_r2 : List Cond := [Cond.fieldLink RX4 33 "MothsShare$Share" "moods" "[I", Cond.fieldLink RX4 52 "MothsShare$Share" "mood" "I", Cond.methodLink RX5 91 yX4_groups, Cond.instanceMethod yX4_groups, Cond.selects RX4 yX4_groups yX4_groups, Cond.code yX4_groups cX4_groups 1 (some .int), Cond.fieldLink RX4 46 "MothsShare$Share" "each" "I", Cond.methodLink RX4 78 yX4_groupsBy, Cond.instanceMethod yX4_groupsBy, Cond.selects RX4 yX4_groupsBy yX4_groupsBy, Cond.code yX4_groupsBy cX4_groupsBy 2 (some .int), Cond.methodLink RX5 125 yX4_groupOf, Cond.instanceMethod yX4_groupOf, Cond.selects RX4 yX4_groupOf yX4_groupOf, Cond.code yX4_groupOf cX4_groupOf 2 (some .int), Cond.methodLink RX5 128 yX4_giveNext, Cond.instanceMethod yX4_giveNext, Cond.selects RX4 yX4_giveNext yX4_giveNext, Cond.code yX4_giveNext cX4_giveNext 3 (some .int), Cond.fieldLink RX4 30 "MothsShare$Share" "gifts" "[I", Cond.methodLink RX4 108 Lib.Math.max.name, Cond.static Lib.Math.max.name, Cond.initialized "java/lang/Math", Cond.code Lib.Math.max.name Lib.Math.max.code 2 (some .int)]
def wsX5_give_r3 : List Cond := [Cond.methodLink RX4 99 yX4_pleases, Cond.instanceMethod yX4_pleases, Cond.selects RX4 yX4_pleases yX4_pleases, Cond.code yX4_pleases cX4_pleases 4 (some .boolean), Cond.fieldLink RX4 43 "MothsShare$Share" "moths" "I", Cond.fieldLink RX4 49 "MothsShare$Share" "want" "I", Cond.methodLink RX4 92 yX4_hunger, Cond.instanceMethod yX4_hunger, Cond.selects RX4 yX4_hunger yX4_hunger, Cond.code yX4_hunger cX4_hunger 3 (some .int), Cond.fieldLink RX4 15 "MothsShare$Share" "smells" "[I", Cond.methodLink RX4 74 yX4_hasBolt, Cond.methodLink RX4 81 yX4_hungerAt, Cond.instanceMethod yX4_hungerAt, Cond.selects RX4 yX4_hungerAt yX4_hungerAt, Cond.code yX4_hungerAt cX4_hungerAt 6 (some .int), Cond.fieldLink RX4 9 "MothsShare$Share" "colours" "[I", Cond.fieldLink RX4 27 "MothsShare$Share" "tastes" "[I", Cond.fieldLink RX4 24 "MothsShare$Share" "breeds" "[I", Cond.methodLink RX4 85 yX4_hasMoth, Cond.instanceMethod yX4_hasMoth, Cond.selects RX4 yX4_hasMoth yX4_hasMoth, Cond.code yX4_hasMoth cX4_hasMoth 2 (some .boolean), Cond.methodLink RX4 88 yX0_hunger]
def wsX5_give_r4 : List Cond := [Cond.static yX0_hunger, Cond.initialized RX0, Cond.code yX0_hunger cX0_hunger 6 (some .int), Cond.methodLink RX4 102 yX3_moodBehind, Cond.static yX3_moodBehind, Cond.initialized RX3, Cond.code yX3_moodBehind cX3_moodBehind 2 (some .int), Cond.methodLink RX3 28 Lib.Math.min.name, Cond.static Lib.Math.min.name, Cond.code Lib.Math.min.name Lib.Math.min.code 2 (some .int)]
def wsX5_give : List Cond := .code yX5_give cX5_give 2 (some .int) :: ((wsX5_give_r1 ++ (wsX5_give_r2 ++ (wsX5_give_r3 ++ wsX5_give_r4))) ++ wsX50 ++ wsX40)
def wsX5_undo : List Cond := .code yX5_undo cX5_undo 1 (some .int) :: ([.fieldLink RX5 12 "MothsShare" "told" "LMothsShare$Share;", .methodLink RX5 131 yX4_takeBack, .instanceMethod yX4_takeBack, .selects RX4 yX4_takeBack yX4_takeBack, .initialized RX4, .code yX4_takeBack cX4_takeBack 1 (some .boolean), .fieldLink RX4 55 "MothsShare$Share" "given" "I", .methodLink RX5 48 yX5_noted, .instanceMethod yX5_noted, .selects RX5 yX5_noted yX5_noted, .initialized RX5, .code yX5_noted cX5_noted 2 (some .int), .fieldLink RX5 189 "MothsShare" "refusedBad" "I", .fieldLink RX5 192 "MothsShare" "refusedNo" "I", .fieldLink RX5 195 "MothsShare" "refusedFull" "I"] ++ wsX50 ++ wsX40)
def wsX5_now_r1 : List Cond := [Cond.fieldLink RX5 12 "MothsShare" "told" "LMothsShare$Share;", Cond.methodLink RX5 134 yX4_moodNow, Cond.instanceMethod yX4_moodNow, Cond.selects RX4 yX4_moodNow yX4_moodNow, Cond.initialized RX4, Cond.code yX4_moodNow cX4_moodNow 1 (some .int), Cond.fieldLink RX4 55 "MothsShare$Share" "given" "I", Cond.fieldLink RX4 33 "MothsShare$Share" "moods" "[I", Cond.fieldLink RX4 52 "MothsShare$Share" "mood" "I", Cond.methodLink RX5 137 yX4_givenBits, Cond.instanceMethod yX4_givenBits, Cond.selects RX4 yX4_givenBits yX4_givenBits, Cond.code yX4_givenBits cX4_givenBits 3 (some .int), Cond.fieldLink RX4 30 "MothsShare$Share" "gifts" "[I", Cond.methodLink RX5 140 yX4_givenWorth, Cond.instanceMethod yX4_givenWorth, Cond.selects RX4 yX4_givenWorth yX4_givenWorth, Cond.code yX4_givenWorth cX4_givenWorth 3 (some .int), Cond.methodLink RX4 113 yX4_worthOf, Cond.instanceMethod yX4_worthOf, Cond.selects RX4 yX4_worthOf yX4_worthOf, Cond.code yX4_worthOf cX4_worthOf 2 (some .int), Cond.fieldLink RX4 18 "MothsShare$Share" "worths" "[I", Cond.methodLink RX4 74 yX4_hasBolt]
def wsX5_now_r2 : List Cond := [Cond.instanceMethod yX4_hasBolt, Cond.selects RX4 yX4_hasBolt yX4_hasBolt, Cond.code yX4_hasBolt cX4_hasBolt 2 (some .boolean), Cond.fieldLink RX4 39 "MothsShare$Share" "bolts" "I", Cond.methodLink RX5 48 yX5_noted, Cond.instanceMethod yX5_noted, Cond.selects RX5 yX5_noted yX5_noted, Cond.initialized RX5, Cond.code yX5_noted cX5_noted 2 (some .int), Cond.fieldLink RX5 189 "MothsShare" "refusedBad" "I", Cond.fieldLink RX5 192 "MothsShare" "refusedNo" "I", Cond.fieldLink RX5 195 "MothsShare" "refusedFull" "I"]
def wsX5_now : List Cond := .code yX5_now cX5_now 2 (some .int) :: ((wsX5_now_r1 ++ wsX5_now_r2) ++ wsX50 ++ wsX40)
def wsX5_eaten_r1 : List Cond := [Cond.fieldLink RX5 12 "MothsShare" "told" "LMothsShare$Share;", Cond.methodLink RX5 62 yX4_hasMoth, Cond.instanceMethod yX4_hasMoth, Cond.selects RX4 yX4_hasMoth yX4_hasMoth, Cond.initialized RX4, Cond.code yX4_hasMoth cX4_hasMoth 2 (some .boolean), Cond.fieldLink RX4 43 "MothsShare$Share" "moths" "I", Cond.methodLink RX5 48 yX5_noted, Cond.instanceMethod yX5_noted, Cond.selects RX5 yX5_noted yX5_noted, Cond.initialized RX5, Cond.code yX5_noted cX5_noted 2 (some .int), Cond.fieldLink RX5 189 "MothsShare" "refusedBad" "I", Cond.fieldLink RX5 192 "MothsShare" "refusedNo" "I", Cond.fieldLink RX5 195 "MothsShare" "refusedFull" "I", Cond.methodLink RX5 118 yX4_broken, Cond.instanceMethod yX4_broken, Cond.selects RX4 yX4_broken yX4_broken, Cond.code yX4_broken cX4_broken 1 (some .boolean), Cond.methodLink RX4 95 yX4_moodNow, Cond.instanceMethod yX4_moodNow, Cond.selects RX4 yX4_moodNow yX4_moodNow, Cond.code yX4_moodNow cX4_moodNow 1 (some .int), Cond.fieldLink RX4 55 "MothsShare$Share" "given" "I"]
def wsX5_eaten_r2 : List Cond := [Cond.fieldLink RX4 33 "MothsShare$Share" "moods" "[I", Cond.fieldLink RX4 52 "MothsShare$Share" "mood" "I", Cond.methodLink RX5 143 yX4_eatenBits, Cond.instanceMethod yX4_eatenBits, Cond.selects RX4 yX4_eatenBits yX4_eatenBits, Cond.code yX4_eatenBits cX4_eatenBits 1 (some .int), Cond.methodLink RX4 116 yX4_goneAhead, Cond.instanceMethod yX4_goneAhead, Cond.selects RX4 yX4_goneAhead yX4_goneAhead, Cond.code yX4_goneAhead cX4_goneAhead 5 (some .int), Cond.methodLink RX4 119 yX4_givenBits, Cond.instanceMethod yX4_givenBits, Cond.selects RX4 yX4_givenBits yX4_givenBits, Cond.code yX4_givenBits cX4_givenBits 3 (some .int), Cond.fieldLink RX4 30 "MothsShare$Share" "gifts" "[I", Cond.methodLink RX4 122 yX4_favourite, Cond.instanceMethod yX4_favourite, Cond.selects RX4 yX4_favourite yX4_favourite, Cond.code yX4_favourite cX4_favourite 7 (some .int), Cond.fieldLink RX4 39 "MothsShare$Share" "bolts" "I", Cond.methodLink RX4 92 yX4_hunger, Cond.instanceMethod yX4_hunger, Cond.selects RX4 yX4_hunger yX4_hunger, Cond.code yX4_hunger cX4_hunger 3 (some .int)]
def wsX5_eaten_r3 : List Cond := [Cond.fieldLink RX4 15 "MothsShare$Share" "smells" "[I", Cond.methodLink RX4 74 yX4_hasBolt, Cond.instanceMethod yX4_hasBolt, Cond.selects RX4 yX4_hasBolt yX4_hasBolt, Cond.code yX4_hasBolt cX4_hasBolt 2 (some .boolean), Cond.methodLink RX4 81 yX4_hungerAt, Cond.instanceMethod yX4_hungerAt, Cond.selects RX4 yX4_hungerAt yX4_hungerAt, Cond.code yX4_hungerAt cX4_hungerAt 6 (some .int), Cond.fieldLink RX4 9 "MothsShare$Share" "colours" "[I", Cond.fieldLink RX4 27 "MothsShare$Share" "tastes" "[I", Cond.fieldLink RX4 24 "MothsShare$Share" "breeds" "[I", Cond.methodLink RX4 85 yX4_hasMoth, Cond.methodLink RX4 88 yX0_hunger, Cond.static yX0_hunger, Cond.initialized RX0, Cond.code yX0_hunger cX0_hunger 6 (some .int), Cond.methodLink RX5 146 yX4_mealOf, Cond.instanceMethod yX4_mealOf, Cond.selects RX4 yX4_mealOf yX4_mealOf, Cond.code yX4_mealOf cX4_mealOf 2 (some .int)]
def wsX5_eaten : List Cond := .code yX5_eaten cX5_eaten 2 (some .int) :: ((wsX5_eaten_r1 ++ (wsX5_eaten_r2 ++ wsX5_eaten_r3)) ++ wsX50 ++ wsX40)
def wsX5_drawn_r1 : List Cond := [Cond.constant RX5 149 (999999), Cond.fieldLink RX5 26 "MothsShare" "plan" "LMothsShare$Plan;", Cond.fieldLink RX5 12 "MothsShare" "told" "LMothsShare$Share;", Cond.constantLong RX5 150 (1103515245), Cond.constantLong RX5 152 (12345), Cond.constantLong RX5 154 (2147483648), Cond.constantLong RX5 156 (65536), Cond.constantLong RX5 112 (20), Cond.methodLink RX5 48 yX5_noted, Cond.instanceMethod yX5_noted, Cond.selects RX5 yX5_noted yX5_noted, Cond.initialized RX5, Cond.code yX5_noted cX5_noted 2 (some .int), Cond.fieldLink RX5 189 "MothsShare" "refusedBad" "I", Cond.fieldLink RX5 192 "MothsShare" "refusedNo" "I", Cond.fieldLink RX5 195 "MothsShare" "refusedFull" "I", Cond.methodLink RX5 98 yX3_lay, Cond.instanceMethod yX3_lay, Cond.selects RX3 yX3_lay yX3_lay, Cond.initialized RX3, Cond.code yX3_lay cX3_lay 5 none, Cond.fieldLink RX3 9 "MothsShare$Plan" "pleasing" "[Z", Cond.methodLink RX3 28 Lib.Math.min.name, Cond.static Lib.Math.min.name]
def wsX5_drawn_r2 : List Cond := [Cond.initialized "java/lang/Math", Cond.code Lib.Math.min.name Lib.Math.min.code 2 (some .int), Cond.fieldLink RX3 48 "MothsShare$Plan" "rows" "I", Cond.fieldLink RX3 15 "MothsShare$Plan" "least" "[I", Cond.methodLink RX3 40 yX4_pleases, Cond.instanceMethod yX4_pleases, Cond.selects RX4 yX4_pleases yX4_pleases, Cond.initialized RX4, Cond.code yX4_pleases cX4_pleases 4 (some .boolean), Cond.fieldLink RX4 43 "MothsShare$Share" "moths" "I", Cond.fieldLink RX4 49 "MothsShare$Share" "want" "I", Cond.methodLink RX4 92 yX4_hunger, Cond.instanceMethod yX4_hunger, Cond.selects RX4 yX4_hunger yX4_hunger, Cond.code yX4_hunger cX4_hunger 3 (some .int), Cond.fieldLink RX4 15 "MothsShare$Share" "smells" "[I", Cond.methodLink RX4 74 yX4_hasBolt, Cond.instanceMethod yX4_hasBolt, Cond.selects RX4 yX4_hasBolt yX4_hasBolt, Cond.code yX4_hasBolt cX4_hasBolt 2 (some .boolean), Cond.fieldLink RX4 39 "MothsShare$Share" "bolts" "I", Cond.methodLink RX4 81 yX4_hungerAt, Cond.instanceMethod yX4_hungerAt, Cond.selects RX4 yX4_hungerAt yX4_hungerAt]
def wsX5_drawn_r3 : List Cond := [Cond.code yX4_hungerAt cX4_hungerAt 6 (some .int), Cond.fieldLink RX4 9 "MothsShare$Share" "colours" "[I", Cond.fieldLink RX4 27 "MothsShare$Share" "tastes" "[I", Cond.fieldLink RX4 24 "MothsShare$Share" "breeds" "[I", Cond.methodLink RX4 85 yX4_hasMoth, Cond.instanceMethod yX4_hasMoth, Cond.selects RX4 yX4_hasMoth yX4_hasMoth, Cond.code yX4_hasMoth cX4_hasMoth 2 (some .boolean), Cond.methodLink RX4 88 yX0_hunger, Cond.static yX0_hunger, Cond.initialized RX0, Cond.code yX0_hunger cX0_hunger 6 (some .int), Cond.methodLink RX3 44 yX4_groupsBy, Cond.instanceMethod yX4_groupsBy, Cond.selects RX4 yX4_groupsBy yX4_groupsBy, Cond.code yX4_groupsBy cX4_groupsBy 2 (some .int), Cond.methodLink RX3 51 yX3_choose, Cond.instanceMethod yX3_choose, Cond.selects RX3 yX3_choose yX3_choose, Cond.code yX3_choose cX3_choose 11 none, Cond.fieldLink RX3 19 "MothsShare$Plan" "choice" "[I", Cond.methodLink RX3 62 yX3_leastFrom, Cond.instanceMethod yX3_leastFrom, Cond.selects RX3 yX3_leastFrom yX3_leastFrom]
def wsX5_drawn_r4 : List Cond := [Cond.code yX3_leastFrom cX3_leastFrom 3 (some .int), Cond.methodLink RX3 65 yX3_moodBehind, Cond.static yX3_moodBehind, Cond.code yX3_moodBehind cX3_moodBehind 2 (some .int), Cond.methodLink RX3 69 yX4_worthOf, Cond.instanceMethod yX4_worthOf, Cond.selects RX4 yX4_worthOf yX4_worthOf, Cond.code yX4_worthOf cX4_worthOf 2 (some .int), Cond.fieldLink RX4 18 "MothsShare$Share" "worths" "[I", Cond.methodLink RX3 58 yX3_follow, Cond.instanceMethod yX3_follow, Cond.selects RX3 yX3_follow yX3_follow, Cond.code yX3_follow cX3_follow 5 none, Cond.fieldLink RX3 72 "MothsShare$Plan" "total" "I", Cond.fieldLink RX3 22 "MothsShare$Plan" "gifts" "[I", Cond.fieldLink RX3 25 "MothsShare$Plan" "ahead" "[I", Cond.methodLink RX5 102 yX3_worth, Cond.instanceMethod yX3_worth, Cond.selects RX3 yX3_worth yX3_worth, Cond.code yX3_worth cX3_worth 1 (some .int), Cond.methodLink RX5 108 yX3_groups, Cond.instanceMethod yX3_groups, Cond.selects RX3 yX3_groups yX3_groups, Cond.code yX3_groups cX3_groups 1 (some .int)]
def wsX5_drawn_r5 : List Cond := [Cond.methodLink RX5 109 yX3_moodAhead, Cond.instanceMethod yX3_moodAhead, Cond.selects RX3 yX3_moodAhead yX3_moodAhead, Cond.code yX3_moodAhead cX3_moodAhead 2 (some .int)]
def wsX5_drawn : List Cond := .code yX5_drawn cX5_drawn 5 (some .int) :: ((wsX5_drawn_r1 ++ (wsX5_drawn_r2 ++ (wsX5_drawn_r3 ++ (wsX5_drawn_r4 ++ wsX5_drawn_r5)))) ++ wsX50 ++ wsX40 ++ wsX30)
def wsX5_holes : List Cond := .code yX5_holes cX5_holes 3 (some .int) :: ([.fieldLink RX5 12 "MothsShare" "told" "LMothsShare$Share;", .methodLink RX5 158 yX4_setHoles, .instanceMethod yX4_setHoles, .selects RX4 yX4_setHoles yX4_setHoles, .initialized RX4, .code yX4_setHoles cX4_setHoles 4 (some .int), .fieldLink RX4 21 "MothsShare$Share" "holesTold" "[I", .methodLink RX4 74 yX4_hasBolt, .instanceMethod yX4_hasBolt, .selects RX4 yX4_hasBolt yX4_hasBolt, .code yX4_hasBolt cX4_hasBolt 2 (some .boolean), .fieldLink RX4 39 "MothsShare$Share" "bolts" "I", .methodLink RX5 48 yX5_noted, .instanceMethod yX5_noted, .selects RX5 yX5_noted yX5_noted, .initialized RX5, .code yX5_noted cX5_noted 2 (some .int), .fieldLink RX5 189 "MothsShare" "refusedBad" "I", .fieldLink RX5 192 "MothsShare" "refusedNo" "I", .fieldLink RX5 195 "MothsShare" "refusedFull" "I"] ++ wsX50 ++ wsX40)
def wsX5_byWhom_r1 : List Cond := [Cond.fieldLink RX5 12 "MothsShare" "told" "LMothsShare$Share;", Cond.methodLink RX5 48 yX5_noted, Cond.instanceMethod yX5_noted, Cond.selects RX5 yX5_noted yX5_noted, Cond.initialized RX5, Cond.code yX5_noted cX5_noted 2 (some .int), Cond.fieldLink RX5 189 "MothsShare" "refusedBad" "I", Cond.fieldLink RX5 192 "MothsShare" "refusedNo" "I", Cond.fieldLink RX5 195 "MothsShare" "refusedFull" "I", Cond.methodLink RX5 161 yX4_setsThatFit, Cond.instanceMethod yX4_setsThatFit, Cond.selects RX4 yX4_setsThatFit yX4_setsThatFit, Cond.initialized RX4, Cond.code yX4_setsThatFit cX4_setsThatFit 3 (some .int), Cond.fieldLink RX4 43 "MothsShare$Share" "moths" "I", Cond.methodLink RX4 128 yX4_fits, Cond.instanceMethod yX4_fits, Cond.selects RX4 yX4_fits yX4_fits, Cond.code yX4_fits cX4_fits 3 (some .boolean), Cond.fieldLink RX4 39 "MothsShare$Share" "bolts" "I", Cond.fieldLink RX4 21 "MothsShare$Share" "holesTold" "[I", Cond.methodLink RX4 131 yX4_holesAreTold, Cond.instanceMethod yX4_holesAreTold, Cond.selects RX4 yX4_holesAreTold yX4_holesAreTold]
def wsX5_byWhom_r2 : List Cond := [Cond.code yX4_holesAreTold cX4_holesAreTold 2 (some .boolean), Cond.methodLink RX4 125 yX4_holesOf, Cond.instanceMethod yX4_holesOf, Cond.selects RX4 yX4_holesOf yX4_holesOf, Cond.code yX4_holesOf cX4_holesOf 2 (some .int), Cond.methodLink RX4 74 yX4_hasBolt, Cond.instanceMethod yX4_hasBolt, Cond.selects RX4 yX4_hasBolt yX4_hasBolt, Cond.code yX4_hasBolt cX4_hasBolt 2 (some .boolean), Cond.methodLink RX4 134 yX4_holesBy, Cond.instanceMethod yX4_holesBy, Cond.selects RX4 yX4_holesBy yX4_holesBy, Cond.code yX4_holesBy cX4_holesBy 5 (some .int), Cond.methodLink RX4 92 yX4_hunger, Cond.instanceMethod yX4_hunger, Cond.selects RX4 yX4_hunger yX4_hunger, Cond.code yX4_hunger cX4_hunger 3 (some .int), Cond.fieldLink RX4 15 "MothsShare$Share" "smells" "[I", Cond.methodLink RX4 81 yX4_hungerAt, Cond.instanceMethod yX4_hungerAt, Cond.selects RX4 yX4_hungerAt yX4_hungerAt, Cond.code yX4_hungerAt cX4_hungerAt 6 (some .int), Cond.fieldLink RX4 9 "MothsShare$Share" "colours" "[I", Cond.fieldLink RX4 27 "MothsShare$Share" "tastes" "[I"]
def wsX5_byWhom_r3 : List Cond := [Cond.fieldLink RX4 24 "MothsShare$Share" "breeds" "[I", Cond.methodLink RX4 85 yX4_hasMoth, Cond.instanceMethod yX4_hasMoth, Cond.selects RX4 yX4_hasMoth yX4_hasMoth, Cond.code yX4_hasMoth cX4_hasMoth 2 (some .boolean), Cond.methodLink RX4 88 yX0_hunger, Cond.static yX0_hunger, Cond.initialized RX0, Cond.code yX0_hunger cX0_hunger 6 (some .int), Cond.methodLink RX5 164 yX4_leastSet, Cond.instanceMethod yX4_leastSet, Cond.selects RX4 yX4_leastSet yX4_leastSet, Cond.code yX4_leastSet cX4_leastSet 2 (some .int)]
def wsX5_byWhom : List Cond := .code yX5_byWhom cX5_byWhom 3 (some .int) :: ((wsX5_byWhom_r1 ++ (wsX5_byWhom_r2 ++ wsX5_byWhom_r3)) ++ wsX50 ++ wsX40)
def wsX5_mouth_r1 : List Cond := [Cond.fieldLink RX5 12 "MothsShare" "told" "LMothsShare$Share;", Cond.methodLink RX5 167 yX4_holesAreTold, Cond.instanceMethod yX4_holesAreTold, Cond.selects RX4 yX4_holesAreTold yX4_holesAreTold, Cond.initialized RX4, Cond.code yX4_holesAreTold cX4_holesAreTold 2 (some .boolean), Cond.methodLink RX4 125 yX4_holesOf, Cond.instanceMethod yX4_holesOf, Cond.selects RX4 yX4_holesOf yX4_holesOf, Cond.code yX4_holesOf cX4_holesOf 2 (some .int), Cond.fieldLink RX4 21 "MothsShare$Share" "holesTold" "[I", Cond.methodLink RX4 74 yX4_hasBolt, Cond.instanceMethod yX4_hasBolt, Cond.selects RX4 yX4_hasBolt yX4_hasBolt, Cond.code yX4_hasBolt cX4_hasBolt 2 (some .boolean), Cond.fieldLink RX4 39 "MothsShare$Share" "bolts" "I", Cond.methodLink RX5 48 yX5_noted, Cond.instanceMethod yX5_noted, Cond.selects RX5 yX5_noted yX5_noted, Cond.initialized RX5, Cond.code yX5_noted cX5_noted 2 (some .int), Cond.fieldLink RX5 189 "MothsShare" "refusedBad" "I", Cond.fieldLink RX5 192 "MothsShare" "refusedNo" "I", Cond.fieldLink RX5 195 "MothsShare" "refusedFull" "I"]
def wsX5_mouth_r2 : List Cond := [Cond.methodLink RX5 164 yX4_leastSet, Cond.instanceMethod yX4_leastSet, Cond.selects RX4 yX4_leastSet yX4_leastSet, Cond.code yX4_leastSet cX4_leastSet 2 (some .int), Cond.fieldLink RX4 43 "MothsShare$Share" "moths" "I", Cond.methodLink RX4 128 yX4_fits, Cond.instanceMethod yX4_fits, Cond.selects RX4 yX4_fits yX4_fits, Cond.code yX4_fits cX4_fits 3 (some .boolean), Cond.methodLink RX4 131 yX4_holesAreTold, Cond.methodLink RX4 134 yX4_holesBy, Cond.instanceMethod yX4_holesBy, Cond.selects RX4 yX4_holesBy yX4_holesBy, Cond.code yX4_holesBy cX4_holesBy 5 (some .int), Cond.methodLink RX4 92 yX4_hunger, Cond.instanceMethod yX4_hunger, Cond.selects RX4 yX4_hunger yX4_hunger, Cond.code yX4_hunger cX4_hunger 3 (some .int), Cond.fieldLink RX4 15 "MothsShare$Share" "smells" "[I", Cond.methodLink RX4 81 yX4_hungerAt, Cond.instanceMethod yX4_hungerAt, Cond.selects RX4 yX4_hungerAt yX4_hungerAt, Cond.code yX4_hungerAt cX4_hungerAt 6 (some .int), Cond.fieldLink RX4 9 "MothsShare$Share" "colours" "[I"]
def wsX5_mouth_r3 : List Cond := [Cond.fieldLink RX4 27 "MothsShare$Share" "tastes" "[I", Cond.fieldLink RX4 24 "MothsShare$Share" "breeds" "[I", Cond.methodLink RX4 85 yX4_hasMoth, Cond.instanceMethod yX4_hasMoth, Cond.selects RX4 yX4_hasMoth yX4_hasMoth, Cond.code yX4_hasMoth cX4_hasMoth 2 (some .boolean), Cond.methodLink RX4 88 yX0_hunger, Cond.static yX0_hunger, Cond.initialized RX0, Cond.code yX0_hunger cX0_hunger 6 (some .int), Cond.methodLink RX5 170 yX4_mouthAt, Cond.instanceMethod yX4_mouthAt, Cond.selects RX4 yX4_mouthAt yX4_mouthAt, Cond.code yX4_mouthAt cX4_mouthAt 6 (some .int)]
def wsX5_mouth : List Cond := .code yX5_mouth cX5_mouth 4 (some .int) :: ((wsX5_mouth_r1 ++ (wsX5_mouth_r2 ++ wsX5_mouth_r3)) ++ wsX50 ++ wsX40)
def wsX5_cedar_r1 : List Cond := [Cond.fieldLink RX5 12 "MothsShare" "told" "LMothsShare$Share;", Cond.methodLink RX5 48 yX5_noted, Cond.instanceMethod yX5_noted, Cond.selects RX5 yX5_noted yX5_noted, Cond.initialized RX5, Cond.code yX5_noted cX5_noted 2 (some .int), Cond.fieldLink RX5 189 "MothsShare" "refusedBad" "I", Cond.fieldLink RX5 192 "MothsShare" "refusedNo" "I", Cond.fieldLink RX5 195 "MothsShare" "refusedFull" "I", Cond.methodLink RX5 173 yX4_cedarFor, Cond.instanceMethod yX4_cedarFor, Cond.selects RX4 yX4_cedarFor yX4_cedarFor, Cond.initialized RX4, Cond.code yX4_cedarFor cX4_cedarFor 4 (some .int), Cond.fieldLink RX4 39 "MothsShare$Share" "bolts" "I", Cond.fieldLink RX4 15 "MothsShare$Share" "smells" "[I", Cond.methodLink RX4 137 yX4_greatestHunger, Cond.instanceMethod yX4_greatestHunger, Cond.selects RX4 yX4_greatestHunger yX4_greatestHunger, Cond.code yX4_greatestHunger cX4_greatestHunger 5 (some .int), Cond.fieldLink RX4 43 "MothsShare$Share" "moths" "I", Cond.methodLink RX4 108 Lib.Math.max.name, Cond.static Lib.Math.max.name, Cond.initialized "java/lang/Math"]
def wsX5_cedar_r2 : List Cond := [Cond.code Lib.Math.max.name Lib.Math.max.code 2 (some .int), Cond.methodLink RX4 81 yX4_hungerAt, Cond.instanceMethod yX4_hungerAt, Cond.selects RX4 yX4_hungerAt yX4_hungerAt, Cond.code yX4_hungerAt cX4_hungerAt 6 (some .int), Cond.fieldLink RX4 9 "MothsShare$Share" "colours" "[I", Cond.fieldLink RX4 27 "MothsShare$Share" "tastes" "[I", Cond.fieldLink RX4 24 "MothsShare$Share" "breeds" "[I", Cond.methodLink RX4 85 yX4_hasMoth, Cond.instanceMethod yX4_hasMoth, Cond.selects RX4 yX4_hasMoth yX4_hasMoth, Cond.code yX4_hasMoth cX4_hasMoth 2 (some .boolean), Cond.methodLink RX4 74 yX4_hasBolt, Cond.instanceMethod yX4_hasBolt, Cond.selects RX4 yX4_hasBolt yX4_hasBolt, Cond.code yX4_hasBolt cX4_hasBolt 2 (some .boolean), Cond.methodLink RX4 88 yX0_hunger, Cond.static yX0_hunger, Cond.initialized RX0, Cond.code yX0_hunger cX0_hunger 6 (some .int)]
def wsX5_cedar : List Cond := .code yX5_cedar cX5_cedar 2 (some .int) :: ((wsX5_cedar_r1 ++ wsX5_cedar_r2) ++ wsX50 ++ wsX40)
def wsX5_oracle : List Cond := .code yX5_oracle cX5_oracle 8 (some .int) :: ([.fieldLink RX5 40 "MothsShare" "fraction" "LMothsShare$Fraction;", .methodLink RX5 48 yX5_noted, .instanceMethod yX5_noted, .selects RX5 yX5_noted yX5_noted, .initialized RX5, .code yX5_noted cX5_noted 2 (some .int), .fieldLink RX5 189 "MothsShare" "refusedBad" "I", .fieldLink RX5 192 "MothsShare" "refusedNo" "I", .fieldLink RX5 195 "MothsShare" "refusedFull" "I", .methodLink RX5 114 yX2_become, .instanceMethod yX2_become, .selects RX2 yX2_become yX2_become, .initialized RX2, .code yX2_become cX2_become 7 none, .fieldLink RX2 7 "MothsShare$Fraction" "above" "J", .fieldLink RX2 13 "MothsShare$Fraction" "below" "J", .methodLink RX2 16 yX2_greatestCommon, .static yX2_greatestCommon, .code yX2_greatestCommon cX2_greatestCommon 7 (some .long)] ++ wsX50 ++ wsX20)
def wsX5_tailor_r1 : List Cond := [Cond.fieldLink RX5 12 "MothsShare" "told" "LMothsShare$Share;", Cond.methodLink RX5 48 yX5_noted, Cond.instanceMethod yX5_noted, Cond.selects RX5 yX5_noted yX5_noted, Cond.initialized RX5, Cond.code yX5_noted cX5_noted 2 (some .int), Cond.fieldLink RX5 189 "MothsShare" "refusedBad" "I", Cond.fieldLink RX5 192 "MothsShare" "refusedNo" "I", Cond.fieldLink RX5 195 "MothsShare" "refusedFull" "I", Cond.methodLink RX5 176 yX4_mostHoles, Cond.instanceMethod yX4_mostHoles, Cond.selects RX4 yX4_mostHoles yX4_mostHoles, Cond.initialized RX4, Cond.code yX4_mostHoles cX4_mostHoles 4 (some .int), Cond.fieldLink RX4 39 "MothsShare$Share" "bolts" "I", Cond.methodLink RX4 125 yX4_holesOf, Cond.instanceMethod yX4_holesOf, Cond.selects RX4 yX4_holesOf yX4_holesOf, Cond.code yX4_holesOf cX4_holesOf 2 (some .int), Cond.fieldLink RX4 21 "MothsShare$Share" "holesTold" "[I", Cond.methodLink RX4 74 yX4_hasBolt, Cond.instanceMethod yX4_hasBolt, Cond.selects RX4 yX4_hasBolt yX4_hasBolt, Cond.code yX4_hasBolt cX4_hasBolt 2 (some .boolean)]
def wsX5_tailor_r2 : List Cond := [Cond.methodLink RX5 179 yX4_holesOf]
def wsX5_tailor : List Cond := .code yX5_tailor cX5_tailor 7 (some .int) :: ((wsX5_tailor_r1 ++ wsX5_tailor_r2) ++ wsX50 ++ wsX40)
def wsX5_part : List Cond := .code yX5_part cX5_part 2 (some .long) :: ([.fieldLink RX5 40 "MothsShare" "fraction" "LMothsShare$Fraction;", .methodLink RX5 48 yX5_noted, .instanceMethod yX5_noted, .selects RX5 yX5_noted yX5_noted, .initialized RX5, .code yX5_noted cX5_noted 2 (some .int), .fieldLink RX5 189 "MothsShare" "refusedBad" "I", .fieldLink RX5 192 "MothsShare" "refusedNo" "I", .fieldLink RX5 195 "MothsShare" "refusedFull" "I"] ++ wsX50 ++ wsX20)
def wsX5_image_r1 : List Cond := [Cond.fieldLink RX5 19 "MothsShare" "images" "[LMothsShare$Share;", Cond.classLink RX5 9 RX4, Cond.instantiable RX4 14, Cond.initialized RX4, Cond.fieldLink RX5 12 "MothsShare" "told" "LMothsShare$Share;", Cond.methodLink RX5 48 yX5_noted, Cond.instanceMethod yX5_noted, Cond.selects RX5 yX5_noted yX5_noted, Cond.initialized RX5, Cond.code yX5_noted cX5_noted 2 (some .int), Cond.fieldLink RX5 189 "MothsShare" "refusedBad" "I", Cond.fieldLink RX5 192 "MothsShare" "refusedNo" "I", Cond.fieldLink RX5 195 "MothsShare" "refusedFull" "I", Cond.methodLink RX5 11 yX4_init, Cond.instanceMethod yX4_init, Cond.code yX4_init cX4_init 1 none, Cond.methodLink RX4 3 objectInit, Cond.instanceMethod objectInit, Cond.code objectInit ⟨#[0xb1]⟩ 1 none, Cond.arrayClass .int, Cond.fieldLink RX4 9 "MothsShare$Share" "colours" "[I", Cond.fieldLink RX4 15 "MothsShare$Share" "smells" "[I", Cond.fieldLink RX4 18 "MothsShare$Share" "worths" "[I", Cond.fieldLink RX4 21 "MothsShare$Share" "holesTold" "[I"]
def wsX5_image_r2 : List Cond := [Cond.fieldLink RX4 24 "MothsShare$Share" "breeds" "[I", Cond.fieldLink RX4 27 "MothsShare$Share" "tastes" "[I", Cond.fieldLink RX4 30 "MothsShare$Share" "gifts" "[I", Cond.fieldLink RX4 33 "MothsShare$Share" "moods" "[I", Cond.methodLink RX4 36 yX4_startAnew, Cond.instanceMethod yX4_startAnew, Cond.selects RX4 yX4_startAnew yX4_startAnew, Cond.code yX4_startAnew cX4_startAnew 2 none, Cond.fieldLink RX4 39 "MothsShare$Share" "bolts" "I", Cond.fieldLink RX4 43 "MothsShare$Share" "moths" "I", Cond.fieldLink RX4 46 "MothsShare$Share" "each" "I", Cond.fieldLink RX4 49 "MothsShare$Share" "want" "I", Cond.fieldLink RX4 52 "MothsShare$Share" "mood" "I", Cond.fieldLink RX4 55 "MothsShare$Share" "given" "I", Cond.methodLink RX5 84 yX4_copyFrom, Cond.instanceMethod yX4_copyFrom, Cond.selects RX4 yX4_copyFrom yX4_copyFrom, Cond.code yX4_copyFrom cX4_copyFrom 2 none, Cond.methodLink RX4 58 yX4_copyRow, Cond.static yX4_copyRow, Cond.code yX4_copyRow cX4_copyRow 3 none]
def wsX5_image : List Cond := .code yX5_image cX5_image 3 (some .int) :: ((wsX5_image_r1 ++ wsX5_image_r2) ++ wsX50 ++ wsX40)
def wsX5_from_r1 : List Cond := [Cond.fieldLink RX5 19 "MothsShare" "images" "[LMothsShare$Share;", Cond.fieldLink RX5 12 "MothsShare" "told" "LMothsShare$Share;", Cond.methodLink RX5 48 yX5_noted, Cond.instanceMethod yX5_noted, Cond.selects RX5 yX5_noted yX5_noted, Cond.initialized RX5, Cond.code yX5_noted cX5_noted 2 (some .int), Cond.fieldLink RX5 189 "MothsShare" "refusedBad" "I", Cond.fieldLink RX5 192 "MothsShare" "refusedNo" "I", Cond.fieldLink RX5 195 "MothsShare" "refusedFull" "I", Cond.methodLink RX5 84 yX4_copyFrom, Cond.instanceMethod yX4_copyFrom, Cond.selects RX4 yX4_copyFrom yX4_copyFrom, Cond.initialized RX4, Cond.code yX4_copyFrom cX4_copyFrom 2 none, Cond.fieldLink RX4 9 "MothsShare$Share" "colours" "[I", Cond.fieldLink RX4 15 "MothsShare$Share" "smells" "[I", Cond.fieldLink RX4 18 "MothsShare$Share" "worths" "[I", Cond.fieldLink RX4 21 "MothsShare$Share" "holesTold" "[I", Cond.fieldLink RX4 39 "MothsShare$Share" "bolts" "I", Cond.fieldLink RX4 24 "MothsShare$Share" "breeds" "[I", Cond.fieldLink RX4 43 "MothsShare$Share" "moths" "I", Cond.fieldLink RX4 27 "MothsShare$Share" "tastes" "[I", Cond.fieldLink RX4 46 "MothsShare$Share" "each" "I"]
def wsX5_from_r2 : List Cond := [Cond.fieldLink RX4 49 "MothsShare$Share" "want" "I", Cond.fieldLink RX4 52 "MothsShare$Share" "mood" "I", Cond.fieldLink RX4 30 "MothsShare$Share" "gifts" "[I", Cond.fieldLink RX4 33 "MothsShare$Share" "moods" "[I", Cond.fieldLink RX4 55 "MothsShare$Share" "given" "I", Cond.methodLink RX4 58 yX4_copyRow, Cond.static yX4_copyRow, Cond.code yX4_copyRow cX4_copyRow 3 none]
def wsX5_from : List Cond := .code yX5_from cX5_from 3 (some .int) :: ((wsX5_from_r1 ++ wsX5_from_r2) ++ wsX50 ++ wsX40)
def wsX5_status : List Cond := .code yX5_status cX5_status 2 (some .int) :: ([.fieldLink RX5 189 "MothsShare" "refusedBad" "I", .fieldLink RX5 192 "MothsShare" "refusedNo" "I", .fieldLink RX5 195 "MothsShare" "refusedFull" "I", .methodLink RX5 48 yX5_noted, .instanceMethod yX5_noted, .selects RX5 yX5_noted yX5_noted, .initialized RX5, .code yX5_noted cX5_noted 2 (some .int)] ++ wsX50)
def wsX5_count : List Cond := .code yX5_count cX5_count 2 (some .int) :: ([.fieldLink RX5 12 "MothsShare" "told" "LMothsShare$Share;", .fieldLink RX5 33 "MothsShare" "deed" "LMothsShare$Deed;", .methodLink RX5 91 yX4_groups, .instanceMethod yX4_groups, .selects RX4 yX4_groups yX4_groups, .initialized RX4, .code yX4_groups cX4_groups 1 (some .int), .fieldLink RX4 46 "MothsShare$Share" "each" "I", .methodLink RX4 78 yX4_groupsBy, .instanceMethod yX4_groupsBy, .selects RX4 yX4_groupsBy yX4_groupsBy, .code yX4_groupsBy cX4_groupsBy 2 (some .int), .fieldLink RX4 39 "MothsShare$Share" "bolts" "I", .methodLink RX5 48 yX5_noted, .instanceMethod yX5_noted, .selects RX5 yX5_noted yX5_noted, .initialized RX5, .code yX5_noted cX5_noted 2 (some .int), .fieldLink RX5 189 "MothsShare" "refusedBad" "I", .fieldLink RX5 192 "MothsShare" "refusedNo" "I", .fieldLink RX5 195 "MothsShare" "refusedFull" "I"] ++ wsX50 ++ wsX40 ++ wsX10)
def wsX5_digest_r1 : List Cond := [Cond.constantLong RX5 207 (691), Cond.constantLong RX5 209 (31), Cond.fieldLink RX5 12 "MothsShare" "told" "LMothsShare$Share;", Cond.fieldLink RX5 33 "MothsShare" "deed" "LMothsShare$Deed;", Cond.fieldLink RX5 40 "MothsShare" "fraction" "LMothsShare$Fraction;", Cond.methodLink RX5 91 yX4_groups, Cond.instanceMethod yX4_groups, Cond.selects RX4 yX4_groups yX4_groups, Cond.initialized RX4, Cond.code yX4_groups cX4_groups 1 (some .int), Cond.fieldLink RX4 46 "MothsShare$Share" "each" "I", Cond.methodLink RX4 78 yX4_groupsBy, Cond.instanceMethod yX4_groupsBy, Cond.selects RX4 yX4_groupsBy yX4_groupsBy, Cond.code yX4_groupsBy cX4_groupsBy 2 (some .int), Cond.fieldLink RX4 39 "MothsShare$Share" "bolts" "I", Cond.methodLink RX5 211 yX4_foldInto, Cond.instanceMethod yX4_foldInto, Cond.selects RX4 yX4_foldInto yX4_foldInto, Cond.code yX4_foldInto cX4_foldInto 6 (some .long), Cond.constantLong RX4 140 (31), Cond.fieldLink RX4 9 "MothsShare$Share" "colours" "[I", Cond.fieldLink RX4 15 "MothsShare$Share" "smells" "[I", Cond.fieldLink RX4 18 "MothsShare$Share" "worths" "[I"]
def wsX5_digest_r2 : List Cond := [Cond.fieldLink RX4 21 "MothsShare$Share" "holesTold" "[I", Cond.fieldLink RX4 43 "MothsShare$Share" "moths" "I", Cond.fieldLink RX4 24 "MothsShare$Share" "breeds" "[I", Cond.fieldLink RX4 27 "MothsShare$Share" "tastes" "[I", Cond.fieldLink RX4 49 "MothsShare$Share" "want" "I", Cond.fieldLink RX4 52 "MothsShare$Share" "mood" "I", Cond.fieldLink RX4 55 "MothsShare$Share" "given" "I", Cond.fieldLink RX4 30 "MothsShare$Share" "gifts" "[I", Cond.methodLink RX4 95 yX4_moodNow, Cond.instanceMethod yX4_moodNow, Cond.selects RX4 yX4_moodNow yX4_moodNow, Cond.code yX4_moodNow cX4_moodNow 1 (some .int), Cond.fieldLink RX4 33 "MothsShare$Share" "moods" "[I"]
def wsX5_digest : List Cond := .code yX5_digest cX5_digest 3 (some .long) :: ((wsX5_digest_r1 ++ wsX5_digest_r2) ++ wsX50 ++ wsX40 ++ wsX10 ++ wsX20)
def wsX6_in : List Cond := .code yX6_in cX6_in 6 (some .boolean) :: ([])
def wsX6_anew : List Cond := .code yX6_anew cX6_anew 1 none :: ([.fieldLink RX6 7 "MothsShareModel" "book" "[I"] ++ wsX60)
def wsX6_begins : List Cond := .code yX6_begins cX6_begins 2 none :: ([.fieldLink RX6 7 "MothsShareModel" "book" "[I", .methodLink RX6 45 yX6_anew, .instanceMethod yX6_anew, .selects RX6 yX6_anew yX6_anew, .initialized RX6, .code yX6_anew cX6_anew 1 none] ++ wsX60)
def wsX6_init : List Cond := .code yX6_init cX6_init 1 none :: ([.methodLink RX6 1 objectInit, .instanceMethod objectInit, .code objectInit ⟨#[0xb1]⟩ 1 none, .arrayClass .int, .fieldLink RX6 7 "MothsShareModel" "book" "[I", .fieldLink RX6 13 "MothsShareModel" "images" "[I", .arrayClass .boolean, .fieldLink RX6 16 "MothsShareModel" "kept" "[Z", .fieldLink RX6 20 "MothsShareModel" "aside" "[I", .fieldLink RX6 23 "MothsShareModel" "refused" "[I", .fieldLink RX6 26 "MothsShareModel" "text" "[I", .fieldLink RX6 29 "MothsShareModel" "items" "[I", .fieldLink RX6 32 "MothsShareModel" "best" "[I", .fieldLink RX6 35 "MothsShareModel" "row" "[I", .fieldLink RX6 41 "MothsShareModel" "below" "J", .methodLink RX6 38 yX6_begins, .instanceMethod yX6_begins, .selects RX6 yX6_begins yX6_begins, .initialized RX6, .code yX6_begins cX6_begins 2 none, .methodLink RX6 45 yX6_anew, .instanceMethod yX6_anew, .selects RX6 yX6_anew yX6_anew, .code yX6_anew cX6_anew 1 none] ++ wsX60)
def wsX6_refuses : List Cond := .code yX6_refuses cX6_refuses 3 (some .int) :: ([.fieldLink RX6 23 "MothsShareModel" "refused" "[I", .fieldLink RX6 48 "MothsShareModel" "quiet" "Z"] ++ wsX60)
def wsX6_bad : List Cond := .code yX6_bad cX6_bad 1 (some .int) :: ([.methodLink RX6 52 yX6_refuses, .instanceMethod yX6_refuses, .selects RX6 yX6_refuses yX6_refuses, .initialized RX6, .code yX6_refuses cX6_refuses 3 (some .int), .fieldLink RX6 23 "MothsShareModel" "refused" "[I", .fieldLink RX6 48 "MothsShareModel" "quiet" "Z"] ++ wsX60)
def wsX6_no : List Cond := .code yX6_no cX6_no 1 (some .int) :: ([.methodLink RX6 52 yX6_refuses, .instanceMethod yX6_refuses, .selects RX6 yX6_refuses yX6_refuses, .initialized RX6, .code yX6_refuses cX6_refuses 3 (some .int), .fieldLink RX6 23 "MothsShareModel" "refused" "[I", .fieldLink RX6 48 "MothsShareModel" "quiet" "Z"] ++ wsX60)
def wsX6_full : List Cond := .code yX6_full cX6_full 1 (some .int) :: ([.methodLink RX6 52 yX6_refuses, .instanceMethod yX6_refuses, .selects RX6 yX6_refuses yX6_refuses, .initialized RX6, .code yX6_refuses cX6_refuses 3 (some .int), .fieldLink RX6 23 "MothsShareModel" "refused" "[I", .fieldLink RX6 48 "MothsShareModel" "quiet" "Z"] ++ wsX60)
def wsX6_isBolt : List Cond := .code yX6_isBolt cX6_isBolt 2 (some .boolean) :: ([.fieldLink RX6 7 "MothsShareModel" "book" "[I", .methodLink RX6 56 yX6_in, .static yX6_in, .initialized RX6, .code yX6_in cX6_in 6 (some .boolean)] ++ wsX60)
def wsX6_isMoth : List Cond := .code yX6_isMoth cX6_isMoth 2 (some .boolean) :: ([.fieldLink RX6 7 "MothsShareModel" "book" "[I", .methodLink RX6 56 yX6_in, .static yX6_in, .initialized RX6, .code yX6_in cX6_in 6 (some .boolean)] ++ wsX60)
def wsX6_ofBolt : List Cond := .code yX6_ofBolt cX6_ofBolt 3 (some .int) :: ([.fieldLink RX6 7 "MothsShareModel" "book" "[I"] ++ wsX60)
def wsX6_divisor : List Cond := .code yX6_divisor cX6_divisor 10 (some .long) :: ([])
def wsX6_keeps : List Cond := .code yX6_keeps cX6_keeps 7 (some .int) :: ([.fieldLink RX6 64 "MothsShareModel" "above" "J", .fieldLink RX6 41 "MothsShareModel" "below" "J", .methodLink RX6 60 yX6_divisor, .static yX6_divisor, .initialized RX6, .code yX6_divisor cX6_divisor 10 (some .long)] ++ wsX60)
def wsX6_bolt_r1 : List Cond := [Cond.constantLong RX6 67 (3), Cond.constantLong RX6 69 (99), Cond.fieldLink RX6 7 "MothsShareModel" "book" "[I", Cond.methodLink RX6 56 yX6_in, Cond.static yX6_in, Cond.initialized RX6, Cond.code yX6_in cX6_in 6 (some .boolean), Cond.methodLink RX6 71 yX6_bad, Cond.instanceMethod yX6_bad, Cond.selects RX6 yX6_bad yX6_bad, Cond.code yX6_bad cX6_bad 1 (some .int), Cond.methodLink RX6 52 yX6_refuses, Cond.instanceMethod yX6_refuses, Cond.selects RX6 yX6_refuses yX6_refuses, Cond.code yX6_refuses cX6_refuses 3 (some .int), Cond.fieldLink RX6 23 "MothsShareModel" "refused" "[I", Cond.fieldLink RX6 48 "MothsShareModel" "quiet" "Z", Cond.methodLink RX6 75 yX6_full, Cond.instanceMethod yX6_full, Cond.selects RX6 yX6_full yX6_full, Cond.code yX6_full cX6_full 1 (some .int), Cond.methodLink RX6 45 yX6_anew, Cond.instanceMethod yX6_anew, Cond.selects RX6 yX6_anew yX6_anew]
def wsX6_bolt_r2 : List Cond := [Cond.code yX6_anew cX6_anew 1 none]
def wsX6_bolt : List Cond := .code yX6_bolt cX6_bolt 5 (some .int) :: ((wsX6_bolt_r1 ++ wsX6_bolt_r2) ++ wsX60)
def wsX6_moth : List Cond := .code yX6_moth cX6_moth 2 (some .int) :: ([.constantLong RX6 78 (5), .fieldLink RX6 7 "MothsShareModel" "book" "[I", .methodLink RX6 56 yX6_in, .static yX6_in, .initialized RX6, .code yX6_in cX6_in 6 (some .boolean), .methodLink RX6 71 yX6_bad, .instanceMethod yX6_bad, .selects RX6 yX6_bad yX6_bad, .code yX6_bad cX6_bad 1 (some .int), .methodLink RX6 52 yX6_refuses, .instanceMethod yX6_refuses, .selects RX6 yX6_refuses yX6_refuses, .code yX6_refuses cX6_refuses 3 (some .int), .fieldLink RX6 23 "MothsShareModel" "refused" "[I", .fieldLink RX6 48 "MothsShareModel" "quiet" "Z", .methodLink RX6 75 yX6_full, .instanceMethod yX6_full, .selects RX6 yX6_full yX6_full, .code yX6_full cX6_full 1 (some .int), .methodLink RX6 45 yX6_anew, .instanceMethod yX6_anew, .selects RX6 yX6_anew yX6_anew, .code yX6_anew cX6_anew 1 none] ++ wsX60)
def wsX6_taste : List Cond := .code yX6_taste cX6_taste 4 (some .int) :: ([.constantLong RX6 67 (3), .constantLong RX6 80 (9), .fieldLink RX6 7 "MothsShareModel" "book" "[I", .methodLink RX6 56 yX6_in, .static yX6_in, .initialized RX6, .code yX6_in cX6_in 6 (some .boolean), .methodLink RX6 71 yX6_bad, .instanceMethod yX6_bad, .selects RX6 yX6_bad yX6_bad, .code yX6_bad cX6_bad 1 (some .int), .methodLink RX6 52 yX6_refuses, .instanceMethod yX6_refuses, .selects RX6 yX6_refuses yX6_refuses, .code yX6_refuses cX6_refuses 3 (some .int), .fieldLink RX6 23 "MothsShareModel" "refused" "[I", .fieldLink RX6 48 "MothsShareModel" "quiet" "Z"] ++ wsX60)
def wsX6_put : List Cond := .code yX6_put cX6_put 5 (some .int) :: ([.constantLong RX6 82 (2), .constantLong RX6 84 (6), .constantLong RX6 69 (99), .constantLong RX6 80 (9), .fieldLink RX6 7 "MothsShareModel" "book" "[I", .methodLink RX6 56 yX6_in, .static yX6_in, .initialized RX6, .code yX6_in cX6_in 6 (some .boolean), .methodLink RX6 71 yX6_bad, .instanceMethod yX6_bad, .selects RX6 yX6_bad yX6_bad, .code yX6_bad cX6_bad 1 (some .int), .methodLink RX6 52 yX6_refuses, .instanceMethod yX6_refuses, .selects RX6 yX6_refuses yX6_refuses, .code yX6_refuses cX6_refuses 3 (some .int), .fieldLink RX6 23 "MothsShareModel" "refused" "[I", .fieldLink RX6 48 "MothsShareModel" "quiet" "Z", .methodLink RX6 45 yX6_anew, .instanceMethod yX6_anew, .selects RX6 yX6_anew yX6_anew, .code yX6_anew cX6_anew 1 none] ++ wsX60)
def wsX6_wants : List Cond := .code yX6_wants cX6_wants 7 (some .int) :: ([.fieldLink RX6 7 "MothsShareModel" "book" "[I", .methodLink RX6 86 yX6_ofBolt, .instanceMethod yX6_ofBolt, .selects RX6 yX6_ofBolt yX6_ofBolt, .initialized RX6, .code yX6_ofBolt cX6_ofBolt 3 (some .int)] ++ wsX60)
def wsX6_appetite_r1 : List Cond := [Cond.methodLink RX6 89 yX6_isMoth, Cond.instanceMethod yX6_isMoth, Cond.selects RX6 yX6_isMoth yX6_isMoth, Cond.initialized RX6, Cond.code yX6_isMoth cX6_isMoth 2 (some .boolean), Cond.fieldLink RX6 7 "MothsShareModel" "book" "[I", Cond.methodLink RX6 56 yX6_in, Cond.static yX6_in, Cond.code yX6_in cX6_in 6 (some .boolean), Cond.methodLink RX6 93 yX6_isBolt, Cond.instanceMethod yX6_isBolt, Cond.selects RX6 yX6_isBolt yX6_isBolt, Cond.code yX6_isBolt cX6_isBolt 2 (some .boolean), Cond.methodLink RX6 86 yX6_ofBolt, Cond.instanceMethod yX6_ofBolt, Cond.selects RX6 yX6_ofBolt yX6_ofBolt, Cond.code yX6_ofBolt cX6_ofBolt 3 (some .int), Cond.methodLink RX6 96 yX6_wants, Cond.instanceMethod yX6_wants, Cond.selects RX6 yX6_wants yX6_wants, Cond.code yX6_wants cX6_wants 7 (some .int), Cond.methodLink RX6 71 yX6_bad, Cond.instanceMethod yX6_bad, Cond.selects RX6 yX6_bad yX6_bad]
def wsX6_appetite_r2 : List Cond := [Cond.code yX6_bad cX6_bad 1 (some .int), Cond.methodLink RX6 52 yX6_refuses, Cond.instanceMethod yX6_refuses, Cond.selects RX6 yX6_refuses yX6_refuses, Cond.code yX6_refuses cX6_refuses 3 (some .int), Cond.fieldLink RX6 23 "MothsShareModel" "refused" "[I", Cond.fieldLink RX6 48 "MothsShareModel" "quiet" "Z"]
def wsX6_appetite : List Cond := .code yX6_appetite cX6_appetite 3 (some .int) :: ((wsX6_appetite_r1 ++ wsX6_appetite_r2) ++ wsX60)
def wsX6_type : List Cond := .code yX6_type cX6_type 5 (some .int) :: ([.constantLong RX6 100 (8), .fieldLink RX6 102 "MothsShareModel" "typed" "I", .fieldLink RX6 26 "MothsShareModel" "text" "[I", .constantLong RX6 106 (255), .methodLink RX6 56 yX6_in, .static yX6_in, .initialized RX6, .code yX6_in cX6_in 6 (some .boolean), .methodLink RX6 71 yX6_bad, .instanceMethod yX6_bad, .selects RX6 yX6_bad yX6_bad, .code yX6_bad cX6_bad 1 (some .int), .methodLink RX6 52 yX6_refuses, .instanceMethod yX6_refuses, .selects RX6 yX6_refuses yX6_refuses, .code yX6_refuses cX6_refuses 3 (some .int), .fieldLink RX6 23 "MothsShareModel" "refused" "[I", .fieldLink RX6 48 "MothsShareModel" "quiet" "Z", .methodLink RX6 75 yX6_full, .instanceMethod yX6_full, .selects RX6 yX6_full yX6_full, .code yX6_full cX6_full 1 (some .int)] ++ wsX60)
def wsX6_clear : List Cond := .code yX6_clear cX6_clear 2 (some .int) :: ([.fieldLink RX6 102 "MothsShareModel" "typed" "I"] ++ wsX60)
def wsX6_isAt : List Cond := .code yX6_isAt cX6_isAt 3 (some .boolean) :: ([.fieldLink RX6 108 "MothsShareModel" "at" "I", .fieldLink RX6 102 "MothsShareModel" "typed" "I", .fieldLink RX6 26 "MothsShareModel" "text" "[I", .methodLink RX6 56 yX6_in, .static yX6_in, .initialized RX6, .code yX6_in cX6_in 6 (some .boolean)] ++ wsX60)
def wsX6_verbOf : List Cond := .code yX6_verbOf cX6_verbOf 4 (some .int) :: ([.constantLong RX6 111 (81300), .constantLong RX6 113 (441992), .constantLong RX6 115 (21024389), .constantLong RX6 117 (164968), .constantLong RX6 119 (755156), .constantLong RX6 121 (441828), .constantLong RX6 123 (8892595)])
def wsX6_scans_r1 : List Cond := [Cond.fieldLink RX6 108 "MothsShareModel" "at" "I", Cond.fieldLink RX6 129 "MothsShareModel" "start" "I", Cond.fieldLink RX6 102 "MothsShareModel" "typed" "I", Cond.fieldLink RX6 132 "MothsShareModel" "token" "I", Cond.constantLong RX6 135 (32), Cond.fieldLink RX6 26 "MothsShareModel" "text" "[I", Cond.constantLong RX6 137 (97), Cond.fieldLink RX6 143 "MothsShareModel" "value" "I", Cond.methodLink RX6 125 yX6_isAt, Cond.instanceMethod yX6_isAt, Cond.selects RX6 yX6_isAt yX6_isAt, Cond.initialized RX6, Cond.code yX6_isAt cX6_isAt 3 (some .boolean), Cond.methodLink RX6 56 yX6_in, Cond.static yX6_in, Cond.code yX6_in cX6_in 6 (some .boolean), Cond.methodLink RX6 139 yX6_verbOf, Cond.static yX6_verbOf, Cond.code yX6_verbOf cX6_verbOf 4 (some .int), Cond.constantLong RX6 111 (81300), Cond.constantLong RX6 113 (441992), Cond.constantLong RX6 115 (21024389), Cond.constantLong RX6 117 (164968), Cond.constantLong RX6 119 (755156)]
def wsX6_scans_r2 : List Cond := [Cond.constantLong RX6 121 (441828), Cond.constantLong RX6 123 (8892595)]
def wsX6_scans : List Cond := .code yX6_scans cX6_scans 3 none :: ((wsX6_scans_r1 ++ wsX6_scans_r2) ++ wsX60)
def wsX6_numbers : List Cond := .code yX6_numbers cX6_numbers 1 (some .int) :: ([])
def wsX6_reads_r1 : List Cond := [Cond.fieldLink RX6 108 "MothsShareModel" "at" "I", Cond.fieldLink RX6 146 "MothsShareModel" "many" "I", Cond.fieldLink RX6 132 "MothsShareModel" "token" "I", Cond.fieldLink RX6 29 "MothsShareModel" "items" "[I", Cond.fieldLink RX6 143 "MothsShareModel" "value" "I", Cond.methodLink RX6 149 yX6_scans, Cond.instanceMethod yX6_scans, Cond.selects RX6 yX6_scans yX6_scans, Cond.initialized RX6, Cond.code yX6_scans cX6_scans 3 none, Cond.fieldLink RX6 129 "MothsShareModel" "start" "I", Cond.fieldLink RX6 102 "MothsShareModel" "typed" "I", Cond.constantLong RX6 135 (32), Cond.fieldLink RX6 26 "MothsShareModel" "text" "[I", Cond.constantLong RX6 137 (97), Cond.methodLink RX6 125 yX6_isAt, Cond.instanceMethod yX6_isAt, Cond.selects RX6 yX6_isAt yX6_isAt, Cond.code yX6_isAt cX6_isAt 3 (some .boolean), Cond.methodLink RX6 56 yX6_in, Cond.static yX6_in, Cond.code yX6_in cX6_in 6 (some .boolean), Cond.methodLink RX6 139 yX6_verbOf, Cond.static yX6_verbOf]
def wsX6_reads_r2 : List Cond := [Cond.code yX6_verbOf cX6_verbOf 4 (some .int), Cond.constantLong RX6 111 (81300), Cond.constantLong RX6 113 (441992), Cond.constantLong RX6 115 (21024389), Cond.constantLong RX6 117 (164968), Cond.constantLong RX6 119 (755156), Cond.constantLong RX6 121 (441828), Cond.constantLong RX6 123 (8892595), Cond.methodLink RX6 152 yX6_numbers, Cond.static yX6_numbers, Cond.code yX6_numbers cX6_numbers 1 (some .int)]
def wsX6_reads : List Cond := .code yX6_reads cX6_reads 3 (some .boolean) :: ((wsX6_reads_r1 ++ wsX6_reads_r2) ++ wsX60)
def wsX6_holes : List Cond := .code yX6_holes cX6_holes 4 (some .int) :: ([.constantLong RX6 69 (99), .fieldLink RX6 7 "MothsShareModel" "book" "[I", .methodLink RX6 93 yX6_isBolt, .instanceMethod yX6_isBolt, .selects RX6 yX6_isBolt yX6_isBolt, .initialized RX6, .code yX6_isBolt cX6_isBolt 2 (some .boolean), .methodLink RX6 56 yX6_in, .static yX6_in, .code yX6_in cX6_in 6 (some .boolean), .methodLink RX6 52 yX6_refuses, .instanceMethod yX6_refuses, .selects RX6 yX6_refuses yX6_refuses, .code yX6_refuses cX6_refuses 3 (some .int), .fieldLink RX6 23 "MothsShareModel" "refused" "[I", .fieldLink RX6 48 "MothsShareModel" "quiet" "Z", .methodLink RX6 86 yX6_ofBolt, .instanceMethod yX6_ofBolt, .selects RX6 yX6_ofBolt yX6_ofBolt, .code yX6_ofBolt cX6_ofBolt 3 (some .int)] ++ wsX60)
def wsX6_tellsItem_r1 : List Cond := [Cond.fieldLink RX6 29 "MothsShareModel" "items" "[I", Cond.methodLink RX6 156 yX6_bolt, Cond.instanceMethod yX6_bolt, Cond.selects RX6 yX6_bolt yX6_bolt, Cond.initialized RX6, Cond.code yX6_bolt cX6_bolt 5 (some .int), Cond.constantLong RX6 67 (3), Cond.constantLong RX6 69 (99), Cond.fieldLink RX6 7 "MothsShareModel" "book" "[I", Cond.methodLink RX6 56 yX6_in, Cond.static yX6_in, Cond.code yX6_in cX6_in 6 (some .boolean), Cond.methodLink RX6 71 yX6_bad, Cond.instanceMethod yX6_bad, Cond.selects RX6 yX6_bad yX6_bad, Cond.code yX6_bad cX6_bad 1 (some .int), Cond.methodLink RX6 52 yX6_refuses, Cond.instanceMethod yX6_refuses, Cond.selects RX6 yX6_refuses yX6_refuses, Cond.code yX6_refuses cX6_refuses 3 (some .int), Cond.fieldLink RX6 23 "MothsShareModel" "refused" "[I", Cond.fieldLink RX6 48 "MothsShareModel" "quiet" "Z", Cond.methodLink RX6 75 yX6_full, Cond.instanceMethod yX6_full]
def wsX6_tellsItem_r2 : List Cond := [Cond.selects RX6 yX6_full yX6_full, Cond.code yX6_full cX6_full 1 (some .int), Cond.methodLink RX6 45 yX6_anew, Cond.instanceMethod yX6_anew, Cond.selects RX6 yX6_anew yX6_anew, Cond.code yX6_anew cX6_anew 1 none, Cond.methodLink RX6 159 yX6_moth, Cond.instanceMethod yX6_moth, Cond.selects RX6 yX6_moth yX6_moth, Cond.code yX6_moth cX6_moth 2 (some .int), Cond.constantLong RX6 78 (5), Cond.methodLink RX6 162 yX6_taste, Cond.instanceMethod yX6_taste, Cond.selects RX6 yX6_taste yX6_taste, Cond.code yX6_taste cX6_taste 4 (some .int), Cond.constantLong RX6 80 (9), Cond.methodLink RX6 165 yX6_holes, Cond.instanceMethod yX6_holes, Cond.selects RX6 yX6_holes yX6_holes, Cond.code yX6_holes cX6_holes 4 (some .int), Cond.methodLink RX6 93 yX6_isBolt, Cond.instanceMethod yX6_isBolt, Cond.selects RX6 yX6_isBolt yX6_isBolt, Cond.code yX6_isBolt cX6_isBolt 2 (some .boolean)]
def wsX6_tellsItem_r3 : List Cond := [Cond.methodLink RX6 86 yX6_ofBolt, Cond.instanceMethod yX6_ofBolt, Cond.selects RX6 yX6_ofBolt yX6_ofBolt, Cond.code yX6_ofBolt cX6_ofBolt 3 (some .int), Cond.methodLink RX6 168 yX6_put, Cond.instanceMethod yX6_put, Cond.selects RX6 yX6_put yX6_put, Cond.code yX6_put cX6_put 5 (some .int), Cond.constantLong RX6 82 (2), Cond.constantLong RX6 84 (6)]
def wsX6_tellsItem : List Cond := .code yX6_tellsItem cX6_tellsItem 6 (some .boolean) :: ((wsX6_tellsItem_r1 ++ (wsX6_tellsItem_r2 ++ wsX6_tellsItem_r3)) ++ wsX60)
def wsX6_read_r1 : List Cond := [Cond.fieldLink RX6 129 "MothsShareModel" "start" "I", Cond.fieldLink RX6 20 "MothsShareModel" "aside" "[I", Cond.fieldLink RX6 7 "MothsShareModel" "book" "[I", Cond.fieldLink RX6 48 "MothsShareModel" "quiet" "Z", Cond.fieldLink RX6 146 "MothsShareModel" "many" "I", Cond.methodLink RX6 171 yX6_reads, Cond.instanceMethod yX6_reads, Cond.selects RX6 yX6_reads yX6_reads, Cond.initialized RX6, Cond.code yX6_reads cX6_reads 3 (some .boolean), Cond.fieldLink RX6 108 "MothsShareModel" "at" "I", Cond.fieldLink RX6 132 "MothsShareModel" "token" "I", Cond.fieldLink RX6 29 "MothsShareModel" "items" "[I", Cond.fieldLink RX6 143 "MothsShareModel" "value" "I", Cond.methodLink RX6 149 yX6_scans, Cond.instanceMethod yX6_scans, Cond.selects RX6 yX6_scans yX6_scans, Cond.code yX6_scans cX6_scans 3 none, Cond.fieldLink RX6 102 "MothsShareModel" "typed" "I", Cond.constantLong RX6 135 (32), Cond.fieldLink RX6 26 "MothsShareModel" "text" "[I", Cond.constantLong RX6 137 (97), Cond.methodLink RX6 125 yX6_isAt, Cond.instanceMethod yX6_isAt]
def wsX6_read_r2 : List Cond := [Cond.selects RX6 yX6_isAt yX6_isAt, Cond.code yX6_isAt cX6_isAt 3 (some .boolean), Cond.methodLink RX6 56 yX6_in, Cond.static yX6_in, Cond.code yX6_in cX6_in 6 (some .boolean), Cond.methodLink RX6 139 yX6_verbOf, Cond.static yX6_verbOf, Cond.code yX6_verbOf cX6_verbOf 4 (some .int), Cond.constantLong RX6 111 (81300), Cond.constantLong RX6 113 (441992), Cond.constantLong RX6 115 (21024389), Cond.constantLong RX6 117 (164968), Cond.constantLong RX6 119 (755156), Cond.constantLong RX6 121 (441828), Cond.constantLong RX6 123 (8892595), Cond.methodLink RX6 152 yX6_numbers, Cond.static yX6_numbers, Cond.code yX6_numbers cX6_numbers 1 (some .int), Cond.methodLink RX6 38 yX6_begins, Cond.instanceMethod yX6_begins, Cond.selects RX6 yX6_begins yX6_begins, Cond.code yX6_begins cX6_begins 2 none, Cond.methodLink RX6 45 yX6_anew, Cond.instanceMethod yX6_anew]
def wsX6_read_r3 : List Cond := [Cond.selects RX6 yX6_anew yX6_anew, Cond.code yX6_anew cX6_anew 1 none, Cond.methodLink RX6 175 yX6_tellsItem, Cond.instanceMethod yX6_tellsItem, Cond.selects RX6 yX6_tellsItem yX6_tellsItem, Cond.code yX6_tellsItem cX6_tellsItem 6 (some .boolean), Cond.methodLink RX6 156 yX6_bolt, Cond.instanceMethod yX6_bolt, Cond.selects RX6 yX6_bolt yX6_bolt, Cond.code yX6_bolt cX6_bolt 5 (some .int), Cond.constantLong RX6 67 (3), Cond.constantLong RX6 69 (99), Cond.methodLink RX6 71 yX6_bad, Cond.instanceMethod yX6_bad, Cond.selects RX6 yX6_bad yX6_bad, Cond.code yX6_bad cX6_bad 1 (some .int), Cond.methodLink RX6 52 yX6_refuses, Cond.instanceMethod yX6_refuses, Cond.selects RX6 yX6_refuses yX6_refuses, Cond.code yX6_refuses cX6_refuses 3 (some .int), Cond.fieldLink RX6 23 "MothsShareModel" "refused" "[I", Cond.methodLink RX6 75 yX6_full, Cond.instanceMethod yX6_full, Cond.selects RX6 yX6_full yX6_full]
def wsX6_read_r4 : List Cond := [Cond.code yX6_full cX6_full 1 (some .int), Cond.methodLink RX6 159 yX6_moth, Cond.instanceMethod yX6_moth, Cond.selects RX6 yX6_moth yX6_moth, Cond.code yX6_moth cX6_moth 2 (some .int), Cond.constantLong RX6 78 (5), Cond.methodLink RX6 162 yX6_taste, Cond.instanceMethod yX6_taste, Cond.selects RX6 yX6_taste yX6_taste, Cond.code yX6_taste cX6_taste 4 (some .int), Cond.constantLong RX6 80 (9), Cond.methodLink RX6 165 yX6_holes, Cond.instanceMethod yX6_holes, Cond.selects RX6 yX6_holes yX6_holes, Cond.code yX6_holes cX6_holes 4 (some .int), Cond.methodLink RX6 93 yX6_isBolt, Cond.instanceMethod yX6_isBolt, Cond.selects RX6 yX6_isBolt yX6_isBolt, Cond.code yX6_isBolt cX6_isBolt 2 (some .boolean), Cond.methodLink RX6 86 yX6_ofBolt, Cond.instanceMethod yX6_ofBolt, Cond.selects RX6 yX6_ofBolt yX6_ofBolt, Cond.code yX6_ofBolt cX6_ofBolt 3 (some .int), Cond.methodLink RX6 168 yX6_put]
def wsX6_read_r5 : List Cond := [Cond.instanceMethod yX6_put, Cond.selects RX6 yX6_put yX6_put, Cond.code yX6_put cX6_put 5 (some .int), Cond.constantLong RX6 82 (2), Cond.constantLong RX6 84 (6)]
def wsX6_read : List Cond := .code yX6_read cX6_read 3 (some .int) :: ((wsX6_read_r1 ++ (wsX6_read_r2 ++ (wsX6_read_r3 ++ (wsX6_read_r4 ++ wsX6_read_r5)))) ++ wsX60)
def wsX6_pleases : List Cond := .code yX6_pleases cX6_pleases 4 (some .boolean) :: ([.fieldLink RX6 7 "MothsShareModel" "book" "[I", .methodLink RX6 86 yX6_ofBolt, .instanceMethod yX6_ofBolt, .selects RX6 yX6_ofBolt yX6_ofBolt, .initialized RX6, .code yX6_ofBolt cX6_ofBolt 3 (some .int), .methodLink RX6 96 yX6_wants, .instanceMethod yX6_wants, .selects RX6 yX6_wants yX6_wants, .code yX6_wants cX6_wants 7 (some .int)] ++ wsX60)
def wsX6_pleased_r1 : List Cond := [Cond.methodLink RX6 93 yX6_isBolt, Cond.instanceMethod yX6_isBolt, Cond.selects RX6 yX6_isBolt yX6_isBolt, Cond.initialized RX6, Cond.code yX6_isBolt cX6_isBolt 2 (some .boolean), Cond.fieldLink RX6 7 "MothsShareModel" "book" "[I", Cond.methodLink RX6 56 yX6_in, Cond.static yX6_in, Cond.code yX6_in cX6_in 6 (some .boolean), Cond.methodLink RX6 178 yX6_pleases, Cond.instanceMethod yX6_pleases, Cond.selects RX6 yX6_pleases yX6_pleases, Cond.code yX6_pleases cX6_pleases 4 (some .boolean), Cond.methodLink RX6 86 yX6_ofBolt, Cond.instanceMethod yX6_ofBolt, Cond.selects RX6 yX6_ofBolt yX6_ofBolt, Cond.code yX6_ofBolt cX6_ofBolt 3 (some .int), Cond.methodLink RX6 96 yX6_wants, Cond.instanceMethod yX6_wants, Cond.selects RX6 yX6_wants yX6_wants, Cond.code yX6_wants cX6_wants 7 (some .int), Cond.methodLink RX6 71 yX6_bad, Cond.instanceMethod yX6_bad, Cond.selects RX6 yX6_bad yX6_bad]
def wsX6_pleased_r2 : List Cond := [Cond.code yX6_bad cX6_bad 1 (some .int), Cond.methodLink RX6 52 yX6_refuses, Cond.instanceMethod yX6_refuses, Cond.selects RX6 yX6_refuses yX6_refuses, Cond.code yX6_refuses cX6_refuses 3 (some .int), Cond.fieldLink RX6 23 "MothsShareModel" "refused" "[I", Cond.fieldLink RX6 48 "MothsShareModel" "quiet" "Z"]
def wsX6_pleased : List Cond := .code yX6_pleased cX6_pleased 2 (some .int) :: ((wsX6_pleased_r1 ++ wsX6_pleased_r2) ++ wsX60)
def wsX6_groups : List Cond := .code yX6_groups cX6_groups 2 (some .int) :: ([.fieldLink RX6 7 "MothsShareModel" "book" "[I"] ++ wsX60)
def wsX6_moodBehind : List Cond := .code yX6_moodBehind cX6_moodBehind 4 (some .int) :: ([.methodLink RX6 178 yX6_pleases, .instanceMethod yX6_pleases, .selects RX6 yX6_pleases yX6_pleases, .initialized RX6, .code yX6_pleases cX6_pleases 4 (some .boolean), .fieldLink RX6 7 "MothsShareModel" "book" "[I", .methodLink RX6 86 yX6_ofBolt, .instanceMethod yX6_ofBolt, .selects RX6 yX6_ofBolt yX6_ofBolt, .code yX6_ofBolt cX6_ofBolt 3 (some .int), .methodLink RX6 96 yX6_wants, .instanceMethod yX6_wants, .selects RX6 yX6_wants yX6_wants, .code yX6_wants cX6_wants 7 (some .int)] ++ wsX60)
def wsX6_cheapestBy_r1 : List Cond := [Cond.fieldLink RX6 35 "MothsShareModel" "row" "[I", Cond.fieldLink RX6 7 "MothsShareModel" "book" "[I", Cond.fieldLink RX6 32 "MothsShareModel" "best" "[I", Cond.methodLink RX6 181 yX6_groups, Cond.instanceMethod yX6_groups, Cond.selects RX6 yX6_groups yX6_groups, Cond.initialized RX6, Cond.code yX6_groups cX6_groups 2 (some .int), Cond.methodLink RX6 93 yX6_isBolt, Cond.instanceMethod yX6_isBolt, Cond.selects RX6 yX6_isBolt yX6_isBolt, Cond.code yX6_isBolt cX6_isBolt 2 (some .boolean), Cond.methodLink RX6 56 yX6_in, Cond.static yX6_in, Cond.code yX6_in cX6_in 6 (some .boolean), Cond.methodLink RX6 184 yX6_moodBehind, Cond.instanceMethod yX6_moodBehind, Cond.selects RX6 yX6_moodBehind yX6_moodBehind, Cond.code yX6_moodBehind cX6_moodBehind 4 (some .int), Cond.methodLink RX6 178 yX6_pleases, Cond.instanceMethod yX6_pleases, Cond.selects RX6 yX6_pleases yX6_pleases, Cond.code yX6_pleases cX6_pleases 4 (some .boolean), Cond.methodLink RX6 86 yX6_ofBolt]
def wsX6_cheapestBy_r2 : List Cond := [Cond.instanceMethod yX6_ofBolt, Cond.selects RX6 yX6_ofBolt yX6_ofBolt, Cond.code yX6_ofBolt cX6_ofBolt 3 (some .int), Cond.methodLink RX6 96 yX6_wants, Cond.instanceMethod yX6_wants, Cond.selects RX6 yX6_wants yX6_wants, Cond.code yX6_wants cX6_wants 7 (some .int)]
def wsX6_cheapestBy : List Cond := .code yX6_cheapestBy cX6_cheapestBy 11 (some .int) :: ((wsX6_cheapestBy_r1 ++ wsX6_cheapestBy_r2) ++ wsX60)
def wsX6_cheapest_r1 : List Cond := [Cond.constantLong RX6 187 (-1), Cond.fieldLink RX6 7 "MothsShareModel" "book" "[I", Cond.fieldLink RX6 32 "MothsShareModel" "best" "[I", Cond.methodLink RX6 181 yX6_groups, Cond.instanceMethod yX6_groups, Cond.selects RX6 yX6_groups yX6_groups, Cond.initialized RX6, Cond.code yX6_groups cX6_groups 2 (some .int), Cond.methodLink RX6 56 yX6_in, Cond.static yX6_in, Cond.code yX6_in cX6_in 6 (some .boolean), Cond.methodLink RX6 52 yX6_refuses, Cond.instanceMethod yX6_refuses, Cond.selects RX6 yX6_refuses yX6_refuses, Cond.code yX6_refuses cX6_refuses 3 (some .int), Cond.fieldLink RX6 23 "MothsShareModel" "refused" "[I", Cond.fieldLink RX6 48 "MothsShareModel" "quiet" "Z", Cond.methodLink RX6 189 yX6_cheapestBy, Cond.instanceMethod yX6_cheapestBy, Cond.selects RX6 yX6_cheapestBy yX6_cheapestBy, Cond.code yX6_cheapestBy cX6_cheapestBy 11 (some .int), Cond.fieldLink RX6 35 "MothsShareModel" "row" "[I", Cond.methodLink RX6 93 yX6_isBolt, Cond.instanceMethod yX6_isBolt]
def wsX6_cheapest_r2 : List Cond := [Cond.selects RX6 yX6_isBolt yX6_isBolt, Cond.code yX6_isBolt cX6_isBolt 2 (some .boolean), Cond.methodLink RX6 184 yX6_moodBehind, Cond.instanceMethod yX6_moodBehind, Cond.selects RX6 yX6_moodBehind yX6_moodBehind, Cond.code yX6_moodBehind cX6_moodBehind 4 (some .int), Cond.methodLink RX6 178 yX6_pleases, Cond.instanceMethod yX6_pleases, Cond.selects RX6 yX6_pleases yX6_pleases, Cond.code yX6_pleases cX6_pleases 4 (some .boolean), Cond.methodLink RX6 86 yX6_ofBolt, Cond.instanceMethod yX6_ofBolt, Cond.selects RX6 yX6_ofBolt yX6_ofBolt, Cond.code yX6_ofBolt cX6_ofBolt 3 (some .int), Cond.methodLink RX6 96 yX6_wants, Cond.instanceMethod yX6_wants, Cond.selects RX6 yX6_wants yX6_wants, Cond.code yX6_wants cX6_wants 7 (some .int)]
def wsX6_cheapest : List Cond := .code yX6_cheapest cX6_cheapest 3 (some .int) :: ((wsX6_cheapest_r1 ++ wsX6_cheapest_r2) ++ wsX60)
def wsX6_number_r1 : List Cond := [Cond.methodLink RX6 189 yX6_cheapestBy, Cond.instanceMethod yX6_cheapestBy, Cond.selects RX6 yX6_cheapestBy yX6_cheapestBy, Cond.initialized RX6, Cond.code yX6_cheapestBy cX6_cheapestBy 11 (some .int), Cond.fieldLink RX6 35 "MothsShareModel" "row" "[I", Cond.fieldLink RX6 7 "MothsShareModel" "book" "[I", Cond.fieldLink RX6 32 "MothsShareModel" "best" "[I", Cond.methodLink RX6 181 yX6_groups, Cond.instanceMethod yX6_groups, Cond.selects RX6 yX6_groups yX6_groups, Cond.code yX6_groups cX6_groups 2 (some .int), Cond.methodLink RX6 93 yX6_isBolt, Cond.instanceMethod yX6_isBolt, Cond.selects RX6 yX6_isBolt yX6_isBolt, Cond.code yX6_isBolt cX6_isBolt 2 (some .boolean), Cond.methodLink RX6 56 yX6_in, Cond.static yX6_in, Cond.code yX6_in cX6_in 6 (some .boolean), Cond.methodLink RX6 184 yX6_moodBehind, Cond.instanceMethod yX6_moodBehind, Cond.selects RX6 yX6_moodBehind yX6_moodBehind, Cond.code yX6_moodBehind cX6_moodBehind 4 (some .int), Cond.methodLink RX6 178 yX6_pleases]
def wsX6_number_r2 : List Cond := [Cond.instanceMethod yX6_pleases, Cond.selects RX6 yX6_pleases yX6_pleases, Cond.code yX6_pleases cX6_pleases 4 (some .boolean), Cond.methodLink RX6 86 yX6_ofBolt, Cond.instanceMethod yX6_ofBolt, Cond.selects RX6 yX6_ofBolt yX6_ofBolt, Cond.code yX6_ofBolt cX6_ofBolt 3 (some .int), Cond.methodLink RX6 96 yX6_wants, Cond.instanceMethod yX6_wants, Cond.selects RX6 yX6_wants yX6_wants, Cond.code yX6_wants cX6_wants 7 (some .int)]
def wsX6_number : List Cond := .code yX6_number cX6_number 5 (some .int) :: ((wsX6_number_r1 ++ wsX6_number_r2) ++ wsX60)
def wsX6_stands_r1 : List Cond := [Cond.fieldLink RX6 7 "MothsShareModel" "book" "[I", Cond.constantLong RX6 195 (20), Cond.fieldLink RX6 32 "MothsShareModel" "best" "[I", Cond.methodLink RX6 189 yX6_cheapestBy, Cond.instanceMethod yX6_cheapestBy, Cond.selects RX6 yX6_cheapestBy yX6_cheapestBy, Cond.initialized RX6, Cond.code yX6_cheapestBy cX6_cheapestBy 11 (some .int), Cond.fieldLink RX6 35 "MothsShareModel" "row" "[I", Cond.methodLink RX6 181 yX6_groups, Cond.instanceMethod yX6_groups, Cond.selects RX6 yX6_groups yX6_groups, Cond.code yX6_groups cX6_groups 2 (some .int), Cond.methodLink RX6 93 yX6_isBolt, Cond.instanceMethod yX6_isBolt, Cond.selects RX6 yX6_isBolt yX6_isBolt, Cond.code yX6_isBolt cX6_isBolt 2 (some .boolean), Cond.methodLink RX6 56 yX6_in, Cond.static yX6_in, Cond.code yX6_in cX6_in 6 (some .boolean), Cond.methodLink RX6 184 yX6_moodBehind, Cond.instanceMethod yX6_moodBehind, Cond.selects RX6 yX6_moodBehind yX6_moodBehind, Cond.code yX6_moodBehind cX6_moodBehind 4 (some .int)]
def wsX6_stands_r2 : List Cond := [Cond.methodLink RX6 178 yX6_pleases, Cond.instanceMethod yX6_pleases, Cond.selects RX6 yX6_pleases yX6_pleases, Cond.code yX6_pleases cX6_pleases 4 (some .boolean), Cond.methodLink RX6 86 yX6_ofBolt, Cond.instanceMethod yX6_ofBolt, Cond.selects RX6 yX6_ofBolt yX6_ofBolt, Cond.code yX6_ofBolt cX6_ofBolt 3 (some .int), Cond.methodLink RX6 96 yX6_wants, Cond.instanceMethod yX6_wants, Cond.selects RX6 yX6_wants yX6_wants, Cond.code yX6_wants cX6_wants 7 (some .int), Cond.methodLink RX6 192 yX6_no, Cond.instanceMethod yX6_no, Cond.selects RX6 yX6_no yX6_no, Cond.code yX6_no cX6_no 1 (some .int), Cond.methodLink RX6 52 yX6_refuses, Cond.instanceMethod yX6_refuses, Cond.selects RX6 yX6_refuses yX6_refuses, Cond.code yX6_refuses cX6_refuses 3 (some .int), Cond.fieldLink RX6 23 "MothsShareModel" "refused" "[I", Cond.fieldLink RX6 48 "MothsShareModel" "quiet" "Z", Cond.methodLink RX6 197 yX6_keeps, Cond.instanceMethod yX6_keeps]
def wsX6_stands_r3 : List Cond := [Cond.selects RX6 yX6_keeps yX6_keeps, Cond.code yX6_keeps cX6_keeps 7 (some .int), Cond.fieldLink RX6 64 "MothsShareModel" "above" "J", Cond.fieldLink RX6 41 "MothsShareModel" "below" "J", Cond.methodLink RX6 60 yX6_divisor, Cond.static yX6_divisor, Cond.code yX6_divisor cX6_divisor 10 (some .long)]
def wsX6_stands : List Cond := .code yX6_stands cX6_stands 7 (some .int) :: ((wsX6_stands_r1 ++ (wsX6_stands_r2 ++ wsX6_stands_r3)) ++ wsX60)
def wsX6_moodNow : List Cond := .code yX6_moodNow cX6_moodNow 1 (some .int) :: ([.fieldLink RX6 7 "MothsShareModel" "book" "[I"] ++ wsX60)
def wsX6_isNext : List Cond := .code yX6_isNext cX6_isNext 1 (some .boolean) :: ([.fieldLink RX6 7 "MothsShareModel" "book" "[I", .methodLink RX6 201 yX6_moodNow, .instanceMethod yX6_moodNow, .selects RX6 yX6_moodNow yX6_moodNow, .initialized RX6, .code yX6_moodNow cX6_moodNow 1 (some .int), .methodLink RX6 181 yX6_groups, .instanceMethod yX6_groups, .selects RX6 yX6_groups yX6_groups, .code yX6_groups cX6_groups 2 (some .int)] ++ wsX60)
def wsX6_give_r1 : List Cond := [Cond.fieldLink RX6 7 "MothsShareModel" "book" "[I", Cond.methodLink RX6 93 yX6_isBolt, Cond.instanceMethod yX6_isBolt, Cond.selects RX6 yX6_isBolt yX6_isBolt, Cond.initialized RX6, Cond.code yX6_isBolt cX6_isBolt 2 (some .boolean), Cond.methodLink RX6 56 yX6_in, Cond.static yX6_in, Cond.code yX6_in cX6_in 6 (some .boolean), Cond.methodLink RX6 204 yX6_isNext, Cond.instanceMethod yX6_isNext, Cond.selects RX6 yX6_isNext yX6_isNext, Cond.code yX6_isNext cX6_isNext 1 (some .boolean), Cond.methodLink RX6 201 yX6_moodNow, Cond.instanceMethod yX6_moodNow, Cond.selects RX6 yX6_moodNow yX6_moodNow, Cond.code yX6_moodNow cX6_moodNow 1 (some .int), Cond.methodLink RX6 181 yX6_groups, Cond.instanceMethod yX6_groups, Cond.selects RX6 yX6_groups yX6_groups, Cond.code yX6_groups cX6_groups 2 (some .int), Cond.methodLink RX6 71 yX6_bad, Cond.instanceMethod yX6_bad, Cond.selects RX6 yX6_bad yX6_bad]
def wsX6_give_r2 : List Cond := [Cond.code yX6_bad cX6_bad 1 (some .int), Cond.methodLink RX6 52 yX6_refuses, Cond.instanceMethod yX6_refuses, Cond.selects RX6 yX6_refuses yX6_refuses, Cond.code yX6_refuses cX6_refuses 3 (some .int), Cond.fieldLink RX6 23 "MothsShareModel" "refused" "[I", Cond.fieldLink RX6 48 "MothsShareModel" "quiet" "Z", Cond.methodLink RX6 192 yX6_no, Cond.instanceMethod yX6_no, Cond.selects RX6 yX6_no yX6_no, Cond.code yX6_no cX6_no 1 (some .int), Cond.methodLink RX6 184 yX6_moodBehind, Cond.instanceMethod yX6_moodBehind, Cond.selects RX6 yX6_moodBehind yX6_moodBehind, Cond.code yX6_moodBehind cX6_moodBehind 4 (some .int), Cond.methodLink RX6 178 yX6_pleases, Cond.instanceMethod yX6_pleases, Cond.selects RX6 yX6_pleases yX6_pleases, Cond.code yX6_pleases cX6_pleases 4 (some .boolean), Cond.methodLink RX6 86 yX6_ofBolt, Cond.instanceMethod yX6_ofBolt, Cond.selects RX6 yX6_ofBolt yX6_ofBolt, Cond.code yX6_ofBolt cX6_ofBolt 3 (some .int), Cond.methodLink RX6 96 yX6_wants]
def wsX6_give_r3 : List Cond := [Cond.instanceMethod yX6_wants, Cond.selects RX6 yX6_wants yX6_wants, Cond.code yX6_wants cX6_wants 7 (some .int)]
def wsX6_give : List Cond := .code yX6_give cX6_give 4 (some .int) :: ((wsX6_give_r1 ++ (wsX6_give_r2 ++ wsX6_give_r3)) ++ wsX60)
def wsX6_undo : List Cond := .code yX6_undo cX6_undo 1 (some .int) :: ([.fieldLink RX6 7 "MothsShareModel" "book" "[I", .methodLink RX6 192 yX6_no, .instanceMethod yX6_no, .selects RX6 yX6_no yX6_no, .initialized RX6, .code yX6_no cX6_no 1 (some .int), .methodLink RX6 52 yX6_refuses, .instanceMethod yX6_refuses, .selects RX6 yX6_refuses yX6_refuses, .code yX6_refuses cX6_refuses 3 (some .int), .fieldLink RX6 23 "MothsShareModel" "refused" "[I", .fieldLink RX6 48 "MothsShareModel" "quiet" "Z"] ++ wsX60)
def wsX6_givenUp : List Cond := .code yX6_givenUp cX6_givenUp 3 (some .int) :: ([.fieldLink RX6 7 "MothsShareModel" "book" "[I"] ++ wsX60)
def wsX6_now_r1 : List Cond := [Cond.constantLong RX6 67 (3), Cond.fieldLink RX6 7 "MothsShareModel" "book" "[I", Cond.methodLink RX6 56 yX6_in, Cond.static yX6_in, Cond.initialized RX6, Cond.code yX6_in cX6_in 6 (some .boolean), Cond.methodLink RX6 71 yX6_bad, Cond.instanceMethod yX6_bad, Cond.selects RX6 yX6_bad yX6_bad, Cond.code yX6_bad cX6_bad 1 (some .int), Cond.methodLink RX6 52 yX6_refuses, Cond.instanceMethod yX6_refuses, Cond.selects RX6 yX6_refuses yX6_refuses, Cond.code yX6_refuses cX6_refuses 3 (some .int), Cond.fieldLink RX6 23 "MothsShareModel" "refused" "[I", Cond.fieldLink RX6 48 "MothsShareModel" "quiet" "Z", Cond.methodLink RX6 207 yX6_givenUp, Cond.instanceMethod yX6_givenUp, Cond.selects RX6 yX6_givenUp yX6_givenUp, Cond.code yX6_givenUp cX6_givenUp 3 (some .int), Cond.methodLink RX6 86 yX6_ofBolt, Cond.instanceMethod yX6_ofBolt, Cond.selects RX6 yX6_ofBolt yX6_ofBolt, Cond.code yX6_ofBolt cX6_ofBolt 3 (some .int)]
def wsX6_now_r2 : List Cond := [Cond.methodLink RX6 201 yX6_moodNow, Cond.instanceMethod yX6_moodNow, Cond.selects RX6 yX6_moodNow yX6_moodNow, Cond.code yX6_moodNow cX6_moodNow 1 (some .int)]
def wsX6_now : List Cond := .code yX6_now cX6_now 4 (some .int) :: ((wsX6_now_r1 ++ wsX6_now_r2) ++ wsX60)
def wsX6_eaten_r1 : List Cond := [Cond.fieldLink RX6 7 "MothsShareModel" "book" "[I", Cond.methodLink RX6 89 yX6_isMoth, Cond.instanceMethod yX6_isMoth, Cond.selects RX6 yX6_isMoth yX6_isMoth, Cond.initialized RX6, Cond.code yX6_isMoth cX6_isMoth 2 (some .boolean), Cond.methodLink RX6 56 yX6_in, Cond.static yX6_in, Cond.code yX6_in cX6_in 6 (some .boolean), Cond.methodLink RX6 52 yX6_refuses, Cond.instanceMethod yX6_refuses, Cond.selects RX6 yX6_refuses yX6_refuses, Cond.code yX6_refuses cX6_refuses 3 (some .int), Cond.fieldLink RX6 23 "MothsShareModel" "refused" "[I", Cond.fieldLink RX6 48 "MothsShareModel" "quiet" "Z", Cond.methodLink RX6 201 yX6_moodNow, Cond.instanceMethod yX6_moodNow, Cond.selects RX6 yX6_moodNow yX6_moodNow, Cond.code yX6_moodNow cX6_moodNow 1 (some .int), Cond.methodLink RX6 207 yX6_givenUp, Cond.instanceMethod yX6_givenUp, Cond.selects RX6 yX6_givenUp yX6_givenUp, Cond.code yX6_givenUp cX6_givenUp 3 (some .int), Cond.methodLink RX6 86 yX6_ofBolt]
def wsX6_eaten_r2 : List Cond := [Cond.instanceMethod yX6_ofBolt, Cond.selects RX6 yX6_ofBolt yX6_ofBolt, Cond.code yX6_ofBolt cX6_ofBolt 3 (some .int), Cond.methodLink RX6 96 yX6_wants, Cond.instanceMethod yX6_wants, Cond.selects RX6 yX6_wants yX6_wants, Cond.code yX6_wants cX6_wants 7 (some .int)]
def wsX6_eaten : List Cond := .code yX6_eaten cX6_eaten 10 (some .int) :: ((wsX6_eaten_r1 ++ wsX6_eaten_r2) ++ wsX60)
def wsX6_drawn_r1 : List Cond := [Cond.constantLong RX6 210 (999999), Cond.fieldLink RX6 7 "MothsShareModel" "book" "[I", Cond.constantLong RX6 212 (1103515245), Cond.constantLong RX6 214 (12345), Cond.constantLong RX6 216 (2147483648), Cond.constantLong RX6 218 (65536), Cond.constantLong RX6 195 (20), Cond.fieldLink RX6 32 "MothsShareModel" "best" "[I", Cond.methodLink RX6 56 yX6_in, Cond.static yX6_in, Cond.initialized RX6, Cond.code yX6_in cX6_in 6 (some .boolean), Cond.methodLink RX6 71 yX6_bad, Cond.instanceMethod yX6_bad, Cond.selects RX6 yX6_bad yX6_bad, Cond.code yX6_bad cX6_bad 1 (some .int), Cond.methodLink RX6 52 yX6_refuses, Cond.instanceMethod yX6_refuses, Cond.selects RX6 yX6_refuses yX6_refuses, Cond.code yX6_refuses cX6_refuses 3 (some .int), Cond.fieldLink RX6 23 "MothsShareModel" "refused" "[I", Cond.fieldLink RX6 48 "MothsShareModel" "quiet" "Z", Cond.methodLink RX6 189 yX6_cheapestBy, Cond.instanceMethod yX6_cheapestBy]
def wsX6_drawn_r2 : List Cond := [Cond.selects RX6 yX6_cheapestBy yX6_cheapestBy, Cond.code yX6_cheapestBy cX6_cheapestBy 11 (some .int), Cond.fieldLink RX6 35 "MothsShareModel" "row" "[I", Cond.methodLink RX6 181 yX6_groups, Cond.instanceMethod yX6_groups, Cond.selects RX6 yX6_groups yX6_groups, Cond.code yX6_groups cX6_groups 2 (some .int), Cond.methodLink RX6 93 yX6_isBolt, Cond.instanceMethod yX6_isBolt, Cond.selects RX6 yX6_isBolt yX6_isBolt, Cond.code yX6_isBolt cX6_isBolt 2 (some .boolean), Cond.methodLink RX6 184 yX6_moodBehind, Cond.instanceMethod yX6_moodBehind, Cond.selects RX6 yX6_moodBehind yX6_moodBehind, Cond.code yX6_moodBehind cX6_moodBehind 4 (some .int), Cond.methodLink RX6 178 yX6_pleases, Cond.instanceMethod yX6_pleases, Cond.selects RX6 yX6_pleases yX6_pleases, Cond.code yX6_pleases cX6_pleases 4 (some .boolean), Cond.methodLink RX6 86 yX6_ofBolt, Cond.instanceMethod yX6_ofBolt, Cond.selects RX6 yX6_ofBolt yX6_ofBolt, Cond.code yX6_ofBolt cX6_ofBolt 3 (some .int), Cond.methodLink RX6 96 yX6_wants]
def wsX6_drawn_r3 : List Cond := [Cond.instanceMethod yX6_wants, Cond.selects RX6 yX6_wants yX6_wants, Cond.code yX6_wants cX6_wants 7 (some .int), Cond.methodLink RX6 192 yX6_no, Cond.instanceMethod yX6_no, Cond.selects RX6 yX6_no yX6_no, Cond.code yX6_no cX6_no 1 (some .int)]
def wsX6_drawn : List Cond := .code yX6_drawn cX6_drawn 6 (some .int) :: ((wsX6_drawn_r1 ++ (wsX6_drawn_r2 ++ wsX6_drawn_r3)) ++ wsX60)
def wsX6_bites : List Cond := .code yX6_bites cX6_bites 3 (some .int) :: ([.methodLink RX6 86 yX6_ofBolt, .instanceMethod yX6_ofBolt, .selects RX6 yX6_ofBolt yX6_ofBolt, .initialized RX6, .code yX6_ofBolt cX6_ofBolt 3 (some .int), .fieldLink RX6 7 "MothsShareModel" "book" "[I", .methodLink RX6 96 yX6_wants, .instanceMethod yX6_wants, .selects RX6 yX6_wants yX6_wants, .code yX6_wants cX6_wants 7 (some .int)] ++ wsX60)
def wsX6_finds : List Cond := .code yX6_finds cX6_finds 6 none :: ([.fieldLink RX6 220 "MothsShareModel" "sets" "I", .fieldLink RX6 223 "MothsShareModel" "leastSet" "I", .fieldLink RX6 7 "MothsShareModel" "book" "[I", .methodLink RX6 226 yX6_bites, .instanceMethod yX6_bites, .selects RX6 yX6_bites yX6_bites, .initialized RX6, .code yX6_bites cX6_bites 3 (some .int), .methodLink RX6 86 yX6_ofBolt, .instanceMethod yX6_ofBolt, .selects RX6 yX6_ofBolt yX6_ofBolt, .code yX6_ofBolt cX6_ofBolt 3 (some .int), .methodLink RX6 96 yX6_wants, .instanceMethod yX6_wants, .selects RX6 yX6_wants yX6_wants, .code yX6_wants cX6_wants 7 (some .int)] ++ wsX60)
def wsX6_byWhom_r1 : List Cond := [Cond.fieldLink RX6 220 "MothsShareModel" "sets" "I", Cond.fieldLink RX6 223 "MothsShareModel" "leastSet" "I", Cond.methodLink RX6 56 yX6_in, Cond.static yX6_in, Cond.initialized RX6, Cond.code yX6_in cX6_in 6 (some .boolean), Cond.methodLink RX6 71 yX6_bad, Cond.instanceMethod yX6_bad, Cond.selects RX6 yX6_bad yX6_bad, Cond.code yX6_bad cX6_bad 1 (some .int), Cond.methodLink RX6 52 yX6_refuses, Cond.instanceMethod yX6_refuses, Cond.selects RX6 yX6_refuses yX6_refuses, Cond.code yX6_refuses cX6_refuses 3 (some .int), Cond.fieldLink RX6 23 "MothsShareModel" "refused" "[I", Cond.fieldLink RX6 48 "MothsShareModel" "quiet" "Z", Cond.methodLink RX6 229 yX6_finds, Cond.instanceMethod yX6_finds, Cond.selects RX6 yX6_finds yX6_finds, Cond.code yX6_finds cX6_finds 6 none, Cond.fieldLink RX6 7 "MothsShareModel" "book" "[I", Cond.methodLink RX6 226 yX6_bites, Cond.instanceMethod yX6_bites, Cond.selects RX6 yX6_bites yX6_bites]
def wsX6_byWhom_r2 : List Cond := [Cond.code yX6_bites cX6_bites 3 (some .int), Cond.methodLink RX6 86 yX6_ofBolt, Cond.instanceMethod yX6_ofBolt, Cond.selects RX6 yX6_ofBolt yX6_ofBolt, Cond.code yX6_ofBolt cX6_ofBolt 3 (some .int), Cond.methodLink RX6 96 yX6_wants, Cond.instanceMethod yX6_wants, Cond.selects RX6 yX6_wants yX6_wants, Cond.code yX6_wants cX6_wants 7 (some .int), Cond.methodLink RX6 192 yX6_no, Cond.instanceMethod yX6_no, Cond.selects RX6 yX6_no yX6_no, Cond.code yX6_no cX6_no 1 (some .int)]
def wsX6_byWhom : List Cond := .code yX6_byWhom cX6_byWhom 2 (some .int) :: ((wsX6_byWhom_r1 ++ wsX6_byWhom_r2) ++ wsX60)
def wsX6_mouth_r1 : List Cond := [Cond.fieldLink RX6 220 "MothsShareModel" "sets" "I", Cond.fieldLink RX6 7 "MothsShareModel" "book" "[I", Cond.fieldLink RX6 223 "MothsShareModel" "leastSet" "I", Cond.methodLink RX6 93 yX6_isBolt, Cond.instanceMethod yX6_isBolt, Cond.selects RX6 yX6_isBolt yX6_isBolt, Cond.initialized RX6, Cond.code yX6_isBolt cX6_isBolt 2 (some .boolean), Cond.methodLink RX6 56 yX6_in, Cond.static yX6_in, Cond.code yX6_in cX6_in 6 (some .boolean), Cond.methodLink RX6 86 yX6_ofBolt, Cond.instanceMethod yX6_ofBolt, Cond.selects RX6 yX6_ofBolt yX6_ofBolt, Cond.code yX6_ofBolt cX6_ofBolt 3 (some .int), Cond.methodLink RX6 71 yX6_bad, Cond.instanceMethod yX6_bad, Cond.selects RX6 yX6_bad yX6_bad, Cond.code yX6_bad cX6_bad 1 (some .int), Cond.methodLink RX6 52 yX6_refuses, Cond.instanceMethod yX6_refuses, Cond.selects RX6 yX6_refuses yX6_refuses, Cond.code yX6_refuses cX6_refuses 3 (some .int), Cond.fieldLink RX6 23 "MothsShareModel" "refused" "[I"]
def wsX6_mouth_r2 : List Cond := [Cond.fieldLink RX6 48 "MothsShareModel" "quiet" "Z", Cond.methodLink RX6 229 yX6_finds, Cond.instanceMethod yX6_finds, Cond.selects RX6 yX6_finds yX6_finds, Cond.code yX6_finds cX6_finds 6 none, Cond.methodLink RX6 226 yX6_bites, Cond.instanceMethod yX6_bites, Cond.selects RX6 yX6_bites yX6_bites, Cond.code yX6_bites cX6_bites 3 (some .int), Cond.methodLink RX6 96 yX6_wants, Cond.instanceMethod yX6_wants, Cond.selects RX6 yX6_wants yX6_wants, Cond.code yX6_wants cX6_wants 7 (some .int), Cond.methodLink RX6 192 yX6_no, Cond.instanceMethod yX6_no, Cond.selects RX6 yX6_no yX6_no, Cond.code yX6_no cX6_no 1 (some .int)]
def wsX6_mouth : List Cond := .code yX6_mouth cX6_mouth 6 (some .int) :: ((wsX6_mouth_r1 ++ wsX6_mouth_r2) ++ wsX60)
def wsX6_cedar : List Cond := .code yX6_cedar cX6_cedar 7 (some .int) :: ([.constantLong RX6 232 (40), .fieldLink RX6 7 "MothsShareModel" "book" "[I", .methodLink RX6 56 yX6_in, .static yX6_in, .initialized RX6, .code yX6_in cX6_in 6 (some .boolean), .methodLink RX6 71 yX6_bad, .instanceMethod yX6_bad, .selects RX6 yX6_bad yX6_bad, .code yX6_bad cX6_bad 1 (some .int), .methodLink RX6 52 yX6_refuses, .instanceMethod yX6_refuses, .selects RX6 yX6_refuses yX6_refuses, .code yX6_refuses cX6_refuses 3 (some .int), .fieldLink RX6 23 "MothsShareModel" "refused" "[I", .fieldLink RX6 48 "MothsShareModel" "quiet" "Z", .methodLink RX6 86 yX6_ofBolt, .instanceMethod yX6_ofBolt, .selects RX6 yX6_ofBolt yX6_ofBolt, .code yX6_ofBolt cX6_ofBolt 3 (some .int), .methodLink RX6 96 yX6_wants, .instanceMethod yX6_wants, .selects RX6 yX6_wants yX6_wants, .code yX6_wants cX6_wants 7 (some .int)] ++ wsX60)
def wsX6_oracle : List Cond := .code yX6_oracle cX6_oracle 8 (some .int) :: ([.constantLong RX6 234 (30), .methodLink RX6 56 yX6_in, .static yX6_in, .initialized RX6, .code yX6_in cX6_in 6 (some .boolean), .methodLink RX6 71 yX6_bad, .instanceMethod yX6_bad, .selects RX6 yX6_bad yX6_bad, .code yX6_bad cX6_bad 1 (some .int), .methodLink RX6 52 yX6_refuses, .instanceMethod yX6_refuses, .selects RX6 yX6_refuses yX6_refuses, .code yX6_refuses cX6_refuses 3 (some .int), .fieldLink RX6 23 "MothsShareModel" "refused" "[I", .fieldLink RX6 48 "MothsShareModel" "quiet" "Z", .methodLink RX6 197 yX6_keeps, .instanceMethod yX6_keeps, .selects RX6 yX6_keeps yX6_keeps, .code yX6_keeps cX6_keeps 7 (some .int), .fieldLink RX6 64 "MothsShareModel" "above" "J", .fieldLink RX6 41 "MothsShareModel" "below" "J", .methodLink RX6 60 yX6_divisor, .static yX6_divisor, .code yX6_divisor cX6_divisor 10 (some .long)] ++ wsX60)
def wsX6_tailor : List Cond := .code yX6_tailor cX6_tailor 9 (some .int) :: ([.constantLong RX6 236 (999), .constantLong RX6 80 (9), .fieldLink RX6 7 "MothsShareModel" "book" "[I", .methodLink RX6 56 yX6_in, .static yX6_in, .initialized RX6, .code yX6_in cX6_in 6 (some .boolean), .methodLink RX6 71 yX6_bad, .instanceMethod yX6_bad, .selects RX6 yX6_bad yX6_bad, .code yX6_bad cX6_bad 1 (some .int), .methodLink RX6 52 yX6_refuses, .instanceMethod yX6_refuses, .selects RX6 yX6_refuses yX6_refuses, .code yX6_refuses cX6_refuses 3 (some .int), .fieldLink RX6 23 "MothsShareModel" "refused" "[I", .fieldLink RX6 48 "MothsShareModel" "quiet" "Z", .methodLink RX6 86 yX6_ofBolt, .instanceMethod yX6_ofBolt, .selects RX6 yX6_ofBolt yX6_ofBolt, .code yX6_ofBolt cX6_ofBolt 3 (some .int)] ++ wsX60)
def wsX6_part : List Cond := .code yX6_part cX6_part 2 (some .long) :: ([.fieldLink RX6 64 "MothsShareModel" "above" "J", .fieldLink RX6 41 "MothsShareModel" "below" "J", .methodLink RX6 71 yX6_bad, .instanceMethod yX6_bad, .selects RX6 yX6_bad yX6_bad, .initialized RX6, .code yX6_bad cX6_bad 1 (some .int), .methodLink RX6 52 yX6_refuses, .instanceMethod yX6_refuses, .selects RX6 yX6_refuses yX6_refuses, .code yX6_refuses cX6_refuses 3 (some .int), .fieldLink RX6 23 "MothsShareModel" "refused" "[I", .fieldLink RX6 48 "MothsShareModel" "quiet" "Z"] ++ wsX60)
def wsX6_image : List Cond := .code yX6_image cX6_image 3 (some .int) :: ([.fieldLink RX6 13 "MothsShareModel" "images" "[I", .fieldLink RX6 7 "MothsShareModel" "book" "[I", .fieldLink RX6 16 "MothsShareModel" "kept" "[Z", .methodLink RX6 56 yX6_in, .static yX6_in, .initialized RX6, .code yX6_in cX6_in 6 (some .boolean), .methodLink RX6 71 yX6_bad, .instanceMethod yX6_bad, .selects RX6 yX6_bad yX6_bad, .code yX6_bad cX6_bad 1 (some .int), .methodLink RX6 52 yX6_refuses, .instanceMethod yX6_refuses, .selects RX6 yX6_refuses yX6_refuses, .code yX6_refuses cX6_refuses 3 (some .int), .fieldLink RX6 23 "MothsShareModel" "refused" "[I", .fieldLink RX6 48 "MothsShareModel" "quiet" "Z"] ++ wsX60)
def wsX6_from : List Cond := .code yX6_from cX6_from 3 (some .int) :: ([.fieldLink RX6 16 "MothsShareModel" "kept" "[Z", .fieldLink RX6 7 "MothsShareModel" "book" "[I", .fieldLink RX6 13 "MothsShareModel" "images" "[I", .methodLink RX6 56 yX6_in, .static yX6_in, .initialized RX6, .code yX6_in cX6_in 6 (some .boolean), .methodLink RX6 71 yX6_bad, .instanceMethod yX6_bad, .selects RX6 yX6_bad yX6_bad, .code yX6_bad cX6_bad 1 (some .int), .methodLink RX6 52 yX6_refuses, .instanceMethod yX6_refuses, .selects RX6 yX6_refuses yX6_refuses, .code yX6_refuses cX6_refuses 3 (some .int), .fieldLink RX6 23 "MothsShareModel" "refused" "[I", .fieldLink RX6 48 "MothsShareModel" "quiet" "Z", .methodLink RX6 192 yX6_no, .instanceMethod yX6_no, .selects RX6 yX6_no yX6_no, .code yX6_no cX6_no 1 (some .int)] ++ wsX60)
def wsX6_status : List Cond := .code yX6_status cX6_status 2 (some .int) :: ([.constantLong RX6 82 (2), .fieldLink RX6 23 "MothsShareModel" "refused" "[I", .methodLink RX6 56 yX6_in, .static yX6_in, .initialized RX6, .code yX6_in cX6_in 6 (some .boolean), .methodLink RX6 52 yX6_refuses, .instanceMethod yX6_refuses, .selects RX6 yX6_refuses yX6_refuses, .code yX6_refuses cX6_refuses 3 (some .int), .fieldLink RX6 48 "MothsShareModel" "quiet" "Z"] ++ wsX60)
def wsX6_countOf : List Cond := .code yX6_countOf cX6_countOf 2 (some .int) :: ([.fieldLink RX6 7 "MothsShareModel" "book" "[I", .fieldLink RX6 102 "MothsShareModel" "typed" "I", .methodLink RX6 181 yX6_groups, .instanceMethod yX6_groups, .selects RX6 yX6_groups yX6_groups, .initialized RX6, .code yX6_groups cX6_groups 2 (some .int)] ++ wsX60)
def wsX6_count_r1 : List Cond := [Cond.constantLong RX6 67 (3), Cond.methodLink RX6 56 yX6_in, Cond.static yX6_in, Cond.initialized RX6, Cond.code yX6_in cX6_in 6 (some .boolean), Cond.methodLink RX6 238 yX6_countOf, Cond.instanceMethod yX6_countOf, Cond.selects RX6 yX6_countOf yX6_countOf, Cond.code yX6_countOf cX6_countOf 2 (some .int), Cond.fieldLink RX6 7 "MothsShareModel" "book" "[I", Cond.fieldLink RX6 102 "MothsShareModel" "typed" "I", Cond.methodLink RX6 181 yX6_groups, Cond.instanceMethod yX6_groups, Cond.selects RX6 yX6_groups yX6_groups, Cond.code yX6_groups cX6_groups 2 (some .int), Cond.methodLink RX6 71 yX6_bad, Cond.instanceMethod yX6_bad, Cond.selects RX6 yX6_bad yX6_bad, Cond.code yX6_bad cX6_bad 1 (some .int), Cond.methodLink RX6 52 yX6_refuses, Cond.instanceMethod yX6_refuses, Cond.selects RX6 yX6_refuses yX6_refuses, Cond.code yX6_refuses cX6_refuses 3 (some .int), Cond.fieldLink RX6 23 "MothsShareModel" "refused" "[I"]
def wsX6_count_r2 : List Cond := [Cond.fieldLink RX6 48 "MothsShareModel" "quiet" "Z"]
def wsX6_count : List Cond := .code yX6_count cX6_count 2 (some .int) :: ((wsX6_count_r1 ++ wsX6_count_r2) ++ wsX60)
def wsX6_mixed : List Cond := .code yX6_mixed cX6_mixed 8 (some .long) :: ([.constantLong RX6 241 (31), .fieldLink RX6 7 "MothsShareModel" "book" "[I"] ++ wsX60)
def wsX6_digest : List Cond := .code yX6_digest cX6_digest 4 (some .long) :: ([.constantLong RX6 243 (691), .constantLong RX6 241 (31), .fieldLink RX6 7 "MothsShareModel" "book" "[I", .fieldLink RX6 64 "MothsShareModel" "above" "J", .fieldLink RX6 41 "MothsShareModel" "below" "J", .methodLink RX6 238 yX6_countOf, .instanceMethod yX6_countOf, .selects RX6 yX6_countOf yX6_countOf, .initialized RX6, .code yX6_countOf cX6_countOf 2 (some .int), .fieldLink RX6 102 "MothsShareModel" "typed" "I", .methodLink RX6 181 yX6_groups, .instanceMethod yX6_groups, .selects RX6 yX6_groups yX6_groups, .code yX6_groups cX6_groups 2 (some .int), .methodLink RX6 245 yX6_mixed, .instanceMethod yX6_mixed, .selects RX6 yX6_mixed yX6_mixed, .code yX6_mixed cX6_mixed 8 (some .long), .methodLink RX6 201 yX6_moodNow, .instanceMethod yX6_moodNow, .selects RX6 yX6_moodNow yX6_moodNow, .code yX6_moodNow cX6_moodNow 1 (some .int)] ++ wsX60)
def wsJ9_max_7cf53 : List Cond := .code yJ9_max_7cf53 cJ9_max_7cf53 2 (some .int) :: ([])
def wsJ9_min_7cf53 : List Cond := .code yJ9_min_7cf53 cJ9_min_7cf53 2 (some .int) :: ([])
abbrev vwCl : List vw_C := [(RX1, TX1, 7), (RX2, TX2, 2), (RX3, TX3, 7), (RX4, TX4, 14), (RX5, TX5, 9), (RX6, TX6, 20)]
end
section
/-! ===== Z: walks over worlds that are lists, numbers as integers ===== -/
def iI (z : Int) : Int32 := Int32.ofInt z
def lL (z : Int) : Int64 := Int64.ofInt z
def vI (z : Int) : Value := .int (iI z)
def vL (z : Int) : Value := .long (lL z)
theorem iI_add (a b : Int) : iI a + iI b = iI (a + b) := (Int32.ofInt_add a b).symm
theorem iI_sub (a b : Int) : iI a - iI b = iI (a - b) := (Int32.ofInt_sub a b).symm
theorem iI_mul (a b : Int) : iI a * iI b = iI (a * b) := (Int32.ofInt_mul a b).symm
theorem lL_add (a b : Int) : lL a + lL b = lL (a + b) := (Int64.ofInt_add a b).symm
theorem lL_sub (a b : Int) : lL a - lL b = lL (a - b) := (Int64.ofInt_sub a b).symm
theorem lL_mul (a b : Int) : lL a * lL b = lL (a * b) := (Int64.ofInt_mul a b).symm
theorem iI_toInt {z : Int} (h : -2147483648 ≤ z ∧ z ≤ 2147483647) : (iI z).toInt = z := Int32.toInt_ofInt_of_le (by omega) (by omega)
theorem lL_toInt {z : Int} (h : -9223372036854775808 ≤ z ∧ z ≤ 9223372036854775807) : (lL z).toInt = z := Int64.toInt_ofInt_of_le (by omega) (by omega)
theorem iI_of (x : Int32) : ∃ z : Int, (-2147483648 ≤ z ∧ z ≤ 2147483647) ∧ x = iI z := ⟨x.toInt, ⟨by have := Int32.le_toInt x; omega, by have := Int32.toInt_lt x; omega⟩, (Int32.ofInt_toInt x).symm⟩
theorem lL_of (x : Int64) : ∃ z : Int, (-9223372036854775808 ≤ z ∧ z ≤ 9223372036854775807) ∧ x = lL z := ⟨x.toInt, ⟨by have := Int64.le_toInt x; omega, by have := Int64.toInt_lt x; omega⟩, (Int64.ofInt_toInt x).symm⟩
theorem iI_lt {a b : Int} (ha : -2147483648 ≤ a ∧ a ≤ 2147483647) (hb : -2147483648 ≤ b ∧ b ≤ 2147483647) : iI a < iI b ↔ a < b := by
  rw [Int32.lt_iff_toInt_lt, iI_toInt ha, iI_toInt hb]
theorem iI_le {a b : Int} (ha : -2147483648 ≤ a ∧ a ≤ 2147483647) (hb : -2147483648 ≤ b ∧ b ≤ 2147483647) : iI a ≤ iI b ↔ a ≤ b := by
  rw [Int32.le_iff_toInt_le, iI_toInt ha, iI_toInt hb]
theorem iI_eq {a b : Int} (ha : -2147483648 ≤ a ∧ a ≤ 2147483647) (hb : -2147483648 ≤ b ∧ b ≤ 2147483647) : iI a = iI b ↔ a = b := by
  rw [← Int32.toInt_inj, iI_toInt ha, iI_toInt hb]
theorem lL_lt {a b : Int} (ha : -9223372036854775808 ≤ a ∧ a ≤ 9223372036854775807) (hb : -9223372036854775808 ≤ b ∧ b ≤ 9223372036854775807) : lL a < lL b ↔ a < b := by
  rw [Int64.lt_iff_toInt_lt, lL_toInt ha, lL_toInt hb]
theorem lL_eq {a b : Int} (ha : -9223372036854775808 ≤ a ∧ a ≤ 9223372036854775807) (hb : -9223372036854775808 ≤ b ∧ b ≤ 9223372036854775807) : lL a = lL b ↔ a = b := by
  rw [← Int64.toInt_inj, lL_toInt ha, lL_toInt hb]
theorem iI_div {a b : Int} (ha : -2147483648 ≤ a ∧ a ≤ 2147483647) (hb : -2147483648 ≤ b ∧ b ≤ 2147483647) : iI a / iI b = iI (a.tdiv b) :=
  (Int32.ofInt_tdiv (by have : Int32.minValue.toInt = -2147483648 := rfl; omega) (by have : Int32.maxValue.toInt = 2147483647 := rfl; omega) (by have : Int32.minValue.toInt = -2147483648 := rfl; omega) (by have : Int32.maxValue.toInt = 2147483647 := rfl; omega)).symm
theorem lL_div {a b : Int} (ha : -9223372036854775808 ≤ a ∧ a ≤ 9223372036854775807) (hb : -9223372036854775808 ≤ b ∧ b ≤ 9223372036854775807) : lL a / lL b = lL (a.tdiv b) :=
  (Int64.ofInt_tdiv (by have : Int64.minValue.toInt = -9223372036854775808 := rfl; omega) (by have : Int64.maxValue.toInt = 9223372036854775807 := rfl; omega) (by have : Int64.minValue.toInt = -9223372036854775808 := rfl; omega) (by have : Int64.maxValue.toInt = 9223372036854775807 := rfl; omega)).symm
theorem tmod_tdiv (a b : Int) : a - a.tdiv b * b = a.tmod b := by
  have h := Int.mul_tdiv_add_tmod a b
  rw [Int.mul_comm] at h
  omega
theorem iI_i2l {a : Int} (ha : -2147483648 ≤ a ∧ a ≤ 2147483647) : (iI a).toInt64 = lL a :=
  Int32.toInt64_ofInt (by have : Int32.minValue.toInt = -2147483648 := rfl; omega) (by have : Int32.maxValue.toInt = 2147483647 := rfl; omega)
theorem lL_l2i (a : Int) : (lL a).toInt32 = iI a := Int64.toInt32_ofInt
theorem iI_clamp {i : Int} (h : -2147483648 ≤ i ∧ i ≤ 2147483647) : (iI i).toNatClampNeg = i.toNat := Int32.toNatClampNeg_ofInt_of_le (by omega) (by omega)
theorem iI_in {i : Int} {N : Nat} (h : 0 ≤ i ∧ i < N) (hN : N ≤ 2147483647) : vp_in (iI i) N := by
  rw [vp_in_iff, iI_toInt (by omega)]
  exact h
theorem iI_cat (a : Int) : (vI a).category = 1 := rfl
-- the cells
def IA (cA : ClassId) (N : Nat) (g : Int → Int) : va_E := .inl (cA, N, .inl (fun j : Nat => iI (g (j : Int))))
def QA (cA : ClassId) (N : Nat) (f : Nat → Option Nat) : va_E := .inl (cA, N, .inr (.inr (.inr (.inr f))))
def OB (ci : Nat) (fs : List Value) : va_E := .inr (ci, fs)
def up (g : Int → Int) (i v : Int) : Int → Int := fun j => if j = i then v else g j
theorem up_eq (g : Int → Int) (i v : Int) : up g i v i = v := by simp [up]
theorem up_ne (g : Int → Int) {i j : Int} (v : Int) (h : j ≠ i) : up g i v j = g j := by simp [up, h]
def zo (ad : Nat → Nat) (b : Nat) : Nat → Nat := fun k => ad (b + k)
def zw : (Nat → Nat) → List va_E → va_W
  | _, [] => []
  | ad, e :: es => (ad 0, e) :: zw (fun k => ad (k + 1)) es
theorem zw_get : ∀ (cs : List va_E) (ad : Nat → Nat) (k : Nat), (zw ad cs)[k]? = (cs[k]?).map (fun e => (ad k, e))
  | [], ad, k => by simp [zw]
  | e :: es, ad, 0 => by simp [zw]
  | e :: es, ad, k + 1 => by simp [zw, zw_get es]
theorem zw_at {cs : List va_E} {ad : Nat → Nat} {k : Nat} {e : va_E} (h : cs[k]? = some e) : (zw ad cs)[k]? = some (ad k, e) := by rw [zw_get, h]; rfl
theorem zw_of {cs : List va_E} {ad : Nat → Nat} {k : Nat} {q : Nat × va_E} (h : (zw ad cs)[k]? = some q) : ∃ e, cs[k]? = some e ∧ q = (ad k, e) := by
  rw [zw_get] at h
  cases hc : cs[k]? with
  | none => rw [hc] at h; cases h
  | some e => rw [hc] at h; exact ⟨e, rfl, (Option.some.inj h).symm⟩
theorem zw_set : ∀ (cs : List va_E) (ad : Nat → Nat) (k : Nat) (e : va_E), (zw ad cs).set k (ad k, e) = zw ad (cs.set k e)
  | [], ad, k, e => by simp [zw]
  | c :: es, ad, 0, e => by simp [zw]
  | c :: es, ad, k + 1, e => by
    have h := zw_set es (fun k => ad (k + 1)) k e
    simp only [zw, List.set_cons_succ]
    exact congrArg _ h
theorem zD_len {A : Nat → Prop} {ad : Nat → Nat} {cs cs' : List va_E} (h : va_D A (zw ad cs)) (hl : cs'.length = cs.length) : va_D A (zw ad cs') := by
  have key : ∀ (k : Nat) (q : Nat × va_E), (zw ad cs')[k]? = some q → ∃ e, (zw ad cs)[k]? = some (ad k, e) ∧ q.1 = ad k := by
    intro k q hq
    obtain ⟨e, he, rfl⟩ := zw_of hq
    have hk : k < cs.length := by rw [← hl]; exact (List.getElem?_eq_some_iff.mp he).1
    exact ⟨cs[k], zw_at (List.getElem?_eq_getElem hk), rfl⟩
  refine ⟨fun i j p q hi hj hpq => ?_, fun k q hq => ?_⟩
  · obtain ⟨e1, h1, p1⟩ := key i p hi
    obtain ⟨e2, h2, p2⟩ := key j q hj
    exact h.1 i j _ _ h1 h2 (by rw [← p1, ← p2]; exact hpq)
  · obtain ⟨e1, h1, p1⟩ := key k q hq
    rw [p1]
    exact h.2 k _ h1
-- the locals
def zl (ls : Array Slot) (nL : Nat) (lv : List (Option Value)) : Prop := ls.size = nL ∧ lv_wf ls ∧ ∀ (i : Nat) (v : Value), lv[i]? = some (some v) → ls[i]? = some (.val v)
def zas (lv : List (Option Value)) : List (Nat × Value) := (List.range lv.length).filterMap (fun i => (lv[i]?).join.map (fun v => (i, v)))
theorem zas_mem {lv : List (Option Value)} {i : Nat} {v : Value} : (i, v) ∈ zas lv ↔ lv[i]? = some (some v) := by
  unfold zas
  rw [List.mem_filterMap]
  constructor
  · rintro ⟨k, -, hk⟩
    cases h : lv[k]? with
    | none => rw [h] at hk; cases hk
    | some o =>
      cases o with
      | none => rw [h] at hk; cases hk
      | some w =>
        rw [h] at hk
        cases hk
        exact h
  · intro h
    exact ⟨i, List.mem_range.mpr (List.getElem?_eq_some_iff.mp h).1, by rw [h]; rfl⟩
theorem zl_has {ls : Array Slot} {nL : Nat} {lv : List (Option Value)} (h : zl ls nL lv) : lv_has ls nL (zas lv) := ⟨h.1, h.2.1, fun q hq => h.2.2 q.1 q.2 (zas_mem.mp hq)⟩
def zok (lv : List (Option Value)) : Nat → Bool
  | 0 => true
  | j + 1 => match lv[j]? with
    | some (some v) => v.category != 2
    | _ => true
theorem zl_set1 {ls : Array Slot} {nL : Nat} {lv : List (Option Value)} {i : Nat} {v : Value} (hz : zok lv i = true) (h : lv_has ls nL ((i, v) :: (zas lv).filter (fun q => !(q.1 == i) && !(q.1 + 1 == i && q.2.category == 2)))) : zl ls nL (lv.set i (some v)) := by
  refine ⟨h.1, h.2.1, fun j w hj => ?_⟩
  by_cases hji : j = i
  · subst hji
    have hl : j < lv.length := by
      have := (List.getElem?_eq_some_iff.mp hj).1
      rwa [List.length_set] at this
    rw [List.getElem?_set_self hl] at hj
    cases hj
    exact h.2.2 (j, v) List.mem_cons_self
  · rw [List.getElem?_set_ne (Ne.symm hji)] at hj
    refine h.2.2 (j, w) (List.mem_cons_of_mem _ (List.mem_filter.mpr ⟨zas_mem.mpr hj, ?_⟩))
    have h2 : ¬ (j + 1 = i ∧ w.category = 2) := by
      rintro ⟨rfl, hw⟩
      simp [zok, hj, hw] at hz
    simp only [Bool.and_eq_true, Bool.not_eq_true', beq_eq_false_iff_ne, ne_eq, Bool.and_eq_false_iff]
    refine ⟨hji, ?_⟩
    by_cases h3 : j + 1 = i
    · right
      exact fun h4 => h2 ⟨h3, h4⟩
    · left
      exact h3
theorem zl_set2 {ls : Array Slot} {nL : Nat} {lv : List (Option Value)} {i : Nat} {v : Value} (hz : zok lv i = true) (h : lv_has ls nL ((i, v) :: (zas lv).filter (fun q => !(q.1 == i) && (!(q.1 == i + 1) && !(q.1 + 1 == i && q.2.category == 2))))) : zl ls nL ((lv.set i (some v)).set (i + 1) none) := by
  refine ⟨h.1, h.2.1, fun j w hj => ?_⟩
  by_cases hj1 : j = i + 1
  · subst hj1
    have hl : i + 1 < (lv.set i (some v)).length := by
      have := (List.getElem?_eq_some_iff.mp hj).1
      rwa [List.length_set] at this
    rw [List.getElem?_set_self hl] at hj
    cases hj
  rw [List.getElem?_set_ne (Ne.symm hj1)] at hj
  by_cases hji : j = i
  · subst hji
    have hl : j < lv.length := by
      have := (List.getElem?_eq_some_iff.mp hj).1
      rwa [List.length_set] at this
    rw [List.getElem?_set_self hl] at hj
    cases hj
    exact h.2.2 (j, v) List.mem_cons_self
  · rw [List.getElem?_set_ne (Ne.symm hji)] at hj
    refine h.2.2 (j, w) (List.mem_cons_of_mem _ (List.mem_filter.mpr ⟨zas_mem.mpr hj, ?_⟩))
    have h2 : ¬ (j + 1 = i ∧ w.category = 2) := by
      rintro ⟨rfl, hw⟩
      simp [zok, hj, hw] at hz
    simp only [Bool.and_eq_true, Bool.not_eq_true', beq_eq_false_iff_ne, ne_eq, Bool.and_eq_false_iff]
    refine ⟨hji, hj1, ?_⟩
    by_cases h3 : j + 1 = i
    · right
      exact fun h4 => h2 ⟨h3, h4⟩
    · left
      exact h3
def zargs (n : Nat) (vs : List Value) : List (Option Value) := (List.range n).map (fun i => ((lv_args 0 vs).find? (fun q => q.1 == i)).map (fun q => q.2))
theorem zargs_mem {n : Nat} {vs : List Value} {i : Nat} {v : Value} (h : (zargs n vs)[i]? = some (some v)) : (i, v) ∈ lv_args 0 vs := by
  unfold zargs at h
  rw [List.getElem?_map] at h
  cases hr : (List.range n)[i]? with
  | none => rw [hr] at h; cases h
  | some k =>
    have hk : k = i := by
      obtain ⟨hl, he⟩ := List.getElem?_eq_some_iff.mp hr
      rw [← he, List.getElem_range]
    subst hk
    rw [hr] at h
    have h := Option.some.inj h
    dsimp only at h
    cases hf : (lv_args 0 vs).find? (fun q => q.1 == k) with
    | none => rw [hf] at h; cases h
    | some q =>
      rw [hf] at h
      have h := Option.some.inj h
      have h1 := List.find?_some hf
      have h2 := List.mem_of_find?_eq_some hf
      have h3 : q.1 = k := by simpa using h1
      rw [← h3, ← h]
      exact h2
-- what every method may lean on: String constants, two statics, the nest mates' links
abbrev zX : Type := va_G × (ClassId × ClassId × ClassId × ClassId) × ((Nat → Nat) × (Nat → Nat))
def tyX (X : zX) : List (ClassId × FieldType) := [(X.2.1.1, .int), (X.2.1.2.1, .byte), (X.2.1.2.2.1, .boolean), (X.2.1.2.2.2, .object "MothsShare$Share")]
def nestF : List (String × Nat × String × String × String) := [("MothsShare$Plan", 34, "MothsShare$Share", "bolts", "I"), ("MothsShare$Plan", 55, "MothsShare$Share", "mood", "I"), ("MothsShare", 198, "MothsShare$Share", "bolts", "I"), ("MothsShare", 201, "MothsShare$Share", "moths", "I"), ("MothsShare", 94, "MothsShare$Share", "each", "I"), ("MothsShare", 122, "MothsShare$Share", "given", "I"), ("MothsShare", 204, "MothsShare$Deed", "length", "I"), ("MothsShare", 182, "MothsShare$Fraction", "above", "J"), ("MothsShare", 186, "MothsShare$Fraction", "below", "J")]
def nestM : List (Nat × MethodName) := [(25, yX3_init), (32, yX1_init), (39, yX2_init)]
def zNW (U : State) : Prop := (∀ q ∈ nestF, va_Nw (.fieldLinkNest q.1 q.2.1 q.2.2.1 q.2.2.2.1 q.2.2.2.2 "MothsShare") U) ∧ ∀ q ∈ nestM, va_Nw (.methodLinkNest "MothsShare" q.1 q.2 "MothsShare") U
theorem zNW.warm {s U : State} (hW : s.WarmedH U.vm) (h : zNW s) : zNW U := ⟨fun q hq => va_Nw.warmF hW (h.1 q hq), fun q hq => va_Nw.warmM hW (h.2 q hq)⟩
theorem zNW.same {u U : State} (hv : u.vm = U.vm) (h : zNW u) : zNW U := ⟨fun q hq => va_Nw.same rfl hv (h.1 q hq), fun q hq => va_Nw.same rfl hv (h.2 q hq)⟩
def strN : List (Nat × String) := [(102, "bolt"), (104, "moth"), (106, "taste"), (108, "each"), (110, "want"), (112, "mood"), (114, "holes")]
def strL : List Nat := [4, 4, 5, 4, 4, 4, 5]
def strB : List (List Int32) := [[98, 111, 108, 116], [109, 111, 116, 104], [116, 97, 115, 116, 101], [101, 97, 99, 104], [119, 97, 110, 116], [109, 111, 111, 100], [104, 111, 108, 101, 115]]
def zEX (X : zX) (A : Nat → Prop) (U : State) (H : Heap) : Prop :=
  vk_S 7 strL strB X.2.2.1 X.2.2.2 A U H ∧ (∀ (i : Nat) (q : Nat × String), strN[i]? = some q → vk_R "MothsShare$Deed" q.1 q.2 (X.2.2.1 i) U) ∧ va_Z "java/lang/String" "COMPACT_STRINGS" "Z" (.int 1) A U H ∧ va_Zq "jdk/internal/util/Preconditions" "SIOOBE_FORMATTER" "Ljava/util/function/BiFunction;" A U H ∧ zNW U
theorem zEX.kept {X : zX} {A : Nat → Prop} {U : State} {H H1 : Heap} (h : zEX X A U H) (hq : ∀ a : Nat, a < H.size → ¬ A a → H1[a]? = H[a]?) : zEX X A U H1 := ⟨h.1.kept hq, h.2.1, h.2.2.1.kept hq, h.2.2.2.1.kept hq, h.2.2.2.2⟩
theorem zEX.narrow {X : zX} {A B : Nat → Prop} {U : State} {H : Heap} (h : zEX X A U H) (hAB : ∀ q, B q → A q) : zEX X B U H := ⟨h.1.narrow hAB, h.2.1, h.2.2.1.narrow hAB, h.2.2.2.1.narrow hAB, h.2.2.2.2⟩
theorem zEX.warm {X : zX} {A : Nat → Prop} {s U : State} {H : Heap} (hW : s.WarmedH U.vm) (h : zEX X A s H) : zEX X A U H := ⟨h.1.moved hW.alike, fun i q hq => (h.2.1 i q hq).warm hW, h.2.2.1.moved hW.alike, h.2.2.2.1.moved hW.alike, h.2.2.2.2.warm hW⟩
theorem zEX.same {X : zX} {A : Nat → Prop} {u U : State} {H : Heap} (hv : u.vm = U.vm) (h : zEX X A u H) : zEX X A U H := by
  have ha : u.vm.Alike U.vm := by rw [hv]; exact Vm.Alike.refl U.vm
  exact ⟨h.1.moved ha, fun i q hq => (h.2.1 i q hq).same hv.symm, h.2.2.1.moved ha, h.2.2.2.1.moved ha, h.2.2.2.2.same hv⟩
-- the walk's own judgement
abbrev zT : Type := (Nat → Nat) → Nat → Nat → Nat → List (Option Value) → List Value → List va_E → Prop
def zD (p : Program) (l : Launch) (e : Env) (R : Room) (s : State) (m : MethodId) (args : Array Value) (below : List Frame) (meth : Method) (c : Code) (X : zX) (A : Nat → Prop) (Q : State → Prop) (nL : Nat) : zT := fun ad kc ks pc lv st cs => ∀ (H : Heap) (locs : List Loc) (ls : Array Slot), va_P X.1 vwCl (zw ad cs) H → va_D A (zw ad cs) → va_S A s.heap H locs → zl ls nL lv → W p l e R s m args below meth c H locs kc ks Q (F0 m pc ls st)
def zG (Z : zT) (l : Launch) (X : zX) (R : Room) (Ts : List Cond) (cc : ByteArray) (nL : Nat) (own nm : String) (ret : Option FieldType) (mc ms : Nat) (Rt : (Nat → Nat) → Option Value → List va_E → Prop) : Prop :=
  ∃ (p : Program) (e : Env) (s : State) (m : MethodId) (args : Array Value) (below : List Frame) (meth : Method) (c : Code) (A : Nat → Prop) (Q : State → Prop),
    p.tables.exec = Jvm.exec ∧ c.code = cc ∧ c.maxLocals = nL ∧ meth.locks = false ∧ meth.sig.returnType = ret ∧ meth.name = nm ∧ (∀ w ∈ Ts, w.before args s = true) ∧ s.vm.findClass own = some m.cls ∧ va_K X.1 vwCl (tyX X) s ∧ (∀ q : Nat, s.heap.size ≤ q → A q) ∧ zEX X A s s.heap ∧
    (∀ (ad : Nat → Nat) (ov : Option Value) (cs : List va_E), Rt ad ov cs → ∃ Qc : Array Value → State → Outcome → State → Prop, Q = MQ below Qc args s mc ms A ∧ ∀ (H : Heap) (locs : List Loc) (t : State), va_P X.1 vwCl (zw ad cs) H → va_D A (zw ad cs) → va_S A s.heap H locs → t.heap = H → s.WarmedH t.vm → Qc args s (.returned ov) t) ∧
    Z = zD p l e R s m args below meth c X A Q nL
/-- a method's contract over a world that keeps its addresses -/
def zC (l : Launch) (X : zX) (y : MethodName) (ws : List Cond) (rm : Room) (ad : Nat → Nat) (av : List Value) (cs : List va_E) (ov : Option Value) (cs' : List va_E) : Prop :=
  ∀ sz : Nat, Met l y ws rm (va_Pc av (fun U => U.heap.size = sz ∧ va_P X.1 vwCl (zw ad cs) U.heap ∧ va_K X.1 vwCl (tyX X) U ∧ va_D (fun _ => True) (zw ad cs) ∧ zEX X (va_A (zw ad cs) sz) U U.heap)) (fun _ st oc t => (oc = .returned ov ∧ va_P X.1 vwCl (zw ad cs') t.heap) ∧ va_F (va_A (zw ad cs) sz) st t) 0 0 (va_A (zw ad cs) sz)
theorem z_met {l : Launch} {X : zX} {y : MethodName} {ws ws' : List Cond} {rm : Room} {ad : Nat → Nat} {av : List Value} {cs : List va_E} {ov : Option Value} {cs' : List va_E} {cc : ByteArray} {maxL : Nat} {ret : Option FieldType}
    (hy : plainName y.cls = true) (hw : ws = Cond.code y cc maxL ret :: ws') (hn : (lg_sl av).length ≤ maxL)
    (body : ∀ Z : zT, zG Z l X rm ws cc maxL y.cls y.name ret 0 0 (fun a o c => a = ad ∧ o = ov ∧ c = cs') → Z ad 0 0 0 (zargs maxL av) [] cs) : zC l X y ws rm ad av cs ov cs' := by
  intro sz
  refine Met.ofW (cc := cc) (maxL := maxL) (ret := ret) hy hw ?_
  intro p e s m args below meth c s₁ B hml hv
  obtain ⟨rfl, hsz, hP, hK, hD0, hE⟩ := hv
  subst hsz
  have hl := lv_entry av (n := maxL) hn
  rw [lg_entry_eq]
  generalize hg : (lg_sl av ++ List.replicate (maxL - (lg_sl av).length) Slot.unset).toArray = ls at hl ⊢
  refine body (zD p l e (headSpec ws rm).room s m av.toArray below meth c X (va_A (zw ad cs) s.heap.size) (MQ below _ av.toArray s 0 0 (va_A (zw ad cs) s.heap.size)) maxL) ⟨p, e, s, m, av.toArray, below, meth, c, va_A (zw ad cs) s.heap.size, _, B.exec, B.bytes, hml, B.notSynchronized, B.returns, (name_of_methodNamed B.named B.method).1, atoms_spec (ws := ws) B.pre, findClass_of_methodNamed B.named, hK, fun q h => Or.inr h, hE, ?_, rfl⟩ s.heap [] ls hP hD0.self va_S.rf ⟨hl.1, hl.2.1, fun i v h => hl.2.2 (i, v) (zargs_mem h)⟩
  rintro _ _ _ ⟨rfl, rfl, rfl⟩
  refine ⟨_, rfl, fun H locs t hP' hD' hS' ht hW' => ⟨⟨rfl, by rw [ht]; exact hP'⟩, hS'.F ht⟩⟩
theorem zC_blind {X : zX} {ad : Nat → Nat} {av : List Value} {cs : List va_E} {sz : Nat} : FrameBlind (va_Pc av (fun U => U.heap.size = sz ∧ va_P X.1 vwCl (zw ad cs) U.heap ∧ va_K X.1 vwCl (tyX X) U ∧ va_D (fun _ => True) (zw ad cs) ∧ zEX X (va_A (zw ad cs) sz) U U.heap)) := by
  intro a U g mk q
  obtain ⟨q0, q1, qP, qK, qD, qE⟩ := q
  exact ⟨q0, q1, qP, va_K.moved (u := U) (U := U.calling g mk a) (Vm.Alike.refl U.vm) qK, qD, zEX.same (u := U) (U := U.calling g mk a) rfl qE⟩
end
section
section ZR
variable {Z : zT} {l : Launch} {X : zX} {R : Room} {Ts : List Cond} {cc : ByteArray} {nL : Nat} {own nm : String} {ret : Option FieldType} {mc ms : Nat} {Rt : (Nat → Nat) → Option Value → List va_E → Prop} {ad : Nat → Nat} {kc ks pc : Nat} {lv lv' : List (Option Value)} {st : List Value} {cs cs' : List va_E}
theorem z_iconst (G : zG Z l X R Ts cc nL own nm ret mc ms Rt) {n : Int} (hd : decode cc pc = .ok (.iconst n, 1)) (k : Z ad kc ks (pc + 1) lv (vI n :: st) cs) : Z ad kc ks pc lv st cs := by
  obtain ⟨p, e, s, m, args, below, meth, c, A, Q, hx, hb, hml, hlk, hrt, hnm, hts, hown, hK, hA, hE, hR, rfl⟩ := G
  intro H locs ls hP hD hS hl
  exact lv_iconst hx hb hd rfl (k H locs ls hP hD hS hl)
theorem z_bipush (G : zG Z l X R Ts cc nL own nm ret mc ms Rt) {n : Int} (hv : (Int8.ofInt n).toInt32 = iI n) (hd : decode cc pc = .ok (.bipush n, 2)) (k : Z ad kc ks (pc + 2) lv (vI n :: st) cs) : Z ad kc ks pc lv st cs := by
  obtain ⟨p, e, s, m, args, below, meth, c, A, Q, hx, hb, hml, hlk, hrt, hnm, hts, hown, hK, hA, hE, hR, rfl⟩ := G
  intro H locs ls hP hD hS hl
  exact lv_bipush hx hb hd hv (k H locs ls hP hD hS hl)
theorem z_sipush (G : zG Z l X R Ts cc nL own nm ret mc ms Rt) {n : Int} (hv : (Int16.ofInt n).toInt32 = iI n) (hd : decode cc pc = .ok (.sipush n, 3)) (k : Z ad kc ks (pc + 3) lv (vI n :: st) cs) : Z ad kc ks pc lv st cs := by
  obtain ⟨p, e, s, m, args, below, meth, c, A, Q, hx, hb, hml, hlk, hrt, hnm, hts, hown, hK, hA, hE, hR, rfl⟩ := G
  intro H locs ls hP hD hS hl
  exact lv_sipush hx hb hd hv (k H locs ls hP hD hS hl)
theorem z_lconst (G : zG Z l X R Ts cc nL own nm ret mc ms Rt) {n : Fin 2} {z : Int} (hv : Int64.ofNat (n : Nat) = lL z) (hd : decode cc pc = .ok (.lconst n, 1)) (k : Z ad kc ks (pc + 1) lv (vL z :: st) cs) : Z ad kc ks pc lv st cs := by
  obtain ⟨p, e, s, m, args, below, meth, c, A, Q, hx, hb, hml, hlk, hrt, hnm, hts, hown, hK, hA, hE, hR, rfl⟩ := G
  intro H locs ls hP hD hS hl
  exact lv_lconst hx hb hd hv (k H locs ls hP hD hS hl)
theorem z_ldc (G : zG Z l X R Ts cc nL own nm ret mc ms Rt) {index : Nat} {z : Int} (hw : Cond.constant own index (iI z) ∈ Ts) (hd : decode cc pc = .ok (.ldc index, 2)) (k : Z ad kc ks (pc + 2) lv (vI z :: st) cs) : Z ad kc ks pc lv st cs := by
  obtain ⟨p, e, s, m, args, below, meth, c, A, Q, hx, hb, hml, hlk, hrt, hnm, hts, hown, hK, hA, hE, hR, rfl⟩ := G
  intro H locs ls hP hD hS hl
  exact lv_ldc hx hb hown (hts _ hw) hd (k H locs ls hP hD hS hl)
theorem z_ldc2 (G : zG Z l X R Ts cc nL own nm ret mc ms Rt) {index : Nat} {z : Int} (hw : Cond.constantLong own index (lL z) ∈ Ts) (hd : decode cc pc = .ok (.ldc2_w index, 3)) (k : Z ad kc ks (pc + 3) lv (vL z :: st) cs) : Z ad kc ks pc lv st cs := by
  obtain ⟨p, e, s, m, args, below, meth, c, A, Q, hx, hb, hml, hlk, hrt, hnm, hts, hown, hK, hA, hE, hR, rfl⟩ := G
  intro H locs ls hP hD hS hl
  exact lv_ldc2 hx hb hown (hts _ hw) hd (k H locs ls hP hD hS hl)
theorem z_iload_n (G : zG Z l X R Ts cc nL own nm ret mc ms Rt) {j : Fin 4} (i : Nat) {x : Int} (hi : (j : Nat) = i) (hv : lv[i]? = some (some (vI x))) (hd : decode cc pc = .ok (.iload_n j, 1)) (k : Z ad kc ks (pc + 1) lv (vI x :: st) cs) : Z ad kc ks pc lv st cs := by
  obtain ⟨p, e, s, m, args, below, meth, c, A, Q, hx, hb, hml, hlk, hrt, hnm, hts, hown, hK, hA, hE, hR, rfl⟩ := G
  intro H locs ls hP hD hS hl
  exact lv_iload_n hx hb hd hi (hl.2.2 i _ hv) (k H locs ls hP hD hS hl)
theorem z_iload (G : zG Z l X R Ts cc nL own nm ret mc ms Rt) {i : Nat} {x : Int} (hv : lv[i]? = some (some (vI x))) (hd : decode cc pc = .ok (.iload i, 2)) (k : Z ad kc ks (pc + 2) lv (vI x :: st) cs) : Z ad kc ks pc lv st cs := by
  obtain ⟨p, e, s, m, args, below, meth, c, A, Q, hx, hb, hml, hlk, hrt, hnm, hts, hown, hK, hA, hE, hR, rfl⟩ := G
  intro H locs ls hP hD hS hl
  exact lv_iload hx hb hd (hl.2.2 i _ hv) (k H locs ls hP hD hS hl)
theorem z_lload_n (G : zG Z l X R Ts cc nL own nm ret mc ms Rt) {j : Fin 4} (i : Nat) {x : Int} (hi : (j : Nat) = i) (hv : lv[i]? = some (some (vL x))) (hd : decode cc pc = .ok (.lload_n j, 1)) (k : Z ad kc ks (pc + 1) lv (vL x :: st) cs) : Z ad kc ks pc lv st cs := by
  obtain ⟨p, e, s, m, args, below, meth, c, A, Q, hx, hb, hml, hlk, hrt, hnm, hts, hown, hK, hA, hE, hR, rfl⟩ := G
  intro H locs ls hP hD hS hl
  exact lv_lload_n hx hb hd hi (hl.2.2 i _ hv) (k H locs ls hP hD hS hl)
theorem z_lload (G : zG Z l X R Ts cc nL own nm ret mc ms Rt) {i : Nat} {x : Int} (hv : lv[i]? = some (some (vL x))) (hd : decode cc pc = .ok (.lload i, 2)) (k : Z ad kc ks (pc + 2) lv (vL x :: st) cs) : Z ad kc ks pc lv st cs := by
  obtain ⟨p, e, s, m, args, below, meth, c, A, Q, hx, hb, hml, hlk, hrt, hnm, hts, hown, hK, hA, hE, hR, rfl⟩ := G
  intro H locs ls hP hD hS hl
  exact lv_lload hx hb hd (hl.2.2 i _ hv) (k H locs ls hP hD hS hl)
theorem z_aload_n (G : zG Z l X R Ts cc nL own nm ret mc ms Rt) {j : Fin 4} (i : Nat) {x : Nat} (hi : (j : Nat) = i) (hv : lv[i]? = some (some (.ref x))) (hd : decode cc pc = .ok (.aload_n j, 1)) (k : Z ad kc ks (pc + 1) lv (.ref x :: st) cs) : Z ad kc ks pc lv st cs := by
  obtain ⟨p, e, s, m, args, below, meth, c, A, Q, hx, hb, hml, hlk, hrt, hnm, hts, hown, hK, hA, hE, hR, rfl⟩ := G
  intro H locs ls hP hD hS hl
  exact lv_aload_n hx hb hd hi (hl.2.2 i _ hv) (k H locs ls hP hD hS hl)
theorem z_aload (G : zG Z l X R Ts cc nL own nm ret mc ms Rt) {i : Nat} {x : Nat} (hv : lv[i]? = some (some (.ref x))) (hd : decode cc pc = .ok (.aload i, 2)) (k : Z ad kc ks (pc + 2) lv (.ref x :: st) cs) : Z ad kc ks pc lv st cs := by
  obtain ⟨p, e, s, m, args, below, meth, c, A, Q, hx, hb, hml, hlk, hrt, hnm, hts, hown, hK, hA, hE, hR, rfl⟩ := G
  intro H locs ls hP hD hS hl
  exact lv_aload hx hb hd (hl.2.2 i _ hv) (k H locs ls hP hD hS hl)
theorem z_istore_n (G : zG Z l X R Ts cc nL own nm ret mc ms Rt) {j : Fin 4} (i : Nat) {x : Int} (hi : (j : Nat) = i) (hn : i < nL) (hz : zok lv i = true) (hlv : lv.set i (some (vI x)) = lv') (hd : decode cc pc = .ok (.istore_n j, 1)) (k : Z ad kc ks (pc + 1) lv' st cs) : Z ad kc ks pc lv (vI x :: st) cs := by
  obtain ⟨p, e, s, m, args, below, meth, c, A, Q, hx, hb, hml, hlk, hrt, hnm, hts, hown, hK, hA, hE, hR, rfl⟩ := G
  intro H locs ls hP hD hS hl
  subst hlv
  exact lv_istore_n hx hb hd hi (zl_has hl) hn rfl (fun ls' h' => k H locs ls' hP hD hS (zl_set1 hz h'))
theorem z_astore_n (G : zG Z l X R Ts cc nL own nm ret mc ms Rt) {j : Fin 4} (i : Nat) {x : Nat} (hi : (j : Nat) = i) (hn : i < nL) (hz : zok lv i = true) (hlv : lv.set i (some (.ref x)) = lv') (hd : decode cc pc = .ok (.astore_n j, 1)) (k : Z ad kc ks (pc + 1) lv' st cs) : Z ad kc ks pc lv (.ref x :: st) cs := by
  obtain ⟨p, e, s, m, args, below, meth, c, A, Q, hx, hb, hml, hlk, hrt, hnm, hts, hown, hK, hA, hE, hR, rfl⟩ := G
  intro H locs ls hP hD hS hl
  subst hlv
  exact lv_astore_n hx hb hd hi (zl_has hl) hn rfl (fun ls' h' => k H locs ls' hP hD hS (zl_set1 hz h'))
theorem z_istore (G : zG Z l X R Ts cc nL own nm ret mc ms Rt) {i : Nat} {x : Int} (hn : i < nL) (hz : zok lv i = true) (hlv : lv.set i (some (vI x)) = lv') (hd : decode cc pc = .ok (.istore i, 2)) (k : Z ad kc ks (pc + 2) lv' st cs) : Z ad kc ks pc lv (vI x :: st) cs := by
  obtain ⟨p, e, s, m, args, below, meth, c, A, Q, hx, hb, hml, hlk, hrt, hnm, hts, hown, hK, hA, hE, hR, rfl⟩ := G
  intro H locs ls hP hD hS hl
  subst hlv
  exact lv_istore hx hb hd (zl_has hl) hn rfl (fun ls' h' => k H locs ls' hP hD hS (zl_set1 hz h'))
theorem z_lstore_n (G : zG Z l X R Ts cc nL own nm ret mc ms Rt) {j : Fin 4} (i : Nat) {x : Int} (hi : (j : Nat) = i) (hn : i + 1 < nL) (hz : zok lv i = true) (hlv : (lv.set i (some (vL x))).set (i + 1) none = lv') (hd : decode cc pc = .ok (.lstore_n j, 1)) (k : Z ad kc ks (pc + 1) lv' st cs) : Z ad kc ks pc lv (vL x :: st) cs := by
  obtain ⟨p, e, s, m, args, below, meth, c, A, Q, hx, hb, hml, hlk, hrt, hnm, hts, hown, hK, hA, hE, hR, rfl⟩ := G
  intro H locs ls hP hD hS hl
  subst hlv
  exact lv_lstore_n hx hb hd hi (zl_has hl) hn rfl (fun ls' h' => k H locs ls' hP hD hS (zl_set2 hz h'))
theorem z_lstore (G : zG Z l X R Ts cc nL own nm ret mc ms Rt) {i : Nat} {x : Int} (hn : i + 1 < nL) (hz : zok lv i = true) (hlv : (lv.set i (some (vL x))).set (i + 1) none = lv') (hd : decode cc pc = .ok (.lstore i, 2)) (k : Z ad kc ks (pc + 2) lv' st cs) : Z ad kc ks pc lv (vL x :: st) cs := by
  obtain ⟨p, e, s, m, args, below, meth, c, A, Q, hx, hb, hml, hlk, hrt, hnm, hts, hown, hK, hA, hE, hR, rfl⟩ := G
  intro H locs ls hP hD hS hl
  subst hlv
  exact lv_lstore hx hb hd (zl_has hl) hn rfl (fun ls' h' => k H locs ls' hP hD hS (zl_set2 hz h'))
theorem z_iinc (G : zG Z l X R Ts cc nL own nm ret mc ms Rt) {i : Nat} {n x : Int} (hv : lv[i]? = some (some (vI x))) (hn : i < nL) (hz : zok lv i = true) (hlv : lv.set i (some (vI (x + n))) = lv') (hd : decode cc pc = .ok (.iinc i n, 3)) (k : Z ad kc ks (pc + 3) lv' st cs) : Z ad kc ks pc lv st cs := by
  obtain ⟨p, e, s, m, args, below, meth, c, A, Q, hx, hb, hml, hlk, hrt, hnm, hts, hown, hK, hA, hE, hR, rfl⟩ := G
  intro H locs ls hP hD hS hl
  subst hlv
  obtain ⟨q, hq⟩ := List.getElem?_of_mem (zas_mem.mpr hv)
  exact lv_iinc (v := iI (x + n)) hx hb hd (zl_has hl) hq (iI_add x n) hn rfl (fun ls' h' => k H locs ls' hP hD hS (zl_set1 hz h'))
theorem z_iadd (G : zG Z l X R Ts cc nL own nm ret mc ms Rt) {a b : Int} (hd : decode cc pc = .ok (.iadd, 1)) (k : Z ad kc ks (pc + 1) lv (vI (a + b) :: st) cs) : Z ad kc ks pc lv (vI b :: vI a :: st) cs := by
  obtain ⟨p, e, s, m, args, below, meth, c, A, Q, hx, hb, hml, hlk, hrt, hnm, hts, hown, hK, hA, hE, hR, rfl⟩ := G
  intro H locs ls hP hD hS hl
  refine lv_iadd hx hb hd ?_
  rw [iI_add]
  exact k H locs ls hP hD hS hl
theorem z_isub (G : zG Z l X R Ts cc nL own nm ret mc ms Rt) {a b : Int} (hd : decode cc pc = .ok (.isub, 1)) (k : Z ad kc ks (pc + 1) lv (vI (a - b) :: st) cs) : Z ad kc ks pc lv (vI b :: vI a :: st) cs := by
  obtain ⟨p, e, s, m, args, below, meth, c, A, Q, hx, hb, hml, hlk, hrt, hnm, hts, hown, hK, hA, hE, hR, rfl⟩ := G
  intro H locs ls hP hD hS hl
  refine lv_isub hx hb hd ?_
  rw [iI_sub]
  exact k H locs ls hP hD hS hl
theorem z_imul (G : zG Z l X R Ts cc nL own nm ret mc ms Rt) {a b : Int} (hd : decode cc pc = .ok (.imul, 1)) (k : Z ad kc ks (pc + 1) lv (vI (a * b) :: st) cs) : Z ad kc ks pc lv (vI b :: vI a :: st) cs := by
  obtain ⟨p, e, s, m, args, below, meth, c, A, Q, hx, hb, hml, hlk, hrt, hnm, hts, hown, hK, hA, hE, hR, rfl⟩ := G
  intro H locs ls hP hD hS hl
  refine lv_imul hx hb hd ?_
  rw [iI_mul]
  exact k H locs ls hP hD hS hl
theorem z_ladd (G : zG Z l X R Ts cc nL own nm ret mc ms Rt) {a b : Int} (hd : decode cc pc = .ok (.ladd, 1)) (k : Z ad kc ks (pc + 1) lv (vL (a + b) :: st) cs) : Z ad kc ks pc lv (vL b :: vL a :: st) cs := by
  obtain ⟨p, e, s, m, args, below, meth, c, A, Q, hx, hb, hml, hlk, hrt, hnm, hts, hown, hK, hA, hE, hR, rfl⟩ := G
  intro H locs ls hP hD hS hl
  refine lv_ladd hx hb hd ?_
  rw [lL_add]
  exact k H locs ls hP hD hS hl
theorem z_lsub (G : zG Z l X R Ts cc nL own nm ret mc ms Rt) {a b : Int} (hd : decode cc pc = .ok (.lsub, 1)) (k : Z ad kc ks (pc + 1) lv (vL (a - b) :: st) cs) : Z ad kc ks pc lv (vL b :: vL a :: st) cs := by
  obtain ⟨p, e, s, m, args, below, meth, c, A, Q, hx, hb, hml, hlk, hrt, hnm, hts, hown, hK, hA, hE, hR, rfl⟩ := G
  intro H locs ls hP hD hS hl
  refine lv_lsub hx hb hd ?_
  rw [lL_sub]
  exact k H locs ls hP hD hS hl
theorem z_lmul (G : zG Z l X R Ts cc nL own nm ret mc ms Rt) {a b : Int} (hd : decode cc pc = .ok (.lmul, 1)) (k : Z ad kc ks (pc + 1) lv (vL (a * b) :: st) cs) : Z ad kc ks pc lv (vL b :: vL a :: st) cs := by
  obtain ⟨p, e, s, m, args, below, meth, c, A, Q, hx, hb, hml, hlk, hrt, hnm, hts, hown, hK, hA, hE, hR, rfl⟩ := G
  intro H locs ls hP hD hS hl
  refine lv_lmul hx hb hd ?_
  rw [lL_mul]
  exact k H locs ls hP hD hS hl
theorem z_idiv (G : zG Z l X R Ts cc nL own nm ret mc ms Rt) {a b : Int} (ha : -2147483648 ≤ a ∧ a ≤ 2147483647) (hb0 : -2147483648 ≤ b ∧ b ≤ 2147483647) (hne : b ≠ 0) (hd : decode cc pc = .ok (.idiv, 1)) (k : Z ad kc ks (pc + 1) lv (vI (a.tdiv b) :: st) cs) : Z ad kc ks pc lv (vI b :: vI a :: st) cs := by
  obtain ⟨p, e, s, m, args, below, meth, c, A, Q, hx, hb, hml, hlk, hrt, hnm, hts, hown, hK, hA, hE, hR, rfl⟩ := G
  intro H locs ls hP hD hS hl
  refine lv_idiv hx hb hd (fun h => hne ((iI_eq hb0 (by omega)).mp (h.trans (show (0 : Int32) = iI 0 from rfl)))) ?_
  rw [iI_div ha hb0]
  exact k H locs ls hP hD hS hl
theorem z_irem (G : zG Z l X R Ts cc nL own nm ret mc ms Rt) {a b : Int} (ha : -2147483648 ≤ a ∧ a ≤ 2147483647) (hb0 : -2147483648 ≤ b ∧ b ≤ 2147483647) (hne : b ≠ 0) (hd : decode cc pc = .ok (.irem, 1)) (k : Z ad kc ks (pc + 1) lv (vI (a.tmod b) :: st) cs) : Z ad kc ks pc lv (vI b :: vI a :: st) cs := by
  obtain ⟨p, e, s, m, args, below, meth, c, A, Q, hx, hb, hml, hlk, hrt, hnm, hts, hown, hK, hA, hE, hR, rfl⟩ := G
  intro H locs ls hP hD hS hl
  refine lv_irem hx hb hd (fun h => hne ((iI_eq hb0 (by omega)).mp (h.trans (show (0 : Int32) = iI 0 from rfl)))) ?_
  rw [iI_div ha hb0, iI_mul, iI_sub, tmod_tdiv]
  exact k H locs ls hP hD hS hl
theorem z_ldiv (G : zG Z l X R Ts cc nL own nm ret mc ms Rt) {a b : Int} (ha : -9223372036854775808 ≤ a ∧ a ≤ 9223372036854775807) (hb0 : -9223372036854775808 ≤ b ∧ b ≤ 9223372036854775807) (hne : b ≠ 0) (hd : decode cc pc = .ok (.ldiv, 1)) (k : Z ad kc ks (pc + 1) lv (vL (a.tdiv b) :: st) cs) : Z ad kc ks pc lv (vL b :: vL a :: st) cs := by
  obtain ⟨p, e, s, m, args, below, meth, c, A, Q, hx, hb, hml, hlk, hrt, hnm, hts, hown, hK, hA, hE, hR, rfl⟩ := G
  intro H locs ls hP hD hS hl
  refine lv_ldiv hx hb hd (fun h => hne ((lL_eq hb0 (by omega)).mp (h.trans (show (0 : Int64) = lL 0 from rfl)))) ?_
  rw [lL_div ha hb0]
  exact k H locs ls hP hD hS hl
theorem z_lrem (G : zG Z l X R Ts cc nL own nm ret mc ms Rt) {a b : Int} (ha : -9223372036854775808 ≤ a ∧ a ≤ 9223372036854775807) (hb0 : -9223372036854775808 ≤ b ∧ b ≤ 9223372036854775807) (hne : b ≠ 0) (hd : decode cc pc = .ok (.lrem, 1)) (k : Z ad kc ks (pc + 1) lv (vL (a.tmod b) :: st) cs) : Z ad kc ks pc lv (vL b :: vL a :: st) cs := by
  obtain ⟨p, e, s, m, args, below, meth, c, A, Q, hx, hb, hml, hlk, hrt, hnm, hts, hown, hK, hA, hE, hR, rfl⟩ := G
  intro H locs ls hP hD hS hl
  refine lv_lrem hx hb hd (fun h => hne ((lL_eq hb0 (by omega)).mp (h.trans (show (0 : Int64) = lL 0 from rfl)))) ?_
  rw [lL_div ha hb0, lL_mul, lL_sub, tmod_tdiv]
  exact k H locs ls hP hD hS hl
theorem z_iand (G : zG Z l X R Ts cc nL own nm ret mc ms Rt) {a b : Int} (r : Int) (hr : iI a &&& iI b = iI r) (hd : decode cc pc = .ok (.iand, 1)) (k : Z ad kc ks (pc + 1) lv (vI r :: st) cs) : Z ad kc ks pc lv (vI b :: vI a :: st) cs := by
  obtain ⟨p, e, s, m, args, below, meth, c, A, Q, hx, hb, hml, hlk, hrt, hnm, hts, hown, hK, hA, hE, hR, rfl⟩ := G
  intro H locs ls hP hD hS hl
  refine lv_iand hx hb hd ?_
  rw [hr]
  exact k H locs ls hP hD hS hl
theorem z_ior (G : zG Z l X R Ts cc nL own nm ret mc ms Rt) {a b : Int} (r : Int) (hr : iI a ||| iI b = iI r) (hd : decode cc pc = .ok (.ior, 1)) (k : Z ad kc ks (pc + 1) lv (vI r :: st) cs) : Z ad kc ks pc lv (vI b :: vI a :: st) cs := by
  obtain ⟨p, e, s, m, args, below, meth, c, A, Q, hx, hb, hml, hlk, hrt, hnm, hts, hown, hK, hA, hE, hR, rfl⟩ := G
  intro H locs ls hP hD hS hl
  refine lv_ior hx hb hd ?_
  rw [hr]
  exact k H locs ls hP hD hS hl
theorem z_ixor (G : zG Z l X R Ts cc nL own nm ret mc ms Rt) {a b : Int} (r : Int) (hr : iI a ^^^ iI b = iI r) (hd : decode cc pc = .ok (.ixor, 1)) (k : Z ad kc ks (pc + 1) lv (vI r :: st) cs) : Z ad kc ks pc lv (vI b :: vI a :: st) cs := by
  obtain ⟨p, e, s, m, args, below, meth, c, A, Q, hx, hb, hml, hlk, hrt, hnm, hts, hown, hK, hA, hE, hR, rfl⟩ := G
  intro H locs ls hP hD hS hl
  refine lv_ixor hx hb hd ?_
  rw [hr]
  exact k H locs ls hP hD hS hl
theorem z_land (G : zG Z l X R Ts cc nL own nm ret mc ms Rt) {a b : Int} (r : Int) (hr : lL a &&& lL b = lL r) (hd : decode cc pc = .ok (.land, 1)) (k : Z ad kc ks (pc + 1) lv (vL r :: st) cs) : Z ad kc ks pc lv (vL b :: vL a :: st) cs := by
  obtain ⟨p, e, s, m, args, below, meth, c, A, Q, hx, hb, hml, hlk, hrt, hnm, hts, hown, hK, hA, hE, hR, rfl⟩ := G
  intro H locs ls hP hD hS hl
  refine lv_land hx hb hd ?_
  rw [hr]
  exact k H locs ls hP hD hS hl
theorem z_lor (G : zG Z l X R Ts cc nL own nm ret mc ms Rt) {a b : Int} (r : Int) (hr : lL a ||| lL b = lL r) (hd : decode cc pc = .ok (.lor, 1)) (k : Z ad kc ks (pc + 1) lv (vL r :: st) cs) : Z ad kc ks pc lv (vL b :: vL a :: st) cs := by
  obtain ⟨p, e, s, m, args, below, meth, c, A, Q, hx, hb, hml, hlk, hrt, hnm, hts, hown, hK, hA, hE, hR, rfl⟩ := G
  intro H locs ls hP hD hS hl
  refine lv_lor hx hb hd ?_
  rw [hr]
  exact k H locs ls hP hD hS hl
theorem z_ishl (G : zG Z l X R Ts cc nL own nm ret mc ms Rt) {a b : Int} (r : Int) (hr : iI a <<< (iI b &&& 31) = iI r) (hd : decode cc pc = .ok (.ishl, 1)) (k : Z ad kc ks (pc + 1) lv (vI r :: st) cs) : Z ad kc ks pc lv (vI b :: vI a :: st) cs := by
  obtain ⟨p, e, s, m, args, below, meth, c, A, Q, hx, hb, hml, hlk, hrt, hnm, hts, hown, hK, hA, hE, hR, rfl⟩ := G
  intro H locs ls hP hD hS hl
  refine lv_ishl hx hb hd ?_
  rw [hr]
  exact k H locs ls hP hD hS hl
theorem z_ishr (G : zG Z l X R Ts cc nL own nm ret mc ms Rt) {a b : Int} (r : Int) (hr : iI a >>> (iI b &&& 31) = iI r) (hd : decode cc pc = .ok (.ishr, 1)) (k : Z ad kc ks (pc + 1) lv (vI r :: st) cs) : Z ad kc ks pc lv (vI b :: vI a :: st) cs := by
  obtain ⟨p, e, s, m, args, below, meth, c, A, Q, hx, hb, hml, hlk, hrt, hnm, hts, hown, hK, hA, hE, hR, rfl⟩ := G
  intro H locs ls hP hD hS hl
  refine lv_ishr hx hb hd ?_
  rw [hr]
  exact k H locs ls hP hD hS hl
theorem z_lshl (G : zG Z l X R Ts cc nL own nm ret mc ms Rt) {a b : Int} (r : Int) (hr : lL a <<< ((iI b).toInt64 &&& 63) = lL r) (hd : decode cc pc = .ok (.lshl, 1)) (k : Z ad kc ks (pc + 1) lv (vL r :: st) cs) : Z ad kc ks pc lv (vI b :: vL a :: st) cs := by
  obtain ⟨p, e, s, m, args, below, meth, c, A, Q, hx, hb, hml, hlk, hrt, hnm, hts, hown, hK, hA, hE, hR, rfl⟩ := G
  intro H locs ls hP hD hS hl
  exact lv_lshl hx hb hd hr (k H locs ls hP hD hS hl)
theorem z_lshr (G : zG Z l X R Ts cc nL own nm ret mc ms Rt) {a b : Int} (r : Int) (hr : lL a >>> ((iI b).toInt64 &&& 63) = lL r) (hd : decode cc pc = .ok (.lshr, 1)) (k : Z ad kc ks (pc + 1) lv (vL r :: st) cs) : Z ad kc ks pc lv (vI b :: vL a :: st) cs := by
  obtain ⟨p, e, s, m, args, below, meth, c, A, Q, hx, hb, hml, hlk, hrt, hnm, hts, hown, hK, hA, hE, hR, rfl⟩ := G
  intro H locs ls hP hD hS hl
  exact lv_lshr hx hb hd hr (k H locs ls hP hD hS hl)
theorem z_i2l (G : zG Z l X R Ts cc nL own nm ret mc ms Rt) {a : Int} (ha : -2147483648 ≤ a ∧ a ≤ 2147483647) (hd : decode cc pc = .ok (.i2l, 1)) (k : Z ad kc ks (pc + 1) lv (vL a :: st) cs) : Z ad kc ks pc lv (vI a :: st) cs := by
  obtain ⟨p, e, s, m, args, below, meth, c, A, Q, hx, hb, hml, hlk, hrt, hnm, hts, hown, hK, hA, hE, hR, rfl⟩ := G
  intro H locs ls hP hD hS hl
  exact lv_i2l hx hb hd (iI_i2l ha) (k H locs ls hP hD hS hl)
theorem z_l2i (G : zG Z l X R Ts cc nL own nm ret mc ms Rt) {a : Int} (hd : decode cc pc = .ok (.l2i, 1)) (k : Z ad kc ks (pc + 1) lv (vI a :: st) cs) : Z ad kc ks pc lv (vL a :: st) cs := by
  obtain ⟨p, e, s, m, args, below, meth, c, A, Q, hx, hb, hml, hlk, hrt, hnm, hts, hown, hK, hA, hE, hR, rfl⟩ := G
  intro H locs ls hP hD hS hl
  exact lv_l2i hx hb hd (lL_l2i a) (k H locs ls hP hD hS hl)
theorem z_i2b (G : zG Z l X R Ts cc nL own nm ret mc ms Rt) {a : Int} (r : Int) (hr : (iI a).toInt8.toInt32 = iI r) (hd : decode cc pc = .ok (.i2b, 1)) (k : Z ad kc ks (pc + 1) lv (vI r :: st) cs) : Z ad kc ks pc lv (vI a :: st) cs := by
  obtain ⟨p, e, s, m, args, below, meth, c, A, Q, hx, hb, hml, hlk, hrt, hnm, hts, hown, hK, hA, hE, hR, rfl⟩ := G
  intro H locs ls hP hD hS hl
  exact lv_i2b hx hb hd hr (k H locs ls hP hD hS hl)
theorem z_dup (G : zG Z l X R Ts cc nL own nm ret mc ms Rt) {v : Value} (hv : v.category = 1) (hd : decode cc pc = .ok (.dup, 1)) (k : Z ad kc ks (pc + 1) lv (v :: v :: st) cs) : Z ad kc ks pc lv (v :: st) cs := by
  obtain ⟨p, e, s, m, args, below, meth, c, A, Q, hx, hb, hml, hlk, hrt, hnm, hts, hown, hK, hA, hE, hR, rfl⟩ := G
  intro H locs ls hP hD hS hl
  exact lv_dup hx hb hd hv (k H locs ls hP hD hS hl)
theorem z_pop (G : zG Z l X R Ts cc nL own nm ret mc ms Rt) {v : Value} (hv : v.category = 1) (hd : decode cc pc = .ok (.pop, 1)) (k : Z ad kc ks (pc + 1) lv st cs) : Z ad kc ks pc lv (v :: st) cs := by
  obtain ⟨p, e, s, m, args, below, meth, c, A, Q, hx, hb, hml, hlk, hrt, hnm, hts, hown, hK, hA, hE, hR, rfl⟩ := G
  intro H locs ls hP hD hS hl
  exact lv_pop hx hb hd hv (k H locs ls hP hD hS hl)
theorem z_dup2 (G : zG Z l X R Ts cc nL own nm ret mc ms Rt) {v u : Value} (hv : v.category = 1) (hu : u.category = 1) (hd : decode cc pc = .ok (.dup2, 1)) (k : Z ad kc ks (pc + 1) lv (v :: u :: v :: u :: st) cs) : Z ad kc ks pc lv (v :: u :: st) cs := by
  obtain ⟨p, e, s, m, args, below, meth, c, A, Q, hx, hb, hml, hlk, hrt, hnm, hts, hown, hK, hA, hE, hR, rfl⟩ := G
  intro H locs ls hP hD hS hl
  exact lv_dup2_11 hx hb hd hv hu (k H locs ls hP hD hS hl)
theorem z_goto (G : zG Z l X R Ts cc nL own nm ret mc ms Rt) {off : Int} (tgt : Nat) (hd : decode cc pc = .ok (.goto off, 3)) (ht : (pc : Int) + off = (tgt : Int)) (k : Z ad kc ks tgt lv st cs) : Z ad kc ks pc lv st cs := by
  obtain ⟨p, e, s, m, args, below, meth, c, A, Q, hx, hb, hml, hlk, hrt, hnm, hts, hown, hK, hA, hE, hR, rfl⟩ := G
  intro H locs ls hP hD hS hl
  exact lv_goto hx hb hd ht (k H locs ls hP hD hS hl)
theorem z_icmp_lt (G : zG Z l X R Ts cc nL own nm ret mc ms Rt) {a b off : Int} (tgt : Nat) (ha : -2147483648 ≤ a ∧ a ≤ 2147483647) (hb0 : -2147483648 ≤ b ∧ b ≤ 2147483647) (hd : decode cc pc = .ok (.if_icmp .lt off, 3)) (ht : (pc : Int) + off = (tgt : Int)) (kt : a < b → Z ad kc ks tgt lv st cs) (kf : b ≤ a → Z ad kc ks (pc + 3) lv st cs) : Z ad kc ks pc lv (vI b :: vI a :: st) cs := by
  obtain ⟨p, e, s, m, args, below, meth, c, A, Q, hx, hb, hml, hlk, hrt, hnm, hts, hown, hK, hA, hE, hR, rfl⟩ := G
  intro H locs ls hP hD hS hl
  refine lv_icmp_lt hx hb hd ht (fun h => kt ?_ H locs ls hP hD hS hl) (fun h => kf ?_ H locs ls hP hD hS hl)
  · first | exact (iI_lt ha hb0).mp h | (rw [← (iI_lt ha hb0)]; exact h)
  · have h2 : ¬ (a < b) := fun q => h ((iI_lt ha hb0).mpr q)
    omega
theorem z_if_lt (G : zG Z l X R Ts cc nL own nm ret mc ms Rt) {a off : Int} (tgt : Nat) (ha : -2147483648 ≤ a ∧ a ≤ 2147483647) (hd : decode cc pc = .ok (.ifCond .lt off, 3)) (ht : (pc : Int) + off = (tgt : Int)) (kt : a < 0 → Z ad kc ks tgt lv st cs) (kf : 0 ≤ a → Z ad kc ks (pc + 3) lv st cs) : Z ad kc ks pc lv (vI a :: st) cs := by
  obtain ⟨p, e, s, m, args, below, meth, c, A, Q, hx, hb, hml, hlk, hrt, hnm, hts, hown, hK, hA, hE, hR, rfl⟩ := G
  intro H locs ls hP hD hS hl
  have z0 : -2147483648 ≤ (0 : Int) ∧ (0 : Int) ≤ 2147483647 := by omega
  have e0 : (0 : Int32) = iI 0 := rfl
  refine lv_if_lt hx hb hd ht (fun h => kt ?_ H locs ls hP hD hS hl) (fun h => kf ?_ H locs ls hP hD hS hl)
  · rw [e0] at h
    exact (iI_lt ha z0).mp h
  · rw [e0] at h
    have h2 : ¬ (a < 0) := fun q => h ((iI_lt ha z0).mpr q)
    omega
theorem z_icmp_le (G : zG Z l X R Ts cc nL own nm ret mc ms Rt) {a b off : Int} (tgt : Nat) (ha : -2147483648 ≤ a ∧ a ≤ 2147483647) (hb0 : -2147483648 ≤ b ∧ b ≤ 2147483647) (hd : decode cc pc = .ok (.if_icmp .le off, 3)) (ht : (pc : Int) + off = (tgt : Int)) (kt : a ≤ b → Z ad kc ks tgt lv st cs) (kf : b < a → Z ad kc ks (pc + 3) lv st cs) : Z ad kc ks pc lv (vI b :: vI a :: st) cs := by
  obtain ⟨p, e, s, m, args, below, meth, c, A, Q, hx, hb, hml, hlk, hrt, hnm, hts, hown, hK, hA, hE, hR, rfl⟩ := G
  intro H locs ls hP hD hS hl
  refine lv_icmp_le hx hb hd ht (fun h => kt ?_ H locs ls hP hD hS hl) (fun h => kf ?_ H locs ls hP hD hS hl)
  · first | exact (iI_le ha hb0).mp h | (rw [← (iI_le ha hb0)]; exact h)
  · have h2 : ¬ (a ≤ b) := fun q => h ((iI_le ha hb0).mpr q)
    omega
theorem z_if_le (G : zG Z l X R Ts cc nL own nm ret mc ms Rt) {a off : Int} (tgt : Nat) (ha : -2147483648 ≤ a ∧ a ≤ 2147483647) (hd : decode cc pc = .ok (.ifCond .le off, 3)) (ht : (pc : Int) + off = (tgt : Int)) (kt : a ≤ 0 → Z ad kc ks tgt lv st cs) (kf : 0 < a → Z ad kc ks (pc + 3) lv st cs) : Z ad kc ks pc lv (vI a :: st) cs := by
  obtain ⟨p, e, s, m, args, below, meth, c, A, Q, hx, hb, hml, hlk, hrt, hnm, hts, hown, hK, hA, hE, hR, rfl⟩ := G
  intro H locs ls hP hD hS hl
  have z0 : -2147483648 ≤ (0 : Int) ∧ (0 : Int) ≤ 2147483647 := by omega
  have e0 : (0 : Int32) = iI 0 := rfl
  refine lv_if_le hx hb hd ht (fun h => kt ?_ H locs ls hP hD hS hl) (fun h => kf ?_ H locs ls hP hD hS hl)
  · rw [e0] at h
    exact (iI_le ha z0).mp h
  · rw [e0] at h
    have h2 : ¬ (a ≤ 0) := fun q => h ((iI_le ha z0).mpr q)
    omega
theorem z_icmp_gt (G : zG Z l X R Ts cc nL own nm ret mc ms Rt) {a b off : Int} (tgt : Nat) (ha : -2147483648 ≤ a ∧ a ≤ 2147483647) (hb0 : -2147483648 ≤ b ∧ b ≤ 2147483647) (hd : decode cc pc = .ok (.if_icmp .gt off, 3)) (ht : (pc : Int) + off = (tgt : Int)) (kt : b < a → Z ad kc ks tgt lv st cs) (kf : a ≤ b → Z ad kc ks (pc + 3) lv st cs) : Z ad kc ks pc lv (vI b :: vI a :: st) cs := by
  obtain ⟨p, e, s, m, args, below, meth, c, A, Q, hx, hb, hml, hlk, hrt, hnm, hts, hown, hK, hA, hE, hR, rfl⟩ := G
  intro H locs ls hP hD hS hl
  refine lv_icmp_gt hx hb hd ht (fun h => kt ?_ H locs ls hP hD hS hl) (fun h => kf ?_ H locs ls hP hD hS hl)
  · first | exact (iI_lt hb0 ha).mp h | (rw [← (iI_lt hb0 ha)]; exact h)
  · have h2 : ¬ (b < a) := fun q => h ((iI_lt hb0 ha).mpr q)
    omega
theorem z_if_gt (G : zG Z l X R Ts cc nL own nm ret mc ms Rt) {a off : Int} (tgt : Nat) (ha : -2147483648 ≤ a ∧ a ≤ 2147483647) (hd : decode cc pc = .ok (.ifCond .gt off, 3)) (ht : (pc : Int) + off = (tgt : Int)) (kt : 0 < a → Z ad kc ks tgt lv st cs) (kf : a ≤ 0 → Z ad kc ks (pc + 3) lv st cs) : Z ad kc ks pc lv (vI a :: st) cs := by
  obtain ⟨p, e, s, m, args, below, meth, c, A, Q, hx, hb, hml, hlk, hrt, hnm, hts, hown, hK, hA, hE, hR, rfl⟩ := G
  intro H locs ls hP hD hS hl
  have z0 : -2147483648 ≤ (0 : Int) ∧ (0 : Int) ≤ 2147483647 := by omega
  have e0 : (0 : Int32) = iI 0 := rfl
  refine lv_if_gt hx hb hd ht (fun h => kt ?_ H locs ls hP hD hS hl) (fun h => kf ?_ H locs ls hP hD hS hl)
  · rw [e0] at h
    exact (iI_lt z0 ha).mp h
  · rw [e0] at h
    have h2 : ¬ (0 < a) := fun q => h ((iI_lt z0 ha).mpr q)
    omega
theorem z_icmp_ge (G : zG Z l X R Ts cc nL own nm ret mc ms Rt) {a b off : Int} (tgt : Nat) (ha : -2147483648 ≤ a ∧ a ≤ 2147483647) (hb0 : -2147483648 ≤ b ∧ b ≤ 2147483647) (hd : decode cc pc = .ok (.if_icmp .ge off, 3)) (ht : (pc : Int) + off = (tgt : Int)) (kt : b ≤ a → Z ad kc ks tgt lv st cs) (kf : a < b → Z ad kc ks (pc + 3) lv st cs) : Z ad kc ks pc lv (vI b :: vI a :: st) cs := by
  obtain ⟨p, e, s, m, args, below, meth, c, A, Q, hx, hb, hml, hlk, hrt, hnm, hts, hown, hK, hA, hE, hR, rfl⟩ := G
  intro H locs ls hP hD hS hl
  refine lv_icmp_ge hx hb hd ht (fun h => kt ?_ H locs ls hP hD hS hl) (fun h => kf ?_ H locs ls hP hD hS hl)
  · first | exact (iI_le hb0 ha).mp h | (rw [← (iI_le hb0 ha)]; exact h)
  · have h2 : ¬ (b ≤ a) := fun q => h ((iI_le hb0 ha).mpr q)
    omega
theorem z_if_ge (G : zG Z l X R Ts cc nL own nm ret mc ms Rt) {a off : Int} (tgt : Nat) (ha : -2147483648 ≤ a ∧ a ≤ 2147483647) (hd : decode cc pc = .ok (.ifCond .ge off, 3)) (ht : (pc : Int) + off = (tgt : Int)) (kt : 0 ≤ a → Z ad kc ks tgt lv st cs) (kf : a < 0 → Z ad kc ks (pc + 3) lv st cs) : Z ad kc ks pc lv (vI a :: st) cs := by
  obtain ⟨p, e, s, m, args, below, meth, c, A, Q, hx, hb, hml, hlk, hrt, hnm, hts, hown, hK, hA, hE, hR, rfl⟩ := G
  intro H locs ls hP hD hS hl
  have z0 : -2147483648 ≤ (0 : Int) ∧ (0 : Int) ≤ 2147483647 := by omega
  have e0 : (0 : Int32) = iI 0 := rfl
  refine lv_if_ge hx hb hd ht (fun h => kt ?_ H locs ls hP hD hS hl) (fun h => kf ?_ H locs ls hP hD hS hl)
  · rw [e0] at h
    exact (iI_le z0 ha).mp h
  · rw [e0] at h
    have h2 : ¬ (0 ≤ a) := fun q => h ((iI_le z0 ha).mpr q)
    omega
theorem z_icmp_eq (G : zG Z l X R Ts cc nL own nm ret mc ms Rt) {a b off : Int} (tgt : Nat) (ha : -2147483648 ≤ a ∧ a ≤ 2147483647) (hb0 : -2147483648 ≤ b ∧ b ≤ 2147483647) (hd : decode cc pc = .ok (.if_icmp .eq off, 3)) (ht : (pc : Int) + off = (tgt : Int)) (kt : a = b → Z ad kc ks tgt lv st cs) (kf : a ≠ b → Z ad kc ks (pc + 3) lv st cs) : Z ad kc ks pc lv (vI b :: vI a :: st) cs := by
  obtain ⟨p, e, s, m, args, below, meth, c, A, Q, hx, hb, hml, hlk, hrt, hnm, hts, hown, hK, hA, hE, hR, rfl⟩ := G
  intro H locs ls hP hD hS hl
  refine lv_icmp_eq hx hb hd ht (fun h => kt ?_ H locs ls hP hD hS hl) (fun h => kf ?_ H locs ls hP hD hS hl)
  · exact (iI_eq ha hb0).mp h
  · exact fun q => h ((iI_eq ha hb0).mpr q)
theorem z_if_eq (G : zG Z l X R Ts cc nL own nm ret mc ms Rt) {a off : Int} (tgt : Nat) (ha : -2147483648 ≤ a ∧ a ≤ 2147483647) (hd : decode cc pc = .ok (.ifCond .eq off, 3)) (ht : (pc : Int) + off = (tgt : Int)) (kt : a = 0 → Z ad kc ks tgt lv st cs) (kf : a ≠ 0 → Z ad kc ks (pc + 3) lv st cs) : Z ad kc ks pc lv (vI a :: st) cs := by
  obtain ⟨p, e, s, m, args, below, meth, c, A, Q, hx, hb, hml, hlk, hrt, hnm, hts, hown, hK, hA, hE, hR, rfl⟩ := G
  intro H locs ls hP hD hS hl
  have z0 : -2147483648 ≤ (0 : Int) ∧ (0 : Int) ≤ 2147483647 := by omega
  have e0 : (0 : Int32) = iI 0 := rfl
  refine lv_if_eq hx hb hd ht (fun h => kt ?_ H locs ls hP hD hS hl) (fun h => kf ?_ H locs ls hP hD hS hl)
  · rw [e0] at h
    exact (iI_eq ha z0).mp h
  · rw [e0] at h
    exact fun q => h ((iI_eq ha z0).mpr q)
theorem z_icmp_ne (G : zG Z l X R Ts cc nL own nm ret mc ms Rt) {a b off : Int} (tgt : Nat) (ha : -2147483648 ≤ a ∧ a ≤ 2147483647) (hb0 : -2147483648 ≤ b ∧ b ≤ 2147483647) (hd : decode cc pc = .ok (.if_icmp .ne off, 3)) (ht : (pc : Int) + off = (tgt : Int)) (kt : a ≠ b → Z ad kc ks tgt lv st cs) (kf : a = b → Z ad kc ks (pc + 3) lv st cs) : Z ad kc ks pc lv (vI b :: vI a :: st) cs := by
  obtain ⟨p, e, s, m, args, below, meth, c, A, Q, hx, hb, hml, hlk, hrt, hnm, hts, hown, hK, hA, hE, hR, rfl⟩ := G
  intro H locs ls hP hD hS hl
  refine lv_icmp_ne hx hb hd ht (fun h => kt ?_ H locs ls hP hD hS hl) (fun h => kf ?_ H locs ls hP hD hS hl)
  · first | exact fun q => h ((iI_eq ha hb0).mpr q) | exact fun q => h (by rw [q])
  · first | exact (iI_eq ha hb0).mp h | exact (iI_eq ha hb0).mp (Classical.not_not.mp h)
theorem z_if_ne (G : zG Z l X R Ts cc nL own nm ret mc ms Rt) {a off : Int} (tgt : Nat) (ha : -2147483648 ≤ a ∧ a ≤ 2147483647) (hd : decode cc pc = .ok (.ifCond .ne off, 3)) (ht : (pc : Int) + off = (tgt : Int)) (kt : a ≠ 0 → Z ad kc ks tgt lv st cs) (kf : a = 0 → Z ad kc ks (pc + 3) lv st cs) : Z ad kc ks pc lv (vI a :: st) cs := by
  obtain ⟨p, e, s, m, args, below, meth, c, A, Q, hx, hb, hml, hlk, hrt, hnm, hts, hown, hK, hA, hE, hR, rfl⟩ := G
  intro H locs ls hP hD hS hl
  have z0 : -2147483648 ≤ (0 : Int) ∧ (0 : Int) ≤ 2147483647 := by omega
  have e0 : (0 : Int32) = iI 0 := rfl
  refine lv_if_ne hx hb hd ht (fun h => kt ?_ H locs ls hP hD hS hl) (fun h => kf ?_ H locs ls hP hD hS hl)
  · rw [e0] at h
    first | exact fun q => h ((iI_eq ha z0).mpr q) | exact fun q => h (by rw [q])
  · rw [e0] at h
    first | exact (iI_eq ha z0).mp h | exact (iI_eq ha z0).mp (Classical.not_not.mp h)
def zcmp (a b : Int) : Int := if b < a then 1 else if a = b then 0 else -1
theorem lg_zcmp {a b : Int} (ha : -9223372036854775808 ≤ a ∧ a ≤ 9223372036854775807) (hb0 : -9223372036854775808 ≤ b ∧ b ≤ 9223372036854775807) : lg_cmp (lL a) (lL b) = iI (zcmp a b) := by
  unfold lg_cmp zcmp
  by_cases h1 : b < a
  · simp [(lL_lt hb0 ha).mpr h1, h1]
    rfl
  · by_cases h2 : a = b
    · subst h2
      simp
      rfl
    · have h3 : ¬ lL b < lL a := fun q => h1 ((lL_lt hb0 ha).mp q)
      have h4 : ¬ lL a = lL b := fun q => h2 ((lL_eq ha hb0).mp q)
      simp [h1, h2, h3, h4]
      rfl
theorem z_lcmp (G : zG Z l X R Ts cc nL own nm ret mc ms Rt) {a b : Int} (ha : -9223372036854775808 ≤ a ∧ a ≤ 9223372036854775807) (hb0 : -9223372036854775808 ≤ b ∧ b ≤ 9223372036854775807) (hd : decode cc pc = .ok (.lcmp, 1)) (k : Z ad kc ks (pc + 1) lv (vI (zcmp a b) :: st) cs) : Z ad kc ks pc lv (vL b :: vL a :: st) cs := by
  obtain ⟨p, e, s, m, args, below, meth, c, A, Q, hx, hb, hml, hlk, hrt, hnm, hts, hown, hK, hA, hE, hR, rfl⟩ := G
  intro H locs ls hP hD hS hl
  refine W.lcmp hx hb hd ?_
  rw [lg_zcmp ha hb0]
  exact k H locs ls hP hD hS hl
theorem zcmp_r (a b : Int) : zcmp a b = 1 ∧ b < a ∨ zcmp a b = 0 ∧ a = b ∨ zcmp a b = -1 ∧ a < b := by
  unfold zcmp
  by_cases h1 : b < a
  · simp [h1]
  · by_cases h2 : a = b
    · simp [h1, h2]
    · simp [h1, h2]
      omega
theorem z_lcmp_lt (G : zG Z l X R Ts cc nL own nm ret mc ms Rt) {a b off : Int} (tgt pc2 : Nat) (ha : -9223372036854775808 ≤ a ∧ a ≤ 9223372036854775807) (hb0 : -9223372036854775808 ≤ b ∧ b ≤ 9223372036854775807) (hd1 : decode cc pc = .ok (.lcmp, 1)) (hp : pc + 1 = pc2) (hd : decode cc pc2 = .ok (.ifCond .lt off, 3)) (ht : (pc2 : Int) + off = (tgt : Int)) (kt : a < b → Z ad kc ks tgt lv st cs) (kf : b ≤ a → Z ad kc ks (pc2 + 3) lv st cs) : Z ad kc ks pc lv (vL b :: vL a :: st) cs := by
  subst hp
  have hz := zcmp_r a b
  refine z_lcmp G ha hb0 hd1 ?_
  exact z_if_lt G tgt (by omega) hd ht (fun h => kt (by omega)) (fun h => kf (by omega))
theorem z_lcmp_le (G : zG Z l X R Ts cc nL own nm ret mc ms Rt) {a b off : Int} (tgt pc2 : Nat) (ha : -9223372036854775808 ≤ a ∧ a ≤ 9223372036854775807) (hb0 : -9223372036854775808 ≤ b ∧ b ≤ 9223372036854775807) (hd1 : decode cc pc = .ok (.lcmp, 1)) (hp : pc + 1 = pc2) (hd : decode cc pc2 = .ok (.ifCond .le off, 3)) (ht : (pc2 : Int) + off = (tgt : Int)) (kt : a ≤ b → Z ad kc ks tgt lv st cs) (kf : b < a → Z ad kc ks (pc2 + 3) lv st cs) : Z ad kc ks pc lv (vL b :: vL a :: st) cs := by
  subst hp
  have hz := zcmp_r a b
  refine z_lcmp G ha hb0 hd1 ?_
  exact z_if_le G tgt (by omega) hd ht (fun h => kt (by omega)) (fun h => kf (by omega))
theorem z_lcmp_gt (G : zG Z l X R Ts cc nL own nm ret mc ms Rt) {a b off : Int} (tgt pc2 : Nat) (ha : -9223372036854775808 ≤ a ∧ a ≤ 9223372036854775807) (hb0 : -9223372036854775808 ≤ b ∧ b ≤ 9223372036854775807) (hd1 : decode cc pc = .ok (.lcmp, 1)) (hp : pc + 1 = pc2) (hd : decode cc pc2 = .ok (.ifCond .gt off, 3)) (ht : (pc2 : Int) + off = (tgt : Int)) (kt : b < a → Z ad kc ks tgt lv st cs) (kf : a ≤ b → Z ad kc ks (pc2 + 3) lv st cs) : Z ad kc ks pc lv (vL b :: vL a :: st) cs := by
  subst hp
  have hz := zcmp_r a b
  refine z_lcmp G ha hb0 hd1 ?_
  exact z_if_gt G tgt (by omega) hd ht (fun h => kt (by omega)) (fun h => kf (by omega))
theorem z_lcmp_ge (G : zG Z l X R Ts cc nL own nm ret mc ms Rt) {a b off : Int} (tgt pc2 : Nat) (ha : -9223372036854775808 ≤ a ∧ a ≤ 9223372036854775807) (hb0 : -9223372036854775808 ≤ b ∧ b ≤ 9223372036854775807) (hd1 : decode cc pc = .ok (.lcmp, 1)) (hp : pc + 1 = pc2) (hd : decode cc pc2 = .ok (.ifCond .ge off, 3)) (ht : (pc2 : Int) + off = (tgt : Int)) (kt : b ≤ a → Z ad kc ks tgt lv st cs) (kf : a < b → Z ad kc ks (pc2 + 3) lv st cs) : Z ad kc ks pc lv (vL b :: vL a :: st) cs := by
  subst hp
  have hz := zcmp_r a b
  refine z_lcmp G ha hb0 hd1 ?_
  exact z_if_ge G tgt (by omega) hd ht (fun h => kt (by omega)) (fun h => kf (by omega))
theorem z_lcmp_eq (G : zG Z l X R Ts cc nL own nm ret mc ms Rt) {a b off : Int} (tgt pc2 : Nat) (ha : -9223372036854775808 ≤ a ∧ a ≤ 9223372036854775807) (hb0 : -9223372036854775808 ≤ b ∧ b ≤ 9223372036854775807) (hd1 : decode cc pc = .ok (.lcmp, 1)) (hp : pc + 1 = pc2) (hd : decode cc pc2 = .ok (.ifCond .eq off, 3)) (ht : (pc2 : Int) + off = (tgt : Int)) (kt : a = b → Z ad kc ks tgt lv st cs) (kf : a ≠ b → Z ad kc ks (pc2 + 3) lv st cs) : Z ad kc ks pc lv (vL b :: vL a :: st) cs := by
  subst hp
  have hz := zcmp_r a b
  refine z_lcmp G ha hb0 hd1 ?_
  exact z_if_eq G tgt (by omega) hd ht (fun h => kt (by omega)) (fun h => kf (by omega))
theorem z_lcmp_ne (G : zG Z l X R Ts cc nL own nm ret mc ms Rt) {a b off : Int} (tgt pc2 : Nat) (ha : -9223372036854775808 ≤ a ∧ a ≤ 9223372036854775807) (hb0 : -9223372036854775808 ≤ b ∧ b ≤ 9223372036854775807) (hd1 : decode cc pc = .ok (.lcmp, 1)) (hp : pc + 1 = pc2) (hd : decode cc pc2 = .ok (.ifCond .ne off, 3)) (ht : (pc2 : Int) + off = (tgt : Int)) (kt : a ≠ b → Z ad kc ks tgt lv st cs) (kf : a = b → Z ad kc ks (pc2 + 3) lv st cs) : Z ad kc ks pc lv (vL b :: vL a :: st) cs := by
  subst hp
  have hz := zcmp_r a b
  refine z_lcmp G ha hb0 hd1 ?_
  exact z_if_ne G tgt (by omega) hd ht (fun h => kt (by omega)) (fun h => kf (by omega))
theorem z_tableOut (G : zG Z l X R Ts cc nL own nm ret mc ms Rt) {dflt lo hi a : Int} {offs : Array Int} {len : Nat} (tgt : Nat) (ha : -2147483648 ≤ a ∧ a ≤ 2147483647) (hd : decode cc pc = .ok (.tableswitch dflt lo hi offs, len)) (h : a < lo ∨ hi < a) (ht : (pc : Int) + dflt = (tgt : Int)) (k : Z ad kc ks tgt lv st cs) : Z ad kc ks pc lv (vI a :: st) cs := by
  obtain ⟨p, e, s, m, args, below, meth, c, A, Q, hx, hb, hml, hlk, hrt, hnm, hts, hown, hK, hA, hE, hR, rfl⟩ := G
  intro H locs ls hP hD hS hl
  exact lv_tableOut hx hb hd (by rw [iI_toInt ha]; exact h) ht (k H locs ls hP hD hS hl)
theorem z_tableIn (G : zG Z l X R Ts cc nL own nm ret mc ms Rt) {dflt lo hi a off : Int} {offs : Array Int} {len : Nat} (tgt : Nat) (ha : -2147483648 ≤ a ∧ a ≤ 2147483647) (hd : decode cc pc = .ok (.tableswitch dflt lo hi offs, len)) (j : Nat) (h : a = lo + j) (h2 : a ≤ hi) (ho : offs[j]? = some off) (ht : (pc : Int) + off = (tgt : Int)) (k : Z ad kc ks tgt lv st cs) : Z ad kc ks pc lv (vI a :: st) cs := by
  obtain ⟨p, e, s, m, args, below, meth, c, A, Q, hx, hb, hml, hlk, hrt, hnm, hts, hown, hK, hA, hE, hR, rfl⟩ := G
  intro H locs ls hP hD hS hl
  refine lv_tableIn hx hb hd (by rw [iI_toInt ha]; omega) (by rw [iI_toInt ha]; omega) ?_ ht (k H locs ls hP hD hS hl)
  rw [iI_toInt ha, h, show lo + (j : Int) - lo = (j : Int) by omega, Int.toNat_natCast]
  exact ho
theorem z_lookup (G : zG Z l X R Ts cc nL own nm ret mc ms Rt) {dflt a off : Int} {ps : Array (Int × Int)} {len : Nat} (tgt : Nat) (ha : -2147483648 ≤ a ∧ a ≤ 2147483647) (hd : decode cc pc = .ok (.lookupswitch dflt ps, len)) (hp : (ps.toList.zip (ps.toList.drop 1)).all (fun (a, next) => a.1 < next.1) = true) (ho : Op.lookupswitch.offset ps.toList dflt a = off) (ht : (pc : Int) + off = (tgt : Int)) (k : Z ad kc ks tgt lv st cs) : Z ad kc ks pc lv (vI a :: st) cs := by
  obtain ⟨p, e, s, m, args, below, meth, c, A, Q, hx, hb, hml, hlk, hrt, hnm, hts, hown, hK, hA, hE, hR, rfl⟩ := G
  intro H locs ls hP hD hS hl
  exact lv_lookup hx hb hd hp (by rw [iI_toInt ha]; exact ho) ht (k H locs ls hP hD hS hl)
theorem z_getf (G : zG Z l X R Ts cc nL own nm ret mc ms Rt) {index : Nat} (b j : Nat) {ci N : Nat} {fs : List Value} {C : String} {T : u_T} (he : cs[b]? = some (OB ci fs)) (hc : vwCl[ci]? = some (C, T, N)) (hj : j < N) (hin : ∀ w ∈ u_ws C T N, w ∈ Ts) {v : Value} (hw : Cond.fieldLink own index (T j).1 (T j).2.1 (T j).2.2.1 ∈ Ts) (hv : fs[j]? = some v) (hd : decode cc pc = .ok (.getfield index, 3)) (k : Z ad kc ks (pc + 3) lv (v :: st) cs) : Z ad kc ks pc lv (.ref (ad b) :: st) cs := by
  obtain ⟨p, e, s, m, args, below, meth, c, A, Q, hx, hb, hml, hlk, hrt, hnm, hts, hown, hK, hA, hE, hR, rfl⟩ := G
  intro H locs ls hP hD hS hl
  exact va_get hx hb hts hin hown hK hP b (zw_at he) hc j hj (hts _ hw) (fun _ h => h) hv hd (k H locs ls hP hD hS hl)
theorem z_getfN (G : zG Z l X R Ts cc nL own nm ret mc ms Rt) {index : Nat} (b j : Nat) {ci N : Nat} {fs : List Value} {C : String} {T : u_T} (he : cs[b]? = some (OB ci fs)) (hc : vwCl[ci]? = some (C, T, N)) (hj : j < N) (hin : ∀ w ∈ u_ws C T N, w ∈ Ts) {v : Value} (hw : (own, index, (T j).1, (T j).2.1, (T j).2.2.1) ∈ nestF) (hv : fs[j]? = some v) (hd : decode cc pc = .ok (.getfield index, 3)) (k : Z ad kc ks (pc + 3) lv (v :: st) cs) : Z ad kc ks pc lv (.ref (ad b) :: st) cs := by
  obtain ⟨p, e, s, m, args, below, meth, c, A, Q, hx, hb, hml, hlk, hrt, hnm, hts, hown, hK, hA, hE, hR, rfl⟩ := G
  intro H locs ls hP hD hS hl
  exact va_getN hx hb hts hin hown hK hP b (zw_at he) hc j hj (va_Nw.use rfl (hE.2.2.2.2.1 _ hw)) (fun _ h => h) hv hd (k H locs ls hP hD hS hl)
theorem z_putf (G : zG Z l X R Ts cc nL own nm ret mc ms Rt) {index : Nat} (b j : Nat) {ci N : Nat} {fs : List Value} {C : String} {T : u_T} (he : cs[b]? = some (OB ci fs)) (hc : vwCl[ci]? = some (C, T, N)) (hj : j < N) (hin : ∀ w ∈ u_ws C T N, w ∈ Ts) (ty0 : Nat → FieldType) (hty : ∀ k, k < N → parseFieldDescriptor (T k).2.2.1 = some (ty0 k)) (hnm2 : ∀ a, a < N → ∀ b, b < N → a ≠ b → (T a).2.1 ≠ (T b).2.1) (hw : Cond.fieldLink own index (T j).1 (T j).2.1 (T j).2.2.1 ∈ Ts) (hfin : (T j).2.2.2 = false) {t : FieldType} {v : Value} (ht : parseFieldDescriptor (T j).2.2.1 = some t) (hn : narrow t v = v) (hfit : fits t v = true) (hlt : j < fs.length) (hcs : cs.set b (OB ci (fs.set j v)) = cs') (hd : decode cc pc = .ok (.putfield index, 3)) (k : Z ad kc ks (pc + 3) lv st cs') : Z ad kc ks pc lv (v :: .ref (ad b) :: st) cs := by
  obtain ⟨p, e, s, m, args, below, meth, c, A, Q, hx, hb, hml, hlk, hrt, hnm, hts, hown, hK, hA, hE, hR, rfl⟩ := G
  intro H locs ls hP hD hS hl
  subst hcs
  refine va_put hx hb hts hin ty0 hty hnm2 hown hK hP hD hS b (zw_at he) hc j hj (hts _ hw) (fun _ h => h) hfin ht hn hfit hlt hd (fun H1 locs1 hP1 hD1 hS1 => ?_)
  rw [zw_set] at hP1 hD1
  exact k H1 locs1 ls hP1 hD1 hS1 hl
theorem z_putfF (G : zG Z l X R Ts cc nL own nm ret mc ms Rt) {index : Nat} (b j : Nat) {ci N : Nat} {fs : List Value} {C : String} {T : u_T} (he : cs[b]? = some (OB ci fs)) (hc : vwCl[ci]? = some (C, T, N)) (hj : j < N) (hin : ∀ w ∈ u_ws C T N, w ∈ Ts) (ty0 : Nat → FieldType) (hty : ∀ k, k < N → parseFieldDescriptor (T k).2.2.1 = some (ty0 k)) (hnm2 : ∀ a, a < N → ∀ b, b < N → a ≠ b → (T a).2.1 ≠ (T b).2.1) (hw : Cond.fieldLink own index (T j).1 (T j).2.1 (T j).2.2.1 ∈ Ts) (hfin : (T j).2.2.2 = true) (hini : nm = "<init>") (hdecl : (T j).1 = own) {t : FieldType} {v : Value} (ht : parseFieldDescriptor (T j).2.2.1 = some t) (hn : narrow t v = v) (hfit : fits t v = true) (hlt : j < fs.length) (hcs : cs.set b (OB ci (fs.set j v)) = cs') (hd : decode cc pc = .ok (.putfield index, 3)) (k : Z ad kc ks (pc + 3) lv st cs') : Z ad kc ks pc lv (v :: .ref (ad b) :: st) cs := by
  obtain ⟨p, e, s, m, args, below, meth, c, A, Q, hx, hb, hml, hlk, hrt, hnm, hts, hown, hK, hA, hE, hR, rfl⟩ := G
  intro H locs ls hP hD hS hl
  subst hcs
  refine va_putF hx hb hts hin ty0 hty hnm2 hown hK hP hD hS b (zw_at he) hc j hj (hts _ hw) (fun _ h => h) hfin (by rw [hnm]; exact hini) hdecl ht hn hfit hlt hd (fun H1 locs1 hP1 hD1 hS1 => ?_)
  rw [zw_set] at hP1 hD1
  exact k H1 locs1 ls hP1 hD1 hS1 hl
theorem z_iald (G : zG Z l X R Ts cc nL own nm ret mc ms Rt) (b t0 : Nat) {cA : ClassId} {N : Nat} {g : Int → Int} {i : Int} (he : cs[b]? = some (IA cA N g)) (ht : (tyX X)[t0]? = some (cA, .int)) (hN : N ≤ 2147483647) (hi : 0 ≤ i ∧ i < N) (hd : decode cc pc = .ok (.iaload, 1)) (k : Z ad kc ks (pc + 1) lv (vI (g i) :: st) cs) : Z ad kc ks pc lv (vI i :: .ref (ad b) :: st) cs := by
  obtain ⟨p, e, s, m, args, below, meth, c, A, Q, hx, hb, hml, hlk, hrt, hnm, hts, hown, hK, hA, hE, hR, rfl⟩ := G
  intro H locs ls hP hD hS hl
  refine va_iald hx hb hK hP b t0 (zw_at he) ht (iI_in hi hN) hd ?_
  rw [iI_clamp (by omega)]
  have h2 : ((i.toNat : Nat) : Int) = i := Int.toNat_of_nonneg hi.1
  simp only [h2]
  exact k H locs ls hP hD hS hl
theorem z_bald (G : zG Z l X R Ts cc nL own nm ret mc ms Rt) (b t0 : Nat) {cA : ClassId} {N : Nat} {g : Int → Int} {i : Int} (he : cs[b]? = some (IA cA N g)) (ht : (tyX X)[t0]? = some (cA, .byte)) (hN : N ≤ 2147483647) (hi : 0 ≤ i ∧ i < N) (hd : decode cc pc = .ok (.baload, 1)) (k : Z ad kc ks (pc + 1) lv (vI (g i) :: st) cs) : Z ad kc ks pc lv (vI i :: .ref (ad b) :: st) cs := by
  obtain ⟨p, e, s, m, args, below, meth, c, A, Q, hx, hb, hml, hlk, hrt, hnm, hts, hown, hK, hA, hE, hR, rfl⟩ := G
  intro H locs ls hP hD hS hl
  refine va_bald hx hb hK hP b t0 (zw_at he) ht (iI_in hi hN) hd ?_
  rw [iI_clamp (by omega)]
  have h2 : ((i.toNat : Nat) : Int) = i := Int.toNat_of_nonneg hi.1
  simp only [h2]
  exact k H locs ls hP hD hS hl
theorem z_zald (G : zG Z l X R Ts cc nL own nm ret mc ms Rt) (b t0 : Nat) {cA : ClassId} {N : Nat} {g : Int → Int} {i : Int} (he : cs[b]? = some (IA cA N g)) (ht : (tyX X)[t0]? = some (cA, .boolean)) (hN : N ≤ 2147483647) (hi : 0 ≤ i ∧ i < N) (hd : decode cc pc = .ok (.baload, 1)) (k : Z ad kc ks (pc + 1) lv (vI (g i) :: st) cs) : Z ad kc ks pc lv (vI i :: .ref (ad b) :: st) cs := by
  obtain ⟨p, e, s, m, args, below, meth, c, A, Q, hx, hb, hml, hlk, hrt, hnm, hts, hown, hK, hA, hE, hR, rfl⟩ := G
  intro H locs ls hP hD hS hl
  refine va_zald hx hb hK hP b t0 (zw_at he) ht (iI_in hi hN) hd ?_
  rw [iI_clamp (by omega)]
  have h2 : ((i.toNat : Nat) : Int) = i := Int.toNat_of_nonneg hi.1
  simp only [h2]
  exact k H locs ls hP hD hS hl
theorem upd_up {g : Int → Int} {i x : Int} (hi : 0 ≤ i) : upd (fun j : Nat => iI (g (j : Int))) i.toNat (iI x) = fun j : Nat => iI (up g i x (j : Int)) := by
  funext j
  by_cases h : j = i.toNat
  · subst h
    rw [Int.toNat_of_nonneg hi, up_eq]
    simp [upd]
  · have h2 : (j : Int) ≠ i := by omega
    rw [up_ne g x h2]
    simp [upd, h]
theorem z_iast (G : zG Z l X R Ts cc nL own nm ret mc ms Rt) (b t0 : Nat) {cA : ClassId} {N : Nat} {g : Int → Int} {i x : Int} (he : cs[b]? = some (IA cA N g)) (ht : (tyX X)[t0]? = some (cA, .int)) (hN : N ≤ 2147483647) (hi : 0 ≤ i ∧ i < N) (hcs : cs.set b (IA cA N (up g i x)) = cs') (hd : decode cc pc = .ok (.iastore, 1)) (k : Z ad kc ks (pc + 1) lv st cs') : Z ad kc ks pc lv (vI x :: vI i :: .ref (ad b) :: st) cs := by
  obtain ⟨p, e, s, m, args, below, meth, c, A, Q, hx, hb, hml, hlk, hrt, hnm, hts, hown, hK, hA, hE, hR, rfl⟩ := G
  intro H locs ls hP hD hS hl
  subst hcs
  refine va_iast hx hb hK hP hD hS b t0 (zw_at he) ht (iI_in hi hN) hd (fun H1 locs1 hP1 hD1 hS1 => ?_)
  rw [iI_clamp (by omega), upd_up hi.1] at hP1 hD1
  rw [show (ad b, (Sum.inl (cA, N, Sum.inl (fun j : Nat => iI (up g i x (j : Int)))) : va_E)) = (ad b, IA cA N (up g i x)) from rfl, zw_set] at hP1 hD1
  exact k H1 locs1 ls hP1 hD1 hS1 hl
theorem z_bast (G : zG Z l X R Ts cc nL own nm ret mc ms Rt) (b t0 : Nat) {cA : ClassId} {N : Nat} {g : Int → Int} {i x : Int} (he : cs[b]? = some (IA cA N g)) (ht : (tyX X)[t0]? = some (cA, .byte)) (hN : N ≤ 2147483647) (hi : 0 ≤ i ∧ i < N) (hx0 : vp_nar .byte (iI x) = iI x) (hcs : cs.set b (IA cA N (up g i x)) = cs') (hd : decode cc pc = .ok (.bastore, 1)) (k : Z ad kc ks (pc + 1) lv st cs') : Z ad kc ks pc lv (vI x :: vI i :: .ref (ad b) :: st) cs := by
  obtain ⟨p, e, s, m, args, below, meth, c, A, Q, hx, hb, hml, hlk, hrt, hnm, hts, hown, hK, hA, hE, hR, rfl⟩ := G
  intro H locs ls hP hD hS hl
  subst hcs
  refine va_bast hx hb hK hP hD hS b t0 (zw_at he) ht (iI_in hi hN) hd (fun H1 locs1 hP1 hD1 hS1 => ?_)
  rw [iI_clamp (by omega), hx0, upd_up hi.1] at hP1 hD1
  rw [show (ad b, (Sum.inl (cA, N, Sum.inl (fun j : Nat => iI (up g i x (j : Int)))) : va_E)) = (ad b, IA cA N (up g i x)) from rfl, zw_set] at hP1 hD1
  exact k H1 locs1 ls hP1 hD1 hS1 hl
theorem z_zast (G : zG Z l X R Ts cc nL own nm ret mc ms Rt) (b t0 : Nat) {cA : ClassId} {N : Nat} {g : Int → Int} {i x : Int} (he : cs[b]? = some (IA cA N g)) (ht : (tyX X)[t0]? = some (cA, .boolean)) (hN : N ≤ 2147483647) (hi : 0 ≤ i ∧ i < N) (hx0 : vp_nar .boolean (iI x) = iI x) (hcs : cs.set b (IA cA N (up g i x)) = cs') (hd : decode cc pc = .ok (.bastore, 1)) (k : Z ad kc ks (pc + 1) lv st cs') : Z ad kc ks pc lv (vI x :: vI i :: .ref (ad b) :: st) cs := by
  obtain ⟨p, e, s, m, args, below, meth, c, A, Q, hx, hb, hml, hlk, hrt, hnm, hts, hown, hK, hA, hE, hR, rfl⟩ := G
  intro H locs ls hP hD hS hl
  subst hcs
  refine va_zast hx hb hK hP hD hS b t0 (zw_at he) ht (iI_in hi hN) hd (fun H1 locs1 hP1 hD1 hS1 => ?_)
  rw [iI_clamp (by omega), hx0, upd_up hi.1] at hP1 hD1
  rw [show (ad b, (Sum.inl (cA, N, Sum.inl (fun j : Nat => iI (up g i x (j : Int)))) : va_E)) = (ad b, IA cA N (up g i x)) from rfl, zw_set] at hP1 hD1
  exact k H1 locs1 ls hP1 hD1 hS1 hl
theorem z_alen (G : zG Z l X R Ts cc nL own nm ret mc ms Rt) (b t0 : Nat) {cA : ClassId} {N : Nat} {g : Int → Int} {t : FieldType} (he : cs[b]? = some (IA cA N g)) (ht : (tyX X)[t0]? = some (cA, t)) (hd : decode cc pc = .ok (.arraylength, 1)) (k : Z ad kc ks (pc + 1) lv (vI N :: st) cs) : Z ad kc ks pc lv (.ref (ad b) :: st) cs := by
  obtain ⟨p, e, s, m, args, below, meth, c, A, Q, hx, hb, hml, hlk, hrt, hnm, hts, hown, hK, hA, hE, hR, rfl⟩ := G
  intro H locs ls hP hD hS hl
  refine va_alen hx hb hK hP b t0 (zw_at he) ht (v := iI N) (by show Int32.ofNat N = Int32.ofInt (N : Int); exact (Int32.ofInt_eq_ofNat).symm) hd ?_
  exact k H locs ls hP hD hS hl
theorem z_iret (G : zG Z l X R Ts cc nL own nm ret mc ms Rt) {v : Int} (hr : ret = some .int) (hd : decode cc pc = .ok (.ireturn, 1)) (h : Rt ad (some (vI v)) cs) : Z ad mc ms pc lv [vI v] cs := by
  obtain ⟨p, e, s, m, args, below, meth, c, A, Q, hx, hb, hml, hlk, hrt, hnm, hts, hown, hK, hA, hE, hR, rfl⟩ := G
  intro H locs ls hP hD hS hl
  obtain ⟨Qc, rfl, hq⟩ := hR _ _ _ h
  exact W.iret (v := iI v) hx hb (hrt.trans hr) (fun t ht hW => hq H locs t hP hD hS ht hW) hS.2.2 hd hlk
theorem z_zret (G : zG Z l X R Ts cc nL own nm ret mc ms Rt) {v : Int} (hr : ret = some .boolean) (hv : v = 0 ∨ v = 1) (hd : decode cc pc = .ok (.ireturn, 1)) (h : Rt ad (some (vI v)) cs) : Z ad mc ms pc lv [vI v] cs := by
  obtain ⟨p, e, s, m, args, below, meth, c, A, Q, hx, hb, hml, hlk, hrt, hnm, hts, hown, hK, hA, hE, hR, rfl⟩ := G
  intro H locs ls hP hD hS hl
  obtain ⟨Qc, rfl, hq⟩ := hR _ _ _ h
  exact W.zret (v := iI v) hx hb (hrt.trans hr) (by rcases hv with rfl | rfl <;> rfl) (fun t ht hW => hq H locs t hP hD hS ht hW) hS.2.2 hd hlk
theorem z_lret (G : zG Z l X R Ts cc nL own nm ret mc ms Rt) {v : Int} (hr : ret = some .long) (hd : decode cc pc = .ok (.lreturn, 1)) (h : Rt ad (some (vL v)) cs) : Z ad mc ms pc lv [vL v] cs := by
  obtain ⟨p, e, s, m, args, below, meth, c, A, Q, hx, hb, hml, hlk, hrt, hnm, hts, hown, hK, hA, hE, hR, rfl⟩ := G
  intro H locs ls hP hD hS hl
  obtain ⟨Qc, rfl, hq⟩ := hR _ _ _ h
  exact W.lret (v := lL v) hx hb (hrt.trans hr) (fun t ht hW => hq H locs t hP hD hS ht hW) hS.2.2 hd hlk
theorem z_vret (G : zG Z l X R Ts cc nL own nm ret mc ms Rt) (hr : ret = none) (hd : decode cc pc = .ok (.return_, 1)) (h : Rt ad none cs) : Z ad mc ms pc lv [] cs := by
  obtain ⟨p, e, s, m, args, below, meth, c, A, Q, hx, hb, hml, hlk, hrt, hnm, hts, hown, hK, hA, hE, hR, rfl⟩ := G
  intro H locs ls hP hD hS hl
  obtain ⟨Qc, rfl, hq⟩ := hR _ _ _ h
  exact W.vret hx hb (hrt.trans hr) (fun t ht hW => hq H locs t hP hD hS ht hW) hS.2.2 hd hlk
end ZR
end
section
/-! ===== calls in a walk Z: the callee's cells are a block of the caller's ===== -/
/-- the callee's own facts -/
def zY (y : MethodName) (ws : List Cond) (bytes : ByteArray) (maxL : Nat) (ret : Option FieldType) (rm : Room) (n : Nat) : Prop :=
  (∃ ws0, ws = Cond.code y bytes maxL ret :: ws0) ∧ rm.cells = 0 ∧ rm.slots = 0 ∧ y.cls ≠ "java/lang/invoke/MethodHandle" ∧ y.cls ≠ "java/lang/invoke/VarHandle" ∧ (parseMethodDescriptor y.desc).map (fun d => d.parameters.length) = some n
theorem blk_at {cs csC : List va_E} {b i : Nat} (hcut : (cs.drop b).take csC.length = csC) {e : va_E} (h : csC[i]? = some e) : cs[b + i]? = some e := by
  have hi : i < csC.length := (List.getElem?_eq_some_iff.mp h).1
  rw [← hcut, List.getElem?_take_of_lt hi, List.getElem?_drop] at h
  exact h
theorem blk_P {D : va_G} {cl : List vw_C} {ad : Nat → Nat} {cs csC : List va_E} {b : Nat} {H : Heap} (hcut : (cs.drop b).take csC.length = csC) (hP : va_P D cl (zw ad cs) H) : va_P D cl (zw (zo ad b) csC) H := by
  intro k q hq
  obtain ⟨e, he, rfl⟩ := zw_of hq
  exact hP (b + k) (ad (b + k), e) (zw_at (blk_at hcut he))
theorem blk_D {A : Nat → Prop} {ad : Nat → Nat} {cs csC : List va_E} {b : Nat} (hcut : (cs.drop b).take csC.length = csC) (hD : va_D A (zw ad cs)) : va_D A (zw (zo ad b) csC) := by
  refine ⟨fun i j p q hi hj hpq => ?_, fun k q hq => ?_⟩
  · obtain ⟨e1, h1, rfl⟩ := zw_of hi
    obtain ⟨e2, h2, rfl⟩ := zw_of hj
    have := hD.1 (b + i) (b + j) _ _ (zw_at (blk_at hcut h1)) (zw_at (blk_at hcut h2)) hpq
    omega
  · obtain ⟨e1, h1, rfl⟩ := zw_of hq
    exact hD.2 (b + k) _ (zw_at (blk_at hcut h1))
theorem blk_free {A : Nat → Prop} {ad : Nat → Nat} {cs csC : List va_E} {b : Nat} {H0 H : Heap} {locs : List Loc} (hcut : (cs.drop b).take csC.length = csC) (hD : va_D A (zw ad cs)) (hS : va_S A H0 H locs) (hA : ∀ q : Nat, H0.size ≤ q → A q) : ∀ q, va_A (zw (zo ad b) csC) H.size q → A q := by
  intro q h
  rcases h with ⟨k, e, h⟩ | h
  · obtain ⟨e1, h1, h2⟩ := zw_of h
    cases h2
    exact hD.2 (b + k) _ (zw_at (blk_at hcut h1))
  · exact hA q (Nat.le_trans hS.1 h)
theorem blk_put {cs csC csC' : List va_E} {b i : Nat} {e : va_E} (hb : b ≤ cs.length) (hlen : csC'.length = csC.length) (h : (cs.take b ++ csC' ++ cs.drop (b + csC.length))[i]? = some e) :
    (i < b ∧ cs[i]? = some e) ∨ (∃ j, i = b + j ∧ csC'[j]? = some e) ∨ (b + csC.length ≤ i ∧ cs[i]? = some e) := by
  have hl : (cs.take b).length = b := by rw [List.length_take]; omega
  by_cases h1 : i < b
  · left
    refine ⟨h1, ?_⟩
    rw [List.append_assoc, List.getElem?_append_left (by omega), List.getElem?_take_of_lt h1] at h
    exact h
  · right
    rw [List.append_assoc, List.getElem?_append_right (by omega), hl] at h
    by_cases h2 : i - b < csC'.length
    · left
      rw [List.getElem?_append_left h2] at h
      exact ⟨i - b, by omega, h⟩
    · right
      rw [List.getElem?_append_right (by omega), List.getElem?_drop] at h
      rw [show b + csC.length + (i - b - csC'.length) = i by omega] at h
      exact ⟨by omega, h⟩
theorem blk_join {D : va_G} {cl : List vw_C} {A : Nat → Prop} {ad : Nat → Nat} {cs csC csC' : List va_E} {b : Nat} {H H1 : Heap} (hcut : (cs.drop b).take csC.length = csC) (hb : b ≤ cs.length) (hlen : csC'.length = csC.length)
    (hP : va_P D cl (zw ad cs) H) (hD : va_D A (zw ad cs)) (hk : ∀ q : Nat, q < H.size → ¬ va_A (zw (zo ad b) csC) H.size q → H1[q]? = H[q]?) (hP1 : va_P D cl (zw (zo ad b) csC') H1) : va_P D cl (zw ad (cs.take b ++ csC' ++ cs.drop (b + csC.length))) H1 := by
  intro k q hq
  obtain ⟨e, he, rfl⟩ := zw_of hq
  have kept : (k < b ∨ b + csC.length ≤ k) → cs[k]? = some e → va_at D cl (ad k, e) H1 := by
    intro ho hc
    have hz := zw_at (ad := ad) hc
    have hat := hP k _ hz
    refine hat.kept (hk (ad k) hat.lt ?_)
    rintro (⟨j, e2, h⟩ | h)
    · obtain ⟨e3, h3, h4⟩ := zw_of h
      have hj : j < csC.length := (List.getElem?_eq_some_iff.mp h3).1
      have h5 := hD.1 k (b + j) _ _ hz (zw_at (blk_at hcut h3)) (show ad k = ad (b + j) from congrArg Prod.fst h4)
      omega
    · have := hat.lt
      have h6 : ad k < H.size := this
      omega
  rcases blk_put hb hlen he with ⟨h1, h2⟩ | ⟨j, rfl, h2⟩ | ⟨h1, h2⟩
  · exact kept (Or.inl h1) h2
  · exact hP1 j _ (zw_at h2)
  · exact kept (Or.inr h1) h2
theorem blk_same {cs csC : List va_E} {b : Nat} (hcut : (cs.drop b).take csC.length = csC) : cs.take b ++ csC ++ cs.drop (b + csC.length) = cs := by
  conv => lhs; rw [← hcut]
  rw [List.append_assoc]
  have h : List.take csC.length (List.drop b cs) ++ List.drop (b + csC.length) cs = List.drop b cs := by
    rw [← List.drop_drop]
    exact List.take_append_drop csC.length (List.drop b cs)
  have h2 : (List.take csC.length (List.drop b cs)).length = csC.length := by rw [hcut]
  rw [h2, h]
  exact List.take_append_drop b cs
section ZK
variable {Z : zT} {l : Launch} {X : zX} {R : Room} {Ts : List Cond} {cc : ByteArray} {nL : Nat} {own nm : String} {ret : Option FieldType} {mc ms : Nat} {Rt : (Nat → Nat) → Option Value → List va_E → Prop} {ad : Nat → Nat} {kc ks pc : Nat} {lv : List (Option Value)} {st stk : List Value} {cs cs2 csC csC' : List va_E}
variable {y : MethodName} {wsC : List Cond} {rm : Room} {bytes : ByteArray} {maxL n index : Nat} {ret' : Option FieldType} {av : List Value} {ov : Option Value}
theorem z_after {p : Program} {e : Env} {s : State} {m : MethodId} {args : Array Value} {below : List Frame} {meth : Method} {c : Code} {A : Nat → Prop} {Q : State → Prop} (b : Nat) {H : Heap} {locs : List Loc} {ls : Array Slot}
    (hA : ∀ q : Nat, s.heap.size ≤ q → A q) (hP : va_P X.1 vwCl (zw ad cs) H) (hD : va_D A (zw ad cs)) (hS : va_S A s.heap H locs) (hl : zl ls nL lv)
    (hcut : (cs.drop b).take csC.length = csC) (hb : b ≤ cs.length) (hlen : csC'.length = csC.length) (hput : cs.take b ++ csC' ++ cs.drop (b + csC.length) = cs2)
    (hr : va_Run p l e R s m args below meth c H locs kc ks 0 0 (F0 m pc ls stk) st (fun st0 oc t => (oc = .returned ov ∧ va_P X.1 vwCl (zw (zo ad b) csC') t.heap) ∧ va_F (va_A (zw (zo ad b) csC) H.size) st0 t) (va_A (zw (zo ad b) csC) H.size))
    (k : zD p l e R s m args below meth c X A Q nL ad kc ks (pc + 3) lv (ov.toList ++ st) cs2) : W p l e R s m args below meth c H locs kc ks Q (F0 m pc ls stk) := by
  have hF := blk_free hcut hD hS hA
  intro T hT XS
  obtain ⟨v, st₀, t, T', L, h0, X', hL, e1, e2, ⟨⟨hv, hp⟩, hz, hk⟩, go⟩ := hr T hT XS
  cases hv
  rw [h0] at hz hk
  have hP2 : va_P X.1 vwCl (zw ad cs2) t.heap := by rw [← hput]; exact blk_join hcut hb hlen hP hD hk hp
  have hD2 : va_D A (zw ad cs2) := zD_len hD (by rw [← hput]; simp only [List.length_append, List.length_take, List.length_drop, hlen]; have := congrArg List.length hcut; simp only [List.length_take, List.length_drop] at this; omega)
  have hS2 : va_S A s.heap t.heap (locs ++ L) := ⟨Nat.le_trans hS.1 hz, fun q h1 h2 => by rw [hk q (Nat.lt_of_lt_of_le h1 hS.1) (fun z => h2 (hF q z))]; exact hS.2.1 q h1 h2, fun q hq => by
      rcases List.mem_append.mp hq with h | h
      · exact hS.2.2 q h
      · exact hF _ (hL q h)⟩
  obtain ⟨t2, a1, b1⟩ := k t.heap (locs ++ L) ls hP2 hD2 hS2 hl T' e1 X'
  exact ⟨t2, go t2 a1, b1⟩
theorem z_callV (G : zG Z l X R Ts cc nL own nm ret mc ms Rt) {C : String} {ci N : Nat} {fs : List Value} {T : u_T} (b : Nat) (hM : zC l X y wsC rm (zo ad b) (.ref (ad b) :: av) csC ov csC') (hY : zY y wsC bytes maxL ret' rm n) (hC : y.cls = C) (hg : GoodIn Ts (wsV own index C y wsC)) (hR : rm.frames + 1 ≤ R.frames ∧ 8 + (maxL + 11) + rm.locals ≤ R.locals)
    (hf : kc ≤ R.cells ∧ ks ≤ R.slots) (hn : av.length = n) (hcut : (cs.drop b).take csC.length = csC) (hb : b ≤ cs.length) (hlen : csC'.length = csC.length) (hrec : csC[0]? = some (OB ci fs)) (hcl : vwCl[ci]? = some (C, T, N))
    (hst : stk = av.reverse ++ .ref (ad b) :: st) (hcat : (st.map fun v => v.category).sum ≤ 8) (hput : cs.take b ++ csC' ++ cs.drop (b + csC.length) = cs2) (hd : decode cc pc = .ok (.invokevirtual index, 3)) (k : Z ad kc ks (pc + 3) lv (ov.toList ++ st) cs2) : Z ad kc ks pc lv stk cs := by
  obtain ⟨p, e, s, m, args, below, meth, c, A, Q, hx, hbb, hml, hlk, hrt, hnm, hts, hown, hK, hA, hE, hR0, rfl⟩ := G
  intro H locs ls hP hD hS hl
  subst hst
  obtain ⟨⟨ws0, hw⟩, hrc, hrs, hy1, hy2, hpd⟩ := hY
  have hPc := blk_P hcut hP
  have hDc := blk_D hcut hD
  exact z_after b hA hP hD hS hl hcut hb hlen hput (va_runV (As := av) (rest := st) ⟨hx, hbb, hml, hown, hts⟩ (hM H.size) (cwV n hts hg hw hrc hrs ⟨hC, hy1, hy2, hpd⟩ hR) ⟨zC_blind, va_recv hK hPc (ci := ci) (q0 := 0) (q := (C, T, N)) (fs := fs) hcl (zw_at hrec), fun U hU hW => ⟨rfl, by rw [hU], by rw [hU]; exact hPc, va_K.moved hW.alike hK, hDc.weaken (fun _ _ _ _ => trivial), by rw [hU]; exact ((hE.kept hS.2.1).narrow (blk_free hcut hD hS hA)).warm hW⟩⟩ rfl hn hl.1 rfl (lv_room hcat) hd hf) k
theorem z_callS (G : zG Z l X R Ts cc nL own nm ret mc ms Rt) (b : Nat) (hM : zC l X y wsC rm (zo ad b) av csC ov csC') (hY : zY y wsC bytes maxL ret' rm n) (hg : GoodIn Ts (va_wsS own index y wsC)) (hR : rm.frames + 1 ≤ R.frames ∧ 8 + (maxL + 11) + rm.locals ≤ R.locals)
    (hf : kc ≤ R.cells ∧ ks ≤ R.slots) (hn : av.length = n) (hcut : (cs.drop b).take csC.length = csC) (hb : b ≤ cs.length) (hlen : csC'.length = csC.length)
    (hst : stk = av.reverse ++ st) (hcat : (st.map fun v => v.category).sum ≤ 8) (hput : cs.take b ++ csC' ++ cs.drop (b + csC.length) = cs2) (hd : decode cc pc = .ok (.invokestatic index, 3)) (k : Z ad kc ks (pc + 3) lv (ov.toList ++ st) cs2) : Z ad kc ks pc lv stk cs := by
  obtain ⟨p, e, s, m, args, below, meth, c, A, Q, hx, hbb, hml, hlk, hrt, hnm, hts, hown, hK, hA, hE, hR0, rfl⟩ := G
  intro H locs ls hP hD hS hl
  subst hst
  obtain ⟨⟨ws0, hw⟩, hrc, hrs, hy1, hy2, hpd⟩ := hY
  have hPc := blk_P hcut hP
  have hDc := blk_D hcut hD
  exact z_after b hA hP hD hS hl hcut hb hlen hput (va_runS (As := av) (rest := st) ⟨hx, hbb, hml, hown, hts⟩ (hM H.size) (va_cwS n hts hg hw hrc hrs ⟨hy1, hy2, hpd⟩ hR) ⟨zC_blind, fun U hU hW => ⟨rfl, by rw [hU], by rw [hU]; exact hPc, va_K.moved hW.alike hK, hDc.weaken (fun _ _ _ _ => trivial), by rw [hU]; exact ((hE.kept hS.2.1).narrow (blk_free hcut hD hS hA)).warm hW⟩⟩ rfl hn hl.1 rfl (lv_room hcat) hd hf) k
/-- a call that leaves the world as it is -/
theorem z_callVr (G : zG Z l X R Ts cc nL own nm ret mc ms Rt) {C : String} {ci N : Nat} {fs : List Value} {T : u_T} (b : Nat) (hM : zC l X y wsC rm (zo ad b) (.ref (ad b) :: av) csC ov csC) (hY : zY y wsC bytes maxL ret' rm n) (hC : y.cls = C) (hg : GoodIn Ts (wsV own index C y wsC)) (hR : rm.frames + 1 ≤ R.frames ∧ 8 + (maxL + 11) + rm.locals ≤ R.locals)
    (hf : kc ≤ R.cells ∧ ks ≤ R.slots) (hn : av.length = n) (hcut : (cs.drop b).take csC.length = csC) (hb : b ≤ cs.length) (hrec : csC[0]? = some (OB ci fs)) (hcl : vwCl[ci]? = some (C, T, N))
    (hst : stk = av.reverse ++ .ref (ad b) :: st) (hcat : (st.map fun v => v.category).sum ≤ 8) (hd : decode cc pc = .ok (.invokevirtual index, 3)) (k : Z ad kc ks (pc + 3) lv (ov.toList ++ st) cs) : Z ad kc ks pc lv stk cs :=
  z_callV G b hM hY hC hg hR hf hn hcut hb rfl hrec hcl hst hcat (blk_same hcut) hd k
theorem z_callSr (G : zG Z l X R Ts cc nL own nm ret mc ms Rt) (b : Nat) (hM : zC l X y wsC rm (zo ad b) av csC ov csC) (hY : zY y wsC bytes maxL ret' rm n) (hg : GoodIn Ts (va_wsS own index y wsC)) (hR : rm.frames + 1 ≤ R.frames ∧ 8 + (maxL + 11) + rm.locals ≤ R.locals)
    (hf : kc ≤ R.cells ∧ ks ≤ R.slots) (hn : av.length = n) (hcut : (cs.drop b).take csC.length = csC) (hb : b ≤ cs.length)
    (hst : stk = av.reverse ++ st) (hcat : (st.map fun v => v.category).sum ≤ 8) (hd : decode cc pc = .ok (.invokestatic index, 3)) (k : Z ad kc ks (pc + 3) lv (ov.toList ++ st) cs) : Z ad kc ks pc lv stk cs :=
  z_callS G b hM hY hg hR hf hn hcut hb rfl hst hcat (blk_same hcut) hd k
end ZK
end
