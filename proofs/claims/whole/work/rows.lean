section
/-- a private method of a class that the tables say can be made, by its rows of tables_1 -/
def lw_okq (q : MethodName × Nat) : Prop := (q.1.cls ≠ "java/lang/invoke/MethodHandle" ∧ q.1.cls ≠ "java/lang/invoke/VarHandle") ∧ Cond.instantiable q.1.cls q.2 ∈ tables_1 ∧ Cond.privateMethod q.1 ∈ tables_1 ∧ Cond.instanceMethod q.1 ∈ tables_1
theorem lw_p0 : lw_okq (⟨"WalnutHouses$Teller", "tell", "(LWalnutHouses$Tape;LWalnutHouses$Nut;)I"⟩, 2) := ⟨⟨by decide +kernel, by decide +kernel⟩, List.mem_of_getElem? (i := 55) (by decide +kernel), List.mem_of_getElem? (i := 179) (by decide +kernel), List.mem_of_getElem? (i := 180) (by decide +kernel)⟩
theorem lw_p1 : lw_okq (⟨"WalnutHouses$Nut", "beginAnew", "()V"⟩, 8) := ⟨⟨by decide +kernel, by decide +kernel⟩, List.mem_of_getElem? (i := 69) (by decide +kernel), List.mem_of_getElem? (i := 183) (by decide +kernel), List.mem_of_getElem? (i := 184) (by decide +kernel)⟩
theorem lw_p2 : lw_okq (⟨"WalnutHouses$Tape", "rewind", "()V"⟩, 6) := ⟨⟨by decide +kernel, by decide +kernel⟩, List.mem_of_getElem? (i := 24) (by decide +kernel), List.mem_of_getElem? (i := 187) (by decide +kernel), List.mem_of_getElem? (i := 188) (by decide +kernel)⟩
theorem lw_p3 : lw_okq (⟨"WalnutHouses$Tape", "readToken", "()V"⟩, 6) := ⟨⟨by decide +kernel, by decide +kernel⟩, List.mem_of_getElem? (i := 24) (by decide +kernel), List.mem_of_getElem? (i := 191) (by decide +kernel), List.mem_of_getElem? (i := 192) (by decide +kernel)⟩
theorem lw_p4 : lw_okq (⟨"WalnutHouses$Tape", "startsWithin", "(CC)Z"⟩, 6) := ⟨⟨by decide +kernel, by decide +kernel⟩, List.mem_of_getElem? (i := 24) (by decide +kernel), List.mem_of_getElem? (i := 195) (by decide +kernel), List.mem_of_getElem? (i := 196) (by decide +kernel)⟩
theorem lw_p5 : lw_okq (⟨"WalnutHouses$Tape", "endOfRun", "(CC)I"⟩, 6) := ⟨⟨by decide +kernel, by decide +kernel⟩, List.mem_of_getElem? (i := 24) (by decide +kernel), List.mem_of_getElem? (i := 199) (by decide +kernel), List.mem_of_getElem? (i := 200) (by decide +kernel)⟩
theorem lw_p6 : lw_okq (⟨"WalnutHouses$Tape", "readFigures", "()V"⟩, 6) := ⟨⟨by decide +kernel, by decide +kernel⟩, List.mem_of_getElem? (i := 24) (by decide +kernel), List.mem_of_getElem? (i := 203) (by decide +kernel), List.mem_of_getElem? (i := 204) (by decide +kernel)⟩
theorem lw_p7 : lw_okq (⟨"WalnutHouses$Teller", "faultOfLine", "(LWalnutHouses$Tape;LWalnutHouses$Nut;)I"⟩, 2) := ⟨⟨by decide +kernel, by decide +kernel⟩, List.mem_of_getElem? (i := 55) (by decide +kernel), List.mem_of_getElem? (i := 207) (by decide +kernel), List.mem_of_getElem? (i := 208) (by decide +kernel)⟩
theorem lw_p8 : lw_okq (⟨"WalnutHouses$Tape", "isNamed", "(Ljava/lang/String;)Z"⟩, 6) := ⟨⟨by decide +kernel, by decide +kernel⟩, List.mem_of_getElem? (i := 24) (by decide +kernel), List.mem_of_getElem? (i := 215) (by decide +kernel), List.mem_of_getElem? (i := 216) (by decide +kernel)⟩
theorem lw_p9 : lw_okq (⟨"WalnutHouses$Nut", "put", "(III)V"⟩, 8) := ⟨⟨by decide +kernel, by decide +kernel⟩, List.mem_of_getElem? (i := 69) (by decide +kernel), List.mem_of_getElem? (i := 279) (by decide +kernel), List.mem_of_getElem? (i := 280) (by decide +kernel)⟩
theorem lw_p10 : lw_okq (⟨"WalnutHouses$Nut", "addMember", "(I)I"⟩, 8) := ⟨⟨by decide +kernel, by decide +kernel⟩, List.mem_of_getElem? (i := 69) (by decide +kernel), List.mem_of_getElem? (i := 283) (by decide +kernel), List.mem_of_getElem? (i := 284) (by decide +kernel)⟩
theorem lw_p11 : lw_okq (⟨"WalnutHouses$Nut", "become", "(LWalnutHouses$Nut;)V"⟩, 8) := ⟨⟨by decide +kernel, by decide +kernel⟩, List.mem_of_getElem? (i := 69) (by decide +kernel), List.mem_of_getElem? (i := 288) (by decide +kernel), List.mem_of_getElem? (i := 289) (by decide +kernel)⟩
theorem lw_p12 : lw_okq (⟨"WalnutHouses$Nut", "isCarried", "()Z"⟩, 8) := ⟨⟨by decide +kernel, by decide +kernel⟩, List.mem_of_getElem? (i := 69) (by decide +kernel), List.mem_of_getElem? (i := 303) (by decide +kernel), List.mem_of_getElem? (i := 304) (by decide +kernel)⟩
theorem lw_p13 : lw_okq (⟨"WalnutHouses$Nut", "agrees", "(I)Z"⟩, 8) := ⟨⟨by decide +kernel, by decide +kernel⟩, List.mem_of_getElem? (i := 69) (by decide +kernel), List.mem_of_getElem? (i := 307) (by decide +kernel), List.mem_of_getElem? (i := 308) (by decide +kernel)⟩
theorem lw_p14 : lw_okq (⟨"WalnutHouses$Nut", "part", "(II)I"⟩, 8) := ⟨⟨by decide +kernel, by decide +kernel⟩, List.mem_of_getElem? (i := 69) (by decide +kernel), List.mem_of_getElem? (i := 311) (by decide +kernel), List.mem_of_getElem? (i := 312) (by decide +kernel)⟩
theorem lw_p15 : lw_okq (⟨"WalnutHouses$Nut", "votesFor", "(II)Z"⟩, 8) := ⟨⟨by decide +kernel, by decide +kernel⟩, List.mem_of_getElem? (i := 69) (by decide +kernel), List.mem_of_getElem? (i := 315) (by decide +kernel), List.mem_of_getElem? (i := 316) (by decide +kernel)⟩
def lw_privs_1 : List (MethodName × Nat) := [(⟨"WalnutHouses$Teller", "tell", "(LWalnutHouses$Tape;LWalnutHouses$Nut;)I"⟩, 2), (⟨"WalnutHouses$Nut", "beginAnew", "()V"⟩, 8), (⟨"WalnutHouses$Tape", "rewind", "()V"⟩, 6), (⟨"WalnutHouses$Tape", "readToken", "()V"⟩, 6), (⟨"WalnutHouses$Tape", "startsWithin", "(CC)Z"⟩, 6), (⟨"WalnutHouses$Tape", "endOfRun", "(CC)I"⟩, 6), (⟨"WalnutHouses$Tape", "readFigures", "()V"⟩, 6), (⟨"WalnutHouses$Teller", "faultOfLine", "(LWalnutHouses$Tape;LWalnutHouses$Nut;)I"⟩, 2), (⟨"WalnutHouses$Tape", "isNamed", "(Ljava/lang/String;)Z"⟩, 6), (⟨"WalnutHouses$Nut", "put", "(III)V"⟩, 8), (⟨"WalnutHouses$Nut", "addMember", "(I)I"⟩, 8), (⟨"WalnutHouses$Nut", "become", "(LWalnutHouses$Nut;)V"⟩, 8), (⟨"WalnutHouses$Nut", "isCarried", "()Z"⟩, 8), (⟨"WalnutHouses$Nut", "agrees", "(I)Z"⟩, 8), (⟨"WalnutHouses$Nut", "part", "(II)I"⟩, 8), (⟨"WalnutHouses$Nut", "votesFor", "(II)Z"⟩, 8)]
theorem lw_r1 : ∀ q ∈ lw_privs_1, lw_okq q := List.forall_mem_cons.mpr ⟨lw_p0, List.forall_mem_cons.mpr ⟨lw_p1, List.forall_mem_cons.mpr ⟨lw_p2, List.forall_mem_cons.mpr ⟨lw_p3, List.forall_mem_cons.mpr ⟨lw_p4, List.forall_mem_cons.mpr ⟨lw_p5, List.forall_mem_cons.mpr ⟨lw_p6, List.forall_mem_cons.mpr ⟨lw_p7, List.forall_mem_cons.mpr ⟨lw_p8, List.forall_mem_cons.mpr ⟨lw_p9, List.forall_mem_cons.mpr ⟨lw_p10, List.forall_mem_cons.mpr ⟨lw_p11, List.forall_mem_cons.mpr ⟨lw_p12, List.forall_mem_cons.mpr ⟨lw_p13, List.forall_mem_cons.mpr ⟨lw_p14, List.forall_mem_cons.mpr ⟨lw_p15, fun _ h => absurd h List.not_mem_nil⟩⟩⟩⟩⟩⟩⟩⟩⟩⟩⟩⟩⟩⟩⟩⟩
theorem lw_p16 : lw_okq (⟨"WalnutHouses$Nut", "agreeingHouses", "()I"⟩, 8) := ⟨⟨by decide +kernel, by decide +kernel⟩, List.mem_of_getElem? (i := 69) (by decide +kernel), List.mem_of_getElem? (i := 322) (by decide +kernel), List.mem_of_getElem? (i := 323) (by decide +kernel)⟩
theorem lw_p17 : lw_okq (⟨"WalnutHouses$Nut", "votersFor", "(I)I"⟩, 8) := ⟨⟨by decide +kernel, by decide +kernel⟩, List.mem_of_getElem? (i := 69) (by decide +kernel), List.mem_of_getElem? (i := 327) (by decide +kernel), List.mem_of_getElem? (i := 328) (by decide +kernel)⟩
theorem lw_p18 : lw_okq (⟨"WalnutHouses", "isMember", "(I)Z"⟩, 11) := ⟨⟨by decide +kernel, by decide +kernel⟩, List.mem_of_getElem? (i := 16) (by decide +kernel), List.mem_of_getElem? (i := 335) (by decide +kernel), List.mem_of_getElem? (i := 336) (by decide +kernel)⟩
theorem lw_p19 : lw_okq (⟨"WalnutHouses$Nut", "pull", "(I)I"⟩, 8) := ⟨⟨by decide +kernel, by decide +kernel⟩, List.mem_of_getElem? (i := 69) (by decide +kernel), List.mem_of_getElem? (i := 341) (by decide +kernel), List.mem_of_getElem? (i := 342) (by decide +kernel)⟩
theorem lw_p20 : lw_okq (⟨"WalnutHouses$Nut", "membersOf", "(I)I"⟩, 8) := ⟨⟨by decide +kernel, by decide +kernel⟩, List.mem_of_getElem? (i := 69) (by decide +kernel), List.mem_of_getElem? (i := 355) (by decide +kernel), List.mem_of_getElem? (i := 356) (by decide +kernel)⟩
theorem lw_p21 : lw_okq (⟨"WalnutHouses$Nut", "pullOf", "(I)I"⟩, 8) := ⟨⟨by decide +kernel, by decide +kernel⟩, List.mem_of_getElem? (i := 69) (by decide +kernel), List.mem_of_getElem? (i := 365) (by decide +kernel), List.mem_of_getElem? (i := 366) (by decide +kernel)⟩
theorem lw_p22 : lw_okq (⟨"WalnutHouses", "canAlter", "(III)Z"⟩, 11) := ⟨⟨by decide +kernel, by decide +kernel⟩, List.mem_of_getElem? (i := 16) (by decide +kernel), List.mem_of_getElem? (i := 374) (by decide +kernel), List.mem_of_getElem? (i := 375) (by decide +kernel)⟩
theorem lw_p23 : lw_okq (⟨"WalnutHouses$Nut", "passDays", "(I)I"⟩, 8) := ⟨⟨by decide +kernel, by decide +kernel⟩, List.mem_of_getElem? (i := 69) (by decide +kernel), List.mem_of_getElem? (i := 397) (by decide +kernel), List.mem_of_getElem? (i := 398) (by decide +kernel)⟩
theorem lw_p24 : lw_okq (⟨"WalnutHouses$Nut", "passDay", "(Z)I"⟩, 8) := ⟨⟨by decide +kernel, by decide +kernel⟩, List.mem_of_getElem? (i := 69) (by decide +kernel), List.mem_of_getElem? (i := 401) (by decide +kernel), List.mem_of_getElem? (i := 402) (by decide +kernel)⟩
theorem lw_p25 : lw_okq (⟨"WalnutHouses$Nut", "sit", "(I)I"⟩, 8) := ⟨⟨by decide +kernel, by decide +kernel⟩, List.mem_of_getElem? (i := 69) (by decide +kernel), List.mem_of_getElem? (i := 406) (by decide +kernel), List.mem_of_getElem? (i := 407) (by decide +kernel)⟩
theorem lw_p26 : lw_okq (⟨"WalnutHouses$Nut", "tire", "(I)V"⟩, 8) := ⟨⟨by decide +kernel, by decide +kernel⟩, List.mem_of_getElem? (i := 69) (by decide +kernel), List.mem_of_getElem? (i := 410) (by decide +kernel), List.mem_of_getElem? (i := 411) (by decide +kernel)⟩
theorem lw_p27 : lw_okq (⟨"WalnutHouses$Nut", "amend", "(I)I"⟩, 8) := ⟨⟨by decide +kernel, by decide +kernel⟩, List.mem_of_getElem? (i := 69) (by decide +kernel), List.mem_of_getElem? (i := 419) (by decide +kernel), List.mem_of_getElem? (i := 420) (by decide +kernel)⟩
theorem lw_p28 : lw_okq (⟨"WalnutHouses$Nut", "sumOf", "(I)I"⟩, 8) := ⟨⟨by decide +kernel, by decide +kernel⟩, List.mem_of_getElem? (i := 69) (by decide +kernel), List.mem_of_getElem? (i := 430) (by decide +kernel), List.mem_of_getElem? (i := 431) (by decide +kernel)⟩
theorem lw_p29 : lw_okq (⟨"WalnutHouses$Nut", "daysToCarry", "()I"⟩, 8) := ⟨⟨by decide +kernel, by decide +kernel⟩, List.mem_of_getElem? (i := 69) (by decide +kernel), List.mem_of_getElem? (i := 442) (by decide +kernel), List.mem_of_getElem? (i := 443) (by decide +kernel)⟩
theorem lw_p30 : lw_okq (⟨"WalnutHouses", "soonest", "(III)I"⟩, 11) := ⟨⟨by decide +kernel, by decide +kernel⟩, List.mem_of_getElem? (i := 16) (by decide +kernel), List.mem_of_getElem? (i := 450) (by decide +kernel), List.mem_of_getElem? (i := 451) (by decide +kernel)⟩
theorem lw_p31 : lw_okq (⟨"WalnutHouses", "soonerWith", "(ZI)I"⟩, 11) := ⟨⟨by decide +kernel, by decide +kernel⟩, List.mem_of_getElem? (i := 16) (by decide +kernel), List.mem_of_getElem? (i := 466) (by decide +kernel), List.mem_of_getElem? (i := 467) (by decide +kernel)⟩
def lw_privs_2 : List (MethodName × Nat) := [(⟨"WalnutHouses$Nut", "agreeingHouses", "()I"⟩, 8), (⟨"WalnutHouses$Nut", "votersFor", "(I)I"⟩, 8), (⟨"WalnutHouses", "isMember", "(I)Z"⟩, 11), (⟨"WalnutHouses$Nut", "pull", "(I)I"⟩, 8), (⟨"WalnutHouses$Nut", "membersOf", "(I)I"⟩, 8), (⟨"WalnutHouses$Nut", "pullOf", "(I)I"⟩, 8), (⟨"WalnutHouses", "canAlter", "(III)Z"⟩, 11), (⟨"WalnutHouses$Nut", "passDays", "(I)I"⟩, 8), (⟨"WalnutHouses$Nut", "passDay", "(Z)I"⟩, 8), (⟨"WalnutHouses$Nut", "sit", "(I)I"⟩, 8), (⟨"WalnutHouses$Nut", "tire", "(I)V"⟩, 8), (⟨"WalnutHouses$Nut", "amend", "(I)I"⟩, 8), (⟨"WalnutHouses$Nut", "sumOf", "(I)I"⟩, 8), (⟨"WalnutHouses$Nut", "daysToCarry", "()I"⟩, 8), (⟨"WalnutHouses", "soonest", "(III)I"⟩, 11), (⟨"WalnutHouses", "soonerWith", "(ZI)I"⟩, 11)]
theorem lw_r2 : ∀ q ∈ lw_privs_2, lw_okq q := List.forall_mem_cons.mpr ⟨lw_p16, List.forall_mem_cons.mpr ⟨lw_p17, List.forall_mem_cons.mpr ⟨lw_p18, List.forall_mem_cons.mpr ⟨lw_p19, List.forall_mem_cons.mpr ⟨lw_p20, List.forall_mem_cons.mpr ⟨lw_p21, List.forall_mem_cons.mpr ⟨lw_p22, List.forall_mem_cons.mpr ⟨lw_p23, List.forall_mem_cons.mpr ⟨lw_p24, List.forall_mem_cons.mpr ⟨lw_p25, List.forall_mem_cons.mpr ⟨lw_p26, List.forall_mem_cons.mpr ⟨lw_p27, List.forall_mem_cons.mpr ⟨lw_p28, List.forall_mem_cons.mpr ⟨lw_p29, List.forall_mem_cons.mpr ⟨lw_p30, List.forall_mem_cons.mpr ⟨lw_p31, fun _ h => absurd h List.not_mem_nil⟩⟩⟩⟩⟩⟩⟩⟩⟩⟩⟩⟩⟩⟩⟩⟩
theorem lw_p32 : lw_okq (⟨"WalnutHouses$Nut", "leaveOut", "(I)V"⟩, 8) := ⟨⟨by decide +kernel, by decide +kernel⟩, List.mem_of_getElem? (i := 69) (by decide +kernel), List.mem_of_getElem? (i := 470) (by decide +kernel), List.mem_of_getElem? (i := 471) (by decide +kernel)⟩
theorem lw_p33 : lw_okq (⟨"WalnutHouses", "byOdds", "(IIIZ)J"⟩, 11) := ⟨⟨by decide +kernel, by decide +kernel⟩, List.mem_of_getElem? (i := 16) (by decide +kernel), List.mem_of_getElem? (i := 495) (by decide +kernel), List.mem_of_getElem? (i := 496) (by decide +kernel)⟩
theorem lw_p34 : lw_okq (⟨"WalnutHouses", "asSeen", "(II)I"⟩, 11) := ⟨⟨by decide +kernel, by decide +kernel⟩, List.mem_of_getElem? (i := 16) (by decide +kernel), List.mem_of_getElem? (i := 522) (by decide +kernel), List.mem_of_getElem? (i := 523) (by decide +kernel)⟩
theorem lw_p35 : lw_okq (⟨"WalnutHouses", "traceWith", "(III)V"⟩, 11) := ⟨⟨by decide +kernel, by decide +kernel⟩, List.mem_of_getElem? (i := 16) (by decide +kernel), List.mem_of_getElem? (i := 526) (by decide +kernel), List.mem_of_getElem? (i := 527) (by decide +kernel)⟩
theorem lw_p36 : lw_okq (⟨"WalnutHouses", "traceIsAsSeen", "()Z"⟩, 11) := ⟨⟨by decide +kernel, by decide +kernel⟩, List.mem_of_getElem? (i := 16) (by decide +kernel), List.mem_of_getElem? (i := 530) (by decide +kernel), List.mem_of_getElem? (i := 531) (by decide +kernel)⟩
theorem lw_p37 : lw_okq (⟨"WalnutHouses", "tallyWants", "(I)I"⟩, 11) := ⟨⟨by decide +kernel, by decide +kernel⟩, List.mem_of_getElem? (i := 16) (by decide +kernel), List.mem_of_getElem? (i := 542) (by decide +kernel), List.mem_of_getElem? (i := 543) (by decide +kernel)⟩
theorem lw_p38 : lw_okq (⟨"WalnutHouses", "worstLeft", "(I)I"⟩, 11) := ⟨⟨by decide +kernel, by decide +kernel⟩, List.mem_of_getElem? (i := 16) (by decide +kernel), List.mem_of_getElem? (i := 549) (by decide +kernel), List.mem_of_getElem? (i := 550) (by decide +kernel)⟩
theorem lw_p39 : lw_okq (⟨"WalnutHouses$Sheet", "renew", "(II)V"⟩, 3) := ⟨⟨by decide +kernel, by decide +kernel⟩, List.mem_of_getElem? (i := 111) (by decide +kernel), List.mem_of_getElem? (i := 571) (by decide +kernel), List.mem_of_getElem? (i := 572) (by decide +kernel)⟩
theorem lw_p40 : lw_okq (⟨"WalnutHouses$Sheet", "faultOfCell", "(I)I"⟩, 3) := ⟨⟨by decide +kernel, by decide +kernel⟩, List.mem_of_getElem? (i := 111) (by decide +kernel), List.mem_of_getElem? (i := 580) (by decide +kernel), List.mem_of_getElem? (i := 581) (by decide +kernel)⟩
theorem lw_p41 : lw_okq (⟨"WalnutHouses$Sheet", "putCell", "(II)V"⟩, 3) := ⟨⟨by decide +kernel, by decide +kernel⟩, List.mem_of_getElem? (i := 111) (by decide +kernel), List.mem_of_getElem? (i := 585) (by decide +kernel), List.mem_of_getElem? (i := 586) (by decide +kernel)⟩
theorem lw_p42 : lw_okq (⟨"WalnutHouses$Sheet", "faultOfPair", "(II)I"⟩, 3) := ⟨⟨by decide +kernel, by decide +kernel⟩, List.mem_of_getElem? (i := 111) (by decide +kernel), List.mem_of_getElem? (i := 593) (by decide +kernel), List.mem_of_getElem? (i := 594) (by decide +kernel)⟩
theorem lw_p43 : lw_okq (⟨"WalnutHousesModel", "firstDraft", "()V"⟩, 27) := ⟨⟨by decide +kernel, by decide +kernel⟩, List.mem_of_getElem? (i := 606) (by decide +kernel), List.mem_of_getElem? (i := 612) (by decide +kernel), List.mem_of_getElem? (i := 613) (by decide +kernel)⟩
theorem lw_p44 : lw_okq (⟨"WalnutHousesModel", "keepDraft", "()V"⟩, 27) := ⟨⟨by decide +kernel, by decide +kernel⟩, List.mem_of_getElem? (i := 606) (by decide +kernel), List.mem_of_getElem? (i := 616) (by decide +kernel), List.mem_of_getElem? (i := 617) (by decide +kernel)⟩
theorem lw_p45 : lw_okq (⟨"WalnutHousesModel", "reads", "()V"⟩, 27) := ⟨⟨by decide +kernel, by decide +kernel⟩, List.mem_of_getElem? (i := 606) (by decide +kernel), List.mem_of_getElem? (i := 718) (by decide +kernel), List.mem_of_getElem? (i := 719) (by decide +kernel)⟩
theorem lw_p46 : lw_okq (⟨"WalnutHousesModel", "byteAt", "(I)I"⟩, 27) := ⟨⟨by decide +kernel, by decide +kernel⟩, List.mem_of_getElem? (i := 606) (by decide +kernel), List.mem_of_getElem? (i := 722) (by decide +kernel), List.mem_of_getElem? (i := 723) (by decide +kernel)⟩
theorem lw_p47 : lw_okq (⟨"WalnutHousesModel", "requires", "(ZI)V"⟩, 27) := ⟨⟨by decide +kernel, by decide +kernel⟩, List.mem_of_getElem? (i := 606) (by decide +kernel), List.mem_of_getElem? (i := 730) (by decide +kernel), List.mem_of_getElem? (i := 731) (by decide +kernel)⟩
def lw_privs_3 : List (MethodName × Nat) := [(⟨"WalnutHouses$Nut", "leaveOut", "(I)V"⟩, 8), (⟨"WalnutHouses", "byOdds", "(IIIZ)J"⟩, 11), (⟨"WalnutHouses", "asSeen", "(II)I"⟩, 11), (⟨"WalnutHouses", "traceWith", "(III)V"⟩, 11), (⟨"WalnutHouses", "traceIsAsSeen", "()Z"⟩, 11), (⟨"WalnutHouses", "tallyWants", "(I)I"⟩, 11), (⟨"WalnutHouses", "worstLeft", "(I)I"⟩, 11), (⟨"WalnutHouses$Sheet", "renew", "(II)V"⟩, 3), (⟨"WalnutHouses$Sheet", "faultOfCell", "(I)I"⟩, 3), (⟨"WalnutHouses$Sheet", "putCell", "(II)V"⟩, 3), (⟨"WalnutHouses$Sheet", "faultOfPair", "(II)I"⟩, 3), (⟨"WalnutHousesModel", "firstDraft", "()V"⟩, 27), (⟨"WalnutHousesModel", "keepDraft", "()V"⟩, 27), (⟨"WalnutHousesModel", "reads", "()V"⟩, 27), (⟨"WalnutHousesModel", "byteAt", "(I)I"⟩, 27), (⟨"WalnutHousesModel", "requires", "(ZI)V"⟩, 27)]
theorem lw_r3 : ∀ q ∈ lw_privs_3, lw_okq q := List.forall_mem_cons.mpr ⟨lw_p32, List.forall_mem_cons.mpr ⟨lw_p33, List.forall_mem_cons.mpr ⟨lw_p34, List.forall_mem_cons.mpr ⟨lw_p35, List.forall_mem_cons.mpr ⟨lw_p36, List.forall_mem_cons.mpr ⟨lw_p37, List.forall_mem_cons.mpr ⟨lw_p38, List.forall_mem_cons.mpr ⟨lw_p39, List.forall_mem_cons.mpr ⟨lw_p40, List.forall_mem_cons.mpr ⟨lw_p41, List.forall_mem_cons.mpr ⟨lw_p42, List.forall_mem_cons.mpr ⟨lw_p43, List.forall_mem_cons.mpr ⟨lw_p44, List.forall_mem_cons.mpr ⟨lw_p45, List.forall_mem_cons.mpr ⟨lw_p46, List.forall_mem_cons.mpr ⟨lw_p47, fun _ h => absurd h List.not_mem_nil⟩⟩⟩⟩⟩⟩⟩⟩⟩⟩⟩⟩⟩⟩⟩⟩
theorem lw_p48 : lw_okq (⟨"WalnutHousesModel", "readLine", "()V"⟩, 27) := ⟨⟨by decide +kernel, by decide +kernel⟩, List.mem_of_getElem? (i := 606) (by decide +kernel), List.mem_of_getElem? (i := 734) (by decide +kernel), List.mem_of_getElem? (i := 735) (by decide +kernel)⟩
theorem lw_p49 : lw_okq (⟨"WalnutHousesModel", "lineNow", "()I"⟩, 27) := ⟨⟨by decide +kernel, by decide +kernel⟩, List.mem_of_getElem? (i := 606) (by decide +kernel), List.mem_of_getElem? (i := 738) (by decide +kernel), List.mem_of_getElem? (i := 739) (by decide +kernel)⟩
theorem lw_p50 : lw_okq (⟨"WalnutHousesModel", "is", "(IIIII)Z"⟩, 27) := ⟨⟨by decide +kernel, by decide +kernel⟩, List.mem_of_getElem? (i := 606) (by decide +kernel), List.mem_of_getElem? (i := 742) (by decide +kernel), List.mem_of_getElem? (i := 743) (by decide +kernel)⟩
theorem lw_p51 : lw_okq (⟨"WalnutHousesModel", "endsIn", "(III)Z"⟩, 27) := ⟨⟨by decide +kernel, by decide +kernel⟩, List.mem_of_getElem? (i := 606) (by decide +kernel), List.mem_of_getElem? (i := 746) (by decide +kernel), List.mem_of_getElem? (i := 747) (by decide +kernel)⟩
theorem lw_p52 : lw_okq (⟨"WalnutHousesModel", "readNumber", "(I)I"⟩, 27) := ⟨⟨by decide +kernel, by decide +kernel⟩, List.mem_of_getElem? (i := 606) (by decide +kernel), List.mem_of_getElem? (i := 750) (by decide +kernel), List.mem_of_getElem? (i := 751) (by decide +kernel)⟩
theorem lw_p53 : lw_okq (⟨"WalnutHousesModel", "readMember", "(I)V"⟩, 27) := ⟨⟨by decide +kernel, by decide +kernel⟩, List.mem_of_getElem? (i := 606) (by decide +kernel), List.mem_of_getElem? (i := 754) (by decide +kernel), List.mem_of_getElem? (i := 755) (by decide +kernel)⟩
theorem lw_p54 : lw_okq (⟨"WalnutHousesModel", "starts", "()V"⟩, 27) := ⟨⟨by decide +kernel, by decide +kernel⟩, List.mem_of_getElem? (i := 606) (by decide +kernel), List.mem_of_getElem? (i := 766) (by decide +kernel), List.mem_of_getElem? (i := 767) (by decide +kernel)⟩
theorem lw_p55 : lw_okq (⟨"WalnutHousesModel", "isCarried", "()Z"⟩, 27) := ⟨⟨by decide +kernel, by decide +kernel⟩, List.mem_of_getElem? (i := 606) (by decide +kernel), List.mem_of_getElem? (i := 770) (by decide +kernel), List.mem_of_getElem? (i := 771) (by decide +kernel)⟩
theorem lw_p56 : lw_okq (⟨"WalnutHousesModel", "agrees", "(I)Z"⟩, 27) := ⟨⟨by decide +kernel, by decide +kernel⟩, List.mem_of_getElem? (i := 606) (by decide +kernel), List.mem_of_getElem? (i := 774) (by decide +kernel), List.mem_of_getElem? (i := 775) (by decide +kernel)⟩
theorem lw_p57 : lw_okq (⟨"WalnutHousesModel", "votesFor", "(I)I"⟩, 27) := ⟨⟨by decide +kernel, by decide +kernel⟩, List.mem_of_getElem? (i := 606) (by decide +kernel), List.mem_of_getElem? (i := 778) (by decide +kernel), List.mem_of_getElem? (i := 779) (by decide +kernel)⟩
theorem lw_p58 : lw_okq (⟨"WalnutHousesModel", "isOf", "(II)Z"⟩, 27) := ⟨⟨by decide +kernel, by decide +kernel⟩, List.mem_of_getElem? (i := 606) (by decide +kernel), List.mem_of_getElem? (i := 782) (by decide +kernel), List.mem_of_getElem? (i := 783) (by decide +kernel)⟩
theorem lw_p59 : lw_okq (⟨"WalnutHousesModel", "of", "(II)I"⟩, 27) := ⟨⟨by decide +kernel, by decide +kernel⟩, List.mem_of_getElem? (i := 606) (by decide +kernel), List.mem_of_getElem? (i := 786) (by decide +kernel), List.mem_of_getElem? (i := 787) (by decide +kernel)⟩
theorem lw_p60 : lw_okq (⟨"WalnutHousesModel", "votes", "(I)Z"⟩, 27) := ⟨⟨by decide +kernel, by decide +kernel⟩, List.mem_of_getElem? (i := 606) (by decide +kernel), List.mem_of_getElem? (i := 790) (by decide +kernel), List.mem_of_getElem? (i := 791) (by decide +kernel)⟩
theorem lw_p61 : lw_okq (⟨"WalnutHousesModel", "awayBy", "(I)I"⟩, 27) := ⟨⟨by decide +kernel, by decide +kernel⟩, List.mem_of_getElem? (i := 606) (by decide +kernel), List.mem_of_getElem? (i := 794) (by decide +kernel), List.mem_of_getElem? (i := 795) (by decide +kernel)⟩
theorem lw_p62 : lw_okq (⟨"WalnutHousesModel", "votesAgainst", "(I)I"⟩, 27) := ⟨⟨by decide +kernel, by decide +kernel⟩, List.mem_of_getElem? (i := 606) (by decide +kernel), List.mem_of_getElem? (i := 801) (by decide +kernel), List.mem_of_getElem? (i := 802) (by decide +kernel)⟩
theorem lw_p63 : lw_okq (⟨"WalnutHousesModel", "agreeing", "()I"⟩, 27) := ⟨⟨by decide +kernel, by decide +kernel⟩, List.mem_of_getElem? (i := 606) (by decide +kernel), List.mem_of_getElem? (i := 805) (by decide +kernel), List.mem_of_getElem? (i := 806) (by decide +kernel)⟩
def lw_privs_4 : List (MethodName × Nat) := [(⟨"WalnutHousesModel", "readLine", "()V"⟩, 27), (⟨"WalnutHousesModel", "lineNow", "()I"⟩, 27), (⟨"WalnutHousesModel", "is", "(IIIII)Z"⟩, 27), (⟨"WalnutHousesModel", "endsIn", "(III)Z"⟩, 27), (⟨"WalnutHousesModel", "readNumber", "(I)I"⟩, 27), (⟨"WalnutHousesModel", "readMember", "(I)V"⟩, 27), (⟨"WalnutHousesModel", "starts", "()V"⟩, 27), (⟨"WalnutHousesModel", "isCarried", "()Z"⟩, 27), (⟨"WalnutHousesModel", "agrees", "(I)Z"⟩, 27), (⟨"WalnutHousesModel", "votesFor", "(I)I"⟩, 27), (⟨"WalnutHousesModel", "isOf", "(II)Z"⟩, 27), (⟨"WalnutHousesModel", "of", "(II)I"⟩, 27), (⟨"WalnutHousesModel", "votes", "(I)Z"⟩, 27), (⟨"WalnutHousesModel", "awayBy", "(I)I"⟩, 27), (⟨"WalnutHousesModel", "votesAgainst", "(I)I"⟩, 27), (⟨"WalnutHousesModel", "agreeing", "()I"⟩, 27)]
theorem lw_r4 : ∀ q ∈ lw_privs_4, lw_okq q := List.forall_mem_cons.mpr ⟨lw_p48, List.forall_mem_cons.mpr ⟨lw_p49, List.forall_mem_cons.mpr ⟨lw_p50, List.forall_mem_cons.mpr ⟨lw_p51, List.forall_mem_cons.mpr ⟨lw_p52, List.forall_mem_cons.mpr ⟨lw_p53, List.forall_mem_cons.mpr ⟨lw_p54, List.forall_mem_cons.mpr ⟨lw_p55, List.forall_mem_cons.mpr ⟨lw_p56, List.forall_mem_cons.mpr ⟨lw_p57, List.forall_mem_cons.mpr ⟨lw_p58, List.forall_mem_cons.mpr ⟨lw_p59, List.forall_mem_cons.mpr ⟨lw_p60, List.forall_mem_cons.mpr ⟨lw_p61, List.forall_mem_cons.mpr ⟨lw_p62, List.forall_mem_cons.mpr ⟨lw_p63, fun _ h => absurd h List.not_mem_nil⟩⟩⟩⟩⟩⟩⟩⟩⟩⟩⟩⟩⟩⟩⟩⟩
theorem lw_p64 : lw_okq (⟨"WalnutHousesModel", "votingNow", "()I"⟩, 27) := ⟨⟨by decide +kernel, by decide +kernel⟩, List.mem_of_getElem? (i := 606) (by decide +kernel), List.mem_of_getElem? (i := 809) (by decide +kernel), List.mem_of_getElem? (i := 810) (by decide +kernel)⟩
theorem lw_p65 : lw_okq (⟨"WalnutHousesModel", "isMember", "(I)Z"⟩, 27) := ⟨⟨by decide +kernel, by decide +kernel⟩, List.mem_of_getElem? (i := 606) (by decide +kernel), List.mem_of_getElem? (i := 817) (by decide +kernel), List.mem_of_getElem? (i := 818) (by decide +kernel)⟩
theorem lw_p66 : lw_okq (⟨"WalnutHousesModel", "pull", "(I)I"⟩, 27) := ⟨⟨by decide +kernel, by decide +kernel⟩, List.mem_of_getElem? (i := 606) (by decide +kernel), List.mem_of_getElem? (i := 822) (by decide +kernel), List.mem_of_getElem? (i := 823) (by decide +kernel)⟩
theorem lw_p67 : lw_okq (⟨"WalnutHousesModel", "pullOfAll", "(I)I"⟩, 27) := ⟨⟨by decide +kernel, by decide +kernel⟩, List.mem_of_getElem? (i := 606) (by decide +kernel), List.mem_of_getElem? (i := 835) (by decide +kernel), List.mem_of_getElem? (i := 836) (by decide +kernel)⟩
theorem lw_p68 : lw_okq (⟨"WalnutHousesModel", "becomes", "(II)I"⟩, 27) := ⟨⟨by decide +kernel, by decide +kernel⟩, List.mem_of_getElem? (i := 606) (by decide +kernel), List.mem_of_getElem? (i := 844) (by decide +kernel), List.mem_of_getElem? (i := 845) (by decide +kernel)⟩
theorem lw_p69 : lw_okq (⟨"WalnutHousesModel", "daysGo", "(I)V"⟩, 27) := ⟨⟨by decide +kernel, by decide +kernel⟩, List.mem_of_getElem? (i := 606) (by decide +kernel), List.mem_of_getElem? (i := 869) (by decide +kernel), List.mem_of_getElem? (i := 870) (by decide +kernel)⟩
theorem lw_p70 : lw_okq (⟨"WalnutHousesModel", "dayGoes", "(Z)V"⟩, 27) := ⟨⟨by decide +kernel, by decide +kernel⟩, List.mem_of_getElem? (i := 606) (by decide +kernel), List.mem_of_getElem? (i := 873) (by decide +kernel), List.mem_of_getElem? (i := 874) (by decide +kernel)⟩
theorem lw_p71 : lw_okq (⟨"WalnutHousesModel", "sits", "(I)V"⟩, 27) := ⟨⟨by decide +kernel, by decide +kernel⟩, List.mem_of_getElem? (i := 606) (by decide +kernel), List.mem_of_getElem? (i := 877) (by decide +kernel), List.mem_of_getElem? (i := 878) (by decide +kernel)⟩
theorem lw_p72 : lw_okq (⟨"WalnutHousesModel", "becomesOf", "(III)V"⟩, 27) := ⟨⟨by decide +kernel, by decide +kernel⟩, List.mem_of_getElem? (i := 606) (by decide +kernel), List.mem_of_getElem? (i := 887) (by decide +kernel), List.mem_of_getElem? (i := 888) (by decide +kernel)⟩
theorem lw_p73 : lw_okq (⟨"WalnutHousesModel", "settles", "()V"⟩, 27) := ⟨⟨by decide +kernel, by decide +kernel⟩, List.mem_of_getElem? (i := 606) (by decide +kernel), List.mem_of_getElem? (i := 891) (by decide +kernel), List.mem_of_getElem? (i := 892) (by decide +kernel)⟩
theorem lw_p74 : lw_okq (⟨"WalnutHousesModel", "sumOf", "(I)I"⟩, 27) := ⟨⟨by decide +kernel, by decide +kernel⟩, List.mem_of_getElem? (i := 606) (by decide +kernel), List.mem_of_getElem? (i := 904) (by decide +kernel), List.mem_of_getElem? (i := 905) (by decide +kernel)⟩
theorem lw_p75 : lw_okq (⟨"WalnutHousesModel", "daysTo", "()I"⟩, 27) := ⟨⟨by decide +kernel, by decide +kernel⟩, List.mem_of_getElem? (i := 606) (by decide +kernel), List.mem_of_getElem? (i := 916) (by decide +kernel), List.mem_of_getElem? (i := 917) (by decide +kernel)⟩
theorem lw_p76 : lw_okq (⟨"WalnutHousesModel", "startsJudging", "(I)V"⟩, 27) := ⟨⟨by decide +kernel, by decide +kernel⟩, List.mem_of_getElem? (i := 606) (by decide +kernel), List.mem_of_getElem? (i := 927) (by decide +kernel), List.mem_of_getElem? (i := 928) (by decide +kernel)⟩
theorem lw_p77 : lw_okq (⟨"WalnutHousesModel", "judges", "(II)V"⟩, 27) := ⟨⟨by decide +kernel, by decide +kernel⟩, List.mem_of_getElem? (i := 606) (by decide +kernel), List.mem_of_getElem? (i := 932) (by decide +kernel), List.mem_of_getElem? (i := 933) (by decide +kernel)⟩
theorem lw_p78 : lw_okq (⟨"WalnutHousesModel", "judged", "(I)I"⟩, 27) := ⟨⟨by decide +kernel, by decide +kernel⟩, List.mem_of_getElem? (i := 606) (by decide +kernel), List.mem_of_getElem? (i := 936) (by decide +kernel), List.mem_of_getElem? (i := 937) (by decide +kernel)⟩
theorem lw_p79 : lw_okq (⟨"WalnutHousesModel", "soonestNow", "()I"⟩, 27) := ⟨⟨by decide +kernel, by decide +kernel⟩, List.mem_of_getElem? (i := 606) (by decide +kernel), List.mem_of_getElem? (i := 952) (by decide +kernel), List.mem_of_getElem? (i := 953) (by decide +kernel)⟩
def lw_privs_5 : List (MethodName × Nat) := [(⟨"WalnutHousesModel", "votingNow", "()I"⟩, 27), (⟨"WalnutHousesModel", "isMember", "(I)Z"⟩, 27), (⟨"WalnutHousesModel", "pull", "(I)I"⟩, 27), (⟨"WalnutHousesModel", "pullOfAll", "(I)I"⟩, 27), (⟨"WalnutHousesModel", "becomes", "(II)I"⟩, 27), (⟨"WalnutHousesModel", "daysGo", "(I)V"⟩, 27), (⟨"WalnutHousesModel", "dayGoes", "(Z)V"⟩, 27), (⟨"WalnutHousesModel", "sits", "(I)V"⟩, 27), (⟨"WalnutHousesModel", "becomesOf", "(III)V"⟩, 27), (⟨"WalnutHousesModel", "settles", "()V"⟩, 27), (⟨"WalnutHousesModel", "sumOf", "(I)I"⟩, 27), (⟨"WalnutHousesModel", "daysTo", "()I"⟩, 27), (⟨"WalnutHousesModel", "startsJudging", "(I)V"⟩, 27), (⟨"WalnutHousesModel", "judges", "(II)V"⟩, 27), (⟨"WalnutHousesModel", "judged", "(I)I"⟩, 27), (⟨"WalnutHousesModel", "soonestNow", "()I"⟩, 27)]
theorem lw_r5 : ∀ q ∈ lw_privs_5, lw_okq q := List.forall_mem_cons.mpr ⟨lw_p64, List.forall_mem_cons.mpr ⟨lw_p65, List.forall_mem_cons.mpr ⟨lw_p66, List.forall_mem_cons.mpr ⟨lw_p67, List.forall_mem_cons.mpr ⟨lw_p68, List.forall_mem_cons.mpr ⟨lw_p69, List.forall_mem_cons.mpr ⟨lw_p70, List.forall_mem_cons.mpr ⟨lw_p71, List.forall_mem_cons.mpr ⟨lw_p72, List.forall_mem_cons.mpr ⟨lw_p73, List.forall_mem_cons.mpr ⟨lw_p74, List.forall_mem_cons.mpr ⟨lw_p75, List.forall_mem_cons.mpr ⟨lw_p76, List.forall_mem_cons.mpr ⟨lw_p77, List.forall_mem_cons.mpr ⟨lw_p78, List.forall_mem_cons.mpr ⟨lw_p79, fun _ h => absurd h List.not_mem_nil⟩⟩⟩⟩⟩⟩⟩⟩⟩⟩⟩⟩⟩⟩⟩⟩
theorem lw_p80 : lw_okq (⟨"WalnutHousesModel", "soonestBy", "(IIII)I"⟩, 27) := ⟨⟨by decide +kernel, by decide +kernel⟩, List.mem_of_getElem? (i := 606) (by decide +kernel), List.mem_of_getElem? (i := 968) (by decide +kernel), List.mem_of_getElem? (i := 969) (by decide +kernel)⟩
theorem lw_p81 : lw_okq (⟨"WalnutHousesModel", "findOdds", "(II)V"⟩, 27) := ⟨⟨by decide +kernel, by decide +kernel⟩, List.mem_of_getElem? (i := 606) (by decide +kernel), List.mem_of_getElem? (i := 986) (by decide +kernel), List.mem_of_getElem? (i := 987) (by decide +kernel)⟩
theorem lw_p82 : lw_okq (⟨"WalnutHousesModel", "which", "(II)I"⟩, 27) := ⟨⟨by decide +kernel, by decide +kernel⟩, List.mem_of_getElem? (i := 606) (by decide +kernel), List.mem_of_getElem? (i := 1012) (by decide +kernel), List.mem_of_getElem? (i := 1013) (by decide +kernel)⟩
theorem lw_p83 : lw_okq (⟨"WalnutHousesModel", "isSoWith", "(II)Z"⟩, 27) := ⟨⟨by decide +kernel, by decide +kernel⟩, List.mem_of_getElem? (i := 606) (by decide +kernel), List.mem_of_getElem? (i := 1016) (by decide +kernel), List.mem_of_getElem? (i := 1017) (by decide +kernel)⟩
theorem lw_p84 : lw_okq (⟨"WalnutHousesModel", "copies", "(II)V"⟩, 27) := ⟨⟨by decide +kernel, by decide +kernel⟩, List.mem_of_getElem? (i := 606) (by decide +kernel), List.mem_of_getElem? (i := 1037) (by decide +kernel), List.mem_of_getElem? (i := 1038) (by decide +kernel)⟩
def lw_privs_6 : List (MethodName × Nat) := [(⟨"WalnutHousesModel", "soonestBy", "(IIII)I"⟩, 27), (⟨"WalnutHousesModel", "findOdds", "(II)V"⟩, 27), (⟨"WalnutHousesModel", "which", "(II)I"⟩, 27), (⟨"WalnutHousesModel", "isSoWith", "(II)Z"⟩, 27), (⟨"WalnutHousesModel", "copies", "(II)V"⟩, 27)]
theorem lw_r6 : ∀ q ∈ lw_privs_6, lw_okq q := List.forall_mem_cons.mpr ⟨lw_p80, List.forall_mem_cons.mpr ⟨lw_p81, List.forall_mem_cons.mpr ⟨lw_p82, List.forall_mem_cons.mpr ⟨lw_p83, List.forall_mem_cons.mpr ⟨lw_p84, fun _ h => absurd h List.not_mem_nil⟩⟩⟩⟩⟩
def lw_privs : List (MethodName × Nat) := lw_privs_1 ++ (lw_privs_2 ++ (lw_privs_3 ++ (lw_privs_4 ++ (lw_privs_5 ++ (lw_privs_6)))))
def lw_tbl : List Cond := k2_sels lw_privs ++ tables_1
theorem lw_privs_ok : ∀ q ∈ lw_privs, lw_okq q := by
  show ∀ q ∈ lw_privs_1 ++ (lw_privs_2 ++ (lw_privs_3 ++ (lw_privs_4 ++ (lw_privs_5 ++ (lw_privs_6))))), lw_okq q
  exact List.forall_mem_append.mpr ⟨lw_r1, List.forall_mem_append.mpr ⟨lw_r2, List.forall_mem_append.mpr ⟨lw_r3, List.forall_mem_append.mpr ⟨lw_r4, List.forall_mem_append.mpr ⟨lw_r5, lw_r6⟩⟩⟩⟩⟩
end
section
/-! ===== BEGIN printed: names, fields, word lists, decode rows ===== -/
def RX0 : String := "WalnutHouses$Nut"
def TX0 : u_T := fun k => match k with
  | 0 => ("WalnutHouses$Nut", "parts", "[I", true)
  | 1 => ("WalnutHouses$Nut", "seenDay", "[I", true)
  | 2 => ("WalnutHouses$Nut", "seenMotion", "[I", true)
  | 3 => ("WalnutHouses$Nut", "members", "I", false)
  | 4 => ("WalnutHouses$Nut", "motion", "I", false)
  | 5 => ("WalnutHouses$Nut", "day", "I", false)
  | 6 => ("WalnutHouses$Nut", "amendments", "I", false)
  | _ => ("WalnutHouses$Nut", "seen", "I", false)
def tyX0 : Nat → FieldType := fun k => match k with
  | 0 => .array .int
  | 1 => .array .int
  | 2 => .array .int
  | 3 => .int
  | 4 => .int
  | 5 => .int
  | 6 => .int
  | _ => .int
abbrev wsX00 : List Cond := u_ws RX0 TX0 8
theorem nmX0 : ∀ a, a < 8 → ∀ b, b < 8 → a ≠ b → (TX0 a).2.1 ≠ (TX0 b).2.1 := by decide +kernel
theorem tyX0_ok : ∀ k, k < 8 → parseFieldDescriptor (TX0 k).2.2.1 = some (tyX0 k) := by decide +kernel
abbrev cX0_init : ByteArray := prog_2_method_1_code
def yX0_init : MethodName := ⟨RX0, "<init>", "()V"⟩
abbrev cX0_become : ByteArray := prog_2_method_2_code
def yX0_become : MethodName := ⟨RX0, "become", "(LWalnutHouses$Nut;)V"⟩
abbrev cX0_beginAnew : ByteArray := prog_2_method_3_code
def yX0_beginAnew : MethodName := ⟨RX0, "beginAnew", "()V"⟩
abbrev cX0_part : ByteArray := prog_2_method_4_code
def yX0_part : MethodName := ⟨RX0, "part", "(II)I"⟩
abbrev cX0_put : ByteArray := prog_2_method_5_code
def yX0_put : MethodName := ⟨RX0, "put", "(III)V"⟩
abbrev cX0_addMember : ByteArray := prog_2_method_6_code
def yX0_addMember : MethodName := ⟨RX0, "addMember", "(I)I"⟩
abbrev cX0_leaveOut : ByteArray := prog_2_method_7_code
def yX0_leaveOut : MethodName := ⟨RX0, "leaveOut", "(I)V"⟩
abbrev cX0_sumOf : ByteArray := prog_2_method_8_code
def yX0_sumOf : MethodName := ⟨RX0, "sumOf", "(I)I"⟩
abbrev cX0_votesFor : ByteArray := prog_2_method_9_code
def yX0_votesFor : MethodName := ⟨RX0, "votesFor", "(II)Z"⟩
abbrev cX0_votersFor : ByteArray := prog_2_method_10_code
def yX0_votersFor : MethodName := ⟨RX0, "votersFor", "(I)I"⟩
abbrev cX0_membersOf : ByteArray := prog_2_method_11_code
def yX0_membersOf : MethodName := ⟨RX0, "membersOf", "(I)I"⟩
abbrev cX0_agrees : ByteArray := prog_2_method_12_code
def yX0_agrees : MethodName := ⟨RX0, "agrees", "(I)Z"⟩
abbrev cX0_agreeingHouses : ByteArray := prog_2_method_13_code
def yX0_agreeingHouses : MethodName := ⟨RX0, "agreeingHouses", "()I"⟩
abbrev cX0_isCarried : ByteArray := prog_2_method_14_code
def yX0_isCarried : MethodName := ⟨RX0, "isCarried", "()Z"⟩
abbrev cX0_pull : ByteArray := prog_2_method_15_code
def yX0_pull : MethodName := ⟨RX0, "pull", "(I)I"⟩
abbrev cX0_pullOf : ByteArray := prog_2_method_16_code
def yX0_pullOf : MethodName := ⟨RX0, "pullOf", "(I)I"⟩
abbrev cX0_passDays : ByteArray := prog_2_method_17_code
def yX0_passDays : MethodName := ⟨RX0, "passDays", "(I)I"⟩
abbrev cX0_passDay : ByteArray := prog_2_method_18_code
def yX0_passDay : MethodName := ⟨RX0, "passDay", "(Z)I"⟩
abbrev cX0_sit : ByteArray := prog_2_method_19_code
def yX0_sit : MethodName := ⟨RX0, "sit", "(I)I"⟩
abbrev cX0_tire : ByteArray := prog_2_method_20_code
def yX0_tire : MethodName := ⟨RX0, "tire", "(I)V"⟩
abbrev cX0_amend : ByteArray := prog_2_method_21_code
def yX0_amend : MethodName := ⟨RX0, "amend", "(I)I"⟩
abbrev cX0_daysToCarry : ByteArray := prog_2_method_22_code
def yX0_daysToCarry : MethodName := ⟨RX0, "daysToCarry", "()I"⟩
def RX1 : String := "WalnutHouses$Sheet"
def TX1 : u_T := fun k => match k with
  | 0 => ("WalnutHouses$Sheet", "cells", "[I", true)
  | 1 => ("WalnutHouses$Sheet", "lane", "I", false)
  | _ => ("WalnutHouses$Sheet", "size", "I", false)
def tyX1 : Nat → FieldType := fun k => match k with
  | 0 => .array .int
  | 1 => .int
  | _ => .int
abbrev wsX10 : List Cond := u_ws RX1 TX1 3
theorem nmX1 : ∀ a, a < 3 → ∀ b, b < 3 → a ≠ b → (TX1 a).2.1 ≠ (TX1 b).2.1 := by decide +kernel
theorem tyX1_ok : ∀ k, k < 3 → parseFieldDescriptor (TX1 k).2.2.1 = some (tyX1 k) := by decide +kernel
abbrev cX1_init : ByteArray := prog_3_method_1_code
def yX1_init : MethodName := ⟨RX1, "<init>", "()V"⟩
abbrev cX1_renew : ByteArray := prog_3_method_2_code
def yX1_renew : MethodName := ⟨RX1, "renew", "(II)V"⟩
abbrev cX1_faultOfCell : ByteArray := prog_3_method_3_code
def yX1_faultOfCell : MethodName := ⟨RX1, "faultOfCell", "(I)I"⟩
abbrev cX1_faultOfPair : ByteArray := prog_3_method_4_code
def yX1_faultOfPair : MethodName := ⟨RX1, "faultOfPair", "(II)I"⟩
abbrev cX1_putCell : ByteArray := prog_3_method_5_code
def yX1_putCell : MethodName := ⟨RX1, "putCell", "(II)V"⟩
def RX2 : String := "WalnutHouses$Tape"
def TX2 : u_T := fun k => match k with
  | 0 => ("WalnutHouses$Tape", "bytes", "[B", true)
  | 1 => ("WalnutHouses$Tape", "length", "I", false)
  | 2 => ("WalnutHouses$Tape", "token", "I", false)
  | 3 => ("WalnutHouses$Tape", "start", "I", false)
  | 4 => ("WalnutHouses$Tape", "next", "I", false)
  | _ => ("WalnutHouses$Tape", "number", "I", false)
def tyX2 : Nat → FieldType := fun k => match k with
  | 0 => .array .byte
  | 1 => .int
  | 2 => .int
  | 3 => .int
  | 4 => .int
  | _ => .int
abbrev wsX20 : List Cond := u_ws RX2 TX2 6
theorem nmX2 : ∀ a, a < 6 → ∀ b, b < 6 → a ≠ b → (TX2 a).2.1 ≠ (TX2 b).2.1 := by decide +kernel
theorem tyX2_ok : ∀ k, k < 6 → parseFieldDescriptor (TX2 k).2.2.1 = some (tyX2 k) := by decide +kernel
abbrev cX2_init : ByteArray := prog_4_method_1_code
def yX2_init : MethodName := ⟨RX2, "<init>", "()V"⟩
abbrev cX2_rewind : ByteArray := prog_4_method_2_code
def yX2_rewind : MethodName := ⟨RX2, "rewind", "()V"⟩
abbrev cX2_readToken : ByteArray := prog_4_method_3_code
def yX2_readToken : MethodName := ⟨RX2, "readToken", "()V"⟩
abbrev cX2_startsWithin : ByteArray := prog_4_method_4_code
def yX2_startsWithin : MethodName := ⟨RX2, "startsWithin", "(CC)Z"⟩
abbrev cX2_endOfRun : ByteArray := prog_4_method_5_code
def yX2_endOfRun : MethodName := ⟨RX2, "endOfRun", "(CC)I"⟩
abbrev cX2_readFigures : ByteArray := prog_4_method_6_code
def yX2_readFigures : MethodName := ⟨RX2, "readFigures", "()V"⟩
abbrev cX2_isNamed : ByteArray := prog_4_method_7_code
def yX2_isNamed : MethodName := ⟨RX2, "isNamed", "(Ljava/lang/String;)Z"⟩
def RX3 : String := "WalnutHouses$Teller"
def TX3 : u_T := fun k => match k with
  | 0 => ("WalnutHouses$Teller", "found", "I", false)
  | _ => ("WalnutHouses$Teller", "motionTold", "Z", false)
def tyX3 : Nat → FieldType := fun k => match k with
  | 0 => .int
  | _ => .boolean
abbrev wsX30 : List Cond := u_ws RX3 TX3 2
theorem nmX3 : ∀ a, a < 2 → ∀ b, b < 2 → a ≠ b → (TX3 a).2.1 ≠ (TX3 b).2.1 := by decide +kernel
theorem tyX3_ok : ∀ k, k < 2 → parseFieldDescriptor (TX3 k).2.2.1 = some (tyX3 k) := by decide +kernel
abbrev cX3_init : ByteArray := prog_5_method_1_code
def yX3_init : MethodName := ⟨RX3, "<init>", "()V"⟩
abbrev cX3_tell : ByteArray := prog_5_method_2_code
def yX3_tell : MethodName := ⟨RX3, "tell", "(LWalnutHouses$Tape;LWalnutHouses$Nut;)I"⟩
abbrev cX3_faultOfLine : ByteArray := prog_5_method_3_code
def yX3_faultOfLine : MethodName := ⟨RX3, "faultOfLine", "(LWalnutHouses$Tape;LWalnutHouses$Nut;)I"⟩
abbrev cX3_wordOf : ByteArray := prog_5_method_4_code
def yX3_wordOf : MethodName := ⟨RX3, "wordOf", "(LWalnutHouses$Tape;)I"⟩
abbrev cX3_faultOfNumbers : ByteArray := prog_5_method_5_code
def yX3_faultOfNumbers : MethodName := ⟨RX3, "faultOfNumbers", "(LWalnutHouses$Tape;LWalnutHouses$Nut;III)I"⟩
abbrev cX3_faultOfToken : ByteArray := prog_5_method_6_code
def yX3_faultOfToken : MethodName := ⟨RX3, "faultOfToken", "(LWalnutHouses$Tape;I)I"⟩
def RX4 : String := "WalnutHouses"
def TX4 : u_T := fun k => match k with
  | 0 => ("WalnutHouses", "tape", "LWalnutHouses$Tape;", true)
  | 1 => ("WalnutHouses", "teller", "LWalnutHouses$Teller;", true)
  | 2 => ("WalnutHouses", "now", "LWalnutHouses$Nut;", true)
  | 3 => ("WalnutHouses", "trial", "LWalnutHouses$Nut;", true)
  | 4 => ("WalnutHouses", "images", "[LWalnutHouses$Nut;", true)
  | 5 => ("WalnutHouses", "kept", "[Z", true)
  | 6 => ("WalnutHouses", "sheets", "[LWalnutHouses$Sheet;", true)
  | 7 => ("WalnutHouses", "trace", "[I", true)
  | 8 => ("WalnutHouses", "tally", "[I", true)
  | 9 => ("WalnutHouses", "textFault", "I", false)
  | _ => ("WalnutHouses", "readFault", "I", false)
def tyX4 : Nat → FieldType := fun k => match k with
  | 0 => .object "WalnutHouses$Tape"
  | 1 => .object "WalnutHouses$Teller"
  | 2 => .object "WalnutHouses$Nut"
  | 3 => .object "WalnutHouses$Nut"
  | 4 => .array (.object "WalnutHouses$Nut")
  | 5 => .array .boolean
  | 6 => .array (.object "WalnutHouses$Sheet")
  | 7 => .array .int
  | 8 => .array .int
  | 9 => .int
  | _ => .int
abbrev wsX40 : List Cond := u_ws RX4 TX4 11
theorem nmX4 : ∀ a, a < 11 → ∀ b, b < 11 → a ≠ b → (TX4 a).2.1 ≠ (TX4 b).2.1 := by decide +kernel
theorem tyX4_ok : ∀ k, k < 11 → parseFieldDescriptor (TX4 k).2.2.1 = some (tyX4 k) := by decide +kernel
abbrev cX4_init : ByteArray := prog_1_method_1_code
def yX4_init : MethodName := ⟨RX4, "<init>", "()V"⟩
abbrev cX4_feed : ByteArray := prog_1_method_2_code
def yX4_feed : MethodName := ⟨RX4, "feed", "(I)I"⟩
abbrev cX4_end : ByteArray := prog_1_method_3_code
def yX4_end : MethodName := ⟨RX4, "end", "(I)I"⟩
abbrev cX4_text : ByteArray := prog_1_method_4_code
def yX4_text : MethodName := ⟨RX4, "text", "()I"⟩
abbrev cX4_fault : ByteArray := prog_1_method_5_code
def yX4_fault : MethodName := ⟨RX4, "fault", "()I"⟩
abbrev cX4_rule : ByteArray := prog_1_method_6_code
def yX4_rule : MethodName := ⟨RX4, "rule", "(I)I"⟩
abbrev cX4_member : ByteArray := prog_1_method_7_code
def yX4_member : MethodName := ⟨RX4, "member", "(II)I"⟩
abbrev cX4_house : ByteArray := prog_1_method_8_code
def yX4_house : MethodName := ⟨RX4, "house", "(II)I"⟩
abbrev cX4_alter : ByteArray := prog_1_method_9_code
def yX4_alter : MethodName := ⟨RX4, "alter", "(III)I"⟩
abbrev cX4_word : ByteArray := prog_1_method_10_code
def yX4_word : MethodName := ⟨RX4, "word", "(I)I"⟩
abbrev cX4_seat : ByteArray := prog_1_method_11_code
def yX4_seat : MethodName := ⟨RX4, "seat", "(II)I"⟩
abbrev cX4_clear : ByteArray := prog_1_method_12_code
def yX4_clear : MethodName := ⟨RX4, "clear", "(I)I"⟩
abbrev cX4_days : ByteArray := prog_1_method_13_code
def yX4_days : MethodName := ⟨RX4, "days", "(I)I"⟩
abbrev cX4_runs : ByteArray := prog_1_method_14_code
def yX4_runs : MethodName := ⟨RX4, "runs", "(II)I"⟩
abbrev cX4_ahead : ByteArray := prog_1_method_15_code
def yX4_ahead : MethodName := ⟨RX4, "ahead", "(II)I"⟩
abbrev cX4_carries : ByteArray := prog_1_method_16_code
def yX4_carries : MethodName := ⟨RX4, "carries", "()I"⟩
abbrev cX4_wording : ByteArray := prog_1_method_17_code
def yX4_wording : MethodName := ⟨RX4, "wording", "(I)I"⟩
abbrev cX4_middle : ByteArray := prog_1_method_18_code
def yX4_middle : MethodName := ⟨RX4, "middle", "(I)I"⟩
abbrev cX4_swing : ByteArray := prog_1_method_19_code
def yX4_swing : MethodName := ⟨RX4, "swing", "(I)I"⟩
abbrev cX4_lose : ByteArray := prog_1_method_20_code
def yX4_lose : MethodName := ⟨RX4, "lose", "(I)I"⟩
abbrev cX4_cross : ByteArray := prog_1_method_21_code
def yX4_cross : MethodName := ⟨RX4, "cross", "(I)I"⟩
abbrev cX4_give : ByteArray := prog_1_method_22_code
def yX4_give : MethodName := ⟨RX4, "give", "(II)I"⟩
abbrev cX4_mind : ByteArray := prog_1_method_23_code
def yX4_mind : MethodName := ⟨RX4, "mind", "(II)I"⟩
abbrev cX4_kind : ByteArray := prog_1_method_24_code
def yX4_kind : MethodName := ⟨RX4, "kind", "(II)I"⟩
abbrev cX4_luck : ByteArray := prog_1_method_25_code
def yX4_luck : MethodName := ⟨RX4, "luck", "(III)J"⟩
abbrev cX4_mean : ByteArray := prog_1_method_26_code
def yX4_mean : MethodName := ⟨RX4, "mean", "(III)J"⟩
abbrev cX4_see : ByteArray := prog_1_method_27_code
def yX4_see : MethodName := ⟨RX4, "see", "(II)I"⟩
abbrev cX4_forget : ByteArray := prog_1_method_28_code
def yX4_forget : MethodName := ⟨RX4, "forget", "(I)I"⟩
abbrev cX4_kinds : ByteArray := prog_1_method_29_code
def yX4_kinds : MethodName := ⟨RX4, "kinds", "(I)I"⟩
abbrev cX4_wants : ByteArray := prog_1_method_30_code
def yX4_wants : MethodName := ⟨RX4, "wants", "(I)I"⟩
abbrev cX4_ask : ByteArray := prog_1_method_31_code
def yX4_ask : MethodName := ⟨RX4, "ask", "(II)I"⟩
abbrev cX4_drift : ByteArray := prog_1_method_32_code
def yX4_drift : MethodName := ⟨RX4, "drift", "(III)I"⟩
abbrev cX4_keep : ByteArray := prog_1_method_33_code
def yX4_keep : MethodName := ⟨RX4, "keep", "(I)I"⟩
abbrev cX4_back : ByteArray := prog_1_method_34_code
def yX4_back : MethodName := ⟨RX4, "back", "(I)I"⟩
abbrev cX4_sheet : ByteArray := prog_1_method_35_code
def yX4_sheet : MethodName := ⟨RX4, "sheet", "(III)I"⟩
abbrev cX4_lay : ByteArray := prog_1_method_36_code
def yX4_lay : MethodName := ⟨RX4, "lay", "(III)I"⟩
abbrev cX4_read : ByteArray := prog_1_method_37_code
def yX4_read : MethodName := ⟨RX4, "read", "(IIII)I"⟩
abbrev cX4_torn : ByteArray := prog_1_method_38_code
def yX4_torn : MethodName := ⟨RX4, "torn", "()I"⟩
abbrev cX4_count : ByteArray := prog_1_method_39_code
def yX4_count : MethodName := ⟨RX4, "count", "(I)I"⟩
abbrev cX4_within : ByteArray := prog_1_method_40_code
def yX4_within : MethodName := ⟨RX4, "within", "(II)Z"⟩
abbrev cX4_bit : ByteArray := prog_1_method_41_code
def yX4_bit : MethodName := ⟨RX4, "bit", "(Z)I"⟩
abbrev cX4_sign : ByteArray := prog_1_method_42_code
def yX4_sign : MethodName := ⟨RX4, "sign", "(I)I"⟩
abbrev cX4_isMember : ByteArray := prog_1_method_43_code
def yX4_isMember : MethodName := ⟨RX4, "isMember", "(I)Z"⟩
abbrev cX4_canAlter : ByteArray := prog_1_method_44_code
def yX4_canAlter : MethodName := ⟨RX4, "canAlter", "(III)Z"⟩
abbrev cX4_soonest : ByteArray := prog_1_method_45_code
def yX4_soonest : MethodName := ⟨RX4, "soonest", "(III)I"⟩
abbrev cX4_soonerWith : ByteArray := prog_1_method_46_code
def yX4_soonerWith : MethodName := ⟨RX4, "soonerWith", "(ZI)I"⟩
abbrev cX4_byOdds : ByteArray := prog_1_method_47_code
def yX4_byOdds : MethodName := ⟨RX4, "byOdds", "(IIIZ)J"⟩
abbrev cX4_weightOf : ByteArray := prog_1_method_48_code
def yX4_weightOf : MethodName := ⟨RX4, "weightOf", "(III)J"⟩
abbrev cX4_commonDivisor : ByteArray := prog_1_method_49_code
def yX4_commonDivisor : MethodName := ⟨RX4, "commonDivisor", "(JJ)J"⟩
abbrev cX4_asSeen : ByteArray := prog_1_method_50_code
def yX4_asSeen : MethodName := ⟨RX4, "asSeen", "(II)I"⟩
abbrev cX4_traceWith : ByteArray := prog_1_method_51_code
def yX4_traceWith : MethodName := ⟨RX4, "traceWith", "(III)V"⟩
abbrev cX4_traceIsAsSeen : ByteArray := prog_1_method_52_code
def yX4_traceIsAsSeen : MethodName := ⟨RX4, "traceIsAsSeen", "()Z"⟩
abbrev cX4_tallyWants : ByteArray := prog_1_method_53_code
def yX4_tallyWants : MethodName := ⟨RX4, "tallyWants", "(I)I"⟩
abbrev cX4_worstLeft : ByteArray := prog_1_method_54_code
def yX4_worstLeft : MethodName := ⟨RX4, "worstLeft", "(I)I"⟩
def RX5 : String := "WalnutHousesModel"
def TX5 : u_T := fun k => match k with
  | 0 => ("WalnutHousesModel", "st", "[I", true)
  | 1 => ("WalnutHousesModel", "now", "[I", true)
  | 2 => ("WalnutHousesModel", "isKept", "[Z", true)
  | 3 => ("WalnutHousesModel", "draft", "[I", true)
  | 4 => ("WalnutHousesModel", "hasMotion", "Z", false)
  | 5 => ("WalnutHousesModel", "tape", "[I", true)
  | 6 => ("WalnutHousesModel", "taped", "I", false)
  | 7 => ("WalnutHousesModel", "pos", "I", false)
  | 8 => ("WalnutHousesModel", "begun", "I", false)
  | 9 => ("WalnutHousesModel", "sort", "I", false)
  | 10 => ("WalnutHousesModel", "value", "I", false)
  | 11 => ("WalnutHousesModel", "fault", "I", false)
  | 12 => ("WalnutHousesModel", "wrongAt", "I", false)
  | 13 => ("WalnutHousesModel", "out", "I", false)
  | 14 => ("WalnutHousesModel", "changes", "I", false)
  | 15 => ("WalnutHousesModel", "bestCode", "I", false)
  | 16 => ("WalnutHousesModel", "bestMuch", "I", false)
  | 17 => ("WalnutHousesModel", "carriedSum", "J", false)
  | 18 => ("WalnutHousesModel", "motionSum", "J", false)
  | 19 => ("WalnutHousesModel", "allWays", "J", false)
  | 20 => ("WalnutHousesModel", "stood", "[I", true)
  | 21 => ("WalnutHousesModel", "byWant", "[I", true)
  | 22 => ("WalnutHousesModel", "lanes", "[I", true)
  | 23 => ("WalnutHousesModel", "sizes", "[I", true)
  | 24 => ("WalnutHousesModel", "cells", "[I", true)
  | 25 => ("WalnutHousesModel", "torn", "I", false)
  | _ => ("WalnutHousesModel", "before", "[I", true)
def tyX5 : Nat → FieldType := fun k => match k with
  | 0 => .array .int
  | 1 => .array .int
  | 2 => .array .boolean
  | 3 => .array .int
  | 4 => .boolean
  | 5 => .array .int
  | 6 => .int
  | 7 => .int
  | 8 => .int
  | 9 => .int
  | 10 => .int
  | 11 => .int
  | 12 => .int
  | 13 => .int
  | 14 => .int
  | 15 => .int
  | 16 => .int
  | 17 => .long
  | 18 => .long
  | 19 => .long
  | 20 => .array .int
  | 21 => .array .int
  | 22 => .array .int
  | 23 => .array .int
  | 24 => .array .int
  | 25 => .int
  | _ => .array .int
abbrev wsX50 : List Cond := u_ws RX5 TX5 27
theorem nmX5 : ∀ a, a < 27 → ∀ b, b < 27 → a ≠ b → (TX5 a).2.1 ≠ (TX5 b).2.1 := by decide +kernel
theorem tyX5_ok : ∀ k, k < 27 → parseFieldDescriptor (TX5 k).2.2.1 = some (tyX5 k) := by decide +kernel
abbrev cX5_init : ByteArray := prog_7_method_1_code
def yX5_init : MethodName := ⟨RX5, "<init>", "()V"⟩
abbrev cX5_in : ByteArray := prog_7_method_3_code
def yX5_in : MethodName := ⟨RX5, "in", "(JJJ)Z"⟩
abbrev cX5_flag : ByteArray := prog_7_method_4_code
def yX5_flag : MethodName := ⟨RX5, "flag", "(Z)I"⟩
abbrev cX5_lesser : ByteArray := prog_7_method_5_code
def yX5_lesser : MethodName := ⟨RX5, "lesser", "(II)I"⟩
abbrev cX5_firstDraft : ByteArray := prog_7_method_6_code
def yX5_firstDraft : MethodName := ⟨RX5, "firstDraft", "()V"⟩
abbrev cX5_keepDraft : ByteArray := prog_7_method_7_code
def yX5_keepDraft : MethodName := ⟨RX5, "keepDraft", "()V"⟩
abbrev cX5_feed : ByteArray := prog_7_method_8_code
def yX5_feed : MethodName := ⟨RX5, "feed", "(I)I"⟩
abbrev cX5_end : ByteArray := prog_7_method_9_code
def yX5_end : MethodName := ⟨RX5, "end", "(I)I"⟩
abbrev cX5_requires : ByteArray := prog_7_method_10_code
def yX5_requires : MethodName := ⟨RX5, "requires", "(ZI)V"⟩
abbrev cX5_byteAt : ByteArray := prog_7_method_11_code
def yX5_byteAt : MethodName := ⟨RX5, "byteAt", "(I)I"⟩
abbrev cX5_is : ByteArray := prog_7_method_12_code
def yX5_is : MethodName := ⟨RX5, "is", "(IIIII)Z"⟩
abbrev cX5_endsIn : ByteArray := prog_7_method_13_code
def yX5_endsIn : MethodName := ⟨RX5, "endsIn", "(III)Z"⟩
abbrev cX5_lineNow : ByteArray := prog_7_method_14_code
def yX5_lineNow : MethodName := ⟨RX5, "lineNow", "()I"⟩
abbrev cX5_reads : ByteArray := prog_7_method_15_code
def yX5_reads : MethodName := ⟨RX5, "reads", "()V"⟩
abbrev cX5_readNumber : ByteArray := prog_7_method_16_code
def yX5_readNumber : MethodName := ⟨RX5, "readNumber", "(I)I"⟩
abbrev cX5_readMember : ByteArray := prog_7_method_17_code
def yX5_readMember : MethodName := ⟨RX5, "readMember", "(I)V"⟩
abbrev cX5_readLine : ByteArray := prog_7_method_18_code
def yX5_readLine : MethodName := ⟨RX5, "readLine", "()V"⟩
abbrev cX5_text : ByteArray := prog_7_method_19_code
def yX5_text : MethodName := ⟨RX5, "text", "()I"⟩
abbrev cX5_fault : ByteArray := prog_7_method_20_code
def yX5_fault : MethodName := ⟨RX5, "fault", "()I"⟩
abbrev cX5_isMember : ByteArray := prog_7_method_21_code
def yX5_isMember : MethodName := ⟨RX5, "isMember", "(I)Z"⟩
abbrev cX5_isMotion : ByteArray := prog_7_method_22_code
def yX5_isMotion : MethodName := ⟨RX5, "isMotion", "(I)Z"⟩
abbrev cX5_isPart : ByteArray := prog_7_method_23_code
def yX5_isPart : MethodName := ⟨RX5, "isPart", "(I)Z"⟩
abbrev cX5_starts : ByteArray := prog_7_method_24_code
def yX5_starts : MethodName := ⟨RX5, "starts", "()V"⟩
abbrev cX5_settles : ByteArray := prog_7_method_25_code
def yX5_settles : MethodName := ⟨RX5, "settles", "()V"⟩
abbrev cX5_of : ByteArray := prog_7_method_26_code
def yX5_of : MethodName := ⟨RX5, "of", "(II)I"⟩
abbrev cX5_becomesOf : ByteArray := prog_7_method_27_code
def yX5_becomesOf : MethodName := ⟨RX5, "becomesOf", "(III)V"⟩
abbrev cX5_awayBy : ByteArray := prog_7_method_28_code
def yX5_awayBy : MethodName := ⟨RX5, "awayBy", "(I)I"⟩
abbrev cX5_votes : ByteArray := prog_7_method_29_code
def yX5_votes : MethodName := ⟨RX5, "votes", "(I)Z"⟩
abbrev cX5_sign : ByteArray := prog_7_method_30_code
def yX5_sign : MethodName := ⟨RX5, "sign", "(I)I"⟩
abbrev cX5_pull : ByteArray := prog_7_method_31_code
def yX5_pull : MethodName := ⟨RX5, "pull", "(I)I"⟩
abbrev cX5_tires : ByteArray := prog_7_method_32_code
def yX5_tires : MethodName := ⟨RX5, "tires", "(I)I"⟩
abbrev cX5_isOf : ByteArray := prog_7_method_33_code
def yX5_isOf : MethodName := ⟨RX5, "isOf", "(II)Z"⟩
abbrev cX5_votesFor : ByteArray := prog_7_method_34_code
def yX5_votesFor : MethodName := ⟨RX5, "votesFor", "(I)I"⟩
abbrev cX5_votesAgainst : ByteArray := prog_7_method_35_code
def yX5_votesAgainst : MethodName := ⟨RX5, "votesAgainst", "(I)I"⟩
abbrev cX5_pullOfAll : ByteArray := prog_7_method_36_code
def yX5_pullOfAll : MethodName := ⟨RX5, "pullOfAll", "(I)I"⟩
abbrev cX5_agrees : ByteArray := prog_7_method_37_code
def yX5_agrees : MethodName := ⟨RX5, "agrees", "(I)Z"⟩
abbrev cX5_isCarried : ByteArray := prog_7_method_38_code
def yX5_isCarried : MethodName := ⟨RX5, "isCarried", "()Z"⟩
abbrev cX5_sits : ByteArray := prog_7_method_39_code
def yX5_sits : MethodName := ⟨RX5, "sits", "(I)V"⟩
abbrev cX5_dayGoes : ByteArray := prog_7_method_40_code
def yX5_dayGoes : MethodName := ⟨RX5, "dayGoes", "(Z)V"⟩
abbrev cX5_daysGo : ByteArray := prog_7_method_41_code
def yX5_daysGo : MethodName := ⟨RX5, "daysGo", "(I)V"⟩
abbrev cX5_sumOf : ByteArray := prog_7_method_42_code
def yX5_sumOf : MethodName := ⟨RX5, "sumOf", "(I)I"⟩
abbrev cX5_agreeing : ByteArray := prog_7_method_43_code
def yX5_agreeing : MethodName := ⟨RX5, "agreeing", "()I"⟩
abbrev cX5_votingNow : ByteArray := prog_7_method_44_code
def yX5_votingNow : MethodName := ⟨RX5, "votingNow", "()I"⟩
abbrev cX5_rule : ByteArray := prog_7_method_45_code
def yX5_rule : MethodName := ⟨RX5, "rule", "(I)I"⟩
abbrev cX5_member : ByteArray := prog_7_method_46_code
def yX5_member : MethodName := ⟨RX5, "member", "(II)I"⟩
abbrev cX5_house : ByteArray := prog_7_method_47_code
def yX5_house : MethodName := ⟨RX5, "house", "(II)I"⟩
abbrev cX5_becomes : ByteArray := prog_7_method_48_code
def yX5_becomes : MethodName := ⟨RX5, "becomes", "(II)I"⟩
abbrev cX5_alter : ByteArray := prog_7_method_49_code
def yX5_alter : MethodName := ⟨RX5, "alter", "(III)I"⟩
abbrev cX5_word : ByteArray := prog_7_method_50_code
def yX5_word : MethodName := ⟨RX5, "word", "(I)I"⟩
abbrev cX5_seat : ByteArray := prog_7_method_51_code
def yX5_seat : MethodName := ⟨RX5, "seat", "(II)I"⟩
abbrev cX5_clear : ByteArray := prog_7_method_52_code
def yX5_clear : MethodName := ⟨RX5, "clear", "(I)I"⟩
abbrev cX5_days : ByteArray := prog_7_method_53_code
def yX5_days : MethodName := ⟨RX5, "days", "(I)I"⟩
abbrev cX5_isFar : ByteArray := prog_7_method_54_code
def yX5_isFar : MethodName := ⟨RX5, "isFar", "(I)Z"⟩
abbrev cX5_runs : ByteArray := prog_7_method_55_code
def yX5_runs : MethodName := ⟨RX5, "runs", "(II)I"⟩
abbrev cX5_ahead : ByteArray := prog_7_method_56_code
def yX5_ahead : MethodName := ⟨RX5, "ahead", "(II)I"⟩
abbrev cX5_daysTo : ByteArray := prog_7_method_57_code
def yX5_daysTo : MethodName := ⟨RX5, "daysTo", "()I"⟩
abbrev cX5_carries : ByteArray := prog_7_method_58_code
def yX5_carries : MethodName := ⟨RX5, "carries", "()I"⟩
abbrev cX5_startsJudging : ByteArray := prog_7_method_59_code
def yX5_startsJudging : MethodName := ⟨RX5, "startsJudging", "(I)V"⟩
abbrev cX5_judges : ByteArray := prog_7_method_60_code
def yX5_judges : MethodName := ⟨RX5, "judges", "(II)V"⟩
abbrev cX5_judged : ByteArray := prog_7_method_61_code
def yX5_judged : MethodName := ⟨RX5, "judged", "(I)I"⟩
abbrev cX5_wording : ByteArray := prog_7_method_62_code
def yX5_wording : MethodName := ⟨RX5, "wording", "(I)I"⟩
abbrev cX5_middle : ByteArray := prog_7_method_63_code
def yX5_middle : MethodName := ⟨RX5, "middle", "(I)I"⟩
abbrev cX5_swing : ByteArray := prog_7_method_64_code
def yX5_swing : MethodName := ⟨RX5, "swing", "(I)I"⟩
abbrev cX5_soonestNow : ByteArray := prog_7_method_65_code
def yX5_soonestNow : MethodName := ⟨RX5, "soonestNow", "()I"⟩
abbrev cX5_lose : ByteArray := prog_7_method_66_code
def yX5_lose : MethodName := ⟨RX5, "lose", "(I)I"⟩
abbrev cX5_cross : ByteArray := prog_7_method_67_code
def yX5_cross : MethodName := ⟨RX5, "cross", "(I)I"⟩
abbrev cX5_give : ByteArray := prog_7_method_68_code
def yX5_give : MethodName := ⟨RX5, "give", "(II)I"⟩
abbrev cX5_soonestBy : ByteArray := prog_7_method_69_code
def yX5_soonestBy : MethodName := ⟨RX5, "soonestBy", "(IIII)I"⟩
abbrev cX5_mind : ByteArray := prog_7_method_70_code
def yX5_mind : MethodName := ⟨RX5, "mind", "(II)I"⟩
abbrev cX5_kind : ByteArray := prog_7_method_71_code
def yX5_kind : MethodName := ⟨RX5, "kind", "(II)I"⟩
abbrev cX5_common : ByteArray := prog_7_method_72_code
def yX5_common : MethodName := ⟨RX5, "common", "(JJ)J"⟩
abbrev cX5_told : ByteArray := prog_7_method_73_code
def yX5_told : MethodName := ⟨RX5, "told", "(JJI)J"⟩
abbrev cX5_findOdds : ByteArray := prog_7_method_74_code
def yX5_findOdds : MethodName := ⟨RX5, "findOdds", "(II)V"⟩
abbrev cX5_isOdds : ByteArray := prog_7_method_75_code
def yX5_isOdds : MethodName := ⟨RX5, "isOdds", "(III)Z"⟩
abbrev cX5_luck : ByteArray := prog_7_method_76_code
def yX5_luck : MethodName := ⟨RX5, "luck", "(III)J"⟩
abbrev cX5_mean : ByteArray := prog_7_method_77_code
def yX5_mean : MethodName := ⟨RX5, "mean", "(III)J"⟩
abbrev cX5_see : ByteArray := prog_7_method_78_code
def yX5_see : MethodName := ⟨RX5, "see", "(II)I"⟩
abbrev cX5_forget : ByteArray := prog_7_method_79_code
def yX5_forget : MethodName := ⟨RX5, "forget", "(I)I"⟩
abbrev cX5_isSoWith : ByteArray := prog_7_method_80_code
def yX5_isSoWith : MethodName := ⟨RX5, "isSoWith", "(II)Z"⟩
abbrev cX5_which : ByteArray := prog_7_method_81_code
def yX5_which : MethodName := ⟨RX5, "which", "(II)I"⟩
abbrev cX5_kinds : ByteArray := prog_7_method_82_code
def yX5_kinds : MethodName := ⟨RX5, "kinds", "(I)I"⟩
abbrev cX5_wants : ByteArray := prog_7_method_83_code
def yX5_wants : MethodName := ⟨RX5, "wants", "(I)I"⟩
abbrev cX5_ask : ByteArray := prog_7_method_84_code
def yX5_ask : MethodName := ⟨RX5, "ask", "(II)I"⟩
abbrev cX5_drift : ByteArray := prog_7_method_85_code
def yX5_drift : MethodName := ⟨RX5, "drift", "(III)I"⟩
abbrev cX5_copies : ByteArray := prog_7_method_86_code
def yX5_copies : MethodName := ⟨RX5, "copies", "(II)V"⟩
abbrev cX5_keep : ByteArray := prog_7_method_87_code
def yX5_keep : MethodName := ⟨RX5, "keep", "(I)I"⟩
abbrev cX5_back : ByteArray := prog_7_method_88_code
def yX5_back : MethodName := ⟨RX5, "back", "(I)I"⟩
abbrev cX5_isSheet : ByteArray := prog_7_method_89_code
def yX5_isSheet : MethodName := ⟨RX5, "isSheet", "(II)Z"⟩
abbrev cX5_sheet : ByteArray := prog_7_method_90_code
def yX5_sheet : MethodName := ⟨RX5, "sheet", "(III)I"⟩
abbrev cX5_lay : ByteArray := prog_7_method_91_code
def yX5_lay : MethodName := ⟨RX5, "lay", "(III)I"⟩
abbrev cX5_read : ByteArray := prog_7_method_92_code
def yX5_read : MethodName := ⟨RX5, "read", "(IIII)I"⟩
abbrev cX5_torn : ByteArray := prog_7_method_93_code
def yX5_torn : MethodName := ⟨RX5, "torn", "()I"⟩
abbrev cX5_count : ByteArray := prog_7_method_94_code
def yX5_count : MethodName := ⟨RX5, "count", "(I)I"⟩
def RJx145de : String := "java/io/Serializable"
def TJx145de : u_T := fun k => match k with
  | _ => ("", "", "", false)
def tyJx145de : Nat → FieldType := fun k => match k with
  | _ => .int
abbrev wsJx145de0 : List Cond := u_ws RJx145de TJx145de 0
theorem nmJx145de : ∀ a, a < 0 → ∀ b, b < 0 → a ≠ b → (TJx145de a).2.1 ≠ (TJx145de b).2.1 := by decide +kernel
theorem tyJx145de_ok : ∀ k, k < 0 → parseFieldDescriptor (TJx145de k).2.2.1 = some (tyJx145de k) := by decide +kernel
def RJx9f9b0 : String := "java/lang/CharSequence"
def TJx9f9b0 : u_T := fun k => match k with
  | _ => ("", "", "", false)
def tyJx9f9b0 : Nat → FieldType := fun k => match k with
  | _ => .int
abbrev wsJx9f9b00 : List Cond := u_ws RJx9f9b0 TJx9f9b0 0
theorem nmJx9f9b0 : ∀ a, a < 0 → ∀ b, b < 0 → a ≠ b → (TJx9f9b0 a).2.1 ≠ (TJx9f9b0 b).2.1 := by decide +kernel
theorem tyJx9f9b0_ok : ∀ k, k < 0 → parseFieldDescriptor (TJx9f9b0 k).2.2.1 = some (tyJx9f9b0 k) := by decide +kernel
def RJxb160c : String := "java/lang/Comparable"
def TJxb160c : u_T := fun k => match k with
  | _ => ("", "", "", false)
def tyJxb160c : Nat → FieldType := fun k => match k with
  | _ => .int
abbrev wsJxb160c0 : List Cond := u_ws RJxb160c TJxb160c 0
theorem nmJxb160c : ∀ a, a < 0 → ∀ b, b < 0 → a ≠ b → (TJxb160c a).2.1 ≠ (TJxb160c b).2.1 := by decide +kernel
theorem tyJxb160c_ok : ∀ k, k < 0 → parseFieldDescriptor (TJxb160c k).2.2.1 = some (tyJxb160c k) := by decide +kernel
def RJ6 : String := "java/lang/Integer"
def TJ6 : u_T := fun k => match k with
  | _ => ("", "", "", false)
def tyJ6 : Nat → FieldType := fun k => match k with
  | _ => .int
abbrev wsJ60 : List Cond := u_ws RJ6 TJ6 0
theorem nmJ6 : ∀ a, a < 0 → ∀ b, b < 0 → a ≠ b → (TJ6 a).2.1 ≠ (TJ6 b).2.1 := by decide +kernel
theorem tyJ6_ok : ∀ k, k < 0 → parseFieldDescriptor (TJ6 k).2.2.1 = some (tyJ6 k) := by decide +kernel
abbrev cJ6_bitCount_0f7a4 : ByteArray := prog_8_method_49_code
def yJ6_bitCount_0f7a4 : MethodName := ⟨RJ6, "bitCount", "(I)I"⟩
def RJ9 : String := "java/lang/Math"
def TJ9 : u_T := fun k => match k with
  | _ => ("", "", "", false)
def tyJ9 : Nat → FieldType := fun k => match k with
  | _ => .int
abbrev wsJ90 : List Cond := u_ws RJ9 TJ9 0
theorem nmJ9 : ∀ a, a < 0 → ∀ b, b < 0 → a ≠ b → (TJ9 a).2.1 ≠ (TJ9 b).2.1 := by decide +kernel
theorem tyJ9_ok : ∀ k, k < 0 → parseFieldDescriptor (TJ9 k).2.2.1 = some (tyJ9 k) := by decide +kernel
abbrev cJ9_abs_0f7a4 : ByteArray := prog_9_method_59_code
def yJ9_abs_0f7a4 : MethodName := ⟨RJ9, "abs", "(I)I"⟩
abbrev cJ9_max_7cf53 : ByteArray := prog_9_method_65_code
def yJ9_max_7cf53 : MethodName := ⟨RJ9, "max", "(II)I"⟩
abbrev cJ9_min_7cf53 : ByteArray := prog_9_method_69_code
def yJ9_min_7cf53 : MethodName := ⟨RJ9, "min", "(II)I"⟩
def RJ0 : String := "java/lang/String"
def TJ0 : u_T := fun k => match k with
  | _ => ("", "", "", false)
def tyJ0 : Nat → FieldType := fun k => match k with
  | _ => .int
abbrev wsJ00 : List Cond := u_ws RJ0 TJ0 0
theorem nmJ0 : ∀ a, a < 0 → ∀ b, b < 0 → a ≠ b → (TJ0 a).2.1 ≠ (TJ0 b).2.1 := by decide +kernel
theorem tyJ0_ok : ∀ k, k < 0 → parseFieldDescriptor (TJ0 k).2.2.1 = some (tyJ0 k) := by decide +kernel
abbrev cJ0_length_8abf5 : ByteArray := prog_10_method_54_code
def yJ0_length_8abf5 : MethodName := ⟨RJ0, "length", "()I"⟩
abbrev cJ0_charAt_5068e : ByteArray := prog_10_method_56_code
def yJ0_charAt_5068e : MethodName := ⟨RJ0, "charAt", "(I)C"⟩
abbrev cJ0_coder_7d493 : ByteArray := prog_10_method_152_code
def yJ0_coder_7d493 : MethodName := ⟨RJ0, "coder", "()B"⟩
abbrev cJ0_isLatin1_aae02 : ByteArray := prog_10_method_154_code
def yJ0_isLatin1_aae02 : MethodName := ⟨RJ0, "isLatin1", "()Z"⟩
abbrev cJ0_checkIndex_df160 : ByteArray := prog_10_method_155_code
def yJ0_checkIndex_df160 : MethodName := ⟨RJ0, "checkIndex", "(II)V"⟩
def RJ1 : String := "java/lang/StringLatin1"
def TJ1 : u_T := fun k => match k with
  | _ => ("", "", "", false)
def tyJ1 : Nat → FieldType := fun k => match k with
  | _ => .int
abbrev wsJ10 : List Cond := u_ws RJ1 TJ1 0
theorem nmJ1 : ∀ a, a < 0 → ∀ b, b < 0 → a ≠ b → (TJ1 a).2.1 ≠ (TJ1 b).2.1 := by decide +kernel
theorem tyJ1_ok : ∀ k, k < 0 → parseFieldDescriptor (TJ1 k).2.2.1 = some (tyJ1 k) := by decide +kernel
abbrev cJ1_charAt_3b067 : ByteArray := prog_11_method_2_code
def yJ1_charAt_3b067 : MethodName := ⟨RJ1, "charAt", "([BI)C"⟩
def RJ2 : String := "java/lang/StringUTF16"
def TJ2 : u_T := fun k => match k with
  | _ => ("", "", "", false)
def tyJ2 : Nat → FieldType := fun k => match k with
  | _ => .int
abbrev wsJ20 : List Cond := u_ws RJ2 TJ2 0
theorem nmJ2 : ∀ a, a < 0 → ∀ b, b < 0 → a ≠ b → (TJ2 a).2.1 ≠ (TJ2 b).2.1 := by decide +kernel
theorem tyJ2_ok : ∀ k, k < 0 → parseFieldDescriptor (TJ2 k).2.2.1 = some (tyJ2 k) := by decide +kernel
abbrev cJ2_getChar_3b067 : ByteArray := prog_12_method_5_code
def yJ2_getChar_3b067 : MethodName := ⟨RJ2, "getChar", "([BI)C"⟩
abbrev cJ2_length_9d52b : ByteArray := prog_12_method_6_code
def yJ2_length_9d52b : MethodName := ⟨RJ2, "length", "([B)I"⟩
abbrev cJ2_charAt_3b067 : ByteArray := prog_12_method_83_code
def yJ2_charAt_3b067 : MethodName := ⟨RJ2, "charAt", "([BI)C"⟩
abbrev cJ2_checkIndex_2214a : ByteArray := prog_12_method_91_code
def yJ2_checkIndex_2214a : MethodName := ⟨RJ2, "checkIndex", "(I[B)V"⟩
def RJ10 : String := "java/lang/System"
def TJ10 : u_T := fun k => match k with
  | _ => ("", "", "", false)
def tyJ10 : Nat → FieldType := fun k => match k with
  | _ => .int
abbrev wsJ100 : List Cond := u_ws RJ10 TJ10 0
theorem nmJ10 : ∀ a, a < 0 → ∀ b, b < 0 → a ≠ b → (TJ10 a).2.1 ≠ (TJ10 b).2.1 := by decide +kernel
theorem tyJ10_ok : ∀ k, k < 0 → parseFieldDescriptor (TJ10 k).2.2.1 = some (tyJ10 k) := by decide +kernel
def RJxfd54e : String := "java/lang/constant/Constable"
def TJxfd54e : u_T := fun k => match k with
  | _ => ("", "", "", false)
def tyJxfd54e : Nat → FieldType := fun k => match k with
  | _ => .int
abbrev wsJxfd54e0 : List Cond := u_ws RJxfd54e TJxfd54e 0
theorem nmJxfd54e : ∀ a, a < 0 → ∀ b, b < 0 → a ≠ b → (TJxfd54e a).2.1 ≠ (TJxfd54e b).2.1 := by decide +kernel
theorem tyJxfd54e_ok : ∀ k, k < 0 → parseFieldDescriptor (TJxfd54e k).2.2.1 = some (tyJxfd54e k) := by decide +kernel
def RJx3cf43 : String := "java/lang/constant/ConstantDesc"
def TJx3cf43 : u_T := fun k => match k with
  | _ => ("", "", "", false)
def tyJx3cf43 : Nat → FieldType := fun k => match k with
  | _ => .int
abbrev wsJx3cf430 : List Cond := u_ws RJx3cf43 TJx3cf43 0
theorem nmJx3cf43 : ∀ a, a < 0 → ∀ b, b < 0 → a ≠ b → (TJx3cf43 a).2.1 ≠ (TJx3cf43 b).2.1 := by decide +kernel
theorem tyJx3cf43_ok : ∀ k, k < 0 → parseFieldDescriptor (TJx3cf43 k).2.2.1 = some (tyJx3cf43 k) := by decide +kernel
def RJ7 : String := "java/util/Arrays"
def TJ7 : u_T := fun k => match k with
  | _ => ("", "", "", false)
def tyJ7 : Nat → FieldType := fun k => match k with
  | _ => .int
abbrev wsJ70 : List Cond := u_ws RJ7 TJ7 0
theorem nmJ7 : ∀ a, a < 0 → ∀ b, b < 0 → a ≠ b → (TJ7 a).2.1 ≠ (TJ7 b).2.1 := by decide +kernel
theorem tyJ7_ok : ∀ k, k < 0 → parseFieldDescriptor (TJ7 k).2.2.1 = some (tyJ7 k) := by decide +kernel
abbrev cJ7_fill_53178 : ByteArray := prog_14_method_103_code
def yJ7_fill_53178 : MethodName := ⟨RJ7, "fill", "([II)V"⟩
def RJ3 : String := "jdk/internal/util/Preconditions"
def TJ3 : u_T := fun k => match k with
  | _ => ("", "", "", false)
def tyJ3 : Nat → FieldType := fun k => match k with
  | _ => .int
abbrev wsJ30 : List Cond := u_ws RJ3 TJ3 0
theorem nmJ3 : ∀ a, a < 0 → ∀ b, b < 0 → a ≠ b → (TJ3 a).2.1 ≠ (TJ3 b).2.1 := by decide +kernel
theorem tyJ3_ok : ∀ k, k < 0 → parseFieldDescriptor (TJ3 k).2.2.1 = some (tyJ3 k) := by decide +kernel
abbrev cJ3_checkIndex_8e157 : ByteArray := prog_15_method_11_code
def yJ3_checkIndex_8e157 : MethodName := ⟨RJ3, "checkIndex", "(IILjava/util/function/BiFunction;)I"⟩
def RL : String := "WalnutHousesLaw"
abbrev cL_law : ByteArray := code
def yL_law : MethodName := ⟨RL, "law", "([I)Z"⟩
end
section
theorem dX0_init_0 : decode cX0_init 0 = .ok (.aload_n 0, 1) := by decide +kernel
theorem dX0_init_1 : decode cX0_init 1 = .ok (.invokespecial 3, 3) := by decide +kernel
theorem dX0_init_4 : decode cX0_init 4 = .ok (.aload_n 0, 1) := by decide +kernel
theorem dX0_init_5 : decode cX0_init 5 = .ok (.bipush 24, 2) := by decide +kernel
theorem dX0_init_7 : decode cX0_init 7 = .ok (.newarray .int, 2) := by decide +kernel
theorem dX0_init_9 : decode cX0_init 9 = .ok (.putfield 9, 3) := by decide +kernel
theorem dX0_init_12 : decode cX0_init 12 = .ok (.aload_n 0, 1) := by decide +kernel
theorem dX0_init_13 : decode cX0_init 13 = .ok (.bipush 6, 2) := by decide +kernel
theorem dX0_init_15 : decode cX0_init 15 = .ok (.newarray .int, 2) := by decide +kernel
theorem dX0_init_17 : decode cX0_init 17 = .ok (.putfield 15, 3) := by decide +kernel
theorem dX0_init_20 : decode cX0_init 20 = .ok (.aload_n 0, 1) := by decide +kernel
theorem dX0_init_21 : decode cX0_init 21 = .ok (.bipush 6, 2) := by decide +kernel
theorem dX0_init_23 : decode cX0_init 23 = .ok (.newarray .int, 2) := by decide +kernel
theorem dX0_init_25 : decode cX0_init 25 = .ok (.putfield 18, 3) := by decide +kernel
theorem dX0_init_28 : decode cX0_init 28 = .ok (.aload_n 0, 1) := by decide +kernel
theorem dX0_init_29 : decode cX0_init 29 = .ok (.iconst 0, 1) := by decide +kernel
theorem dX0_init_30 : decode cX0_init 30 = .ok (.putfield 21, 3) := by decide +kernel
theorem dX0_init_33 : decode cX0_init 33 = .ok (.aload_n 0, 1) := by decide +kernel
theorem dX0_init_34 : decode cX0_init 34 = .ok (.bipush 10, 2) := by decide +kernel
theorem dX0_init_36 : decode cX0_init 36 = .ok (.putfield 25, 3) := by decide +kernel
theorem dX0_init_39 : decode cX0_init 39 = .ok (.aload_n 0, 1) := by decide +kernel
theorem dX0_init_40 : decode cX0_init 40 = .ok (.iconst 0, 1) := by decide +kernel
theorem dX0_init_41 : decode cX0_init 41 = .ok (.putfield 28, 3) := by decide +kernel
theorem dX0_init_44 : decode cX0_init 44 = .ok (.aload_n 0, 1) := by decide +kernel
theorem dX0_init_45 : decode cX0_init 45 = .ok (.iconst 0, 1) := by decide +kernel
theorem dX0_init_46 : decode cX0_init 46 = .ok (.putfield 31, 3) := by decide +kernel
theorem dX0_init_49 : decode cX0_init 49 = .ok (.aload_n 0, 1) := by decide +kernel
theorem dX0_init_50 : decode cX0_init 50 = .ok (.iconst 0, 1) := by decide +kernel
theorem dX0_init_51 : decode cX0_init 51 = .ok (.putfield 34, 3) := by decide +kernel
theorem dX0_init_54 : decode cX0_init 54 = .ok (.return_, 1) := by decide +kernel
theorem dX0_become_0 : decode cX0_become 0 = .ok (.aload_n 1, 1) := by decide +kernel
theorem dX0_become_1 : decode cX0_become 1 = .ok (.getfield 9, 3) := by decide +kernel
theorem dX0_become_4 : decode cX0_become 4 = .ok (.iconst 0, 1) := by decide +kernel
theorem dX0_become_5 : decode cX0_become 5 = .ok (.aload_n 0, 1) := by decide +kernel
theorem dX0_become_6 : decode cX0_become 6 = .ok (.getfield 9, 3) := by decide +kernel
theorem dX0_become_9 : decode cX0_become 9 = .ok (.iconst 0, 1) := by decide +kernel
theorem dX0_become_10 : decode cX0_become 10 = .ok (.aload_n 0, 1) := by decide +kernel
theorem dX0_become_11 : decode cX0_become 11 = .ok (.getfield 9, 3) := by decide +kernel
theorem dX0_become_14 : decode cX0_become 14 = .ok (.arraylength, 1) := by decide +kernel
theorem dX0_become_15 : decode cX0_become 15 = .ok (.invokestatic 37, 3) := by decide +kernel
theorem dX0_become_18 : decode cX0_become 18 = .ok (.aload_n 1, 1) := by decide +kernel
theorem dX0_become_19 : decode cX0_become 19 = .ok (.getfield 15, 3) := by decide +kernel
theorem dX0_become_22 : decode cX0_become 22 = .ok (.iconst 0, 1) := by decide +kernel
theorem dX0_become_23 : decode cX0_become 23 = .ok (.aload_n 0, 1) := by decide +kernel
theorem dX0_become_24 : decode cX0_become 24 = .ok (.getfield 15, 3) := by decide +kernel
theorem dX0_become_27 : decode cX0_become 27 = .ok (.iconst 0, 1) := by decide +kernel
theorem dX0_become_28 : decode cX0_become 28 = .ok (.aload_n 0, 1) := by decide +kernel
theorem dX0_become_29 : decode cX0_become 29 = .ok (.getfield 15, 3) := by decide +kernel
theorem dX0_become_32 : decode cX0_become 32 = .ok (.arraylength, 1) := by decide +kernel
theorem dX0_become_33 : decode cX0_become 33 = .ok (.invokestatic 37, 3) := by decide +kernel
theorem dX0_become_36 : decode cX0_become 36 = .ok (.aload_n 1, 1) := by decide +kernel
theorem dX0_become_37 : decode cX0_become 37 = .ok (.getfield 18, 3) := by decide +kernel
theorem dX0_become_40 : decode cX0_become 40 = .ok (.iconst 0, 1) := by decide +kernel
theorem dX0_become_41 : decode cX0_become 41 = .ok (.aload_n 0, 1) := by decide +kernel
theorem dX0_become_42 : decode cX0_become 42 = .ok (.getfield 18, 3) := by decide +kernel
theorem dX0_become_45 : decode cX0_become 45 = .ok (.iconst 0, 1) := by decide +kernel
theorem dX0_become_46 : decode cX0_become 46 = .ok (.aload_n 0, 1) := by decide +kernel
theorem dX0_become_47 : decode cX0_become 47 = .ok (.getfield 18, 3) := by decide +kernel
theorem dX0_become_50 : decode cX0_become 50 = .ok (.arraylength, 1) := by decide +kernel
theorem dX0_become_51 : decode cX0_become 51 = .ok (.invokestatic 37, 3) := by decide +kernel
theorem dX0_become_54 : decode cX0_become 54 = .ok (.aload_n 0, 1) := by decide +kernel
theorem dX0_become_55 : decode cX0_become 55 = .ok (.aload_n 1, 1) := by decide +kernel
theorem dX0_become_56 : decode cX0_become 56 = .ok (.getfield 21, 3) := by decide +kernel
theorem dX0_become_59 : decode cX0_become 59 = .ok (.putfield 21, 3) := by decide +kernel
theorem dX0_become_62 : decode cX0_become 62 = .ok (.aload_n 0, 1) := by decide +kernel
theorem dX0_become_63 : decode cX0_become 63 = .ok (.aload_n 1, 1) := by decide +kernel
theorem dX0_become_64 : decode cX0_become 64 = .ok (.getfield 25, 3) := by decide +kernel
theorem dX0_become_67 : decode cX0_become 67 = .ok (.putfield 25, 3) := by decide +kernel
theorem dX0_become_70 : decode cX0_become 70 = .ok (.aload_n 0, 1) := by decide +kernel
theorem dX0_become_71 : decode cX0_become 71 = .ok (.aload_n 1, 1) := by decide +kernel
theorem dX0_become_72 : decode cX0_become 72 = .ok (.getfield 28, 3) := by decide +kernel
theorem dX0_become_75 : decode cX0_become 75 = .ok (.putfield 28, 3) := by decide +kernel
theorem dX0_become_78 : decode cX0_become 78 = .ok (.aload_n 0, 1) := by decide +kernel
theorem dX0_become_79 : decode cX0_become 79 = .ok (.aload_n 1, 1) := by decide +kernel
theorem dX0_become_80 : decode cX0_become 80 = .ok (.getfield 31, 3) := by decide +kernel
theorem dX0_become_83 : decode cX0_become 83 = .ok (.putfield 31, 3) := by decide +kernel
theorem dX0_become_86 : decode cX0_become 86 = .ok (.aload_n 0, 1) := by decide +kernel
theorem dX0_become_87 : decode cX0_become 87 = .ok (.aload_n 1, 1) := by decide +kernel
theorem dX0_become_88 : decode cX0_become 88 = .ok (.getfield 34, 3) := by decide +kernel
theorem dX0_become_91 : decode cX0_become 91 = .ok (.putfield 34, 3) := by decide +kernel
theorem dX0_become_94 : decode cX0_become 94 = .ok (.return_, 1) := by decide +kernel
theorem dX0_beginAnew_0 : decode cX0_beginAnew 0 = .ok (.aload_n 0, 1) := by decide +kernel
theorem dX0_beginAnew_1 : decode cX0_beginAnew 1 = .ok (.iconst 0, 1) := by decide +kernel
theorem dX0_beginAnew_2 : decode cX0_beginAnew 2 = .ok (.putfield 21, 3) := by decide +kernel
theorem dX0_beginAnew_5 : decode cX0_beginAnew 5 = .ok (.aload_n 0, 1) := by decide +kernel
theorem dX0_beginAnew_6 : decode cX0_beginAnew 6 = .ok (.bipush 10, 2) := by decide +kernel
theorem dX0_beginAnew_8 : decode cX0_beginAnew 8 = .ok (.putfield 25, 3) := by decide +kernel
theorem dX0_beginAnew_11 : decode cX0_beginAnew 11 = .ok (.aload_n 0, 1) := by decide +kernel
theorem dX0_beginAnew_12 : decode cX0_beginAnew 12 = .ok (.iconst 0, 1) := by decide +kernel
theorem dX0_beginAnew_13 : decode cX0_beginAnew 13 = .ok (.putfield 28, 3) := by decide +kernel
theorem dX0_beginAnew_16 : decode cX0_beginAnew 16 = .ok (.aload_n 0, 1) := by decide +kernel
theorem dX0_beginAnew_17 : decode cX0_beginAnew 17 = .ok (.iconst 0, 1) := by decide +kernel
theorem dX0_beginAnew_18 : decode cX0_beginAnew 18 = .ok (.putfield 31, 3) := by decide +kernel
theorem dX0_beginAnew_21 : decode cX0_beginAnew 21 = .ok (.aload_n 0, 1) := by decide +kernel
theorem dX0_beginAnew_22 : decode cX0_beginAnew 22 = .ok (.iconst 0, 1) := by decide +kernel
theorem dX0_beginAnew_23 : decode cX0_beginAnew 23 = .ok (.putfield 34, 3) := by decide +kernel
theorem dX0_beginAnew_26 : decode cX0_beginAnew 26 = .ok (.return_, 1) := by decide +kernel
theorem dX0_part_0 : decode cX0_part 0 = .ok (.aload_n 0, 1) := by decide +kernel
theorem dX0_part_1 : decode cX0_part 1 = .ok (.getfield 9, 3) := by decide +kernel
theorem dX0_part_4 : decode cX0_part 4 = .ok (.iload_n 1, 1) := by decide +kernel
theorem dX0_part_5 : decode cX0_part 5 = .ok (.iconst 4, 1) := by decide +kernel
theorem dX0_part_6 : decode cX0_part 6 = .ok (.imul, 1) := by decide +kernel
theorem dX0_part_7 : decode cX0_part 7 = .ok (.iload_n 2, 1) := by decide +kernel
theorem dX0_part_8 : decode cX0_part 8 = .ok (.iadd, 1) := by decide +kernel
theorem dX0_part_9 : decode cX0_part 9 = .ok (.iaload, 1) := by decide +kernel
theorem dX0_part_10 : decode cX0_part 10 = .ok (.ireturn, 1) := by decide +kernel
theorem dX0_put_0 : decode cX0_put 0 = .ok (.iload_n 2, 1) := by decide +kernel
theorem dX0_put_1 : decode cX0_put 1 = .ok (.iconst 4, 1) := by decide +kernel
theorem dX0_put_2 : decode cX0_put 2 = .ok (.if_icmp .ne 11, 3) := by decide +kernel
theorem dX0_put_5 : decode cX0_put 5 = .ok (.aload_n 0, 1) := by decide +kernel
theorem dX0_put_6 : decode cX0_put 6 = .ok (.iload_n 3, 1) := by decide +kernel
theorem dX0_put_7 : decode cX0_put 7 = .ok (.putfield 25, 3) := by decide +kernel
theorem dX0_put_10 : decode cX0_put 10 = .ok (.goto 14, 3) := by decide +kernel
theorem dX0_put_13 : decode cX0_put 13 = .ok (.aload_n 0, 1) := by decide +kernel
theorem dX0_put_14 : decode cX0_put 14 = .ok (.getfield 9, 3) := by decide +kernel
theorem dX0_put_17 : decode cX0_put 17 = .ok (.iload_n 1, 1) := by decide +kernel
theorem dX0_put_18 : decode cX0_put 18 = .ok (.iconst 4, 1) := by decide +kernel
theorem dX0_put_19 : decode cX0_put 19 = .ok (.imul, 1) := by decide +kernel
theorem dX0_put_20 : decode cX0_put 20 = .ok (.iload_n 2, 1) := by decide +kernel
theorem dX0_put_21 : decode cX0_put 21 = .ok (.iadd, 1) := by decide +kernel
theorem dX0_put_22 : decode cX0_put 22 = .ok (.iload_n 3, 1) := by decide +kernel
theorem dX0_put_23 : decode cX0_put 23 = .ok (.iastore, 1) := by decide +kernel
theorem dX0_put_24 : decode cX0_put 24 = .ok (.return_, 1) := by decide +kernel
theorem dX0_addMember_0 : decode cX0_addMember 0 = .ok (.aload_n 0, 1) := by decide +kernel
theorem dX0_addMember_1 : decode cX0_addMember 1 = .ok (.getfield 21, 3) := by decide +kernel
theorem dX0_addMember_4 : decode cX0_addMember 4 = .ok (.istore_n 2, 1) := by decide +kernel
theorem dX0_addMember_5 : decode cX0_addMember 5 = .ok (.aload_n 0, 1) := by decide +kernel
theorem dX0_addMember_6 : decode cX0_addMember 6 = .ok (.dup, 1) := by decide +kernel
theorem dX0_addMember_7 : decode cX0_addMember 7 = .ok (.getfield 21, 3) := by decide +kernel
theorem dX0_addMember_10 : decode cX0_addMember 10 = .ok (.iconst 1, 1) := by decide +kernel
theorem dX0_addMember_11 : decode cX0_addMember 11 = .ok (.iadd, 1) := by decide +kernel
theorem dX0_addMember_12 : decode cX0_addMember 12 = .ok (.putfield 21, 3) := by decide +kernel
theorem dX0_addMember_15 : decode cX0_addMember 15 = .ok (.aload_n 0, 1) := by decide +kernel
theorem dX0_addMember_16 : decode cX0_addMember 16 = .ok (.iload_n 2, 1) := by decide +kernel
theorem dX0_addMember_17 : decode cX0_addMember 17 = .ok (.iconst 0, 1) := by decide +kernel
theorem dX0_addMember_18 : decode cX0_addMember 18 = .ok (.iload_n 1, 1) := by decide +kernel
theorem dX0_addMember_19 : decode cX0_addMember 19 = .ok (.invokevirtual 43, 3) := by decide +kernel
theorem dX0_addMember_22 : decode cX0_addMember 22 = .ok (.aload_n 0, 1) := by decide +kernel
theorem dX0_addMember_23 : decode cX0_addMember 23 = .ok (.iload_n 2, 1) := by decide +kernel
theorem dX0_addMember_24 : decode cX0_addMember 24 = .ok (.iconst 1, 1) := by decide +kernel
theorem dX0_addMember_25 : decode cX0_addMember 25 = .ok (.iconst 0, 1) := by decide +kernel
theorem dX0_addMember_26 : decode cX0_addMember 26 = .ok (.invokevirtual 43, 3) := by decide +kernel
theorem dX0_addMember_29 : decode cX0_addMember 29 = .ok (.aload_n 0, 1) := by decide +kernel
theorem dX0_addMember_30 : decode cX0_addMember 30 = .ok (.iload_n 2, 1) := by decide +kernel
theorem dX0_addMember_31 : decode cX0_addMember 31 = .ok (.iconst 2, 1) := by decide +kernel
theorem dX0_addMember_32 : decode cX0_addMember 32 = .ok (.iconst 0, 1) := by decide +kernel
theorem dX0_addMember_33 : decode cX0_addMember 33 = .ok (.invokevirtual 43, 3) := by decide +kernel
theorem dX0_addMember_36 : decode cX0_addMember 36 = .ok (.aload_n 0, 1) := by decide +kernel
theorem dX0_addMember_37 : decode cX0_addMember 37 = .ok (.iload_n 2, 1) := by decide +kernel
theorem dX0_addMember_38 : decode cX0_addMember 38 = .ok (.iconst 3, 1) := by decide +kernel
theorem dX0_addMember_39 : decode cX0_addMember 39 = .ok (.iconst 0, 1) := by decide +kernel
theorem dX0_addMember_40 : decode cX0_addMember 40 = .ok (.invokevirtual 43, 3) := by decide +kernel
theorem dX0_addMember_43 : decode cX0_addMember 43 = .ok (.iload_n 2, 1) := by decide +kernel
theorem dX0_addMember_44 : decode cX0_addMember 44 = .ok (.ireturn, 1) := by decide +kernel
theorem dX0_leaveOut_0 : decode cX0_leaveOut 0 = .ok (.iload_n 1, 1) := by decide +kernel
theorem dX0_leaveOut_1 : decode cX0_leaveOut 1 = .ok (.iconst 1, 1) := by decide +kernel
theorem dX0_leaveOut_2 : decode cX0_leaveOut 2 = .ok (.iadd, 1) := by decide +kernel
theorem dX0_leaveOut_3 : decode cX0_leaveOut 3 = .ok (.iconst 4, 1) := by decide +kernel
theorem dX0_leaveOut_4 : decode cX0_leaveOut 4 = .ok (.imul, 1) := by decide +kernel
theorem dX0_leaveOut_5 : decode cX0_leaveOut 5 = .ok (.istore_n 2, 1) := by decide +kernel
theorem dX0_leaveOut_6 : decode cX0_leaveOut 6 = .ok (.aload_n 0, 1) := by decide +kernel
theorem dX0_leaveOut_7 : decode cX0_leaveOut 7 = .ok (.getfield 9, 3) := by decide +kernel
theorem dX0_leaveOut_10 : decode cX0_leaveOut 10 = .ok (.iload_n 2, 1) := by decide +kernel
theorem dX0_leaveOut_11 : decode cX0_leaveOut 11 = .ok (.aload_n 0, 1) := by decide +kernel
theorem dX0_leaveOut_12 : decode cX0_leaveOut 12 = .ok (.getfield 9, 3) := by decide +kernel
theorem dX0_leaveOut_15 : decode cX0_leaveOut 15 = .ok (.iload_n 1, 1) := by decide +kernel
theorem dX0_leaveOut_16 : decode cX0_leaveOut 16 = .ok (.iconst 4, 1) := by decide +kernel
theorem dX0_leaveOut_17 : decode cX0_leaveOut 17 = .ok (.imul, 1) := by decide +kernel
theorem dX0_leaveOut_18 : decode cX0_leaveOut 18 = .ok (.aload_n 0, 1) := by decide +kernel
theorem dX0_leaveOut_19 : decode cX0_leaveOut 19 = .ok (.getfield 9, 3) := by decide +kernel
theorem dX0_leaveOut_22 : decode cX0_leaveOut 22 = .ok (.arraylength, 1) := by decide +kernel
theorem dX0_leaveOut_23 : decode cX0_leaveOut 23 = .ok (.iload_n 2, 1) := by decide +kernel
theorem dX0_leaveOut_24 : decode cX0_leaveOut 24 = .ok (.isub, 1) := by decide +kernel
theorem dX0_leaveOut_25 : decode cX0_leaveOut 25 = .ok (.invokestatic 37, 3) := by decide +kernel
theorem dX0_leaveOut_28 : decode cX0_leaveOut 28 = .ok (.aload_n 0, 1) := by decide +kernel
theorem dX0_leaveOut_29 : decode cX0_leaveOut 29 = .ok (.dup, 1) := by decide +kernel
theorem dX0_leaveOut_30 : decode cX0_leaveOut 30 = .ok (.getfield 21, 3) := by decide +kernel
theorem dX0_leaveOut_33 : decode cX0_leaveOut 33 = .ok (.iconst 1, 1) := by decide +kernel
theorem dX0_leaveOut_34 : decode cX0_leaveOut 34 = .ok (.isub, 1) := by decide +kernel
theorem dX0_leaveOut_35 : decode cX0_leaveOut 35 = .ok (.putfield 21, 3) := by decide +kernel
theorem dX0_leaveOut_38 : decode cX0_leaveOut 38 = .ok (.return_, 1) := by decide +kernel
theorem dX0_sumOf_0 : decode cX0_sumOf 0 = .ok (.iconst 0, 1) := by decide +kernel
theorem dX0_sumOf_1 : decode cX0_sumOf 1 = .ok (.istore_n 2, 1) := by decide +kernel
theorem dX0_sumOf_2 : decode cX0_sumOf 2 = .ok (.iconst 0, 1) := by decide +kernel
theorem dX0_sumOf_3 : decode cX0_sumOf 3 = .ok (.istore_n 3, 1) := by decide +kernel
theorem dX0_sumOf_4 : decode cX0_sumOf 4 = .ok (.iload_n 3, 1) := by decide +kernel
theorem dX0_sumOf_5 : decode cX0_sumOf 5 = .ok (.aload_n 0, 1) := by decide +kernel
theorem dX0_sumOf_6 : decode cX0_sumOf 6 = .ok (.getfield 21, 3) := by decide +kernel
theorem dX0_sumOf_9 : decode cX0_sumOf 9 = .ok (.if_icmp .ge 18, 3) := by decide +kernel
theorem dX0_sumOf_12 : decode cX0_sumOf 12 = .ok (.iload_n 2, 1) := by decide +kernel
theorem dX0_sumOf_13 : decode cX0_sumOf 13 = .ok (.aload_n 0, 1) := by decide +kernel
theorem dX0_sumOf_14 : decode cX0_sumOf 14 = .ok (.iload_n 3, 1) := by decide +kernel
theorem dX0_sumOf_15 : decode cX0_sumOf 15 = .ok (.iload_n 1, 1) := by decide +kernel
theorem dX0_sumOf_16 : decode cX0_sumOf 16 = .ok (.invokevirtual 47, 3) := by decide +kernel
theorem dX0_sumOf_19 : decode cX0_sumOf 19 = .ok (.iadd, 1) := by decide +kernel
theorem dX0_sumOf_20 : decode cX0_sumOf 20 = .ok (.istore_n 2, 1) := by decide +kernel
theorem dX0_sumOf_21 : decode cX0_sumOf 21 = .ok (.iinc 3 1, 3) := by decide +kernel
theorem dX0_sumOf_24 : decode cX0_sumOf 24 = .ok (.goto (-20), 3) := by decide +kernel
theorem dX0_sumOf_27 : decode cX0_sumOf 27 = .ok (.iload_n 2, 1) := by decide +kernel
theorem dX0_sumOf_28 : decode cX0_sumOf 28 = .ok (.ireturn, 1) := by decide +kernel
theorem dX0_votesFor_0 : decode cX0_votesFor 0 = .ok (.iload_n 2, 1) := by decide +kernel
theorem dX0_votesFor_1 : decode cX0_votesFor 1 = .ok (.aload_n 0, 1) := by decide +kernel
theorem dX0_votesFor_2 : decode cX0_votesFor 2 = .ok (.getfield 9, 3) := by decide +kernel
theorem dX0_votesFor_5 : decode cX0_votesFor 5 = .ok (.iload_n 1, 1) := by decide +kernel
theorem dX0_votesFor_6 : decode cX0_votesFor 6 = .ok (.iconst 4, 1) := by decide +kernel
theorem dX0_votesFor_7 : decode cX0_votesFor 7 = .ok (.imul, 1) := by decide +kernel
theorem dX0_votesFor_8 : decode cX0_votesFor 8 = .ok (.iconst 2, 1) := by decide +kernel
theorem dX0_votesFor_9 : decode cX0_votesFor 9 = .ok (.iadd, 1) := by decide +kernel
theorem dX0_votesFor_10 : decode cX0_votesFor 10 = .ok (.iaload, 1) := by decide +kernel
theorem dX0_votesFor_11 : decode cX0_votesFor 11 = .ok (.isub, 1) := by decide +kernel
theorem dX0_votesFor_12 : decode cX0_votesFor 12 = .ok (.istore_n 3, 1) := by decide +kernel
theorem dX0_votesFor_13 : decode cX0_votesFor 13 = .ok (.aload_n 0, 1) := by decide +kernel
theorem dX0_votesFor_14 : decode cX0_votesFor 14 = .ok (.getfield 9, 3) := by decide +kernel
theorem dX0_votesFor_17 : decode cX0_votesFor 17 = .ok (.iload_n 1, 1) := by decide +kernel
theorem dX0_votesFor_18 : decode cX0_votesFor 18 = .ok (.iconst 4, 1) := by decide +kernel
theorem dX0_votesFor_19 : decode cX0_votesFor 19 = .ok (.imul, 1) := by decide +kernel
theorem dX0_votesFor_20 : decode cX0_votesFor 20 = .ok (.iconst 3, 1) := by decide +kernel
theorem dX0_votesFor_21 : decode cX0_votesFor 21 = .ok (.iadd, 1) := by decide +kernel
theorem dX0_votesFor_22 : decode cX0_votesFor 22 = .ok (.iaload, 1) := by decide +kernel
theorem dX0_votesFor_23 : decode cX0_votesFor 23 = .ok (.istore 4, 2) := by decide +kernel
theorem dX0_votesFor_25 : decode cX0_votesFor 25 = .ok (.iload_n 3, 1) := by decide +kernel
theorem dX0_votesFor_26 : decode cX0_votesFor 26 = .ok (.iload 4, 2) := by decide +kernel
theorem dX0_votesFor_28 : decode cX0_votesFor 28 = .ok (.if_icmp .gt 14, 3) := by decide +kernel
theorem dX0_votesFor_31 : decode cX0_votesFor 31 = .ok (.iload_n 3, 1) := by decide +kernel
theorem dX0_votesFor_32 : decode cX0_votesFor 32 = .ok (.ineg, 1) := by decide +kernel
theorem dX0_votesFor_33 : decode cX0_votesFor 33 = .ok (.iload 4, 2) := by decide +kernel
theorem dX0_votesFor_35 : decode cX0_votesFor 35 = .ok (.if_icmp .gt 7, 3) := by decide +kernel
theorem dX0_votesFor_38 : decode cX0_votesFor 38 = .ok (.iconst 1, 1) := by decide +kernel
theorem dX0_votesFor_39 : decode cX0_votesFor 39 = .ok (.goto 4, 3) := by decide +kernel
theorem dX0_votesFor_42 : decode cX0_votesFor 42 = .ok (.iconst 0, 1) := by decide +kernel
theorem dX0_votesFor_43 : decode cX0_votesFor 43 = .ok (.ireturn, 1) := by decide +kernel
theorem dX0_votersFor_0 : decode cX0_votersFor 0 = .ok (.iconst 0, 1) := by decide +kernel
theorem dX0_votersFor_1 : decode cX0_votersFor 1 = .ok (.istore_n 2, 1) := by decide +kernel
theorem dX0_votersFor_2 : decode cX0_votersFor 2 = .ok (.iconst 0, 1) := by decide +kernel
theorem dX0_votersFor_3 : decode cX0_votersFor 3 = .ok (.istore_n 3, 1) := by decide +kernel
theorem dX0_votersFor_4 : decode cX0_votersFor 4 = .ok (.iload_n 3, 1) := by decide +kernel
theorem dX0_votersFor_5 : decode cX0_votersFor 5 = .ok (.aload_n 0, 1) := by decide +kernel
theorem dX0_votersFor_6 : decode cX0_votersFor 6 = .ok (.getfield 21, 3) := by decide +kernel
theorem dX0_votersFor_9 : decode cX0_votersFor 9 = .ok (.if_icmp .ge 24, 3) := by decide +kernel
theorem dX0_votersFor_12 : decode cX0_votersFor 12 = .ok (.aload_n 0, 1) := by decide +kernel
theorem dX0_votersFor_13 : decode cX0_votersFor 13 = .ok (.iload_n 3, 1) := by decide +kernel
theorem dX0_votersFor_14 : decode cX0_votersFor 14 = .ok (.iload_n 1, 1) := by decide +kernel
theorem dX0_votersFor_15 : decode cX0_votersFor 15 = .ok (.invokevirtual 51, 3) := by decide +kernel
theorem dX0_votersFor_18 : decode cX0_votersFor 18 = .ok (.ifCond .eq 9, 3) := by decide +kernel
theorem dX0_votersFor_21 : decode cX0_votersFor 21 = .ok (.iload_n 2, 1) := by decide +kernel
theorem dX0_votersFor_22 : decode cX0_votersFor 22 = .ok (.iconst 1, 1) := by decide +kernel
theorem dX0_votersFor_23 : decode cX0_votersFor 23 = .ok (.iload_n 3, 1) := by decide +kernel
theorem dX0_votersFor_24 : decode cX0_votersFor 24 = .ok (.ishl, 1) := by decide +kernel
theorem dX0_votersFor_25 : decode cX0_votersFor 25 = .ok (.ior, 1) := by decide +kernel
theorem dX0_votersFor_26 : decode cX0_votersFor 26 = .ok (.istore_n 2, 1) := by decide +kernel
theorem dX0_votersFor_27 : decode cX0_votersFor 27 = .ok (.iinc 3 1, 3) := by decide +kernel
theorem dX0_votersFor_30 : decode cX0_votersFor 30 = .ok (.goto (-26), 3) := by decide +kernel
theorem dX0_votersFor_33 : decode cX0_votersFor 33 = .ok (.iload_n 2, 1) := by decide +kernel
theorem dX0_votersFor_34 : decode cX0_votersFor 34 = .ok (.ireturn, 1) := by decide +kernel
theorem dX0_membersOf_0 : decode cX0_membersOf 0 = .ok (.iconst 0, 1) := by decide +kernel
theorem dX0_membersOf_1 : decode cX0_membersOf 1 = .ok (.istore_n 2, 1) := by decide +kernel
theorem dX0_membersOf_2 : decode cX0_membersOf 2 = .ok (.iconst 0, 1) := by decide +kernel
theorem dX0_membersOf_3 : decode cX0_membersOf 3 = .ok (.istore_n 3, 1) := by decide +kernel
theorem dX0_membersOf_4 : decode cX0_membersOf 4 = .ok (.iload_n 3, 1) := by decide +kernel
theorem dX0_membersOf_5 : decode cX0_membersOf 5 = .ok (.aload_n 0, 1) := by decide +kernel
theorem dX0_membersOf_6 : decode cX0_membersOf 6 = .ok (.getfield 21, 3) := by decide +kernel
theorem dX0_membersOf_9 : decode cX0_membersOf 9 = .ok (.if_icmp .ge 25, 3) := by decide +kernel
theorem dX0_membersOf_12 : decode cX0_membersOf 12 = .ok (.aload_n 0, 1) := by decide +kernel
theorem dX0_membersOf_13 : decode cX0_membersOf 13 = .ok (.iload_n 3, 1) := by decide +kernel
theorem dX0_membersOf_14 : decode cX0_membersOf 14 = .ok (.iconst 1, 1) := by decide +kernel
theorem dX0_membersOf_15 : decode cX0_membersOf 15 = .ok (.invokevirtual 47, 3) := by decide +kernel
theorem dX0_membersOf_18 : decode cX0_membersOf 18 = .ok (.iload_n 1, 1) := by decide +kernel
theorem dX0_membersOf_19 : decode cX0_membersOf 19 = .ok (.if_icmp .ne 9, 3) := by decide +kernel
theorem dX0_membersOf_22 : decode cX0_membersOf 22 = .ok (.iload_n 2, 1) := by decide +kernel
theorem dX0_membersOf_23 : decode cX0_membersOf 23 = .ok (.iconst 1, 1) := by decide +kernel
theorem dX0_membersOf_24 : decode cX0_membersOf 24 = .ok (.iload_n 3, 1) := by decide +kernel
theorem dX0_membersOf_25 : decode cX0_membersOf 25 = .ok (.ishl, 1) := by decide +kernel
theorem dX0_membersOf_26 : decode cX0_membersOf 26 = .ok (.ior, 1) := by decide +kernel
theorem dX0_membersOf_27 : decode cX0_membersOf 27 = .ok (.istore_n 2, 1) := by decide +kernel
theorem dX0_membersOf_28 : decode cX0_membersOf 28 = .ok (.iinc 3 1, 3) := by decide +kernel
theorem dX0_membersOf_31 : decode cX0_membersOf 31 = .ok (.goto (-27), 3) := by decide +kernel
theorem dX0_membersOf_34 : decode cX0_membersOf 34 = .ok (.iload_n 2, 1) := by decide +kernel
theorem dX0_membersOf_35 : decode cX0_membersOf 35 = .ok (.ireturn, 1) := by decide +kernel
theorem dX0_agrees_0 : decode cX0_agrees 0 = .ok (.iconst 0, 1) := by decide +kernel
theorem dX0_agrees_1 : decode cX0_agrees 1 = .ok (.istore_n 2, 1) := by decide +kernel
theorem dX0_agrees_2 : decode cX0_agrees 2 = .ok (.iconst 0, 1) := by decide +kernel
theorem dX0_agrees_3 : decode cX0_agrees 3 = .ok (.istore_n 3, 1) := by decide +kernel
theorem dX0_agrees_4 : decode cX0_agrees 4 = .ok (.iconst 0, 1) := by decide +kernel
theorem dX0_agrees_5 : decode cX0_agrees 5 = .ok (.istore 4, 2) := by decide +kernel
theorem dX0_agrees_7 : decode cX0_agrees 7 = .ok (.iload 4, 2) := by decide +kernel
theorem dX0_agrees_9 : decode cX0_agrees 9 = .ok (.aload_n 0, 1) := by decide +kernel
theorem dX0_agrees_10 : decode cX0_agrees 10 = .ok (.getfield 21, 3) := by decide +kernel
theorem dX0_agrees_13 : decode cX0_agrees 13 = .ok (.if_icmp .ge 44, 3) := by decide +kernel
theorem dX0_agrees_16 : decode cX0_agrees 16 = .ok (.aload_n 0, 1) := by decide +kernel
theorem dX0_agrees_17 : decode cX0_agrees 17 = .ok (.iload 4, 2) := by decide +kernel
theorem dX0_agrees_19 : decode cX0_agrees 19 = .ok (.iconst 1, 1) := by decide +kernel
theorem dX0_agrees_20 : decode cX0_agrees 20 = .ok (.invokevirtual 47, 3) := by decide +kernel
theorem dX0_agrees_23 : decode cX0_agrees 23 = .ok (.iload_n 1, 1) := by decide +kernel
theorem dX0_agrees_24 : decode cX0_agrees 24 = .ok (.if_icmp .ne 27, 3) := by decide +kernel
theorem dX0_agrees_27 : decode cX0_agrees 27 = .ok (.iinc 2 1, 3) := by decide +kernel
theorem dX0_agrees_30 : decode cX0_agrees 30 = .ok (.iload_n 3, 1) := by decide +kernel
theorem dX0_agrees_31 : decode cX0_agrees 31 = .ok (.aload_n 0, 1) := by decide +kernel
theorem dX0_agrees_32 : decode cX0_agrees 32 = .ok (.iload 4, 2) := by decide +kernel
theorem dX0_agrees_34 : decode cX0_agrees 34 = .ok (.aload_n 0, 1) := by decide +kernel
theorem dX0_agrees_35 : decode cX0_agrees 35 = .ok (.getfield 25, 3) := by decide +kernel
theorem dX0_agrees_38 : decode cX0_agrees 38 = .ok (.invokevirtual 51, 3) := by decide +kernel
theorem dX0_agrees_41 : decode cX0_agrees 41 = .ok (.ifCond .eq 7, 3) := by decide +kernel
theorem dX0_agrees_44 : decode cX0_agrees 44 = .ok (.iconst 1, 1) := by decide +kernel
theorem dX0_agrees_45 : decode cX0_agrees 45 = .ok (.goto 4, 3) := by decide +kernel
theorem dX0_agrees_48 : decode cX0_agrees 48 = .ok (.iconst (-1), 1) := by decide +kernel
theorem dX0_agrees_49 : decode cX0_agrees 49 = .ok (.iadd, 1) := by decide +kernel
theorem dX0_agrees_50 : decode cX0_agrees 50 = .ok (.istore_n 3, 1) := by decide +kernel
theorem dX0_agrees_51 : decode cX0_agrees 51 = .ok (.iinc 4 1, 3) := by decide +kernel
theorem dX0_agrees_54 : decode cX0_agrees 54 = .ok (.goto (-47), 3) := by decide +kernel
theorem dX0_agrees_57 : decode cX0_agrees 57 = .ok (.iload_n 2, 1) := by decide +kernel
theorem dX0_agrees_58 : decode cX0_agrees 58 = .ok (.ifCond .eq 7, 3) := by decide +kernel
theorem dX0_agrees_61 : decode cX0_agrees 61 = .ok (.iload_n 3, 1) := by decide +kernel
theorem dX0_agrees_62 : decode cX0_agrees 62 = .ok (.ifCond .le 7, 3) := by decide +kernel
theorem dX0_agrees_65 : decode cX0_agrees 65 = .ok (.iconst 1, 1) := by decide +kernel
theorem dX0_agrees_66 : decode cX0_agrees 66 = .ok (.goto 4, 3) := by decide +kernel
theorem dX0_agrees_69 : decode cX0_agrees 69 = .ok (.iconst 0, 1) := by decide +kernel
theorem dX0_agrees_70 : decode cX0_agrees 70 = .ok (.ireturn, 1) := by decide +kernel
theorem dX0_agreeingHouses_0 : decode cX0_agreeingHouses 0 = .ok (.aload_n 0, 1) := by decide +kernel
theorem dX0_agreeingHouses_1 : decode cX0_agreeingHouses 1 = .ok (.iconst 0, 1) := by decide +kernel
theorem dX0_agreeingHouses_2 : decode cX0_agreeingHouses 2 = .ok (.invokevirtual 55, 3) := by decide +kernel
theorem dX0_agreeingHouses_5 : decode cX0_agreeingHouses 5 = .ok (.invokestatic 59, 3) := by decide +kernel
theorem dX0_agreeingHouses_8 : decode cX0_agreeingHouses 8 = .ok (.iconst 2, 1) := by decide +kernel
theorem dX0_agreeingHouses_9 : decode cX0_agreeingHouses 9 = .ok (.aload_n 0, 1) := by decide +kernel
theorem dX0_agreeingHouses_10 : decode cX0_agreeingHouses 10 = .ok (.iconst 1, 1) := by decide +kernel
theorem dX0_agreeingHouses_11 : decode cX0_agreeingHouses 11 = .ok (.invokevirtual 55, 3) := by decide +kernel
theorem dX0_agreeingHouses_14 : decode cX0_agreeingHouses 14 = .ok (.invokestatic 59, 3) := by decide +kernel
theorem dX0_agreeingHouses_17 : decode cX0_agreeingHouses 17 = .ok (.imul, 1) := by decide +kernel
theorem dX0_agreeingHouses_18 : decode cX0_agreeingHouses 18 = .ok (.iadd, 1) := by decide +kernel
theorem dX0_agreeingHouses_19 : decode cX0_agreeingHouses 19 = .ok (.ireturn, 1) := by decide +kernel
theorem dX0_isCarried_0 : decode cX0_isCarried 0 = .ok (.aload_n 0, 1) := by decide +kernel
theorem dX0_isCarried_1 : decode cX0_isCarried 1 = .ok (.iconst 0, 1) := by decide +kernel
theorem dX0_isCarried_2 : decode cX0_isCarried 2 = .ok (.invokevirtual 55, 3) := by decide +kernel
theorem dX0_isCarried_5 : decode cX0_isCarried 5 = .ok (.ifCond .eq 15, 3) := by decide +kernel
theorem dX0_isCarried_8 : decode cX0_isCarried 8 = .ok (.aload_n 0, 1) := by decide +kernel
theorem dX0_isCarried_9 : decode cX0_isCarried 9 = .ok (.iconst 1, 1) := by decide +kernel
theorem dX0_isCarried_10 : decode cX0_isCarried 10 = .ok (.invokevirtual 55, 3) := by decide +kernel
theorem dX0_isCarried_13 : decode cX0_isCarried 13 = .ok (.ifCond .eq 7, 3) := by decide +kernel
theorem dX0_isCarried_16 : decode cX0_isCarried 16 = .ok (.iconst 1, 1) := by decide +kernel
theorem dX0_isCarried_17 : decode cX0_isCarried 17 = .ok (.goto 4, 3) := by decide +kernel
theorem dX0_isCarried_20 : decode cX0_isCarried 20 = .ok (.iconst 0, 1) := by decide +kernel
theorem dX0_isCarried_21 : decode cX0_isCarried 21 = .ok (.ireturn, 1) := by decide +kernel
theorem dX0_pull_0 : decode cX0_pull 0 = .ok (.aload_n 0, 1) := by decide +kernel
theorem dX0_pull_1 : decode cX0_pull 1 = .ok (.iload_n 1, 1) := by decide +kernel
theorem dX0_pull_2 : decode cX0_pull 2 = .ok (.iconst 2, 1) := by decide +kernel
theorem dX0_pull_3 : decode cX0_pull 3 = .ok (.invokevirtual 47, 3) := by decide +kernel
theorem dX0_pull_6 : decode cX0_pull 6 = .ok (.aload_n 0, 1) := by decide +kernel
theorem dX0_pull_7 : decode cX0_pull 7 = .ok (.getfield 25, 3) := by decide +kernel
theorem dX0_pull_10 : decode cX0_pull 10 = .ok (.isub, 1) := by decide +kernel
theorem dX0_pull_11 : decode cX0_pull 11 = .ok (.istore_n 2, 1) := by decide +kernel
theorem dX0_pull_12 : decode cX0_pull 12 = .ok (.iload_n 2, 1) := by decide +kernel
theorem dX0_pull_13 : decode cX0_pull 13 = .ok (.invokestatic 63, 3) := by decide +kernel
theorem dX0_pull_16 : decode cX0_pull 16 = .ok (.istore_n 3, 1) := by decide +kernel
theorem dX0_pull_17 : decode cX0_pull 17 = .ok (.iload_n 2, 1) := by decide +kernel
theorem dX0_pull_18 : decode cX0_pull 18 = .ok (.invokestatic 67, 3) := by decide +kernel
theorem dX0_pull_21 : decode cX0_pull 21 = .ok (.iconst 2, 1) := by decide +kernel
theorem dX0_pull_22 : decode cX0_pull 22 = .ok (.if_icmp .le 7, 3) := by decide +kernel
theorem dX0_pull_25 : decode cX0_pull 25 = .ok (.iload_n 3, 1) := by decide +kernel
theorem dX0_pull_26 : decode cX0_pull 26 = .ok (.goto 4, 3) := by decide +kernel
theorem dX0_pull_29 : decode cX0_pull 29 = .ok (.iconst 0, 1) := by decide +kernel
theorem dX0_pull_30 : decode cX0_pull 30 = .ok (.istore 4, 2) := by decide +kernel
theorem dX0_pull_32 : decode cX0_pull 32 = .ok (.aload_n 0, 1) := by decide +kernel
theorem dX0_pull_33 : decode cX0_pull 33 = .ok (.iload_n 1, 1) := by decide +kernel
theorem dX0_pull_34 : decode cX0_pull 34 = .ok (.iconst 0, 1) := by decide +kernel
theorem dX0_pull_35 : decode cX0_pull 35 = .ok (.invokevirtual 47, 3) := by decide +kernel
theorem dX0_pull_38 : decode cX0_pull 38 = .ok (.tableswitch 37 1 3 #[26, 30, 33], 26) := by decide +kernel
theorem dX0_pull_64 : decode cX0_pull 64 = .ok (.iconst 2, 1) := by decide +kernel
theorem dX0_pull_65 : decode cX0_pull 65 = .ok (.iload_n 3, 1) := by decide +kernel
theorem dX0_pull_66 : decode cX0_pull 66 = .ok (.imul, 1) := by decide +kernel
theorem dX0_pull_67 : decode cX0_pull 67 = .ok (.ireturn, 1) := by decide +kernel
theorem dX0_pull_68 : decode cX0_pull 68 = .ok (.iload 4, 2) := by decide +kernel
theorem dX0_pull_70 : decode cX0_pull 70 = .ok (.ireturn, 1) := by decide +kernel
theorem dX0_pull_71 : decode cX0_pull 71 = .ok (.iload 4, 2) := by decide +kernel
theorem dX0_pull_73 : decode cX0_pull 73 = .ok (.ineg, 1) := by decide +kernel
theorem dX0_pull_74 : decode cX0_pull 74 = .ok (.ireturn, 1) := by decide +kernel
theorem dX0_pull_75 : decode cX0_pull 75 = .ok (.iload_n 3, 1) := by decide +kernel
theorem dX0_pull_76 : decode cX0_pull 76 = .ok (.ireturn, 1) := by decide +kernel
theorem dX0_pullOf_0 : decode cX0_pullOf 0 = .ok (.iconst 0, 1) := by decide +kernel
theorem dX0_pullOf_1 : decode cX0_pullOf 1 = .ok (.istore_n 2, 1) := by decide +kernel
theorem dX0_pullOf_2 : decode cX0_pullOf 2 = .ok (.iconst 0, 1) := by decide +kernel
theorem dX0_pullOf_3 : decode cX0_pullOf 3 = .ok (.istore_n 3, 1) := by decide +kernel
theorem dX0_pullOf_4 : decode cX0_pullOf 4 = .ok (.iload_n 3, 1) := by decide +kernel
theorem dX0_pullOf_5 : decode cX0_pullOf 5 = .ok (.aload_n 0, 1) := by decide +kernel
theorem dX0_pullOf_6 : decode cX0_pullOf 6 = .ok (.getfield 21, 3) := by decide +kernel
theorem dX0_pullOf_9 : decode cX0_pullOf 9 = .ok (.if_icmp .ge 27, 3) := by decide +kernel
theorem dX0_pullOf_12 : decode cX0_pullOf 12 = .ok (.aload_n 0, 1) := by decide +kernel
theorem dX0_pullOf_13 : decode cX0_pullOf 13 = .ok (.iload_n 3, 1) := by decide +kernel
theorem dX0_pullOf_14 : decode cX0_pullOf 14 = .ok (.iconst 1, 1) := by decide +kernel
theorem dX0_pullOf_15 : decode cX0_pullOf 15 = .ok (.invokevirtual 47, 3) := by decide +kernel
theorem dX0_pullOf_18 : decode cX0_pullOf 18 = .ok (.iload_n 1, 1) := by decide +kernel
theorem dX0_pullOf_19 : decode cX0_pullOf 19 = .ok (.if_icmp .ne 11, 3) := by decide +kernel
theorem dX0_pullOf_22 : decode cX0_pullOf 22 = .ok (.iload_n 2, 1) := by decide +kernel
theorem dX0_pullOf_23 : decode cX0_pullOf 23 = .ok (.aload_n 0, 1) := by decide +kernel
theorem dX0_pullOf_24 : decode cX0_pullOf 24 = .ok (.iload_n 3, 1) := by decide +kernel
theorem dX0_pullOf_25 : decode cX0_pullOf 25 = .ok (.invokevirtual 72, 3) := by decide +kernel
theorem dX0_pullOf_28 : decode cX0_pullOf 28 = .ok (.iadd, 1) := by decide +kernel
theorem dX0_pullOf_29 : decode cX0_pullOf 29 = .ok (.istore_n 2, 1) := by decide +kernel
theorem dX0_pullOf_30 : decode cX0_pullOf 30 = .ok (.iinc 3 1, 3) := by decide +kernel
theorem dX0_pullOf_33 : decode cX0_pullOf 33 = .ok (.goto (-29), 3) := by decide +kernel
theorem dX0_pullOf_36 : decode cX0_pullOf 36 = .ok (.iload_n 2, 1) := by decide +kernel
theorem dX0_pullOf_37 : decode cX0_pullOf 37 = .ok (.ireturn, 1) := by decide +kernel
theorem dX0_passDays_0 : decode cX0_passDays 0 = .ok (.iconst 0, 1) := by decide +kernel
theorem dX0_passDays_1 : decode cX0_passDays 1 = .ok (.istore_n 2, 1) := by decide +kernel
theorem dX0_passDays_2 : decode cX0_passDays 2 = .ok (.iconst 0, 1) := by decide +kernel
theorem dX0_passDays_3 : decode cX0_passDays 3 = .ok (.istore_n 3, 1) := by decide +kernel
theorem dX0_passDays_4 : decode cX0_passDays 4 = .ok (.iload_n 3, 1) := by decide +kernel
theorem dX0_passDays_5 : decode cX0_passDays 5 = .ok (.iload_n 1, 1) := by decide +kernel
theorem dX0_passDays_6 : decode cX0_passDays 6 = .ok (.if_icmp .ge 17, 3) := by decide +kernel
theorem dX0_passDays_9 : decode cX0_passDays 9 = .ok (.iload_n 2, 1) := by decide +kernel
theorem dX0_passDays_10 : decode cX0_passDays 10 = .ok (.aload_n 0, 1) := by decide +kernel
theorem dX0_passDays_11 : decode cX0_passDays 11 = .ok (.iconst 1, 1) := by decide +kernel
theorem dX0_passDays_12 : decode cX0_passDays 12 = .ok (.invokevirtual 75, 3) := by decide +kernel
theorem dX0_passDays_15 : decode cX0_passDays 15 = .ok (.iadd, 1) := by decide +kernel
theorem dX0_passDays_16 : decode cX0_passDays 16 = .ok (.istore_n 2, 1) := by decide +kernel
theorem dX0_passDays_17 : decode cX0_passDays 17 = .ok (.iinc 3 1, 3) := by decide +kernel
theorem dX0_passDays_20 : decode cX0_passDays 20 = .ok (.goto (-16), 3) := by decide +kernel
theorem dX0_passDays_23 : decode cX0_passDays 23 = .ok (.iload_n 2, 1) := by decide +kernel
theorem dX0_passDays_24 : decode cX0_passDays 24 = .ok (.ireturn, 1) := by decide +kernel
theorem dX0_passDay_0 : decode cX0_passDay 0 = .ok (.iload_n 1, 1) := by decide +kernel
theorem dX0_passDay_1 : decode cX0_passDay 1 = .ok (.ifCond .eq 23, 3) := by decide +kernel
theorem dX0_passDay_4 : decode cX0_passDay 4 = .ok (.aload_n 0, 1) := by decide +kernel
theorem dX0_passDay_5 : decode cX0_passDay 5 = .ok (.invokevirtual 78, 3) := by decide +kernel
theorem dX0_passDay_8 : decode cX0_passDay 8 = .ok (.ifCond .ne 16, 3) := by decide +kernel
theorem dX0_passDay_11 : decode cX0_passDay 11 = .ok (.aload_n 0, 1) := by decide +kernel
theorem dX0_passDay_12 : decode cX0_passDay 12 = .ok (.aload_n 0, 1) := by decide +kernel
theorem dX0_passDay_13 : decode cX0_passDay 13 = .ok (.getfield 28, 3) := by decide +kernel
theorem dX0_passDay_16 : decode cX0_passDay 16 = .ok (.iconst 2, 1) := by decide +kernel
theorem dX0_passDay_17 : decode cX0_passDay 17 = .ok (.irem, 1) := by decide +kernel
theorem dX0_passDay_18 : decode cX0_passDay 18 = .ok (.invokevirtual 82, 3) := by decide +kernel
theorem dX0_passDay_21 : decode cX0_passDay 21 = .ok (.goto 4, 3) := by decide +kernel
theorem dX0_passDay_24 : decode cX0_passDay 24 = .ok (.iconst 0, 1) := by decide +kernel
theorem dX0_passDay_25 : decode cX0_passDay 25 = .ok (.istore_n 2, 1) := by decide +kernel
theorem dX0_passDay_26 : decode cX0_passDay 26 = .ok (.aload_n 0, 1) := by decide +kernel
theorem dX0_passDay_27 : decode cX0_passDay 27 = .ok (.dup, 1) := by decide +kernel
theorem dX0_passDay_28 : decode cX0_passDay 28 = .ok (.getfield 28, 3) := by decide +kernel
theorem dX0_passDay_31 : decode cX0_passDay 31 = .ok (.iconst 1, 1) := by decide +kernel
theorem dX0_passDay_32 : decode cX0_passDay 32 = .ok (.iadd, 1) := by decide +kernel
theorem dX0_passDay_33 : decode cX0_passDay 33 = .ok (.putfield 28, 3) := by decide +kernel
theorem dX0_passDay_36 : decode cX0_passDay 36 = .ok (.iload_n 2, 1) := by decide +kernel
theorem dX0_passDay_37 : decode cX0_passDay 37 = .ok (.ireturn, 1) := by decide +kernel
theorem dX0_sit_0 : decode cX0_sit 0 = .ok (.iconst 0, 1) := by decide +kernel
theorem dX0_sit_1 : decode cX0_sit 1 = .ok (.istore_n 2, 1) := by decide +kernel
theorem dX0_sit_2 : decode cX0_sit 2 = .ok (.iconst 0, 1) := by decide +kernel
theorem dX0_sit_3 : decode cX0_sit 3 = .ok (.istore_n 3, 1) := by decide +kernel
theorem dX0_sit_4 : decode cX0_sit 4 = .ok (.iload_n 3, 1) := by decide +kernel
theorem dX0_sit_5 : decode cX0_sit 5 = .ok (.aload_n 0, 1) := by decide +kernel
theorem dX0_sit_6 : decode cX0_sit 6 = .ok (.getfield 21, 3) := by decide +kernel
theorem dX0_sit_9 : decode cX0_sit 9 = .ok (.if_icmp .ge 32, 3) := by decide +kernel
theorem dX0_sit_12 : decode cX0_sit 12 = .ok (.aload_n 0, 1) := by decide +kernel
theorem dX0_sit_13 : decode cX0_sit 13 = .ok (.iload_n 3, 1) := by decide +kernel
theorem dX0_sit_14 : decode cX0_sit 14 = .ok (.iconst 1, 1) := by decide +kernel
theorem dX0_sit_15 : decode cX0_sit 15 = .ok (.invokevirtual 47, 3) := by decide +kernel
theorem dX0_sit_18 : decode cX0_sit 18 = .ok (.iload_n 1, 1) := by decide +kernel
theorem dX0_sit_19 : decode cX0_sit 19 = .ok (.if_icmp .ne 16, 3) := by decide +kernel
theorem dX0_sit_22 : decode cX0_sit 22 = .ok (.iload_n 2, 1) := by decide +kernel
theorem dX0_sit_23 : decode cX0_sit 23 = .ok (.aload_n 0, 1) := by decide +kernel
theorem dX0_sit_24 : decode cX0_sit 24 = .ok (.iload_n 3, 1) := by decide +kernel
theorem dX0_sit_25 : decode cX0_sit 25 = .ok (.invokevirtual 72, 3) := by decide +kernel
theorem dX0_sit_28 : decode cX0_sit 28 = .ok (.iadd, 1) := by decide +kernel
theorem dX0_sit_29 : decode cX0_sit 29 = .ok (.istore_n 2, 1) := by decide +kernel
theorem dX0_sit_30 : decode cX0_sit 30 = .ok (.aload_n 0, 1) := by decide +kernel
theorem dX0_sit_31 : decode cX0_sit 31 = .ok (.iload_n 3, 1) := by decide +kernel
theorem dX0_sit_32 : decode cX0_sit 32 = .ok (.invokevirtual 85, 3) := by decide +kernel
theorem dX0_sit_35 : decode cX0_sit 35 = .ok (.iinc 3 1, 3) := by decide +kernel
theorem dX0_sit_38 : decode cX0_sit 38 = .ok (.goto (-34), 3) := by decide +kernel
theorem dX0_sit_41 : decode cX0_sit 41 = .ok (.aload_n 0, 1) := by decide +kernel
theorem dX0_sit_42 : decode cX0_sit 42 = .ok (.iload_n 2, 1) := by decide +kernel
theorem dX0_sit_43 : decode cX0_sit 43 = .ok (.invokestatic 63, 3) := by decide +kernel
theorem dX0_sit_46 : decode cX0_sit 46 = .ok (.invokevirtual 89, 3) := by decide +kernel
theorem dX0_sit_49 : decode cX0_sit 49 = .ok (.ireturn, 1) := by decide +kernel
theorem dX0_tire_0 : decode cX0_tire 0 = .ok (.aload_n 0, 1) := by decide +kernel
theorem dX0_tire_1 : decode cX0_tire 1 = .ok (.iload_n 1, 1) := by decide +kernel
theorem dX0_tire_2 : decode cX0_tire 2 = .ok (.aload_n 0, 1) := by decide +kernel
theorem dX0_tire_3 : decode cX0_tire 3 = .ok (.getfield 25, 3) := by decide +kernel
theorem dX0_tire_6 : decode cX0_tire 6 = .ok (.invokevirtual 51, 3) := by decide +kernel
theorem dX0_tire_9 : decode cX0_tire 9 = .ok (.ifCond .ne 31, 3) := by decide +kernel
theorem dX0_tire_12 : decode cX0_tire 12 = .ok (.aload_n 0, 1) := by decide +kernel
theorem dX0_tire_13 : decode cX0_tire 13 = .ok (.iload_n 1, 1) := by decide +kernel
theorem dX0_tire_14 : decode cX0_tire 14 = .ok (.iconst 3, 1) := by decide +kernel
theorem dX0_tire_15 : decode cX0_tire 15 = .ok (.bipush 20, 2) := by decide +kernel
theorem dX0_tire_17 : decode cX0_tire 17 = .ok (.aload_n 0, 1) := by decide +kernel
theorem dX0_tire_18 : decode cX0_tire 18 = .ok (.iload_n 1, 1) := by decide +kernel
theorem dX0_tire_19 : decode cX0_tire 19 = .ok (.iconst 3, 1) := by decide +kernel
theorem dX0_tire_20 : decode cX0_tire 20 = .ok (.invokevirtual 47, 3) := by decide +kernel
theorem dX0_tire_23 : decode cX0_tire 23 = .ok (.getstatic 92, 3) := by decide +kernel
theorem dX0_tire_26 : decode cX0_tire 26 = .ok (.aload_n 0, 1) := by decide +kernel
theorem dX0_tire_27 : decode cX0_tire 27 = .ok (.iload_n 1, 1) := by decide +kernel
theorem dX0_tire_28 : decode cX0_tire 28 = .ok (.iconst 0, 1) := by decide +kernel
theorem dX0_tire_29 : decode cX0_tire 29 = .ok (.invokevirtual 47, 3) := by decide +kernel
theorem dX0_tire_32 : decode cX0_tire 32 = .ok (.iaload, 1) := by decide +kernel
theorem dX0_tire_33 : decode cX0_tire 33 = .ok (.iadd, 1) := by decide +kernel
theorem dX0_tire_34 : decode cX0_tire 34 = .ok (.invokestatic 95, 3) := by decide +kernel
theorem dX0_tire_37 : decode cX0_tire 37 = .ok (.invokevirtual 43, 3) := by decide +kernel
theorem dX0_tire_40 : decode cX0_tire 40 = .ok (.return_, 1) := by decide +kernel
theorem dX0_amend_0 : decode cX0_amend 0 = .ok (.iconst 0, 1) := by decide +kernel
theorem dX0_amend_1 : decode cX0_amend 1 = .ok (.bipush 20, 2) := by decide +kernel
theorem dX0_amend_3 : decode cX0_amend 3 = .ok (.aload_n 0, 1) := by decide +kernel
theorem dX0_amend_4 : decode cX0_amend 4 = .ok (.getfield 25, 3) := by decide +kernel
theorem dX0_amend_7 : decode cX0_amend 7 = .ok (.iload_n 1, 1) := by decide +kernel
theorem dX0_amend_8 : decode cX0_amend 8 = .ok (.iadd, 1) := by decide +kernel
theorem dX0_amend_9 : decode cX0_amend 9 = .ok (.invokestatic 95, 3) := by decide +kernel
theorem dX0_amend_12 : decode cX0_amend 12 = .ok (.invokestatic 98, 3) := by decide +kernel
theorem dX0_amend_15 : decode cX0_amend 15 = .ok (.istore_n 2, 1) := by decide +kernel
theorem dX0_amend_16 : decode cX0_amend 16 = .ok (.iload_n 2, 1) := by decide +kernel
theorem dX0_amend_17 : decode cX0_amend 17 = .ok (.aload_n 0, 1) := by decide +kernel
theorem dX0_amend_18 : decode cX0_amend 18 = .ok (.getfield 25, 3) := by decide +kernel
theorem dX0_amend_21 : decode cX0_amend 21 = .ok (.if_icmp .ne 5, 3) := by decide +kernel
theorem dX0_amend_24 : decode cX0_amend 24 = .ok (.iconst 0, 1) := by decide +kernel
theorem dX0_amend_25 : decode cX0_amend 25 = .ok (.ireturn, 1) := by decide +kernel
theorem dX0_amend_26 : decode cX0_amend 26 = .ok (.aload_n 0, 1) := by decide +kernel
theorem dX0_amend_27 : decode cX0_amend 27 = .ok (.iload_n 2, 1) := by decide +kernel
theorem dX0_amend_28 : decode cX0_amend 28 = .ok (.putfield 25, 3) := by decide +kernel
theorem dX0_amend_31 : decode cX0_amend 31 = .ok (.aload_n 0, 1) := by decide +kernel
theorem dX0_amend_32 : decode cX0_amend 32 = .ok (.sipush 999, 3) := by decide +kernel
theorem dX0_amend_35 : decode cX0_amend 35 = .ok (.aload_n 0, 1) := by decide +kernel
theorem dX0_amend_36 : decode cX0_amend 36 = .ok (.getfield 31, 3) := by decide +kernel
theorem dX0_amend_39 : decode cX0_amend 39 = .ok (.iconst 1, 1) := by decide +kernel
theorem dX0_amend_40 : decode cX0_amend 40 = .ok (.iadd, 1) := by decide +kernel
theorem dX0_amend_41 : decode cX0_amend 41 = .ok (.invokestatic 95, 3) := by decide +kernel
theorem dX0_amend_44 : decode cX0_amend 44 = .ok (.putfield 31, 3) := by decide +kernel
theorem dX0_amend_47 : decode cX0_amend 47 = .ok (.iconst 1, 1) := by decide +kernel
theorem dX0_amend_48 : decode cX0_amend 48 = .ok (.ireturn, 1) := by decide +kernel
theorem dX0_daysToCarry_0 : decode cX0_daysToCarry 0 = .ok (.iconst 0, 1) := by decide +kernel
theorem dX0_daysToCarry_1 : decode cX0_daysToCarry 1 = .ok (.istore_n 1, 1) := by decide +kernel
theorem dX0_daysToCarry_2 : decode cX0_daysToCarry 2 = .ok (.iload_n 1, 1) := by decide +kernel
theorem dX0_daysToCarry_3 : decode cX0_daysToCarry 3 = .ok (.bipush 60, 2) := by decide +kernel
theorem dX0_daysToCarry_5 : decode cX0_daysToCarry 5 = .ok (.if_icmp .gt 24, 3) := by decide +kernel
theorem dX0_daysToCarry_8 : decode cX0_daysToCarry 8 = .ok (.aload_n 0, 1) := by decide +kernel
theorem dX0_daysToCarry_9 : decode cX0_daysToCarry 9 = .ok (.invokevirtual 78, 3) := by decide +kernel
theorem dX0_daysToCarry_12 : decode cX0_daysToCarry 12 = .ok (.ifCond .eq 5, 3) := by decide +kernel
theorem dX0_daysToCarry_15 : decode cX0_daysToCarry 15 = .ok (.iload_n 1, 1) := by decide +kernel
theorem dX0_daysToCarry_16 : decode cX0_daysToCarry 16 = .ok (.ireturn, 1) := by decide +kernel
theorem dX0_daysToCarry_17 : decode cX0_daysToCarry 17 = .ok (.aload_n 0, 1) := by decide +kernel
theorem dX0_daysToCarry_18 : decode cX0_daysToCarry 18 = .ok (.iconst 1, 1) := by decide +kernel
theorem dX0_daysToCarry_19 : decode cX0_daysToCarry 19 = .ok (.invokevirtual 75, 3) := by decide +kernel
theorem dX0_daysToCarry_22 : decode cX0_daysToCarry 22 = .ok (.pop, 1) := by decide +kernel
theorem dX0_daysToCarry_23 : decode cX0_daysToCarry 23 = .ok (.iinc 1 1, 3) := by decide +kernel
theorem dX0_daysToCarry_26 : decode cX0_daysToCarry 26 = .ok (.goto (-24), 3) := by decide +kernel
theorem dX0_daysToCarry_29 : decode cX0_daysToCarry 29 = .ok (.bipush 61, 2) := by decide +kernel
theorem dX0_daysToCarry_31 : decode cX0_daysToCarry 31 = .ok (.ireturn, 1) := by decide +kernel
theorem dX1_init_0 : decode cX1_init 0 = .ok (.aload_n 0, 1) := by decide +kernel
theorem dX1_init_1 : decode cX1_init 1 = .ok (.invokespecial 3, 3) := by decide +kernel
theorem dX1_init_4 : decode cX1_init 4 = .ok (.aload_n 0, 1) := by decide +kernel
theorem dX1_init_5 : decode cX1_init 5 = .ok (.bipush 40, 2) := by decide +kernel
theorem dX1_init_7 : decode cX1_init 7 = .ok (.newarray .int, 2) := by decide +kernel
theorem dX1_init_9 : decode cX1_init 9 = .ok (.putfield 9, 3) := by decide +kernel
theorem dX1_init_12 : decode cX1_init 12 = .ok (.aload_n 0, 1) := by decide +kernel
theorem dX1_init_13 : decode cX1_init 13 = .ok (.iconst 0, 1) := by decide +kernel
theorem dX1_init_14 : decode cX1_init 14 = .ok (.putfield 15, 3) := by decide +kernel
theorem dX1_init_17 : decode cX1_init 17 = .ok (.aload_n 0, 1) := by decide +kernel
theorem dX1_init_18 : decode cX1_init 18 = .ok (.iconst (-1), 1) := by decide +kernel
theorem dX1_init_19 : decode cX1_init 19 = .ok (.putfield 19, 3) := by decide +kernel
theorem dX1_init_22 : decode cX1_init 22 = .ok (.return_, 1) := by decide +kernel
theorem dX1_renew_0 : decode cX1_renew 0 = .ok (.aload_n 0, 1) := by decide +kernel
theorem dX1_renew_1 : decode cX1_renew 1 = .ok (.getfield 9, 3) := by decide +kernel
theorem dX1_renew_4 : decode cX1_renew 4 = .ok (.iconst 0, 1) := by decide +kernel
theorem dX1_renew_5 : decode cX1_renew 5 = .ok (.invokestatic 22, 3) := by decide +kernel
theorem dX1_renew_8 : decode cX1_renew 8 = .ok (.aload_n 0, 1) := by decide +kernel
theorem dX1_renew_9 : decode cX1_renew 9 = .ok (.iload_n 1, 1) := by decide +kernel
theorem dX1_renew_10 : decode cX1_renew 10 = .ok (.putfield 15, 3) := by decide +kernel
theorem dX1_renew_13 : decode cX1_renew 13 = .ok (.aload_n 0, 1) := by decide +kernel
theorem dX1_renew_14 : decode cX1_renew 14 = .ok (.iload_n 2, 1) := by decide +kernel
theorem dX1_renew_15 : decode cX1_renew 15 = .ok (.putfield 19, 3) := by decide +kernel
theorem dX1_renew_18 : decode cX1_renew 18 = .ok (.return_, 1) := by decide +kernel
theorem dX1_faultOfCell_0 : decode cX1_faultOfCell 0 = .ok (.aload_n 0, 1) := by decide +kernel
theorem dX1_faultOfCell_1 : decode cX1_faultOfCell 1 = .ok (.getfield 19, 3) := by decide +kernel
theorem dX1_faultOfCell_4 : decode cX1_faultOfCell 4 = .ok (.iconst (-1), 1) := by decide +kernel
theorem dX1_faultOfCell_5 : decode cX1_faultOfCell 5 = .ok (.if_icmp .ne 5, 3) := by decide +kernel
theorem dX1_faultOfCell_8 : decode cX1_faultOfCell 8 = .ok (.iconst 1, 1) := by decide +kernel
theorem dX1_faultOfCell_9 : decode cX1_faultOfCell 9 = .ok (.ireturn, 1) := by decide +kernel
theorem dX1_faultOfCell_10 : decode cX1_faultOfCell 10 = .ok (.iload_n 1, 1) := by decide +kernel
theorem dX1_faultOfCell_11 : decode cX1_faultOfCell 11 = .ok (.aload_n 0, 1) := by decide +kernel
theorem dX1_faultOfCell_12 : decode cX1_faultOfCell 12 = .ok (.getfield 19, 3) := by decide +kernel
theorem dX1_faultOfCell_15 : decode cX1_faultOfCell 15 = .ok (.iconst 1, 1) := by decide +kernel
theorem dX1_faultOfCell_16 : decode cX1_faultOfCell 16 = .ok (.isub, 1) := by decide +kernel
theorem dX1_faultOfCell_17 : decode cX1_faultOfCell 17 = .ok (.invokestatic 28, 3) := by decide +kernel
theorem dX1_faultOfCell_20 : decode cX1_faultOfCell 20 = .ok (.ifCond .eq 7, 3) := by decide +kernel
theorem dX1_faultOfCell_23 : decode cX1_faultOfCell 23 = .ok (.iconst 0, 1) := by decide +kernel
theorem dX1_faultOfCell_24 : decode cX1_faultOfCell 24 = .ok (.goto 4, 3) := by decide +kernel
theorem dX1_faultOfCell_27 : decode cX1_faultOfCell 27 = .ok (.iconst 2, 1) := by decide +kernel
theorem dX1_faultOfCell_28 : decode cX1_faultOfCell 28 = .ok (.ireturn, 1) := by decide +kernel
theorem dX1_faultOfPair_0 : decode cX1_faultOfPair 0 = .ok (.aload_n 0, 1) := by decide +kernel
theorem dX1_faultOfPair_1 : decode cX1_faultOfPair 1 = .ok (.getfield 19, 3) := by decide +kernel
theorem dX1_faultOfPair_4 : decode cX1_faultOfPair 4 = .ok (.iconst (-1), 1) := by decide +kernel
theorem dX1_faultOfPair_5 : decode cX1_faultOfPair 5 = .ok (.if_icmp .eq 13, 3) := by decide +kernel
theorem dX1_faultOfPair_8 : decode cX1_faultOfPair 8 = .ok (.iload_n 1, 1) := by decide +kernel
theorem dX1_faultOfPair_9 : decode cX1_faultOfPair 9 = .ok (.aload_n 0, 1) := by decide +kernel
theorem dX1_faultOfPair_10 : decode cX1_faultOfPair 10 = .ok (.getfield 15, 3) := by decide +kernel
theorem dX1_faultOfPair_13 : decode cX1_faultOfPair 13 = .ok (.if_icmp .eq 5, 3) := by decide +kernel
theorem dX1_faultOfPair_16 : decode cX1_faultOfPair 16 = .ok (.iconst 3, 1) := by decide +kernel
theorem dX1_faultOfPair_17 : decode cX1_faultOfPair 17 = .ok (.ireturn, 1) := by decide +kernel
theorem dX1_faultOfPair_18 : decode cX1_faultOfPair 18 = .ok (.aload_n 0, 1) := by decide +kernel
theorem dX1_faultOfPair_19 : decode cX1_faultOfPair 19 = .ok (.iload_n 2, 1) := by decide +kernel
theorem dX1_faultOfPair_20 : decode cX1_faultOfPair 20 = .ok (.invokevirtual 32, 3) := by decide +kernel
theorem dX1_faultOfPair_23 : decode cX1_faultOfPair 23 = .ok (.istore_n 3, 1) := by decide +kernel
theorem dX1_faultOfPair_24 : decode cX1_faultOfPair 24 = .ok (.iload_n 3, 1) := by decide +kernel
theorem dX1_faultOfPair_25 : decode cX1_faultOfPair 25 = .ok (.ifCond .eq 7, 3) := by decide +kernel
theorem dX1_faultOfPair_28 : decode cX1_faultOfPair 28 = .ok (.iload_n 3, 1) := by decide +kernel
theorem dX1_faultOfPair_29 : decode cX1_faultOfPair 29 = .ok (.goto 10, 3) := by decide +kernel
theorem dX1_faultOfPair_32 : decode cX1_faultOfPair 32 = .ok (.aload_n 0, 1) := by decide +kernel
theorem dX1_faultOfPair_33 : decode cX1_faultOfPair 33 = .ok (.iload_n 2, 1) := by decide +kernel
theorem dX1_faultOfPair_34 : decode cX1_faultOfPair 34 = .ok (.iconst 1, 1) := by decide +kernel
theorem dX1_faultOfPair_35 : decode cX1_faultOfPair 35 = .ok (.iadd, 1) := by decide +kernel
theorem dX1_faultOfPair_36 : decode cX1_faultOfPair 36 = .ok (.invokevirtual 32, 3) := by decide +kernel
theorem dX1_faultOfPair_39 : decode cX1_faultOfPair 39 = .ok (.ireturn, 1) := by decide +kernel
theorem dX1_putCell_0 : decode cX1_putCell 0 = .ok (.aload_n 0, 1) := by decide +kernel
theorem dX1_putCell_1 : decode cX1_putCell 1 = .ok (.getfield 15, 3) := by decide +kernel
theorem dX1_putCell_4 : decode cX1_putCell 4 = .ok (.ifCond .ne 14, 3) := by decide +kernel
theorem dX1_putCell_7 : decode cX1_putCell 7 = .ok (.aload_n 0, 1) := by decide +kernel
theorem dX1_putCell_8 : decode cX1_putCell 8 = .ok (.getfield 9, 3) := by decide +kernel
theorem dX1_putCell_11 : decode cX1_putCell 11 = .ok (.iload_n 1, 1) := by decide +kernel
theorem dX1_putCell_12 : decode cX1_putCell 12 = .ok (.iload_n 2, 1) := by decide +kernel
theorem dX1_putCell_13 : decode cX1_putCell 13 = .ok (.i2b, 1) := by decide +kernel
theorem dX1_putCell_14 : decode cX1_putCell 14 = .ok (.iastore, 1) := by decide +kernel
theorem dX1_putCell_15 : decode cX1_putCell 15 = .ok (.goto 29, 3) := by decide +kernel
theorem dX1_putCell_18 : decode cX1_putCell 18 = .ok (.aload_n 0, 1) := by decide +kernel
theorem dX1_putCell_19 : decode cX1_putCell 19 = .ok (.getfield 15, 3) := by decide +kernel
theorem dX1_putCell_22 : decode cX1_putCell 22 = .ok (.iconst 1, 1) := by decide +kernel
theorem dX1_putCell_23 : decode cX1_putCell 23 = .ok (.if_icmp .ne 14, 3) := by decide +kernel
theorem dX1_putCell_26 : decode cX1_putCell 26 = .ok (.aload_n 0, 1) := by decide +kernel
theorem dX1_putCell_27 : decode cX1_putCell 27 = .ok (.getfield 9, 3) := by decide +kernel
theorem dX1_putCell_30 : decode cX1_putCell 30 = .ok (.iload_n 1, 1) := by decide +kernel
theorem dX1_putCell_31 : decode cX1_putCell 31 = .ok (.iload_n 2, 1) := by decide +kernel
theorem dX1_putCell_32 : decode cX1_putCell 32 = .ok (.i2s, 1) := by decide +kernel
theorem dX1_putCell_33 : decode cX1_putCell 33 = .ok (.iastore, 1) := by decide +kernel
theorem dX1_putCell_34 : decode cX1_putCell 34 = .ok (.goto 10, 3) := by decide +kernel
theorem dX1_putCell_37 : decode cX1_putCell 37 = .ok (.aload_n 0, 1) := by decide +kernel
theorem dX1_putCell_38 : decode cX1_putCell 38 = .ok (.getfield 9, 3) := by decide +kernel
theorem dX1_putCell_41 : decode cX1_putCell 41 = .ok (.iload_n 1, 1) := by decide +kernel
theorem dX1_putCell_42 : decode cX1_putCell 42 = .ok (.iload_n 2, 1) := by decide +kernel
theorem dX1_putCell_43 : decode cX1_putCell 43 = .ok (.iastore, 1) := by decide +kernel
theorem dX1_putCell_44 : decode cX1_putCell 44 = .ok (.return_, 1) := by decide +kernel
theorem dX2_init_0 : decode cX2_init 0 = .ok (.aload_n 0, 1) := by decide +kernel
theorem dX2_init_1 : decode cX2_init 1 = .ok (.invokespecial 3, 3) := by decide +kernel
theorem dX2_init_4 : decode cX2_init 4 = .ok (.aload_n 0, 1) := by decide +kernel
theorem dX2_init_5 : decode cX2_init 5 = .ok (.sipush 160, 3) := by decide +kernel
theorem dX2_init_8 : decode cX2_init 8 = .ok (.newarray .byte, 2) := by decide +kernel
theorem dX2_init_10 : decode cX2_init 10 = .ok (.putfield 9, 3) := by decide +kernel
theorem dX2_init_13 : decode cX2_init 13 = .ok (.aload_n 0, 1) := by decide +kernel
theorem dX2_init_14 : decode cX2_init 14 = .ok (.iconst 0, 1) := by decide +kernel
theorem dX2_init_15 : decode cX2_init 15 = .ok (.putfield 15, 3) := by decide +kernel
theorem dX2_init_18 : decode cX2_init 18 = .ok (.aload_n 0, 1) := by decide +kernel
theorem dX2_init_19 : decode cX2_init 19 = .ok (.iconst 0, 1) := by decide +kernel
theorem dX2_init_20 : decode cX2_init 20 = .ok (.putfield 19, 3) := by decide +kernel
theorem dX2_init_23 : decode cX2_init 23 = .ok (.aload_n 0, 1) := by decide +kernel
theorem dX2_init_24 : decode cX2_init 24 = .ok (.iconst 0, 1) := by decide +kernel
theorem dX2_init_25 : decode cX2_init 25 = .ok (.putfield 22, 3) := by decide +kernel
theorem dX2_init_28 : decode cX2_init 28 = .ok (.aload_n 0, 1) := by decide +kernel
theorem dX2_init_29 : decode cX2_init 29 = .ok (.iconst 0, 1) := by decide +kernel
theorem dX2_init_30 : decode cX2_init 30 = .ok (.putfield 25, 3) := by decide +kernel
theorem dX2_init_33 : decode cX2_init 33 = .ok (.aload_n 0, 1) := by decide +kernel
theorem dX2_init_34 : decode cX2_init 34 = .ok (.iconst 0, 1) := by decide +kernel
theorem dX2_init_35 : decode cX2_init 35 = .ok (.putfield 28, 3) := by decide +kernel
theorem dX2_init_38 : decode cX2_init 38 = .ok (.return_, 1) := by decide +kernel
theorem dX2_rewind_0 : decode cX2_rewind 0 = .ok (.aload_n 0, 1) := by decide +kernel
theorem dX2_rewind_1 : decode cX2_rewind 1 = .ok (.iconst 0, 1) := by decide +kernel
theorem dX2_rewind_2 : decode cX2_rewind 2 = .ok (.putfield 25, 3) := by decide +kernel
theorem dX2_rewind_5 : decode cX2_rewind 5 = .ok (.return_, 1) := by decide +kernel
theorem dX2_readToken_0 : decode cX2_readToken 0 = .ok (.aload_n 0, 1) := by decide +kernel
theorem dX2_readToken_1 : decode cX2_readToken 1 = .ok (.aload_n 0, 1) := by decide +kernel
theorem dX2_readToken_2 : decode cX2_readToken 2 = .ok (.getfield 25, 3) := by decide +kernel
theorem dX2_readToken_5 : decode cX2_readToken 5 = .ok (.putfield 22, 3) := by decide +kernel
theorem dX2_readToken_8 : decode cX2_readToken 8 = .ok (.aload_n 0, 1) := by decide +kernel
theorem dX2_readToken_9 : decode cX2_readToken 9 = .ok (.getfield 22, 3) := by decide +kernel
theorem dX2_readToken_12 : decode cX2_readToken 12 = .ok (.aload_n 0, 1) := by decide +kernel
theorem dX2_readToken_13 : decode cX2_readToken 13 = .ok (.getfield 15, 3) := by decide +kernel
theorem dX2_readToken_16 : decode cX2_readToken 16 = .ok (.if_icmp .ge 30, 3) := by decide +kernel
theorem dX2_readToken_19 : decode cX2_readToken 19 = .ok (.aload_n 0, 1) := by decide +kernel
theorem dX2_readToken_20 : decode cX2_readToken 20 = .ok (.getfield 9, 3) := by decide +kernel
theorem dX2_readToken_23 : decode cX2_readToken 23 = .ok (.aload_n 0, 1) := by decide +kernel
theorem dX2_readToken_24 : decode cX2_readToken 24 = .ok (.getfield 22, 3) := by decide +kernel
theorem dX2_readToken_27 : decode cX2_readToken 27 = .ok (.baload, 1) := by decide +kernel
theorem dX2_readToken_28 : decode cX2_readToken 28 = .ok (.bipush 32, 2) := by decide +kernel
theorem dX2_readToken_30 : decode cX2_readToken 30 = .ok (.if_icmp .ne 16, 3) := by decide +kernel
theorem dX2_readToken_33 : decode cX2_readToken 33 = .ok (.aload_n 0, 1) := by decide +kernel
theorem dX2_readToken_34 : decode cX2_readToken 34 = .ok (.dup, 1) := by decide +kernel
theorem dX2_readToken_35 : decode cX2_readToken 35 = .ok (.getfield 22, 3) := by decide +kernel
theorem dX2_readToken_38 : decode cX2_readToken 38 = .ok (.iconst 1, 1) := by decide +kernel
theorem dX2_readToken_39 : decode cX2_readToken 39 = .ok (.iadd, 1) := by decide +kernel
theorem dX2_readToken_40 : decode cX2_readToken 40 = .ok (.putfield 22, 3) := by decide +kernel
theorem dX2_readToken_43 : decode cX2_readToken 43 = .ok (.goto (-35), 3) := by decide +kernel
theorem dX2_readToken_46 : decode cX2_readToken 46 = .ok (.aload_n 0, 1) := by decide +kernel
theorem dX2_readToken_47 : decode cX2_readToken 47 = .ok (.aload_n 0, 1) := by decide +kernel
theorem dX2_readToken_48 : decode cX2_readToken 48 = .ok (.getfield 22, 3) := by decide +kernel
theorem dX2_readToken_51 : decode cX2_readToken 51 = .ok (.putfield 25, 3) := by decide +kernel
theorem dX2_readToken_54 : decode cX2_readToken 54 = .ok (.aload_n 0, 1) := by decide +kernel
theorem dX2_readToken_55 : decode cX2_readToken 55 = .ok (.getfield 22, 3) := by decide +kernel
theorem dX2_readToken_58 : decode cX2_readToken 58 = .ok (.aload_n 0, 1) := by decide +kernel
theorem dX2_readToken_59 : decode cX2_readToken 59 = .ok (.getfield 15, 3) := by decide +kernel
theorem dX2_readToken_62 : decode cX2_readToken 62 = .ok (.if_icmp .lt 11, 3) := by decide +kernel
theorem dX2_readToken_65 : decode cX2_readToken 65 = .ok (.aload_n 0, 1) := by decide +kernel
theorem dX2_readToken_66 : decode cX2_readToken 66 = .ok (.iconst 0, 1) := by decide +kernel
theorem dX2_readToken_67 : decode cX2_readToken 67 = .ok (.putfield 19, 3) := by decide +kernel
theorem dX2_readToken_70 : decode cX2_readToken 70 = .ok (.goto 97, 3) := by decide +kernel
theorem dX2_readToken_73 : decode cX2_readToken 73 = .ok (.aload_n 0, 1) := by decide +kernel
theorem dX2_readToken_74 : decode cX2_readToken 74 = .ok (.bipush 97, 2) := by decide +kernel
theorem dX2_readToken_76 : decode cX2_readToken 76 = .ok (.bipush 122, 2) := by decide +kernel
theorem dX2_readToken_78 : decode cX2_readToken 78 = .ok (.invokevirtual 31, 3) := by decide +kernel
theorem dX2_readToken_81 : decode cX2_readToken 81 = .ok (.ifCond .eq 23, 3) := by decide +kernel
theorem dX2_readToken_84 : decode cX2_readToken 84 = .ok (.aload_n 0, 1) := by decide +kernel
theorem dX2_readToken_85 : decode cX2_readToken 85 = .ok (.iconst 1, 1) := by decide +kernel
theorem dX2_readToken_86 : decode cX2_readToken 86 = .ok (.putfield 19, 3) := by decide +kernel
theorem dX2_readToken_89 : decode cX2_readToken 89 = .ok (.aload_n 0, 1) := by decide +kernel
theorem dX2_readToken_90 : decode cX2_readToken 90 = .ok (.aload_n 0, 1) := by decide +kernel
theorem dX2_readToken_91 : decode cX2_readToken 91 = .ok (.bipush 97, 2) := by decide +kernel
theorem dX2_readToken_93 : decode cX2_readToken 93 = .ok (.bipush 122, 2) := by decide +kernel
theorem dX2_readToken_95 : decode cX2_readToken 95 = .ok (.invokevirtual 35, 3) := by decide +kernel
theorem dX2_readToken_98 : decode cX2_readToken 98 = .ok (.putfield 25, 3) := by decide +kernel
theorem dX2_readToken_101 : decode cX2_readToken 101 = .ok (.goto 66, 3) := by decide +kernel
theorem dX2_readToken_104 : decode cX2_readToken 104 = .ok (.aload_n 0, 1) := by decide +kernel
theorem dX2_readToken_105 : decode cX2_readToken 105 = .ok (.bipush 48, 2) := by decide +kernel
theorem dX2_readToken_107 : decode cX2_readToken 107 = .ok (.bipush 57, 2) := by decide +kernel
theorem dX2_readToken_109 : decode cX2_readToken 109 = .ok (.invokevirtual 31, 3) := by decide +kernel
theorem dX2_readToken_112 : decode cX2_readToken 112 = .ok (.ifCond .eq 22, 3) := by decide +kernel
theorem dX2_readToken_115 : decode cX2_readToken 115 = .ok (.aload_n 0, 1) := by decide +kernel
theorem dX2_readToken_116 : decode cX2_readToken 116 = .ok (.aload_n 0, 1) := by decide +kernel
theorem dX2_readToken_117 : decode cX2_readToken 117 = .ok (.bipush 48, 2) := by decide +kernel
theorem dX2_readToken_119 : decode cX2_readToken 119 = .ok (.bipush 57, 2) := by decide +kernel
theorem dX2_readToken_121 : decode cX2_readToken 121 = .ok (.invokevirtual 35, 3) := by decide +kernel
theorem dX2_readToken_124 : decode cX2_readToken 124 = .ok (.putfield 25, 3) := by decide +kernel
theorem dX2_readToken_127 : decode cX2_readToken 127 = .ok (.aload_n 0, 1) := by decide +kernel
theorem dX2_readToken_128 : decode cX2_readToken 128 = .ok (.invokevirtual 39, 3) := by decide +kernel
theorem dX2_readToken_131 : decode cX2_readToken 131 = .ok (.goto 36, 3) := by decide +kernel
theorem dX2_readToken_134 : decode cX2_readToken 134 = .ok (.aload_n 0, 1) := by decide +kernel
theorem dX2_readToken_135 : decode cX2_readToken 135 = .ok (.aload_n 0, 1) := by decide +kernel
theorem dX2_readToken_136 : decode cX2_readToken 136 = .ok (.getfield 9, 3) := by decide +kernel
theorem dX2_readToken_139 : decode cX2_readToken 139 = .ok (.aload_n 0, 1) := by decide +kernel
theorem dX2_readToken_140 : decode cX2_readToken 140 = .ok (.getfield 22, 3) := by decide +kernel
theorem dX2_readToken_143 : decode cX2_readToken 143 = .ok (.baload, 1) := by decide +kernel
theorem dX2_readToken_144 : decode cX2_readToken 144 = .ok (.bipush 59, 2) := by decide +kernel
theorem dX2_readToken_146 : decode cX2_readToken 146 = .ok (.if_icmp .ne 7, 3) := by decide +kernel
theorem dX2_readToken_149 : decode cX2_readToken 149 = .ok (.iconst 3, 1) := by decide +kernel
theorem dX2_readToken_150 : decode cX2_readToken 150 = .ok (.goto 4, 3) := by decide +kernel
theorem dX2_readToken_153 : decode cX2_readToken 153 = .ok (.iconst 4, 1) := by decide +kernel
theorem dX2_readToken_154 : decode cX2_readToken 154 = .ok (.putfield 19, 3) := by decide +kernel
theorem dX2_readToken_157 : decode cX2_readToken 157 = .ok (.aload_n 0, 1) := by decide +kernel
theorem dX2_readToken_158 : decode cX2_readToken 158 = .ok (.aload_n 0, 1) := by decide +kernel
theorem dX2_readToken_159 : decode cX2_readToken 159 = .ok (.getfield 22, 3) := by decide +kernel
theorem dX2_readToken_162 : decode cX2_readToken 162 = .ok (.iconst 1, 1) := by decide +kernel
theorem dX2_readToken_163 : decode cX2_readToken 163 = .ok (.iadd, 1) := by decide +kernel
theorem dX2_readToken_164 : decode cX2_readToken 164 = .ok (.putfield 25, 3) := by decide +kernel
theorem dX2_readToken_167 : decode cX2_readToken 167 = .ok (.return_, 1) := by decide +kernel
theorem dX2_startsWithin_0 : decode cX2_startsWithin 0 = .ok (.aload_n 0, 1) := by decide +kernel
theorem dX2_startsWithin_1 : decode cX2_startsWithin 1 = .ok (.getfield 9, 3) := by decide +kernel
theorem dX2_startsWithin_4 : decode cX2_startsWithin 4 = .ok (.aload_n 0, 1) := by decide +kernel
theorem dX2_startsWithin_5 : decode cX2_startsWithin 5 = .ok (.getfield 22, 3) := by decide +kernel
theorem dX2_startsWithin_8 : decode cX2_startsWithin 8 = .ok (.baload, 1) := by decide +kernel
theorem dX2_startsWithin_9 : decode cX2_startsWithin 9 = .ok (.iload_n 1, 1) := by decide +kernel
theorem dX2_startsWithin_10 : decode cX2_startsWithin 10 = .ok (.if_icmp .lt 20, 3) := by decide +kernel
theorem dX2_startsWithin_13 : decode cX2_startsWithin 13 = .ok (.aload_n 0, 1) := by decide +kernel
theorem dX2_startsWithin_14 : decode cX2_startsWithin 14 = .ok (.getfield 9, 3) := by decide +kernel
theorem dX2_startsWithin_17 : decode cX2_startsWithin 17 = .ok (.aload_n 0, 1) := by decide +kernel
theorem dX2_startsWithin_18 : decode cX2_startsWithin 18 = .ok (.getfield 22, 3) := by decide +kernel
theorem dX2_startsWithin_21 : decode cX2_startsWithin 21 = .ok (.baload, 1) := by decide +kernel
theorem dX2_startsWithin_22 : decode cX2_startsWithin 22 = .ok (.iload_n 2, 1) := by decide +kernel
theorem dX2_startsWithin_23 : decode cX2_startsWithin 23 = .ok (.if_icmp .gt 7, 3) := by decide +kernel
theorem dX2_startsWithin_26 : decode cX2_startsWithin 26 = .ok (.iconst 1, 1) := by decide +kernel
theorem dX2_startsWithin_27 : decode cX2_startsWithin 27 = .ok (.goto 4, 3) := by decide +kernel
theorem dX2_startsWithin_30 : decode cX2_startsWithin 30 = .ok (.iconst 0, 1) := by decide +kernel
theorem dX2_startsWithin_31 : decode cX2_startsWithin 31 = .ok (.ireturn, 1) := by decide +kernel
theorem dX2_endOfRun_0 : decode cX2_endOfRun 0 = .ok (.aload_n 0, 1) := by decide +kernel
theorem dX2_endOfRun_1 : decode cX2_endOfRun 1 = .ok (.getfield 22, 3) := by decide +kernel
theorem dX2_endOfRun_4 : decode cX2_endOfRun 4 = .ok (.istore_n 3, 1) := by decide +kernel
theorem dX2_endOfRun_5 : decode cX2_endOfRun 5 = .ok (.iload_n 3, 1) := by decide +kernel
theorem dX2_endOfRun_6 : decode cX2_endOfRun 6 = .ok (.aload_n 0, 1) := by decide +kernel
theorem dX2_endOfRun_7 : decode cX2_endOfRun 7 = .ok (.getfield 15, 3) := by decide +kernel
theorem dX2_endOfRun_10 : decode cX2_endOfRun 10 = .ok (.if_icmp .ge 29, 3) := by decide +kernel
theorem dX2_endOfRun_13 : decode cX2_endOfRun 13 = .ok (.aload_n 0, 1) := by decide +kernel
theorem dX2_endOfRun_14 : decode cX2_endOfRun 14 = .ok (.getfield 9, 3) := by decide +kernel
theorem dX2_endOfRun_17 : decode cX2_endOfRun 17 = .ok (.iload_n 3, 1) := by decide +kernel
theorem dX2_endOfRun_18 : decode cX2_endOfRun 18 = .ok (.baload, 1) := by decide +kernel
theorem dX2_endOfRun_19 : decode cX2_endOfRun 19 = .ok (.iload_n 1, 1) := by decide +kernel
theorem dX2_endOfRun_20 : decode cX2_endOfRun 20 = .ok (.if_icmp .lt 19, 3) := by decide +kernel
theorem dX2_endOfRun_23 : decode cX2_endOfRun 23 = .ok (.aload_n 0, 1) := by decide +kernel
theorem dX2_endOfRun_24 : decode cX2_endOfRun 24 = .ok (.getfield 9, 3) := by decide +kernel
theorem dX2_endOfRun_27 : decode cX2_endOfRun 27 = .ok (.iload_n 3, 1) := by decide +kernel
theorem dX2_endOfRun_28 : decode cX2_endOfRun 28 = .ok (.baload, 1) := by decide +kernel
theorem dX2_endOfRun_29 : decode cX2_endOfRun 29 = .ok (.iload_n 2, 1) := by decide +kernel
theorem dX2_endOfRun_30 : decode cX2_endOfRun 30 = .ok (.if_icmp .gt 9, 3) := by decide +kernel
theorem dX2_endOfRun_33 : decode cX2_endOfRun 33 = .ok (.iinc 3 1, 3) := by decide +kernel
theorem dX2_endOfRun_36 : decode cX2_endOfRun 36 = .ok (.goto (-31), 3) := by decide +kernel
theorem dX2_endOfRun_39 : decode cX2_endOfRun 39 = .ok (.iload_n 3, 1) := by decide +kernel
theorem dX2_endOfRun_40 : decode cX2_endOfRun 40 = .ok (.ireturn, 1) := by decide +kernel
theorem dX2_readFigures_0 : decode cX2_readFigures 0 = .ok (.aload_n 0, 1) := by decide +kernel
theorem dX2_readFigures_1 : decode cX2_readFigures 1 = .ok (.aload_n 0, 1) := by decide +kernel
theorem dX2_readFigures_2 : decode cX2_readFigures 2 = .ok (.getfield 25, 3) := by decide +kernel
theorem dX2_readFigures_5 : decode cX2_readFigures 5 = .ok (.aload_n 0, 1) := by decide +kernel
theorem dX2_readFigures_6 : decode cX2_readFigures 6 = .ok (.getfield 22, 3) := by decide +kernel
theorem dX2_readFigures_9 : decode cX2_readFigures 9 = .ok (.isub, 1) := by decide +kernel
theorem dX2_readFigures_10 : decode cX2_readFigures 10 = .ok (.iconst 2, 1) := by decide +kernel
theorem dX2_readFigures_11 : decode cX2_readFigures 11 = .ok (.if_icmp .le 7, 3) := by decide +kernel
theorem dX2_readFigures_14 : decode cX2_readFigures 14 = .ok (.iconst 4, 1) := by decide +kernel
theorem dX2_readFigures_15 : decode cX2_readFigures 15 = .ok (.goto 4, 3) := by decide +kernel
theorem dX2_readFigures_18 : decode cX2_readFigures 18 = .ok (.iconst 2, 1) := by decide +kernel
theorem dX2_readFigures_19 : decode cX2_readFigures 19 = .ok (.putfield 19, 3) := by decide +kernel
theorem dX2_readFigures_22 : decode cX2_readFigures 22 = .ok (.aload_n 0, 1) := by decide +kernel
theorem dX2_readFigures_23 : decode cX2_readFigures 23 = .ok (.iconst 0, 1) := by decide +kernel
theorem dX2_readFigures_24 : decode cX2_readFigures 24 = .ok (.putfield 28, 3) := by decide +kernel
theorem dX2_readFigures_27 : decode cX2_readFigures 27 = .ok (.aload_n 0, 1) := by decide +kernel
theorem dX2_readFigures_28 : decode cX2_readFigures 28 = .ok (.getfield 22, 3) := by decide +kernel
theorem dX2_readFigures_31 : decode cX2_readFigures 31 = .ok (.istore_n 1, 1) := by decide +kernel
theorem dX2_readFigures_32 : decode cX2_readFigures 32 = .ok (.iload_n 1, 1) := by decide +kernel
theorem dX2_readFigures_33 : decode cX2_readFigures 33 = .ok (.aload_n 0, 1) := by decide +kernel
theorem dX2_readFigures_34 : decode cX2_readFigures 34 = .ok (.getfield 25, 3) := by decide +kernel
theorem dX2_readFigures_37 : decode cX2_readFigures 37 = .ok (.if_icmp .ge 38, 3) := by decide +kernel
theorem dX2_readFigures_40 : decode cX2_readFigures 40 = .ok (.aload_n 0, 1) := by decide +kernel
theorem dX2_readFigures_41 : decode cX2_readFigures 41 = .ok (.getfield 19, 3) := by decide +kernel
theorem dX2_readFigures_44 : decode cX2_readFigures 44 = .ok (.iconst 2, 1) := by decide +kernel
theorem dX2_readFigures_45 : decode cX2_readFigures 45 = .ok (.if_icmp .ne 30, 3) := by decide +kernel
theorem dX2_readFigures_48 : decode cX2_readFigures 48 = .ok (.aload_n 0, 1) := by decide +kernel
theorem dX2_readFigures_49 : decode cX2_readFigures 49 = .ok (.aload_n 0, 1) := by decide +kernel
theorem dX2_readFigures_50 : decode cX2_readFigures 50 = .ok (.getfield 28, 3) := by decide +kernel
theorem dX2_readFigures_53 : decode cX2_readFigures 53 = .ok (.bipush 10, 2) := by decide +kernel
theorem dX2_readFigures_55 : decode cX2_readFigures 55 = .ok (.imul, 1) := by decide +kernel
theorem dX2_readFigures_56 : decode cX2_readFigures 56 = .ok (.aload_n 0, 1) := by decide +kernel
theorem dX2_readFigures_57 : decode cX2_readFigures 57 = .ok (.getfield 9, 3) := by decide +kernel
theorem dX2_readFigures_60 : decode cX2_readFigures 60 = .ok (.iload_n 1, 1) := by decide +kernel
theorem dX2_readFigures_61 : decode cX2_readFigures 61 = .ok (.baload, 1) := by decide +kernel
theorem dX2_readFigures_62 : decode cX2_readFigures 62 = .ok (.iadd, 1) := by decide +kernel
theorem dX2_readFigures_63 : decode cX2_readFigures 63 = .ok (.bipush 48, 2) := by decide +kernel
theorem dX2_readFigures_65 : decode cX2_readFigures 65 = .ok (.isub, 1) := by decide +kernel
theorem dX2_readFigures_66 : decode cX2_readFigures 66 = .ok (.putfield 28, 3) := by decide +kernel
theorem dX2_readFigures_69 : decode cX2_readFigures 69 = .ok (.iinc 1 1, 3) := by decide +kernel
theorem dX2_readFigures_72 : decode cX2_readFigures 72 = .ok (.goto (-40), 3) := by decide +kernel
theorem dX2_readFigures_75 : decode cX2_readFigures 75 = .ok (.return_, 1) := by decide +kernel
theorem dX2_isNamed_0 : decode cX2_isNamed 0 = .ok (.aload_n 0, 1) := by decide +kernel
theorem dX2_isNamed_1 : decode cX2_isNamed 1 = .ok (.getfield 19, 3) := by decide +kernel
theorem dX2_isNamed_4 : decode cX2_isNamed 4 = .ok (.iconst 1, 1) := by decide +kernel
theorem dX2_isNamed_5 : decode cX2_isNamed 5 = .ok (.if_icmp .ne 19, 3) := by decide +kernel
theorem dX2_isNamed_8 : decode cX2_isNamed 8 = .ok (.aload_n 0, 1) := by decide +kernel
theorem dX2_isNamed_9 : decode cX2_isNamed 9 = .ok (.getfield 25, 3) := by decide +kernel
theorem dX2_isNamed_12 : decode cX2_isNamed 12 = .ok (.aload_n 0, 1) := by decide +kernel
theorem dX2_isNamed_13 : decode cX2_isNamed 13 = .ok (.getfield 22, 3) := by decide +kernel
theorem dX2_isNamed_16 : decode cX2_isNamed 16 = .ok (.isub, 1) := by decide +kernel
theorem dX2_isNamed_17 : decode cX2_isNamed 17 = .ok (.aload_n 1, 1) := by decide +kernel
theorem dX2_isNamed_18 : decode cX2_isNamed 18 = .ok (.invokevirtual 42, 3) := by decide +kernel
theorem dX2_isNamed_21 : decode cX2_isNamed 21 = .ok (.if_icmp .eq 5, 3) := by decide +kernel
theorem dX2_isNamed_24 : decode cX2_isNamed 24 = .ok (.iconst 0, 1) := by decide +kernel
theorem dX2_isNamed_25 : decode cX2_isNamed 25 = .ok (.ireturn, 1) := by decide +kernel
theorem dX2_isNamed_26 : decode cX2_isNamed 26 = .ok (.iconst 0, 1) := by decide +kernel
theorem dX2_isNamed_27 : decode cX2_isNamed 27 = .ok (.istore_n 2, 1) := by decide +kernel
theorem dX2_isNamed_28 : decode cX2_isNamed 28 = .ok (.iload_n 2, 1) := by decide +kernel
theorem dX2_isNamed_29 : decode cX2_isNamed 29 = .ok (.aload_n 1, 1) := by decide +kernel
theorem dX2_isNamed_30 : decode cX2_isNamed 30 = .ok (.invokevirtual 42, 3) := by decide +kernel
theorem dX2_isNamed_33 : decode cX2_isNamed 33 = .ok (.if_icmp .ge 30, 3) := by decide +kernel
theorem dX2_isNamed_36 : decode cX2_isNamed 36 = .ok (.aload_n 0, 1) := by decide +kernel
theorem dX2_isNamed_37 : decode cX2_isNamed 37 = .ok (.getfield 9, 3) := by decide +kernel
theorem dX2_isNamed_40 : decode cX2_isNamed 40 = .ok (.aload_n 0, 1) := by decide +kernel
theorem dX2_isNamed_41 : decode cX2_isNamed 41 = .ok (.getfield 22, 3) := by decide +kernel
theorem dX2_isNamed_44 : decode cX2_isNamed 44 = .ok (.iload_n 2, 1) := by decide +kernel
theorem dX2_isNamed_45 : decode cX2_isNamed 45 = .ok (.iadd, 1) := by decide +kernel
theorem dX2_isNamed_46 : decode cX2_isNamed 46 = .ok (.baload, 1) := by decide +kernel
theorem dX2_isNamed_47 : decode cX2_isNamed 47 = .ok (.aload_n 1, 1) := by decide +kernel
theorem dX2_isNamed_48 : decode cX2_isNamed 48 = .ok (.iload_n 2, 1) := by decide +kernel
theorem dX2_isNamed_49 : decode cX2_isNamed 49 = .ok (.invokevirtual 47, 3) := by decide +kernel
theorem dX2_isNamed_52 : decode cX2_isNamed 52 = .ok (.if_icmp .eq 5, 3) := by decide +kernel
theorem dX2_isNamed_55 : decode cX2_isNamed 55 = .ok (.iconst 0, 1) := by decide +kernel
theorem dX2_isNamed_56 : decode cX2_isNamed 56 = .ok (.ireturn, 1) := by decide +kernel
theorem dX2_isNamed_57 : decode cX2_isNamed 57 = .ok (.iinc 2 1, 3) := by decide +kernel
theorem dX2_isNamed_60 : decode cX2_isNamed 60 = .ok (.goto (-32), 3) := by decide +kernel
theorem dX2_isNamed_63 : decode cX2_isNamed 63 = .ok (.iconst 1, 1) := by decide +kernel
theorem dX2_isNamed_64 : decode cX2_isNamed 64 = .ok (.ireturn, 1) := by decide +kernel
theorem dX3_init_0 : decode cX3_init 0 = .ok (.aload_n 0, 1) := by decide +kernel
theorem dX3_init_1 : decode cX3_init 1 = .ok (.invokespecial 3, 3) := by decide +kernel
theorem dX3_init_4 : decode cX3_init 4 = .ok (.aload_n 0, 1) := by decide +kernel
theorem dX3_init_5 : decode cX3_init 5 = .ok (.iconst 0, 1) := by decide +kernel
theorem dX3_init_6 : decode cX3_init 6 = .ok (.putfield 9, 3) := by decide +kernel
theorem dX3_init_9 : decode cX3_init 9 = .ok (.aload_n 0, 1) := by decide +kernel
theorem dX3_init_10 : decode cX3_init 10 = .ok (.iconst 0, 1) := by decide +kernel
theorem dX3_init_11 : decode cX3_init 11 = .ok (.putfield 15, 3) := by decide +kernel
theorem dX3_init_14 : decode cX3_init 14 = .ok (.return_, 1) := by decide +kernel
theorem dX3_tell_0 : decode cX3_tell 0 = .ok (.aload_n 2, 1) := by decide +kernel
theorem dX3_tell_1 : decode cX3_tell 1 = .ok (.invokevirtual 19, 3) := by decide +kernel
theorem dX3_tell_4 : decode cX3_tell 4 = .ok (.aload_n 1, 1) := by decide +kernel
theorem dX3_tell_5 : decode cX3_tell 5 = .ok (.invokevirtual 24, 3) := by decide +kernel
theorem dX3_tell_8 : decode cX3_tell 8 = .ok (.aload_n 0, 1) := by decide +kernel
theorem dX3_tell_9 : decode cX3_tell 9 = .ok (.iconst 0, 1) := by decide +kernel
theorem dX3_tell_10 : decode cX3_tell 10 = .ok (.putfield 9, 3) := by decide +kernel
theorem dX3_tell_13 : decode cX3_tell 13 = .ok (.aload_n 0, 1) := by decide +kernel
theorem dX3_tell_14 : decode cX3_tell 14 = .ok (.iconst 0, 1) := by decide +kernel
theorem dX3_tell_15 : decode cX3_tell 15 = .ok (.putfield 15, 3) := by decide +kernel
theorem dX3_tell_18 : decode cX3_tell 18 = .ok (.iconst 0, 1) := by decide +kernel
theorem dX3_tell_19 : decode cX3_tell 19 = .ok (.istore_n 3, 1) := by decide +kernel
theorem dX3_tell_20 : decode cX3_tell 20 = .ok (.aload_n 1, 1) := by decide +kernel
theorem dX3_tell_21 : decode cX3_tell 21 = .ok (.invokevirtual 29, 3) := by decide +kernel
theorem dX3_tell_24 : decode cX3_tell 24 = .ok (.iload_n 3, 1) := by decide +kernel
theorem dX3_tell_25 : decode cX3_tell 25 = .ok (.sipush 160, 3) := by decide +kernel
theorem dX3_tell_28 : decode cX3_tell 28 = .ok (.if_icmp .ge 45, 3) := by decide +kernel
theorem dX3_tell_31 : decode cX3_tell 31 = .ok (.aload_n 1, 1) := by decide +kernel
theorem dX3_tell_32 : decode cX3_tell 32 = .ok (.getfield 32, 3) := by decide +kernel
theorem dX3_tell_35 : decode cX3_tell 35 = .ok (.ifCond .eq 38, 3) := by decide +kernel
theorem dX3_tell_38 : decode cX3_tell 38 = .ok (.aload_n 0, 1) := by decide +kernel
theorem dX3_tell_39 : decode cX3_tell 39 = .ok (.aload_n 0, 1) := by decide +kernel
theorem dX3_tell_40 : decode cX3_tell 40 = .ok (.aload_n 1, 1) := by decide +kernel
theorem dX3_tell_41 : decode cX3_tell 41 = .ok (.aload_n 2, 1) := by decide +kernel
theorem dX3_tell_42 : decode cX3_tell 42 = .ok (.invokevirtual 35, 3) := by decide +kernel
theorem dX3_tell_45 : decode cX3_tell 45 = .ok (.putfield 9, 3) := by decide +kernel
theorem dX3_tell_48 : decode cX3_tell 48 = .ok (.aload_n 0, 1) := by decide +kernel
theorem dX3_tell_49 : decode cX3_tell 49 = .ok (.getfield 9, 3) := by decide +kernel
theorem dX3_tell_52 : decode cX3_tell 52 = .ok (.ifCond .eq 11, 3) := by decide +kernel
theorem dX3_tell_55 : decode cX3_tell 55 = .ok (.bipush (-10), 2) := by decide +kernel
theorem dX3_tell_57 : decode cX3_tell 57 = .ok (.aload_n 1, 1) := by decide +kernel
theorem dX3_tell_58 : decode cX3_tell 58 = .ok (.getfield 39, 3) := by decide +kernel
theorem dX3_tell_61 : decode cX3_tell 61 = .ok (.isub, 1) := by decide +kernel
theorem dX3_tell_62 : decode cX3_tell 62 = .ok (.ireturn, 1) := by decide +kernel
theorem dX3_tell_63 : decode cX3_tell 63 = .ok (.iinc 3 1, 3) := by decide +kernel
theorem dX3_tell_66 : decode cX3_tell 66 = .ok (.aload_n 1, 1) := by decide +kernel
theorem dX3_tell_67 : decode cX3_tell 67 = .ok (.invokevirtual 29, 3) := by decide +kernel
theorem dX3_tell_70 : decode cX3_tell 70 = .ok (.goto (-46), 3) := by decide +kernel
theorem dX3_tell_73 : decode cX3_tell 73 = .ok (.iload_n 3, 1) := by decide +kernel
theorem dX3_tell_74 : decode cX3_tell 74 = .ok (.ireturn, 1) := by decide +kernel
theorem dX3_faultOfLine_0 : decode cX3_faultOfLine 0 = .ok (.aload_n 1, 1) := by decide +kernel
theorem dX3_faultOfLine_1 : decode cX3_faultOfLine 1 = .ok (.getfield 32, 3) := by decide +kernel
theorem dX3_faultOfLine_4 : decode cX3_faultOfLine 4 = .ok (.iconst 4, 1) := by decide +kernel
theorem dX3_faultOfLine_5 : decode cX3_faultOfLine 5 = .ok (.if_icmp .ne 5, 3) := by decide +kernel
theorem dX3_faultOfLine_8 : decode cX3_faultOfLine 8 = .ok (.iconst 1, 1) := by decide +kernel
theorem dX3_faultOfLine_9 : decode cX3_faultOfLine 9 = .ok (.ireturn, 1) := by decide +kernel
theorem dX3_faultOfLine_10 : decode cX3_faultOfLine 10 = .ok (.aload_n 1, 1) := by decide +kernel
theorem dX3_faultOfLine_11 : decode cX3_faultOfLine 11 = .ok (.invokestatic 42, 3) := by decide +kernel
theorem dX3_faultOfLine_14 : decode cX3_faultOfLine 14 = .ok (.istore_n 3, 1) := by decide +kernel
theorem dX3_faultOfLine_15 : decode cX3_faultOfLine 15 = .ok (.iload_n 3, 1) := by decide +kernel
theorem dX3_faultOfLine_16 : decode cX3_faultOfLine 16 = .ok (.iconst (-1), 1) := by decide +kernel
theorem dX3_faultOfLine_17 : decode cX3_faultOfLine 17 = .ok (.if_icmp .ne 5, 3) := by decide +kernel
theorem dX3_faultOfLine_20 : decode cX3_faultOfLine 20 = .ok (.iconst 2, 1) := by decide +kernel
theorem dX3_faultOfLine_21 : decode cX3_faultOfLine 21 = .ok (.ireturn, 1) := by decide +kernel
theorem dX3_faultOfLine_22 : decode cX3_faultOfLine 22 = .ok (.iload_n 3, 1) := by decide +kernel
theorem dX3_faultOfLine_23 : decode cX3_faultOfLine 23 = .ok (.iconst 4, 1) := by decide +kernel
theorem dX3_faultOfLine_24 : decode cX3_faultOfLine 24 = .ok (.if_icmp .ne 26, 3) := by decide +kernel
theorem dX3_faultOfLine_27 : decode cX3_faultOfLine 27 = .ok (.aload_n 0, 1) := by decide +kernel
theorem dX3_faultOfLine_28 : decode cX3_faultOfLine 28 = .ok (.getfield 15, 3) := by decide +kernel
theorem dX3_faultOfLine_31 : decode cX3_faultOfLine 31 = .ok (.ifCond .eq 5, 3) := by decide +kernel
theorem dX3_faultOfLine_34 : decode cX3_faultOfLine 34 = .ok (.iconst 4, 1) := by decide +kernel
theorem dX3_faultOfLine_35 : decode cX3_faultOfLine 35 = .ok (.ireturn, 1) := by decide +kernel
theorem dX3_faultOfLine_36 : decode cX3_faultOfLine 36 = .ok (.aload_n 0, 1) := by decide +kernel
theorem dX3_faultOfLine_37 : decode cX3_faultOfLine 37 = .ok (.iconst 1, 1) := by decide +kernel
theorem dX3_faultOfLine_38 : decode cX3_faultOfLine 38 = .ok (.putfield 15, 3) := by decide +kernel
theorem dX3_faultOfLine_41 : decode cX3_faultOfLine 41 = .ok (.aload_n 1, 1) := by decide +kernel
theorem dX3_faultOfLine_42 : decode cX3_faultOfLine 42 = .ok (.aload_n 2, 1) := by decide +kernel
theorem dX3_faultOfLine_43 : decode cX3_faultOfLine 43 = .ok (.iconst 0, 1) := by decide +kernel
theorem dX3_faultOfLine_44 : decode cX3_faultOfLine 44 = .ok (.iconst 4, 1) := by decide +kernel
theorem dX3_faultOfLine_45 : decode cX3_faultOfLine 45 = .ok (.iconst 4, 1) := by decide +kernel
theorem dX3_faultOfLine_46 : decode cX3_faultOfLine 46 = .ok (.invokestatic 46, 3) := by decide +kernel
theorem dX3_faultOfLine_49 : decode cX3_faultOfLine 49 = .ok (.ireturn, 1) := by decide +kernel
theorem dX3_faultOfLine_50 : decode cX3_faultOfLine 50 = .ok (.aload_n 2, 1) := by decide +kernel
theorem dX3_faultOfLine_51 : decode cX3_faultOfLine 51 = .ok (.getfield 50, 3) := by decide +kernel
theorem dX3_faultOfLine_54 : decode cX3_faultOfLine 54 = .ok (.bipush 6, 2) := by decide +kernel
theorem dX3_faultOfLine_56 : decode cX3_faultOfLine 56 = .ok (.if_icmp .lt 5, 3) := by decide +kernel
theorem dX3_faultOfLine_59 : decode cX3_faultOfLine 59 = .ok (.iconst 5, 1) := by decide +kernel
theorem dX3_faultOfLine_60 : decode cX3_faultOfLine 60 = .ok (.ireturn, 1) := by decide +kernel
theorem dX3_faultOfLine_61 : decode cX3_faultOfLine 61 = .ok (.aload_n 1, 1) := by decide +kernel
theorem dX3_faultOfLine_62 : decode cX3_faultOfLine 62 = .ok (.aload_n 2, 1) := by decide +kernel
theorem dX3_faultOfLine_63 : decode cX3_faultOfLine 63 = .ok (.aload_n 2, 1) := by decide +kernel
theorem dX3_faultOfLine_64 : decode cX3_faultOfLine 64 = .ok (.iload_n 3, 1) := by decide +kernel
theorem dX3_faultOfLine_65 : decode cX3_faultOfLine 65 = .ok (.invokevirtual 53, 3) := by decide +kernel
theorem dX3_faultOfLine_68 : decode cX3_faultOfLine 68 = .ok (.iconst 1, 1) := by decide +kernel
theorem dX3_faultOfLine_69 : decode cX3_faultOfLine 69 = .ok (.iconst 3, 1) := by decide +kernel
theorem dX3_faultOfLine_70 : decode cX3_faultOfLine 70 = .ok (.invokestatic 46, 3) := by decide +kernel
theorem dX3_faultOfLine_73 : decode cX3_faultOfLine 73 = .ok (.ireturn, 1) := by decide +kernel
theorem dX3_wordOf_0 : decode cX3_wordOf 0 = .ok (.aload_n 0, 1) := by decide +kernel
theorem dX3_wordOf_1 : decode cX3_wordOf 1 = .ok (.ldc 57, 2) := by decide +kernel
theorem dX3_wordOf_3 : decode cX3_wordOf 3 = .ok (.invokevirtual 59, 3) := by decide +kernel
theorem dX3_wordOf_6 : decode cX3_wordOf 6 = .ok (.ifCond .eq 5, 3) := by decide +kernel
theorem dX3_wordOf_9 : decode cX3_wordOf 9 = .ok (.iconst 0, 1) := by decide +kernel
theorem dX3_wordOf_10 : decode cX3_wordOf 10 = .ok (.ireturn, 1) := by decide +kernel
theorem dX3_wordOf_11 : decode cX3_wordOf 11 = .ok (.aload_n 0, 1) := by decide +kernel
theorem dX3_wordOf_12 : decode cX3_wordOf 12 = .ok (.ldc 63, 2) := by decide +kernel
theorem dX3_wordOf_14 : decode cX3_wordOf 14 = .ok (.invokevirtual 59, 3) := by decide +kernel
theorem dX3_wordOf_17 : decode cX3_wordOf 17 = .ok (.ifCond .eq 5, 3) := by decide +kernel
theorem dX3_wordOf_20 : decode cX3_wordOf 20 = .ok (.iconst 1, 1) := by decide +kernel
theorem dX3_wordOf_21 : decode cX3_wordOf 21 = .ok (.ireturn, 1) := by decide +kernel
theorem dX3_wordOf_22 : decode cX3_wordOf 22 = .ok (.aload_n 0, 1) := by decide +kernel
theorem dX3_wordOf_23 : decode cX3_wordOf 23 = .ok (.ldc 65, 2) := by decide +kernel
theorem dX3_wordOf_25 : decode cX3_wordOf 25 = .ok (.invokevirtual 59, 3) := by decide +kernel
theorem dX3_wordOf_28 : decode cX3_wordOf 28 = .ok (.ifCond .eq 5, 3) := by decide +kernel
theorem dX3_wordOf_31 : decode cX3_wordOf 31 = .ok (.iconst 2, 1) := by decide +kernel
theorem dX3_wordOf_32 : decode cX3_wordOf 32 = .ok (.ireturn, 1) := by decide +kernel
theorem dX3_wordOf_33 : decode cX3_wordOf 33 = .ok (.aload_n 0, 1) := by decide +kernel
theorem dX3_wordOf_34 : decode cX3_wordOf 34 = .ok (.ldc 67, 2) := by decide +kernel
theorem dX3_wordOf_36 : decode cX3_wordOf 36 = .ok (.invokevirtual 59, 3) := by decide +kernel
theorem dX3_wordOf_39 : decode cX3_wordOf 39 = .ok (.ifCond .eq 5, 3) := by decide +kernel
theorem dX3_wordOf_42 : decode cX3_wordOf 42 = .ok (.iconst 3, 1) := by decide +kernel
theorem dX3_wordOf_43 : decode cX3_wordOf 43 = .ok (.ireturn, 1) := by decide +kernel
theorem dX3_wordOf_44 : decode cX3_wordOf 44 = .ok (.aload_n 0, 1) := by decide +kernel
theorem dX3_wordOf_45 : decode cX3_wordOf 45 = .ok (.ldc 69, 2) := by decide +kernel
theorem dX3_wordOf_47 : decode cX3_wordOf 47 = .ok (.invokevirtual 59, 3) := by decide +kernel
theorem dX3_wordOf_50 : decode cX3_wordOf 50 = .ok (.ifCond .eq 7, 3) := by decide +kernel
theorem dX3_wordOf_53 : decode cX3_wordOf 53 = .ok (.iconst 4, 1) := by decide +kernel
theorem dX3_wordOf_54 : decode cX3_wordOf 54 = .ok (.goto 4, 3) := by decide +kernel
theorem dX3_wordOf_57 : decode cX3_wordOf 57 = .ok (.iconst (-1), 1) := by decide +kernel
theorem dX3_wordOf_58 : decode cX3_wordOf 58 = .ok (.ireturn, 1) := by decide +kernel
theorem dX3_faultOfNumbers_0 : decode cX3_faultOfNumbers 0 = .ok (.iload_n 3, 1) := by decide +kernel
theorem dX3_faultOfNumbers_1 : decode cX3_faultOfNumbers 1 = .ok (.istore 5, 2) := by decide +kernel
theorem dX3_faultOfNumbers_3 : decode cX3_faultOfNumbers 3 = .ok (.iload 5, 2) := by decide +kernel
theorem dX3_faultOfNumbers_5 : decode cX3_faultOfNumbers 5 = .ok (.iload 4, 2) := by decide +kernel
theorem dX3_faultOfNumbers_7 : decode cX3_faultOfNumbers 7 = .ok (.if_icmp .gt 50, 3) := by decide +kernel
theorem dX3_faultOfNumbers_10 : decode cX3_faultOfNumbers 10 = .ok (.aload_n 0, 1) := by decide +kernel
theorem dX3_faultOfNumbers_11 : decode cX3_faultOfNumbers 11 = .ok (.iconst 2, 1) := by decide +kernel
theorem dX3_faultOfNumbers_12 : decode cX3_faultOfNumbers 12 = .ok (.invokestatic 71, 3) := by decide +kernel
theorem dX3_faultOfNumbers_15 : decode cX3_faultOfNumbers 15 = .ok (.istore 6, 2) := by decide +kernel
theorem dX3_faultOfNumbers_17 : decode cX3_faultOfNumbers 17 = .ok (.iload 6, 2) := by decide +kernel
theorem dX3_faultOfNumbers_19 : decode cX3_faultOfNumbers 19 = .ok (.ifCond .eq 6, 3) := by decide +kernel
theorem dX3_faultOfNumbers_22 : decode cX3_faultOfNumbers 22 = .ok (.iload 6, 2) := by decide +kernel
theorem dX3_faultOfNumbers_24 : decode cX3_faultOfNumbers 24 = .ok (.ireturn, 1) := by decide +kernel
theorem dX3_faultOfNumbers_25 : decode cX3_faultOfNumbers 25 = .ok (.aload_n 0, 1) := by decide +kernel
theorem dX3_faultOfNumbers_26 : decode cX3_faultOfNumbers 26 = .ok (.getfield 75, 3) := by decide +kernel
theorem dX3_faultOfNumbers_29 : decode cX3_faultOfNumbers 29 = .ok (.getstatic 78, 3) := by decide +kernel
theorem dX3_faultOfNumbers_32 : decode cX3_faultOfNumbers 32 = .ok (.iload 5, 2) := by decide +kernel
theorem dX3_faultOfNumbers_34 : decode cX3_faultOfNumbers 34 = .ok (.iaload, 1) := by decide +kernel
theorem dX3_faultOfNumbers_35 : decode cX3_faultOfNumbers 35 = .ok (.if_icmp .le 5, 3) := by decide +kernel
theorem dX3_faultOfNumbers_38 : decode cX3_faultOfNumbers 38 = .ok (.iconst 3, 1) := by decide +kernel
theorem dX3_faultOfNumbers_39 : decode cX3_faultOfNumbers 39 = .ok (.ireturn, 1) := by decide +kernel
theorem dX3_faultOfNumbers_40 : decode cX3_faultOfNumbers 40 = .ok (.aload_n 1, 1) := by decide +kernel
theorem dX3_faultOfNumbers_41 : decode cX3_faultOfNumbers 41 = .ok (.iload_n 2, 1) := by decide +kernel
theorem dX3_faultOfNumbers_42 : decode cX3_faultOfNumbers 42 = .ok (.iload 5, 2) := by decide +kernel
theorem dX3_faultOfNumbers_44 : decode cX3_faultOfNumbers 44 = .ok (.aload_n 0, 1) := by decide +kernel
theorem dX3_faultOfNumbers_45 : decode cX3_faultOfNumbers 45 = .ok (.getfield 75, 3) := by decide +kernel
theorem dX3_faultOfNumbers_48 : decode cX3_faultOfNumbers 48 = .ok (.invokevirtual 82, 3) := by decide +kernel
theorem dX3_faultOfNumbers_51 : decode cX3_faultOfNumbers 51 = .ok (.iinc 5 1, 3) := by decide +kernel
theorem dX3_faultOfNumbers_54 : decode cX3_faultOfNumbers 54 = .ok (.goto (-51), 3) := by decide +kernel
theorem dX3_faultOfNumbers_57 : decode cX3_faultOfNumbers 57 = .ok (.aload_n 0, 1) := by decide +kernel
theorem dX3_faultOfNumbers_58 : decode cX3_faultOfNumbers 58 = .ok (.iconst 3, 1) := by decide +kernel
theorem dX3_faultOfNumbers_59 : decode cX3_faultOfNumbers 59 = .ok (.invokestatic 71, 3) := by decide +kernel
theorem dX3_faultOfNumbers_62 : decode cX3_faultOfNumbers 62 = .ok (.ireturn, 1) := by decide +kernel
theorem dX3_faultOfToken_0 : decode cX3_faultOfToken 0 = .ok (.aload_n 0, 1) := by decide +kernel
theorem dX3_faultOfToken_1 : decode cX3_faultOfToken 1 = .ok (.invokevirtual 29, 3) := by decide +kernel
theorem dX3_faultOfToken_4 : decode cX3_faultOfToken 4 = .ok (.aload_n 0, 1) := by decide +kernel
theorem dX3_faultOfToken_5 : decode cX3_faultOfToken 5 = .ok (.getfield 32, 3) := by decide +kernel
theorem dX3_faultOfToken_8 : decode cX3_faultOfToken 8 = .ok (.iconst 4, 1) := by decide +kernel
theorem dX3_faultOfToken_9 : decode cX3_faultOfToken 9 = .ok (.if_icmp .ne 5, 3) := by decide +kernel
theorem dX3_faultOfToken_12 : decode cX3_faultOfToken 12 = .ok (.iconst 1, 1) := by decide +kernel
theorem dX3_faultOfToken_13 : decode cX3_faultOfToken 13 = .ok (.ireturn, 1) := by decide +kernel
theorem dX3_faultOfToken_14 : decode cX3_faultOfToken 14 = .ok (.aload_n 0, 1) := by decide +kernel
theorem dX3_faultOfToken_15 : decode cX3_faultOfToken 15 = .ok (.getfield 32, 3) := by decide +kernel
theorem dX3_faultOfToken_18 : decode cX3_faultOfToken 18 = .ok (.iload_n 1, 1) := by decide +kernel
theorem dX3_faultOfToken_19 : decode cX3_faultOfToken 19 = .ok (.if_icmp .ne 7, 3) := by decide +kernel
theorem dX3_faultOfToken_22 : decode cX3_faultOfToken 22 = .ok (.iconst 0, 1) := by decide +kernel
theorem dX3_faultOfToken_23 : decode cX3_faultOfToken 23 = .ok (.goto 4, 3) := by decide +kernel
theorem dX3_faultOfToken_26 : decode cX3_faultOfToken 26 = .ok (.iconst 2, 1) := by decide +kernel
theorem dX3_faultOfToken_27 : decode cX3_faultOfToken 27 = .ok (.ireturn, 1) := by decide +kernel
theorem dJ6_bitCount_0f7a4_0 : decode cJ6_bitCount_0f7a4 0 = .ok (.iload_n 0, 1) := by decide +kernel
theorem dJ6_bitCount_0f7a4_1 : decode cJ6_bitCount_0f7a4 1 = .ok (.iload_n 0, 1) := by decide +kernel
theorem dJ6_bitCount_0f7a4_2 : decode cJ6_bitCount_0f7a4 2 = .ok (.iconst 1, 1) := by decide +kernel
theorem dJ6_bitCount_0f7a4_3 : decode cJ6_bitCount_0f7a4 3 = .ok (.iushr, 1) := by decide +kernel
theorem dJ6_bitCount_0f7a4_4 : decode cJ6_bitCount_0f7a4 4 = .ok (.ldc_w 265, 3) := by decide +kernel
theorem dJ6_bitCount_0f7a4_7 : decode cJ6_bitCount_0f7a4 7 = .ok (.iand, 1) := by decide +kernel
theorem dJ6_bitCount_0f7a4_8 : decode cJ6_bitCount_0f7a4 8 = .ok (.isub, 1) := by decide +kernel
theorem dJ6_bitCount_0f7a4_9 : decode cJ6_bitCount_0f7a4 9 = .ok (.istore_n 0, 1) := by decide +kernel
theorem dJ6_bitCount_0f7a4_10 : decode cJ6_bitCount_0f7a4 10 = .ok (.iload_n 0, 1) := by decide +kernel
theorem dJ6_bitCount_0f7a4_11 : decode cJ6_bitCount_0f7a4 11 = .ok (.ldc_w 266, 3) := by decide +kernel
theorem dJ6_bitCount_0f7a4_14 : decode cJ6_bitCount_0f7a4 14 = .ok (.iand, 1) := by decide +kernel
theorem dJ6_bitCount_0f7a4_15 : decode cJ6_bitCount_0f7a4 15 = .ok (.iload_n 0, 1) := by decide +kernel
theorem dJ6_bitCount_0f7a4_16 : decode cJ6_bitCount_0f7a4 16 = .ok (.iconst 2, 1) := by decide +kernel
theorem dJ6_bitCount_0f7a4_17 : decode cJ6_bitCount_0f7a4 17 = .ok (.iushr, 1) := by decide +kernel
theorem dJ6_bitCount_0f7a4_18 : decode cJ6_bitCount_0f7a4 18 = .ok (.ldc_w 266, 3) := by decide +kernel
theorem dJ6_bitCount_0f7a4_21 : decode cJ6_bitCount_0f7a4 21 = .ok (.iand, 1) := by decide +kernel
theorem dJ6_bitCount_0f7a4_22 : decode cJ6_bitCount_0f7a4 22 = .ok (.iadd, 1) := by decide +kernel
theorem dJ6_bitCount_0f7a4_23 : decode cJ6_bitCount_0f7a4 23 = .ok (.istore_n 0, 1) := by decide +kernel
theorem dJ6_bitCount_0f7a4_24 : decode cJ6_bitCount_0f7a4 24 = .ok (.iload_n 0, 1) := by decide +kernel
theorem dJ6_bitCount_0f7a4_25 : decode cJ6_bitCount_0f7a4 25 = .ok (.iload_n 0, 1) := by decide +kernel
theorem dJ6_bitCount_0f7a4_26 : decode cJ6_bitCount_0f7a4 26 = .ok (.iconst 4, 1) := by decide +kernel
theorem dJ6_bitCount_0f7a4_27 : decode cJ6_bitCount_0f7a4 27 = .ok (.iushr, 1) := by decide +kernel
theorem dJ6_bitCount_0f7a4_28 : decode cJ6_bitCount_0f7a4 28 = .ok (.iadd, 1) := by decide +kernel
theorem dJ6_bitCount_0f7a4_29 : decode cJ6_bitCount_0f7a4 29 = .ok (.ldc_w 267, 3) := by decide +kernel
theorem dJ6_bitCount_0f7a4_32 : decode cJ6_bitCount_0f7a4 32 = .ok (.iand, 1) := by decide +kernel
theorem dJ6_bitCount_0f7a4_33 : decode cJ6_bitCount_0f7a4 33 = .ok (.istore_n 0, 1) := by decide +kernel
theorem dJ6_bitCount_0f7a4_34 : decode cJ6_bitCount_0f7a4 34 = .ok (.iload_n 0, 1) := by decide +kernel
theorem dJ6_bitCount_0f7a4_35 : decode cJ6_bitCount_0f7a4 35 = .ok (.iload_n 0, 1) := by decide +kernel
theorem dJ6_bitCount_0f7a4_36 : decode cJ6_bitCount_0f7a4 36 = .ok (.bipush 8, 2) := by decide +kernel
theorem dJ6_bitCount_0f7a4_38 : decode cJ6_bitCount_0f7a4 38 = .ok (.iushr, 1) := by decide +kernel
theorem dJ6_bitCount_0f7a4_39 : decode cJ6_bitCount_0f7a4 39 = .ok (.iadd, 1) := by decide +kernel
theorem dJ6_bitCount_0f7a4_40 : decode cJ6_bitCount_0f7a4 40 = .ok (.istore_n 0, 1) := by decide +kernel
theorem dJ6_bitCount_0f7a4_41 : decode cJ6_bitCount_0f7a4 41 = .ok (.iload_n 0, 1) := by decide +kernel
theorem dJ6_bitCount_0f7a4_42 : decode cJ6_bitCount_0f7a4 42 = .ok (.iload_n 0, 1) := by decide +kernel
theorem dJ6_bitCount_0f7a4_43 : decode cJ6_bitCount_0f7a4 43 = .ok (.bipush 16, 2) := by decide +kernel
theorem dJ6_bitCount_0f7a4_45 : decode cJ6_bitCount_0f7a4 45 = .ok (.iushr, 1) := by decide +kernel
theorem dJ6_bitCount_0f7a4_46 : decode cJ6_bitCount_0f7a4 46 = .ok (.iadd, 1) := by decide +kernel
theorem dJ6_bitCount_0f7a4_47 : decode cJ6_bitCount_0f7a4 47 = .ok (.istore_n 0, 1) := by decide +kernel
theorem dJ6_bitCount_0f7a4_48 : decode cJ6_bitCount_0f7a4 48 = .ok (.iload_n 0, 1) := by decide +kernel
theorem dJ6_bitCount_0f7a4_49 : decode cJ6_bitCount_0f7a4 49 = .ok (.bipush 63, 2) := by decide +kernel
theorem dJ6_bitCount_0f7a4_51 : decode cJ6_bitCount_0f7a4 51 = .ok (.iand, 1) := by decide +kernel
theorem dJ6_bitCount_0f7a4_52 : decode cJ6_bitCount_0f7a4 52 = .ok (.ireturn, 1) := by decide +kernel
theorem dJ9_abs_0f7a4_0 : decode cJ9_abs_0f7a4 0 = .ok (.iload_n 0, 1) := by decide +kernel
theorem dJ9_abs_0f7a4_1 : decode cJ9_abs_0f7a4 1 = .ok (.ifCond .ge 8, 3) := by decide +kernel
theorem dJ9_abs_0f7a4_4 : decode cJ9_abs_0f7a4 4 = .ok (.iload_n 0, 1) := by decide +kernel
theorem dJ9_abs_0f7a4_5 : decode cJ9_abs_0f7a4 5 = .ok (.ineg, 1) := by decide +kernel
theorem dJ9_abs_0f7a4_6 : decode cJ9_abs_0f7a4 6 = .ok (.goto 4, 3) := by decide +kernel
theorem dJ9_abs_0f7a4_9 : decode cJ9_abs_0f7a4 9 = .ok (.iload_n 0, 1) := by decide +kernel
theorem dJ9_abs_0f7a4_10 : decode cJ9_abs_0f7a4 10 = .ok (.ireturn, 1) := by decide +kernel
theorem dJ9_max_7cf53_0 : decode cJ9_max_7cf53 0 = .ok (.iload_n 0, 1) := by decide +kernel
theorem dJ9_max_7cf53_1 : decode cJ9_max_7cf53 1 = .ok (.iload_n 1, 1) := by decide +kernel
theorem dJ9_max_7cf53_2 : decode cJ9_max_7cf53 2 = .ok (.if_icmp .lt 7, 3) := by decide +kernel
theorem dJ9_max_7cf53_5 : decode cJ9_max_7cf53 5 = .ok (.iload_n 0, 1) := by decide +kernel
theorem dJ9_max_7cf53_6 : decode cJ9_max_7cf53 6 = .ok (.goto 4, 3) := by decide +kernel
theorem dJ9_max_7cf53_9 : decode cJ9_max_7cf53 9 = .ok (.iload_n 1, 1) := by decide +kernel
theorem dJ9_max_7cf53_10 : decode cJ9_max_7cf53 10 = .ok (.ireturn, 1) := by decide +kernel
theorem dJ9_min_7cf53_0 : decode cJ9_min_7cf53 0 = .ok (.iload_n 0, 1) := by decide +kernel
theorem dJ9_min_7cf53_1 : decode cJ9_min_7cf53 1 = .ok (.iload_n 1, 1) := by decide +kernel
theorem dJ9_min_7cf53_2 : decode cJ9_min_7cf53 2 = .ok (.if_icmp .gt 7, 3) := by decide +kernel
theorem dJ9_min_7cf53_5 : decode cJ9_min_7cf53 5 = .ok (.iload_n 0, 1) := by decide +kernel
theorem dJ9_min_7cf53_6 : decode cJ9_min_7cf53 6 = .ok (.goto 4, 3) := by decide +kernel
theorem dJ9_min_7cf53_9 : decode cJ9_min_7cf53 9 = .ok (.iload_n 1, 1) := by decide +kernel
theorem dJ9_min_7cf53_10 : decode cJ9_min_7cf53 10 = .ok (.ireturn, 1) := by decide +kernel
theorem dJ0_length_8abf5_0 : decode cJ0_length_8abf5 0 = .ok (.aload_n 0, 1) := by decide +kernel
theorem dJ0_length_8abf5_1 : decode cJ0_length_8abf5 1 = .ok (.getfield 9, 3) := by decide +kernel
theorem dJ0_length_8abf5_4 : decode cJ0_length_8abf5 4 = .ok (.arraylength, 1) := by decide +kernel
theorem dJ0_length_8abf5_5 : decode cJ0_length_8abf5 5 = .ok (.aload_n 0, 1) := by decide +kernel
theorem dJ0_length_8abf5_6 : decode cJ0_length_8abf5 6 = .ok (.invokevirtual 335, 3) := by decide +kernel
theorem dJ0_length_8abf5_9 : decode cJ0_length_8abf5 9 = .ok (.ishr, 1) := by decide +kernel
theorem dJ0_length_8abf5_10 : decode cJ0_length_8abf5 10 = .ok (.ireturn, 1) := by decide +kernel
theorem dJ0_charAt_5068e_0 : decode cJ0_charAt_5068e 0 = .ok (.aload_n 0, 1) := by decide +kernel
theorem dJ0_charAt_5068e_1 : decode cJ0_charAt_5068e 1 = .ok (.invokevirtual 492, 3) := by decide +kernel
theorem dJ0_charAt_5068e_4 : decode cJ0_charAt_5068e 4 = .ok (.ifCond .eq 12, 3) := by decide +kernel
theorem dJ0_charAt_5068e_7 : decode cJ0_charAt_5068e 7 = .ok (.aload_n 0, 1) := by decide +kernel
theorem dJ0_charAt_5068e_8 : decode cJ0_charAt_5068e 8 = .ok (.getfield 9, 3) := by decide +kernel
theorem dJ0_charAt_5068e_11 : decode cJ0_charAt_5068e 11 = .ok (.iload_n 1, 1) := by decide +kernel
theorem dJ0_charAt_5068e_12 : decode cJ0_charAt_5068e 12 = .ok (.invokestatic 495, 3) := by decide +kernel
theorem dJ0_charAt_5068e_15 : decode cJ0_charAt_5068e 15 = .ok (.ireturn, 1) := by decide +kernel
theorem dJ0_charAt_5068e_16 : decode cJ0_charAt_5068e 16 = .ok (.aload_n 0, 1) := by decide +kernel
theorem dJ0_charAt_5068e_17 : decode cJ0_charAt_5068e 17 = .ok (.getfield 9, 3) := by decide +kernel
theorem dJ0_charAt_5068e_20 : decode cJ0_charAt_5068e 20 = .ok (.iload_n 1, 1) := by decide +kernel
theorem dJ0_charAt_5068e_21 : decode cJ0_charAt_5068e 21 = .ok (.invokestatic 498, 3) := by decide +kernel
theorem dJ0_charAt_5068e_24 : decode cJ0_charAt_5068e 24 = .ok (.ireturn, 1) := by decide +kernel
theorem dJ0_coder_7d493_0 : decode cJ0_coder_7d493 0 = .ok (.getstatic 38, 3) := by decide +kernel
theorem dJ0_coder_7d493_3 : decode cJ0_coder_7d493 3 = .ok (.ifCond .eq 10, 3) := by decide +kernel
theorem dJ0_coder_7d493_6 : decode cJ0_coder_7d493 6 = .ok (.aload_n 0, 1) := by decide +kernel
theorem dJ0_coder_7d493_7 : decode cJ0_coder_7d493 7 = .ok (.getfield 15, 3) := by decide +kernel
theorem dJ0_coder_7d493_10 : decode cJ0_coder_7d493 10 = .ok (.goto 4, 3) := by decide +kernel
theorem dJ0_coder_7d493_13 : decode cJ0_coder_7d493 13 = .ok (.iconst 1, 1) := by decide +kernel
theorem dJ0_coder_7d493_14 : decode cJ0_coder_7d493 14 = .ok (.ireturn, 1) := by decide +kernel
theorem dJ0_isLatin1_aae02_0 : decode cJ0_isLatin1_aae02 0 = .ok (.getstatic 38, 3) := by decide +kernel
theorem dJ0_isLatin1_aae02_3 : decode cJ0_isLatin1_aae02 3 = .ok (.ifCond .eq 14, 3) := by decide +kernel
theorem dJ0_isLatin1_aae02_6 : decode cJ0_isLatin1_aae02 6 = .ok (.aload_n 0, 1) := by decide +kernel
theorem dJ0_isLatin1_aae02_7 : decode cJ0_isLatin1_aae02 7 = .ok (.getfield 15, 3) := by decide +kernel
theorem dJ0_isLatin1_aae02_10 : decode cJ0_isLatin1_aae02 10 = .ok (.ifCond .ne 7, 3) := by decide +kernel
theorem dJ0_isLatin1_aae02_13 : decode cJ0_isLatin1_aae02 13 = .ok (.iconst 1, 1) := by decide +kernel
theorem dJ0_isLatin1_aae02_14 : decode cJ0_isLatin1_aae02 14 = .ok (.goto 4, 3) := by decide +kernel
theorem dJ0_isLatin1_aae02_17 : decode cJ0_isLatin1_aae02 17 = .ok (.iconst 0, 1) := by decide +kernel
theorem dJ0_isLatin1_aae02_18 : decode cJ0_isLatin1_aae02 18 = .ok (.ireturn, 1) := by decide +kernel
theorem dJ0_checkIndex_df160_0 : decode cJ0_checkIndex_df160 0 = .ok (.iload_n 0, 1) := by decide +kernel
theorem dJ0_checkIndex_df160_1 : decode cJ0_checkIndex_df160 1 = .ok (.iload_n 1, 1) := by decide +kernel
theorem dJ0_checkIndex_df160_2 : decode cJ0_checkIndex_df160 2 = .ok (.getstatic 1053, 3) := by decide +kernel
theorem dJ0_checkIndex_df160_5 : decode cJ0_checkIndex_df160 5 = .ok (.invokestatic 1059, 3) := by decide +kernel
theorem dJ0_checkIndex_df160_8 : decode cJ0_checkIndex_df160 8 = .ok (.pop, 1) := by decide +kernel
theorem dJ0_checkIndex_df160_9 : decode cJ0_checkIndex_df160 9 = .ok (.return_, 1) := by decide +kernel
theorem dJ1_charAt_3b067_0 : decode cJ1_charAt_3b067 0 = .ok (.iload_n 1, 1) := by decide +kernel
theorem dJ1_charAt_3b067_1 : decode cJ1_charAt_3b067 1 = .ok (.aload_n 0, 1) := by decide +kernel
theorem dJ1_charAt_3b067_2 : decode cJ1_charAt_3b067 2 = .ok (.arraylength, 1) := by decide +kernel
theorem dJ1_charAt_3b067_3 : decode cJ1_charAt_3b067 3 = .ok (.invokestatic 9, 3) := by decide +kernel
theorem dJ1_charAt_3b067_6 : decode cJ1_charAt_3b067 6 = .ok (.aload_n 0, 1) := by decide +kernel
theorem dJ1_charAt_3b067_7 : decode cJ1_charAt_3b067 7 = .ok (.iload_n 1, 1) := by decide +kernel
theorem dJ1_charAt_3b067_8 : decode cJ1_charAt_3b067 8 = .ok (.baload, 1) := by decide +kernel
theorem dJ1_charAt_3b067_9 : decode cJ1_charAt_3b067 9 = .ok (.sipush 255, 3) := by decide +kernel
theorem dJ1_charAt_3b067_12 : decode cJ1_charAt_3b067 12 = .ok (.iand, 1) := by decide +kernel
theorem dJ1_charAt_3b067_13 : decode cJ1_charAt_3b067 13 = .ok (.i2c, 1) := by decide +kernel
theorem dJ1_charAt_3b067_14 : decode cJ1_charAt_3b067 14 = .ok (.ireturn, 1) := by decide +kernel
theorem dJ2_getChar_3b067_0 : decode cJ2_getChar_3b067 0 = .ok (.getstatic 44, 3) := by decide +kernel
theorem dJ2_getChar_3b067_3 : decode cJ2_getChar_3b067 3 = .ok (.ifCond .ne 25, 3) := by decide +kernel
theorem dJ2_getChar_3b067_6 : decode cJ2_getChar_3b067 6 = .ok (.iload_n 1, 1) := by decide +kernel
theorem dJ2_getChar_3b067_7 : decode cJ2_getChar_3b067 7 = .ok (.ifCond .lt 11, 3) := by decide +kernel
theorem dJ2_getChar_3b067_10 : decode cJ2_getChar_3b067 10 = .ok (.iload_n 1, 1) := by decide +kernel
theorem dJ2_getChar_3b067_11 : decode cJ2_getChar_3b067 11 = .ok (.aload_n 0, 1) := by decide +kernel
theorem dJ2_getChar_3b067_12 : decode cJ2_getChar_3b067 12 = .ok (.invokestatic 48, 3) := by decide +kernel
theorem dJ2_getChar_3b067_15 : decode cJ2_getChar_3b067 15 = .ok (.if_icmp .lt 13, 3) := by decide +kernel
theorem dJ2_getChar_3b067_18 : decode cJ2_getChar_3b067 18 = .ok (.new 52, 3) := by decide +kernel
theorem dJ2_getChar_3b067_21 : decode cJ2_getChar_3b067 21 = .ok (.dup, 1) := by decide +kernel
theorem dJ2_getChar_3b067_22 : decode cJ2_getChar_3b067 22 = .ok (.ldc 54, 2) := by decide +kernel
theorem dJ2_getChar_3b067_24 : decode cJ2_getChar_3b067 24 = .ok (.invokespecial 56, 3) := by decide +kernel
theorem dJ2_getChar_3b067_27 : decode cJ2_getChar_3b067 27 = .ok (.athrow, 1) := by decide +kernel
theorem dJ2_getChar_3b067_28 : decode cJ2_getChar_3b067 28 = .ok (.iload_n 1, 1) := by decide +kernel
theorem dJ2_getChar_3b067_29 : decode cJ2_getChar_3b067 29 = .ok (.iconst 1, 1) := by decide +kernel
theorem dJ2_getChar_3b067_30 : decode cJ2_getChar_3b067 30 = .ok (.ishl, 1) := by decide +kernel
theorem dJ2_getChar_3b067_31 : decode cJ2_getChar_3b067 31 = .ok (.istore_n 1, 1) := by decide +kernel
theorem dJ2_getChar_3b067_32 : decode cJ2_getChar_3b067 32 = .ok (.aload_n 0, 1) := by decide +kernel
theorem dJ2_getChar_3b067_33 : decode cJ2_getChar_3b067 33 = .ok (.iload_n 1, 1) := by decide +kernel
theorem dJ2_getChar_3b067_34 : decode cJ2_getChar_3b067 34 = .ok (.iinc 1 1, 3) := by decide +kernel
theorem dJ2_getChar_3b067_37 : decode cJ2_getChar_3b067 37 = .ok (.baload, 1) := by decide +kernel
theorem dJ2_getChar_3b067_38 : decode cJ2_getChar_3b067 38 = .ok (.sipush 255, 3) := by decide +kernel
theorem dJ2_getChar_3b067_41 : decode cJ2_getChar_3b067 41 = .ok (.iand, 1) := by decide +kernel
theorem dJ2_getChar_3b067_42 : decode cJ2_getChar_3b067 42 = .ok (.getstatic 59, 3) := by decide +kernel
theorem dJ2_getChar_3b067_45 : decode cJ2_getChar_3b067 45 = .ok (.ishl, 1) := by decide +kernel
theorem dJ2_getChar_3b067_46 : decode cJ2_getChar_3b067 46 = .ok (.aload_n 0, 1) := by decide +kernel
theorem dJ2_getChar_3b067_47 : decode cJ2_getChar_3b067 47 = .ok (.iload_n 1, 1) := by decide +kernel
theorem dJ2_getChar_3b067_48 : decode cJ2_getChar_3b067 48 = .ok (.baload, 1) := by decide +kernel
theorem dJ2_getChar_3b067_49 : decode cJ2_getChar_3b067 49 = .ok (.sipush 255, 3) := by decide +kernel
theorem dJ2_getChar_3b067_52 : decode cJ2_getChar_3b067 52 = .ok (.iand, 1) := by decide +kernel
theorem dJ2_getChar_3b067_53 : decode cJ2_getChar_3b067 53 = .ok (.getstatic 63, 3) := by decide +kernel
theorem dJ2_getChar_3b067_56 : decode cJ2_getChar_3b067 56 = .ok (.ishl, 1) := by decide +kernel
theorem dJ2_getChar_3b067_57 : decode cJ2_getChar_3b067 57 = .ok (.ior, 1) := by decide +kernel
theorem dJ2_getChar_3b067_58 : decode cJ2_getChar_3b067 58 = .ok (.i2c, 1) := by decide +kernel
theorem dJ2_getChar_3b067_59 : decode cJ2_getChar_3b067 59 = .ok (.ireturn, 1) := by decide +kernel
theorem dJ2_length_9d52b_0 : decode cJ2_length_9d52b 0 = .ok (.aload_n 0, 1) := by decide +kernel
theorem dJ2_length_9d52b_1 : decode cJ2_length_9d52b 1 = .ok (.arraylength, 1) := by decide +kernel
theorem dJ2_length_9d52b_2 : decode cJ2_length_9d52b 2 = .ok (.iconst 1, 1) := by decide +kernel
theorem dJ2_length_9d52b_3 : decode cJ2_length_9d52b 3 = .ok (.ishr, 1) := by decide +kernel
theorem dJ2_length_9d52b_4 : decode cJ2_length_9d52b 4 = .ok (.ireturn, 1) := by decide +kernel
theorem dJ2_charAt_3b067_0 : decode cJ2_charAt_3b067 0 = .ok (.iload_n 1, 1) := by decide +kernel
theorem dJ2_charAt_3b067_1 : decode cJ2_charAt_3b067 1 = .ok (.aload_n 0, 1) := by decide +kernel
theorem dJ2_charAt_3b067_2 : decode cJ2_charAt_3b067 2 = .ok (.invokestatic 67, 3) := by decide +kernel
theorem dJ2_charAt_3b067_5 : decode cJ2_charAt_3b067 5 = .ok (.aload_n 0, 1) := by decide +kernel
theorem dJ2_charAt_3b067_6 : decode cJ2_charAt_3b067 6 = .ok (.iload_n 1, 1) := by decide +kernel
theorem dJ2_charAt_3b067_7 : decode cJ2_charAt_3b067 7 = .ok (.invokestatic 71, 3) := by decide +kernel
theorem dJ2_charAt_3b067_10 : decode cJ2_charAt_3b067 10 = .ok (.ireturn, 1) := by decide +kernel
theorem dJ2_checkIndex_2214a_0 : decode cJ2_checkIndex_2214a 0 = .ok (.iload_n 0, 1) := by decide +kernel
theorem dJ2_checkIndex_2214a_1 : decode cJ2_checkIndex_2214a 1 = .ok (.aload_n 1, 1) := by decide +kernel
theorem dJ2_checkIndex_2214a_2 : decode cJ2_checkIndex_2214a 2 = .ok (.invokestatic 48, 3) := by decide +kernel
theorem dJ2_checkIndex_2214a_5 : decode cJ2_checkIndex_2214a 5 = .ok (.invokestatic 414, 3) := by decide +kernel
theorem dJ2_checkIndex_2214a_8 : decode cJ2_checkIndex_2214a 8 = .ok (.return_, 1) := by decide +kernel
theorem dJ7_fill_53178_0 : decode cJ7_fill_53178 0 = .ok (.iconst 0, 1) := by decide +kernel
theorem dJ7_fill_53178_1 : decode cJ7_fill_53178 1 = .ok (.istore_n 2, 1) := by decide +kernel
theorem dJ7_fill_53178_2 : decode cJ7_fill_53178 2 = .ok (.aload_n 0, 1) := by decide +kernel
theorem dJ7_fill_53178_3 : decode cJ7_fill_53178 3 = .ok (.arraylength, 1) := by decide +kernel
theorem dJ7_fill_53178_4 : decode cJ7_fill_53178 4 = .ok (.istore_n 3, 1) := by decide +kernel
theorem dJ7_fill_53178_5 : decode cJ7_fill_53178 5 = .ok (.iload_n 2, 1) := by decide +kernel
theorem dJ7_fill_53178_6 : decode cJ7_fill_53178 6 = .ok (.iload_n 3, 1) := by decide +kernel
theorem dJ7_fill_53178_7 : decode cJ7_fill_53178 7 = .ok (.if_icmp .ge 13, 3) := by decide +kernel
theorem dJ7_fill_53178_10 : decode cJ7_fill_53178 10 = .ok (.aload_n 0, 1) := by decide +kernel
theorem dJ7_fill_53178_11 : decode cJ7_fill_53178 11 = .ok (.iload_n 2, 1) := by decide +kernel
theorem dJ7_fill_53178_12 : decode cJ7_fill_53178 12 = .ok (.iload_n 1, 1) := by decide +kernel
theorem dJ7_fill_53178_13 : decode cJ7_fill_53178 13 = .ok (.iastore, 1) := by decide +kernel
theorem dJ7_fill_53178_14 : decode cJ7_fill_53178 14 = .ok (.iinc 2 1, 3) := by decide +kernel
theorem dJ7_fill_53178_17 : decode cJ7_fill_53178 17 = .ok (.goto (-12), 3) := by decide +kernel
theorem dJ7_fill_53178_20 : decode cJ7_fill_53178 20 = .ok (.return_, 1) := by decide +kernel
theorem dJ3_checkIndex_8e157_0 : decode cJ3_checkIndex_8e157 0 = .ok (.iload_n 0, 1) := by decide +kernel
theorem dJ3_checkIndex_8e157_1 : decode cJ3_checkIndex_8e157 1 = .ok (.ifCond .lt 8, 3) := by decide +kernel
theorem dJ3_checkIndex_8e157_4 : decode cJ3_checkIndex_8e157 4 = .ok (.iload_n 0, 1) := by decide +kernel
theorem dJ3_checkIndex_8e157_5 : decode cJ3_checkIndex_8e157 5 = .ok (.iload_n 1, 1) := by decide +kernel
theorem dJ3_checkIndex_8e157_6 : decode cJ3_checkIndex_8e157 6 = .ok (.if_icmp .lt 10, 3) := by decide +kernel
theorem dJ3_checkIndex_8e157_9 : decode cJ3_checkIndex_8e157 9 = .ok (.aload_n 2, 1) := by decide +kernel
theorem dJ3_checkIndex_8e157_10 : decode cJ3_checkIndex_8e157 10 = .ok (.iload_n 0, 1) := by decide +kernel
theorem dJ3_checkIndex_8e157_11 : decode cJ3_checkIndex_8e157 11 = .ok (.iload_n 1, 1) := by decide +kernel
theorem dJ3_checkIndex_8e157_12 : decode cJ3_checkIndex_8e157 12 = .ok (.invokestatic 95, 3) := by decide +kernel
theorem dJ3_checkIndex_8e157_15 : decode cJ3_checkIndex_8e157 15 = .ok (.athrow, 1) := by decide +kernel
theorem dJ3_checkIndex_8e157_16 : decode cJ3_checkIndex_8e157 16 = .ok (.iload_n 0, 1) := by decide +kernel
theorem dJ3_checkIndex_8e157_17 : decode cJ3_checkIndex_8e157 17 = .ok (.ireturn, 1) := by decide +kernel
end
section
theorem dX4_init_0 : decode cX4_init 0 = .ok (.aload_n 0, 1) := by decide +kernel
theorem dX4_init_1 : decode cX4_init 1 = .ok (.invokespecial 3, 3) := by decide +kernel
theorem dX4_init_4 : decode cX4_init 4 = .ok (.aload_n 0, 1) := by decide +kernel
theorem dX4_init_5 : decode cX4_init 5 = .ok (.new 9, 3) := by decide +kernel
theorem dX4_init_8 : decode cX4_init 8 = .ok (.dup, 1) := by decide +kernel
theorem dX4_init_9 : decode cX4_init 9 = .ok (.invokespecial 11, 3) := by decide +kernel
theorem dX4_init_12 : decode cX4_init 12 = .ok (.putfield 12, 3) := by decide +kernel
theorem dX4_init_15 : decode cX4_init 15 = .ok (.aload_n 0, 1) := by decide +kernel
theorem dX4_init_16 : decode cX4_init 16 = .ok (.new 16, 3) := by decide +kernel
theorem dX4_init_19 : decode cX4_init 19 = .ok (.dup, 1) := by decide +kernel
theorem dX4_init_20 : decode cX4_init 20 = .ok (.invokespecial 18, 3) := by decide +kernel
theorem dX4_init_23 : decode cX4_init 23 = .ok (.putfield 19, 3) := by decide +kernel
theorem dX4_init_26 : decode cX4_init 26 = .ok (.aload_n 0, 1) := by decide +kernel
theorem dX4_init_27 : decode cX4_init 27 = .ok (.new 23, 3) := by decide +kernel
theorem dX4_init_30 : decode cX4_init 30 = .ok (.dup, 1) := by decide +kernel
theorem dX4_init_31 : decode cX4_init 31 = .ok (.invokespecial 25, 3) := by decide +kernel
theorem dX4_init_34 : decode cX4_init 34 = .ok (.putfield 26, 3) := by decide +kernel
theorem dX4_init_37 : decode cX4_init 37 = .ok (.aload_n 0, 1) := by decide +kernel
theorem dX4_init_38 : decode cX4_init 38 = .ok (.new 23, 3) := by decide +kernel
theorem dX4_init_41 : decode cX4_init 41 = .ok (.dup, 1) := by decide +kernel
theorem dX4_init_42 : decode cX4_init 42 = .ok (.invokespecial 25, 3) := by decide +kernel
theorem dX4_init_45 : decode cX4_init 45 = .ok (.putfield 30, 3) := by decide +kernel
theorem dX4_init_48 : decode cX4_init 48 = .ok (.aload_n 0, 1) := by decide +kernel
theorem dX4_init_49 : decode cX4_init 49 = .ok (.iconst 2, 1) := by decide +kernel
theorem dX4_init_50 : decode cX4_init 50 = .ok (.anewarray 23, 3) := by decide +kernel
theorem dX4_init_53 : decode cX4_init 53 = .ok (.putfield 33, 3) := by decide +kernel
theorem dX4_init_56 : decode cX4_init 56 = .ok (.aload_n 0, 1) := by decide +kernel
theorem dX4_init_57 : decode cX4_init 57 = .ok (.iconst 2, 1) := by decide +kernel
theorem dX4_init_58 : decode cX4_init 58 = .ok (.newarray .boolean, 2) := by decide +kernel
theorem dX4_init_60 : decode cX4_init 60 = .ok (.putfield 37, 3) := by decide +kernel
theorem dX4_init_63 : decode cX4_init 63 = .ok (.aload_n 0, 1) := by decide +kernel
theorem dX4_init_64 : decode cX4_init 64 = .ok (.iconst 4, 1) := by decide +kernel
theorem dX4_init_65 : decode cX4_init 65 = .ok (.anewarray 41, 3) := by decide +kernel
theorem dX4_init_68 : decode cX4_init 68 = .ok (.putfield 43, 3) := by decide +kernel
theorem dX4_init_71 : decode cX4_init 71 = .ok (.aload_n 0, 1) := by decide +kernel
theorem dX4_init_72 : decode cX4_init 72 = .ok (.bipush 21, 2) := by decide +kernel
theorem dX4_init_74 : decode cX4_init 74 = .ok (.newarray .int, 2) := by decide +kernel
theorem dX4_init_76 : decode cX4_init 76 = .ok (.putfield 47, 3) := by decide +kernel
theorem dX4_init_79 : decode cX4_init 79 = .ok (.aload_n 0, 1) := by decide +kernel
theorem dX4_init_80 : decode cX4_init 80 = .ok (.sipush 441, 3) := by decide +kernel
theorem dX4_init_83 : decode cX4_init 83 = .ok (.newarray .int, 2) := by decide +kernel
theorem dX4_init_85 : decode cX4_init 85 = .ok (.putfield 51, 3) := by decide +kernel
theorem dX4_init_88 : decode cX4_init 88 = .ok (.aload_n 0, 1) := by decide +kernel
theorem dX4_init_89 : decode cX4_init 89 = .ok (.iconst 0, 1) := by decide +kernel
theorem dX4_init_90 : decode cX4_init 90 = .ok (.putfield 54, 3) := by decide +kernel
theorem dX4_init_93 : decode cX4_init 93 = .ok (.aload_n 0, 1) := by decide +kernel
theorem dX4_init_94 : decode cX4_init 94 = .ok (.iconst 0, 1) := by decide +kernel
theorem dX4_init_95 : decode cX4_init 95 = .ok (.putfield 58, 3) := by decide +kernel
theorem dX4_init_98 : decode cX4_init 98 = .ok (.iconst 0, 1) := by decide +kernel
theorem dX4_init_99 : decode cX4_init 99 = .ok (.istore_n 1, 1) := by decide +kernel
theorem dX4_init_100 : decode cX4_init 100 = .ok (.iload_n 1, 1) := by decide +kernel
theorem dX4_init_101 : decode cX4_init 101 = .ok (.iconst 2, 1) := by decide +kernel
theorem dX4_init_102 : decode cX4_init 102 = .ok (.if_icmp .ge 22, 3) := by decide +kernel
theorem dX4_init_105 : decode cX4_init 105 = .ok (.aload_n 0, 1) := by decide +kernel
theorem dX4_init_106 : decode cX4_init 106 = .ok (.getfield 33, 3) := by decide +kernel
theorem dX4_init_109 : decode cX4_init 109 = .ok (.iload_n 1, 1) := by decide +kernel
theorem dX4_init_110 : decode cX4_init 110 = .ok (.new 23, 3) := by decide +kernel
theorem dX4_init_113 : decode cX4_init 113 = .ok (.dup, 1) := by decide +kernel
theorem dX4_init_114 : decode cX4_init 114 = .ok (.invokespecial 25, 3) := by decide +kernel
theorem dX4_init_117 : decode cX4_init 117 = .ok (.aastore, 1) := by decide +kernel
theorem dX4_init_118 : decode cX4_init 118 = .ok (.iinc 1 1, 3) := by decide +kernel
theorem dX4_init_121 : decode cX4_init 121 = .ok (.goto (-21), 3) := by decide +kernel
theorem dX4_init_124 : decode cX4_init 124 = .ok (.iconst 0, 1) := by decide +kernel
theorem dX4_init_125 : decode cX4_init 125 = .ok (.istore_n 1, 1) := by decide +kernel
theorem dX4_init_126 : decode cX4_init 126 = .ok (.iload_n 1, 1) := by decide +kernel
theorem dX4_init_127 : decode cX4_init 127 = .ok (.iconst 4, 1) := by decide +kernel
theorem dX4_init_128 : decode cX4_init 128 = .ok (.if_icmp .ge 22, 3) := by decide +kernel
theorem dX4_init_131 : decode cX4_init 131 = .ok (.aload_n 0, 1) := by decide +kernel
theorem dX4_init_132 : decode cX4_init 132 = .ok (.getfield 43, 3) := by decide +kernel
theorem dX4_init_135 : decode cX4_init 135 = .ok (.iload_n 1, 1) := by decide +kernel
theorem dX4_init_136 : decode cX4_init 136 = .ok (.new 41, 3) := by decide +kernel
theorem dX4_init_139 : decode cX4_init 139 = .ok (.dup, 1) := by decide +kernel
theorem dX4_init_140 : decode cX4_init 140 = .ok (.invokespecial 61, 3) := by decide +kernel
theorem dX4_init_143 : decode cX4_init 143 = .ok (.aastore, 1) := by decide +kernel
theorem dX4_init_144 : decode cX4_init 144 = .ok (.iinc 1 1, 3) := by decide +kernel
theorem dX4_init_147 : decode cX4_init 147 = .ok (.goto (-21), 3) := by decide +kernel
theorem dX4_init_150 : decode cX4_init 150 = .ok (.return_, 1) := by decide +kernel
theorem dX4_feed_0 : decode cX4_feed 0 = .ok (.iload_n 1, 1) := by decide +kernel
theorem dX4_feed_1 : decode cX4_feed 1 = .ok (.bipush 127, 2) := by decide +kernel
theorem dX4_feed_3 : decode cX4_feed 3 = .ok (.invokestatic 62, 3) := by decide +kernel
theorem dX4_feed_6 : decode cX4_feed 6 = .ok (.ifCond .ne 5, 3) := by decide +kernel
theorem dX4_feed_9 : decode cX4_feed 9 = .ok (.iconst (-1), 1) := by decide +kernel
theorem dX4_feed_10 : decode cX4_feed 10 = .ok (.ireturn, 1) := by decide +kernel
theorem dX4_feed_11 : decode cX4_feed 11 = .ok (.aload_n 0, 1) := by decide +kernel
theorem dX4_feed_12 : decode cX4_feed 12 = .ok (.getfield 12, 3) := by decide +kernel
theorem dX4_feed_15 : decode cX4_feed 15 = .ok (.getfield 66, 3) := by decide +kernel
theorem dX4_feed_18 : decode cX4_feed 18 = .ok (.sipush 160, 3) := by decide +kernel
theorem dX4_feed_21 : decode cX4_feed 21 = .ok (.if_icmp .lt 6, 3) := by decide +kernel
theorem dX4_feed_24 : decode cX4_feed 24 = .ok (.bipush (-3), 2) := by decide +kernel
theorem dX4_feed_26 : decode cX4_feed 26 = .ok (.ireturn, 1) := by decide +kernel
theorem dX4_feed_27 : decode cX4_feed 27 = .ok (.aload_n 0, 1) := by decide +kernel
theorem dX4_feed_28 : decode cX4_feed 28 = .ok (.getfield 12, 3) := by decide +kernel
theorem dX4_feed_31 : decode cX4_feed 31 = .ok (.getfield 69, 3) := by decide +kernel
theorem dX4_feed_34 : decode cX4_feed 34 = .ok (.aload_n 0, 1) := by decide +kernel
theorem dX4_feed_35 : decode cX4_feed 35 = .ok (.getfield 12, 3) := by decide +kernel
theorem dX4_feed_38 : decode cX4_feed 38 = .ok (.getfield 66, 3) := by decide +kernel
theorem dX4_feed_41 : decode cX4_feed 41 = .ok (.iload_n 1, 1) := by decide +kernel
theorem dX4_feed_42 : decode cX4_feed 42 = .ok (.i2b, 1) := by decide +kernel
theorem dX4_feed_43 : decode cX4_feed 43 = .ok (.bastore, 1) := by decide +kernel
theorem dX4_feed_44 : decode cX4_feed 44 = .ok (.aload_n 0, 1) := by decide +kernel
theorem dX4_feed_45 : decode cX4_feed 45 = .ok (.getfield 12, 3) := by decide +kernel
theorem dX4_feed_48 : decode cX4_feed 48 = .ok (.dup, 1) := by decide +kernel
theorem dX4_feed_49 : decode cX4_feed 49 = .ok (.getfield 66, 3) := by decide +kernel
theorem dX4_feed_52 : decode cX4_feed 52 = .ok (.iconst 1, 1) := by decide +kernel
theorem dX4_feed_53 : decode cX4_feed 53 = .ok (.iadd, 1) := by decide +kernel
theorem dX4_feed_54 : decode cX4_feed 54 = .ok (.putfield 66, 3) := by decide +kernel
theorem dX4_feed_57 : decode cX4_feed 57 = .ok (.aload_n 0, 1) := by decide +kernel
theorem dX4_feed_58 : decode cX4_feed 58 = .ok (.getfield 12, 3) := by decide +kernel
theorem dX4_feed_61 : decode cX4_feed 61 = .ok (.getfield 66, 3) := by decide +kernel
theorem dX4_feed_64 : decode cX4_feed 64 = .ok (.ireturn, 1) := by decide +kernel
theorem dX4_end_0 : decode cX4_end 0 = .ok (.iload_n 1, 1) := by decide +kernel
theorem dX4_end_1 : decode cX4_end 1 = .ok (.aload_n 0, 1) := by decide +kernel
theorem dX4_end_2 : decode cX4_end 2 = .ok (.getfield 12, 3) := by decide +kernel
theorem dX4_end_5 : decode cX4_end 5 = .ok (.getfield 66, 3) := by decide +kernel
theorem dX4_end_8 : decode cX4_end 8 = .ok (.invokestatic 62, 3) := by decide +kernel
theorem dX4_end_11 : decode cX4_end 11 = .ok (.ifCond .ne 5, 3) := by decide +kernel
theorem dX4_end_14 : decode cX4_end 14 = .ok (.iconst (-1), 1) := by decide +kernel
theorem dX4_end_15 : decode cX4_end 15 = .ok (.ireturn, 1) := by decide +kernel
theorem dX4_end_16 : decode cX4_end 16 = .ok (.aload_n 0, 1) := by decide +kernel
theorem dX4_end_17 : decode cX4_end 17 = .ok (.getfield 12, 3) := by decide +kernel
theorem dX4_end_20 : decode cX4_end 20 = .ok (.getfield 66, 3) := by decide +kernel
theorem dX4_end_23 : decode cX4_end 23 = .ok (.istore_n 2, 1) := by decide +kernel
theorem dX4_end_24 : decode cX4_end 24 = .ok (.aload_n 0, 1) := by decide +kernel
theorem dX4_end_25 : decode cX4_end 25 = .ok (.getfield 12, 3) := by decide +kernel
theorem dX4_end_28 : decode cX4_end 28 = .ok (.iload_n 1, 1) := by decide +kernel
theorem dX4_end_29 : decode cX4_end 29 = .ok (.putfield 66, 3) := by decide +kernel
theorem dX4_end_32 : decode cX4_end 32 = .ok (.iload_n 2, 1) := by decide +kernel
theorem dX4_end_33 : decode cX4_end 33 = .ok (.ireturn, 1) := by decide +kernel
theorem dX4_text_0 : decode cX4_text 0 = .ok (.aload_n 0, 1) := by decide +kernel
theorem dX4_text_1 : decode cX4_text 1 = .ok (.getfield 19, 3) := by decide +kernel
theorem dX4_text_4 : decode cX4_text 4 = .ok (.aload_n 0, 1) := by decide +kernel
theorem dX4_text_5 : decode cX4_text 5 = .ok (.getfield 12, 3) := by decide +kernel
theorem dX4_text_8 : decode cX4_text 8 = .ok (.aload_n 0, 1) := by decide +kernel
theorem dX4_text_9 : decode cX4_text 9 = .ok (.getfield 30, 3) := by decide +kernel
theorem dX4_text_12 : decode cX4_text 12 = .ok (.invokevirtual 73, 3) := by decide +kernel
theorem dX4_text_15 : decode cX4_text 15 = .ok (.istore_n 1, 1) := by decide +kernel
theorem dX4_text_16 : decode cX4_text 16 = .ok (.aload_n 0, 1) := by decide +kernel
theorem dX4_text_17 : decode cX4_text 17 = .ok (.getfield 12, 3) := by decide +kernel
theorem dX4_text_20 : decode cX4_text 20 = .ok (.iconst 0, 1) := by decide +kernel
theorem dX4_text_21 : decode cX4_text 21 = .ok (.putfield 66, 3) := by decide +kernel
theorem dX4_text_24 : decode cX4_text 24 = .ok (.aload_n 0, 1) := by decide +kernel
theorem dX4_text_25 : decode cX4_text 25 = .ok (.aload_n 0, 1) := by decide +kernel
theorem dX4_text_26 : decode cX4_text 26 = .ok (.getfield 19, 3) := by decide +kernel
theorem dX4_text_29 : decode cX4_text 29 = .ok (.getfield 77, 3) := by decide +kernel
theorem dX4_text_32 : decode cX4_text 32 = .ok (.putfield 54, 3) := by decide +kernel
theorem dX4_text_35 : decode cX4_text 35 = .ok (.aload_n 0, 1) := by decide +kernel
theorem dX4_text_36 : decode cX4_text 36 = .ok (.getfield 54, 3) := by decide +kernel
theorem dX4_text_39 : decode cX4_text 39 = .ok (.ifCond .ne 34, 3) := by decide +kernel
theorem dX4_text_42 : decode cX4_text 42 = .ok (.aload_n 0, 1) := by decide +kernel
theorem dX4_text_43 : decode cX4_text 43 = .ok (.getfield 26, 3) := by decide +kernel
theorem dX4_text_46 : decode cX4_text 46 = .ok (.aload_n 0, 1) := by decide +kernel
theorem dX4_text_47 : decode cX4_text 47 = .ok (.getfield 30, 3) := by decide +kernel
theorem dX4_text_50 : decode cX4_text 50 = .ok (.invokevirtual 80, 3) := by decide +kernel
theorem dX4_text_53 : decode cX4_text 53 = .ok (.iconst 0, 1) := by decide +kernel
theorem dX4_text_54 : decode cX4_text 54 = .ok (.istore_n 2, 1) := by decide +kernel
theorem dX4_text_55 : decode cX4_text 55 = .ok (.iload_n 2, 1) := by decide +kernel
theorem dX4_text_56 : decode cX4_text 56 = .ok (.iconst 2, 1) := by decide +kernel
theorem dX4_text_57 : decode cX4_text 57 = .ok (.if_icmp .ge 16, 3) := by decide +kernel
theorem dX4_text_60 : decode cX4_text 60 = .ok (.aload_n 0, 1) := by decide +kernel
theorem dX4_text_61 : decode cX4_text 61 = .ok (.getfield 37, 3) := by decide +kernel
theorem dX4_text_64 : decode cX4_text 64 = .ok (.iload_n 2, 1) := by decide +kernel
theorem dX4_text_65 : decode cX4_text 65 = .ok (.iconst 0, 1) := by decide +kernel
theorem dX4_text_66 : decode cX4_text 66 = .ok (.bastore, 1) := by decide +kernel
theorem dX4_text_67 : decode cX4_text 67 = .ok (.iinc 2 1, 3) := by decide +kernel
theorem dX4_text_70 : decode cX4_text 70 = .ok (.goto (-15), 3) := by decide +kernel
theorem dX4_text_73 : decode cX4_text 73 = .ok (.iload_n 1, 1) := by decide +kernel
theorem dX4_text_74 : decode cX4_text 74 = .ok (.ireturn, 1) := by decide +kernel
theorem dX4_fault_0 : decode cX4_fault 0 = .ok (.aload_n 0, 1) := by decide +kernel
theorem dX4_fault_1 : decode cX4_fault 1 = .ok (.getfield 54, 3) := by decide +kernel
theorem dX4_fault_4 : decode cX4_fault 4 = .ok (.ireturn, 1) := by decide +kernel
theorem dX4_rule_0 : decode cX4_rule 0 = .ok (.iload_n 1, 1) := by decide +kernel
theorem dX4_rule_1 : decode cX4_rule 1 = .ok (.tableswitch 109 0 6 #[43, 51, 59, 67, 78, 86, 101], 43) := by decide +kernel
theorem dX4_rule_44 : decode cX4_rule 44 = .ok (.aload_n 0, 1) := by decide +kernel
theorem dX4_rule_45 : decode cX4_rule 45 = .ok (.getfield 26, 3) := by decide +kernel
theorem dX4_rule_48 : decode cX4_rule 48 = .ok (.getfield 84, 3) := by decide +kernel
theorem dX4_rule_51 : decode cX4_rule 51 = .ok (.ireturn, 1) := by decide +kernel
theorem dX4_rule_52 : decode cX4_rule 52 = .ok (.aload_n 0, 1) := by decide +kernel
theorem dX4_rule_53 : decode cX4_rule 53 = .ok (.getfield 26, 3) := by decide +kernel
theorem dX4_rule_56 : decode cX4_rule 56 = .ok (.getfield 87, 3) := by decide +kernel
theorem dX4_rule_59 : decode cX4_rule 59 = .ok (.ireturn, 1) := by decide +kernel
theorem dX4_rule_60 : decode cX4_rule 60 = .ok (.aload_n 0, 1) := by decide +kernel
theorem dX4_rule_61 : decode cX4_rule 61 = .ok (.getfield 26, 3) := by decide +kernel
theorem dX4_rule_64 : decode cX4_rule 64 = .ok (.getfield 90, 3) := by decide +kernel
theorem dX4_rule_67 : decode cX4_rule 67 = .ok (.ireturn, 1) := by decide +kernel
theorem dX4_rule_68 : decode cX4_rule 68 = .ok (.aload_n 0, 1) := by decide +kernel
theorem dX4_rule_69 : decode cX4_rule 69 = .ok (.getfield 26, 3) := by decide +kernel
theorem dX4_rule_72 : decode cX4_rule 72 = .ok (.invokevirtual 93, 3) := by decide +kernel
theorem dX4_rule_75 : decode cX4_rule 75 = .ok (.invokestatic 97, 3) := by decide +kernel
theorem dX4_rule_78 : decode cX4_rule 78 = .ok (.ireturn, 1) := by decide +kernel
theorem dX4_rule_79 : decode cX4_rule 79 = .ok (.aload_n 0, 1) := by decide +kernel
theorem dX4_rule_80 : decode cX4_rule 80 = .ok (.getfield 26, 3) := by decide +kernel
theorem dX4_rule_83 : decode cX4_rule 83 = .ok (.invokevirtual 101, 3) := by decide +kernel
theorem dX4_rule_86 : decode cX4_rule 86 = .ok (.ireturn, 1) := by decide +kernel
theorem dX4_rule_87 : decode cX4_rule 87 = .ok (.aload_n 0, 1) := by decide +kernel
theorem dX4_rule_88 : decode cX4_rule 88 = .ok (.getfield 26, 3) := by decide +kernel
theorem dX4_rule_91 : decode cX4_rule 91 = .ok (.aload_n 0, 1) := by decide +kernel
theorem dX4_rule_92 : decode cX4_rule 92 = .ok (.getfield 26, 3) := by decide +kernel
theorem dX4_rule_95 : decode cX4_rule 95 = .ok (.getfield 90, 3) := by decide +kernel
theorem dX4_rule_98 : decode cX4_rule 98 = .ok (.invokevirtual 105, 3) := by decide +kernel
theorem dX4_rule_101 : decode cX4_rule 101 = .ok (.ireturn, 1) := by decide +kernel
theorem dX4_rule_102 : decode cX4_rule 102 = .ok (.aload_n 0, 1) := by decide +kernel
theorem dX4_rule_103 : decode cX4_rule 103 = .ok (.getfield 26, 3) := by decide +kernel
theorem dX4_rule_106 : decode cX4_rule 106 = .ok (.getfield 109, 3) := by decide +kernel
theorem dX4_rule_109 : decode cX4_rule 109 = .ok (.ireturn, 1) := by decide +kernel
theorem dX4_rule_110 : decode cX4_rule 110 = .ok (.iconst (-1), 1) := by decide +kernel
theorem dX4_rule_111 : decode cX4_rule 111 = .ok (.ireturn, 1) := by decide +kernel
theorem dX4_member_0 : decode cX4_member 0 = .ok (.aload_n 0, 1) := by decide +kernel
theorem dX4_member_1 : decode cX4_member 1 = .ok (.iload_n 1, 1) := by decide +kernel
theorem dX4_member_2 : decode cX4_member 2 = .ok (.invokevirtual 112, 3) := by decide +kernel
theorem dX4_member_5 : decode cX4_member 5 = .ok (.ifCond .ne 5, 3) := by decide +kernel
theorem dX4_member_8 : decode cX4_member 8 = .ok (.iconst (-1), 1) := by decide +kernel
theorem dX4_member_9 : decode cX4_member 9 = .ok (.ireturn, 1) := by decide +kernel
theorem dX4_member_10 : decode cX4_member 10 = .ok (.iload_n 2, 1) := by decide +kernel
theorem dX4_member_11 : decode cX4_member 11 = .ok (.tableswitch 77 0 5 #[37, 37, 37, 37, 47, 66], 37) := by decide +kernel
theorem dX4_member_48 : decode cX4_member 48 = .ok (.aload_n 0, 1) := by decide +kernel
theorem dX4_member_49 : decode cX4_member 49 = .ok (.getfield 26, 3) := by decide +kernel
theorem dX4_member_52 : decode cX4_member 52 = .ok (.iload_n 1, 1) := by decide +kernel
theorem dX4_member_53 : decode cX4_member 53 = .ok (.iload_n 2, 1) := by decide +kernel
theorem dX4_member_54 : decode cX4_member 54 = .ok (.invokevirtual 116, 3) := by decide +kernel
theorem dX4_member_57 : decode cX4_member 57 = .ok (.ireturn, 1) := by decide +kernel
theorem dX4_member_58 : decode cX4_member 58 = .ok (.aload_n 0, 1) := by decide +kernel
theorem dX4_member_59 : decode cX4_member 59 = .ok (.getfield 26, 3) := by decide +kernel
theorem dX4_member_62 : decode cX4_member 62 = .ok (.iload_n 1, 1) := by decide +kernel
theorem dX4_member_63 : decode cX4_member 63 = .ok (.aload_n 0, 1) := by decide +kernel
theorem dX4_member_64 : decode cX4_member 64 = .ok (.getfield 26, 3) := by decide +kernel
theorem dX4_member_67 : decode cX4_member 67 = .ok (.getfield 90, 3) := by decide +kernel
theorem dX4_member_70 : decode cX4_member 70 = .ok (.invokevirtual 120, 3) := by decide +kernel
theorem dX4_member_73 : decode cX4_member 73 = .ok (.invokestatic 97, 3) := by decide +kernel
theorem dX4_member_76 : decode cX4_member 76 = .ok (.ireturn, 1) := by decide +kernel
theorem dX4_member_77 : decode cX4_member 77 = .ok (.iconst 2, 1) := by decide +kernel
theorem dX4_member_78 : decode cX4_member 78 = .ok (.aload_n 0, 1) := by decide +kernel
theorem dX4_member_79 : decode cX4_member 79 = .ok (.getfield 26, 3) := by decide +kernel
theorem dX4_member_82 : decode cX4_member 82 = .ok (.iload_n 1, 1) := by decide +kernel
theorem dX4_member_83 : decode cX4_member 83 = .ok (.invokevirtual 123, 3) := by decide +kernel
theorem dX4_member_86 : decode cX4_member 86 = .ok (.iadd, 1) := by decide +kernel
theorem dX4_member_87 : decode cX4_member 87 = .ok (.ireturn, 1) := by decide +kernel
theorem dX4_member_88 : decode cX4_member 88 = .ok (.iconst (-1), 1) := by decide +kernel
theorem dX4_member_89 : decode cX4_member 89 = .ok (.ireturn, 1) := by decide +kernel
theorem dX4_house_0 : decode cX4_house 0 = .ok (.iload_n 1, 1) := by decide +kernel
theorem dX4_house_1 : decode cX4_house 1 = .ok (.iconst 1, 1) := by decide +kernel
theorem dX4_house_2 : decode cX4_house 2 = .ok (.invokestatic 62, 3) := by decide +kernel
theorem dX4_house_5 : decode cX4_house 5 = .ok (.ifCond .ne 5, 3) := by decide +kernel
theorem dX4_house_8 : decode cX4_house 8 = .ok (.iconst (-1), 1) := by decide +kernel
theorem dX4_house_9 : decode cX4_house 9 = .ok (.ireturn, 1) := by decide +kernel
theorem dX4_house_10 : decode cX4_house 10 = .ok (.aload_n 0, 1) := by decide +kernel
theorem dX4_house_11 : decode cX4_house 11 = .ok (.getfield 26, 3) := by decide +kernel
theorem dX4_house_14 : decode cX4_house 14 = .ok (.iload_n 1, 1) := by decide +kernel
theorem dX4_house_15 : decode cX4_house 15 = .ok (.invokevirtual 126, 3) := by decide +kernel
theorem dX4_house_18 : decode cX4_house 18 = .ok (.istore_n 3, 1) := by decide +kernel
theorem dX4_house_19 : decode cX4_house 19 = .ok (.aload_n 0, 1) := by decide +kernel
theorem dX4_house_20 : decode cX4_house 20 = .ok (.getfield 26, 3) := by decide +kernel
theorem dX4_house_23 : decode cX4_house 23 = .ok (.aload_n 0, 1) := by decide +kernel
theorem dX4_house_24 : decode cX4_house 24 = .ok (.getfield 26, 3) := by decide +kernel
theorem dX4_house_27 : decode cX4_house 27 = .ok (.getfield 90, 3) := by decide +kernel
theorem dX4_house_30 : decode cX4_house 30 = .ok (.invokevirtual 105, 3) := by decide +kernel
theorem dX4_house_33 : decode cX4_house 33 = .ok (.istore 4, 2) := by decide +kernel
theorem dX4_house_35 : decode cX4_house 35 = .ok (.iload_n 2, 1) := by decide +kernel
theorem dX4_house_36 : decode cX4_house 36 = .ok (.tableswitch 64 0 3 #[32, 34, 42, 52], 32) := by decide +kernel
theorem dX4_house_68 : decode cX4_house 68 = .ok (.iload_n 3, 1) := by decide +kernel
theorem dX4_house_69 : decode cX4_house 69 = .ok (.ireturn, 1) := by decide +kernel
theorem dX4_house_70 : decode cX4_house 70 = .ok (.iload_n 3, 1) := by decide +kernel
theorem dX4_house_71 : decode cX4_house 71 = .ok (.iload 4, 2) := by decide +kernel
theorem dX4_house_73 : decode cX4_house 73 = .ok (.iand, 1) := by decide +kernel
theorem dX4_house_74 : decode cX4_house 74 = .ok (.invokestatic 129, 3) := by decide +kernel
theorem dX4_house_77 : decode cX4_house 77 = .ok (.ireturn, 1) := by decide +kernel
theorem dX4_house_78 : decode cX4_house 78 = .ok (.iload_n 3, 1) := by decide +kernel
theorem dX4_house_79 : decode cX4_house 79 = .ok (.iload 4, 2) := by decide +kernel
theorem dX4_house_81 : decode cX4_house 81 = .ok (.iconst (-1), 1) := by decide +kernel
theorem dX4_house_82 : decode cX4_house 82 = .ok (.ixor, 1) := by decide +kernel
theorem dX4_house_83 : decode cX4_house 83 = .ok (.iand, 1) := by decide +kernel
theorem dX4_house_84 : decode cX4_house 84 = .ok (.invokestatic 129, 3) := by decide +kernel
theorem dX4_house_87 : decode cX4_house 87 = .ok (.ireturn, 1) := by decide +kernel
theorem dX4_house_88 : decode cX4_house 88 = .ok (.bipush 20, 2) := by decide +kernel
theorem dX4_house_90 : decode cX4_house 90 = .ok (.aload_n 0, 1) := by decide +kernel
theorem dX4_house_91 : decode cX4_house 91 = .ok (.getfield 26, 3) := by decide +kernel
theorem dX4_house_94 : decode cX4_house 94 = .ok (.iload_n 1, 1) := by decide +kernel
theorem dX4_house_95 : decode cX4_house 95 = .ok (.invokevirtual 134, 3) := by decide +kernel
theorem dX4_house_98 : decode cX4_house 98 = .ok (.iadd, 1) := by decide +kernel
theorem dX4_house_99 : decode cX4_house 99 = .ok (.ireturn, 1) := by decide +kernel
theorem dX4_house_100 : decode cX4_house 100 = .ok (.iconst (-1), 1) := by decide +kernel
theorem dX4_house_101 : decode cX4_house 101 = .ok (.ireturn, 1) := by decide +kernel
theorem dX4_alter_0 : decode cX4_alter 0 = .ok (.aload_n 0, 1) := by decide +kernel
theorem dX4_alter_1 : decode cX4_alter 1 = .ok (.iload_n 1, 1) := by decide +kernel
theorem dX4_alter_2 : decode cX4_alter 2 = .ok (.iload_n 2, 1) := by decide +kernel
theorem dX4_alter_3 : decode cX4_alter 3 = .ok (.iload_n 3, 1) := by decide +kernel
theorem dX4_alter_4 : decode cX4_alter 4 = .ok (.invokevirtual 137, 3) := by decide +kernel
theorem dX4_alter_7 : decode cX4_alter 7 = .ok (.ifCond .ne 5, 3) := by decide +kernel
theorem dX4_alter_10 : decode cX4_alter 10 = .ok (.iconst (-1), 1) := by decide +kernel
theorem dX4_alter_11 : decode cX4_alter 11 = .ok (.ireturn, 1) := by decide +kernel
theorem dX4_alter_12 : decode cX4_alter 12 = .ok (.aload_n 0, 1) := by decide +kernel
theorem dX4_alter_13 : decode cX4_alter 13 = .ok (.getfield 26, 3) := by decide +kernel
theorem dX4_alter_16 : decode cX4_alter 16 = .ok (.iload_n 1, 1) := by decide +kernel
theorem dX4_alter_17 : decode cX4_alter 17 = .ok (.iload_n 2, 1) := by decide +kernel
theorem dX4_alter_18 : decode cX4_alter 18 = .ok (.invokevirtual 116, 3) := by decide +kernel
theorem dX4_alter_21 : decode cX4_alter 21 = .ok (.istore 4, 2) := by decide +kernel
theorem dX4_alter_23 : decode cX4_alter 23 = .ok (.aload_n 0, 1) := by decide +kernel
theorem dX4_alter_24 : decode cX4_alter 24 = .ok (.getfield 26, 3) := by decide +kernel
theorem dX4_alter_27 : decode cX4_alter 27 = .ok (.iload_n 1, 1) := by decide +kernel
theorem dX4_alter_28 : decode cX4_alter 28 = .ok (.iload_n 2, 1) := by decide +kernel
theorem dX4_alter_29 : decode cX4_alter 29 = .ok (.iload_n 3, 1) := by decide +kernel
theorem dX4_alter_30 : decode cX4_alter 30 = .ok (.invokevirtual 141, 3) := by decide +kernel
theorem dX4_alter_33 : decode cX4_alter 33 = .ok (.iload 4, 2) := by decide +kernel
theorem dX4_alter_35 : decode cX4_alter 35 = .ok (.ireturn, 1) := by decide +kernel
theorem dX4_word_0 : decode cX4_word 0 = .ok (.iload_n 1, 1) := by decide +kernel
theorem dX4_word_1 : decode cX4_word 1 = .ok (.bipush 20, 2) := by decide +kernel
theorem dX4_word_3 : decode cX4_word 3 = .ok (.invokestatic 62, 3) := by decide +kernel
theorem dX4_word_6 : decode cX4_word 6 = .ok (.ifCond .ne 5, 3) := by decide +kernel
theorem dX4_word_9 : decode cX4_word 9 = .ok (.iconst (-1), 1) := by decide +kernel
theorem dX4_word_10 : decode cX4_word 10 = .ok (.ireturn, 1) := by decide +kernel
theorem dX4_word_11 : decode cX4_word 11 = .ok (.aload_n 0, 1) := by decide +kernel
theorem dX4_word_12 : decode cX4_word 12 = .ok (.getfield 26, 3) := by decide +kernel
theorem dX4_word_15 : decode cX4_word 15 = .ok (.getfield 90, 3) := by decide +kernel
theorem dX4_word_18 : decode cX4_word 18 = .ok (.istore_n 2, 1) := by decide +kernel
theorem dX4_word_19 : decode cX4_word 19 = .ok (.aload_n 0, 1) := by decide +kernel
theorem dX4_word_20 : decode cX4_word 20 = .ok (.getfield 26, 3) := by decide +kernel
theorem dX4_word_23 : decode cX4_word 23 = .ok (.iload_n 1, 1) := by decide +kernel
theorem dX4_word_24 : decode cX4_word 24 = .ok (.putfield 90, 3) := by decide +kernel
theorem dX4_word_27 : decode cX4_word 27 = .ok (.iload_n 2, 1) := by decide +kernel
theorem dX4_word_28 : decode cX4_word 28 = .ok (.ireturn, 1) := by decide +kernel
theorem dX4_seat_0 : decode cX4_seat 0 = .ok (.iload_n 1, 1) := by decide +kernel
theorem dX4_seat_1 : decode cX4_seat 1 = .ok (.iconst 1, 1) := by decide +kernel
theorem dX4_seat_2 : decode cX4_seat 2 = .ok (.invokestatic 62, 3) := by decide +kernel
theorem dX4_seat_5 : decode cX4_seat 5 = .ok (.ifCond .eq 12, 3) := by decide +kernel
theorem dX4_seat_8 : decode cX4_seat 8 = .ok (.iload_n 2, 1) := by decide +kernel
theorem dX4_seat_9 : decode cX4_seat 9 = .ok (.bipush 20, 2) := by decide +kernel
theorem dX4_seat_11 : decode cX4_seat 11 = .ok (.invokestatic 62, 3) := by decide +kernel
theorem dX4_seat_14 : decode cX4_seat 14 = .ok (.ifCond .ne 5, 3) := by decide +kernel
theorem dX4_seat_17 : decode cX4_seat 17 = .ok (.iconst (-1), 1) := by decide +kernel
theorem dX4_seat_18 : decode cX4_seat 18 = .ok (.ireturn, 1) := by decide +kernel
theorem dX4_seat_19 : decode cX4_seat 19 = .ok (.aload_n 0, 1) := by decide +kernel
theorem dX4_seat_20 : decode cX4_seat 20 = .ok (.getfield 26, 3) := by decide +kernel
theorem dX4_seat_23 : decode cX4_seat 23 = .ok (.getfield 84, 3) := by decide +kernel
theorem dX4_seat_26 : decode cX4_seat 26 = .ok (.bipush 6, 2) := by decide +kernel
theorem dX4_seat_28 : decode cX4_seat 28 = .ok (.if_icmp .lt 6, 3) := by decide +kernel
theorem dX4_seat_31 : decode cX4_seat 31 = .ok (.bipush (-3), 2) := by decide +kernel
theorem dX4_seat_33 : decode cX4_seat 33 = .ok (.ireturn, 1) := by decide +kernel
theorem dX4_seat_34 : decode cX4_seat 34 = .ok (.aload_n 0, 1) := by decide +kernel
theorem dX4_seat_35 : decode cX4_seat 35 = .ok (.getfield 26, 3) := by decide +kernel
theorem dX4_seat_38 : decode cX4_seat 38 = .ok (.iconst 0, 1) := by decide +kernel
theorem dX4_seat_39 : decode cX4_seat 39 = .ok (.invokevirtual 145, 3) := by decide +kernel
theorem dX4_seat_42 : decode cX4_seat 42 = .ok (.istore_n 3, 1) := by decide +kernel
theorem dX4_seat_43 : decode cX4_seat 43 = .ok (.aload_n 0, 1) := by decide +kernel
theorem dX4_seat_44 : decode cX4_seat 44 = .ok (.getfield 26, 3) := by decide +kernel
theorem dX4_seat_47 : decode cX4_seat 47 = .ok (.iload_n 3, 1) := by decide +kernel
theorem dX4_seat_48 : decode cX4_seat 48 = .ok (.iconst 1, 1) := by decide +kernel
theorem dX4_seat_49 : decode cX4_seat 49 = .ok (.iload_n 1, 1) := by decide +kernel
theorem dX4_seat_50 : decode cX4_seat 50 = .ok (.invokevirtual 141, 3) := by decide +kernel
theorem dX4_seat_53 : decode cX4_seat 53 = .ok (.aload_n 0, 1) := by decide +kernel
theorem dX4_seat_54 : decode cX4_seat 54 = .ok (.getfield 26, 3) := by decide +kernel
theorem dX4_seat_57 : decode cX4_seat 57 = .ok (.iload_n 3, 1) := by decide +kernel
theorem dX4_seat_58 : decode cX4_seat 58 = .ok (.iconst 2, 1) := by decide +kernel
theorem dX4_seat_59 : decode cX4_seat 59 = .ok (.iload_n 2, 1) := by decide +kernel
theorem dX4_seat_60 : decode cX4_seat 60 = .ok (.invokevirtual 141, 3) := by decide +kernel
theorem dX4_seat_63 : decode cX4_seat 63 = .ok (.aload_n 0, 1) := by decide +kernel
theorem dX4_seat_64 : decode cX4_seat 64 = .ok (.getfield 26, 3) := by decide +kernel
theorem dX4_seat_67 : decode cX4_seat 67 = .ok (.getfield 84, 3) := by decide +kernel
theorem dX4_seat_70 : decode cX4_seat 70 = .ok (.ireturn, 1) := by decide +kernel
theorem dX4_clear_0 : decode cX4_clear 0 = .ok (.iload_n 1, 1) := by decide +kernel
theorem dX4_clear_1 : decode cX4_clear 1 = .ok (.aload_n 0, 1) := by decide +kernel
theorem dX4_clear_2 : decode cX4_clear 2 = .ok (.getfield 26, 3) := by decide +kernel
theorem dX4_clear_5 : decode cX4_clear 5 = .ok (.getfield 84, 3) := by decide +kernel
theorem dX4_clear_8 : decode cX4_clear 8 = .ok (.invokestatic 62, 3) := by decide +kernel
theorem dX4_clear_11 : decode cX4_clear 11 = .ok (.ifCond .ne 5, 3) := by decide +kernel
theorem dX4_clear_14 : decode cX4_clear 14 = .ok (.iconst (-1), 1) := by decide +kernel
theorem dX4_clear_15 : decode cX4_clear 15 = .ok (.ireturn, 1) := by decide +kernel
theorem dX4_clear_16 : decode cX4_clear 16 = .ok (.aload_n 0, 1) := by decide +kernel
theorem dX4_clear_17 : decode cX4_clear 17 = .ok (.getfield 26, 3) := by decide +kernel
theorem dX4_clear_20 : decode cX4_clear 20 = .ok (.getfield 84, 3) := by decide +kernel
theorem dX4_clear_23 : decode cX4_clear 23 = .ok (.istore_n 2, 1) := by decide +kernel
theorem dX4_clear_24 : decode cX4_clear 24 = .ok (.aload_n 0, 1) := by decide +kernel
theorem dX4_clear_25 : decode cX4_clear 25 = .ok (.getfield 26, 3) := by decide +kernel
theorem dX4_clear_28 : decode cX4_clear 28 = .ok (.iload_n 1, 1) := by decide +kernel
theorem dX4_clear_29 : decode cX4_clear 29 = .ok (.putfield 84, 3) := by decide +kernel
theorem dX4_clear_32 : decode cX4_clear 32 = .ok (.iload_n 2, 1) := by decide +kernel
theorem dX4_clear_33 : decode cX4_clear 33 = .ok (.ireturn, 1) := by decide +kernel
theorem dX4_days_0 : decode cX4_days 0 = .ok (.iload_n 1, 1) := by decide +kernel
theorem dX4_days_1 : decode cX4_days 1 = .ok (.bipush 30, 2) := by decide +kernel
theorem dX4_days_3 : decode cX4_days 3 = .ok (.invokestatic 62, 3) := by decide +kernel
theorem dX4_days_6 : decode cX4_days 6 = .ok (.ifCond .ne 5, 3) := by decide +kernel
theorem dX4_days_9 : decode cX4_days 9 = .ok (.iconst (-1), 1) := by decide +kernel
theorem dX4_days_10 : decode cX4_days 10 = .ok (.ireturn, 1) := by decide +kernel
theorem dX4_days_11 : decode cX4_days 11 = .ok (.aload_n 0, 1) := by decide +kernel
theorem dX4_days_12 : decode cX4_days 12 = .ok (.getfield 26, 3) := by decide +kernel
theorem dX4_days_15 : decode cX4_days 15 = .ok (.getfield 87, 3) := by decide +kernel
theorem dX4_days_18 : decode cX4_days 18 = .ok (.iload_n 1, 1) := by decide +kernel
theorem dX4_days_19 : decode cX4_days 19 = .ok (.iadd, 1) := by decide +kernel
theorem dX4_days_20 : decode cX4_days 20 = .ok (.sipush 999, 3) := by decide +kernel
theorem dX4_days_23 : decode cX4_days 23 = .ok (.if_icmp .le 6, 3) := by decide +kernel
theorem dX4_days_26 : decode cX4_days 26 = .ok (.bipush (-3), 2) := by decide +kernel
theorem dX4_days_28 : decode cX4_days 28 = .ok (.ireturn, 1) := by decide +kernel
theorem dX4_days_29 : decode cX4_days 29 = .ok (.aload_n 0, 1) := by decide +kernel
theorem dX4_days_30 : decode cX4_days 30 = .ok (.getfield 26, 3) := by decide +kernel
theorem dX4_days_33 : decode cX4_days 33 = .ok (.iload_n 1, 1) := by decide +kernel
theorem dX4_days_34 : decode cX4_days 34 = .ok (.invokevirtual 148, 3) := by decide +kernel
theorem dX4_days_37 : decode cX4_days 37 = .ok (.ireturn, 1) := by decide +kernel
theorem dX4_runs_0 : decode cX4_runs 0 = .ok (.iload_n 1, 1) := by decide +kernel
theorem dX4_runs_1 : decode cX4_runs 1 = .ok (.bipush 60, 2) := by decide +kernel
theorem dX4_runs_3 : decode cX4_runs 3 = .ok (.invokestatic 62, 3) := by decide +kernel
theorem dX4_runs_6 : decode cX4_runs 6 = .ok (.ifCond .eq 11, 3) := by decide +kernel
theorem dX4_runs_9 : decode cX4_runs 9 = .ok (.iload_n 2, 1) := by decide +kernel
theorem dX4_runs_10 : decode cX4_runs 10 = .ok (.iconst 4, 1) := by decide +kernel
theorem dX4_runs_11 : decode cX4_runs 11 = .ok (.invokestatic 62, 3) := by decide +kernel
theorem dX4_runs_14 : decode cX4_runs 14 = .ok (.ifCond .ne 5, 3) := by decide +kernel
theorem dX4_runs_17 : decode cX4_runs 17 = .ok (.iconst (-1), 1) := by decide +kernel
theorem dX4_runs_18 : decode cX4_runs 18 = .ok (.ireturn, 1) := by decide +kernel
theorem dX4_runs_19 : decode cX4_runs 19 = .ok (.aload_n 0, 1) := by decide +kernel
theorem dX4_runs_20 : decode cX4_runs 20 = .ok (.getfield 30, 3) := by decide +kernel
theorem dX4_runs_23 : decode cX4_runs 23 = .ok (.aload_n 0, 1) := by decide +kernel
theorem dX4_runs_24 : decode cX4_runs 24 = .ok (.getfield 26, 3) := by decide +kernel
theorem dX4_runs_27 : decode cX4_runs 27 = .ok (.invokevirtual 80, 3) := by decide +kernel
theorem dX4_runs_30 : decode cX4_runs 30 = .ok (.aload_n 0, 1) := by decide +kernel
theorem dX4_runs_31 : decode cX4_runs 31 = .ok (.getfield 30, 3) := by decide +kernel
theorem dX4_runs_34 : decode cX4_runs 34 = .ok (.iload_n 1, 1) := by decide +kernel
theorem dX4_runs_35 : decode cX4_runs 35 = .ok (.invokevirtual 148, 3) := by decide +kernel
theorem dX4_runs_38 : decode cX4_runs 38 = .ok (.istore_n 3, 1) := by decide +kernel
theorem dX4_runs_39 : decode cX4_runs 39 = .ok (.iload_n 2, 1) := by decide +kernel
theorem dX4_runs_40 : decode cX4_runs 40 = .ok (.tableswitch 62 0 3 #[32, 40, 42, 53], 32) := by decide +kernel
theorem dX4_runs_72 : decode cX4_runs 72 = .ok (.aload_n 0, 1) := by decide +kernel
theorem dX4_runs_73 : decode cX4_runs 73 = .ok (.getfield 30, 3) := by decide +kernel
theorem dX4_runs_76 : decode cX4_runs 76 = .ok (.getfield 90, 3) := by decide +kernel
theorem dX4_runs_79 : decode cX4_runs 79 = .ok (.ireturn, 1) := by decide +kernel
theorem dX4_runs_80 : decode cX4_runs 80 = .ok (.iload_n 3, 1) := by decide +kernel
theorem dX4_runs_81 : decode cX4_runs 81 = .ok (.ireturn, 1) := by decide +kernel
theorem dX4_runs_82 : decode cX4_runs 82 = .ok (.aload_n 0, 1) := by decide +kernel
theorem dX4_runs_83 : decode cX4_runs 83 = .ok (.getfield 30, 3) := by decide +kernel
theorem dX4_runs_86 : decode cX4_runs 86 = .ok (.invokevirtual 93, 3) := by decide +kernel
theorem dX4_runs_89 : decode cX4_runs 89 = .ok (.invokestatic 97, 3) := by decide +kernel
theorem dX4_runs_92 : decode cX4_runs 92 = .ok (.ireturn, 1) := by decide +kernel
theorem dX4_runs_93 : decode cX4_runs 93 = .ok (.aload_n 0, 1) := by decide +kernel
theorem dX4_runs_94 : decode cX4_runs 94 = .ok (.getfield 30, 3) := by decide +kernel
theorem dX4_runs_97 : decode cX4_runs 97 = .ok (.iconst 3, 1) := by decide +kernel
theorem dX4_runs_98 : decode cX4_runs 98 = .ok (.invokevirtual 151, 3) := by decide +kernel
theorem dX4_runs_101 : decode cX4_runs 101 = .ok (.ireturn, 1) := by decide +kernel
theorem dX4_runs_102 : decode cX4_runs 102 = .ok (.aload_n 0, 1) := by decide +kernel
theorem dX4_runs_103 : decode cX4_runs 103 = .ok (.getfield 30, 3) := by decide +kernel
theorem dX4_runs_106 : decode cX4_runs 106 = .ok (.invokevirtual 101, 3) := by decide +kernel
theorem dX4_runs_109 : decode cX4_runs 109 = .ok (.ireturn, 1) := by decide +kernel
theorem dX4_ahead_0 : decode cX4_ahead 0 = .ok (.aload_n 0, 1) := by decide +kernel
theorem dX4_ahead_1 : decode cX4_ahead 1 = .ok (.iload_n 1, 1) := by decide +kernel
theorem dX4_ahead_2 : decode cX4_ahead 2 = .ok (.invokevirtual 112, 3) := by decide +kernel
theorem dX4_ahead_5 : decode cX4_ahead 5 = .ok (.ifCond .eq 12, 3) := by decide +kernel
theorem dX4_ahead_8 : decode cX4_ahead 8 = .ok (.iload_n 2, 1) := by decide +kernel
theorem dX4_ahead_9 : decode cX4_ahead 9 = .ok (.bipush 60, 2) := by decide +kernel
theorem dX4_ahead_11 : decode cX4_ahead 11 = .ok (.invokestatic 62, 3) := by decide +kernel
theorem dX4_ahead_14 : decode cX4_ahead 14 = .ok (.ifCond .ne 5, 3) := by decide +kernel
theorem dX4_ahead_17 : decode cX4_ahead 17 = .ok (.iconst (-1), 1) := by decide +kernel
theorem dX4_ahead_18 : decode cX4_ahead 18 = .ok (.ireturn, 1) := by decide +kernel
theorem dX4_ahead_19 : decode cX4_ahead 19 = .ok (.aload_n 0, 1) := by decide +kernel
theorem dX4_ahead_20 : decode cX4_ahead 20 = .ok (.getfield 30, 3) := by decide +kernel
theorem dX4_ahead_23 : decode cX4_ahead 23 = .ok (.aload_n 0, 1) := by decide +kernel
theorem dX4_ahead_24 : decode cX4_ahead 24 = .ok (.getfield 26, 3) := by decide +kernel
theorem dX4_ahead_27 : decode cX4_ahead 27 = .ok (.invokevirtual 80, 3) := by decide +kernel
theorem dX4_ahead_30 : decode cX4_ahead 30 = .ok (.aload_n 0, 1) := by decide +kernel
theorem dX4_ahead_31 : decode cX4_ahead 31 = .ok (.getfield 30, 3) := by decide +kernel
theorem dX4_ahead_34 : decode cX4_ahead 34 = .ok (.iload_n 2, 1) := by decide +kernel
theorem dX4_ahead_35 : decode cX4_ahead 35 = .ok (.invokevirtual 148, 3) := by decide +kernel
theorem dX4_ahead_38 : decode cX4_ahead 38 = .ok (.pop, 1) := by decide +kernel
theorem dX4_ahead_39 : decode cX4_ahead 39 = .ok (.aload_n 0, 1) := by decide +kernel
theorem dX4_ahead_40 : decode cX4_ahead 40 = .ok (.getfield 30, 3) := by decide +kernel
theorem dX4_ahead_43 : decode cX4_ahead 43 = .ok (.iload_n 1, 1) := by decide +kernel
theorem dX4_ahead_44 : decode cX4_ahead 44 = .ok (.iconst 3, 1) := by decide +kernel
theorem dX4_ahead_45 : decode cX4_ahead 45 = .ok (.invokevirtual 116, 3) := by decide +kernel
theorem dX4_ahead_48 : decode cX4_ahead 48 = .ok (.ireturn, 1) := by decide +kernel
theorem dX4_carries_0 : decode cX4_carries 0 = .ok (.aload_n 0, 1) := by decide +kernel
theorem dX4_carries_1 : decode cX4_carries 1 = .ok (.getfield 30, 3) := by decide +kernel
theorem dX4_carries_4 : decode cX4_carries 4 = .ok (.aload_n 0, 1) := by decide +kernel
theorem dX4_carries_5 : decode cX4_carries 5 = .ok (.getfield 26, 3) := by decide +kernel
theorem dX4_carries_8 : decode cX4_carries 8 = .ok (.invokevirtual 80, 3) := by decide +kernel
theorem dX4_carries_11 : decode cX4_carries 11 = .ok (.aload_n 0, 1) := by decide +kernel
theorem dX4_carries_12 : decode cX4_carries 12 = .ok (.getfield 30, 3) := by decide +kernel
theorem dX4_carries_15 : decode cX4_carries 15 = .ok (.invokevirtual 154, 3) := by decide +kernel
theorem dX4_carries_18 : decode cX4_carries 18 = .ok (.istore_n 1, 1) := by decide +kernel
theorem dX4_carries_19 : decode cX4_carries 19 = .ok (.iload_n 1, 1) := by decide +kernel
theorem dX4_carries_20 : decode cX4_carries 20 = .ok (.bipush 60, 2) := by decide +kernel
theorem dX4_carries_22 : decode cX4_carries 22 = .ok (.if_icmp .le 8, 3) := by decide +kernel
theorem dX4_carries_25 : decode cX4_carries 25 = .ok (.bipush (-4), 2) := by decide +kernel
theorem dX4_carries_27 : decode cX4_carries 27 = .ok (.goto 4, 3) := by decide +kernel
theorem dX4_carries_30 : decode cX4_carries 30 = .ok (.iload_n 1, 1) := by decide +kernel
theorem dX4_carries_31 : decode cX4_carries 31 = .ok (.ireturn, 1) := by decide +kernel
theorem dX4_wording_0 : decode cX4_wording 0 = .ok (.iload_n 1, 1) := by decide +kernel
theorem dX4_wording_1 : decode cX4_wording 1 = .ok (.iconst 1, 1) := by decide +kernel
theorem dX4_wording_2 : decode cX4_wording 2 = .ok (.invokestatic 62, 3) := by decide +kernel
theorem dX4_wording_5 : decode cX4_wording 5 = .ok (.ifCond .ne 5, 3) := by decide +kernel
theorem dX4_wording_8 : decode cX4_wording 8 = .ok (.iconst (-1), 1) := by decide +kernel
theorem dX4_wording_9 : decode cX4_wording 9 = .ok (.ireturn, 1) := by decide +kernel
theorem dX4_wording_10 : decode cX4_wording 10 = .ok (.aload_n 0, 1) := by decide +kernel
theorem dX4_wording_11 : decode cX4_wording 11 = .ok (.iconst 0, 1) := by decide +kernel
theorem dX4_wording_12 : decode cX4_wording 12 = .ok (.iconst 4, 1) := by decide +kernel
theorem dX4_wording_13 : decode cX4_wording 13 = .ok (.iload_n 1, 1) := by decide +kernel
theorem dX4_wording_14 : decode cX4_wording 14 = .ok (.invokevirtual 157, 3) := by decide +kernel
theorem dX4_wording_17 : decode cX4_wording 17 = .ok (.ireturn, 1) := by decide +kernel
theorem dX4_middle_0 : decode cX4_middle 0 = .ok (.iload_n 1, 1) := by decide +kernel
theorem dX4_middle_1 : decode cX4_middle 1 = .ok (.iconst 1, 1) := by decide +kernel
theorem dX4_middle_2 : decode cX4_middle 2 = .ok (.invokestatic 62, 3) := by decide +kernel
theorem dX4_middle_5 : decode cX4_middle 5 = .ok (.ifCond .ne 5, 3) := by decide +kernel
theorem dX4_middle_8 : decode cX4_middle 8 = .ok (.iconst (-1), 1) := by decide +kernel
theorem dX4_middle_9 : decode cX4_middle 9 = .ok (.ireturn, 1) := by decide +kernel
theorem dX4_middle_10 : decode cX4_middle 10 = .ok (.iconst (-1), 1) := by decide +kernel
theorem dX4_middle_11 : decode cX4_middle 11 = .ok (.istore_n 2, 1) := by decide +kernel
theorem dX4_middle_12 : decode cX4_middle 12 = .ok (.iconst 0, 1) := by decide +kernel
theorem dX4_middle_13 : decode cX4_middle 13 = .ok (.istore_n 3, 1) := by decide +kernel
theorem dX4_middle_14 : decode cX4_middle 14 = .ok (.iconst 0, 1) := by decide +kernel
theorem dX4_middle_15 : decode cX4_middle 15 = .ok (.istore 4, 2) := by decide +kernel
theorem dX4_middle_17 : decode cX4_middle 17 = .ok (.iload 4, 2) := by decide +kernel
theorem dX4_middle_19 : decode cX4_middle 19 = .ok (.bipush 20, 2) := by decide +kernel
theorem dX4_middle_21 : decode cX4_middle 21 = .ok (.if_icmp .gt 35, 3) := by decide +kernel
theorem dX4_middle_24 : decode cX4_middle 24 = .ok (.aload_n 0, 1) := by decide +kernel
theorem dX4_middle_25 : decode cX4_middle 25 = .ok (.getfield 26, 3) := by decide +kernel
theorem dX4_middle_28 : decode cX4_middle 28 = .ok (.iload 4, 2) := by decide +kernel
theorem dX4_middle_30 : decode cX4_middle 30 = .ok (.invokevirtual 105, 3) := by decide +kernel
theorem dX4_middle_33 : decode cX4_middle 33 = .ok (.invokestatic 129, 3) := by decide +kernel
theorem dX4_middle_36 : decode cX4_middle 36 = .ok (.istore 5, 2) := by decide +kernel
theorem dX4_middle_38 : decode cX4_middle 38 = .ok (.iload 5, 2) := by decide +kernel
theorem dX4_middle_40 : decode cX4_middle 40 = .ok (.iload_n 2, 1) := by decide +kernel
theorem dX4_middle_41 : decode cX4_middle 41 = .ok (.if_icmp .le 9, 3) := by decide +kernel
theorem dX4_middle_44 : decode cX4_middle 44 = .ok (.iload 5, 2) := by decide +kernel
theorem dX4_middle_46 : decode cX4_middle 46 = .ok (.istore_n 2, 1) := by decide +kernel
theorem dX4_middle_47 : decode cX4_middle 47 = .ok (.iload 4, 2) := by decide +kernel
theorem dX4_middle_49 : decode cX4_middle 49 = .ok (.istore_n 3, 1) := by decide +kernel
theorem dX4_middle_50 : decode cX4_middle 50 = .ok (.iinc 4 1, 3) := by decide +kernel
theorem dX4_middle_53 : decode cX4_middle 53 = .ok (.goto (-36), 3) := by decide +kernel
theorem dX4_middle_56 : decode cX4_middle 56 = .ok (.iload_n 1, 1) := by decide +kernel
theorem dX4_middle_57 : decode cX4_middle 57 = .ok (.ifCond .ne 7, 3) := by decide +kernel
theorem dX4_middle_60 : decode cX4_middle 60 = .ok (.iload_n 3, 1) := by decide +kernel
theorem dX4_middle_61 : decode cX4_middle 61 = .ok (.goto 4, 3) := by decide +kernel
theorem dX4_middle_64 : decode cX4_middle 64 = .ok (.iload_n 2, 1) := by decide +kernel
theorem dX4_middle_65 : decode cX4_middle 65 = .ok (.ireturn, 1) := by decide +kernel
theorem dX4_swing_0 : decode cX4_swing 0 = .ok (.aload_n 0, 1) := by decide +kernel
theorem dX4_swing_1 : decode cX4_swing 1 = .ok (.iload_n 1, 1) := by decide +kernel
theorem dX4_swing_2 : decode cX4_swing 2 = .ok (.invokevirtual 112, 3) := by decide +kernel
theorem dX4_swing_5 : decode cX4_swing 5 = .ok (.ifCond .ne 5, 3) := by decide +kernel
theorem dX4_swing_8 : decode cX4_swing 8 = .ok (.iconst (-1), 1) := by decide +kernel
theorem dX4_swing_9 : decode cX4_swing 9 = .ok (.ireturn, 1) := by decide +kernel
theorem dX4_swing_10 : decode cX4_swing 10 = .ok (.aload_n 0, 1) := by decide +kernel
theorem dX4_swing_11 : decode cX4_swing 11 = .ok (.getfield 26, 3) := by decide +kernel
theorem dX4_swing_14 : decode cX4_swing 14 = .ok (.aload_n 0, 1) := by decide +kernel
theorem dX4_swing_15 : decode cX4_swing 15 = .ok (.getfield 26, 3) := by decide +kernel
theorem dX4_swing_18 : decode cX4_swing 18 = .ok (.iload_n 1, 1) := by decide +kernel
theorem dX4_swing_19 : decode cX4_swing 19 = .ok (.iconst 1, 1) := by decide +kernel
theorem dX4_swing_20 : decode cX4_swing 20 = .ok (.invokevirtual 116, 3) := by decide +kernel
theorem dX4_swing_23 : decode cX4_swing 23 = .ok (.invokevirtual 126, 3) := by decide +kernel
theorem dX4_swing_26 : decode cX4_swing 26 = .ok (.iconst 1, 1) := by decide +kernel
theorem dX4_swing_27 : decode cX4_swing 27 = .ok (.iload_n 1, 1) := by decide +kernel
theorem dX4_swing_28 : decode cX4_swing 28 = .ok (.ishl, 1) := by decide +kernel
theorem dX4_swing_29 : decode cX4_swing 29 = .ok (.iconst (-1), 1) := by decide +kernel
theorem dX4_swing_30 : decode cX4_swing 30 = .ok (.ixor, 1) := by decide +kernel
theorem dX4_swing_31 : decode cX4_swing 31 = .ok (.iand, 1) := by decide +kernel
theorem dX4_swing_32 : decode cX4_swing 32 = .ok (.istore_n 2, 1) := by decide +kernel
theorem dX4_swing_33 : decode cX4_swing 33 = .ok (.iconst 0, 1) := by decide +kernel
theorem dX4_swing_34 : decode cX4_swing 34 = .ok (.istore_n 3, 1) := by decide +kernel
theorem dX4_swing_35 : decode cX4_swing 35 = .ok (.iconst 0, 1) := by decide +kernel
theorem dX4_swing_36 : decode cX4_swing 36 = .ok (.istore 4, 2) := by decide +kernel
theorem dX4_swing_38 : decode cX4_swing 38 = .ok (.iload 4, 2) := by decide +kernel
theorem dX4_swing_40 : decode cX4_swing 40 = .ok (.bipush 20, 2) := by decide +kernel
theorem dX4_swing_42 : decode cX4_swing 42 = .ok (.if_icmp .gt 61, 3) := by decide +kernel
theorem dX4_swing_45 : decode cX4_swing 45 = .ok (.aload_n 0, 1) := by decide +kernel
theorem dX4_swing_46 : decode cX4_swing 46 = .ok (.getfield 26, 3) := by decide +kernel
theorem dX4_swing_49 : decode cX4_swing 49 = .ok (.iload 4, 2) := by decide +kernel
theorem dX4_swing_51 : decode cX4_swing 51 = .ok (.invokevirtual 105, 3) := by decide +kernel
theorem dX4_swing_54 : decode cX4_swing 54 = .ok (.istore 5, 2) := by decide +kernel
theorem dX4_swing_56 : decode cX4_swing 56 = .ok (.iload_n 2, 1) := by decide +kernel
theorem dX4_swing_57 : decode cX4_swing 57 = .ok (.iload 5, 2) := by decide +kernel
theorem dX4_swing_59 : decode cX4_swing 59 = .ok (.iand, 1) := by decide +kernel
theorem dX4_swing_60 : decode cX4_swing 60 = .ok (.invokestatic 129, 3) := by decide +kernel
theorem dX4_swing_63 : decode cX4_swing 63 = .ok (.istore 6, 2) := by decide +kernel
theorem dX4_swing_65 : decode cX4_swing 65 = .ok (.iload_n 2, 1) := by decide +kernel
theorem dX4_swing_66 : decode cX4_swing 66 = .ok (.iload 5, 2) := by decide +kernel
theorem dX4_swing_68 : decode cX4_swing 68 = .ok (.iconst (-1), 1) := by decide +kernel
theorem dX4_swing_69 : decode cX4_swing 69 = .ok (.ixor, 1) := by decide +kernel
theorem dX4_swing_70 : decode cX4_swing 70 = .ok (.iand, 1) := by decide +kernel
theorem dX4_swing_71 : decode cX4_swing 71 = .ok (.invokestatic 129, 3) := by decide +kernel
theorem dX4_swing_74 : decode cX4_swing 74 = .ok (.istore 7, 2) := by decide +kernel
theorem dX4_swing_76 : decode cX4_swing 76 = .ok (.iload 6, 2) := by decide +kernel
theorem dX4_swing_78 : decode cX4_swing 78 = .ok (.iconst 1, 1) := by decide +kernel
theorem dX4_swing_79 : decode cX4_swing 79 = .ok (.iadd, 1) := by decide +kernel
theorem dX4_swing_80 : decode cX4_swing 80 = .ok (.iload 7, 2) := by decide +kernel
theorem dX4_swing_82 : decode cX4_swing 82 = .ok (.if_icmp .le 15, 3) := by decide +kernel
theorem dX4_swing_85 : decode cX4_swing 85 = .ok (.iload 6, 2) := by decide +kernel
theorem dX4_swing_87 : decode cX4_swing 87 = .ok (.iload 7, 2) := by decide +kernel
theorem dX4_swing_89 : decode cX4_swing 89 = .ok (.iconst 1, 1) := by decide +kernel
theorem dX4_swing_90 : decode cX4_swing 90 = .ok (.iadd, 1) := by decide +kernel
theorem dX4_swing_91 : decode cX4_swing 91 = .ok (.if_icmp .gt 6, 3) := by decide +kernel
theorem dX4_swing_94 : decode cX4_swing 94 = .ok (.iinc 3 1, 3) := by decide +kernel
theorem dX4_swing_97 : decode cX4_swing 97 = .ok (.iinc 4 1, 3) := by decide +kernel
theorem dX4_swing_100 : decode cX4_swing 100 = .ok (.goto (-62), 3) := by decide +kernel
theorem dX4_swing_103 : decode cX4_swing 103 = .ok (.iload_n 3, 1) := by decide +kernel
theorem dX4_swing_104 : decode cX4_swing 104 = .ok (.ireturn, 1) := by decide +kernel
theorem dX4_lose_0 : decode cX4_lose 0 = .ok (.iload_n 1, 1) := by decide +kernel
theorem dX4_lose_1 : decode cX4_lose 1 = .ok (.iconst 1, 1) := by decide +kernel
theorem dX4_lose_2 : decode cX4_lose 2 = .ok (.invokestatic 62, 3) := by decide +kernel
theorem dX4_lose_5 : decode cX4_lose 5 = .ok (.ifCond .ne 5, 3) := by decide +kernel
theorem dX4_lose_8 : decode cX4_lose 8 = .ok (.iconst (-1), 1) := by decide +kernel
theorem dX4_lose_9 : decode cX4_lose 9 = .ok (.ireturn, 1) := by decide +kernel
theorem dX4_lose_10 : decode cX4_lose 10 = .ok (.aload_n 0, 1) := by decide +kernel
theorem dX4_lose_11 : decode cX4_lose 11 = .ok (.iconst 1, 1) := by decide +kernel
theorem dX4_lose_12 : decode cX4_lose 12 = .ok (.iload_n 1, 1) := by decide +kernel
theorem dX4_lose_13 : decode cX4_lose 13 = .ok (.invokevirtual 161, 3) := by decide +kernel
theorem dX4_lose_16 : decode cX4_lose 16 = .ok (.ireturn, 1) := by decide +kernel
theorem dX4_cross_0 : decode cX4_cross 0 = .ok (.iload_n 1, 1) := by decide +kernel
theorem dX4_cross_1 : decode cX4_cross 1 = .ok (.iconst 1, 1) := by decide +kernel
theorem dX4_cross_2 : decode cX4_cross 2 = .ok (.invokestatic 62, 3) := by decide +kernel
theorem dX4_cross_5 : decode cX4_cross 5 = .ok (.ifCond .ne 5, 3) := by decide +kernel
theorem dX4_cross_8 : decode cX4_cross 8 = .ok (.iconst (-1), 1) := by decide +kernel
theorem dX4_cross_9 : decode cX4_cross 9 = .ok (.ireturn, 1) := by decide +kernel
theorem dX4_cross_10 : decode cX4_cross 10 = .ok (.aload_n 0, 1) := by decide +kernel
theorem dX4_cross_11 : decode cX4_cross 11 = .ok (.iconst 0, 1) := by decide +kernel
theorem dX4_cross_12 : decode cX4_cross 12 = .ok (.iload_n 1, 1) := by decide +kernel
theorem dX4_cross_13 : decode cX4_cross 13 = .ok (.invokevirtual 161, 3) := by decide +kernel
theorem dX4_cross_16 : decode cX4_cross 16 = .ok (.ireturn, 1) := by decide +kernel
theorem dX4_give_0 : decode cX4_give 0 = .ok (.aload_n 0, 1) := by decide +kernel
theorem dX4_give_1 : decode cX4_give 1 = .ok (.iload_n 1, 1) := by decide +kernel
theorem dX4_give_2 : decode cX4_give 2 = .ok (.invokevirtual 112, 3) := by decide +kernel
theorem dX4_give_5 : decode cX4_give 5 = .ok (.ifCond .eq 12, 3) := by decide +kernel
theorem dX4_give_8 : decode cX4_give 8 = .ok (.iload_n 2, 1) := by decide +kernel
theorem dX4_give_9 : decode cX4_give 9 = .ok (.bipush 60, 2) := by decide +kernel
theorem dX4_give_11 : decode cX4_give 11 = .ok (.invokestatic 62, 3) := by decide +kernel
theorem dX4_give_14 : decode cX4_give 14 = .ok (.ifCond .ne 5, 3) := by decide +kernel
theorem dX4_give_17 : decode cX4_give 17 = .ok (.iconst (-1), 1) := by decide +kernel
theorem dX4_give_18 : decode cX4_give 18 = .ok (.ireturn, 1) := by decide +kernel
theorem dX4_give_19 : decode cX4_give 19 = .ok (.iconst 0, 1) := by decide +kernel
theorem dX4_give_20 : decode cX4_give 20 = .ok (.istore_n 3, 1) := by decide +kernel
theorem dX4_give_21 : decode cX4_give 21 = .ok (.iload_n 3, 1) := by decide +kernel
theorem dX4_give_22 : decode cX4_give 22 = .ok (.bipush 20, 2) := by decide +kernel
theorem dX4_give_24 : decode cX4_give 24 = .ok (.if_icmp .gt 51, 3) := by decide +kernel
theorem dX4_give_27 : decode cX4_give 27 = .ok (.aload_n 0, 1) := by decide +kernel
theorem dX4_give_28 : decode cX4_give 28 = .ok (.getfield 30, 3) := by decide +kernel
theorem dX4_give_31 : decode cX4_give 31 = .ok (.aload_n 0, 1) := by decide +kernel
theorem dX4_give_32 : decode cX4_give 32 = .ok (.getfield 26, 3) := by decide +kernel
theorem dX4_give_35 : decode cX4_give 35 = .ok (.invokevirtual 80, 3) := by decide +kernel
theorem dX4_give_38 : decode cX4_give 38 = .ok (.aload_n 0, 1) := by decide +kernel
theorem dX4_give_39 : decode cX4_give 39 = .ok (.getfield 30, 3) := by decide +kernel
theorem dX4_give_42 : decode cX4_give 42 = .ok (.iload_n 1, 1) := by decide +kernel
theorem dX4_give_43 : decode cX4_give 43 = .ok (.iconst 3, 1) := by decide +kernel
theorem dX4_give_44 : decode cX4_give 44 = .ok (.iload_n 3, 1) := by decide +kernel
theorem dX4_give_45 : decode cX4_give 45 = .ok (.invokevirtual 141, 3) := by decide +kernel
theorem dX4_give_48 : decode cX4_give 48 = .ok (.aload_n 0, 1) := by decide +kernel
theorem dX4_give_49 : decode cX4_give 49 = .ok (.getfield 30, 3) := by decide +kernel
theorem dX4_give_52 : decode cX4_give 52 = .ok (.iload_n 2, 1) := by decide +kernel
theorem dX4_give_53 : decode cX4_give 53 = .ok (.invokevirtual 148, 3) := by decide +kernel
theorem dX4_give_56 : decode cX4_give 56 = .ok (.pop, 1) := by decide +kernel
theorem dX4_give_57 : decode cX4_give 57 = .ok (.aload_n 0, 1) := by decide +kernel
theorem dX4_give_58 : decode cX4_give 58 = .ok (.getfield 30, 3) := by decide +kernel
theorem dX4_give_61 : decode cX4_give 61 = .ok (.invokevirtual 93, 3) := by decide +kernel
theorem dX4_give_64 : decode cX4_give 64 = .ok (.ifCond .eq 5, 3) := by decide +kernel
theorem dX4_give_67 : decode cX4_give 67 = .ok (.iload_n 3, 1) := by decide +kernel
theorem dX4_give_68 : decode cX4_give 68 = .ok (.ireturn, 1) := by decide +kernel
theorem dX4_give_69 : decode cX4_give 69 = .ok (.iinc 3 1, 3) := by decide +kernel
theorem dX4_give_72 : decode cX4_give 72 = .ok (.goto (-51), 3) := by decide +kernel
theorem dX4_give_75 : decode cX4_give 75 = .ok (.bipush (-4), 2) := by decide +kernel
theorem dX4_give_77 : decode cX4_give 77 = .ok (.ireturn, 1) := by decide +kernel
theorem dX4_mind_0 : decode cX4_mind 0 = .ok (.aload_n 0, 1) := by decide +kernel
theorem dX4_mind_1 : decode cX4_mind 1 = .ok (.iload_n 1, 1) := by decide +kernel
theorem dX4_mind_2 : decode cX4_mind 2 = .ok (.invokevirtual 112, 3) := by decide +kernel
theorem dX4_mind_5 : decode cX4_mind 5 = .ok (.ifCond .eq 11, 3) := by decide +kernel
theorem dX4_mind_8 : decode cX4_mind 8 = .ok (.iload_n 2, 1) := by decide +kernel
theorem dX4_mind_9 : decode cX4_mind 9 = .ok (.iconst 1, 1) := by decide +kernel
theorem dX4_mind_10 : decode cX4_mind 10 = .ok (.invokestatic 62, 3) := by decide +kernel
theorem dX4_mind_13 : decode cX4_mind 13 = .ok (.ifCond .ne 5, 3) := by decide +kernel
theorem dX4_mind_16 : decode cX4_mind 16 = .ok (.iconst (-1), 1) := by decide +kernel
theorem dX4_mind_17 : decode cX4_mind 17 = .ok (.ireturn, 1) := by decide +kernel
theorem dX4_mind_18 : decode cX4_mind 18 = .ok (.aload_n 0, 1) := by decide +kernel
theorem dX4_mind_19 : decode cX4_mind 19 = .ok (.iload_n 1, 1) := by decide +kernel
theorem dX4_mind_20 : decode cX4_mind 20 = .ok (.iconst 2, 1) := by decide +kernel
theorem dX4_mind_21 : decode cX4_mind 21 = .ok (.iload_n 2, 1) := by decide +kernel
theorem dX4_mind_22 : decode cX4_mind 22 = .ok (.invokevirtual 157, 3) := by decide +kernel
theorem dX4_mind_25 : decode cX4_mind 25 = .ok (.ireturn, 1) := by decide +kernel
theorem dX4_kind_0 : decode cX4_kind 0 = .ok (.aload_n 0, 1) := by decide +kernel
theorem dX4_kind_1 : decode cX4_kind 1 = .ok (.iload_n 1, 1) := by decide +kernel
theorem dX4_kind_2 : decode cX4_kind 2 = .ok (.invokevirtual 112, 3) := by decide +kernel
theorem dX4_kind_5 : decode cX4_kind 5 = .ok (.ifCond .eq 11, 3) := by decide +kernel
theorem dX4_kind_8 : decode cX4_kind 8 = .ok (.iload_n 2, 1) := by decide +kernel
theorem dX4_kind_9 : decode cX4_kind 9 = .ok (.iconst 1, 1) := by decide +kernel
theorem dX4_kind_10 : decode cX4_kind 10 = .ok (.invokestatic 62, 3) := by decide +kernel
theorem dX4_kind_13 : decode cX4_kind 13 = .ok (.ifCond .ne 5, 3) := by decide +kernel
theorem dX4_kind_16 : decode cX4_kind 16 = .ok (.iconst (-1), 1) := by decide +kernel
theorem dX4_kind_17 : decode cX4_kind 17 = .ok (.ireturn, 1) := by decide +kernel
theorem dX4_kind_18 : decode cX4_kind 18 = .ok (.aload_n 0, 1) := by decide +kernel
theorem dX4_kind_19 : decode cX4_kind 19 = .ok (.iload_n 1, 1) := by decide +kernel
theorem dX4_kind_20 : decode cX4_kind 20 = .ok (.iconst 0, 1) := by decide +kernel
theorem dX4_kind_21 : decode cX4_kind 21 = .ok (.iload_n 2, 1) := by decide +kernel
theorem dX4_kind_22 : decode cX4_kind 22 = .ok (.invokevirtual 157, 3) := by decide +kernel
theorem dX4_kind_25 : decode cX4_kind 25 = .ok (.ireturn, 1) := by decide +kernel
theorem dX4_luck_0 : decode cX4_luck 0 = .ok (.iload_n 1, 1) := by decide +kernel
theorem dX4_luck_1 : decode cX4_luck 1 = .ok (.bipush 10, 2) := by decide +kernel
theorem dX4_luck_3 : decode cX4_luck 3 = .ok (.invokestatic 62, 3) := by decide +kernel
theorem dX4_luck_6 : decode cX4_luck 6 = .ok (.ifCond .eq 20, 3) := by decide +kernel
theorem dX4_luck_9 : decode cX4_luck 9 = .ok (.iload_n 2, 1) := by decide +kernel
theorem dX4_luck_10 : decode cX4_luck 10 = .ok (.bipush 8, 2) := by decide +kernel
theorem dX4_luck_12 : decode cX4_luck 12 = .ok (.invokestatic 62, 3) := by decide +kernel
theorem dX4_luck_15 : decode cX4_luck 15 = .ok (.ifCond .eq 11, 3) := by decide +kernel
theorem dX4_luck_18 : decode cX4_luck 18 = .ok (.iload_n 3, 1) := by decide +kernel
theorem dX4_luck_19 : decode cX4_luck 19 = .ok (.iconst 1, 1) := by decide +kernel
theorem dX4_luck_20 : decode cX4_luck 20 = .ok (.invokestatic 62, 3) := by decide +kernel
theorem dX4_luck_23 : decode cX4_luck 23 = .ok (.ifCond .ne 7, 3) := by decide +kernel
theorem dX4_luck_26 : decode cX4_luck 26 = .ok (.ldc2_w 165, 3) := by decide +kernel
theorem dX4_luck_29 : decode cX4_luck 29 = .ok (.lreturn, 1) := by decide +kernel
theorem dX4_luck_30 : decode cX4_luck 30 = .ok (.aload_n 0, 1) := by decide +kernel
theorem dX4_luck_31 : decode cX4_luck 31 = .ok (.iload_n 1, 1) := by decide +kernel
theorem dX4_luck_32 : decode cX4_luck 32 = .ok (.iload_n 2, 1) := by decide +kernel
theorem dX4_luck_33 : decode cX4_luck 33 = .ok (.iload_n 3, 1) := by decide +kernel
theorem dX4_luck_34 : decode cX4_luck 34 = .ok (.iconst 1, 1) := by decide +kernel
theorem dX4_luck_35 : decode cX4_luck 35 = .ok (.invokevirtual 167, 3) := by decide +kernel
theorem dX4_luck_38 : decode cX4_luck 38 = .ok (.lreturn, 1) := by decide +kernel
theorem dX4_mean_0 : decode cX4_mean 0 = .ok (.iload_n 1, 1) := by decide +kernel
theorem dX4_mean_1 : decode cX4_mean 1 = .ok (.bipush 10, 2) := by decide +kernel
theorem dX4_mean_3 : decode cX4_mean 3 = .ok (.invokestatic 62, 3) := by decide +kernel
theorem dX4_mean_6 : decode cX4_mean 6 = .ok (.ifCond .eq 20, 3) := by decide +kernel
theorem dX4_mean_9 : decode cX4_mean 9 = .ok (.iload_n 2, 1) := by decide +kernel
theorem dX4_mean_10 : decode cX4_mean 10 = .ok (.bipush 8, 2) := by decide +kernel
theorem dX4_mean_12 : decode cX4_mean 12 = .ok (.invokestatic 62, 3) := by decide +kernel
theorem dX4_mean_15 : decode cX4_mean 15 = .ok (.ifCond .eq 11, 3) := by decide +kernel
theorem dX4_mean_18 : decode cX4_mean 18 = .ok (.iload_n 3, 1) := by decide +kernel
theorem dX4_mean_19 : decode cX4_mean 19 = .ok (.iconst 1, 1) := by decide +kernel
theorem dX4_mean_20 : decode cX4_mean 20 = .ok (.invokestatic 62, 3) := by decide +kernel
theorem dX4_mean_23 : decode cX4_mean 23 = .ok (.ifCond .ne 7, 3) := by decide +kernel
theorem dX4_mean_26 : decode cX4_mean 26 = .ok (.ldc2_w 165, 3) := by decide +kernel
theorem dX4_mean_29 : decode cX4_mean 29 = .ok (.lreturn, 1) := by decide +kernel
theorem dX4_mean_30 : decode cX4_mean 30 = .ok (.aload_n 0, 1) := by decide +kernel
theorem dX4_mean_31 : decode cX4_mean 31 = .ok (.iload_n 1, 1) := by decide +kernel
theorem dX4_mean_32 : decode cX4_mean 32 = .ok (.iload_n 2, 1) := by decide +kernel
theorem dX4_mean_33 : decode cX4_mean 33 = .ok (.iload_n 3, 1) := by decide +kernel
theorem dX4_mean_34 : decode cX4_mean 34 = .ok (.iconst 0, 1) := by decide +kernel
theorem dX4_mean_35 : decode cX4_mean 35 = .ok (.invokevirtual 167, 3) := by decide +kernel
theorem dX4_mean_38 : decode cX4_mean 38 = .ok (.lreturn, 1) := by decide +kernel
theorem dX4_see_0 : decode cX4_see 0 = .ok (.iload_n 1, 1) := by decide +kernel
theorem dX4_see_1 : decode cX4_see 1 = .ok (.bipush 20, 2) := by decide +kernel
theorem dX4_see_3 : decode cX4_see 3 = .ok (.invokestatic 62, 3) := by decide +kernel
theorem dX4_see_6 : decode cX4_see 6 = .ok (.ifCond .eq 12, 3) := by decide +kernel
theorem dX4_see_9 : decode cX4_see 9 = .ok (.iload_n 2, 1) := by decide +kernel
theorem dX4_see_10 : decode cX4_see 10 = .ok (.bipush 20, 2) := by decide +kernel
theorem dX4_see_12 : decode cX4_see 12 = .ok (.invokestatic 62, 3) := by decide +kernel
theorem dX4_see_15 : decode cX4_see 15 = .ok (.ifCond .ne 5, 3) := by decide +kernel
theorem dX4_see_18 : decode cX4_see 18 = .ok (.iconst (-1), 1) := by decide +kernel
theorem dX4_see_19 : decode cX4_see 19 = .ok (.ireturn, 1) := by decide +kernel
theorem dX4_see_20 : decode cX4_see 20 = .ok (.aload_n 0, 1) := by decide +kernel
theorem dX4_see_21 : decode cX4_see 21 = .ok (.getfield 26, 3) := by decide +kernel
theorem dX4_see_24 : decode cX4_see 24 = .ok (.getfield 171, 3) := by decide +kernel
theorem dX4_see_27 : decode cX4_see 27 = .ok (.bipush 6, 2) := by decide +kernel
theorem dX4_see_29 : decode cX4_see 29 = .ok (.if_icmp .lt 6, 3) := by decide +kernel
theorem dX4_see_32 : decode cX4_see 32 = .ok (.bipush (-3), 2) := by decide +kernel
theorem dX4_see_34 : decode cX4_see 34 = .ok (.ireturn, 1) := by decide +kernel
theorem dX4_see_35 : decode cX4_see 35 = .ok (.aload_n 0, 1) := by decide +kernel
theorem dX4_see_36 : decode cX4_see 36 = .ok (.getfield 26, 3) := by decide +kernel
theorem dX4_see_39 : decode cX4_see 39 = .ok (.getfield 174, 3) := by decide +kernel
theorem dX4_see_42 : decode cX4_see 42 = .ok (.aload_n 0, 1) := by decide +kernel
theorem dX4_see_43 : decode cX4_see 43 = .ok (.getfield 26, 3) := by decide +kernel
theorem dX4_see_46 : decode cX4_see 46 = .ok (.getfield 171, 3) := by decide +kernel
theorem dX4_see_49 : decode cX4_see 49 = .ok (.iload_n 1, 1) := by decide +kernel
theorem dX4_see_50 : decode cX4_see 50 = .ok (.iastore, 1) := by decide +kernel
theorem dX4_see_51 : decode cX4_see 51 = .ok (.aload_n 0, 1) := by decide +kernel
theorem dX4_see_52 : decode cX4_see 52 = .ok (.getfield 26, 3) := by decide +kernel
theorem dX4_see_55 : decode cX4_see 55 = .ok (.getfield 177, 3) := by decide +kernel
theorem dX4_see_58 : decode cX4_see 58 = .ok (.aload_n 0, 1) := by decide +kernel
theorem dX4_see_59 : decode cX4_see 59 = .ok (.getfield 26, 3) := by decide +kernel
theorem dX4_see_62 : decode cX4_see 62 = .ok (.getfield 171, 3) := by decide +kernel
theorem dX4_see_65 : decode cX4_see 65 = .ok (.iload_n 2, 1) := by decide +kernel
theorem dX4_see_66 : decode cX4_see 66 = .ok (.iastore, 1) := by decide +kernel
theorem dX4_see_67 : decode cX4_see 67 = .ok (.aload_n 0, 1) := by decide +kernel
theorem dX4_see_68 : decode cX4_see 68 = .ok (.getfield 26, 3) := by decide +kernel
theorem dX4_see_71 : decode cX4_see 71 = .ok (.dup, 1) := by decide +kernel
theorem dX4_see_72 : decode cX4_see 72 = .ok (.getfield 171, 3) := by decide +kernel
theorem dX4_see_75 : decode cX4_see 75 = .ok (.iconst 1, 1) := by decide +kernel
theorem dX4_see_76 : decode cX4_see 76 = .ok (.iadd, 1) := by decide +kernel
theorem dX4_see_77 : decode cX4_see 77 = .ok (.putfield 171, 3) := by decide +kernel
theorem dX4_see_80 : decode cX4_see 80 = .ok (.aload_n 0, 1) := by decide +kernel
theorem dX4_see_81 : decode cX4_see 81 = .ok (.getfield 26, 3) := by decide +kernel
theorem dX4_see_84 : decode cX4_see 84 = .ok (.getfield 171, 3) := by decide +kernel
theorem dX4_see_87 : decode cX4_see 87 = .ok (.ireturn, 1) := by decide +kernel
theorem dX4_forget_0 : decode cX4_forget 0 = .ok (.iload_n 1, 1) := by decide +kernel
theorem dX4_forget_1 : decode cX4_forget 1 = .ok (.aload_n 0, 1) := by decide +kernel
theorem dX4_forget_2 : decode cX4_forget 2 = .ok (.getfield 26, 3) := by decide +kernel
theorem dX4_forget_5 : decode cX4_forget 5 = .ok (.getfield 171, 3) := by decide +kernel
theorem dX4_forget_8 : decode cX4_forget 8 = .ok (.invokestatic 62, 3) := by decide +kernel
theorem dX4_forget_11 : decode cX4_forget 11 = .ok (.ifCond .ne 5, 3) := by decide +kernel
theorem dX4_forget_14 : decode cX4_forget 14 = .ok (.iconst (-1), 1) := by decide +kernel
theorem dX4_forget_15 : decode cX4_forget 15 = .ok (.ireturn, 1) := by decide +kernel
theorem dX4_forget_16 : decode cX4_forget 16 = .ok (.aload_n 0, 1) := by decide +kernel
theorem dX4_forget_17 : decode cX4_forget 17 = .ok (.getfield 26, 3) := by decide +kernel
theorem dX4_forget_20 : decode cX4_forget 20 = .ok (.getfield 171, 3) := by decide +kernel
theorem dX4_forget_23 : decode cX4_forget 23 = .ok (.istore_n 2, 1) := by decide +kernel
theorem dX4_forget_24 : decode cX4_forget 24 = .ok (.aload_n 0, 1) := by decide +kernel
theorem dX4_forget_25 : decode cX4_forget 25 = .ok (.getfield 26, 3) := by decide +kernel
theorem dX4_forget_28 : decode cX4_forget 28 = .ok (.iload_n 1, 1) := by decide +kernel
theorem dX4_forget_29 : decode cX4_forget 29 = .ok (.putfield 171, 3) := by decide +kernel
theorem dX4_forget_32 : decode cX4_forget 32 = .ok (.iload_n 2, 1) := by decide +kernel
theorem dX4_forget_33 : decode cX4_forget 33 = .ok (.ireturn, 1) := by decide +kernel
theorem dX4_kinds_0 : decode cX4_kinds 0 = .ok (.aload_n 0, 1) := by decide +kernel
theorem dX4_kinds_1 : decode cX4_kinds 1 = .ok (.iload_n 1, 1) := by decide +kernel
theorem dX4_kinds_2 : decode cX4_kinds 2 = .ok (.invokevirtual 112, 3) := by decide +kernel
theorem dX4_kinds_5 : decode cX4_kinds 5 = .ok (.ifCond .eq 12, 3) := by decide +kernel
theorem dX4_kinds_8 : decode cX4_kinds 8 = .ok (.aload_n 0, 1) := by decide +kernel
theorem dX4_kinds_9 : decode cX4_kinds 9 = .ok (.iload_n 1, 1) := by decide +kernel
theorem dX4_kinds_10 : decode cX4_kinds 10 = .ok (.iconst 0, 1) := by decide +kernel
theorem dX4_kinds_11 : decode cX4_kinds 11 = .ok (.invokevirtual 180, 3) := by decide +kernel
theorem dX4_kinds_14 : decode cX4_kinds 14 = .ok (.goto 4, 3) := by decide +kernel
theorem dX4_kinds_17 : decode cX4_kinds 17 = .ok (.iconst (-1), 1) := by decide +kernel
theorem dX4_kinds_18 : decode cX4_kinds 18 = .ok (.ireturn, 1) := by decide +kernel
theorem dX4_wants_0 : decode cX4_wants 0 = .ok (.aload_n 0, 1) := by decide +kernel
theorem dX4_wants_1 : decode cX4_wants 1 = .ok (.iload_n 1, 1) := by decide +kernel
theorem dX4_wants_2 : decode cX4_wants 2 = .ok (.invokevirtual 112, 3) := by decide +kernel
end
section
theorem dX4_wants_5 : decode cX4_wants 5 = .ok (.ifCond .eq 12, 3) := by decide +kernel
theorem dX4_wants_8 : decode cX4_wants 8 = .ok (.aload_n 0, 1) := by decide +kernel
theorem dX4_wants_9 : decode cX4_wants 9 = .ok (.iload_n 1, 1) := by decide +kernel
theorem dX4_wants_10 : decode cX4_wants 10 = .ok (.iconst 2, 1) := by decide +kernel
theorem dX4_wants_11 : decode cX4_wants 11 = .ok (.invokevirtual 180, 3) := by decide +kernel
theorem dX4_wants_14 : decode cX4_wants 14 = .ok (.goto 4, 3) := by decide +kernel
theorem dX4_wants_17 : decode cX4_wants 17 = .ok (.iconst (-1), 1) := by decide +kernel
theorem dX4_wants_18 : decode cX4_wants 18 = .ok (.ireturn, 1) := by decide +kernel
theorem dX4_ask_0 : decode cX4_ask 0 = .ok (.aload_n 0, 1) := by decide +kernel
theorem dX4_ask_1 : decode cX4_ask 1 = .ok (.iload_n 1, 1) := by decide +kernel
theorem dX4_ask_2 : decode cX4_ask 2 = .ok (.invokevirtual 112, 3) := by decide +kernel
theorem dX4_ask_5 : decode cX4_ask 5 = .ok (.ifCond .eq 11, 3) := by decide +kernel
theorem dX4_ask_8 : decode cX4_ask 8 = .ok (.iload_n 2, 1) := by decide +kernel
theorem dX4_ask_9 : decode cX4_ask 9 = .ok (.iconst 1, 1) := by decide +kernel
theorem dX4_ask_10 : decode cX4_ask 10 = .ok (.invokestatic 62, 3) := by decide +kernel
theorem dX4_ask_13 : decode cX4_ask 13 = .ok (.ifCond .ne 5, 3) := by decide +kernel
theorem dX4_ask_16 : decode cX4_ask 16 = .ok (.iconst (-1), 1) := by decide +kernel
theorem dX4_ask_17 : decode cX4_ask 17 = .ok (.ireturn, 1) := by decide +kernel
theorem dX4_ask_18 : decode cX4_ask 18 = .ok (.aload_n 0, 1) := by decide +kernel
theorem dX4_ask_19 : decode cX4_ask 19 = .ok (.iload_n 1, 1) := by decide +kernel
theorem dX4_ask_20 : decode cX4_ask 20 = .ok (.invokevirtual 183, 3) := by decide +kernel
theorem dX4_ask_23 : decode cX4_ask 23 = .ok (.istore_n 3, 1) := by decide +kernel
theorem dX4_ask_24 : decode cX4_ask 24 = .ok (.bipush (-4), 2) := by decide +kernel
theorem dX4_ask_26 : decode cX4_ask 26 = .ok (.istore 4, 2) := by decide +kernel
theorem dX4_ask_28 : decode cX4_ask 28 = .ok (.iconst 0, 1) := by decide +kernel
theorem dX4_ask_29 : decode cX4_ask 29 = .ok (.istore 5, 2) := by decide +kernel
theorem dX4_ask_31 : decode cX4_ask 31 = .ok (.iload 5, 2) := by decide +kernel
theorem dX4_ask_33 : decode cX4_ask 33 = .ok (.bipush 20, 2) := by decide +kernel
theorem dX4_ask_35 : decode cX4_ask 35 = .ok (.if_icmp .gt 30, 3) := by decide +kernel
theorem dX4_ask_38 : decode cX4_ask 38 = .ok (.aload_n 0, 1) := by decide +kernel
theorem dX4_ask_39 : decode cX4_ask 39 = .ok (.iload 5, 2) := by decide +kernel
theorem dX4_ask_41 : decode cX4_ask 41 = .ok (.invokevirtual 186, 3) := by decide +kernel
theorem dX4_ask_44 : decode cX4_ask 44 = .ok (.istore 6, 2) := by decide +kernel
theorem dX4_ask_46 : decode cX4_ask 46 = .ok (.iload 6, 2) := by decide +kernel
theorem dX4_ask_48 : decode cX4_ask 48 = .ok (.iload_n 3, 1) := by decide +kernel
theorem dX4_ask_49 : decode cX4_ask 49 = .ok (.if_icmp .ge 10, 3) := by decide +kernel
theorem dX4_ask_52 : decode cX4_ask 52 = .ok (.iload 6, 2) := by decide +kernel
theorem dX4_ask_54 : decode cX4_ask 54 = .ok (.istore_n 3, 1) := by decide +kernel
theorem dX4_ask_55 : decode cX4_ask 55 = .ok (.iload 5, 2) := by decide +kernel
theorem dX4_ask_57 : decode cX4_ask 57 = .ok (.istore 4, 2) := by decide +kernel
theorem dX4_ask_59 : decode cX4_ask 59 = .ok (.iinc 5 1, 3) := by decide +kernel
theorem dX4_ask_62 : decode cX4_ask 62 = .ok (.goto (-31), 3) := by decide +kernel
theorem dX4_ask_65 : decode cX4_ask 65 = .ok (.iload 4, 2) := by decide +kernel
theorem dX4_ask_67 : decode cX4_ask 67 = .ok (.bipush (-4), 2) := by decide +kernel
theorem dX4_ask_69 : decode cX4_ask 69 = .ok (.if_icmp .ne 6, 3) := by decide +kernel
theorem dX4_ask_72 : decode cX4_ask 72 = .ok (.bipush (-4), 2) := by decide +kernel
theorem dX4_ask_74 : decode cX4_ask 74 = .ok (.ireturn, 1) := by decide +kernel
theorem dX4_ask_75 : decode cX4_ask 75 = .ok (.iload_n 2, 1) := by decide +kernel
theorem dX4_ask_76 : decode cX4_ask 76 = .ok (.ifCond .ne 8, 3) := by decide +kernel
theorem dX4_ask_79 : decode cX4_ask 79 = .ok (.iload 4, 2) := by decide +kernel
theorem dX4_ask_81 : decode cX4_ask 81 = .ok (.goto 4, 3) := by decide +kernel
theorem dX4_ask_84 : decode cX4_ask 84 = .ok (.iload_n 3, 1) := by decide +kernel
theorem dX4_ask_85 : decode cX4_ask 85 = .ok (.ireturn, 1) := by decide +kernel
theorem dX4_drift_0 : decode cX4_drift 0 = .ok (.iload_n 2, 1) := by decide +kernel
theorem dX4_drift_1 : decode cX4_drift 1 = .ok (.iconst 1, 1) := by decide +kernel
theorem dX4_drift_2 : decode cX4_drift 2 = .ok (.if_icmp .lt 17, 3) := by decide +kernel
theorem dX4_drift_5 : decode cX4_drift 5 = .ok (.iload_n 2, 1) := by decide +kernel
theorem dX4_drift_6 : decode cX4_drift 6 = .ok (.bipush 60, 2) := by decide +kernel
theorem dX4_drift_8 : decode cX4_drift 8 = .ok (.if_icmp .gt 11, 3) := by decide +kernel
theorem dX4_drift_11 : decode cX4_drift 11 = .ok (.iload_n 3, 1) := by decide +kernel
theorem dX4_drift_12 : decode cX4_drift 12 = .ok (.iconst 1, 1) := by decide +kernel
theorem dX4_drift_13 : decode cX4_drift 13 = .ok (.invokestatic 62, 3) := by decide +kernel
theorem dX4_drift_16 : decode cX4_drift 16 = .ok (.ifCond .ne 5, 3) := by decide +kernel
theorem dX4_drift_19 : decode cX4_drift 19 = .ok (.iconst (-1), 1) := by decide +kernel
theorem dX4_drift_20 : decode cX4_drift 20 = .ok (.ireturn, 1) := by decide +kernel
theorem dX4_drift_21 : decode cX4_drift 21 = .ok (.aload_n 0, 1) := by decide +kernel
theorem dX4_drift_22 : decode cX4_drift 22 = .ok (.getfield 26, 3) := by decide +kernel
theorem dX4_drift_25 : decode cX4_drift 25 = .ok (.getfield 84, 3) := by decide +kernel
theorem dX4_drift_28 : decode cX4_drift 28 = .ok (.iconst 1, 1) := by decide +kernel
theorem dX4_drift_29 : decode cX4_drift 29 = .ok (.if_icmp .ge 6, 3) := by decide +kernel
theorem dX4_drift_32 : decode cX4_drift 32 = .ok (.bipush (-2), 2) := by decide +kernel
theorem dX4_drift_34 : decode cX4_drift 34 = .ok (.ireturn, 1) := by decide +kernel
theorem dX4_drift_35 : decode cX4_drift 35 = .ok (.aload_n 0, 1) := by decide +kernel
theorem dX4_drift_36 : decode cX4_drift 36 = .ok (.getfield 30, 3) := by decide +kernel
theorem dX4_drift_39 : decode cX4_drift 39 = .ok (.aload_n 0, 1) := by decide +kernel
theorem dX4_drift_40 : decode cX4_drift 40 = .ok (.getfield 26, 3) := by decide +kernel
theorem dX4_drift_43 : decode cX4_drift 43 = .ok (.invokevirtual 80, 3) := by decide +kernel
theorem dX4_drift_46 : decode cX4_drift 46 = .ok (.iload_n 1, 1) := by decide +kernel
theorem dX4_drift_47 : decode cX4_drift 47 = .ok (.istore 4, 2) := by decide +kernel
theorem dX4_drift_49 : decode cX4_drift 49 = .ok (.iconst 0, 1) := by decide +kernel
theorem dX4_drift_50 : decode cX4_drift 50 = .ok (.istore 5, 2) := by decide +kernel
theorem dX4_drift_52 : decode cX4_drift 52 = .ok (.iconst 0, 1) := by decide +kernel
theorem dX4_drift_53 : decode cX4_drift 53 = .ok (.istore 6, 2) := by decide +kernel
theorem dX4_drift_55 : decode cX4_drift 55 = .ok (.iload 6, 2) := by decide +kernel
theorem dX4_drift_57 : decode cX4_drift 57 = .ok (.iload_n 2, 1) := by decide +kernel
theorem dX4_drift_58 : decode cX4_drift 58 = .ok (.if_icmp .ge 70, 3) := by decide +kernel
theorem dX4_drift_61 : decode cX4_drift 61 = .ok (.iload 4, 2) := by decide +kernel
theorem dX4_drift_63 : decode cX4_drift 63 = .ok (.ldc 189, 2) := by decide +kernel
theorem dX4_drift_65 : decode cX4_drift 65 = .ok (.imul, 1) := by decide +kernel
theorem dX4_drift_66 : decode cX4_drift 66 = .ok (.sipush 12345, 3) := by decide +kernel
theorem dX4_drift_69 : decode cX4_drift 69 = .ok (.iadd, 1) := by decide +kernel
theorem dX4_drift_70 : decode cX4_drift 70 = .ok (.istore 4, 2) := by decide +kernel
theorem dX4_drift_72 : decode cX4_drift 72 = .ok (.iload 4, 2) := by decide +kernel
theorem dX4_drift_74 : decode cX4_drift 74 = .ok (.bipush 16, 2) := by decide +kernel
theorem dX4_drift_76 : decode cX4_drift 76 = .ok (.iushr, 1) := by decide +kernel
theorem dX4_drift_77 : decode cX4_drift 77 = .ok (.sipush 32767, 3) := by decide +kernel
theorem dX4_drift_80 : decode cX4_drift 80 = .ok (.iand, 1) := by decide +kernel
theorem dX4_drift_81 : decode cX4_drift 81 = .ok (.istore 7, 2) := by decide +kernel
theorem dX4_drift_83 : decode cX4_drift 83 = .ok (.aload_n 0, 1) := by decide +kernel
theorem dX4_drift_84 : decode cX4_drift 84 = .ok (.getfield 30, 3) := by decide +kernel
theorem dX4_drift_87 : decode cX4_drift 87 = .ok (.iload 7, 2) := by decide +kernel
theorem dX4_drift_89 : decode cX4_drift 89 = .ok (.aload_n 0, 1) := by decide +kernel
theorem dX4_drift_90 : decode cX4_drift 90 = .ok (.getfield 26, 3) := by decide +kernel
theorem dX4_drift_93 : decode cX4_drift 93 = .ok (.getfield 84, 3) := by decide +kernel
theorem dX4_drift_96 : decode cX4_drift 96 = .ok (.irem, 1) := by decide +kernel
theorem dX4_drift_97 : decode cX4_drift 97 = .ok (.iconst 2, 1) := by decide +kernel
theorem dX4_drift_98 : decode cX4_drift 98 = .ok (.iload 7, 2) := by decide +kernel
theorem dX4_drift_100 : decode cX4_drift 100 = .ok (.bipush 8, 2) := by decide +kernel
theorem dX4_drift_102 : decode cX4_drift 102 = .ok (.idiv, 1) := by decide +kernel
theorem dX4_drift_103 : decode cX4_drift 103 = .ok (.bipush 21, 2) := by decide +kernel
theorem dX4_drift_105 : decode cX4_drift 105 = .ok (.irem, 1) := by decide +kernel
theorem dX4_drift_106 : decode cX4_drift 106 = .ok (.invokevirtual 141, 3) := by decide +kernel
theorem dX4_drift_109 : decode cX4_drift 109 = .ok (.iload 5, 2) := by decide +kernel
theorem dX4_drift_111 : decode cX4_drift 111 = .ok (.aload_n 0, 1) := by decide +kernel
theorem dX4_drift_112 : decode cX4_drift 112 = .ok (.getfield 30, 3) := by decide +kernel
theorem dX4_drift_115 : decode cX4_drift 115 = .ok (.iconst 1, 1) := by decide +kernel
theorem dX4_drift_116 : decode cX4_drift 116 = .ok (.invokevirtual 190, 3) := by decide +kernel
theorem dX4_drift_119 : decode cX4_drift 119 = .ok (.iadd, 1) := by decide +kernel
theorem dX4_drift_120 : decode cX4_drift 120 = .ok (.istore 5, 2) := by decide +kernel
theorem dX4_drift_122 : decode cX4_drift 122 = .ok (.iinc 6 1, 3) := by decide +kernel
theorem dX4_drift_125 : decode cX4_drift 125 = .ok (.goto (-70), 3) := by decide +kernel
theorem dX4_drift_128 : decode cX4_drift 128 = .ok (.iload_n 3, 1) := by decide +kernel
theorem dX4_drift_129 : decode cX4_drift 129 = .ok (.ifCond .ne 13, 3) := by decide +kernel
theorem dX4_drift_132 : decode cX4_drift 132 = .ok (.aload_n 0, 1) := by decide +kernel
theorem dX4_drift_133 : decode cX4_drift 133 = .ok (.getfield 30, 3) := by decide +kernel
theorem dX4_drift_136 : decode cX4_drift 136 = .ok (.getfield 90, 3) := by decide +kernel
theorem dX4_drift_139 : decode cX4_drift 139 = .ok (.goto 5, 3) := by decide +kernel
theorem dX4_drift_142 : decode cX4_drift 142 = .ok (.iload 5, 2) := by decide +kernel
theorem dX4_drift_144 : decode cX4_drift 144 = .ok (.ireturn, 1) := by decide +kernel
theorem dX4_keep_0 : decode cX4_keep 0 = .ok (.iload_n 1, 1) := by decide +kernel
theorem dX4_keep_1 : decode cX4_keep 1 = .ok (.iconst 1, 1) := by decide +kernel
theorem dX4_keep_2 : decode cX4_keep 2 = .ok (.invokestatic 62, 3) := by decide +kernel
theorem dX4_keep_5 : decode cX4_keep 5 = .ok (.ifCond .ne 5, 3) := by decide +kernel
theorem dX4_keep_8 : decode cX4_keep 8 = .ok (.iconst (-1), 1) := by decide +kernel
theorem dX4_keep_9 : decode cX4_keep 9 = .ok (.ireturn, 1) := by decide +kernel
theorem dX4_keep_10 : decode cX4_keep 10 = .ok (.aload_n 0, 1) := by decide +kernel
theorem dX4_keep_11 : decode cX4_keep 11 = .ok (.getfield 37, 3) := by decide +kernel
theorem dX4_keep_14 : decode cX4_keep 14 = .ok (.iload_n 1, 1) := by decide +kernel
theorem dX4_keep_15 : decode cX4_keep 15 = .ok (.baload, 1) := by decide +kernel
theorem dX4_keep_16 : decode cX4_keep 16 = .ok (.invokestatic 97, 3) := by decide +kernel
theorem dX4_keep_19 : decode cX4_keep 19 = .ok (.istore_n 2, 1) := by decide +kernel
theorem dX4_keep_20 : decode cX4_keep 20 = .ok (.aload_n 0, 1) := by decide +kernel
theorem dX4_keep_21 : decode cX4_keep 21 = .ok (.getfield 33, 3) := by decide +kernel
theorem dX4_keep_24 : decode cX4_keep 24 = .ok (.iload_n 1, 1) := by decide +kernel
theorem dX4_keep_25 : decode cX4_keep 25 = .ok (.aaload, 1) := by decide +kernel
theorem dX4_keep_26 : decode cX4_keep 26 = .ok (.aload_n 0, 1) := by decide +kernel
theorem dX4_keep_27 : decode cX4_keep 27 = .ok (.getfield 26, 3) := by decide +kernel
theorem dX4_keep_30 : decode cX4_keep 30 = .ok (.invokevirtual 80, 3) := by decide +kernel
theorem dX4_keep_33 : decode cX4_keep 33 = .ok (.aload_n 0, 1) := by decide +kernel
theorem dX4_keep_34 : decode cX4_keep 34 = .ok (.getfield 37, 3) := by decide +kernel
theorem dX4_keep_37 : decode cX4_keep 37 = .ok (.iload_n 1, 1) := by decide +kernel
theorem dX4_keep_38 : decode cX4_keep 38 = .ok (.iconst 1, 1) := by decide +kernel
theorem dX4_keep_39 : decode cX4_keep 39 = .ok (.bastore, 1) := by decide +kernel
theorem dX4_keep_40 : decode cX4_keep 40 = .ok (.iload_n 2, 1) := by decide +kernel
theorem dX4_keep_41 : decode cX4_keep 41 = .ok (.ireturn, 1) := by decide +kernel
theorem dX4_back_0 : decode cX4_back 0 = .ok (.iload_n 1, 1) := by decide +kernel
theorem dX4_back_1 : decode cX4_back 1 = .ok (.iconst 1, 1) := by decide +kernel
theorem dX4_back_2 : decode cX4_back 2 = .ok (.invokestatic 62, 3) := by decide +kernel
theorem dX4_back_5 : decode cX4_back 5 = .ok (.ifCond .ne 5, 3) := by decide +kernel
theorem dX4_back_8 : decode cX4_back 8 = .ok (.iconst (-1), 1) := by decide +kernel
theorem dX4_back_9 : decode cX4_back 9 = .ok (.ireturn, 1) := by decide +kernel
theorem dX4_back_10 : decode cX4_back 10 = .ok (.aload_n 0, 1) := by decide +kernel
theorem dX4_back_11 : decode cX4_back 11 = .ok (.getfield 37, 3) := by decide +kernel
theorem dX4_back_14 : decode cX4_back 14 = .ok (.iload_n 1, 1) := by decide +kernel
theorem dX4_back_15 : decode cX4_back 15 = .ok (.baload, 1) := by decide +kernel
theorem dX4_back_16 : decode cX4_back 16 = .ok (.ifCond .ne 6, 3) := by decide +kernel
theorem dX4_back_19 : decode cX4_back 19 = .ok (.bipush (-2), 2) := by decide +kernel
theorem dX4_back_21 : decode cX4_back 21 = .ok (.ireturn, 1) := by decide +kernel
theorem dX4_back_22 : decode cX4_back 22 = .ok (.aload_n 0, 1) := by decide +kernel
theorem dX4_back_23 : decode cX4_back 23 = .ok (.getfield 26, 3) := by decide +kernel
theorem dX4_back_26 : decode cX4_back 26 = .ok (.aload_n 0, 1) := by decide +kernel
theorem dX4_back_27 : decode cX4_back 27 = .ok (.getfield 33, 3) := by decide +kernel
theorem dX4_back_30 : decode cX4_back 30 = .ok (.iload_n 1, 1) := by decide +kernel
theorem dX4_back_31 : decode cX4_back 31 = .ok (.aaload, 1) := by decide +kernel
theorem dX4_back_32 : decode cX4_back 32 = .ok (.invokevirtual 80, 3) := by decide +kernel
theorem dX4_back_35 : decode cX4_back 35 = .ok (.aload_n 0, 1) := by decide +kernel
theorem dX4_back_36 : decode cX4_back 36 = .ok (.getfield 26, 3) := by decide +kernel
theorem dX4_back_39 : decode cX4_back 39 = .ok (.getfield 87, 3) := by decide +kernel
theorem dX4_back_42 : decode cX4_back 42 = .ok (.ireturn, 1) := by decide +kernel
theorem dX4_sheet_0 : decode cX4_sheet 0 = .ok (.iload_n 1, 1) := by decide +kernel
theorem dX4_sheet_1 : decode cX4_sheet 1 = .ok (.iconst 3, 1) := by decide +kernel
theorem dX4_sheet_2 : decode cX4_sheet 2 = .ok (.invokestatic 62, 3) := by decide +kernel
theorem dX4_sheet_5 : decode cX4_sheet 5 = .ok (.ifCond .eq 17, 3) := by decide +kernel
theorem dX4_sheet_8 : decode cX4_sheet 8 = .ok (.iload_n 2, 1) := by decide +kernel
theorem dX4_sheet_9 : decode cX4_sheet 9 = .ok (.iconst 2, 1) := by decide +kernel
theorem dX4_sheet_10 : decode cX4_sheet 10 = .ok (.invokestatic 62, 3) := by decide +kernel
theorem dX4_sheet_13 : decode cX4_sheet 13 = .ok (.ifCond .eq 9, 3) := by decide +kernel
theorem dX4_sheet_16 : decode cX4_sheet 16 = .ok (.iload_n 3, 1) := by decide +kernel
theorem dX4_sheet_17 : decode cX4_sheet 17 = .ok (.bipush 40, 2) := by decide +kernel
theorem dX4_sheet_19 : decode cX4_sheet 19 = .ok (.if_icmp .le 5, 3) := by decide +kernel
theorem dX4_sheet_22 : decode cX4_sheet 22 = .ok (.iconst (-1), 1) := by decide +kernel
theorem dX4_sheet_23 : decode cX4_sheet 23 = .ok (.ireturn, 1) := by decide +kernel
theorem dX4_sheet_24 : decode cX4_sheet 24 = .ok (.iload_n 3, 1) := by decide +kernel
theorem dX4_sheet_25 : decode cX4_sheet 25 = .ok (.ifCond .ge 6, 3) := by decide +kernel
theorem dX4_sheet_28 : decode cX4_sheet 28 = .ok (.bipush (-14), 2) := by decide +kernel
theorem dX4_sheet_30 : decode cX4_sheet 30 = .ok (.ireturn, 1) := by decide +kernel
theorem dX4_sheet_31 : decode cX4_sheet 31 = .ok (.aload_n 0, 1) := by decide +kernel
theorem dX4_sheet_32 : decode cX4_sheet 32 = .ok (.getfield 43, 3) := by decide +kernel
theorem dX4_sheet_35 : decode cX4_sheet 35 = .ok (.iload_n 1, 1) := by decide +kernel
theorem dX4_sheet_36 : decode cX4_sheet 36 = .ok (.aaload, 1) := by decide +kernel
theorem dX4_sheet_37 : decode cX4_sheet 37 = .ok (.iload_n 2, 1) := by decide +kernel
theorem dX4_sheet_38 : decode cX4_sheet 38 = .ok (.iload_n 3, 1) := by decide +kernel
theorem dX4_sheet_39 : decode cX4_sheet 39 = .ok (.invokevirtual 193, 3) := by decide +kernel
theorem dX4_sheet_42 : decode cX4_sheet 42 = .ok (.iconst 1, 1) := by decide +kernel
theorem dX4_sheet_43 : decode cX4_sheet 43 = .ok (.ireturn, 1) := by decide +kernel
theorem dX4_lay_0 : decode cX4_lay 0 = .ok (.iload_n 1, 1) := by decide +kernel
theorem dX4_lay_1 : decode cX4_lay 1 = .ok (.iconst 3, 1) := by decide +kernel
theorem dX4_lay_2 : decode cX4_lay 2 = .ok (.invokestatic 62, 3) := by decide +kernel
theorem dX4_lay_5 : decode cX4_lay 5 = .ok (.ifCond .ne 5, 3) := by decide +kernel
theorem dX4_lay_8 : decode cX4_lay 8 = .ok (.iconst (-1), 1) := by decide +kernel
theorem dX4_lay_9 : decode cX4_lay 9 = .ok (.ireturn, 1) := by decide +kernel
theorem dX4_lay_10 : decode cX4_lay 10 = .ok (.aload_n 0, 1) := by decide +kernel
theorem dX4_lay_11 : decode cX4_lay 11 = .ok (.getfield 43, 3) := by decide +kernel
theorem dX4_lay_14 : decode cX4_lay 14 = .ok (.iload_n 1, 1) := by decide +kernel
theorem dX4_lay_15 : decode cX4_lay 15 = .ok (.aaload, 1) := by decide +kernel
theorem dX4_lay_16 : decode cX4_lay 16 = .ok (.iload_n 2, 1) := by decide +kernel
theorem dX4_lay_17 : decode cX4_lay 17 = .ok (.invokevirtual 197, 3) := by decide +kernel
theorem dX4_lay_20 : decode cX4_lay 20 = .ok (.istore 4, 2) := by decide +kernel
theorem dX4_lay_22 : decode cX4_lay 22 = .ok (.iload 4, 2) := by decide +kernel
theorem dX4_lay_24 : decode cX4_lay 24 = .ok (.ifCond .eq 9, 3) := by decide +kernel
theorem dX4_lay_27 : decode cX4_lay 27 = .ok (.bipush (-10), 2) := by decide +kernel
theorem dX4_lay_29 : decode cX4_lay 29 = .ok (.iload 4, 2) := by decide +kernel
theorem dX4_lay_31 : decode cX4_lay 31 = .ok (.isub, 1) := by decide +kernel
theorem dX4_lay_32 : decode cX4_lay 32 = .ok (.ireturn, 1) := by decide +kernel
theorem dX4_lay_33 : decode cX4_lay 33 = .ok (.aload_n 0, 1) := by decide +kernel
theorem dX4_lay_34 : decode cX4_lay 34 = .ok (.getfield 43, 3) := by decide +kernel
theorem dX4_lay_37 : decode cX4_lay 37 = .ok (.iload_n 1, 1) := by decide +kernel
theorem dX4_lay_38 : decode cX4_lay 38 = .ok (.aaload, 1) := by decide +kernel
theorem dX4_lay_39 : decode cX4_lay 39 = .ok (.iload_n 2, 1) := by decide +kernel
theorem dX4_lay_40 : decode cX4_lay 40 = .ok (.iload_n 3, 1) := by decide +kernel
theorem dX4_lay_41 : decode cX4_lay 41 = .ok (.invokevirtual 200, 3) := by decide +kernel
theorem dX4_lay_44 : decode cX4_lay 44 = .ok (.iconst 1, 1) := by decide +kernel
theorem dX4_lay_45 : decode cX4_lay 45 = .ok (.ireturn, 1) := by decide +kernel
theorem dX4_read_0 : decode cX4_read 0 = .ok (.iload_n 1, 1) := by decide +kernel
theorem dX4_read_1 : decode cX4_read 1 = .ok (.iconst 3, 1) := by decide +kernel
theorem dX4_read_2 : decode cX4_read 2 = .ok (.invokestatic 62, 3) := by decide +kernel
theorem dX4_read_5 : decode cX4_read 5 = .ok (.ifCond .eq 21, 3) := by decide +kernel
theorem dX4_read_8 : decode cX4_read 8 = .ok (.iload_n 2, 1) := by decide +kernel
theorem dX4_read_9 : decode cX4_read 9 = .ok (.iconst 2, 1) := by decide +kernel
theorem dX4_read_10 : decode cX4_read 10 = .ok (.invokestatic 62, 3) := by decide +kernel
theorem dX4_read_13 : decode cX4_read 13 = .ok (.ifCond .eq 13, 3) := by decide +kernel
theorem dX4_read_16 : decode cX4_read 16 = .ok (.iload 4, 2) := by decide +kernel
theorem dX4_read_18 : decode cX4_read 18 = .ok (.bipush 20, 2) := by decide +kernel
theorem dX4_read_20 : decode cX4_read 20 = .ok (.invokestatic 62, 3) := by decide +kernel
theorem dX4_read_23 : decode cX4_read 23 = .ok (.ifCond .ne 5, 3) := by decide +kernel
theorem dX4_read_26 : decode cX4_read 26 = .ok (.iconst (-1), 1) := by decide +kernel
theorem dX4_read_27 : decode cX4_read 27 = .ok (.ireturn, 1) := by decide +kernel
theorem dX4_read_28 : decode cX4_read 28 = .ok (.aload_n 0, 1) := by decide +kernel
theorem dX4_read_29 : decode cX4_read 29 = .ok (.getfield 43, 3) := by decide +kernel
theorem dX4_read_32 : decode cX4_read 32 = .ok (.iload_n 1, 1) := by decide +kernel
theorem dX4_read_33 : decode cX4_read 33 = .ok (.aaload, 1) := by decide +kernel
theorem dX4_read_34 : decode cX4_read 34 = .ok (.astore 5, 2) := by decide +kernel
theorem dX4_read_36 : decode cX4_read 36 = .ok (.aload_n 0, 1) := by decide +kernel
theorem dX4_read_37 : decode cX4_read 37 = .ok (.getfield 30, 3) := by decide +kernel
theorem dX4_read_40 : decode cX4_read 40 = .ok (.aload_n 0, 1) := by decide +kernel
theorem dX4_read_41 : decode cX4_read 41 = .ok (.getfield 26, 3) := by decide +kernel
theorem dX4_read_44 : decode cX4_read 44 = .ok (.invokevirtual 80, 3) := by decide +kernel
theorem dX4_read_47 : decode cX4_read 47 = .ok (.iconst 0, 1) := by decide +kernel
theorem dX4_read_48 : decode cX4_read 48 = .ok (.istore 6, 2) := by decide +kernel
theorem dX4_read_50 : decode cX4_read 50 = .ok (.iconst 0, 1) := by decide +kernel
theorem dX4_read_51 : decode cX4_read 51 = .ok (.istore 7, 2) := by decide +kernel
theorem dX4_read_53 : decode cX4_read 53 = .ok (.iconst 0, 1) := by decide +kernel
theorem dX4_read_54 : decode cX4_read 54 = .ok (.istore 8, 2) := by decide +kernel
theorem dX4_read_56 : decode cX4_read 56 = .ok (.iload 8, 2) := by decide +kernel
theorem dX4_read_58 : decode cX4_read 58 = .ok (.iload 4, 2) := by decide +kernel
theorem dX4_read_60 : decode cX4_read 60 = .ok (.if_icmp .ge 92, 3) := by decide +kernel
theorem dX4_read_63 : decode cX4_read 63 = .ok (.iload 6, 2) := by decide +kernel
theorem dX4_read_65 : decode cX4_read 65 = .ok (.ifCond .ne 87, 3) := by decide +kernel
theorem dX4_read_68 : decode cX4_read 68 = .ok (.iload_n 3, 1) := by decide +kernel
theorem dX4_read_69 : decode cX4_read 69 = .ok (.iconst 2, 1) := by decide +kernel
theorem dX4_read_70 : decode cX4_read 70 = .ok (.iload 8, 2) := by decide +kernel
theorem dX4_read_72 : decode cX4_read 72 = .ok (.imul, 1) := by decide +kernel
theorem dX4_read_73 : decode cX4_read 73 = .ok (.iadd, 1) := by decide +kernel
theorem dX4_read_74 : decode cX4_read 74 = .ok (.istore 9, 2) := by decide +kernel
theorem dX4_read_76 : decode cX4_read 76 = .ok (.aload 5, 2) := by decide +kernel
theorem dX4_read_78 : decode cX4_read 78 = .ok (.iload_n 2, 1) := by decide +kernel
theorem dX4_read_79 : decode cX4_read 79 = .ok (.iload 9, 2) := by decide +kernel
theorem dX4_read_81 : decode cX4_read 81 = .ok (.invokevirtual 203, 3) := by decide +kernel
theorem dX4_read_84 : decode cX4_read 84 = .ok (.istore 6, 2) := by decide +kernel
theorem dX4_read_86 : decode cX4_read 86 = .ok (.iload 6, 2) := by decide +kernel
theorem dX4_read_88 : decode cX4_read 88 = .ok (.ifCond .ne 58, 3) := by decide +kernel
theorem dX4_read_91 : decode cX4_read 91 = .ok (.aload 5, 2) := by decide +kernel
theorem dX4_read_93 : decode cX4_read 93 = .ok (.getfield 206, 3) := by decide +kernel
theorem dX4_read_96 : decode cX4_read 96 = .ok (.iload 9, 2) := by decide +kernel
theorem dX4_read_98 : decode cX4_read 98 = .ok (.iaload, 1) := by decide +kernel
theorem dX4_read_99 : decode cX4_read 99 = .ok (.istore 10, 2) := by decide +kernel
theorem dX4_read_101 : decode cX4_read 101 = .ok (.aload 5, 2) := by decide +kernel
theorem dX4_read_103 : decode cX4_read 103 = .ok (.getfield 206, 3) := by decide +kernel
theorem dX4_read_106 : decode cX4_read 106 = .ok (.iload 9, 2) := by decide +kernel
theorem dX4_read_108 : decode cX4_read 108 = .ok (.iconst 1, 1) := by decide +kernel
theorem dX4_read_109 : decode cX4_read 109 = .ok (.iadd, 1) := by decide +kernel
theorem dX4_read_110 : decode cX4_read 110 = .ok (.iaload, 1) := by decide +kernel
theorem dX4_read_111 : decode cX4_read 111 = .ok (.istore 11, 2) := by decide +kernel
theorem dX4_read_113 : decode cX4_read 113 = .ok (.aload_n 0, 1) := by decide +kernel
theorem dX4_read_114 : decode cX4_read 114 = .ok (.iload 10, 2) := by decide +kernel
theorem dX4_read_116 : decode cX4_read 116 = .ok (.iconst 2, 1) := by decide +kernel
theorem dX4_read_117 : decode cX4_read 117 = .ok (.iload 11, 2) := by decide +kernel
theorem dX4_read_119 : decode cX4_read 119 = .ok (.invokevirtual 137, 3) := by decide +kernel
theorem dX4_read_122 : decode cX4_read 122 = .ok (.ifCond .ne 9, 3) := by decide +kernel
theorem dX4_read_125 : decode cX4_read 125 = .ok (.bipush (-20), 2) := by decide +kernel
theorem dX4_read_127 : decode cX4_read 127 = .ok (.iload 8, 2) := by decide +kernel
theorem dX4_read_129 : decode cX4_read 129 = .ok (.isub, 1) := by decide +kernel
theorem dX4_read_130 : decode cX4_read 130 = .ok (.ireturn, 1) := by decide +kernel
theorem dX4_read_131 : decode cX4_read 131 = .ok (.aload_n 0, 1) := by decide +kernel
theorem dX4_read_132 : decode cX4_read 132 = .ok (.getfield 30, 3) := by decide +kernel
theorem dX4_read_135 : decode cX4_read 135 = .ok (.iload 10, 2) := by decide +kernel
theorem dX4_read_137 : decode cX4_read 137 = .ok (.iconst 2, 1) := by decide +kernel
theorem dX4_read_138 : decode cX4_read 138 = .ok (.iload 11, 2) := by decide +kernel
theorem dX4_read_140 : decode cX4_read 140 = .ok (.invokevirtual 141, 3) := by decide +kernel
theorem dX4_read_143 : decode cX4_read 143 = .ok (.iinc 7 1, 3) := by decide +kernel
theorem dX4_read_146 : decode cX4_read 146 = .ok (.iinc 8 1, 3) := by decide +kernel
theorem dX4_read_149 : decode cX4_read 149 = .ok (.goto (-93), 3) := by decide +kernel
theorem dX4_read_152 : decode cX4_read 152 = .ok (.aload_n 0, 1) := by decide +kernel
theorem dX4_read_153 : decode cX4_read 153 = .ok (.getfield 26, 3) := by decide +kernel
theorem dX4_read_156 : decode cX4_read 156 = .ok (.aload_n 0, 1) := by decide +kernel
theorem dX4_read_157 : decode cX4_read 157 = .ok (.getfield 30, 3) := by decide +kernel
theorem dX4_read_160 : decode cX4_read 160 = .ok (.invokevirtual 80, 3) := by decide +kernel
theorem dX4_read_163 : decode cX4_read 163 = .ok (.aload_n 0, 1) := by decide +kernel
theorem dX4_read_164 : decode cX4_read 164 = .ok (.iload 6, 2) := by decide +kernel
theorem dX4_read_166 : decode cX4_read 166 = .ok (.putfield 58, 3) := by decide +kernel
theorem dX4_read_169 : decode cX4_read 169 = .ok (.iload 7, 2) := by decide +kernel
theorem dX4_read_171 : decode cX4_read 171 = .ok (.ireturn, 1) := by decide +kernel
theorem dX4_torn_0 : decode cX4_torn 0 = .ok (.aload_n 0, 1) := by decide +kernel
theorem dX4_torn_1 : decode cX4_torn 1 = .ok (.getfield 58, 3) := by decide +kernel
theorem dX4_torn_4 : decode cX4_torn 4 = .ok (.ireturn, 1) := by decide +kernel
theorem dX4_count_0 : decode cX4_count 0 = .ok (.iload_n 1, 1) := by decide +kernel
theorem dX4_count_1 : decode cX4_count 1 = .ok (.tableswitch 121 0 5 #[39, 47, 67, 75, 103, 112], 39) := by decide +kernel
theorem dX4_count_40 : decode cX4_count 40 = .ok (.aload_n 0, 1) := by decide +kernel
theorem dX4_count_41 : decode cX4_count 41 = .ok (.getfield 26, 3) := by decide +kernel
theorem dX4_count_44 : decode cX4_count 44 = .ok (.getfield 171, 3) := by decide +kernel
theorem dX4_count_47 : decode cX4_count 47 = .ok (.ireturn, 1) := by decide +kernel
theorem dX4_count_48 : decode cX4_count 48 = .ok (.aload_n 0, 1) := by decide +kernel
theorem dX4_count_49 : decode cX4_count 49 = .ok (.getfield 37, 3) := by decide +kernel
theorem dX4_count_52 : decode cX4_count 52 = .ok (.iconst 0, 1) := by decide +kernel
theorem dX4_count_53 : decode cX4_count 53 = .ok (.baload, 1) := by decide +kernel
theorem dX4_count_54 : decode cX4_count 54 = .ok (.invokestatic 97, 3) := by decide +kernel
theorem dX4_count_57 : decode cX4_count 57 = .ok (.aload_n 0, 1) := by decide +kernel
theorem dX4_count_58 : decode cX4_count 58 = .ok (.getfield 37, 3) := by decide +kernel
theorem dX4_count_61 : decode cX4_count 61 = .ok (.iconst 1, 1) := by decide +kernel
theorem dX4_count_62 : decode cX4_count 62 = .ok (.baload, 1) := by decide +kernel
theorem dX4_count_63 : decode cX4_count 63 = .ok (.invokestatic 97, 3) := by decide +kernel
theorem dX4_count_66 : decode cX4_count 66 = .ok (.iadd, 1) := by decide +kernel
theorem dX4_count_67 : decode cX4_count 67 = .ok (.ireturn, 1) := by decide +kernel
theorem dX4_count_68 : decode cX4_count 68 = .ok (.aload_n 0, 1) := by decide +kernel
theorem dX4_count_69 : decode cX4_count 69 = .ok (.getfield 12, 3) := by decide +kernel
theorem dX4_count_72 : decode cX4_count 72 = .ok (.getfield 66, 3) := by decide +kernel
theorem dX4_count_75 : decode cX4_count 75 = .ok (.ireturn, 1) := by decide +kernel
theorem dX4_count_76 : decode cX4_count 76 = .ok (.aload_n 0, 1) := by decide +kernel
theorem dX4_count_77 : decode cX4_count 77 = .ok (.getfield 43, 3) := by decide +kernel
theorem dX4_count_80 : decode cX4_count 80 = .ok (.iconst 0, 1) := by decide +kernel
theorem dX4_count_81 : decode cX4_count 81 = .ok (.aaload, 1) := by decide +kernel
theorem dX4_count_82 : decode cX4_count 82 = .ok (.getfield 209, 3) := by decide +kernel
theorem dX4_count_85 : decode cX4_count 85 = .ok (.iconst (-1), 1) := by decide +kernel
theorem dX4_count_86 : decode cX4_count 86 = .ok (.if_icmp .ne 8, 3) := by decide +kernel
theorem dX4_count_89 : decode cX4_count 89 = .ok (.bipush (-4), 2) := by decide +kernel
theorem dX4_count_91 : decode cX4_count 91 = .ok (.goto 12, 3) := by decide +kernel
theorem dX4_count_94 : decode cX4_count 94 = .ok (.aload_n 0, 1) := by decide +kernel
theorem dX4_count_95 : decode cX4_count 95 = .ok (.getfield 43, 3) := by decide +kernel
theorem dX4_count_98 : decode cX4_count 98 = .ok (.iconst 0, 1) := by decide +kernel
theorem dX4_count_99 : decode cX4_count 99 = .ok (.aaload, 1) := by decide +kernel
theorem dX4_count_100 : decode cX4_count 100 = .ok (.getfield 209, 3) := by decide +kernel
theorem dX4_count_103 : decode cX4_count 103 = .ok (.ireturn, 1) := by decide +kernel
theorem dX4_count_104 : decode cX4_count 104 = .ok (.aload_n 0, 1) := by decide +kernel
theorem dX4_count_105 : decode cX4_count 105 = .ok (.getfield 26, 3) := by decide +kernel
theorem dX4_count_108 : decode cX4_count 108 = .ok (.iconst 2, 1) := by decide +kernel
theorem dX4_count_109 : decode cX4_count 109 = .ok (.invokevirtual 151, 3) := by decide +kernel
theorem dX4_count_112 : decode cX4_count 112 = .ok (.ireturn, 1) := by decide +kernel
theorem dX4_count_113 : decode cX4_count 113 = .ok (.aload_n 0, 1) := by decide +kernel
theorem dX4_count_114 : decode cX4_count 114 = .ok (.getfield 26, 3) := by decide +kernel
theorem dX4_count_117 : decode cX4_count 117 = .ok (.iconst 3, 1) := by decide +kernel
theorem dX4_count_118 : decode cX4_count 118 = .ok (.invokevirtual 151, 3) := by decide +kernel
theorem dX4_count_121 : decode cX4_count 121 = .ok (.ireturn, 1) := by decide +kernel
theorem dX4_count_122 : decode cX4_count 122 = .ok (.iconst (-1), 1) := by decide +kernel
theorem dX4_count_123 : decode cX4_count 123 = .ok (.ireturn, 1) := by decide +kernel
theorem dX4_within_0 : decode cX4_within 0 = .ok (.iload_n 0, 1) := by decide +kernel
theorem dX4_within_1 : decode cX4_within 1 = .ok (.ifCond .lt 12, 3) := by decide +kernel
theorem dX4_within_4 : decode cX4_within 4 = .ok (.iload_n 0, 1) := by decide +kernel
theorem dX4_within_5 : decode cX4_within 5 = .ok (.iload_n 1, 1) := by decide +kernel
theorem dX4_within_6 : decode cX4_within 6 = .ok (.if_icmp .gt 7, 3) := by decide +kernel
theorem dX4_within_9 : decode cX4_within 9 = .ok (.iconst 1, 1) := by decide +kernel
theorem dX4_within_10 : decode cX4_within 10 = .ok (.goto 4, 3) := by decide +kernel
theorem dX4_within_13 : decode cX4_within 13 = .ok (.iconst 0, 1) := by decide +kernel
theorem dX4_within_14 : decode cX4_within 14 = .ok (.ireturn, 1) := by decide +kernel
theorem dX4_bit_0 : decode cX4_bit 0 = .ok (.iload_n 0, 1) := by decide +kernel
theorem dX4_bit_1 : decode cX4_bit 1 = .ok (.ifCond .eq 7, 3) := by decide +kernel
theorem dX4_bit_4 : decode cX4_bit 4 = .ok (.iconst 1, 1) := by decide +kernel
theorem dX4_bit_5 : decode cX4_bit 5 = .ok (.goto 4, 3) := by decide +kernel
theorem dX4_bit_8 : decode cX4_bit 8 = .ok (.iconst 0, 1) := by decide +kernel
theorem dX4_bit_9 : decode cX4_bit 9 = .ok (.ireturn, 1) := by decide +kernel
theorem dX4_sign_0 : decode cX4_sign 0 = .ok (.iload_n 0, 1) := by decide +kernel
theorem dX4_sign_1 : decode cX4_sign 1 = .ok (.ifCond .le 7, 3) := by decide +kernel
theorem dX4_sign_4 : decode cX4_sign 4 = .ok (.iconst 1, 1) := by decide +kernel
theorem dX4_sign_5 : decode cX4_sign 5 = .ok (.goto 12, 3) := by decide +kernel
theorem dX4_sign_8 : decode cX4_sign 8 = .ok (.iload_n 0, 1) := by decide +kernel
theorem dX4_sign_9 : decode cX4_sign 9 = .ok (.ifCond .ge 7, 3) := by decide +kernel
theorem dX4_sign_12 : decode cX4_sign 12 = .ok (.iconst (-1), 1) := by decide +kernel
theorem dX4_sign_13 : decode cX4_sign 13 = .ok (.goto 4, 3) := by decide +kernel
theorem dX4_sign_16 : decode cX4_sign 16 = .ok (.iconst 0, 1) := by decide +kernel
theorem dX4_sign_17 : decode cX4_sign 17 = .ok (.ireturn, 1) := by decide +kernel
theorem dX4_isMember_0 : decode cX4_isMember 0 = .ok (.iload_n 1, 1) := by decide +kernel
theorem dX4_isMember_1 : decode cX4_isMember 1 = .ok (.aload_n 0, 1) := by decide +kernel
theorem dX4_isMember_2 : decode cX4_isMember 2 = .ok (.getfield 26, 3) := by decide +kernel
theorem dX4_isMember_5 : decode cX4_isMember 5 = .ok (.getfield 84, 3) := by decide +kernel
theorem dX4_isMember_8 : decode cX4_isMember 8 = .ok (.iconst 1, 1) := by decide +kernel
theorem dX4_isMember_9 : decode cX4_isMember 9 = .ok (.isub, 1) := by decide +kernel
theorem dX4_isMember_10 : decode cX4_isMember 10 = .ok (.invokestatic 62, 3) := by decide +kernel
theorem dX4_isMember_13 : decode cX4_isMember 13 = .ok (.ireturn, 1) := by decide +kernel
theorem dX4_canAlter_0 : decode cX4_canAlter 0 = .ok (.aload_n 0, 1) := by decide +kernel
theorem dX4_canAlter_1 : decode cX4_canAlter 1 = .ok (.iload_n 1, 1) := by decide +kernel
theorem dX4_canAlter_2 : decode cX4_canAlter 2 = .ok (.invokevirtual 112, 3) := by decide +kernel
theorem dX4_canAlter_5 : decode cX4_canAlter 5 = .ok (.ifCond .eq 27, 3) := by decide +kernel
theorem dX4_canAlter_8 : decode cX4_canAlter 8 = .ok (.iload_n 2, 1) := by decide +kernel
theorem dX4_canAlter_9 : decode cX4_canAlter 9 = .ok (.iconst 3, 1) := by decide +kernel
theorem dX4_canAlter_10 : decode cX4_canAlter 10 = .ok (.invokestatic 62, 3) := by decide +kernel
theorem dX4_canAlter_13 : decode cX4_canAlter 13 = .ok (.ifCond .eq 19, 3) := by decide +kernel
theorem dX4_canAlter_16 : decode cX4_canAlter 16 = .ok (.iload_n 3, 1) := by decide +kernel
theorem dX4_canAlter_17 : decode cX4_canAlter 17 = .ok (.getstatic 212, 3) := by decide +kernel
theorem dX4_canAlter_20 : decode cX4_canAlter 20 = .ok (.iload_n 2, 1) := by decide +kernel
theorem dX4_canAlter_21 : decode cX4_canAlter 21 = .ok (.iaload, 1) := by decide +kernel
theorem dX4_canAlter_22 : decode cX4_canAlter 22 = .ok (.invokestatic 62, 3) := by decide +kernel
theorem dX4_canAlter_25 : decode cX4_canAlter 25 = .ok (.ifCond .eq 7, 3) := by decide +kernel
theorem dX4_canAlter_28 : decode cX4_canAlter 28 = .ok (.iconst 1, 1) := by decide +kernel
theorem dX4_canAlter_29 : decode cX4_canAlter 29 = .ok (.goto 4, 3) := by decide +kernel
theorem dX4_canAlter_32 : decode cX4_canAlter 32 = .ok (.iconst 0, 1) := by decide +kernel
theorem dX4_canAlter_33 : decode cX4_canAlter 33 = .ok (.ireturn, 1) := by decide +kernel
theorem dX4_soonest_0 : decode cX4_soonest 0 = .ok (.bipush 61, 2) := by decide +kernel
theorem dX4_soonest_2 : decode cX4_soonest 2 = .ok (.istore 4, 2) := by decide +kernel
theorem dX4_soonest_4 : decode cX4_soonest 4 = .ok (.bipush (-4), 2) := by decide +kernel
theorem dX4_soonest_6 : decode cX4_soonest 6 = .ok (.istore 5, 2) := by decide +kernel
theorem dX4_soonest_8 : decode cX4_soonest 8 = .ok (.iconst 0, 1) := by decide +kernel
theorem dX4_soonest_9 : decode cX4_soonest 9 = .ok (.istore 6, 2) := by decide +kernel
theorem dX4_soonest_11 : decode cX4_soonest 11 = .ok (.iload 6, 2) := by decide +kernel
theorem dX4_soonest_13 : decode cX4_soonest 13 = .ok (.getstatic 212, 3) := by decide +kernel
theorem dX4_soonest_16 : decode cX4_soonest 16 = .ok (.iload_n 2, 1) := by decide +kernel
theorem dX4_soonest_17 : decode cX4_soonest 17 = .ok (.iaload, 1) := by decide +kernel
theorem dX4_soonest_18 : decode cX4_soonest 18 = .ok (.if_icmp .gt 55, 3) := by decide +kernel
theorem dX4_soonest_21 : decode cX4_soonest 21 = .ok (.aload_n 0, 1) := by decide +kernel
theorem dX4_soonest_22 : decode cX4_soonest 22 = .ok (.getfield 30, 3) := by decide +kernel
theorem dX4_soonest_25 : decode cX4_soonest 25 = .ok (.aload_n 0, 1) := by decide +kernel
theorem dX4_soonest_26 : decode cX4_soonest 26 = .ok (.getfield 26, 3) := by decide +kernel
theorem dX4_soonest_29 : decode cX4_soonest 29 = .ok (.invokevirtual 80, 3) := by decide +kernel
theorem dX4_soonest_32 : decode cX4_soonest 32 = .ok (.aload_n 0, 1) := by decide +kernel
theorem dX4_soonest_33 : decode cX4_soonest 33 = .ok (.getfield 30, 3) := by decide +kernel
theorem dX4_soonest_36 : decode cX4_soonest 36 = .ok (.iload_n 1, 1) := by decide +kernel
theorem dX4_soonest_37 : decode cX4_soonest 37 = .ok (.iload_n 2, 1) := by decide +kernel
theorem dX4_soonest_38 : decode cX4_soonest 38 = .ok (.iload 6, 2) := by decide +kernel
theorem dX4_soonest_40 : decode cX4_soonest 40 = .ok (.invokevirtual 141, 3) := by decide +kernel
theorem dX4_soonest_43 : decode cX4_soonest 43 = .ok (.aload_n 0, 1) := by decide +kernel
theorem dX4_soonest_44 : decode cX4_soonest 44 = .ok (.getfield 30, 3) := by decide +kernel
theorem dX4_soonest_47 : decode cX4_soonest 47 = .ok (.invokevirtual 154, 3) := by decide +kernel
theorem dX4_soonest_50 : decode cX4_soonest 50 = .ok (.istore 7, 2) := by decide +kernel
theorem dX4_soonest_52 : decode cX4_soonest 52 = .ok (.iload 7, 2) := by decide +kernel
theorem dX4_soonest_54 : decode cX4_soonest 54 = .ok (.iload 4, 2) := by decide +kernel
theorem dX4_soonest_56 : decode cX4_soonest 56 = .ok (.if_icmp .ge 11, 3) := by decide +kernel
theorem dX4_soonest_59 : decode cX4_soonest 59 = .ok (.iload 7, 2) := by decide +kernel
theorem dX4_soonest_61 : decode cX4_soonest 61 = .ok (.istore 4, 2) := by decide +kernel
theorem dX4_soonest_63 : decode cX4_soonest 63 = .ok (.iload 6, 2) := by decide +kernel
theorem dX4_soonest_65 : decode cX4_soonest 65 = .ok (.istore 5, 2) := by decide +kernel
theorem dX4_soonest_67 : decode cX4_soonest 67 = .ok (.iinc 6 1, 3) := by decide +kernel
theorem dX4_soonest_70 : decode cX4_soonest 70 = .ok (.goto (-59), 3) := by decide +kernel
theorem dX4_soonest_73 : decode cX4_soonest 73 = .ok (.iload 5, 2) := by decide +kernel
theorem dX4_soonest_75 : decode cX4_soonest 75 = .ok (.bipush (-4), 2) := by decide +kernel
theorem dX4_soonest_77 : decode cX4_soonest 77 = .ok (.if_icmp .ne 6, 3) := by decide +kernel
theorem dX4_soonest_80 : decode cX4_soonest 80 = .ok (.bipush (-4), 2) := by decide +kernel
theorem dX4_soonest_82 : decode cX4_soonest 82 = .ok (.ireturn, 1) := by decide +kernel
theorem dX4_soonest_83 : decode cX4_soonest 83 = .ok (.iload_n 3, 1) := by decide +kernel
theorem dX4_soonest_84 : decode cX4_soonest 84 = .ok (.ifCond .ne 8, 3) := by decide +kernel
theorem dX4_soonest_87 : decode cX4_soonest 87 = .ok (.iload 5, 2) := by decide +kernel
theorem dX4_soonest_89 : decode cX4_soonest 89 = .ok (.goto 5, 3) := by decide +kernel
theorem dX4_soonest_92 : decode cX4_soonest 92 = .ok (.iload 4, 2) := by decide +kernel
theorem dX4_soonest_94 : decode cX4_soonest 94 = .ok (.ireturn, 1) := by decide +kernel
theorem dX4_soonerWith_0 : decode cX4_soonerWith 0 = .ok (.aload_n 0, 1) := by decide +kernel
theorem dX4_soonerWith_1 : decode cX4_soonerWith 1 = .ok (.getfield 30, 3) := by decide +kernel
theorem dX4_soonerWith_4 : decode cX4_soonerWith 4 = .ok (.aload_n 0, 1) := by decide +kernel
theorem dX4_soonerWith_5 : decode cX4_soonerWith 5 = .ok (.getfield 26, 3) := by decide +kernel
theorem dX4_soonerWith_8 : decode cX4_soonerWith 8 = .ok (.invokevirtual 80, 3) := by decide +kernel
theorem dX4_soonerWith_11 : decode cX4_soonerWith 11 = .ok (.aload_n 0, 1) := by decide +kernel
theorem dX4_soonerWith_12 : decode cX4_soonerWith 12 = .ok (.getfield 30, 3) := by decide +kernel
theorem dX4_soonerWith_15 : decode cX4_soonerWith 15 = .ok (.invokevirtual 154, 3) := by decide +kernel
theorem dX4_soonerWith_18 : decode cX4_soonerWith 18 = .ok (.istore_n 3, 1) := by decide +kernel
theorem dX4_soonerWith_19 : decode cX4_soonerWith 19 = .ok (.bipush (-4), 2) := by decide +kernel
theorem dX4_soonerWith_21 : decode cX4_soonerWith 21 = .ok (.istore 4, 2) := by decide +kernel
theorem dX4_soonerWith_23 : decode cX4_soonerWith 23 = .ok (.iconst 0, 1) := by decide +kernel
theorem dX4_soonerWith_24 : decode cX4_soonerWith 24 = .ok (.istore 5, 2) := by decide +kernel
theorem dX4_soonerWith_26 : decode cX4_soonerWith 26 = .ok (.iload 5, 2) := by decide +kernel
theorem dX4_soonerWith_28 : decode cX4_soonerWith 28 = .ok (.aload_n 0, 1) := by decide +kernel
theorem dX4_soonerWith_29 : decode cX4_soonerWith 29 = .ok (.getfield 26, 3) := by decide +kernel
theorem dX4_soonerWith_32 : decode cX4_soonerWith 32 = .ok (.getfield 84, 3) := by decide +kernel
theorem dX4_soonerWith_35 : decode cX4_soonerWith 35 = .ok (.if_icmp .ge 80, 3) := by decide +kernel
theorem dX4_soonerWith_38 : decode cX4_soonerWith 38 = .ok (.aload_n 0, 1) := by decide +kernel
theorem dX4_soonerWith_39 : decode cX4_soonerWith 39 = .ok (.getfield 30, 3) := by decide +kernel
theorem dX4_soonerWith_42 : decode cX4_soonerWith 42 = .ok (.aload_n 0, 1) := by decide +kernel
theorem dX4_soonerWith_43 : decode cX4_soonerWith 43 = .ok (.getfield 26, 3) := by decide +kernel
theorem dX4_soonerWith_46 : decode cX4_soonerWith 46 = .ok (.invokevirtual 80, 3) := by decide +kernel
theorem dX4_soonerWith_49 : decode cX4_soonerWith 49 = .ok (.iload_n 1, 1) := by decide +kernel
theorem dX4_soonerWith_50 : decode cX4_soonerWith 50 = .ok (.ifCond .eq 15, 3) := by decide +kernel
theorem dX4_soonerWith_53 : decode cX4_soonerWith 53 = .ok (.aload_n 0, 1) := by decide +kernel
theorem dX4_soonerWith_54 : decode cX4_soonerWith 54 = .ok (.getfield 30, 3) := by decide +kernel
theorem dX4_soonerWith_57 : decode cX4_soonerWith 57 = .ok (.iload 5, 2) := by decide +kernel
theorem dX4_soonerWith_59 : decode cX4_soonerWith 59 = .ok (.invokevirtual 215, 3) := by decide +kernel
theorem dX4_soonerWith_62 : decode cX4_soonerWith 62 = .ok (.goto 25, 3) := by decide +kernel
theorem dX4_soonerWith_65 : decode cX4_soonerWith 65 = .ok (.aload_n 0, 1) := by decide +kernel
theorem dX4_soonerWith_66 : decode cX4_soonerWith 66 = .ok (.getfield 30, 3) := by decide +kernel
theorem dX4_soonerWith_69 : decode cX4_soonerWith 69 = .ok (.iload 5, 2) := by decide +kernel
theorem dX4_soonerWith_71 : decode cX4_soonerWith 71 = .ok (.iconst 1, 1) := by decide +kernel
theorem dX4_soonerWith_72 : decode cX4_soonerWith 72 = .ok (.iconst 1, 1) := by decide +kernel
theorem dX4_soonerWith_73 : decode cX4_soonerWith 73 = .ok (.aload_n 0, 1) := by decide +kernel
theorem dX4_soonerWith_74 : decode cX4_soonerWith 74 = .ok (.getfield 26, 3) := by decide +kernel
theorem dX4_soonerWith_77 : decode cX4_soonerWith 77 = .ok (.iload 5, 2) := by decide +kernel
theorem dX4_soonerWith_79 : decode cX4_soonerWith 79 = .ok (.iconst 1, 1) := by decide +kernel
theorem dX4_soonerWith_80 : decode cX4_soonerWith 80 = .ok (.invokevirtual 116, 3) := by decide +kernel
theorem dX4_soonerWith_83 : decode cX4_soonerWith 83 = .ok (.isub, 1) := by decide +kernel
theorem dX4_soonerWith_84 : decode cX4_soonerWith 84 = .ok (.invokevirtual 141, 3) := by decide +kernel
theorem dX4_soonerWith_87 : decode cX4_soonerWith 87 = .ok (.aload_n 0, 1) := by decide +kernel
theorem dX4_soonerWith_88 : decode cX4_soonerWith 88 = .ok (.getfield 30, 3) := by decide +kernel
theorem dX4_soonerWith_91 : decode cX4_soonerWith 91 = .ok (.invokevirtual 154, 3) := by decide +kernel
theorem dX4_soonerWith_94 : decode cX4_soonerWith 94 = .ok (.istore 6, 2) := by decide +kernel
theorem dX4_soonerWith_96 : decode cX4_soonerWith 96 = .ok (.iload 6, 2) := by decide +kernel
theorem dX4_soonerWith_98 : decode cX4_soonerWith 98 = .ok (.iload_n 3, 1) := by decide +kernel
theorem dX4_soonerWith_99 : decode cX4_soonerWith 99 = .ok (.if_icmp .ge 10, 3) := by decide +kernel
theorem dX4_soonerWith_102 : decode cX4_soonerWith 102 = .ok (.iload 6, 2) := by decide +kernel
theorem dX4_soonerWith_104 : decode cX4_soonerWith 104 = .ok (.istore_n 3, 1) := by decide +kernel
theorem dX4_soonerWith_105 : decode cX4_soonerWith 105 = .ok (.iload 5, 2) := by decide +kernel
theorem dX4_soonerWith_107 : decode cX4_soonerWith 107 = .ok (.istore 4, 2) := by decide +kernel
theorem dX4_soonerWith_109 : decode cX4_soonerWith 109 = .ok (.iinc 5 1, 3) := by decide +kernel
theorem dX4_soonerWith_112 : decode cX4_soonerWith 112 = .ok (.goto (-86), 3) := by decide +kernel
theorem dX4_soonerWith_115 : decode cX4_soonerWith 115 = .ok (.iload 4, 2) := by decide +kernel
theorem dX4_soonerWith_117 : decode cX4_soonerWith 117 = .ok (.bipush (-4), 2) := by decide +kernel
theorem dX4_soonerWith_119 : decode cX4_soonerWith 119 = .ok (.if_icmp .ne 6, 3) := by decide +kernel
theorem dX4_soonerWith_122 : decode cX4_soonerWith 122 = .ok (.bipush (-4), 2) := by decide +kernel
theorem dX4_soonerWith_124 : decode cX4_soonerWith 124 = .ok (.ireturn, 1) := by decide +kernel
theorem dX4_soonerWith_125 : decode cX4_soonerWith 125 = .ok (.iload_n 2, 1) := by decide +kernel
theorem dX4_soonerWith_126 : decode cX4_soonerWith 126 = .ok (.ifCond .ne 8, 3) := by decide +kernel
theorem dX4_soonerWith_129 : decode cX4_soonerWith 129 = .ok (.iload 4, 2) := by decide +kernel
theorem dX4_soonerWith_131 : decode cX4_soonerWith 131 = .ok (.goto 4, 3) := by decide +kernel
theorem dX4_soonerWith_134 : decode cX4_soonerWith 134 = .ok (.iload_n 3, 1) := by decide +kernel
theorem dX4_soonerWith_135 : decode cX4_soonerWith 135 = .ok (.ireturn, 1) := by decide +kernel
theorem dX4_byOdds_0 : decode cX4_byOdds 0 = .ok (.lconst 0, 1) := by decide +kernel
theorem dX4_byOdds_1 : decode cX4_byOdds 1 = .ok (.lstore 5, 2) := by decide +kernel
theorem dX4_byOdds_3 : decode cX4_byOdds 3 = .ok (.lconst 0, 1) := by decide +kernel
theorem dX4_byOdds_4 : decode cX4_byOdds 4 = .ok (.lstore 7, 2) := by decide +kernel
theorem dX4_byOdds_6 : decode cX4_byOdds 6 = .ok (.iconst 0, 1) := by decide +kernel
theorem dX4_byOdds_7 : decode cX4_byOdds 7 = .ok (.istore 9, 2) := by decide +kernel
theorem dX4_byOdds_9 : decode cX4_byOdds 9 = .ok (.iload 9, 2) := by decide +kernel
theorem dX4_byOdds_11 : decode cX4_byOdds 11 = .ok (.iconst 1, 1) := by decide +kernel
theorem dX4_byOdds_12 : decode cX4_byOdds 12 = .ok (.iload_n 2, 1) := by decide +kernel
theorem dX4_byOdds_13 : decode cX4_byOdds 13 = .ok (.ishl, 1) := by decide +kernel
theorem dX4_byOdds_14 : decode cX4_byOdds 14 = .ok (.if_icmp .ge 115, 3) := by decide +kernel
theorem dX4_byOdds_17 : decode cX4_byOdds 17 = .ok (.iload 9, 2) := by decide +kernel
theorem dX4_byOdds_19 : decode cX4_byOdds 19 = .ok (.iload_n 1, 1) := by decide +kernel
theorem dX4_byOdds_20 : decode cX4_byOdds 20 = .ok (.iload_n 2, 1) := by decide +kernel
theorem dX4_byOdds_21 : decode cX4_byOdds 21 = .ok (.invokestatic 219, 3) := by decide +kernel
theorem dX4_byOdds_24 : decode cX4_byOdds 24 = .ok (.lstore 10, 2) := by decide +kernel
theorem dX4_byOdds_26 : decode cX4_byOdds 26 = .ok (.lload 7, 2) := by decide +kernel
theorem dX4_byOdds_28 : decode cX4_byOdds 28 = .ok (.lload 10, 2) := by decide +kernel
theorem dX4_byOdds_30 : decode cX4_byOdds 30 = .ok (.ladd, 1) := by decide +kernel
theorem dX4_byOdds_31 : decode cX4_byOdds 31 = .ok (.lstore 7, 2) := by decide +kernel
theorem dX4_byOdds_33 : decode cX4_byOdds 33 = .ok (.lload 10, 2) := by decide +kernel
theorem dX4_byOdds_35 : decode cX4_byOdds 35 = .ok (.lconst 0, 1) := by decide +kernel
theorem dX4_byOdds_36 : decode cX4_byOdds 36 = .ok (.lcmp, 1) := by decide +kernel
theorem dX4_byOdds_37 : decode cX4_byOdds 37 = .ok (.ifCond .le 86, 3) := by decide +kernel
theorem dX4_byOdds_40 : decode cX4_byOdds 40 = .ok (.aload_n 0, 1) := by decide +kernel
theorem dX4_byOdds_41 : decode cX4_byOdds 41 = .ok (.getfield 30, 3) := by decide +kernel
theorem dX4_byOdds_44 : decode cX4_byOdds 44 = .ok (.aload_n 0, 1) := by decide +kernel
theorem dX4_byOdds_45 : decode cX4_byOdds 45 = .ok (.getfield 26, 3) := by decide +kernel
theorem dX4_byOdds_48 : decode cX4_byOdds 48 = .ok (.invokevirtual 80, 3) := by decide +kernel
theorem dX4_byOdds_51 : decode cX4_byOdds 51 = .ok (.iconst 0, 1) := by decide +kernel
theorem dX4_byOdds_52 : decode cX4_byOdds 52 = .ok (.istore 12, 2) := by decide +kernel
theorem dX4_byOdds_54 : decode cX4_byOdds 54 = .ok (.iload 12, 2) := by decide +kernel
theorem dX4_byOdds_56 : decode cX4_byOdds 56 = .ok (.iload_n 2, 1) := by decide +kernel
theorem dX4_byOdds_57 : decode cX4_byOdds 57 = .ok (.if_icmp .ge 32, 3) := by decide +kernel
theorem dX4_byOdds_60 : decode cX4_byOdds 60 = .ok (.aload_n 0, 1) := by decide +kernel
theorem dX4_byOdds_61 : decode cX4_byOdds 61 = .ok (.getfield 30, 3) := by decide +kernel
theorem dX4_byOdds_64 : decode cX4_byOdds 64 = .ok (.iload 9, 2) := by decide +kernel
theorem dX4_byOdds_66 : decode cX4_byOdds 66 = .ok (.iload 12, 2) := by decide +kernel
theorem dX4_byOdds_68 : decode cX4_byOdds 68 = .ok (.ishr, 1) := by decide +kernel
theorem dX4_byOdds_69 : decode cX4_byOdds 69 = .ok (.iconst 1, 1) := by decide +kernel
theorem dX4_byOdds_70 : decode cX4_byOdds 70 = .ok (.iand, 1) := by decide +kernel
theorem dX4_byOdds_71 : decode cX4_byOdds 71 = .ok (.ifCond .ne 7, 3) := by decide +kernel
theorem dX4_byOdds_74 : decode cX4_byOdds 74 = .ok (.iconst 1, 1) := by decide +kernel
theorem dX4_byOdds_75 : decode cX4_byOdds 75 = .ok (.goto 4, 3) := by decide +kernel
theorem dX4_byOdds_78 : decode cX4_byOdds 78 = .ok (.iconst 0, 1) := by decide +kernel
theorem dX4_byOdds_79 : decode cX4_byOdds 79 = .ok (.invokevirtual 190, 3) := by decide +kernel
theorem dX4_byOdds_82 : decode cX4_byOdds 82 = .ok (.pop, 1) := by decide +kernel
theorem dX4_byOdds_83 : decode cX4_byOdds 83 = .ok (.iinc 12 1, 3) := by decide +kernel
theorem dX4_byOdds_86 : decode cX4_byOdds 86 = .ok (.goto (-32), 3) := by decide +kernel
theorem dX4_byOdds_89 : decode cX4_byOdds 89 = .ok (.lload 5, 2) := by decide +kernel
theorem dX4_byOdds_91 : decode cX4_byOdds 91 = .ok (.lload 10, 2) := by decide +kernel
theorem dX4_byOdds_93 : decode cX4_byOdds 93 = .ok (.iload 4, 2) := by decide +kernel
theorem dX4_byOdds_95 : decode cX4_byOdds 95 = .ok (.ifCond .eq 16, 3) := by decide +kernel
theorem dX4_byOdds_98 : decode cX4_byOdds 98 = .ok (.aload_n 0, 1) := by decide +kernel
theorem dX4_byOdds_99 : decode cX4_byOdds 99 = .ok (.getfield 30, 3) := by decide +kernel
theorem dX4_byOdds_102 : decode cX4_byOdds 102 = .ok (.invokevirtual 93, 3) := by decide +kernel
theorem dX4_byOdds_105 : decode cX4_byOdds 105 = .ok (.invokestatic 97, 3) := by decide +kernel
theorem dX4_byOdds_108 : decode cX4_byOdds 108 = .ok (.goto 10, 3) := by decide +kernel
theorem dX4_byOdds_111 : decode cX4_byOdds 111 = .ok (.aload_n 0, 1) := by decide +kernel
theorem dX4_byOdds_112 : decode cX4_byOdds 112 = .ok (.getfield 30, 3) := by decide +kernel
theorem dX4_byOdds_115 : decode cX4_byOdds 115 = .ok (.getfield 90, 3) := by decide +kernel
theorem dX4_byOdds_118 : decode cX4_byOdds 118 = .ok (.i2l, 1) := by decide +kernel
theorem dX4_byOdds_119 : decode cX4_byOdds 119 = .ok (.lmul, 1) := by decide +kernel
theorem dX4_byOdds_120 : decode cX4_byOdds 120 = .ok (.ladd, 1) := by decide +kernel
theorem dX4_byOdds_121 : decode cX4_byOdds 121 = .ok (.lstore 5, 2) := by decide +kernel
theorem dX4_byOdds_123 : decode cX4_byOdds 123 = .ok (.iinc 9 1, 3) := by decide +kernel
theorem dX4_byOdds_126 : decode cX4_byOdds 126 = .ok (.goto (-117), 3) := by decide +kernel
theorem dX4_byOdds_129 : decode cX4_byOdds 129 = .ok (.lload 7, 2) := by decide +kernel
theorem dX4_byOdds_131 : decode cX4_byOdds 131 = .ok (.lload 5, 2) := by decide +kernel
theorem dX4_byOdds_133 : decode cX4_byOdds 133 = .ok (.invokestatic 223, 3) := by decide +kernel
theorem dX4_byOdds_136 : decode cX4_byOdds 136 = .ok (.lstore 9, 2) := by decide +kernel
theorem dX4_byOdds_138 : decode cX4_byOdds 138 = .ok (.lload 9, 2) := by decide +kernel
theorem dX4_byOdds_140 : decode cX4_byOdds 140 = .ok (.lconst 1, 1) := by decide +kernel
theorem dX4_byOdds_141 : decode cX4_byOdds 141 = .ok (.lcmp, 1) := by decide +kernel
theorem dX4_byOdds_142 : decode cX4_byOdds 142 = .ok (.ifCond .ge 6, 3) := by decide +kernel
theorem dX4_byOdds_145 : decode cX4_byOdds 145 = .ok (.iload_n 3, 1) := by decide +kernel
theorem dX4_byOdds_146 : decode cX4_byOdds 146 = .ok (.i2l, 1) := by decide +kernel
theorem dX4_byOdds_147 : decode cX4_byOdds 147 = .ok (.lreturn, 1) := by decide +kernel
theorem dX4_byOdds_148 : decode cX4_byOdds 148 = .ok (.iload_n 3, 1) := by decide +kernel
theorem dX4_byOdds_149 : decode cX4_byOdds 149 = .ok (.ifCond .ne 11, 3) := by decide +kernel
theorem dX4_byOdds_152 : decode cX4_byOdds 152 = .ok (.lload 5, 2) := by decide +kernel
theorem dX4_byOdds_154 : decode cX4_byOdds 154 = .ok (.lload 9, 2) := by decide +kernel
theorem dX4_byOdds_156 : decode cX4_byOdds 156 = .ok (.ldiv, 1) := by decide +kernel
theorem dX4_byOdds_157 : decode cX4_byOdds 157 = .ok (.goto 8, 3) := by decide +kernel
theorem dX4_byOdds_160 : decode cX4_byOdds 160 = .ok (.lload 7, 2) := by decide +kernel
theorem dX4_byOdds_162 : decode cX4_byOdds 162 = .ok (.lload 9, 2) := by decide +kernel
theorem dX4_byOdds_164 : decode cX4_byOdds 164 = .ok (.ldiv, 1) := by decide +kernel
theorem dX4_byOdds_165 : decode cX4_byOdds 165 = .ok (.lreturn, 1) := by decide +kernel
theorem dX4_weightOf_0 : decode cX4_weightOf 0 = .ok (.lconst 1, 1) := by decide +kernel
theorem dX4_weightOf_1 : decode cX4_weightOf 1 = .ok (.lstore_n 3, 1) := by decide +kernel
theorem dX4_weightOf_2 : decode cX4_weightOf 2 = .ok (.iconst 0, 1) := by decide +kernel
theorem dX4_weightOf_3 : decode cX4_weightOf 3 = .ok (.istore 5, 2) := by decide +kernel
theorem dX4_weightOf_5 : decode cX4_weightOf 5 = .ok (.iload 5, 2) := by decide +kernel
theorem dX4_weightOf_7 : decode cX4_weightOf 7 = .ok (.iload_n 2, 1) := by decide +kernel
theorem dX4_weightOf_8 : decode cX4_weightOf 8 = .ok (.if_icmp .ge 32, 3) := by decide +kernel
theorem dX4_weightOf_11 : decode cX4_weightOf 11 = .ok (.lload_n 3, 1) := by decide +kernel
theorem dX4_weightOf_12 : decode cX4_weightOf 12 = .ok (.iload_n 0, 1) := by decide +kernel
theorem dX4_weightOf_13 : decode cX4_weightOf 13 = .ok (.iload 5, 2) := by decide +kernel
theorem dX4_weightOf_15 : decode cX4_weightOf 15 = .ok (.ishr, 1) := by decide +kernel
theorem dX4_weightOf_16 : decode cX4_weightOf 16 = .ok (.iconst 1, 1) := by decide +kernel
theorem dX4_weightOf_17 : decode cX4_weightOf 17 = .ok (.iand, 1) := by decide +kernel
theorem dX4_weightOf_18 : decode cX4_weightOf 18 = .ok (.iconst 1, 1) := by decide +kernel
theorem dX4_weightOf_19 : decode cX4_weightOf 19 = .ok (.if_icmp .ne 8, 3) := by decide +kernel
theorem dX4_weightOf_22 : decode cX4_weightOf 22 = .ok (.iload_n 1, 1) := by decide +kernel
theorem dX4_weightOf_23 : decode cX4_weightOf 23 = .ok (.i2l, 1) := by decide +kernel
theorem dX4_weightOf_24 : decode cX4_weightOf 24 = .ok (.goto 8, 3) := by decide +kernel
theorem dX4_weightOf_27 : decode cX4_weightOf 27 = .ok (.bipush 10, 2) := by decide +kernel
theorem dX4_weightOf_29 : decode cX4_weightOf 29 = .ok (.iload_n 1, 1) := by decide +kernel
theorem dX4_weightOf_30 : decode cX4_weightOf 30 = .ok (.isub, 1) := by decide +kernel
theorem dX4_weightOf_31 : decode cX4_weightOf 31 = .ok (.i2l, 1) := by decide +kernel
theorem dX4_weightOf_32 : decode cX4_weightOf 32 = .ok (.lmul, 1) := by decide +kernel
theorem dX4_weightOf_33 : decode cX4_weightOf 33 = .ok (.lstore_n 3, 1) := by decide +kernel
theorem dX4_weightOf_34 : decode cX4_weightOf 34 = .ok (.iinc 5 1, 3) := by decide +kernel
theorem dX4_weightOf_37 : decode cX4_weightOf 37 = .ok (.goto (-32), 3) := by decide +kernel
theorem dX4_weightOf_40 : decode cX4_weightOf 40 = .ok (.lload_n 3, 1) := by decide +kernel
theorem dX4_weightOf_41 : decode cX4_weightOf 41 = .ok (.lreturn, 1) := by decide +kernel
theorem dX4_commonDivisor_0 : decode cX4_commonDivisor 0 = .ok (.lload_n 0, 1) := by decide +kernel
theorem dX4_commonDivisor_1 : decode cX4_commonDivisor 1 = .ok (.lstore 4, 2) := by decide +kernel
theorem dX4_commonDivisor_3 : decode cX4_commonDivisor 3 = .ok (.lload_n 2, 1) := by decide +kernel
theorem dX4_commonDivisor_4 : decode cX4_commonDivisor 4 = .ok (.lstore 6, 2) := by decide +kernel
theorem dX4_commonDivisor_6 : decode cX4_commonDivisor 6 = .ok (.iconst 0, 1) := by decide +kernel
theorem dX4_commonDivisor_7 : decode cX4_commonDivisor 7 = .ok (.istore 8, 2) := by decide +kernel
theorem dX4_commonDivisor_9 : decode cX4_commonDivisor 9 = .ok (.iload 8, 2) := by decide +kernel
theorem dX4_commonDivisor_11 : decode cX4_commonDivisor 11 = .ok (.sipush 200, 3) := by decide +kernel
theorem dX4_commonDivisor_14 : decode cX4_commonDivisor 14 = .ok (.if_icmp .ge 31, 3) := by decide +kernel
theorem dX4_commonDivisor_17 : decode cX4_commonDivisor 17 = .ok (.lload 6, 2) := by decide +kernel
theorem dX4_commonDivisor_19 : decode cX4_commonDivisor 19 = .ok (.lconst 0, 1) := by decide +kernel
theorem dX4_commonDivisor_20 : decode cX4_commonDivisor 20 = .ok (.lcmp, 1) := by decide +kernel
theorem dX4_commonDivisor_21 : decode cX4_commonDivisor 21 = .ok (.ifCond .eq 24, 3) := by decide +kernel
theorem dX4_commonDivisor_24 : decode cX4_commonDivisor 24 = .ok (.lload 4, 2) := by decide +kernel
theorem dX4_commonDivisor_26 : decode cX4_commonDivisor 26 = .ok (.lload 6, 2) := by decide +kernel
theorem dX4_commonDivisor_28 : decode cX4_commonDivisor 28 = .ok (.lrem, 1) := by decide +kernel
theorem dX4_commonDivisor_29 : decode cX4_commonDivisor 29 = .ok (.lstore 9, 2) := by decide +kernel
theorem dX4_commonDivisor_31 : decode cX4_commonDivisor 31 = .ok (.lload 6, 2) := by decide +kernel
theorem dX4_commonDivisor_33 : decode cX4_commonDivisor 33 = .ok (.lstore 4, 2) := by decide +kernel
theorem dX4_commonDivisor_35 : decode cX4_commonDivisor 35 = .ok (.lload 9, 2) := by decide +kernel
theorem dX4_commonDivisor_37 : decode cX4_commonDivisor 37 = .ok (.lstore 6, 2) := by decide +kernel
theorem dX4_commonDivisor_39 : decode cX4_commonDivisor 39 = .ok (.iinc 8 1, 3) := by decide +kernel
theorem dX4_commonDivisor_42 : decode cX4_commonDivisor 42 = .ok (.goto (-33), 3) := by decide +kernel
theorem dX4_commonDivisor_45 : decode cX4_commonDivisor 45 = .ok (.lload 4, 2) := by decide +kernel
theorem dX4_commonDivisor_47 : decode cX4_commonDivisor 47 = .ok (.lreturn, 1) := by decide +kernel
theorem dX4_asSeen_0 : decode cX4_asSeen 0 = .ok (.iconst 0, 1) := by decide +kernel
theorem dX4_asSeen_1 : decode cX4_asSeen 1 = .ok (.istore_n 3, 1) := by decide +kernel
theorem dX4_asSeen_2 : decode cX4_asSeen 2 = .ok (.iconst 0, 1) := by decide +kernel
theorem dX4_asSeen_3 : decode cX4_asSeen 3 = .ok (.istore 4, 2) := by decide +kernel
theorem dX4_asSeen_5 : decode cX4_asSeen 5 = .ok (.iload 4, 2) := by decide +kernel
theorem dX4_asSeen_7 : decode cX4_asSeen 7 = .ok (.getstatic 212, 3) := by decide +kernel
theorem dX4_asSeen_10 : decode cX4_asSeen 10 = .ok (.iload_n 2, 1) := by decide +kernel
theorem dX4_asSeen_11 : decode cX4_asSeen 11 = .ok (.iaload, 1) := by decide +kernel
theorem dX4_asSeen_12 : decode cX4_asSeen 12 = .ok (.if_icmp .gt 31, 3) := by decide +kernel
theorem dX4_asSeen_15 : decode cX4_asSeen 15 = .ok (.aload_n 0, 1) := by decide +kernel
theorem dX4_asSeen_16 : decode cX4_asSeen 16 = .ok (.iload_n 1, 1) := by decide +kernel
theorem dX4_asSeen_17 : decode cX4_asSeen 17 = .ok (.iload_n 2, 1) := by decide +kernel
theorem dX4_asSeen_18 : decode cX4_asSeen 18 = .ok (.iload 4, 2) := by decide +kernel
theorem dX4_asSeen_20 : decode cX4_asSeen 20 = .ok (.invokevirtual 227, 3) := by decide +kernel
theorem dX4_asSeen_23 : decode cX4_asSeen 23 = .ok (.aload_n 0, 1) := by decide +kernel
theorem dX4_asSeen_24 : decode cX4_asSeen 24 = .ok (.invokevirtual 230, 3) := by decide +kernel
theorem dX4_asSeen_27 : decode cX4_asSeen 27 = .ok (.ifCond .eq 10, 3) := by decide +kernel
theorem dX4_asSeen_30 : decode cX4_asSeen 30 = .ok (.iload_n 3, 1) := by decide +kernel
theorem dX4_asSeen_31 : decode cX4_asSeen 31 = .ok (.iconst 1, 1) := by decide +kernel
theorem dX4_asSeen_32 : decode cX4_asSeen 32 = .ok (.iload 4, 2) := by decide +kernel
theorem dX4_asSeen_34 : decode cX4_asSeen 34 = .ok (.ishl, 1) := by decide +kernel
theorem dX4_asSeen_35 : decode cX4_asSeen 35 = .ok (.ior, 1) := by decide +kernel
theorem dX4_asSeen_36 : decode cX4_asSeen 36 = .ok (.istore_n 3, 1) := by decide +kernel
theorem dX4_asSeen_37 : decode cX4_asSeen 37 = .ok (.iinc 4 1, 3) := by decide +kernel
theorem dX4_asSeen_40 : decode cX4_asSeen 40 = .ok (.goto (-35), 3) := by decide +kernel
theorem dX4_asSeen_43 : decode cX4_asSeen 43 = .ok (.iload_n 3, 1) := by decide +kernel
theorem dX4_asSeen_44 : decode cX4_asSeen 44 = .ok (.ireturn, 1) := by decide +kernel
theorem dX4_traceWith_0 : decode cX4_traceWith 0 = .ok (.aload_n 0, 1) := by decide +kernel
theorem dX4_traceWith_1 : decode cX4_traceWith 1 = .ok (.getfield 30, 3) := by decide +kernel
theorem dX4_traceWith_4 : decode cX4_traceWith 4 = .ok (.aload_n 0, 1) := by decide +kernel
theorem dX4_traceWith_5 : decode cX4_traceWith 5 = .ok (.getfield 26, 3) := by decide +kernel
theorem dX4_traceWith_8 : decode cX4_traceWith 8 = .ok (.invokevirtual 80, 3) := by decide +kernel
theorem dX4_traceWith_11 : decode cX4_traceWith 11 = .ok (.aload_n 0, 1) := by decide +kernel
theorem dX4_traceWith_12 : decode cX4_traceWith 12 = .ok (.getfield 30, 3) := by decide +kernel
theorem dX4_traceWith_15 : decode cX4_traceWith 15 = .ok (.iload_n 1, 1) := by decide +kernel
theorem dX4_traceWith_16 : decode cX4_traceWith 16 = .ok (.iload_n 2, 1) := by decide +kernel
theorem dX4_traceWith_17 : decode cX4_traceWith 17 = .ok (.iload_n 3, 1) := by decide +kernel
theorem dX4_traceWith_18 : decode cX4_traceWith 18 = .ok (.invokevirtual 141, 3) := by decide +kernel
theorem dX4_traceWith_21 : decode cX4_traceWith 21 = .ok (.iconst 0, 1) := by decide +kernel
theorem dX4_traceWith_22 : decode cX4_traceWith 22 = .ok (.istore 4, 2) := by decide +kernel
theorem dX4_traceWith_24 : decode cX4_traceWith 24 = .ok (.iload 4, 2) := by decide +kernel
theorem dX4_traceWith_26 : decode cX4_traceWith 26 = .ok (.bipush 20, 2) := by decide +kernel
theorem dX4_traceWith_28 : decode cX4_traceWith 28 = .ok (.if_icmp .gt 32, 3) := by decide +kernel
theorem dX4_traceWith_31 : decode cX4_traceWith 31 = .ok (.aload_n 0, 1) := by decide +kernel
theorem dX4_traceWith_32 : decode cX4_traceWith 32 = .ok (.getfield 47, 3) := by decide +kernel
theorem dX4_traceWith_35 : decode cX4_traceWith 35 = .ok (.iload 4, 2) := by decide +kernel
theorem dX4_traceWith_37 : decode cX4_traceWith 37 = .ok (.aload_n 0, 1) := by decide +kernel
theorem dX4_traceWith_38 : decode cX4_traceWith 38 = .ok (.getfield 30, 3) := by decide +kernel
theorem dX4_traceWith_41 : decode cX4_traceWith 41 = .ok (.getfield 90, 3) := by decide +kernel
theorem dX4_traceWith_44 : decode cX4_traceWith 44 = .ok (.iastore, 1) := by decide +kernel
theorem dX4_traceWith_45 : decode cX4_traceWith 45 = .ok (.aload_n 0, 1) := by decide +kernel
theorem dX4_traceWith_46 : decode cX4_traceWith 46 = .ok (.getfield 30, 3) := by decide +kernel
theorem dX4_traceWith_49 : decode cX4_traceWith 49 = .ok (.iconst 1, 1) := by decide +kernel
theorem dX4_traceWith_50 : decode cX4_traceWith 50 = .ok (.invokevirtual 190, 3) := by decide +kernel
theorem dX4_traceWith_53 : decode cX4_traceWith 53 = .ok (.pop, 1) := by decide +kernel
theorem dX4_traceWith_54 : decode cX4_traceWith 54 = .ok (.iinc 4 1, 3) := by decide +kernel
theorem dX4_traceWith_57 : decode cX4_traceWith 57 = .ok (.goto (-33), 3) := by decide +kernel
theorem dX4_traceWith_60 : decode cX4_traceWith 60 = .ok (.return_, 1) := by decide +kernel
theorem dX4_traceIsAsSeen_0 : decode cX4_traceIsAsSeen 0 = .ok (.iconst 0, 1) := by decide +kernel
theorem dX4_traceIsAsSeen_1 : decode cX4_traceIsAsSeen 1 = .ok (.istore_n 1, 1) := by decide +kernel
theorem dX4_traceIsAsSeen_2 : decode cX4_traceIsAsSeen 2 = .ok (.iload_n 1, 1) := by decide +kernel
theorem dX4_traceIsAsSeen_3 : decode cX4_traceIsAsSeen 3 = .ok (.aload_n 0, 1) := by decide +kernel
theorem dX4_traceIsAsSeen_4 : decode cX4_traceIsAsSeen 4 = .ok (.getfield 26, 3) := by decide +kernel
theorem dX4_traceIsAsSeen_7 : decode cX4_traceIsAsSeen 7 = .ok (.getfield 171, 3) := by decide +kernel
theorem dX4_traceIsAsSeen_10 : decode cX4_traceIsAsSeen 10 = .ok (.if_icmp .ge 37, 3) := by decide +kernel
theorem dX4_traceIsAsSeen_13 : decode cX4_traceIsAsSeen 13 = .ok (.aload_n 0, 1) := by decide +kernel
theorem dX4_traceIsAsSeen_14 : decode cX4_traceIsAsSeen 14 = .ok (.getfield 47, 3) := by decide +kernel
theorem dX4_traceIsAsSeen_17 : decode cX4_traceIsAsSeen 17 = .ok (.aload_n 0, 1) := by decide +kernel
theorem dX4_traceIsAsSeen_18 : decode cX4_traceIsAsSeen 18 = .ok (.getfield 26, 3) := by decide +kernel
theorem dX4_traceIsAsSeen_21 : decode cX4_traceIsAsSeen 21 = .ok (.getfield 174, 3) := by decide +kernel
theorem dX4_traceIsAsSeen_24 : decode cX4_traceIsAsSeen 24 = .ok (.iload_n 1, 1) := by decide +kernel
theorem dX4_traceIsAsSeen_25 : decode cX4_traceIsAsSeen 25 = .ok (.iaload, 1) := by decide +kernel
theorem dX4_traceIsAsSeen_26 : decode cX4_traceIsAsSeen 26 = .ok (.iaload, 1) := by decide +kernel
theorem dX4_traceIsAsSeen_27 : decode cX4_traceIsAsSeen 27 = .ok (.aload_n 0, 1) := by decide +kernel
theorem dX4_traceIsAsSeen_28 : decode cX4_traceIsAsSeen 28 = .ok (.getfield 26, 3) := by decide +kernel
theorem dX4_traceIsAsSeen_31 : decode cX4_traceIsAsSeen 31 = .ok (.getfield 177, 3) := by decide +kernel
theorem dX4_traceIsAsSeen_34 : decode cX4_traceIsAsSeen 34 = .ok (.iload_n 1, 1) := by decide +kernel
theorem dX4_traceIsAsSeen_35 : decode cX4_traceIsAsSeen 35 = .ok (.iaload, 1) := by decide +kernel
theorem dX4_traceIsAsSeen_36 : decode cX4_traceIsAsSeen 36 = .ok (.if_icmp .eq 5, 3) := by decide +kernel
theorem dX4_traceIsAsSeen_39 : decode cX4_traceIsAsSeen 39 = .ok (.iconst 0, 1) := by decide +kernel
theorem dX4_traceIsAsSeen_40 : decode cX4_traceIsAsSeen 40 = .ok (.ireturn, 1) := by decide +kernel
theorem dX4_traceIsAsSeen_41 : decode cX4_traceIsAsSeen 41 = .ok (.iinc 1 1, 3) := by decide +kernel
theorem dX4_traceIsAsSeen_44 : decode cX4_traceIsAsSeen 44 = .ok (.goto (-42), 3) := by decide +kernel
theorem dX4_traceIsAsSeen_47 : decode cX4_traceIsAsSeen 47 = .ok (.iconst 1, 1) := by decide +kernel
theorem dX4_traceIsAsSeen_48 : decode cX4_traceIsAsSeen 48 = .ok (.ireturn, 1) := by decide +kernel
theorem dX4_tallyWants_0 : decode cX4_tallyWants 0 = .ok (.aload_n 0, 1) := by decide +kernel
theorem dX4_tallyWants_1 : decode cX4_tallyWants 1 = .ok (.getfield 51, 3) := by decide +kernel
theorem dX4_tallyWants_4 : decode cX4_tallyWants 4 = .ok (.iconst 0, 1) := by decide +kernel
theorem dX4_tallyWants_5 : decode cX4_tallyWants 5 = .ok (.invokestatic 233, 3) := by decide +kernel
theorem dX4_tallyWants_8 : decode cX4_tallyWants 8 = .ok (.iconst 0, 1) := by decide +kernel
theorem dX4_tallyWants_9 : decode cX4_tallyWants 9 = .ok (.istore_n 2, 1) := by decide +kernel
theorem dX4_tallyWants_10 : decode cX4_tallyWants 10 = .ok (.iconst 0, 1) := by decide +kernel
theorem dX4_tallyWants_11 : decode cX4_tallyWants 11 = .ok (.istore_n 3, 1) := by decide +kernel
theorem dX4_tallyWants_12 : decode cX4_tallyWants 12 = .ok (.iload_n 3, 1) := by decide +kernel
theorem dX4_tallyWants_13 : decode cX4_tallyWants 13 = .ok (.bipush 20, 2) := by decide +kernel
theorem dX4_tallyWants_15 : decode cX4_tallyWants 15 = .ok (.if_icmp .gt 64, 3) := by decide +kernel
theorem dX4_tallyWants_18 : decode cX4_tallyWants 18 = .ok (.aload_n 0, 1) := by decide +kernel
theorem dX4_tallyWants_19 : decode cX4_tallyWants 19 = .ok (.iload_n 1, 1) := by decide +kernel
theorem dX4_tallyWants_20 : decode cX4_tallyWants 20 = .ok (.iconst 2, 1) := by decide +kernel
theorem dX4_tallyWants_21 : decode cX4_tallyWants 21 = .ok (.iload_n 3, 1) := by decide +kernel
theorem dX4_tallyWants_22 : decode cX4_tallyWants 22 = .ok (.invokevirtual 227, 3) := by decide +kernel
theorem dX4_tallyWants_25 : decode cX4_tallyWants 25 = .ok (.aload_n 0, 1) := by decide +kernel
theorem dX4_tallyWants_26 : decode cX4_tallyWants 26 = .ok (.invokevirtual 230, 3) := by decide +kernel
theorem dX4_tallyWants_29 : decode cX4_tallyWants 29 = .ok (.ifCond .eq 44, 3) := by decide +kernel
theorem dX4_tallyWants_32 : decode cX4_tallyWants 32 = .ok (.iinc 2 1, 3) := by decide +kernel
theorem dX4_tallyWants_35 : decode cX4_tallyWants 35 = .ok (.iconst 0, 1) := by decide +kernel
theorem dX4_tallyWants_36 : decode cX4_tallyWants 36 = .ok (.istore 4, 2) := by decide +kernel
theorem dX4_tallyWants_38 : decode cX4_tallyWants 38 = .ok (.iload 4, 2) := by decide +kernel
theorem dX4_tallyWants_40 : decode cX4_tallyWants 40 = .ok (.bipush 20, 2) := by decide +kernel
theorem dX4_tallyWants_42 : decode cX4_tallyWants 42 = .ok (.if_icmp .gt 31, 3) := by decide +kernel
theorem dX4_tallyWants_45 : decode cX4_tallyWants 45 = .ok (.aload_n 0, 1) := by decide +kernel
theorem dX4_tallyWants_46 : decode cX4_tallyWants 46 = .ok (.getfield 51, 3) := by decide +kernel
theorem dX4_tallyWants_49 : decode cX4_tallyWants 49 = .ok (.iload 4, 2) := by decide +kernel
theorem dX4_tallyWants_51 : decode cX4_tallyWants 51 = .ok (.bipush 21, 2) := by decide +kernel
theorem dX4_tallyWants_53 : decode cX4_tallyWants 53 = .ok (.imul, 1) := by decide +kernel
theorem dX4_tallyWants_54 : decode cX4_tallyWants 54 = .ok (.aload_n 0, 1) := by decide +kernel
theorem dX4_tallyWants_55 : decode cX4_tallyWants 55 = .ok (.getfield 47, 3) := by decide +kernel
theorem dX4_tallyWants_58 : decode cX4_tallyWants 58 = .ok (.iload 4, 2) := by decide +kernel
theorem dX4_tallyWants_60 : decode cX4_tallyWants 60 = .ok (.iaload, 1) := by decide +kernel
theorem dX4_tallyWants_61 : decode cX4_tallyWants 61 = .ok (.iadd, 1) := by decide +kernel
theorem dX4_tallyWants_62 : decode cX4_tallyWants 62 = .ok (.dup2, 1) := by decide +kernel
theorem dX4_tallyWants_63 : decode cX4_tallyWants 63 = .ok (.iaload, 1) := by decide +kernel
theorem dX4_tallyWants_64 : decode cX4_tallyWants 64 = .ok (.iconst 1, 1) := by decide +kernel
theorem dX4_tallyWants_65 : decode cX4_tallyWants 65 = .ok (.iadd, 1) := by decide +kernel
theorem dX4_tallyWants_66 : decode cX4_tallyWants 66 = .ok (.iastore, 1) := by decide +kernel
theorem dX4_tallyWants_67 : decode cX4_tallyWants 67 = .ok (.iinc 4 1, 3) := by decide +kernel
theorem dX4_tallyWants_70 : decode cX4_tallyWants 70 = .ok (.goto (-32), 3) := by decide +kernel
theorem dX4_tallyWants_73 : decode cX4_tallyWants 73 = .ok (.iinc 3 1, 3) := by decide +kernel
theorem dX4_tallyWants_76 : decode cX4_tallyWants 76 = .ok (.goto (-64), 3) := by decide +kernel
theorem dX4_tallyWants_79 : decode cX4_tallyWants 79 = .ok (.iload_n 2, 1) := by decide +kernel
theorem dX4_tallyWants_80 : decode cX4_tallyWants 80 = .ok (.ireturn, 1) := by decide +kernel
theorem dX4_worstLeft_0 : decode cX4_worstLeft 0 = .ok (.iconst 0, 1) := by decide +kernel
theorem dX4_worstLeft_1 : decode cX4_worstLeft 1 = .ok (.istore_n 2, 1) := by decide +kernel
theorem dX4_worstLeft_2 : decode cX4_worstLeft 2 = .ok (.iconst 0, 1) := by decide +kernel
theorem dX4_worstLeft_3 : decode cX4_worstLeft 3 = .ok (.istore_n 3, 1) := by decide +kernel
theorem dX4_worstLeft_4 : decode cX4_worstLeft 4 = .ok (.iload_n 3, 1) := by decide +kernel
theorem dX4_worstLeft_5 : decode cX4_worstLeft 5 = .ok (.bipush 20, 2) := by decide +kernel
theorem dX4_worstLeft_7 : decode cX4_worstLeft 7 = .ok (.if_icmp .gt 25, 3) := by decide +kernel
theorem dX4_worstLeft_10 : decode cX4_worstLeft 10 = .ok (.iload_n 2, 1) := by decide +kernel
theorem dX4_worstLeft_11 : decode cX4_worstLeft 11 = .ok (.aload_n 0, 1) := by decide +kernel
theorem dX4_worstLeft_12 : decode cX4_worstLeft 12 = .ok (.getfield 51, 3) := by decide +kernel
theorem dX4_worstLeft_15 : decode cX4_worstLeft 15 = .ok (.iload_n 1, 1) := by decide +kernel
theorem dX4_worstLeft_16 : decode cX4_worstLeft 16 = .ok (.bipush 21, 2) := by decide +kernel
theorem dX4_worstLeft_18 : decode cX4_worstLeft 18 = .ok (.imul, 1) := by decide +kernel
theorem dX4_worstLeft_19 : decode cX4_worstLeft 19 = .ok (.iload_n 3, 1) := by decide +kernel
theorem dX4_worstLeft_20 : decode cX4_worstLeft 20 = .ok (.iadd, 1) := by decide +kernel
theorem dX4_worstLeft_21 : decode cX4_worstLeft 21 = .ok (.iaload, 1) := by decide +kernel
theorem dX4_worstLeft_22 : decode cX4_worstLeft 22 = .ok (.invokestatic 239, 3) := by decide +kernel
theorem dX4_worstLeft_25 : decode cX4_worstLeft 25 = .ok (.istore_n 2, 1) := by decide +kernel
theorem dX4_worstLeft_26 : decode cX4_worstLeft 26 = .ok (.iinc 3 1, 3) := by decide +kernel
theorem dX4_worstLeft_29 : decode cX4_worstLeft 29 = .ok (.goto (-25), 3) := by decide +kernel
theorem dX4_worstLeft_32 : decode cX4_worstLeft 32 = .ok (.iload_n 2, 1) := by decide +kernel
theorem dX4_worstLeft_33 : decode cX4_worstLeft 33 = .ok (.ireturn, 1) := by decide +kernel
end
section
theorem dX5_init_0 : decode cX5_init 0 = .ok (.aload_n 0, 1) := by decide +kernel
theorem dX5_init_1 : decode cX5_init 1 = .ok (.invokespecial 1, 3) := by decide +kernel
theorem dX5_init_4 : decode cX5_init 4 = .ok (.aload_n 0, 1) := by decide +kernel
theorem dX5_init_5 : decode cX5_init 5 = .ok (.bipush 123, 2) := by decide +kernel
theorem dX5_init_7 : decode cX5_init 7 = .ok (.newarray .int, 2) := by decide +kernel
theorem dX5_init_9 : decode cX5_init 9 = .ok (.putfield 7, 3) := by decide +kernel
theorem dX5_init_12 : decode cX5_init 12 = .ok (.aload_n 0, 1) := by decide +kernel
theorem dX5_init_13 : decode cX5_init 13 = .ok (.bipush 41, 2) := by decide +kernel
theorem dX5_init_15 : decode cX5_init 15 = .ok (.newarray .int, 2) := by decide +kernel
theorem dX5_init_17 : decode cX5_init 17 = .ok (.putfield 13, 3) := by decide +kernel
theorem dX5_init_20 : decode cX5_init 20 = .ok (.aload_n 0, 1) := by decide +kernel
theorem dX5_init_21 : decode cX5_init 21 = .ok (.iconst 2, 1) := by decide +kernel
theorem dX5_init_22 : decode cX5_init 22 = .ok (.newarray .boolean, 2) := by decide +kernel
theorem dX5_init_24 : decode cX5_init 24 = .ok (.putfield 16, 3) := by decide +kernel
theorem dX5_init_27 : decode cX5_init 27 = .ok (.aload_n 0, 1) := by decide +kernel
theorem dX5_init_28 : decode cX5_init 28 = .ok (.bipush 41, 2) := by decide +kernel
theorem dX5_init_30 : decode cX5_init 30 = .ok (.newarray .int, 2) := by decide +kernel
theorem dX5_init_32 : decode cX5_init 32 = .ok (.putfield 20, 3) := by decide +kernel
theorem dX5_init_35 : decode cX5_init 35 = .ok (.aload_n 0, 1) := by decide +kernel
theorem dX5_init_36 : decode cX5_init 36 = .ok (.sipush 160, 3) := by decide +kernel
theorem dX5_init_39 : decode cX5_init 39 = .ok (.newarray .int, 2) := by decide +kernel
theorem dX5_init_41 : decode cX5_init 41 = .ok (.putfield 23, 3) := by decide +kernel
theorem dX5_init_44 : decode cX5_init 44 = .ok (.aload_n 0, 1) := by decide +kernel
theorem dX5_init_45 : decode cX5_init 45 = .ok (.bipush 21, 2) := by decide +kernel
theorem dX5_init_47 : decode cX5_init 47 = .ok (.newarray .int, 2) := by decide +kernel
theorem dX5_init_49 : decode cX5_init 49 = .ok (.putfield 26, 3) := by decide +kernel
theorem dX5_init_52 : decode cX5_init 52 = .ok (.aload_n 0, 1) := by decide +kernel
theorem dX5_init_53 : decode cX5_init 53 = .ok (.sipush 441, 3) := by decide +kernel
theorem dX5_init_56 : decode cX5_init 56 = .ok (.newarray .int, 2) := by decide +kernel
theorem dX5_init_58 : decode cX5_init 58 = .ok (.putfield 29, 3) := by decide +kernel
theorem dX5_init_61 : decode cX5_init 61 = .ok (.aload_n 0, 1) := by decide +kernel
theorem dX5_init_62 : decode cX5_init 62 = .ok (.iconst 4, 1) := by decide +kernel
theorem dX5_init_63 : decode cX5_init 63 = .ok (.newarray .int, 2) := by decide +kernel
theorem dX5_init_65 : decode cX5_init 65 = .ok (.putfield 32, 3) := by decide +kernel
theorem dX5_init_68 : decode cX5_init 68 = .ok (.aload_n 0, 1) := by decide +kernel
theorem dX5_init_69 : decode cX5_init 69 = .ok (.iconst 4, 1) := by decide +kernel
theorem dX5_init_70 : decode cX5_init 70 = .ok (.newarray .int, 2) := by decide +kernel
theorem dX5_init_72 : decode cX5_init 72 = .ok (.putfield 35, 3) := by decide +kernel
theorem dX5_init_75 : decode cX5_init 75 = .ok (.aload_n 0, 1) := by decide +kernel
theorem dX5_init_76 : decode cX5_init 76 = .ok (.sipush 160, 3) := by decide +kernel
theorem dX5_init_79 : decode cX5_init 79 = .ok (.newarray .int, 2) := by decide +kernel
theorem dX5_init_81 : decode cX5_init 81 = .ok (.putfield 38, 3) := by decide +kernel
theorem dX5_init_84 : decode cX5_init 84 = .ok (.aload_n 0, 1) := by decide +kernel
theorem dX5_init_85 : decode cX5_init 85 = .ok (.bipush 41, 2) := by decide +kernel
theorem dX5_init_87 : decode cX5_init 87 = .ok (.newarray .int, 2) := by decide +kernel
theorem dX5_init_89 : decode cX5_init 89 = .ok (.putfield 41, 3) := by decide +kernel
theorem dX5_init_92 : decode cX5_init 92 = .ok (.iconst 0, 1) := by decide +kernel
theorem dX5_init_93 : decode cX5_init 93 = .ok (.istore_n 1, 1) := by decide +kernel
theorem dX5_init_94 : decode cX5_init 94 = .ok (.iload_n 1, 1) := by decide +kernel
theorem dX5_init_95 : decode cX5_init 95 = .ok (.iconst 4, 1) := by decide +kernel
theorem dX5_init_96 : decode cX5_init 96 = .ok (.if_icmp .ge 17, 3) := by decide +kernel
theorem dX5_init_99 : decode cX5_init 99 = .ok (.aload_n 0, 1) := by decide +kernel
theorem dX5_init_100 : decode cX5_init 100 = .ok (.getfield 32, 3) := by decide +kernel
theorem dX5_init_103 : decode cX5_init 103 = .ok (.iload_n 1, 1) := by decide +kernel
theorem dX5_init_104 : decode cX5_init 104 = .ok (.bipush (-4), 2) := by decide +kernel
theorem dX5_init_106 : decode cX5_init 106 = .ok (.iastore, 1) := by decide +kernel
theorem dX5_init_107 : decode cX5_init 107 = .ok (.iinc 1 1, 3) := by decide +kernel
theorem dX5_init_110 : decode cX5_init 110 = .ok (.goto (-16), 3) := by decide +kernel
theorem dX5_init_113 : decode cX5_init 113 = .ok (.aload_n 0, 1) := by decide +kernel
theorem dX5_init_114 : decode cX5_init 114 = .ok (.invokevirtual 44, 3) := by decide +kernel
theorem dX5_init_117 : decode cX5_init 117 = .ok (.aload_n 0, 1) := by decide +kernel
theorem dX5_init_118 : decode cX5_init 118 = .ok (.invokevirtual 47, 3) := by decide +kernel
theorem dX5_init_121 : decode cX5_init 121 = .ok (.return_, 1) := by decide +kernel
theorem dX5_in_0 : decode cX5_in 0 = .ok (.lload_n 0, 1) := by decide +kernel
theorem dX5_in_1 : decode cX5_in 1 = .ok (.lload_n 2, 1) := by decide +kernel
theorem dX5_in_2 : decode cX5_in 2 = .ok (.lcmp, 1) := by decide +kernel
theorem dX5_in_3 : decode cX5_in 3 = .ok (.ifCond .lt 14, 3) := by decide +kernel
theorem dX5_in_6 : decode cX5_in 6 = .ok (.lload_n 0, 1) := by decide +kernel
theorem dX5_in_7 : decode cX5_in 7 = .ok (.lload 4, 2) := by decide +kernel
theorem dX5_in_9 : decode cX5_in 9 = .ok (.lcmp, 1) := by decide +kernel
theorem dX5_in_10 : decode cX5_in 10 = .ok (.ifCond .gt 7, 3) := by decide +kernel
theorem dX5_in_13 : decode cX5_in 13 = .ok (.iconst 1, 1) := by decide +kernel
theorem dX5_in_14 : decode cX5_in 14 = .ok (.goto 4, 3) := by decide +kernel
theorem dX5_in_17 : decode cX5_in 17 = .ok (.iconst 0, 1) := by decide +kernel
theorem dX5_in_18 : decode cX5_in 18 = .ok (.ireturn, 1) := by decide +kernel
theorem dX5_flag_0 : decode cX5_flag 0 = .ok (.iload_n 0, 1) := by decide +kernel
theorem dX5_flag_1 : decode cX5_flag 1 = .ok (.ifCond .eq 7, 3) := by decide +kernel
theorem dX5_flag_4 : decode cX5_flag 4 = .ok (.iconst 1, 1) := by decide +kernel
theorem dX5_flag_5 : decode cX5_flag 5 = .ok (.goto 4, 3) := by decide +kernel
theorem dX5_flag_8 : decode cX5_flag 8 = .ok (.iconst 0, 1) := by decide +kernel
theorem dX5_flag_9 : decode cX5_flag 9 = .ok (.ireturn, 1) := by decide +kernel
theorem dX5_lesser_0 : decode cX5_lesser 0 = .ok (.iload_n 0, 1) := by decide +kernel
theorem dX5_lesser_1 : decode cX5_lesser 1 = .ok (.iload_n 1, 1) := by decide +kernel
theorem dX5_lesser_2 : decode cX5_lesser 2 = .ok (.if_icmp .ge 7, 3) := by decide +kernel
theorem dX5_lesser_5 : decode cX5_lesser 5 = .ok (.iload_n 0, 1) := by decide +kernel
theorem dX5_lesser_6 : decode cX5_lesser 6 = .ok (.goto 4, 3) := by decide +kernel
theorem dX5_lesser_9 : decode cX5_lesser 9 = .ok (.iload_n 1, 1) := by decide +kernel
theorem dX5_lesser_10 : decode cX5_lesser 10 = .ok (.ireturn, 1) := by decide +kernel
theorem dX5_firstDraft_0 : decode cX5_firstDraft 0 = .ok (.iconst 0, 1) := by decide +kernel
theorem dX5_firstDraft_1 : decode cX5_firstDraft 1 = .ok (.istore_n 1, 1) := by decide +kernel
theorem dX5_firstDraft_2 : decode cX5_firstDraft 2 = .ok (.iload_n 1, 1) := by decide +kernel
theorem dX5_firstDraft_3 : decode cX5_firstDraft 3 = .ok (.bipush 41, 2) := by decide +kernel
theorem dX5_firstDraft_5 : decode cX5_firstDraft 5 = .ok (.if_icmp .ge 16, 3) := by decide +kernel
theorem dX5_firstDraft_8 : decode cX5_firstDraft 8 = .ok (.aload_n 0, 1) := by decide +kernel
theorem dX5_firstDraft_9 : decode cX5_firstDraft 9 = .ok (.getfield 20, 3) := by decide +kernel
theorem dX5_firstDraft_12 : decode cX5_firstDraft 12 = .ok (.iload_n 1, 1) := by decide +kernel
theorem dX5_firstDraft_13 : decode cX5_firstDraft 13 = .ok (.iconst 0, 1) := by decide +kernel
theorem dX5_firstDraft_14 : decode cX5_firstDraft 14 = .ok (.iastore, 1) := by decide +kernel
theorem dX5_firstDraft_15 : decode cX5_firstDraft 15 = .ok (.iinc 1 1, 3) := by decide +kernel
theorem dX5_firstDraft_18 : decode cX5_firstDraft 18 = .ok (.goto (-16), 3) := by decide +kernel
theorem dX5_firstDraft_21 : decode cX5_firstDraft 21 = .ok (.aload_n 0, 1) := by decide +kernel
theorem dX5_firstDraft_22 : decode cX5_firstDraft 22 = .ok (.getfield 20, 3) := by decide +kernel
theorem dX5_firstDraft_25 : decode cX5_firstDraft 25 = .ok (.bipush 25, 2) := by decide +kernel
theorem dX5_firstDraft_27 : decode cX5_firstDraft 27 = .ok (.bipush 10, 2) := by decide +kernel
theorem dX5_firstDraft_29 : decode cX5_firstDraft 29 = .ok (.iastore, 1) := by decide +kernel
theorem dX5_firstDraft_30 : decode cX5_firstDraft 30 = .ok (.aload_n 0, 1) := by decide +kernel
theorem dX5_firstDraft_31 : decode cX5_firstDraft 31 = .ok (.iconst 0, 1) := by decide +kernel
theorem dX5_firstDraft_32 : decode cX5_firstDraft 32 = .ok (.putfield 50, 3) := by decide +kernel
theorem dX5_firstDraft_35 : decode cX5_firstDraft 35 = .ok (.return_, 1) := by decide +kernel
theorem dX5_keepDraft_0 : decode cX5_keepDraft 0 = .ok (.iconst 0, 1) := by decide +kernel
theorem dX5_keepDraft_1 : decode cX5_keepDraft 1 = .ok (.istore_n 1, 1) := by decide +kernel
theorem dX5_keepDraft_2 : decode cX5_keepDraft 2 = .ok (.iload_n 1, 1) := by decide +kernel
theorem dX5_keepDraft_3 : decode cX5_keepDraft 3 = .ok (.bipush 41, 2) := by decide +kernel
theorem dX5_keepDraft_5 : decode cX5_keepDraft 5 = .ok (.if_icmp .ge 21, 3) := by decide +kernel
theorem dX5_keepDraft_8 : decode cX5_keepDraft 8 = .ok (.aload_n 0, 1) := by decide +kernel
theorem dX5_keepDraft_9 : decode cX5_keepDraft 9 = .ok (.getfield 7, 3) := by decide +kernel
theorem dX5_keepDraft_12 : decode cX5_keepDraft 12 = .ok (.iload_n 1, 1) := by decide +kernel
theorem dX5_keepDraft_13 : decode cX5_keepDraft 13 = .ok (.aload_n 0, 1) := by decide +kernel
theorem dX5_keepDraft_14 : decode cX5_keepDraft 14 = .ok (.getfield 20, 3) := by decide +kernel
theorem dX5_keepDraft_17 : decode cX5_keepDraft 17 = .ok (.iload_n 1, 1) := by decide +kernel
theorem dX5_keepDraft_18 : decode cX5_keepDraft 18 = .ok (.iaload, 1) := by decide +kernel
theorem dX5_keepDraft_19 : decode cX5_keepDraft 19 = .ok (.iastore, 1) := by decide +kernel
theorem dX5_keepDraft_20 : decode cX5_keepDraft 20 = .ok (.iinc 1 1, 3) := by decide +kernel
theorem dX5_keepDraft_23 : decode cX5_keepDraft 23 = .ok (.goto (-21), 3) := by decide +kernel
theorem dX5_keepDraft_26 : decode cX5_keepDraft 26 = .ok (.aload_n 0, 1) := by decide +kernel
theorem dX5_keepDraft_27 : decode cX5_keepDraft 27 = .ok (.getfield 16, 3) := by decide +kernel
theorem dX5_keepDraft_30 : decode cX5_keepDraft 30 = .ok (.iconst 0, 1) := by decide +kernel
theorem dX5_keepDraft_31 : decode cX5_keepDraft 31 = .ok (.iconst 0, 1) := by decide +kernel
theorem dX5_keepDraft_32 : decode cX5_keepDraft 32 = .ok (.bastore, 1) := by decide +kernel
theorem dX5_keepDraft_33 : decode cX5_keepDraft 33 = .ok (.aload_n 0, 1) := by decide +kernel
theorem dX5_keepDraft_34 : decode cX5_keepDraft 34 = .ok (.getfield 16, 3) := by decide +kernel
theorem dX5_keepDraft_37 : decode cX5_keepDraft 37 = .ok (.iconst 1, 1) := by decide +kernel
theorem dX5_keepDraft_38 : decode cX5_keepDraft 38 = .ok (.iconst 0, 1) := by decide +kernel
theorem dX5_keepDraft_39 : decode cX5_keepDraft 39 = .ok (.bastore, 1) := by decide +kernel
theorem dX5_keepDraft_40 : decode cX5_keepDraft 40 = .ok (.return_, 1) := by decide +kernel
theorem dX5_feed_0 : decode cX5_feed 0 = .ok (.iload_n 1, 1) := by decide +kernel
theorem dX5_feed_1 : decode cX5_feed 1 = .ok (.i2l, 1) := by decide +kernel
theorem dX5_feed_2 : decode cX5_feed 2 = .ok (.lconst 0, 1) := by decide +kernel
theorem dX5_feed_3 : decode cX5_feed 3 = .ok (.ldc2_w 54, 3) := by decide +kernel
theorem dX5_feed_6 : decode cX5_feed 6 = .ok (.invokestatic 56, 3) := by decide +kernel
theorem dX5_feed_9 : decode cX5_feed 9 = .ok (.ifCond .ne 5, 3) := by decide +kernel
theorem dX5_feed_12 : decode cX5_feed 12 = .ok (.iconst (-1), 1) := by decide +kernel
theorem dX5_feed_13 : decode cX5_feed 13 = .ok (.ireturn, 1) := by decide +kernel
theorem dX5_feed_14 : decode cX5_feed 14 = .ok (.aload_n 0, 1) := by decide +kernel
theorem dX5_feed_15 : decode cX5_feed 15 = .ok (.getfield 60, 3) := by decide +kernel
theorem dX5_feed_18 : decode cX5_feed 18 = .ok (.sipush 160, 3) := by decide +kernel
theorem dX5_feed_21 : decode cX5_feed 21 = .ok (.if_icmp .ne 6, 3) := by decide +kernel
theorem dX5_feed_24 : decode cX5_feed 24 = .ok (.bipush (-3), 2) := by decide +kernel
theorem dX5_feed_26 : decode cX5_feed 26 = .ok (.ireturn, 1) := by decide +kernel
theorem dX5_feed_27 : decode cX5_feed 27 = .ok (.aload_n 0, 1) := by decide +kernel
theorem dX5_feed_28 : decode cX5_feed 28 = .ok (.getfield 23, 3) := by decide +kernel
theorem dX5_feed_31 : decode cX5_feed 31 = .ok (.aload_n 0, 1) := by decide +kernel
theorem dX5_feed_32 : decode cX5_feed 32 = .ok (.getfield 60, 3) := by decide +kernel
theorem dX5_feed_35 : decode cX5_feed 35 = .ok (.iload_n 1, 1) := by decide +kernel
theorem dX5_feed_36 : decode cX5_feed 36 = .ok (.iastore, 1) := by decide +kernel
theorem dX5_feed_37 : decode cX5_feed 37 = .ok (.aload_n 0, 1) := by decide +kernel
theorem dX5_feed_38 : decode cX5_feed 38 = .ok (.dup, 1) := by decide +kernel
theorem dX5_feed_39 : decode cX5_feed 39 = .ok (.getfield 60, 3) := by decide +kernel
theorem dX5_feed_42 : decode cX5_feed 42 = .ok (.iconst 1, 1) := by decide +kernel
theorem dX5_feed_43 : decode cX5_feed 43 = .ok (.iadd, 1) := by decide +kernel
theorem dX5_feed_44 : decode cX5_feed 44 = .ok (.putfield 60, 3) := by decide +kernel
theorem dX5_feed_47 : decode cX5_feed 47 = .ok (.aload_n 0, 1) := by decide +kernel
theorem dX5_feed_48 : decode cX5_feed 48 = .ok (.getfield 60, 3) := by decide +kernel
theorem dX5_feed_51 : decode cX5_feed 51 = .ok (.ireturn, 1) := by decide +kernel
theorem dX5_end_0 : decode cX5_end 0 = .ok (.iload_n 1, 1) := by decide +kernel
theorem dX5_end_1 : decode cX5_end 1 = .ok (.i2l, 1) := by decide +kernel
theorem dX5_end_2 : decode cX5_end 2 = .ok (.lconst 0, 1) := by decide +kernel
theorem dX5_end_3 : decode cX5_end 3 = .ok (.aload_n 0, 1) := by decide +kernel
theorem dX5_end_4 : decode cX5_end 4 = .ok (.getfield 60, 3) := by decide +kernel
theorem dX5_end_7 : decode cX5_end 7 = .ok (.i2l, 1) := by decide +kernel
theorem dX5_end_8 : decode cX5_end 8 = .ok (.invokestatic 56, 3) := by decide +kernel
theorem dX5_end_11 : decode cX5_end 11 = .ok (.ifCond .ne 5, 3) := by decide +kernel
theorem dX5_end_14 : decode cX5_end 14 = .ok (.iconst (-1), 1) := by decide +kernel
theorem dX5_end_15 : decode cX5_end 15 = .ok (.ireturn, 1) := by decide +kernel
theorem dX5_end_16 : decode cX5_end 16 = .ok (.aload_n 0, 1) := by decide +kernel
theorem dX5_end_17 : decode cX5_end 17 = .ok (.getfield 60, 3) := by decide +kernel
theorem dX5_end_20 : decode cX5_end 20 = .ok (.istore_n 2, 1) := by decide +kernel
theorem dX5_end_21 : decode cX5_end 21 = .ok (.aload_n 0, 1) := by decide +kernel
theorem dX5_end_22 : decode cX5_end 22 = .ok (.iload_n 1, 1) := by decide +kernel
theorem dX5_end_23 : decode cX5_end 23 = .ok (.putfield 60, 3) := by decide +kernel
theorem dX5_end_26 : decode cX5_end 26 = .ok (.iload_n 2, 1) := by decide +kernel
theorem dX5_end_27 : decode cX5_end 27 = .ok (.ireturn, 1) := by decide +kernel
theorem dX5_requires_0 : decode cX5_requires 0 = .ok (.iload_n 1, 1) := by decide +kernel
theorem dX5_requires_1 : decode cX5_requires 1 = .ok (.ifCond .ne 23, 3) := by decide +kernel
theorem dX5_requires_4 : decode cX5_requires 4 = .ok (.aload_n 0, 1) := by decide +kernel
theorem dX5_requires_5 : decode cX5_requires 5 = .ok (.getfield 64, 3) := by decide +kernel
theorem dX5_requires_8 : decode cX5_requires 8 = .ok (.ifCond .ne 16, 3) := by decide +kernel
theorem dX5_requires_11 : decode cX5_requires 11 = .ok (.aload_n 0, 1) := by decide +kernel
theorem dX5_requires_12 : decode cX5_requires 12 = .ok (.iload_n 2, 1) := by decide +kernel
theorem dX5_requires_13 : decode cX5_requires 13 = .ok (.putfield 64, 3) := by decide +kernel
theorem dX5_requires_16 : decode cX5_requires 16 = .ok (.aload_n 0, 1) := by decide +kernel
theorem dX5_requires_17 : decode cX5_requires 17 = .ok (.aload_n 0, 1) := by decide +kernel
theorem dX5_requires_18 : decode cX5_requires 18 = .ok (.getfield 67, 3) := by decide +kernel
theorem dX5_requires_21 : decode cX5_requires 21 = .ok (.putfield 70, 3) := by decide +kernel
theorem dX5_requires_24 : decode cX5_requires 24 = .ok (.return_, 1) := by decide +kernel
theorem dX5_byteAt_0 : decode cX5_byteAt 0 = .ok (.iload_n 1, 1) := by decide +kernel
theorem dX5_byteAt_1 : decode cX5_byteAt 1 = .ok (.aload_n 0, 1) := by decide +kernel
theorem dX5_byteAt_2 : decode cX5_byteAt 2 = .ok (.getfield 60, 3) := by decide +kernel
theorem dX5_byteAt_5 : decode cX5_byteAt 5 = .ok (.if_icmp .ge 12, 3) := by decide +kernel
theorem dX5_byteAt_8 : decode cX5_byteAt 8 = .ok (.aload_n 0, 1) := by decide +kernel
theorem dX5_byteAt_9 : decode cX5_byteAt 9 = .ok (.getfield 23, 3) := by decide +kernel
theorem dX5_byteAt_12 : decode cX5_byteAt 12 = .ok (.iload_n 1, 1) := by decide +kernel
theorem dX5_byteAt_13 : decode cX5_byteAt 13 = .ok (.iaload, 1) := by decide +kernel
theorem dX5_byteAt_14 : decode cX5_byteAt 14 = .ok (.goto 4, 3) := by decide +kernel
theorem dX5_byteAt_17 : decode cX5_byteAt 17 = .ok (.iconst (-1), 1) := by decide +kernel
theorem dX5_byteAt_18 : decode cX5_byteAt 18 = .ok (.ireturn, 1) := by decide +kernel
theorem dX5_is_0 : decode cX5_is 0 = .ok (.aload_n 0, 1) := by decide +kernel
theorem dX5_is_1 : decode cX5_is 1 = .ok (.getfield 73, 3) := by decide +kernel
theorem dX5_is_4 : decode cX5_is 4 = .ok (.aload_n 0, 1) := by decide +kernel
theorem dX5_is_5 : decode cX5_is 5 = .ok (.getfield 67, 3) := by decide +kernel
theorem dX5_is_8 : decode cX5_is 8 = .ok (.isub, 1) := by decide +kernel
theorem dX5_is_9 : decode cX5_is 9 = .ok (.iload_n 1, 1) := by decide +kernel
theorem dX5_is_10 : decode cX5_is 10 = .ok (.if_icmp .ne 63, 3) := by decide +kernel
theorem dX5_is_13 : decode cX5_is 13 = .ok (.aload_n 0, 1) := by decide +kernel
theorem dX5_is_14 : decode cX5_is 14 = .ok (.aload_n 0, 1) := by decide +kernel
theorem dX5_is_15 : decode cX5_is 15 = .ok (.getfield 67, 3) := by decide +kernel
theorem dX5_is_18 : decode cX5_is 18 = .ok (.invokevirtual 76, 3) := by decide +kernel
theorem dX5_is_21 : decode cX5_is 21 = .ok (.iload_n 2, 1) := by decide +kernel
theorem dX5_is_22 : decode cX5_is 22 = .ok (.if_icmp .ne 51, 3) := by decide +kernel
theorem dX5_is_25 : decode cX5_is 25 = .ok (.aload_n 0, 1) := by decide +kernel
theorem dX5_is_26 : decode cX5_is 26 = .ok (.aload_n 0, 1) := by decide +kernel
theorem dX5_is_27 : decode cX5_is 27 = .ok (.getfield 67, 3) := by decide +kernel
theorem dX5_is_30 : decode cX5_is 30 = .ok (.iconst 1, 1) := by decide +kernel
theorem dX5_is_31 : decode cX5_is 31 = .ok (.iadd, 1) := by decide +kernel
theorem dX5_is_32 : decode cX5_is 32 = .ok (.invokevirtual 76, 3) := by decide +kernel
theorem dX5_is_35 : decode cX5_is 35 = .ok (.iload_n 3, 1) := by decide +kernel
theorem dX5_is_36 : decode cX5_is 36 = .ok (.if_icmp .ne 37, 3) := by decide +kernel
theorem dX5_is_39 : decode cX5_is 39 = .ok (.aload_n 0, 1) := by decide +kernel
theorem dX5_is_40 : decode cX5_is 40 = .ok (.aload_n 0, 1) := by decide +kernel
theorem dX5_is_41 : decode cX5_is 41 = .ok (.getfield 67, 3) := by decide +kernel
theorem dX5_is_44 : decode cX5_is 44 = .ok (.iconst 2, 1) := by decide +kernel
theorem dX5_is_45 : decode cX5_is 45 = .ok (.iadd, 1) := by decide +kernel
theorem dX5_is_46 : decode cX5_is 46 = .ok (.invokevirtual 76, 3) := by decide +kernel
theorem dX5_is_49 : decode cX5_is 49 = .ok (.iload 4, 2) := by decide +kernel
theorem dX5_is_51 : decode cX5_is 51 = .ok (.if_icmp .ne 22, 3) := by decide +kernel
theorem dX5_is_54 : decode cX5_is 54 = .ok (.aload_n 0, 1) := by decide +kernel
theorem dX5_is_55 : decode cX5_is 55 = .ok (.aload_n 0, 1) := by decide +kernel
theorem dX5_is_56 : decode cX5_is 56 = .ok (.getfield 67, 3) := by decide +kernel
theorem dX5_is_59 : decode cX5_is 59 = .ok (.iconst 3, 1) := by decide +kernel
theorem dX5_is_60 : decode cX5_is 60 = .ok (.iadd, 1) := by decide +kernel
theorem dX5_is_61 : decode cX5_is 61 = .ok (.invokevirtual 76, 3) := by decide +kernel
theorem dX5_is_64 : decode cX5_is 64 = .ok (.iload 5, 2) := by decide +kernel
theorem dX5_is_66 : decode cX5_is 66 = .ok (.if_icmp .ne 7, 3) := by decide +kernel
theorem dX5_is_69 : decode cX5_is 69 = .ok (.iconst 1, 1) := by decide +kernel
theorem dX5_is_70 : decode cX5_is 70 = .ok (.goto 4, 3) := by decide +kernel
theorem dX5_is_73 : decode cX5_is 73 = .ok (.iconst 0, 1) := by decide +kernel
theorem dX5_is_74 : decode cX5_is 74 = .ok (.ireturn, 1) := by decide +kernel
theorem dX5_endsIn_0 : decode cX5_endsIn 0 = .ok (.aload_n 0, 1) := by decide +kernel
theorem dX5_endsIn_1 : decode cX5_endsIn 1 = .ok (.aload_n 0, 1) := by decide +kernel
theorem dX5_endsIn_2 : decode cX5_endsIn 2 = .ok (.getfield 67, 3) := by decide +kernel
theorem dX5_endsIn_5 : decode cX5_endsIn 5 = .ok (.iconst 4, 1) := by decide +kernel
theorem dX5_endsIn_6 : decode cX5_endsIn 6 = .ok (.iadd, 1) := by decide +kernel
theorem dX5_endsIn_7 : decode cX5_endsIn 7 = .ok (.invokevirtual 76, 3) := by decide +kernel
theorem dX5_endsIn_10 : decode cX5_endsIn 10 = .ok (.iload_n 1, 1) := by decide +kernel
theorem dX5_endsIn_11 : decode cX5_endsIn 11 = .ok (.if_icmp .ne 44, 3) := by decide +kernel
theorem dX5_endsIn_14 : decode cX5_endsIn 14 = .ok (.iload_n 2, 1) := by decide +kernel
theorem dX5_endsIn_15 : decode cX5_endsIn 15 = .ok (.ifCond .eq 17, 3) := by decide +kernel
theorem dX5_endsIn_18 : decode cX5_endsIn 18 = .ok (.aload_n 0, 1) := by decide +kernel
theorem dX5_endsIn_19 : decode cX5_endsIn 19 = .ok (.aload_n 0, 1) := by decide +kernel
theorem dX5_endsIn_20 : decode cX5_endsIn 20 = .ok (.getfield 67, 3) := by decide +kernel
theorem dX5_endsIn_23 : decode cX5_endsIn 23 = .ok (.iconst 5, 1) := by decide +kernel
theorem dX5_endsIn_24 : decode cX5_endsIn 24 = .ok (.iadd, 1) := by decide +kernel
theorem dX5_endsIn_25 : decode cX5_endsIn 25 = .ok (.invokevirtual 76, 3) := by decide +kernel
theorem dX5_endsIn_28 : decode cX5_endsIn 28 = .ok (.iload_n 2, 1) := by decide +kernel
theorem dX5_endsIn_29 : decode cX5_endsIn 29 = .ok (.if_icmp .ne 26, 3) := by decide +kernel
theorem dX5_endsIn_32 : decode cX5_endsIn 32 = .ok (.iload_n 3, 1) := by decide +kernel
theorem dX5_endsIn_33 : decode cX5_endsIn 33 = .ok (.ifCond .eq 18, 3) := by decide +kernel
theorem dX5_endsIn_36 : decode cX5_endsIn 36 = .ok (.aload_n 0, 1) := by decide +kernel
theorem dX5_endsIn_37 : decode cX5_endsIn 37 = .ok (.aload_n 0, 1) := by decide +kernel
theorem dX5_endsIn_38 : decode cX5_endsIn 38 = .ok (.getfield 67, 3) := by decide +kernel
theorem dX5_endsIn_41 : decode cX5_endsIn 41 = .ok (.bipush 6, 2) := by decide +kernel
theorem dX5_endsIn_43 : decode cX5_endsIn 43 = .ok (.iadd, 1) := by decide +kernel
theorem dX5_endsIn_44 : decode cX5_endsIn 44 = .ok (.invokevirtual 76, 3) := by decide +kernel
theorem dX5_endsIn_47 : decode cX5_endsIn 47 = .ok (.iload_n 3, 1) := by decide +kernel
theorem dX5_endsIn_48 : decode cX5_endsIn 48 = .ok (.if_icmp .ne 7, 3) := by decide +kernel
theorem dX5_endsIn_51 : decode cX5_endsIn 51 = .ok (.iconst 1, 1) := by decide +kernel
theorem dX5_endsIn_52 : decode cX5_endsIn 52 = .ok (.goto 4, 3) := by decide +kernel
theorem dX5_endsIn_55 : decode cX5_endsIn 55 = .ok (.iconst 0, 1) := by decide +kernel
theorem dX5_endsIn_56 : decode cX5_endsIn 56 = .ok (.ireturn, 1) := by decide +kernel
theorem dX5_lineNow_0 : decode cX5_lineNow 0 = .ok (.aload_n 0, 1) := by decide +kernel
theorem dX5_lineNow_1 : decode cX5_lineNow 1 = .ok (.iconst 5, 1) := by decide +kernel
theorem dX5_lineNow_2 : decode cX5_lineNow 2 = .ok (.bipush 112, 2) := by decide +kernel
theorem dX5_lineNow_4 : decode cX5_lineNow 4 = .ok (.bipush 108, 2) := by decide +kernel
theorem dX5_lineNow_6 : decode cX5_lineNow 6 = .ok (.bipush 97, 2) := by decide +kernel
theorem dX5_lineNow_8 : decode cX5_lineNow 8 = .ok (.bipush 105, 2) := by decide +kernel
theorem dX5_lineNow_10 : decode cX5_lineNow 10 = .ok (.invokevirtual 80, 3) := by decide +kernel
theorem dX5_lineNow_13 : decode cX5_lineNow 13 = .ok (.ifCond .eq 16, 3) := by decide +kernel
theorem dX5_lineNow_16 : decode cX5_lineNow 16 = .ok (.aload_n 0, 1) := by decide +kernel
theorem dX5_lineNow_17 : decode cX5_lineNow 17 = .ok (.bipush 110, 2) := by decide +kernel
theorem dX5_lineNow_19 : decode cX5_lineNow 19 = .ok (.iconst 0, 1) := by decide +kernel
theorem dX5_lineNow_20 : decode cX5_lineNow 20 = .ok (.iconst 0, 1) := by decide +kernel
theorem dX5_lineNow_21 : decode cX5_lineNow 21 = .ok (.invokevirtual 84, 3) := by decide +kernel
theorem dX5_lineNow_24 : decode cX5_lineNow 24 = .ok (.ifCond .eq 5, 3) := by decide +kernel
theorem dX5_lineNow_27 : decode cX5_lineNow 27 = .ok (.iconst 0, 1) := by decide +kernel
theorem dX5_lineNow_28 : decode cX5_lineNow 28 = .ok (.ireturn, 1) := by decide +kernel
theorem dX5_lineNow_29 : decode cX5_lineNow 29 = .ok (.aload_n 0, 1) := by decide +kernel
theorem dX5_lineNow_30 : decode cX5_lineNow 30 = .ok (.iconst 4, 1) := by decide +kernel
theorem dX5_lineNow_31 : decode cX5_lineNow 31 = .ok (.bipush 119, 2) := by decide +kernel
theorem dX5_lineNow_33 : decode cX5_lineNow 33 = .ok (.bipush 104, 2) := by decide +kernel
theorem dX5_lineNow_35 : decode cX5_lineNow 35 = .ok (.bipush 105, 2) := by decide +kernel
theorem dX5_lineNow_37 : decode cX5_lineNow 37 = .ok (.bipush 112, 2) := by decide +kernel
theorem dX5_lineNow_39 : decode cX5_lineNow 39 = .ok (.invokevirtual 80, 3) := by decide +kernel
theorem dX5_lineNow_42 : decode cX5_lineNow 42 = .ok (.ifCond .eq 5, 3) := by decide +kernel
theorem dX5_lineNow_45 : decode cX5_lineNow 45 = .ok (.iconst 1, 1) := by decide +kernel
theorem dX5_lineNow_46 : decode cX5_lineNow 46 = .ok (.ireturn, 1) := by decide +kernel
theorem dX5_lineNow_47 : decode cX5_lineNow 47 = .ok (.aload_n 0, 1) := by decide +kernel
theorem dX5_lineNow_48 : decode cX5_lineNow 48 = .ok (.bipush 7, 2) := by decide +kernel
theorem dX5_lineNow_50 : decode cX5_lineNow 50 = .ok (.bipush 100, 2) := by decide +kernel
theorem dX5_lineNow_52 : decode cX5_lineNow 52 = .ok (.bipush 111, 2) := by decide +kernel
theorem dX5_lineNow_54 : decode cX5_lineNow 54 = .ok (.bipush 117, 2) := by decide +kernel
theorem dX5_lineNow_56 : decode cX5_lineNow 56 = .ok (.bipush 98, 2) := by decide +kernel
theorem dX5_lineNow_58 : decode cX5_lineNow 58 = .ok (.invokevirtual 80, 3) := by decide +kernel
theorem dX5_lineNow_61 : decode cX5_lineNow 61 = .ok (.ifCond .eq 18, 3) := by decide +kernel
theorem dX5_lineNow_64 : decode cX5_lineNow 64 = .ok (.aload_n 0, 1) := by decide +kernel
theorem dX5_lineNow_65 : decode cX5_lineNow 65 = .ok (.bipush 116, 2) := by decide +kernel
theorem dX5_lineNow_67 : decode cX5_lineNow 67 = .ok (.bipush 101, 2) := by decide +kernel
theorem dX5_lineNow_69 : decode cX5_lineNow 69 = .ok (.bipush 114, 2) := by decide +kernel
theorem dX5_lineNow_71 : decode cX5_lineNow 71 = .ok (.invokevirtual 84, 3) := by decide +kernel
theorem dX5_lineNow_74 : decode cX5_lineNow 74 = .ok (.ifCond .eq 5, 3) := by decide +kernel
theorem dX5_lineNow_77 : decode cX5_lineNow 77 = .ok (.iconst 2, 1) := by decide +kernel
theorem dX5_lineNow_78 : decode cX5_lineNow 78 = .ok (.ireturn, 1) := by decide +kernel
theorem dX5_lineNow_79 : decode cX5_lineNow 79 = .ok (.aload_n 0, 1) := by decide +kernel
theorem dX5_lineNow_80 : decode cX5_lineNow 80 = .ok (.bipush 6, 2) := by decide +kernel
theorem dX5_lineNow_82 : decode cX5_lineNow 82 = .ok (.bipush 109, 2) := by decide +kernel
theorem dX5_lineNow_84 : decode cX5_lineNow 84 = .ok (.bipush 97, 2) := by decide +kernel
theorem dX5_lineNow_86 : decode cX5_lineNow 86 = .ok (.bipush 103, 2) := by decide +kernel
theorem dX5_lineNow_88 : decode cX5_lineNow 88 = .ok (.bipush 103, 2) := by decide +kernel
theorem dX5_lineNow_90 : decode cX5_lineNow 90 = .ok (.invokevirtual 80, 3) := by decide +kernel
theorem dX5_lineNow_93 : decode cX5_lineNow 93 = .ok (.ifCond .eq 17, 3) := by decide +kernel
theorem dX5_lineNow_96 : decode cX5_lineNow 96 = .ok (.aload_n 0, 1) := by decide +kernel
theorem dX5_lineNow_97 : decode cX5_lineNow 97 = .ok (.bipush 111, 2) := by decide +kernel
theorem dX5_lineNow_99 : decode cX5_lineNow 99 = .ok (.bipush 116, 2) := by decide +kernel
theorem dX5_lineNow_101 : decode cX5_lineNow 101 = .ok (.iconst 0, 1) := by decide +kernel
theorem dX5_lineNow_102 : decode cX5_lineNow 102 = .ok (.invokevirtual 84, 3) := by decide +kernel
theorem dX5_lineNow_105 : decode cX5_lineNow 105 = .ok (.ifCond .eq 5, 3) := by decide +kernel
theorem dX5_lineNow_108 : decode cX5_lineNow 108 = .ok (.iconst 3, 1) := by decide +kernel
theorem dX5_lineNow_109 : decode cX5_lineNow 109 = .ok (.ireturn, 1) := by decide +kernel
theorem dX5_lineNow_110 : decode cX5_lineNow 110 = .ok (.aload_n 0, 1) := by decide +kernel
theorem dX5_lineNow_111 : decode cX5_lineNow 111 = .ok (.bipush 6, 2) := by decide +kernel
theorem dX5_lineNow_113 : decode cX5_lineNow 113 = .ok (.bipush 109, 2) := by decide +kernel
theorem dX5_lineNow_115 : decode cX5_lineNow 115 = .ok (.bipush 111, 2) := by decide +kernel
theorem dX5_lineNow_117 : decode cX5_lineNow 117 = .ok (.bipush 116, 2) := by decide +kernel
theorem dX5_lineNow_119 : decode cX5_lineNow 119 = .ok (.bipush 105, 2) := by decide +kernel
theorem dX5_lineNow_121 : decode cX5_lineNow 121 = .ok (.invokevirtual 80, 3) := by decide +kernel
theorem dX5_lineNow_124 : decode cX5_lineNow 124 = .ok (.ifCond .eq 19, 3) := by decide +kernel
theorem dX5_lineNow_127 : decode cX5_lineNow 127 = .ok (.aload_n 0, 1) := by decide +kernel
theorem dX5_lineNow_128 : decode cX5_lineNow 128 = .ok (.bipush 111, 2) := by decide +kernel
theorem dX5_lineNow_130 : decode cX5_lineNow 130 = .ok (.bipush 110, 2) := by decide +kernel
theorem dX5_lineNow_132 : decode cX5_lineNow 132 = .ok (.iconst 0, 1) := by decide +kernel
theorem dX5_lineNow_133 : decode cX5_lineNow 133 = .ok (.invokevirtual 84, 3) := by decide +kernel
theorem dX5_lineNow_136 : decode cX5_lineNow 136 = .ok (.ifCond .eq 7, 3) := by decide +kernel
theorem dX5_lineNow_139 : decode cX5_lineNow 139 = .ok (.iconst 4, 1) := by decide +kernel
theorem dX5_lineNow_140 : decode cX5_lineNow 140 = .ok (.goto 5, 3) := by decide +kernel
theorem dX5_lineNow_143 : decode cX5_lineNow 143 = .ok (.bipush (-4), 2) := by decide +kernel
theorem dX5_lineNow_145 : decode cX5_lineNow 145 = .ok (.ireturn, 1) := by decide +kernel
theorem dX5_reads_0 : decode cX5_reads 0 = .ok (.aload_n 0, 1) := by decide +kernel
theorem dX5_reads_1 : decode cX5_reads 1 = .ok (.getfield 64, 3) := by decide +kernel
theorem dX5_reads_4 : decode cX5_reads 4 = .ok (.ifCond .le 4, 3) := by decide +kernel
theorem dX5_reads_7 : decode cX5_reads 7 = .ok (.return_, 1) := by decide +kernel
theorem dX5_reads_8 : decode cX5_reads 8 = .ok (.aload_n 0, 1) := by decide +kernel
theorem dX5_reads_9 : decode cX5_reads 9 = .ok (.aload_n 0, 1) := by decide +kernel
theorem dX5_reads_10 : decode cX5_reads 10 = .ok (.getfield 73, 3) := by decide +kernel
theorem dX5_reads_13 : decode cX5_reads 13 = .ok (.invokevirtual 76, 3) := by decide +kernel
theorem dX5_reads_16 : decode cX5_reads 16 = .ok (.bipush 32, 2) := by decide +kernel
theorem dX5_reads_18 : decode cX5_reads 18 = .ok (.if_icmp .ne 16, 3) := by decide +kernel
theorem dX5_reads_21 : decode cX5_reads 21 = .ok (.aload_n 0, 1) := by decide +kernel
theorem dX5_reads_22 : decode cX5_reads 22 = .ok (.dup, 1) := by decide +kernel
theorem dX5_reads_23 : decode cX5_reads 23 = .ok (.getfield 73, 3) := by decide +kernel
theorem dX5_reads_26 : decode cX5_reads 26 = .ok (.iconst 1, 1) := by decide +kernel
theorem dX5_reads_27 : decode cX5_reads 27 = .ok (.iadd, 1) := by decide +kernel
theorem dX5_reads_28 : decode cX5_reads 28 = .ok (.putfield 73, 3) := by decide +kernel
theorem dX5_reads_31 : decode cX5_reads 31 = .ok (.goto (-23), 3) := by decide +kernel
theorem dX5_reads_34 : decode cX5_reads 34 = .ok (.aload_n 0, 1) := by decide +kernel
theorem dX5_reads_35 : decode cX5_reads 35 = .ok (.aload_n 0, 1) := by decide +kernel
theorem dX5_reads_36 : decode cX5_reads 36 = .ok (.getfield 73, 3) := by decide +kernel
theorem dX5_reads_39 : decode cX5_reads 39 = .ok (.putfield 67, 3) := by decide +kernel
theorem dX5_reads_42 : decode cX5_reads 42 = .ok (.aload_n 0, 1) := by decide +kernel
theorem dX5_reads_43 : decode cX5_reads 43 = .ok (.aload_n 0, 1) := by decide +kernel
theorem dX5_reads_44 : decode cX5_reads 44 = .ok (.getfield 73, 3) := by decide +kernel
theorem dX5_reads_47 : decode cX5_reads 47 = .ok (.invokevirtual 76, 3) := by decide +kernel
theorem dX5_reads_50 : decode cX5_reads 50 = .ok (.istore_n 1, 1) := by decide +kernel
theorem dX5_reads_51 : decode cX5_reads 51 = .ok (.iload_n 1, 1) := by decide +kernel
theorem dX5_reads_52 : decode cX5_reads 52 = .ok (.ifCond .ge 11, 3) := by decide +kernel
theorem dX5_reads_55 : decode cX5_reads 55 = .ok (.aload_n 0, 1) := by decide +kernel
theorem dX5_reads_56 : decode cX5_reads 56 = .ok (.iconst 0, 1) := by decide +kernel
theorem dX5_reads_57 : decode cX5_reads 57 = .ok (.putfield 88, 3) := by decide +kernel
theorem dX5_reads_60 : decode cX5_reads 60 = .ok (.goto 214, 3) := by decide +kernel
theorem dX5_reads_63 : decode cX5_reads 63 = .ok (.iload_n 1, 1) := by decide +kernel
theorem dX5_reads_64 : decode cX5_reads 64 = .ok (.i2l, 1) := by decide +kernel
theorem dX5_reads_65 : decode cX5_reads 65 = .ok (.ldc2_w 91, 3) := by decide +kernel
theorem dX5_reads_68 : decode cX5_reads 68 = .ok (.ldc2_w 93, 3) := by decide +kernel
theorem dX5_reads_71 : decode cX5_reads 71 = .ok (.invokestatic 56, 3) := by decide +kernel
theorem dX5_reads_74 : decode cX5_reads 74 = .ok (.ifCond .eq 42, 3) := by decide +kernel
theorem dX5_reads_77 : decode cX5_reads 77 = .ok (.aload_n 0, 1) := by decide +kernel
theorem dX5_reads_78 : decode cX5_reads 78 = .ok (.iconst 1, 1) := by decide +kernel
theorem dX5_reads_79 : decode cX5_reads 79 = .ok (.putfield 88, 3) := by decide +kernel
theorem dX5_reads_82 : decode cX5_reads 82 = .ok (.aload_n 0, 1) := by decide +kernel
theorem dX5_reads_83 : decode cX5_reads 83 = .ok (.aload_n 0, 1) := by decide +kernel
theorem dX5_reads_84 : decode cX5_reads 84 = .ok (.getfield 73, 3) := by decide +kernel
theorem dX5_reads_87 : decode cX5_reads 87 = .ok (.invokevirtual 76, 3) := by decide +kernel
theorem dX5_reads_90 : decode cX5_reads 90 = .ok (.i2l, 1) := by decide +kernel
theorem dX5_reads_91 : decode cX5_reads 91 = .ok (.ldc2_w 91, 3) := by decide +kernel
theorem dX5_reads_94 : decode cX5_reads 94 = .ok (.ldc2_w 93, 3) := by decide +kernel
theorem dX5_reads_97 : decode cX5_reads 97 = .ok (.invokestatic 56, 3) := by decide +kernel
theorem dX5_reads_100 : decode cX5_reads 100 = .ok (.ifCond .eq 174, 3) := by decide +kernel
theorem dX5_reads_103 : decode cX5_reads 103 = .ok (.aload_n 0, 1) := by decide +kernel
theorem dX5_reads_104 : decode cX5_reads 104 = .ok (.dup, 1) := by decide +kernel
theorem dX5_reads_105 : decode cX5_reads 105 = .ok (.getfield 73, 3) := by decide +kernel
theorem dX5_reads_108 : decode cX5_reads 108 = .ok (.iconst 1, 1) := by decide +kernel
theorem dX5_reads_109 : decode cX5_reads 109 = .ok (.iadd, 1) := by decide +kernel
theorem dX5_reads_110 : decode cX5_reads 110 = .ok (.putfield 73, 3) := by decide +kernel
theorem dX5_reads_113 : decode cX5_reads 113 = .ok (.goto (-31), 3) := by decide +kernel
theorem dX5_reads_116 : decode cX5_reads 116 = .ok (.iload_n 1, 1) := by decide +kernel
theorem dX5_reads_117 : decode cX5_reads 117 = .ok (.i2l, 1) := by decide +kernel
theorem dX5_reads_118 : decode cX5_reads 118 = .ok (.ldc2_w 95, 3) := by decide +kernel
theorem dX5_reads_121 : decode cX5_reads 121 = .ok (.ldc2_w 97, 3) := by decide +kernel
theorem dX5_reads_124 : decode cX5_reads 124 = .ok (.invokestatic 56, 3) := by decide +kernel
theorem dX5_reads_127 : decode cX5_reads 127 = .ok (.ifCond .eq 116, 3) := by decide +kernel
theorem dX5_reads_130 : decode cX5_reads 130 = .ok (.aload_n 0, 1) := by decide +kernel
theorem dX5_reads_131 : decode cX5_reads 131 = .ok (.iconst 2, 1) := by decide +kernel
theorem dX5_reads_132 : decode cX5_reads 132 = .ok (.putfield 88, 3) := by decide +kernel
theorem dX5_reads_135 : decode cX5_reads 135 = .ok (.aload_n 0, 1) := by decide +kernel
theorem dX5_reads_136 : decode cX5_reads 136 = .ok (.iconst 0, 1) := by decide +kernel
theorem dX5_reads_137 : decode cX5_reads 137 = .ok (.putfield 99, 3) := by decide +kernel
theorem dX5_reads_140 : decode cX5_reads 140 = .ok (.aload_n 0, 1) := by decide +kernel
theorem dX5_reads_141 : decode cX5_reads 141 = .ok (.aload_n 0, 1) := by decide +kernel
theorem dX5_reads_142 : decode cX5_reads 142 = .ok (.getfield 73, 3) := by decide +kernel
theorem dX5_reads_145 : decode cX5_reads 145 = .ok (.invokevirtual 76, 3) := by decide +kernel
theorem dX5_reads_148 : decode cX5_reads 148 = .ok (.i2l, 1) := by decide +kernel
theorem dX5_reads_149 : decode cX5_reads 149 = .ok (.ldc2_w 95, 3) := by decide +kernel
theorem dX5_reads_152 : decode cX5_reads 152 = .ok (.ldc2_w 97, 3) := by decide +kernel
theorem dX5_reads_155 : decode cX5_reads 155 = .ok (.invokestatic 56, 3) := by decide +kernel
theorem dX5_reads_158 : decode cX5_reads 158 = .ok (.ifCond .eq 59, 3) := by decide +kernel
theorem dX5_reads_161 : decode cX5_reads 161 = .ok (.aload_n 0, 1) := by decide +kernel
theorem dX5_reads_162 : decode cX5_reads 162 = .ok (.aload_n 0, 1) := by decide +kernel
theorem dX5_reads_163 : decode cX5_reads 163 = .ok (.getfield 73, 3) := by decide +kernel
theorem dX5_reads_166 : decode cX5_reads 166 = .ok (.aload_n 0, 1) := by decide +kernel
theorem dX5_reads_167 : decode cX5_reads 167 = .ok (.getfield 67, 3) := by decide +kernel
theorem dX5_reads_170 : decode cX5_reads 170 = .ok (.isub, 1) := by decide +kernel
theorem dX5_reads_171 : decode cX5_reads 171 = .ok (.iconst 2, 1) := by decide +kernel
theorem dX5_reads_172 : decode cX5_reads 172 = .ok (.if_icmp .ge 25, 3) := by decide +kernel
theorem dX5_reads_175 : decode cX5_reads 175 = .ok (.bipush 10, 2) := by decide +kernel
theorem dX5_reads_177 : decode cX5_reads 177 = .ok (.aload_n 0, 1) := by decide +kernel
theorem dX5_reads_178 : decode cX5_reads 178 = .ok (.getfield 99, 3) := by decide +kernel
theorem dX5_reads_181 : decode cX5_reads 181 = .ok (.imul, 1) := by decide +kernel
theorem dX5_reads_182 : decode cX5_reads 182 = .ok (.aload_n 0, 1) := by decide +kernel
theorem dX5_reads_183 : decode cX5_reads 183 = .ok (.aload_n 0, 1) := by decide +kernel
theorem dX5_reads_184 : decode cX5_reads 184 = .ok (.getfield 73, 3) := by decide +kernel
theorem dX5_reads_187 : decode cX5_reads 187 = .ok (.invokevirtual 76, 3) := by decide +kernel
theorem dX5_reads_190 : decode cX5_reads 190 = .ok (.iadd, 1) := by decide +kernel
theorem dX5_reads_191 : decode cX5_reads 191 = .ok (.bipush 48, 2) := by decide +kernel
theorem dX5_reads_193 : decode cX5_reads 193 = .ok (.isub, 1) := by decide +kernel
theorem dX5_reads_194 : decode cX5_reads 194 = .ok (.goto 7, 3) := by decide +kernel
theorem dX5_reads_197 : decode cX5_reads 197 = .ok (.aload_n 0, 1) := by decide +kernel
theorem dX5_reads_198 : decode cX5_reads 198 = .ok (.getfield 99, 3) := by decide +kernel
theorem dX5_reads_201 : decode cX5_reads 201 = .ok (.putfield 99, 3) := by decide +kernel
theorem dX5_reads_204 : decode cX5_reads 204 = .ok (.aload_n 0, 1) := by decide +kernel
theorem dX5_reads_205 : decode cX5_reads 205 = .ok (.dup, 1) := by decide +kernel
theorem dX5_reads_206 : decode cX5_reads 206 = .ok (.getfield 73, 3) := by decide +kernel
theorem dX5_reads_209 : decode cX5_reads 209 = .ok (.iconst 1, 1) := by decide +kernel
theorem dX5_reads_210 : decode cX5_reads 210 = .ok (.iadd, 1) := by decide +kernel
theorem dX5_reads_211 : decode cX5_reads 211 = .ok (.putfield 73, 3) := by decide +kernel
theorem dX5_reads_214 : decode cX5_reads 214 = .ok (.goto (-74), 3) := by decide +kernel
theorem dX5_reads_217 : decode cX5_reads 217 = .ok (.aload_n 0, 1) := by decide +kernel
theorem dX5_reads_218 : decode cX5_reads 218 = .ok (.aload_n 0, 1) := by decide +kernel
theorem dX5_reads_219 : decode cX5_reads 219 = .ok (.getfield 73, 3) := by decide +kernel
theorem dX5_reads_222 : decode cX5_reads 222 = .ok (.aload_n 0, 1) := by decide +kernel
theorem dX5_reads_223 : decode cX5_reads 223 = .ok (.getfield 67, 3) := by decide +kernel
theorem dX5_reads_226 : decode cX5_reads 226 = .ok (.isub, 1) := by decide +kernel
theorem dX5_reads_227 : decode cX5_reads 227 = .ok (.iconst 2, 1) := by decide +kernel
theorem dX5_reads_228 : decode cX5_reads 228 = .ok (.if_icmp .gt 7, 3) := by decide +kernel
theorem dX5_reads_231 : decode cX5_reads 231 = .ok (.iconst 1, 1) := by decide +kernel
theorem dX5_reads_232 : decode cX5_reads 232 = .ok (.goto 4, 3) := by decide +kernel
theorem dX5_reads_235 : decode cX5_reads 235 = .ok (.iconst 0, 1) := by decide +kernel
theorem dX5_reads_236 : decode cX5_reads 236 = .ok (.iconst 1, 1) := by decide +kernel
theorem dX5_reads_237 : decode cX5_reads 237 = .ok (.invokevirtual 102, 3) := by decide +kernel
theorem dX5_reads_240 : decode cX5_reads 240 = .ok (.goto 34, 3) := by decide +kernel
theorem dX5_reads_243 : decode cX5_reads 243 = .ok (.aload_n 0, 1) := by decide +kernel
theorem dX5_reads_244 : decode cX5_reads 244 = .ok (.iconst 3, 1) := by decide +kernel
theorem dX5_reads_245 : decode cX5_reads 245 = .ok (.putfield 88, 3) := by decide +kernel
theorem dX5_reads_248 : decode cX5_reads 248 = .ok (.aload_n 0, 1) := by decide +kernel
theorem dX5_reads_249 : decode cX5_reads 249 = .ok (.iload_n 1, 1) := by decide +kernel
theorem dX5_reads_250 : decode cX5_reads 250 = .ok (.bipush 59, 2) := by decide +kernel
theorem dX5_reads_252 : decode cX5_reads 252 = .ok (.if_icmp .ne 7, 3) := by decide +kernel
theorem dX5_reads_255 : decode cX5_reads 255 = .ok (.iconst 1, 1) := by decide +kernel
theorem dX5_reads_256 : decode cX5_reads 256 = .ok (.goto 4, 3) := by decide +kernel
theorem dX5_reads_259 : decode cX5_reads 259 = .ok (.iconst 0, 1) := by decide +kernel
theorem dX5_reads_260 : decode cX5_reads 260 = .ok (.iconst 1, 1) := by decide +kernel
theorem dX5_reads_261 : decode cX5_reads 261 = .ok (.invokevirtual 102, 3) := by decide +kernel
theorem dX5_reads_264 : decode cX5_reads 264 = .ok (.aload_n 0, 1) := by decide +kernel
theorem dX5_reads_265 : decode cX5_reads 265 = .ok (.dup, 1) := by decide +kernel
theorem dX5_reads_266 : decode cX5_reads 266 = .ok (.getfield 73, 3) := by decide +kernel
theorem dX5_reads_269 : decode cX5_reads 269 = .ok (.iconst 1, 1) := by decide +kernel
theorem dX5_reads_270 : decode cX5_reads 270 = .ok (.iadd, 1) := by decide +kernel
theorem dX5_reads_271 : decode cX5_reads 271 = .ok (.putfield 73, 3) := by decide +kernel
theorem dX5_reads_274 : decode cX5_reads 274 = .ok (.return_, 1) := by decide +kernel
theorem dX5_readNumber_0 : decode cX5_readNumber 0 = .ok (.aload_n 0, 1) := by decide +kernel
theorem dX5_readNumber_1 : decode cX5_readNumber 1 = .ok (.getfield 64, 3) := by decide +kernel
theorem dX5_readNumber_4 : decode cX5_readNumber 4 = .ok (.ifCond .ne 21, 3) := by decide +kernel
theorem dX5_readNumber_7 : decode cX5_readNumber 7 = .ok (.aload_n 0, 1) := by decide +kernel
theorem dX5_readNumber_8 : decode cX5_readNumber 8 = .ok (.aload_n 0, 1) := by decide +kernel
theorem dX5_readNumber_9 : decode cX5_readNumber 9 = .ok (.getfield 88, 3) := by decide +kernel
theorem dX5_readNumber_12 : decode cX5_readNumber 12 = .ok (.iconst 2, 1) := by decide +kernel
theorem dX5_readNumber_13 : decode cX5_readNumber 13 = .ok (.if_icmp .ne 7, 3) := by decide +kernel
theorem dX5_readNumber_16 : decode cX5_readNumber 16 = .ok (.iconst 1, 1) := by decide +kernel
theorem dX5_readNumber_17 : decode cX5_readNumber 17 = .ok (.goto 4, 3) := by decide +kernel
theorem dX5_readNumber_20 : decode cX5_readNumber 20 = .ok (.iconst 0, 1) := by decide +kernel
theorem dX5_readNumber_21 : decode cX5_readNumber 21 = .ok (.iconst 2, 1) := by decide +kernel
theorem dX5_readNumber_22 : decode cX5_readNumber 22 = .ok (.invokevirtual 102, 3) := by decide +kernel
theorem dX5_readNumber_25 : decode cX5_readNumber 25 = .ok (.aload_n 0, 1) := by decide +kernel
theorem dX5_readNumber_26 : decode cX5_readNumber 26 = .ok (.getfield 64, 3) := by decide +kernel
theorem dX5_readNumber_29 : decode cX5_readNumber 29 = .ok (.ifCond .ne 19, 3) := by decide +kernel
theorem dX5_readNumber_32 : decode cX5_readNumber 32 = .ok (.aload_n 0, 1) := by decide +kernel
theorem dX5_readNumber_33 : decode cX5_readNumber 33 = .ok (.aload_n 0, 1) := by decide +kernel
theorem dX5_readNumber_34 : decode cX5_readNumber 34 = .ok (.getfield 99, 3) := by decide +kernel
theorem dX5_readNumber_37 : decode cX5_readNumber 37 = .ok (.i2l, 1) := by decide +kernel
theorem dX5_readNumber_38 : decode cX5_readNumber 38 = .ok (.lconst 0, 1) := by decide +kernel
theorem dX5_readNumber_39 : decode cX5_readNumber 39 = .ok (.iload_n 1, 1) := by decide +kernel
theorem dX5_readNumber_40 : decode cX5_readNumber 40 = .ok (.i2l, 1) := by decide +kernel
theorem dX5_readNumber_41 : decode cX5_readNumber 41 = .ok (.invokestatic 56, 3) := by decide +kernel
theorem dX5_readNumber_44 : decode cX5_readNumber 44 = .ok (.iconst 3, 1) := by decide +kernel
theorem dX5_readNumber_45 : decode cX5_readNumber 45 = .ok (.invokevirtual 102, 3) := by decide +kernel
theorem dX5_readNumber_48 : decode cX5_readNumber 48 = .ok (.aload_n 0, 1) := by decide +kernel
theorem dX5_readNumber_49 : decode cX5_readNumber 49 = .ok (.getfield 64, 3) := by decide +kernel
theorem dX5_readNumber_52 : decode cX5_readNumber 52 = .ok (.ifCond .ne 10, 3) := by decide +kernel
theorem dX5_readNumber_55 : decode cX5_readNumber 55 = .ok (.aload_n 0, 1) := by decide +kernel
theorem dX5_readNumber_56 : decode cX5_readNumber 56 = .ok (.getfield 99, 3) := by decide +kernel
theorem dX5_readNumber_59 : decode cX5_readNumber 59 = .ok (.goto 4, 3) := by decide +kernel
theorem dX5_readNumber_62 : decode cX5_readNumber 62 = .ok (.iconst 0, 1) := by decide +kernel
theorem dX5_readNumber_63 : decode cX5_readNumber 63 = .ok (.istore_n 2, 1) := by decide +kernel
theorem dX5_readNumber_64 : decode cX5_readNumber 64 = .ok (.aload_n 0, 1) := by decide +kernel
theorem dX5_readNumber_65 : decode cX5_readNumber 65 = .ok (.invokevirtual 106, 3) := by decide +kernel
theorem dX5_readNumber_68 : decode cX5_readNumber 68 = .ok (.iload_n 2, 1) := by decide +kernel
theorem dX5_readNumber_69 : decode cX5_readNumber 69 = .ok (.ireturn, 1) := by decide +kernel
theorem dX5_readMember_0 : decode cX5_readMember 0 = .ok (.iconst 4, 1) := by decide +kernel
theorem dX5_readMember_1 : decode cX5_readMember 1 = .ok (.aload_n 0, 1) := by decide +kernel
theorem dX5_readMember_2 : decode cX5_readMember 2 = .ok (.getfield 20, 3) := by decide +kernel
theorem dX5_readMember_5 : decode cX5_readMember 5 = .ok (.bipush 24, 2) := by decide +kernel
theorem dX5_readMember_7 : decode cX5_readMember 7 = .ok (.iaload, 1) := by decide +kernel
theorem dX5_readMember_8 : decode cX5_readMember 8 = .ok (.imul, 1) := by decide +kernel
theorem dX5_readMember_9 : decode cX5_readMember 9 = .ok (.istore_n 2, 1) := by decide +kernel
theorem dX5_readMember_10 : decode cX5_readMember 10 = .ok (.aload_n 0, 1) := by decide +kernel
theorem dX5_readMember_11 : decode cX5_readMember 11 = .ok (.getfield 20, 3) := by decide +kernel
theorem dX5_readMember_14 : decode cX5_readMember 14 = .ok (.iload_n 2, 1) := by decide +kernel
theorem dX5_readMember_15 : decode cX5_readMember 15 = .ok (.iconst 0, 1) := by decide +kernel
theorem dX5_readMember_16 : decode cX5_readMember 16 = .ok (.iadd, 1) := by decide +kernel
theorem dX5_readMember_17 : decode cX5_readMember 17 = .ok (.iload_n 1, 1) := by decide +kernel
theorem dX5_readMember_18 : decode cX5_readMember 18 = .ok (.iastore, 1) := by decide +kernel
theorem dX5_readMember_19 : decode cX5_readMember 19 = .ok (.aload_n 0, 1) := by decide +kernel
theorem dX5_readMember_20 : decode cX5_readMember 20 = .ok (.getfield 20, 3) := by decide +kernel
theorem dX5_readMember_23 : decode cX5_readMember 23 = .ok (.iload_n 2, 1) := by decide +kernel
theorem dX5_readMember_24 : decode cX5_readMember 24 = .ok (.iconst 1, 1) := by decide +kernel
theorem dX5_readMember_25 : decode cX5_readMember 25 = .ok (.iadd, 1) := by decide +kernel
theorem dX5_readMember_26 : decode cX5_readMember 26 = .ok (.aload_n 0, 1) := by decide +kernel
theorem dX5_readMember_27 : decode cX5_readMember 27 = .ok (.iconst 1, 1) := by decide +kernel
theorem dX5_readMember_28 : decode cX5_readMember 28 = .ok (.invokevirtual 109, 3) := by decide +kernel
theorem dX5_readMember_31 : decode cX5_readMember 31 = .ok (.iastore, 1) := by decide +kernel
theorem dX5_readMember_32 : decode cX5_readMember 32 = .ok (.aload_n 0, 1) := by decide +kernel
theorem dX5_readMember_33 : decode cX5_readMember 33 = .ok (.getfield 20, 3) := by decide +kernel
theorem dX5_readMember_36 : decode cX5_readMember 36 = .ok (.iload_n 2, 1) := by decide +kernel
theorem dX5_readMember_37 : decode cX5_readMember 37 = .ok (.iconst 2, 1) := by decide +kernel
theorem dX5_readMember_38 : decode cX5_readMember 38 = .ok (.iadd, 1) := by decide +kernel
theorem dX5_readMember_39 : decode cX5_readMember 39 = .ok (.aload_n 0, 1) := by decide +kernel
theorem dX5_readMember_40 : decode cX5_readMember 40 = .ok (.bipush 20, 2) := by decide +kernel
theorem dX5_readMember_42 : decode cX5_readMember 42 = .ok (.invokevirtual 109, 3) := by decide +kernel
theorem dX5_readMember_45 : decode cX5_readMember 45 = .ok (.iastore, 1) := by decide +kernel
theorem dX5_readMember_46 : decode cX5_readMember 46 = .ok (.aload_n 0, 1) := by decide +kernel
theorem dX5_readMember_47 : decode cX5_readMember 47 = .ok (.getfield 20, 3) := by decide +kernel
theorem dX5_readMember_50 : decode cX5_readMember 50 = .ok (.iload_n 2, 1) := by decide +kernel
theorem dX5_readMember_51 : decode cX5_readMember 51 = .ok (.iconst 3, 1) := by decide +kernel
theorem dX5_readMember_52 : decode cX5_readMember 52 = .ok (.iadd, 1) := by decide +kernel
theorem dX5_readMember_53 : decode cX5_readMember 53 = .ok (.aload_n 0, 1) := by decide +kernel
theorem dX5_readMember_54 : decode cX5_readMember 54 = .ok (.bipush 20, 2) := by decide +kernel
theorem dX5_readMember_56 : decode cX5_readMember 56 = .ok (.invokevirtual 109, 3) := by decide +kernel
theorem dX5_readMember_59 : decode cX5_readMember 59 = .ok (.iastore, 1) := by decide +kernel
theorem dX5_readMember_60 : decode cX5_readMember 60 = .ok (.aload_n 0, 1) := by decide +kernel
theorem dX5_readMember_61 : decode cX5_readMember 61 = .ok (.getfield 20, 3) := by decide +kernel
theorem dX5_readMember_64 : decode cX5_readMember 64 = .ok (.bipush 24, 2) := by decide +kernel
theorem dX5_readMember_66 : decode cX5_readMember 66 = .ok (.dup2, 1) := by decide +kernel
theorem dX5_readMember_67 : decode cX5_readMember 67 = .ok (.iaload, 1) := by decide +kernel
theorem dX5_readMember_68 : decode cX5_readMember 68 = .ok (.iconst 1, 1) := by decide +kernel
theorem dX5_readMember_69 : decode cX5_readMember 69 = .ok (.iadd, 1) := by decide +kernel
theorem dX5_readMember_70 : decode cX5_readMember 70 = .ok (.iastore, 1) := by decide +kernel
theorem dX5_readMember_71 : decode cX5_readMember 71 = .ok (.return_, 1) := by decide +kernel
theorem dX5_readLine_0 : decode cX5_readLine 0 = .ok (.aload_n 0, 1) := by decide +kernel
theorem dX5_readLine_1 : decode cX5_readLine 1 = .ok (.getfield 88, 3) := by decide +kernel
theorem dX5_readLine_4 : decode cX5_readLine 4 = .ok (.iconst 1, 1) := by decide +kernel
theorem dX5_readLine_5 : decode cX5_readLine 5 = .ok (.if_icmp .ne 10, 3) := by decide +kernel
theorem dX5_readLine_8 : decode cX5_readLine 8 = .ok (.aload_n 0, 1) := by decide +kernel
theorem dX5_readLine_9 : decode cX5_readLine 9 = .ok (.invokevirtual 112, 3) := by decide +kernel
theorem dX5_readLine_12 : decode cX5_readLine 12 = .ok (.goto 5, 3) := by decide +kernel
theorem dX5_readLine_15 : decode cX5_readLine 15 = .ok (.bipush (-4), 2) := by decide +kernel
theorem dX5_readLine_17 : decode cX5_readLine 17 = .ok (.istore_n 1, 1) := by decide +kernel
theorem dX5_readLine_18 : decode cX5_readLine 18 = .ok (.aload_n 0, 1) := by decide +kernel
theorem dX5_readLine_19 : decode cX5_readLine 19 = .ok (.iload_n 1, 1) := by decide +kernel
theorem dX5_readLine_20 : decode cX5_readLine 20 = .ok (.bipush (-4), 2) := by decide +kernel
theorem dX5_readLine_22 : decode cX5_readLine 22 = .ok (.if_icmp .eq 7, 3) := by decide +kernel
theorem dX5_readLine_25 : decode cX5_readLine 25 = .ok (.iconst 1, 1) := by decide +kernel
theorem dX5_readLine_26 : decode cX5_readLine 26 = .ok (.goto 4, 3) := by decide +kernel
theorem dX5_readLine_29 : decode cX5_readLine 29 = .ok (.iconst 0, 1) := by decide +kernel
theorem dX5_readLine_30 : decode cX5_readLine 30 = .ok (.iconst 2, 1) := by decide +kernel
theorem dX5_readLine_31 : decode cX5_readLine 31 = .ok (.invokevirtual 102, 3) := by decide +kernel
theorem dX5_readLine_34 : decode cX5_readLine 34 = .ok (.aload_n 0, 1) := by decide +kernel
theorem dX5_readLine_35 : decode cX5_readLine 35 = .ok (.iload_n 1, 1) := by decide +kernel
theorem dX5_readLine_36 : decode cX5_readLine 36 = .ok (.iconst 4, 1) := by decide +kernel
theorem dX5_readLine_37 : decode cX5_readLine 37 = .ok (.if_icmp .ge 15, 3) := by decide +kernel
theorem dX5_readLine_40 : decode cX5_readLine 40 = .ok (.aload_n 0, 1) := by decide +kernel
theorem dX5_readLine_41 : decode cX5_readLine 41 = .ok (.getfield 20, 3) := by decide +kernel
theorem dX5_readLine_44 : decode cX5_readLine 44 = .ok (.bipush 24, 2) := by decide +kernel
theorem dX5_readLine_46 : decode cX5_readLine 46 = .ok (.iaload, 1) := by decide +kernel
theorem dX5_readLine_47 : decode cX5_readLine 47 = .ok (.bipush 6, 2) := by decide +kernel
theorem dX5_readLine_49 : decode cX5_readLine 49 = .ok (.if_icmp .ge 7, 3) := by decide +kernel
theorem dX5_readLine_52 : decode cX5_readLine 52 = .ok (.iconst 1, 1) := by decide +kernel
theorem dX5_readLine_53 : decode cX5_readLine 53 = .ok (.goto 4, 3) := by decide +kernel
theorem dX5_readLine_56 : decode cX5_readLine 56 = .ok (.iconst 0, 1) := by decide +kernel
theorem dX5_readLine_57 : decode cX5_readLine 57 = .ok (.iconst 5, 1) := by decide +kernel
theorem dX5_readLine_58 : decode cX5_readLine 58 = .ok (.invokevirtual 102, 3) := by decide +kernel
theorem dX5_readLine_61 : decode cX5_readLine 61 = .ok (.aload_n 0, 1) := by decide +kernel
theorem dX5_readLine_62 : decode cX5_readLine 62 = .ok (.iload_n 1, 1) := by decide +kernel
theorem dX5_readLine_63 : decode cX5_readLine 63 = .ok (.iconst 4, 1) := by decide +kernel
theorem dX5_readLine_64 : decode cX5_readLine 64 = .ok (.if_icmp .ne 10, 3) := by decide +kernel
theorem dX5_readLine_67 : decode cX5_readLine 67 = .ok (.aload_n 0, 1) := by decide +kernel
theorem dX5_readLine_68 : decode cX5_readLine 68 = .ok (.getfield 50, 3) := by decide +kernel
theorem dX5_readLine_71 : decode cX5_readLine 71 = .ok (.ifCond .ne 7, 3) := by decide +kernel
theorem dX5_readLine_74 : decode cX5_readLine 74 = .ok (.iconst 1, 1) := by decide +kernel
theorem dX5_readLine_75 : decode cX5_readLine 75 = .ok (.goto 4, 3) := by decide +kernel
theorem dX5_readLine_78 : decode cX5_readLine 78 = .ok (.iconst 0, 1) := by decide +kernel
theorem dX5_readLine_79 : decode cX5_readLine 79 = .ok (.iconst 4, 1) := by decide +kernel
theorem dX5_readLine_80 : decode cX5_readLine 80 = .ok (.invokevirtual 102, 3) := by decide +kernel
theorem dX5_readLine_83 : decode cX5_readLine 83 = .ok (.aload_n 0, 1) := by decide +kernel
theorem dX5_readLine_84 : decode cX5_readLine 84 = .ok (.aload_n 0, 1) := by decide +kernel
theorem dX5_readLine_85 : decode cX5_readLine 85 = .ok (.getfield 50, 3) := by decide +kernel
theorem dX5_readLine_88 : decode cX5_readLine 88 = .ok (.ifCond .ne 8, 3) := by decide +kernel
theorem dX5_readLine_91 : decode cX5_readLine 91 = .ok (.iload_n 1, 1) := by decide +kernel
theorem dX5_readLine_92 : decode cX5_readLine 92 = .ok (.iconst 4, 1) := by decide +kernel
theorem dX5_readLine_93 : decode cX5_readLine 93 = .ok (.if_icmp .ne 7, 3) := by decide +kernel
theorem dX5_readLine_96 : decode cX5_readLine 96 = .ok (.iconst 1, 1) := by decide +kernel
theorem dX5_readLine_97 : decode cX5_readLine 97 = .ok (.goto 4, 3) := by decide +kernel
theorem dX5_readLine_100 : decode cX5_readLine 100 = .ok (.iconst 0, 1) := by decide +kernel
theorem dX5_readLine_101 : decode cX5_readLine 101 = .ok (.putfield 50, 3) := by decide +kernel
theorem dX5_readLine_104 : decode cX5_readLine 104 = .ok (.aload_n 0, 1) := by decide +kernel
theorem dX5_readLine_105 : decode cX5_readLine 105 = .ok (.invokevirtual 106, 3) := by decide +kernel
theorem dX5_readLine_108 : decode cX5_readLine 108 = .ok (.aload_n 0, 1) := by decide +kernel
theorem dX5_readLine_109 : decode cX5_readLine 109 = .ok (.getfield 64, 3) := by decide +kernel
theorem dX5_readLine_112 : decode cX5_readLine 112 = .ok (.ifCond .le 4, 3) := by decide +kernel
theorem dX5_readLine_115 : decode cX5_readLine 115 = .ok (.return_, 1) := by decide +kernel
theorem dX5_readLine_116 : decode cX5_readLine 116 = .ok (.iload_n 1, 1) := by decide +kernel
theorem dX5_readLine_117 : decode cX5_readLine 117 = .ok (.iconst 4, 1) := by decide +kernel
theorem dX5_readLine_118 : decode cX5_readLine 118 = .ok (.if_icmp .ne 19, 3) := by decide +kernel
theorem dX5_readLine_121 : decode cX5_readLine 121 = .ok (.aload_n 0, 1) := by decide +kernel
theorem dX5_readLine_122 : decode cX5_readLine 122 = .ok (.getfield 20, 3) := by decide +kernel
theorem dX5_readLine_125 : decode cX5_readLine 125 = .ok (.bipush 25, 2) := by decide +kernel
theorem dX5_readLine_127 : decode cX5_readLine 127 = .ok (.aload_n 0, 1) := by decide +kernel
theorem dX5_readLine_128 : decode cX5_readLine 128 = .ok (.bipush 20, 2) := by decide +kernel
theorem dX5_readLine_130 : decode cX5_readLine 130 = .ok (.invokevirtual 109, 3) := by decide +kernel
theorem dX5_readLine_133 : decode cX5_readLine 133 = .ok (.iastore, 1) := by decide +kernel
theorem dX5_readLine_134 : decode cX5_readLine 134 = .ok (.goto 8, 3) := by decide +kernel
theorem dX5_readLine_137 : decode cX5_readLine 137 = .ok (.aload_n 0, 1) := by decide +kernel
theorem dX5_readLine_138 : decode cX5_readLine 138 = .ok (.iload_n 1, 1) := by decide +kernel
theorem dX5_readLine_139 : decode cX5_readLine 139 = .ok (.invokevirtual 116, 3) := by decide +kernel
theorem dX5_readLine_142 : decode cX5_readLine 142 = .ok (.aload_n 0, 1) := by decide +kernel
theorem dX5_readLine_143 : decode cX5_readLine 143 = .ok (.getfield 64, 3) := by decide +kernel
theorem dX5_readLine_146 : decode cX5_readLine 146 = .ok (.ifCond .ne 21, 3) := by decide +kernel
theorem dX5_readLine_149 : decode cX5_readLine 149 = .ok (.aload_n 0, 1) := by decide +kernel
theorem dX5_readLine_150 : decode cX5_readLine 150 = .ok (.aload_n 0, 1) := by decide +kernel
theorem dX5_readLine_151 : decode cX5_readLine 151 = .ok (.getfield 88, 3) := by decide +kernel
theorem dX5_readLine_154 : decode cX5_readLine 154 = .ok (.iconst 3, 1) := by decide +kernel
theorem dX5_readLine_155 : decode cX5_readLine 155 = .ok (.if_icmp .ne 7, 3) := by decide +kernel
theorem dX5_readLine_158 : decode cX5_readLine 158 = .ok (.iconst 1, 1) := by decide +kernel
theorem dX5_readLine_159 : decode cX5_readLine 159 = .ok (.goto 4, 3) := by decide +kernel
theorem dX5_readLine_162 : decode cX5_readLine 162 = .ok (.iconst 0, 1) := by decide +kernel
theorem dX5_readLine_163 : decode cX5_readLine 163 = .ok (.iconst 2, 1) := by decide +kernel
theorem dX5_readLine_164 : decode cX5_readLine 164 = .ok (.invokevirtual 102, 3) := by decide +kernel
theorem dX5_readLine_167 : decode cX5_readLine 167 = .ok (.aload_n 0, 1) := by decide +kernel
theorem dX5_readLine_168 : decode cX5_readLine 168 = .ok (.invokevirtual 106, 3) := by decide +kernel
theorem dX5_readLine_171 : decode cX5_readLine 171 = .ok (.return_, 1) := by decide +kernel
theorem dX5_text_0 : decode cX5_text 0 = .ok (.iconst 0, 1) := by decide +kernel
theorem dX5_text_1 : decode cX5_text 1 = .ok (.istore_n 1, 1) := by decide +kernel
theorem dX5_text_2 : decode cX5_text 2 = .ok (.aload_n 0, 1) := by decide +kernel
theorem dX5_text_3 : decode cX5_text 3 = .ok (.iconst 0, 1) := by decide +kernel
theorem dX5_text_4 : decode cX5_text 4 = .ok (.putfield 64, 3) := by decide +kernel
theorem dX5_text_7 : decode cX5_text 7 = .ok (.aload_n 0, 1) := by decide +kernel
theorem dX5_text_8 : decode cX5_text 8 = .ok (.iconst 0, 1) := by decide +kernel
theorem dX5_text_9 : decode cX5_text 9 = .ok (.putfield 73, 3) := by decide +kernel
theorem dX5_text_12 : decode cX5_text 12 = .ok (.aload_n 0, 1) := by decide +kernel
theorem dX5_text_13 : decode cX5_text 13 = .ok (.invokevirtual 44, 3) := by decide +kernel
theorem dX5_text_16 : decode cX5_text 16 = .ok (.aload_n 0, 1) := by decide +kernel
theorem dX5_text_17 : decode cX5_text 17 = .ok (.invokevirtual 106, 3) := by decide +kernel
theorem dX5_text_20 : decode cX5_text 20 = .ok (.aload_n 0, 1) := by decide +kernel
theorem dX5_text_21 : decode cX5_text 21 = .ok (.getfield 64, 3) := by decide +kernel
theorem dX5_text_24 : decode cX5_text 24 = .ok (.ifCond .ne 20, 3) := by decide +kernel
theorem dX5_text_27 : decode cX5_text 27 = .ok (.aload_n 0, 1) := by decide +kernel
theorem dX5_text_28 : decode cX5_text 28 = .ok (.getfield 88, 3) := by decide +kernel
theorem dX5_text_31 : decode cX5_text 31 = .ok (.ifCond .eq 13, 3) := by decide +kernel
theorem dX5_text_34 : decode cX5_text 34 = .ok (.aload_n 0, 1) := by decide +kernel
theorem dX5_text_35 : decode cX5_text 35 = .ok (.invokevirtual 120, 3) := by decide +kernel
theorem dX5_text_38 : decode cX5_text 38 = .ok (.iinc 1 1, 3) := by decide +kernel
theorem dX5_text_41 : decode cX5_text 41 = .ok (.goto (-21), 3) := by decide +kernel
theorem dX5_text_44 : decode cX5_text 44 = .ok (.aload_n 0, 1) := by decide +kernel
theorem dX5_text_45 : decode cX5_text 45 = .ok (.iconst 0, 1) := by decide +kernel
theorem dX5_text_46 : decode cX5_text 46 = .ok (.putfield 60, 3) := by decide +kernel
theorem dX5_text_49 : decode cX5_text 49 = .ok (.aload_n 0, 1) := by decide +kernel
theorem dX5_text_50 : decode cX5_text 50 = .ok (.getfield 64, 3) := by decide +kernel
theorem dX5_text_53 : decode cX5_text 53 = .ok (.ifCond .le 11, 3) := by decide +kernel
theorem dX5_text_56 : decode cX5_text 56 = .ok (.bipush (-10), 2) := by decide +kernel
theorem dX5_text_58 : decode cX5_text 58 = .ok (.aload_n 0, 1) := by decide +kernel
theorem dX5_text_59 : decode cX5_text 59 = .ok (.getfield 70, 3) := by decide +kernel
theorem dX5_text_62 : decode cX5_text 62 = .ok (.isub, 1) := by decide +kernel
theorem dX5_text_63 : decode cX5_text 63 = .ok (.ireturn, 1) := by decide +kernel
theorem dX5_text_64 : decode cX5_text 64 = .ok (.aload_n 0, 1) := by decide +kernel
theorem dX5_text_65 : decode cX5_text 65 = .ok (.invokevirtual 47, 3) := by decide +kernel
theorem dX5_text_68 : decode cX5_text 68 = .ok (.iload_n 1, 1) := by decide +kernel
theorem dX5_text_69 : decode cX5_text 69 = .ok (.ireturn, 1) := by decide +kernel
theorem dX5_fault_0 : decode cX5_fault 0 = .ok (.aload_n 0, 1) := by decide +kernel
theorem dX5_fault_1 : decode cX5_fault 1 = .ok (.getfield 64, 3) := by decide +kernel
theorem dX5_fault_4 : decode cX5_fault 4 = .ok (.ireturn, 1) := by decide +kernel
theorem dX5_isMember_0 : decode cX5_isMember 0 = .ok (.iload_n 1, 1) := by decide +kernel
theorem dX5_isMember_1 : decode cX5_isMember 1 = .ok (.i2l, 1) := by decide +kernel
theorem dX5_isMember_2 : decode cX5_isMember 2 = .ok (.lconst 0, 1) := by decide +kernel
theorem dX5_isMember_3 : decode cX5_isMember 3 = .ok (.aload_n 0, 1) := by decide +kernel
theorem dX5_isMember_4 : decode cX5_isMember 4 = .ok (.getfield 7, 3) := by decide +kernel
theorem dX5_isMember_7 : decode cX5_isMember 7 = .ok (.bipush 24, 2) := by decide +kernel
theorem dX5_isMember_9 : decode cX5_isMember 9 = .ok (.iaload, 1) := by decide +kernel
theorem dX5_isMember_10 : decode cX5_isMember 10 = .ok (.iconst 1, 1) := by decide +kernel
theorem dX5_isMember_11 : decode cX5_isMember 11 = .ok (.isub, 1) := by decide +kernel
theorem dX5_isMember_12 : decode cX5_isMember 12 = .ok (.i2l, 1) := by decide +kernel
theorem dX5_isMember_13 : decode cX5_isMember 13 = .ok (.invokestatic 56, 3) := by decide +kernel
theorem dX5_isMember_16 : decode cX5_isMember 16 = .ok (.ireturn, 1) := by decide +kernel
theorem dX5_isMotion_0 : decode cX5_isMotion 0 = .ok (.iload_n 0, 1) := by decide +kernel
theorem dX5_isMotion_1 : decode cX5_isMotion 1 = .ok (.i2l, 1) := by decide +kernel
theorem dX5_isMotion_2 : decode cX5_isMotion 2 = .ok (.lconst 0, 1) := by decide +kernel
theorem dX5_isMotion_3 : decode cX5_isMotion 3 = .ok (.ldc2_w 123, 3) := by decide +kernel
theorem dX5_isMotion_6 : decode cX5_isMotion 6 = .ok (.invokestatic 56, 3) := by decide +kernel
theorem dX5_isMotion_9 : decode cX5_isMotion 9 = .ok (.ireturn, 1) := by decide +kernel
theorem dX5_isPart_0 : decode cX5_isPart 0 = .ok (.iload_n 0, 1) := by decide +kernel
theorem dX5_isPart_1 : decode cX5_isPart 1 = .ok (.i2l, 1) := by decide +kernel
theorem dX5_isPart_2 : decode cX5_isPart 2 = .ok (.lconst 0, 1) := by decide +kernel
theorem dX5_isPart_3 : decode cX5_isPart 3 = .ok (.lconst 1, 1) := by decide +kernel
theorem dX5_isPart_4 : decode cX5_isPart 4 = .ok (.invokestatic 56, 3) := by decide +kernel
theorem dX5_isPart_7 : decode cX5_isPart 7 = .ok (.ireturn, 1) := by decide +kernel
theorem dX5_starts_0 : decode cX5_starts 0 = .ok (.iconst 0, 1) := by decide +kernel
theorem dX5_starts_1 : decode cX5_starts 1 = .ok (.istore_n 1, 1) := by decide +kernel
theorem dX5_starts_2 : decode cX5_starts 2 = .ok (.iload_n 1, 1) := by decide +kernel
theorem dX5_starts_3 : decode cX5_starts 3 = .ok (.bipush 41, 2) := by decide +kernel
theorem dX5_starts_5 : decode cX5_starts 5 = .ok (.if_icmp .ge 21, 3) := by decide +kernel
theorem dX5_starts_8 : decode cX5_starts 8 = .ok (.aload_n 0, 1) := by decide +kernel
theorem dX5_starts_9 : decode cX5_starts 9 = .ok (.getfield 13, 3) := by decide +kernel
theorem dX5_starts_12 : decode cX5_starts 12 = .ok (.iload_n 1, 1) := by decide +kernel
theorem dX5_starts_13 : decode cX5_starts 13 = .ok (.aload_n 0, 1) := by decide +kernel
theorem dX5_starts_14 : decode cX5_starts 14 = .ok (.getfield 7, 3) := by decide +kernel
theorem dX5_starts_17 : decode cX5_starts 17 = .ok (.iload_n 1, 1) := by decide +kernel
theorem dX5_starts_18 : decode cX5_starts 18 = .ok (.iaload, 1) := by decide +kernel
theorem dX5_starts_19 : decode cX5_starts 19 = .ok (.iastore, 1) := by decide +kernel
theorem dX5_starts_20 : decode cX5_starts 20 = .ok (.iinc 1 1, 3) := by decide +kernel
theorem dX5_starts_23 : decode cX5_starts 23 = .ok (.goto (-21), 3) := by decide +kernel
theorem dX5_starts_26 : decode cX5_starts 26 = .ok (.aload_n 0, 1) := by decide +kernel
theorem dX5_starts_27 : decode cX5_starts 27 = .ok (.bipush (-4), 2) := by decide +kernel
theorem dX5_starts_29 : decode cX5_starts 29 = .ok (.putfield 125, 3) := by decide +kernel
theorem dX5_starts_32 : decode cX5_starts 32 = .ok (.aload_n 0, 1) := by decide +kernel
theorem dX5_starts_33 : decode cX5_starts 33 = .ok (.iconst 0, 1) := by decide +kernel
theorem dX5_starts_34 : decode cX5_starts 34 = .ok (.putfield 128, 3) := by decide +kernel
theorem dX5_starts_37 : decode cX5_starts 37 = .ok (.return_, 1) := by decide +kernel
theorem dX5_settles_0 : decode cX5_settles 0 = .ok (.iconst 0, 1) := by decide +kernel
theorem dX5_settles_1 : decode cX5_settles 1 = .ok (.istore_n 1, 1) := by decide +kernel
theorem dX5_settles_2 : decode cX5_settles 2 = .ok (.iload_n 1, 1) := by decide +kernel
theorem dX5_settles_3 : decode cX5_settles 3 = .ok (.bipush 41, 2) := by decide +kernel
theorem dX5_settles_5 : decode cX5_settles 5 = .ok (.if_icmp .ge 21, 3) := by decide +kernel
theorem dX5_settles_8 : decode cX5_settles 8 = .ok (.aload_n 0, 1) := by decide +kernel
theorem dX5_settles_9 : decode cX5_settles 9 = .ok (.getfield 7, 3) := by decide +kernel
theorem dX5_settles_12 : decode cX5_settles 12 = .ok (.iload_n 1, 1) := by decide +kernel
theorem dX5_settles_13 : decode cX5_settles 13 = .ok (.aload_n 0, 1) := by decide +kernel
theorem dX5_settles_14 : decode cX5_settles 14 = .ok (.getfield 13, 3) := by decide +kernel
theorem dX5_settles_17 : decode cX5_settles 17 = .ok (.iload_n 1, 1) := by decide +kernel
theorem dX5_settles_18 : decode cX5_settles 18 = .ok (.iaload, 1) := by decide +kernel
theorem dX5_settles_19 : decode cX5_settles 19 = .ok (.iastore, 1) := by decide +kernel
theorem dX5_settles_20 : decode cX5_settles 20 = .ok (.iinc 1 1, 3) := by decide +kernel
theorem dX5_settles_23 : decode cX5_settles 23 = .ok (.goto (-21), 3) := by decide +kernel
theorem dX5_settles_26 : decode cX5_settles 26 = .ok (.return_, 1) := by decide +kernel
theorem dX5_of_0 : decode cX5_of 0 = .ok (.aload_n 0, 1) := by decide +kernel
theorem dX5_of_1 : decode cX5_of 1 = .ok (.getfield 13, 3) := by decide +kernel
theorem dX5_of_4 : decode cX5_of 4 = .ok (.iconst 4, 1) := by decide +kernel
theorem dX5_of_5 : decode cX5_of 5 = .ok (.iload_n 1, 1) := by decide +kernel
theorem dX5_of_6 : decode cX5_of 6 = .ok (.imul, 1) := by decide +kernel
theorem dX5_of_7 : decode cX5_of 7 = .ok (.iload_n 2, 1) := by decide +kernel
theorem dX5_of_8 : decode cX5_of 8 = .ok (.iadd, 1) := by decide +kernel
theorem dX5_of_9 : decode cX5_of 9 = .ok (.iaload, 1) := by decide +kernel
theorem dX5_of_10 : decode cX5_of 10 = .ok (.ireturn, 1) := by decide +kernel
theorem dX5_becomesOf_0 : decode cX5_becomesOf 0 = .ok (.aload_n 0, 1) := by decide +kernel
theorem dX5_becomesOf_1 : decode cX5_becomesOf 1 = .ok (.getfield 13, 3) := by decide +kernel
theorem dX5_becomesOf_4 : decode cX5_becomesOf 4 = .ok (.iconst 4, 1) := by decide +kernel
theorem dX5_becomesOf_5 : decode cX5_becomesOf 5 = .ok (.iload_n 1, 1) := by decide +kernel
theorem dX5_becomesOf_6 : decode cX5_becomesOf 6 = .ok (.imul, 1) := by decide +kernel
theorem dX5_becomesOf_7 : decode cX5_becomesOf 7 = .ok (.iload_n 2, 1) := by decide +kernel
theorem dX5_becomesOf_8 : decode cX5_becomesOf 8 = .ok (.iadd, 1) := by decide +kernel
theorem dX5_becomesOf_9 : decode cX5_becomesOf 9 = .ok (.iload_n 3, 1) := by decide +kernel
theorem dX5_becomesOf_10 : decode cX5_becomesOf 10 = .ok (.iastore, 1) := by decide +kernel
theorem dX5_becomesOf_11 : decode cX5_becomesOf 11 = .ok (.return_, 1) := by decide +kernel
theorem dX5_awayBy_0 : decode cX5_awayBy 0 = .ok (.aload_n 0, 1) := by decide +kernel
theorem dX5_awayBy_1 : decode cX5_awayBy 1 = .ok (.iload_n 1, 1) := by decide +kernel
theorem dX5_awayBy_2 : decode cX5_awayBy 2 = .ok (.iconst 2, 1) := by decide +kernel
theorem dX5_awayBy_3 : decode cX5_awayBy 3 = .ok (.invokevirtual 131, 3) := by decide +kernel
theorem dX5_awayBy_6 : decode cX5_awayBy 6 = .ok (.aload_n 0, 1) := by decide +kernel
theorem dX5_awayBy_7 : decode cX5_awayBy 7 = .ok (.getfield 13, 3) := by decide +kernel
theorem dX5_awayBy_10 : decode cX5_awayBy 10 = .ok (.bipush 25, 2) := by decide +kernel
theorem dX5_awayBy_12 : decode cX5_awayBy 12 = .ok (.iaload, 1) := by decide +kernel
theorem dX5_awayBy_13 : decode cX5_awayBy 13 = .ok (.isub, 1) := by decide +kernel
theorem dX5_awayBy_14 : decode cX5_awayBy 14 = .ok (.ireturn, 1) := by decide +kernel
theorem dX5_votes_0 : decode cX5_votes 0 = .ok (.aload_n 0, 1) := by decide +kernel
theorem dX5_votes_1 : decode cX5_votes 1 = .ok (.iload_n 1, 1) := by decide +kernel
theorem dX5_votes_2 : decode cX5_votes 2 = .ok (.invokevirtual 135, 3) := by decide +kernel
theorem dX5_votes_5 : decode cX5_votes 5 = .ok (.i2l, 1) := by decide +kernel
theorem dX5_votes_6 : decode cX5_votes 6 = .ok (.aload_n 0, 1) := by decide +kernel
theorem dX5_votes_7 : decode cX5_votes 7 = .ok (.iload_n 1, 1) := by decide +kernel
theorem dX5_votes_8 : decode cX5_votes 8 = .ok (.iconst 3, 1) := by decide +kernel
theorem dX5_votes_9 : decode cX5_votes 9 = .ok (.invokevirtual 131, 3) := by decide +kernel
theorem dX5_votes_12 : decode cX5_votes 12 = .ok (.ineg, 1) := by decide +kernel
theorem dX5_votes_13 : decode cX5_votes 13 = .ok (.i2l, 1) := by decide +kernel
theorem dX5_votes_14 : decode cX5_votes 14 = .ok (.aload_n 0, 1) := by decide +kernel
theorem dX5_votes_15 : decode cX5_votes 15 = .ok (.iload_n 1, 1) := by decide +kernel
theorem dX5_votes_16 : decode cX5_votes 16 = .ok (.iconst 3, 1) := by decide +kernel
theorem dX5_votes_17 : decode cX5_votes 17 = .ok (.invokevirtual 131, 3) := by decide +kernel
theorem dX5_votes_20 : decode cX5_votes 20 = .ok (.i2l, 1) := by decide +kernel
theorem dX5_votes_21 : decode cX5_votes 21 = .ok (.invokestatic 56, 3) := by decide +kernel
theorem dX5_votes_24 : decode cX5_votes 24 = .ok (.ireturn, 1) := by decide +kernel
theorem dX5_sign_0 : decode cX5_sign 0 = .ok (.iload_n 0, 1) := by decide +kernel
theorem dX5_sign_1 : decode cX5_sign 1 = .ok (.ifCond .le 7, 3) := by decide +kernel
theorem dX5_sign_4 : decode cX5_sign 4 = .ok (.iconst 1, 1) := by decide +kernel
theorem dX5_sign_5 : decode cX5_sign 5 = .ok (.goto 12, 3) := by decide +kernel
theorem dX5_sign_8 : decode cX5_sign 8 = .ok (.iload_n 0, 1) := by decide +kernel
theorem dX5_sign_9 : decode cX5_sign 9 = .ok (.ifCond .ge 7, 3) := by decide +kernel
theorem dX5_sign_12 : decode cX5_sign 12 = .ok (.iconst (-1), 1) := by decide +kernel
theorem dX5_sign_13 : decode cX5_sign 13 = .ok (.goto 4, 3) := by decide +kernel
theorem dX5_sign_16 : decode cX5_sign 16 = .ok (.iconst 0, 1) := by decide +kernel
theorem dX5_sign_17 : decode cX5_sign 17 = .ok (.ireturn, 1) := by decide +kernel
theorem dX5_pull_0 : decode cX5_pull 0 = .ok (.aload_n 0, 1) := by decide +kernel
theorem dX5_pull_1 : decode cX5_pull 1 = .ok (.iload_n 1, 1) := by decide +kernel
theorem dX5_pull_2 : decode cX5_pull 2 = .ok (.invokevirtual 135, 3) := by decide +kernel
theorem dX5_pull_5 : decode cX5_pull 5 = .ok (.istore_n 2, 1) := by decide +kernel
theorem dX5_pull_6 : decode cX5_pull 6 = .ok (.iload_n 2, 1) := by decide +kernel
theorem dX5_pull_7 : decode cX5_pull 7 = .ok (.i2l, 1) := by decide +kernel
theorem dX5_pull_8 : decode cX5_pull 8 = .ok (.ldc2_w 138, 3) := by decide +kernel
theorem dX5_pull_11 : decode cX5_pull 11 = .ok (.ldc2_w 140, 3) := by decide +kernel
theorem dX5_pull_14 : decode cX5_pull 14 = .ok (.invokestatic 56, 3) := by decide +kernel
theorem dX5_pull_17 : decode cX5_pull 17 = .ok (.ifCond .eq 7, 3) := by decide +kernel
theorem dX5_pull_20 : decode cX5_pull 20 = .ok (.iconst 0, 1) := by decide +kernel
theorem dX5_pull_21 : decode cX5_pull 21 = .ok (.goto 7, 3) := by decide +kernel
theorem dX5_pull_24 : decode cX5_pull 24 = .ok (.iload_n 2, 1) := by decide +kernel
theorem dX5_pull_25 : decode cX5_pull 25 = .ok (.invokestatic 142, 3) := by decide +kernel
theorem dX5_pull_28 : decode cX5_pull 28 = .ok (.istore_n 3, 1) := by decide +kernel
theorem dX5_pull_29 : decode cX5_pull 29 = .ok (.aload_n 0, 1) := by decide +kernel
theorem dX5_pull_30 : decode cX5_pull 30 = .ok (.iload_n 1, 1) := by decide +kernel
theorem dX5_pull_31 : decode cX5_pull 31 = .ok (.iconst 0, 1) := by decide +kernel
theorem dX5_pull_32 : decode cX5_pull 32 = .ok (.invokevirtual 131, 3) := by decide +kernel
theorem dX5_pull_35 : decode cX5_pull 35 = .ok (.tableswitch 37 1 3 #[25, 32, 34], 25) := by decide +kernel
theorem dX5_pull_60 : decode cX5_pull 60 = .ok (.iconst 2, 1) := by decide +kernel
theorem dX5_pull_61 : decode cX5_pull 61 = .ok (.iload_n 2, 1) := by decide +kernel
theorem dX5_pull_62 : decode cX5_pull 62 = .ok (.invokestatic 142, 3) := by decide +kernel
theorem dX5_pull_65 : decode cX5_pull 65 = .ok (.imul, 1) := by decide +kernel
theorem dX5_pull_66 : decode cX5_pull 66 = .ok (.ireturn, 1) := by decide +kernel
theorem dX5_pull_67 : decode cX5_pull 67 = .ok (.iload_n 3, 1) := by decide +kernel
theorem dX5_pull_68 : decode cX5_pull 68 = .ok (.ireturn, 1) := by decide +kernel
theorem dX5_pull_69 : decode cX5_pull 69 = .ok (.iload_n 3, 1) := by decide +kernel
theorem dX5_pull_70 : decode cX5_pull 70 = .ok (.ineg, 1) := by decide +kernel
theorem dX5_pull_71 : decode cX5_pull 71 = .ok (.ireturn, 1) := by decide +kernel
theorem dX5_pull_72 : decode cX5_pull 72 = .ok (.iload_n 2, 1) := by decide +kernel
theorem dX5_pull_73 : decode cX5_pull 73 = .ok (.invokestatic 142, 3) := by decide +kernel
theorem dX5_pull_76 : decode cX5_pull 76 = .ok (.ireturn, 1) := by decide +kernel
theorem dX5_tires_0 : decode cX5_tires 0 = .ok (.iload_n 0, 1) := by decide +kernel
theorem dX5_tires_1 : decode cX5_tires 1 = .ok (.iconst 1, 1) := by decide +kernel
theorem dX5_tires_2 : decode cX5_tires 2 = .ok (.if_icmp .ne 7, 3) := by decide +kernel
theorem dX5_tires_5 : decode cX5_tires 5 = .ok (.iconst 0, 1) := by decide +kernel
theorem dX5_tires_6 : decode cX5_tires 6 = .ok (.goto 22, 3) := by decide +kernel
theorem dX5_tires_9 : decode cX5_tires 9 = .ok (.iload_n 0, 1) := by decide +kernel
theorem dX5_tires_10 : decode cX5_tires 10 = .ok (.iconst 2, 1) := by decide +kernel
theorem dX5_tires_11 : decode cX5_tires 11 = .ok (.if_icmp .ne 7, 3) := by decide +kernel
theorem dX5_tires_14 : decode cX5_tires 14 = .ok (.iconst 2, 1) := by decide +kernel
theorem dX5_tires_15 : decode cX5_tires 15 = .ok (.goto 13, 3) := by decide +kernel
theorem dX5_tires_18 : decode cX5_tires 18 = .ok (.iload_n 0, 1) := by decide +kernel
theorem dX5_tires_19 : decode cX5_tires 19 = .ok (.iconst 3, 1) := by decide +kernel
theorem dX5_tires_20 : decode cX5_tires 20 = .ok (.if_icmp .ne 7, 3) := by decide +kernel
theorem dX5_tires_23 : decode cX5_tires 23 = .ok (.iconst 3, 1) := by decide +kernel
theorem dX5_tires_24 : decode cX5_tires 24 = .ok (.goto 4, 3) := by decide +kernel
theorem dX5_tires_27 : decode cX5_tires 27 = .ok (.iconst 1, 1) := by decide +kernel
theorem dX5_tires_28 : decode cX5_tires 28 = .ok (.ireturn, 1) := by decide +kernel
theorem dX5_isOf_0 : decode cX5_isOf 0 = .ok (.iload_n 1, 1) := by decide +kernel
theorem dX5_isOf_1 : decode cX5_isOf 1 = .ok (.aload_n 0, 1) := by decide +kernel
theorem dX5_isOf_2 : decode cX5_isOf 2 = .ok (.getfield 125, 3) := by decide +kernel
theorem dX5_isOf_5 : decode cX5_isOf 5 = .ok (.if_icmp .eq 17, 3) := by decide +kernel
theorem dX5_isOf_8 : decode cX5_isOf 8 = .ok (.aload_n 0, 1) := by decide +kernel
theorem dX5_isOf_9 : decode cX5_isOf 9 = .ok (.iload_n 1, 1) := by decide +kernel
theorem dX5_isOf_10 : decode cX5_isOf 10 = .ok (.iconst 1, 1) := by decide +kernel
theorem dX5_isOf_11 : decode cX5_isOf 11 = .ok (.invokevirtual 131, 3) := by decide +kernel
theorem dX5_isOf_14 : decode cX5_isOf 14 = .ok (.iload_n 2, 1) := by decide +kernel
theorem dX5_isOf_15 : decode cX5_isOf 15 = .ok (.if_icmp .ne 7, 3) := by decide +kernel
theorem dX5_isOf_18 : decode cX5_isOf 18 = .ok (.iconst 1, 1) := by decide +kernel
theorem dX5_isOf_19 : decode cX5_isOf 19 = .ok (.goto 4, 3) := by decide +kernel
theorem dX5_isOf_22 : decode cX5_isOf 22 = .ok (.iconst 0, 1) := by decide +kernel
theorem dX5_isOf_23 : decode cX5_isOf 23 = .ok (.ireturn, 1) := by decide +kernel
theorem dX5_votesFor_0 : decode cX5_votesFor 0 = .ok (.iconst 0, 1) := by decide +kernel
theorem dX5_votesFor_1 : decode cX5_votesFor 1 = .ok (.istore_n 2, 1) := by decide +kernel
theorem dX5_votesFor_2 : decode cX5_votesFor 2 = .ok (.iconst 0, 1) := by decide +kernel
theorem dX5_votesFor_3 : decode cX5_votesFor 3 = .ok (.istore_n 3, 1) := by decide +kernel
theorem dX5_votesFor_4 : decode cX5_votesFor 4 = .ok (.iload_n 3, 1) := by decide +kernel
theorem dX5_votesFor_5 : decode cX5_votesFor 5 = .ok (.aload_n 0, 1) := by decide +kernel
theorem dX5_votesFor_6 : decode cX5_votesFor 6 = .ok (.getfield 13, 3) := by decide +kernel
theorem dX5_votesFor_9 : decode cX5_votesFor 9 = .ok (.bipush 24, 2) := by decide +kernel
theorem dX5_votesFor_11 : decode cX5_votesFor 11 = .ok (.iaload, 1) := by decide +kernel
theorem dX5_votesFor_12 : decode cX5_votesFor 12 = .ok (.if_icmp .ge 37, 3) := by decide +kernel
theorem dX5_votesFor_15 : decode cX5_votesFor 15 = .ok (.iload_n 2, 1) := by decide +kernel
theorem dX5_votesFor_16 : decode cX5_votesFor 16 = .ok (.aload_n 0, 1) := by decide +kernel
theorem dX5_votesFor_17 : decode cX5_votesFor 17 = .ok (.iload_n 3, 1) := by decide +kernel
theorem dX5_votesFor_18 : decode cX5_votesFor 18 = .ok (.iload_n 1, 1) := by decide +kernel
theorem dX5_votesFor_19 : decode cX5_votesFor 19 = .ok (.invokevirtual 145, 3) := by decide +kernel
theorem dX5_votesFor_22 : decode cX5_votesFor 22 = .ok (.ifCond .eq 15, 3) := by decide +kernel
theorem dX5_votesFor_25 : decode cX5_votesFor 25 = .ok (.aload_n 0, 1) := by decide +kernel
theorem dX5_votesFor_26 : decode cX5_votesFor 26 = .ok (.iload_n 3, 1) := by decide +kernel
theorem dX5_votesFor_27 : decode cX5_votesFor 27 = .ok (.invokevirtual 149, 3) := by decide +kernel
theorem dX5_votesFor_30 : decode cX5_votesFor 30 = .ok (.ifCond .eq 7, 3) := by decide +kernel
theorem dX5_votesFor_33 : decode cX5_votesFor 33 = .ok (.iconst 1, 1) := by decide +kernel
theorem dX5_votesFor_34 : decode cX5_votesFor 34 = .ok (.goto 4, 3) := by decide +kernel
theorem dX5_votesFor_37 : decode cX5_votesFor 37 = .ok (.iconst 0, 1) := by decide +kernel
theorem dX5_votesFor_38 : decode cX5_votesFor 38 = .ok (.invokestatic 153, 3) := by decide +kernel
theorem dX5_votesFor_41 : decode cX5_votesFor 41 = .ok (.iadd, 1) := by decide +kernel
theorem dX5_votesFor_42 : decode cX5_votesFor 42 = .ok (.istore_n 2, 1) := by decide +kernel
theorem dX5_votesFor_43 : decode cX5_votesFor 43 = .ok (.iinc 3 1, 3) := by decide +kernel
theorem dX5_votesFor_46 : decode cX5_votesFor 46 = .ok (.goto (-42), 3) := by decide +kernel
theorem dX5_votesFor_49 : decode cX5_votesFor 49 = .ok (.iload_n 2, 1) := by decide +kernel
theorem dX5_votesFor_50 : decode cX5_votesFor 50 = .ok (.ireturn, 1) := by decide +kernel
theorem dX5_votesAgainst_0 : decode cX5_votesAgainst 0 = .ok (.iconst 0, 1) := by decide +kernel
theorem dX5_votesAgainst_1 : decode cX5_votesAgainst 1 = .ok (.istore_n 2, 1) := by decide +kernel
theorem dX5_votesAgainst_2 : decode cX5_votesAgainst 2 = .ok (.iconst 0, 1) := by decide +kernel
theorem dX5_votesAgainst_3 : decode cX5_votesAgainst 3 = .ok (.istore_n 3, 1) := by decide +kernel
theorem dX5_votesAgainst_4 : decode cX5_votesAgainst 4 = .ok (.iload_n 3, 1) := by decide +kernel
theorem dX5_votesAgainst_5 : decode cX5_votesAgainst 5 = .ok (.aload_n 0, 1) := by decide +kernel
theorem dX5_votesAgainst_6 : decode cX5_votesAgainst 6 = .ok (.getfield 13, 3) := by decide +kernel
theorem dX5_votesAgainst_9 : decode cX5_votesAgainst 9 = .ok (.bipush 24, 2) := by decide +kernel
theorem dX5_votesAgainst_11 : decode cX5_votesAgainst 11 = .ok (.iaload, 1) := by decide +kernel
theorem dX5_votesAgainst_12 : decode cX5_votesAgainst 12 = .ok (.if_icmp .ge 37, 3) := by decide +kernel
theorem dX5_votesAgainst_15 : decode cX5_votesAgainst 15 = .ok (.iload_n 2, 1) := by decide +kernel
theorem dX5_votesAgainst_16 : decode cX5_votesAgainst 16 = .ok (.aload_n 0, 1) := by decide +kernel
theorem dX5_votesAgainst_17 : decode cX5_votesAgainst 17 = .ok (.iload_n 3, 1) := by decide +kernel
theorem dX5_votesAgainst_18 : decode cX5_votesAgainst 18 = .ok (.iload_n 1, 1) := by decide +kernel
theorem dX5_votesAgainst_19 : decode cX5_votesAgainst 19 = .ok (.invokevirtual 145, 3) := by decide +kernel
theorem dX5_votesAgainst_22 : decode cX5_votesAgainst 22 = .ok (.ifCond .eq 15, 3) := by decide +kernel
theorem dX5_votesAgainst_25 : decode cX5_votesAgainst 25 = .ok (.aload_n 0, 1) := by decide +kernel
theorem dX5_votesAgainst_26 : decode cX5_votesAgainst 26 = .ok (.iload_n 3, 1) := by decide +kernel
theorem dX5_votesAgainst_27 : decode cX5_votesAgainst 27 = .ok (.invokevirtual 149, 3) := by decide +kernel
theorem dX5_votesAgainst_30 : decode cX5_votesAgainst 30 = .ok (.ifCond .ne 7, 3) := by decide +kernel
theorem dX5_votesAgainst_33 : decode cX5_votesAgainst 33 = .ok (.iconst 1, 1) := by decide +kernel
theorem dX5_votesAgainst_34 : decode cX5_votesAgainst 34 = .ok (.goto 4, 3) := by decide +kernel
end
section
theorem dX5_votesAgainst_37 : decode cX5_votesAgainst 37 = .ok (.iconst 0, 1) := by decide +kernel
theorem dX5_votesAgainst_38 : decode cX5_votesAgainst 38 = .ok (.invokestatic 153, 3) := by decide +kernel
theorem dX5_votesAgainst_41 : decode cX5_votesAgainst 41 = .ok (.iadd, 1) := by decide +kernel
theorem dX5_votesAgainst_42 : decode cX5_votesAgainst 42 = .ok (.istore_n 2, 1) := by decide +kernel
theorem dX5_votesAgainst_43 : decode cX5_votesAgainst 43 = .ok (.iinc 3 1, 3) := by decide +kernel
theorem dX5_votesAgainst_46 : decode cX5_votesAgainst 46 = .ok (.goto (-42), 3) := by decide +kernel
theorem dX5_votesAgainst_49 : decode cX5_votesAgainst 49 = .ok (.iload_n 2, 1) := by decide +kernel
theorem dX5_votesAgainst_50 : decode cX5_votesAgainst 50 = .ok (.ireturn, 1) := by decide +kernel
theorem dX5_pullOfAll_0 : decode cX5_pullOfAll 0 = .ok (.iconst 0, 1) := by decide +kernel
theorem dX5_pullOfAll_1 : decode cX5_pullOfAll 1 = .ok (.istore_n 2, 1) := by decide +kernel
theorem dX5_pullOfAll_2 : decode cX5_pullOfAll 2 = .ok (.iconst 0, 1) := by decide +kernel
theorem dX5_pullOfAll_3 : decode cX5_pullOfAll 3 = .ok (.istore_n 3, 1) := by decide +kernel
theorem dX5_pullOfAll_4 : decode cX5_pullOfAll 4 = .ok (.iload_n 3, 1) := by decide +kernel
theorem dX5_pullOfAll_5 : decode cX5_pullOfAll 5 = .ok (.aload_n 0, 1) := by decide +kernel
theorem dX5_pullOfAll_6 : decode cX5_pullOfAll 6 = .ok (.getfield 13, 3) := by decide +kernel
theorem dX5_pullOfAll_9 : decode cX5_pullOfAll 9 = .ok (.bipush 24, 2) := by decide +kernel
theorem dX5_pullOfAll_11 : decode cX5_pullOfAll 11 = .ok (.iaload, 1) := by decide +kernel
theorem dX5_pullOfAll_12 : decode cX5_pullOfAll 12 = .ok (.if_icmp .ge 30, 3) := by decide +kernel
theorem dX5_pullOfAll_15 : decode cX5_pullOfAll 15 = .ok (.iload_n 2, 1) := by decide +kernel
theorem dX5_pullOfAll_16 : decode cX5_pullOfAll 16 = .ok (.aload_n 0, 1) := by decide +kernel
theorem dX5_pullOfAll_17 : decode cX5_pullOfAll 17 = .ok (.iload_n 3, 1) := by decide +kernel
theorem dX5_pullOfAll_18 : decode cX5_pullOfAll 18 = .ok (.iload_n 1, 1) := by decide +kernel
theorem dX5_pullOfAll_19 : decode cX5_pullOfAll 19 = .ok (.invokevirtual 145, 3) := by decide +kernel
theorem dX5_pullOfAll_22 : decode cX5_pullOfAll 22 = .ok (.ifCond .eq 11, 3) := by decide +kernel
theorem dX5_pullOfAll_25 : decode cX5_pullOfAll 25 = .ok (.aload_n 0, 1) := by decide +kernel
theorem dX5_pullOfAll_26 : decode cX5_pullOfAll 26 = .ok (.iload_n 3, 1) := by decide +kernel
theorem dX5_pullOfAll_27 : decode cX5_pullOfAll 27 = .ok (.invokevirtual 157, 3) := by decide +kernel
theorem dX5_pullOfAll_30 : decode cX5_pullOfAll 30 = .ok (.goto 4, 3) := by decide +kernel
theorem dX5_pullOfAll_33 : decode cX5_pullOfAll 33 = .ok (.iconst 0, 1) := by decide +kernel
theorem dX5_pullOfAll_34 : decode cX5_pullOfAll 34 = .ok (.iadd, 1) := by decide +kernel
theorem dX5_pullOfAll_35 : decode cX5_pullOfAll 35 = .ok (.istore_n 2, 1) := by decide +kernel
theorem dX5_pullOfAll_36 : decode cX5_pullOfAll 36 = .ok (.iinc 3 1, 3) := by decide +kernel
theorem dX5_pullOfAll_39 : decode cX5_pullOfAll 39 = .ok (.goto (-35), 3) := by decide +kernel
theorem dX5_pullOfAll_42 : decode cX5_pullOfAll 42 = .ok (.iload_n 2, 1) := by decide +kernel
theorem dX5_pullOfAll_43 : decode cX5_pullOfAll 43 = .ok (.ireturn, 1) := by decide +kernel
theorem dX5_agrees_0 : decode cX5_agrees 0 = .ok (.aload_n 0, 1) := by decide +kernel
theorem dX5_agrees_1 : decode cX5_agrees 1 = .ok (.iload_n 1, 1) := by decide +kernel
theorem dX5_agrees_2 : decode cX5_agrees 2 = .ok (.invokevirtual 160, 3) := by decide +kernel
theorem dX5_agrees_5 : decode cX5_agrees 5 = .ok (.istore_n 2, 1) := by decide +kernel
theorem dX5_agrees_6 : decode cX5_agrees 6 = .ok (.aload_n 0, 1) := by decide +kernel
theorem dX5_agrees_7 : decode cX5_agrees 7 = .ok (.iload_n 1, 1) := by decide +kernel
theorem dX5_agrees_8 : decode cX5_agrees 8 = .ok (.invokevirtual 163, 3) := by decide +kernel
theorem dX5_agrees_11 : decode cX5_agrees 11 = .ok (.istore_n 3, 1) := by decide +kernel
theorem dX5_agrees_12 : decode cX5_agrees 12 = .ok (.iload_n 2, 1) := by decide +kernel
theorem dX5_agrees_13 : decode cX5_agrees 13 = .ok (.iload_n 3, 1) := by decide +kernel
theorem dX5_agrees_14 : decode cX5_agrees 14 = .ok (.if_icmp .gt 9, 3) := by decide +kernel
theorem dX5_agrees_17 : decode cX5_agrees 17 = .ok (.iload_n 2, 1) := by decide +kernel
theorem dX5_agrees_18 : decode cX5_agrees 18 = .ok (.iload_n 3, 1) := by decide +kernel
theorem dX5_agrees_19 : decode cX5_agrees 19 = .ok (.iadd, 1) := by decide +kernel
theorem dX5_agrees_20 : decode cX5_agrees 20 = .ok (.ifCond .ne 7, 3) := by decide +kernel
theorem dX5_agrees_23 : decode cX5_agrees 23 = .ok (.iconst 1, 1) := by decide +kernel
theorem dX5_agrees_24 : decode cX5_agrees 24 = .ok (.goto 4, 3) := by decide +kernel
theorem dX5_agrees_27 : decode cX5_agrees 27 = .ok (.iconst 0, 1) := by decide +kernel
theorem dX5_agrees_28 : decode cX5_agrees 28 = .ok (.ireturn, 1) := by decide +kernel
theorem dX5_isCarried_0 : decode cX5_isCarried 0 = .ok (.aload_n 0, 1) := by decide +kernel
theorem dX5_isCarried_1 : decode cX5_isCarried 1 = .ok (.iconst 0, 1) := by decide +kernel
theorem dX5_isCarried_2 : decode cX5_isCarried 2 = .ok (.invokevirtual 166, 3) := by decide +kernel
theorem dX5_isCarried_5 : decode cX5_isCarried 5 = .ok (.ifCond .eq 15, 3) := by decide +kernel
theorem dX5_isCarried_8 : decode cX5_isCarried 8 = .ok (.aload_n 0, 1) := by decide +kernel
theorem dX5_isCarried_9 : decode cX5_isCarried 9 = .ok (.iconst 1, 1) := by decide +kernel
theorem dX5_isCarried_10 : decode cX5_isCarried 10 = .ok (.invokevirtual 166, 3) := by decide +kernel
theorem dX5_isCarried_13 : decode cX5_isCarried 13 = .ok (.ifCond .eq 7, 3) := by decide +kernel
theorem dX5_isCarried_16 : decode cX5_isCarried 16 = .ok (.iconst 1, 1) := by decide +kernel
theorem dX5_isCarried_17 : decode cX5_isCarried 17 = .ok (.goto 4, 3) := by decide +kernel
theorem dX5_isCarried_20 : decode cX5_isCarried 20 = .ok (.iconst 0, 1) := by decide +kernel
theorem dX5_isCarried_21 : decode cX5_isCarried 21 = .ok (.ireturn, 1) := by decide +kernel
theorem dX5_sits_0 : decode cX5_sits 0 = .ok (.aload_n 0, 1) := by decide +kernel
theorem dX5_sits_1 : decode cX5_sits 1 = .ok (.iload_n 1, 1) := by decide +kernel
theorem dX5_sits_2 : decode cX5_sits 2 = .ok (.invokevirtual 169, 3) := by decide +kernel
theorem dX5_sits_5 : decode cX5_sits 5 = .ok (.istore_n 2, 1) := by decide +kernel
theorem dX5_sits_6 : decode cX5_sits 6 = .ok (.iconst 0, 1) := by decide +kernel
theorem dX5_sits_7 : decode cX5_sits 7 = .ok (.istore_n 3, 1) := by decide +kernel
theorem dX5_sits_8 : decode cX5_sits 8 = .ok (.iload_n 3, 1) := by decide +kernel
theorem dX5_sits_9 : decode cX5_sits 9 = .ok (.aload_n 0, 1) := by decide +kernel
theorem dX5_sits_10 : decode cX5_sits 10 = .ok (.getfield 13, 3) := by decide +kernel
theorem dX5_sits_13 : decode cX5_sits 13 = .ok (.bipush 24, 2) := by decide +kernel
theorem dX5_sits_15 : decode cX5_sits 15 = .ok (.iaload, 1) := by decide +kernel
theorem dX5_sits_16 : decode cX5_sits 16 = .ok (.if_icmp .ge 53, 3) := by decide +kernel
theorem dX5_sits_19 : decode cX5_sits 19 = .ok (.aload_n 0, 1) := by decide +kernel
theorem dX5_sits_20 : decode cX5_sits 20 = .ok (.iload_n 3, 1) := by decide +kernel
theorem dX5_sits_21 : decode cX5_sits 21 = .ok (.iload_n 1, 1) := by decide +kernel
theorem dX5_sits_22 : decode cX5_sits 22 = .ok (.invokevirtual 145, 3) := by decide +kernel
theorem dX5_sits_25 : decode cX5_sits 25 = .ok (.ifCond .eq 38, 3) := by decide +kernel
theorem dX5_sits_28 : decode cX5_sits 28 = .ok (.aload_n 0, 1) := by decide +kernel
theorem dX5_sits_29 : decode cX5_sits 29 = .ok (.iload_n 3, 1) := by decide +kernel
theorem dX5_sits_30 : decode cX5_sits 30 = .ok (.invokevirtual 149, 3) := by decide +kernel
theorem dX5_sits_33 : decode cX5_sits 33 = .ok (.ifCond .ne 30, 3) := by decide +kernel
theorem dX5_sits_36 : decode cX5_sits 36 = .ok (.aload_n 0, 1) := by decide +kernel
theorem dX5_sits_37 : decode cX5_sits 37 = .ok (.iload_n 3, 1) := by decide +kernel
theorem dX5_sits_38 : decode cX5_sits 38 = .ok (.iconst 3, 1) := by decide +kernel
theorem dX5_sits_39 : decode cX5_sits 39 = .ok (.bipush 20, 2) := by decide +kernel
theorem dX5_sits_41 : decode cX5_sits 41 = .ok (.aload_n 0, 1) := by decide +kernel
theorem dX5_sits_42 : decode cX5_sits 42 = .ok (.iload_n 3, 1) := by decide +kernel
theorem dX5_sits_43 : decode cX5_sits 43 = .ok (.iconst 3, 1) := by decide +kernel
theorem dX5_sits_44 : decode cX5_sits 44 = .ok (.invokevirtual 131, 3) := by decide +kernel
theorem dX5_sits_47 : decode cX5_sits 47 = .ok (.aload_n 0, 1) := by decide +kernel
theorem dX5_sits_48 : decode cX5_sits 48 = .ok (.iload_n 3, 1) := by decide +kernel
theorem dX5_sits_49 : decode cX5_sits 49 = .ok (.iconst 0, 1) := by decide +kernel
theorem dX5_sits_50 : decode cX5_sits 50 = .ok (.invokevirtual 131, 3) := by decide +kernel
theorem dX5_sits_53 : decode cX5_sits 53 = .ok (.invokestatic 172, 3) := by decide +kernel
theorem dX5_sits_56 : decode cX5_sits 56 = .ok (.iadd, 1) := by decide +kernel
theorem dX5_sits_57 : decode cX5_sits 57 = .ok (.invokestatic 175, 3) := by decide +kernel
theorem dX5_sits_60 : decode cX5_sits 60 = .ok (.invokevirtual 178, 3) := by decide +kernel
theorem dX5_sits_63 : decode cX5_sits 63 = .ok (.iinc 3 1, 3) := by decide +kernel
theorem dX5_sits_66 : decode cX5_sits 66 = .ok (.goto (-58), 3) := by decide +kernel
theorem dX5_sits_69 : decode cX5_sits 69 = .ok (.aload_n 0, 1) := by decide +kernel
theorem dX5_sits_70 : decode cX5_sits 70 = .ok (.getfield 13, 3) := by decide +kernel
theorem dX5_sits_73 : decode cX5_sits 73 = .ok (.bipush 25, 2) := by decide +kernel
theorem dX5_sits_75 : decode cX5_sits 75 = .ok (.iaload, 1) := by decide +kernel
theorem dX5_sits_76 : decode cX5_sits 76 = .ok (.iload_n 2, 1) := by decide +kernel
theorem dX5_sits_77 : decode cX5_sits 77 = .ok (.invokestatic 142, 3) := by decide +kernel
theorem dX5_sits_80 : decode cX5_sits 80 = .ok (.iadd, 1) := by decide +kernel
theorem dX5_sits_81 : decode cX5_sits 81 = .ok (.istore_n 3, 1) := by decide +kernel
theorem dX5_sits_82 : decode cX5_sits 82 = .ok (.iload_n 3, 1) := by decide +kernel
theorem dX5_sits_83 : decode cX5_sits 83 = .ok (.aload_n 0, 1) := by decide +kernel
theorem dX5_sits_84 : decode cX5_sits 84 = .ok (.getfield 13, 3) := by decide +kernel
theorem dX5_sits_87 : decode cX5_sits 87 = .ok (.bipush 25, 2) := by decide +kernel
theorem dX5_sits_89 : decode cX5_sits 89 = .ok (.iaload, 1) := by decide +kernel
theorem dX5_sits_90 : decode cX5_sits 90 = .ok (.if_icmp .eq 50, 3) := by decide +kernel
theorem dX5_sits_93 : decode cX5_sits 93 = .ok (.iload_n 3, 1) := by decide +kernel
theorem dX5_sits_94 : decode cX5_sits 94 = .ok (.invokestatic 182, 3) := by decide +kernel
theorem dX5_sits_97 : decode cX5_sits 97 = .ok (.ifCond .eq 43, 3) := by decide +kernel
theorem dX5_sits_100 : decode cX5_sits 100 = .ok (.aload_n 0, 1) := by decide +kernel
theorem dX5_sits_101 : decode cX5_sits 101 = .ok (.getfield 13, 3) := by decide +kernel
theorem dX5_sits_104 : decode cX5_sits 104 = .ok (.bipush 25, 2) := by decide +kernel
theorem dX5_sits_106 : decode cX5_sits 106 = .ok (.iload_n 3, 1) := by decide +kernel
theorem dX5_sits_107 : decode cX5_sits 107 = .ok (.iastore, 1) := by decide +kernel
theorem dX5_sits_108 : decode cX5_sits 108 = .ok (.aload_n 0, 1) := by decide +kernel
theorem dX5_sits_109 : decode cX5_sits 109 = .ok (.getfield 13, 3) := by decide +kernel
theorem dX5_sits_112 : decode cX5_sits 112 = .ok (.bipush 27, 2) := by decide +kernel
theorem dX5_sits_114 : decode cX5_sits 114 = .ok (.sipush 999, 3) := by decide +kernel
theorem dX5_sits_117 : decode cX5_sits 117 = .ok (.aload_n 0, 1) := by decide +kernel
theorem dX5_sits_118 : decode cX5_sits 118 = .ok (.getfield 13, 3) := by decide +kernel
theorem dX5_sits_121 : decode cX5_sits 121 = .ok (.bipush 27, 2) := by decide +kernel
theorem dX5_sits_123 : decode cX5_sits 123 = .ok (.iaload, 1) := by decide +kernel
theorem dX5_sits_124 : decode cX5_sits 124 = .ok (.iconst 1, 1) := by decide +kernel
theorem dX5_sits_125 : decode cX5_sits 125 = .ok (.iadd, 1) := by decide +kernel
theorem dX5_sits_126 : decode cX5_sits 126 = .ok (.invokestatic 175, 3) := by decide +kernel
theorem dX5_sits_129 : decode cX5_sits 129 = .ok (.iastore, 1) := by decide +kernel
theorem dX5_sits_130 : decode cX5_sits 130 = .ok (.aload_n 0, 1) := by decide +kernel
theorem dX5_sits_131 : decode cX5_sits 131 = .ok (.dup, 1) := by decide +kernel
theorem dX5_sits_132 : decode cX5_sits 132 = .ok (.getfield 128, 3) := by decide +kernel
theorem dX5_sits_135 : decode cX5_sits 135 = .ok (.iconst 1, 1) := by decide +kernel
theorem dX5_sits_136 : decode cX5_sits 136 = .ok (.iadd, 1) := by decide +kernel
theorem dX5_sits_137 : decode cX5_sits 137 = .ok (.putfield 128, 3) := by decide +kernel
theorem dX5_sits_140 : decode cX5_sits 140 = .ok (.return_, 1) := by decide +kernel
theorem dX5_dayGoes_0 : decode cX5_dayGoes 0 = .ok (.iload_n 1, 1) := by decide +kernel
theorem dX5_dayGoes_1 : decode cX5_dayGoes 1 = .ok (.ifCond .ne 23, 3) := by decide +kernel
theorem dX5_dayGoes_4 : decode cX5_dayGoes 4 = .ok (.aload_n 0, 1) := by decide +kernel
theorem dX5_dayGoes_5 : decode cX5_dayGoes 5 = .ok (.invokevirtual 185, 3) := by decide +kernel
theorem dX5_dayGoes_8 : decode cX5_dayGoes 8 = .ok (.ifCond .ne 16, 3) := by decide +kernel
theorem dX5_dayGoes_11 : decode cX5_dayGoes 11 = .ok (.aload_n 0, 1) := by decide +kernel
theorem dX5_dayGoes_12 : decode cX5_dayGoes 12 = .ok (.aload_n 0, 1) := by decide +kernel
theorem dX5_dayGoes_13 : decode cX5_dayGoes 13 = .ok (.getfield 13, 3) := by decide +kernel
theorem dX5_dayGoes_16 : decode cX5_dayGoes 16 = .ok (.bipush 26, 2) := by decide +kernel
theorem dX5_dayGoes_18 : decode cX5_dayGoes 18 = .ok (.iaload, 1) := by decide +kernel
theorem dX5_dayGoes_19 : decode cX5_dayGoes 19 = .ok (.iconst 2, 1) := by decide +kernel
theorem dX5_dayGoes_20 : decode cX5_dayGoes 20 = .ok (.irem, 1) := by decide +kernel
theorem dX5_dayGoes_21 : decode cX5_dayGoes 21 = .ok (.invokevirtual 189, 3) := by decide +kernel
theorem dX5_dayGoes_24 : decode cX5_dayGoes 24 = .ok (.aload_n 0, 1) := by decide +kernel
theorem dX5_dayGoes_25 : decode cX5_dayGoes 25 = .ok (.getfield 13, 3) := by decide +kernel
theorem dX5_dayGoes_28 : decode cX5_dayGoes 28 = .ok (.bipush 26, 2) := by decide +kernel
theorem dX5_dayGoes_30 : decode cX5_dayGoes 30 = .ok (.dup2, 1) := by decide +kernel
theorem dX5_dayGoes_31 : decode cX5_dayGoes 31 = .ok (.iaload, 1) := by decide +kernel
theorem dX5_dayGoes_32 : decode cX5_dayGoes 32 = .ok (.iconst 1, 1) := by decide +kernel
theorem dX5_dayGoes_33 : decode cX5_dayGoes 33 = .ok (.iadd, 1) := by decide +kernel
theorem dX5_dayGoes_34 : decode cX5_dayGoes 34 = .ok (.iastore, 1) := by decide +kernel
theorem dX5_dayGoes_35 : decode cX5_dayGoes 35 = .ok (.return_, 1) := by decide +kernel
theorem dX5_daysGo_0 : decode cX5_daysGo 0 = .ok (.iconst 0, 1) := by decide +kernel
theorem dX5_daysGo_1 : decode cX5_daysGo 1 = .ok (.istore_n 2, 1) := by decide +kernel
theorem dX5_daysGo_2 : decode cX5_daysGo 2 = .ok (.iload_n 2, 1) := by decide +kernel
theorem dX5_daysGo_3 : decode cX5_daysGo 3 = .ok (.iload_n 1, 1) := by decide +kernel
theorem dX5_daysGo_4 : decode cX5_daysGo 4 = .ok (.if_icmp .ge 14, 3) := by decide +kernel
theorem dX5_daysGo_7 : decode cX5_daysGo 7 = .ok (.aload_n 0, 1) := by decide +kernel
theorem dX5_daysGo_8 : decode cX5_daysGo 8 = .ok (.iconst 0, 1) := by decide +kernel
theorem dX5_daysGo_9 : decode cX5_daysGo 9 = .ok (.invokevirtual 192, 3) := by decide +kernel
theorem dX5_daysGo_12 : decode cX5_daysGo 12 = .ok (.iinc 2 1, 3) := by decide +kernel
theorem dX5_daysGo_15 : decode cX5_daysGo 15 = .ok (.goto (-13), 3) := by decide +kernel
theorem dX5_daysGo_18 : decode cX5_daysGo 18 = .ok (.return_, 1) := by decide +kernel
theorem dX5_sumOf_0 : decode cX5_sumOf 0 = .ok (.iconst 0, 1) := by decide +kernel
theorem dX5_sumOf_1 : decode cX5_sumOf 1 = .ok (.istore_n 2, 1) := by decide +kernel
theorem dX5_sumOf_2 : decode cX5_sumOf 2 = .ok (.iconst 0, 1) := by decide +kernel
theorem dX5_sumOf_3 : decode cX5_sumOf 3 = .ok (.istore_n 3, 1) := by decide +kernel
theorem dX5_sumOf_4 : decode cX5_sumOf 4 = .ok (.iload_n 3, 1) := by decide +kernel
theorem dX5_sumOf_5 : decode cX5_sumOf 5 = .ok (.aload_n 0, 1) := by decide +kernel
theorem dX5_sumOf_6 : decode cX5_sumOf 6 = .ok (.getfield 13, 3) := by decide +kernel
theorem dX5_sumOf_9 : decode cX5_sumOf 9 = .ok (.bipush 24, 2) := by decide +kernel
theorem dX5_sumOf_11 : decode cX5_sumOf 11 = .ok (.iaload, 1) := by decide +kernel
theorem dX5_sumOf_12 : decode cX5_sumOf 12 = .ok (.if_icmp .ge 18, 3) := by decide +kernel
theorem dX5_sumOf_15 : decode cX5_sumOf 15 = .ok (.iload_n 2, 1) := by decide +kernel
theorem dX5_sumOf_16 : decode cX5_sumOf 16 = .ok (.aload_n 0, 1) := by decide +kernel
theorem dX5_sumOf_17 : decode cX5_sumOf 17 = .ok (.iload_n 3, 1) := by decide +kernel
theorem dX5_sumOf_18 : decode cX5_sumOf 18 = .ok (.iload_n 1, 1) := by decide +kernel
theorem dX5_sumOf_19 : decode cX5_sumOf 19 = .ok (.invokevirtual 131, 3) := by decide +kernel
theorem dX5_sumOf_22 : decode cX5_sumOf 22 = .ok (.iadd, 1) := by decide +kernel
theorem dX5_sumOf_23 : decode cX5_sumOf 23 = .ok (.istore_n 2, 1) := by decide +kernel
theorem dX5_sumOf_24 : decode cX5_sumOf 24 = .ok (.iinc 3 1, 3) := by decide +kernel
theorem dX5_sumOf_27 : decode cX5_sumOf 27 = .ok (.goto (-23), 3) := by decide +kernel
theorem dX5_sumOf_30 : decode cX5_sumOf 30 = .ok (.iload_n 2, 1) := by decide +kernel
theorem dX5_sumOf_31 : decode cX5_sumOf 31 = .ok (.ireturn, 1) := by decide +kernel
theorem dX5_agreeing_0 : decode cX5_agreeing 0 = .ok (.aload_n 0, 1) := by decide +kernel
theorem dX5_agreeing_1 : decode cX5_agreeing 1 = .ok (.iconst 0, 1) := by decide +kernel
theorem dX5_agreeing_2 : decode cX5_agreeing 2 = .ok (.invokevirtual 166, 3) := by decide +kernel
theorem dX5_agreeing_5 : decode cX5_agreeing 5 = .ok (.invokestatic 153, 3) := by decide +kernel
theorem dX5_agreeing_8 : decode cX5_agreeing 8 = .ok (.iconst 2, 1) := by decide +kernel
theorem dX5_agreeing_9 : decode cX5_agreeing 9 = .ok (.aload_n 0, 1) := by decide +kernel
theorem dX5_agreeing_10 : decode cX5_agreeing 10 = .ok (.iconst 1, 1) := by decide +kernel
theorem dX5_agreeing_11 : decode cX5_agreeing 11 = .ok (.invokevirtual 166, 3) := by decide +kernel
theorem dX5_agreeing_14 : decode cX5_agreeing 14 = .ok (.invokestatic 153, 3) := by decide +kernel
theorem dX5_agreeing_17 : decode cX5_agreeing 17 = .ok (.imul, 1) := by decide +kernel
theorem dX5_agreeing_18 : decode cX5_agreeing 18 = .ok (.iadd, 1) := by decide +kernel
theorem dX5_agreeing_19 : decode cX5_agreeing 19 = .ok (.ireturn, 1) := by decide +kernel
theorem dX5_votingNow_0 : decode cX5_votingNow 0 = .ok (.iconst 0, 1) := by decide +kernel
theorem dX5_votingNow_1 : decode cX5_votingNow 1 = .ok (.istore_n 1, 1) := by decide +kernel
theorem dX5_votingNow_2 : decode cX5_votingNow 2 = .ok (.iconst 0, 1) := by decide +kernel
theorem dX5_votingNow_3 : decode cX5_votingNow 3 = .ok (.istore_n 2, 1) := by decide +kernel
theorem dX5_votingNow_4 : decode cX5_votingNow 4 = .ok (.iload_n 2, 1) := by decide +kernel
theorem dX5_votingNow_5 : decode cX5_votingNow 5 = .ok (.aload_n 0, 1) := by decide +kernel
theorem dX5_votingNow_6 : decode cX5_votingNow 6 = .ok (.getfield 13, 3) := by decide +kernel
theorem dX5_votingNow_9 : decode cX5_votingNow 9 = .ok (.bipush 24, 2) := by decide +kernel
theorem dX5_votingNow_11 : decode cX5_votingNow 11 = .ok (.iaload, 1) := by decide +kernel
theorem dX5_votingNow_12 : decode cX5_votingNow 12 = .ok (.if_icmp .ge 22, 3) := by decide +kernel
theorem dX5_votingNow_15 : decode cX5_votingNow 15 = .ok (.iload_n 1, 1) := by decide +kernel
theorem dX5_votingNow_16 : decode cX5_votingNow 16 = .ok (.aload_n 0, 1) := by decide +kernel
theorem dX5_votingNow_17 : decode cX5_votingNow 17 = .ok (.iload_n 2, 1) := by decide +kernel
theorem dX5_votingNow_18 : decode cX5_votingNow 18 = .ok (.invokevirtual 149, 3) := by decide +kernel
theorem dX5_votingNow_21 : decode cX5_votingNow 21 = .ok (.invokestatic 153, 3) := by decide +kernel
theorem dX5_votingNow_24 : decode cX5_votingNow 24 = .ok (.iload_n 2, 1) := by decide +kernel
theorem dX5_votingNow_25 : decode cX5_votingNow 25 = .ok (.ishl, 1) := by decide +kernel
theorem dX5_votingNow_26 : decode cX5_votingNow 26 = .ok (.ior, 1) := by decide +kernel
theorem dX5_votingNow_27 : decode cX5_votingNow 27 = .ok (.istore_n 1, 1) := by decide +kernel
theorem dX5_votingNow_28 : decode cX5_votingNow 28 = .ok (.iinc 2 1, 3) := by decide +kernel
theorem dX5_votingNow_31 : decode cX5_votingNow 31 = .ok (.goto (-27), 3) := by decide +kernel
theorem dX5_votingNow_34 : decode cX5_votingNow 34 = .ok (.iload_n 1, 1) := by decide +kernel
theorem dX5_votingNow_35 : decode cX5_votingNow 35 = .ok (.ireturn, 1) := by decide +kernel
theorem dX5_rule_0 : decode cX5_rule 0 = .ok (.aload_n 0, 1) := by decide +kernel
theorem dX5_rule_1 : decode cX5_rule 1 = .ok (.invokevirtual 196, 3) := by decide +kernel
theorem dX5_rule_4 : decode cX5_rule 4 = .ok (.iload_n 1, 1) := by decide +kernel
theorem dX5_rule_5 : decode cX5_rule 5 = .ok (.tableswitch 93 0 6 #[43, 51, 59, 67, 75, 80, 85], 43) := by decide +kernel
theorem dX5_rule_48 : decode cX5_rule 48 = .ok (.aload_n 0, 1) := by decide +kernel
theorem dX5_rule_49 : decode cX5_rule 49 = .ok (.getfield 7, 3) := by decide +kernel
theorem dX5_rule_52 : decode cX5_rule 52 = .ok (.bipush 24, 2) := by decide +kernel
theorem dX5_rule_54 : decode cX5_rule 54 = .ok (.iaload, 1) := by decide +kernel
theorem dX5_rule_55 : decode cX5_rule 55 = .ok (.ireturn, 1) := by decide +kernel
theorem dX5_rule_56 : decode cX5_rule 56 = .ok (.aload_n 0, 1) := by decide +kernel
theorem dX5_rule_57 : decode cX5_rule 57 = .ok (.getfield 7, 3) := by decide +kernel
theorem dX5_rule_60 : decode cX5_rule 60 = .ok (.bipush 26, 2) := by decide +kernel
theorem dX5_rule_62 : decode cX5_rule 62 = .ok (.iaload, 1) := by decide +kernel
theorem dX5_rule_63 : decode cX5_rule 63 = .ok (.ireturn, 1) := by decide +kernel
theorem dX5_rule_64 : decode cX5_rule 64 = .ok (.aload_n 0, 1) := by decide +kernel
theorem dX5_rule_65 : decode cX5_rule 65 = .ok (.getfield 7, 3) := by decide +kernel
theorem dX5_rule_68 : decode cX5_rule 68 = .ok (.bipush 25, 2) := by decide +kernel
theorem dX5_rule_70 : decode cX5_rule 70 = .ok (.iaload, 1) := by decide +kernel
theorem dX5_rule_71 : decode cX5_rule 71 = .ok (.ireturn, 1) := by decide +kernel
theorem dX5_rule_72 : decode cX5_rule 72 = .ok (.aload_n 0, 1) := by decide +kernel
theorem dX5_rule_73 : decode cX5_rule 73 = .ok (.invokevirtual 185, 3) := by decide +kernel
theorem dX5_rule_76 : decode cX5_rule 76 = .ok (.invokestatic 153, 3) := by decide +kernel
theorem dX5_rule_79 : decode cX5_rule 79 = .ok (.ireturn, 1) := by decide +kernel
theorem dX5_rule_80 : decode cX5_rule 80 = .ok (.aload_n 0, 1) := by decide +kernel
theorem dX5_rule_81 : decode cX5_rule 81 = .ok (.invokevirtual 199, 3) := by decide +kernel
theorem dX5_rule_84 : decode cX5_rule 84 = .ok (.ireturn, 1) := by decide +kernel
theorem dX5_rule_85 : decode cX5_rule 85 = .ok (.aload_n 0, 1) := by decide +kernel
theorem dX5_rule_86 : decode cX5_rule 86 = .ok (.invokevirtual 202, 3) := by decide +kernel
theorem dX5_rule_89 : decode cX5_rule 89 = .ok (.ireturn, 1) := by decide +kernel
theorem dX5_rule_90 : decode cX5_rule 90 = .ok (.aload_n 0, 1) := by decide +kernel
theorem dX5_rule_91 : decode cX5_rule 91 = .ok (.getfield 7, 3) := by decide +kernel
theorem dX5_rule_94 : decode cX5_rule 94 = .ok (.bipush 27, 2) := by decide +kernel
theorem dX5_rule_96 : decode cX5_rule 96 = .ok (.iaload, 1) := by decide +kernel
theorem dX5_rule_97 : decode cX5_rule 97 = .ok (.ireturn, 1) := by decide +kernel
theorem dX5_rule_98 : decode cX5_rule 98 = .ok (.iconst (-1), 1) := by decide +kernel
theorem dX5_rule_99 : decode cX5_rule 99 = .ok (.ireturn, 1) := by decide +kernel
theorem dX5_member_0 : decode cX5_member 0 = .ok (.aload_n 0, 1) := by decide +kernel
theorem dX5_member_1 : decode cX5_member 1 = .ok (.iload_n 1, 1) := by decide +kernel
theorem dX5_member_2 : decode cX5_member 2 = .ok (.invokevirtual 205, 3) := by decide +kernel
theorem dX5_member_5 : decode cX5_member 5 = .ok (.ifCond .eq 15, 3) := by decide +kernel
theorem dX5_member_8 : decode cX5_member 8 = .ok (.iload_n 2, 1) := by decide +kernel
theorem dX5_member_9 : decode cX5_member 9 = .ok (.i2l, 1) := by decide +kernel
theorem dX5_member_10 : decode cX5_member 10 = .ok (.lconst 0, 1) := by decide +kernel
theorem dX5_member_11 : decode cX5_member 11 = .ok (.ldc2_w 208, 3) := by decide +kernel
theorem dX5_member_14 : decode cX5_member 14 = .ok (.invokestatic 56, 3) := by decide +kernel
theorem dX5_member_17 : decode cX5_member 17 = .ok (.ifCond .ne 5, 3) := by decide +kernel
theorem dX5_member_20 : decode cX5_member 20 = .ok (.iconst (-1), 1) := by decide +kernel
theorem dX5_member_21 : decode cX5_member 21 = .ok (.ireturn, 1) := by decide +kernel
theorem dX5_member_22 : decode cX5_member 22 = .ok (.aload_n 0, 1) := by decide +kernel
theorem dX5_member_23 : decode cX5_member 23 = .ok (.invokevirtual 196, 3) := by decide +kernel
theorem dX5_member_26 : decode cX5_member 26 = .ok (.iload_n 2, 1) := by decide +kernel
theorem dX5_member_27 : decode cX5_member 27 = .ok (.iconst 4, 1) := by decide +kernel
theorem dX5_member_28 : decode cX5_member 28 = .ok (.if_icmp .ge 12, 3) := by decide +kernel
theorem dX5_member_31 : decode cX5_member 31 = .ok (.aload_n 0, 1) := by decide +kernel
theorem dX5_member_32 : decode cX5_member 32 = .ok (.iload_n 1, 1) := by decide +kernel
theorem dX5_member_33 : decode cX5_member 33 = .ok (.iload_n 2, 1) := by decide +kernel
theorem dX5_member_34 : decode cX5_member 34 = .ok (.invokevirtual 131, 3) := by decide +kernel
theorem dX5_member_37 : decode cX5_member 37 = .ok (.goto 26, 3) := by decide +kernel
theorem dX5_member_40 : decode cX5_member 40 = .ok (.iload_n 2, 1) := by decide +kernel
theorem dX5_member_41 : decode cX5_member 41 = .ok (.iconst 4, 1) := by decide +kernel
theorem dX5_member_42 : decode cX5_member 42 = .ok (.if_icmp .ne 14, 3) := by decide +kernel
theorem dX5_member_45 : decode cX5_member 45 = .ok (.aload_n 0, 1) := by decide +kernel
theorem dX5_member_46 : decode cX5_member 46 = .ok (.iload_n 1, 1) := by decide +kernel
theorem dX5_member_47 : decode cX5_member 47 = .ok (.invokevirtual 149, 3) := by decide +kernel
theorem dX5_member_50 : decode cX5_member 50 = .ok (.invokestatic 153, 3) := by decide +kernel
theorem dX5_member_53 : decode cX5_member 53 = .ok (.goto 10, 3) := by decide +kernel
theorem dX5_member_56 : decode cX5_member 56 = .ok (.iconst 2, 1) := by decide +kernel
theorem dX5_member_57 : decode cX5_member 57 = .ok (.aload_n 0, 1) := by decide +kernel
theorem dX5_member_58 : decode cX5_member 58 = .ok (.iload_n 1, 1) := by decide +kernel
theorem dX5_member_59 : decode cX5_member 59 = .ok (.invokevirtual 157, 3) := by decide +kernel
theorem dX5_member_62 : decode cX5_member 62 = .ok (.iadd, 1) := by decide +kernel
theorem dX5_member_63 : decode cX5_member 63 = .ok (.ireturn, 1) := by decide +kernel
theorem dX5_house_0 : decode cX5_house 0 = .ok (.iload_n 1, 1) := by decide +kernel
theorem dX5_house_1 : decode cX5_house 1 = .ok (.i2l, 1) := by decide +kernel
theorem dX5_house_2 : decode cX5_house 2 = .ok (.lconst 0, 1) := by decide +kernel
theorem dX5_house_3 : decode cX5_house 3 = .ok (.lconst 1, 1) := by decide +kernel
theorem dX5_house_4 : decode cX5_house 4 = .ok (.invokestatic 56, 3) := by decide +kernel
theorem dX5_house_7 : decode cX5_house 7 = .ok (.ifCond .ne 5, 3) := by decide +kernel
theorem dX5_house_10 : decode cX5_house 10 = .ok (.iconst (-1), 1) := by decide +kernel
theorem dX5_house_11 : decode cX5_house 11 = .ok (.ireturn, 1) := by decide +kernel
theorem dX5_house_12 : decode cX5_house 12 = .ok (.aload_n 0, 1) := by decide +kernel
theorem dX5_house_13 : decode cX5_house 13 = .ok (.invokevirtual 196, 3) := by decide +kernel
theorem dX5_house_16 : decode cX5_house 16 = .ok (.iconst 0, 1) := by decide +kernel
theorem dX5_house_17 : decode cX5_house 17 = .ok (.istore_n 3, 1) := by decide +kernel
theorem dX5_house_18 : decode cX5_house 18 = .ok (.iconst 0, 1) := by decide +kernel
theorem dX5_house_19 : decode cX5_house 19 = .ok (.istore 4, 2) := by decide +kernel
theorem dX5_house_21 : decode cX5_house 21 = .ok (.iload 4, 2) := by decide +kernel
theorem dX5_house_23 : decode cX5_house 23 = .ok (.aload_n 0, 1) := by decide +kernel
theorem dX5_house_24 : decode cX5_house 24 = .ok (.getfield 7, 3) := by decide +kernel
theorem dX5_house_27 : decode cX5_house 27 = .ok (.bipush 24, 2) := by decide +kernel
theorem dX5_house_29 : decode cX5_house 29 = .ok (.iaload, 1) := by decide +kernel
theorem dX5_house_30 : decode cX5_house 30 = .ok (.if_icmp .ge 25, 3) := by decide +kernel
theorem dX5_house_33 : decode cX5_house 33 = .ok (.iload_n 3, 1) := by decide +kernel
theorem dX5_house_34 : decode cX5_house 34 = .ok (.aload_n 0, 1) := by decide +kernel
theorem dX5_house_35 : decode cX5_house 35 = .ok (.iload 4, 2) := by decide +kernel
theorem dX5_house_37 : decode cX5_house 37 = .ok (.iload_n 1, 1) := by decide +kernel
theorem dX5_house_38 : decode cX5_house 38 = .ok (.invokevirtual 145, 3) := by decide +kernel
theorem dX5_house_41 : decode cX5_house 41 = .ok (.invokestatic 153, 3) := by decide +kernel
theorem dX5_house_44 : decode cX5_house 44 = .ok (.iload 4, 2) := by decide +kernel
theorem dX5_house_46 : decode cX5_house 46 = .ok (.ishl, 1) := by decide +kernel
theorem dX5_house_47 : decode cX5_house 47 = .ok (.ior, 1) := by decide +kernel
theorem dX5_house_48 : decode cX5_house 48 = .ok (.istore_n 3, 1) := by decide +kernel
theorem dX5_house_49 : decode cX5_house 49 = .ok (.iinc 4 1, 3) := by decide +kernel
theorem dX5_house_52 : decode cX5_house 52 = .ok (.goto (-31), 3) := by decide +kernel
theorem dX5_house_55 : decode cX5_house 55 = .ok (.iload_n 2, 1) := by decide +kernel
theorem dX5_house_56 : decode cX5_house 56 = .ok (.tableswitch 55 0 3 #[32, 34, 40, 46], 32) := by decide +kernel
theorem dX5_house_88 : decode cX5_house 88 = .ok (.iload_n 3, 1) := by decide +kernel
theorem dX5_house_89 : decode cX5_house 89 = .ok (.ireturn, 1) := by decide +kernel
theorem dX5_house_90 : decode cX5_house 90 = .ok (.aload_n 0, 1) := by decide +kernel
theorem dX5_house_91 : decode cX5_house 91 = .ok (.iload_n 1, 1) := by decide +kernel
theorem dX5_house_92 : decode cX5_house 92 = .ok (.invokevirtual 160, 3) := by decide +kernel
theorem dX5_house_95 : decode cX5_house 95 = .ok (.ireturn, 1) := by decide +kernel
theorem dX5_house_96 : decode cX5_house 96 = .ok (.aload_n 0, 1) := by decide +kernel
theorem dX5_house_97 : decode cX5_house 97 = .ok (.iload_n 1, 1) := by decide +kernel
theorem dX5_house_98 : decode cX5_house 98 = .ok (.invokevirtual 163, 3) := by decide +kernel
theorem dX5_house_101 : decode cX5_house 101 = .ok (.ireturn, 1) := by decide +kernel
theorem dX5_house_102 : decode cX5_house 102 = .ok (.bipush 20, 2) := by decide +kernel
theorem dX5_house_104 : decode cX5_house 104 = .ok (.aload_n 0, 1) := by decide +kernel
theorem dX5_house_105 : decode cX5_house 105 = .ok (.iload_n 1, 1) := by decide +kernel
theorem dX5_house_106 : decode cX5_house 106 = .ok (.invokevirtual 169, 3) := by decide +kernel
theorem dX5_house_109 : decode cX5_house 109 = .ok (.iadd, 1) := by decide +kernel
theorem dX5_house_110 : decode cX5_house 110 = .ok (.ireturn, 1) := by decide +kernel
theorem dX5_house_111 : decode cX5_house 111 = .ok (.iconst (-1), 1) := by decide +kernel
theorem dX5_house_112 : decode cX5_house 112 = .ok (.ireturn, 1) := by decide +kernel
theorem dX5_becomes_0 : decode cX5_becomes 0 = .ok (.aload_n 0, 1) := by decide +kernel
theorem dX5_becomes_1 : decode cX5_becomes 1 = .ok (.getfield 7, 3) := by decide +kernel
theorem dX5_becomes_4 : decode cX5_becomes 4 = .ok (.iload_n 1, 1) := by decide +kernel
theorem dX5_becomes_5 : decode cX5_becomes 5 = .ok (.iaload, 1) := by decide +kernel
theorem dX5_becomes_6 : decode cX5_becomes 6 = .ok (.istore_n 3, 1) := by decide +kernel
theorem dX5_becomes_7 : decode cX5_becomes 7 = .ok (.aload_n 0, 1) := by decide +kernel
theorem dX5_becomes_8 : decode cX5_becomes 8 = .ok (.getfield 7, 3) := by decide +kernel
theorem dX5_becomes_11 : decode cX5_becomes 11 = .ok (.iload_n 1, 1) := by decide +kernel
theorem dX5_becomes_12 : decode cX5_becomes 12 = .ok (.iload_n 2, 1) := by decide +kernel
theorem dX5_becomes_13 : decode cX5_becomes 13 = .ok (.iastore, 1) := by decide +kernel
theorem dX5_becomes_14 : decode cX5_becomes 14 = .ok (.iload_n 3, 1) := by decide +kernel
theorem dX5_becomes_15 : decode cX5_becomes 15 = .ok (.ireturn, 1) := by decide +kernel
theorem dX5_alter_0 : decode cX5_alter 0 = .ok (.iload_n 2, 1) := by decide +kernel
theorem dX5_alter_1 : decode cX5_alter 1 = .ok (.ifCond .ne 7, 3) := by decide +kernel
theorem dX5_alter_4 : decode cX5_alter 4 = .ok (.iconst 3, 1) := by decide +kernel
theorem dX5_alter_5 : decode cX5_alter 5 = .ok (.goto 14, 3) := by decide +kernel
theorem dX5_alter_8 : decode cX5_alter 8 = .ok (.iload_n 2, 1) := by decide +kernel
theorem dX5_alter_9 : decode cX5_alter 9 = .ok (.iconst 1, 1) := by decide +kernel
theorem dX5_alter_10 : decode cX5_alter 10 = .ok (.if_icmp .ne 7, 3) := by decide +kernel
theorem dX5_alter_13 : decode cX5_alter 13 = .ok (.iconst 1, 1) := by decide +kernel
theorem dX5_alter_14 : decode cX5_alter 14 = .ok (.goto 5, 3) := by decide +kernel
theorem dX5_alter_17 : decode cX5_alter 17 = .ok (.bipush 20, 2) := by decide +kernel
theorem dX5_alter_19 : decode cX5_alter 19 = .ok (.istore 4, 2) := by decide +kernel
theorem dX5_alter_21 : decode cX5_alter 21 = .ok (.aload_n 0, 1) := by decide +kernel
theorem dX5_alter_22 : decode cX5_alter 22 = .ok (.iload_n 1, 1) := by decide +kernel
theorem dX5_alter_23 : decode cX5_alter 23 = .ok (.invokevirtual 205, 3) := by decide +kernel
theorem dX5_alter_26 : decode cX5_alter 26 = .ok (.ifCond .eq 40, 3) := by decide +kernel
theorem dX5_alter_29 : decode cX5_alter 29 = .ok (.iload_n 2, 1) := by decide +kernel
theorem dX5_alter_30 : decode cX5_alter 30 = .ok (.i2l, 1) := by decide +kernel
theorem dX5_alter_31 : decode cX5_alter 31 = .ok (.lconst 0, 1) := by decide +kernel
theorem dX5_alter_32 : decode cX5_alter 32 = .ok (.ldc2_w 210, 3) := by decide +kernel
theorem dX5_alter_35 : decode cX5_alter 35 = .ok (.invokestatic 56, 3) := by decide +kernel
theorem dX5_alter_38 : decode cX5_alter 38 = .ok (.ifCond .eq 28, 3) := by decide +kernel
theorem dX5_alter_41 : decode cX5_alter 41 = .ok (.iload_n 3, 1) := by decide +kernel
theorem dX5_alter_42 : decode cX5_alter 42 = .ok (.i2l, 1) := by decide +kernel
theorem dX5_alter_43 : decode cX5_alter 43 = .ok (.lconst 0, 1) := by decide +kernel
theorem dX5_alter_44 : decode cX5_alter 44 = .ok (.iload 4, 2) := by decide +kernel
theorem dX5_alter_46 : decode cX5_alter 46 = .ok (.i2l, 1) := by decide +kernel
theorem dX5_alter_47 : decode cX5_alter 47 = .ok (.invokestatic 56, 3) := by decide +kernel
theorem dX5_alter_50 : decode cX5_alter 50 = .ok (.ifCond .eq 16, 3) := by decide +kernel
theorem dX5_alter_53 : decode cX5_alter 53 = .ok (.aload_n 0, 1) := by decide +kernel
theorem dX5_alter_54 : decode cX5_alter 54 = .ok (.iconst 4, 1) := by decide +kernel
theorem dX5_alter_55 : decode cX5_alter 55 = .ok (.iload_n 1, 1) := by decide +kernel
theorem dX5_alter_56 : decode cX5_alter 56 = .ok (.imul, 1) := by decide +kernel
theorem dX5_alter_57 : decode cX5_alter 57 = .ok (.iload_n 2, 1) := by decide +kernel
theorem dX5_alter_58 : decode cX5_alter 58 = .ok (.iadd, 1) := by decide +kernel
theorem dX5_alter_59 : decode cX5_alter 59 = .ok (.iload_n 3, 1) := by decide +kernel
theorem dX5_alter_60 : decode cX5_alter 60 = .ok (.invokevirtual 212, 3) := by decide +kernel
theorem dX5_alter_63 : decode cX5_alter 63 = .ok (.goto 4, 3) := by decide +kernel
theorem dX5_alter_66 : decode cX5_alter 66 = .ok (.iconst (-1), 1) := by decide +kernel
theorem dX5_alter_67 : decode cX5_alter 67 = .ok (.ireturn, 1) := by decide +kernel
theorem dX5_word_0 : decode cX5_word 0 = .ok (.iload_n 1, 1) := by decide +kernel
theorem dX5_word_1 : decode cX5_word 1 = .ok (.invokestatic 182, 3) := by decide +kernel
theorem dX5_word_4 : decode cX5_word 4 = .ok (.ifCond .eq 13, 3) := by decide +kernel
theorem dX5_word_7 : decode cX5_word 7 = .ok (.aload_n 0, 1) := by decide +kernel
theorem dX5_word_8 : decode cX5_word 8 = .ok (.bipush 25, 2) := by decide +kernel
theorem dX5_word_10 : decode cX5_word 10 = .ok (.iload_n 1, 1) := by decide +kernel
theorem dX5_word_11 : decode cX5_word 11 = .ok (.invokevirtual 212, 3) := by decide +kernel
theorem dX5_word_14 : decode cX5_word 14 = .ok (.goto 4, 3) := by decide +kernel
theorem dX5_word_17 : decode cX5_word 17 = .ok (.iconst (-1), 1) := by decide +kernel
theorem dX5_word_18 : decode cX5_word 18 = .ok (.ireturn, 1) := by decide +kernel
theorem dX5_seat_0 : decode cX5_seat 0 = .ok (.iload_n 1, 1) := by decide +kernel
theorem dX5_seat_1 : decode cX5_seat 1 = .ok (.i2l, 1) := by decide +kernel
theorem dX5_seat_2 : decode cX5_seat 2 = .ok (.lconst 0, 1) := by decide +kernel
theorem dX5_seat_3 : decode cX5_seat 3 = .ok (.lconst 1, 1) := by decide +kernel
theorem dX5_seat_4 : decode cX5_seat 4 = .ok (.invokestatic 56, 3) := by decide +kernel
theorem dX5_seat_7 : decode cX5_seat 7 = .ok (.ifCond .eq 10, 3) := by decide +kernel
theorem dX5_seat_10 : decode cX5_seat 10 = .ok (.iload_n 2, 1) := by decide +kernel
theorem dX5_seat_11 : decode cX5_seat 11 = .ok (.invokestatic 182, 3) := by decide +kernel
theorem dX5_seat_14 : decode cX5_seat 14 = .ok (.ifCond .ne 5, 3) := by decide +kernel
theorem dX5_seat_17 : decode cX5_seat 17 = .ok (.iconst (-1), 1) := by decide +kernel
theorem dX5_seat_18 : decode cX5_seat 18 = .ok (.ireturn, 1) := by decide +kernel
theorem dX5_seat_19 : decode cX5_seat 19 = .ok (.aload_n 0, 1) := by decide +kernel
theorem dX5_seat_20 : decode cX5_seat 20 = .ok (.getfield 7, 3) := by decide +kernel
theorem dX5_seat_23 : decode cX5_seat 23 = .ok (.bipush 24, 2) := by decide +kernel
theorem dX5_seat_25 : decode cX5_seat 25 = .ok (.iaload, 1) := by decide +kernel
theorem dX5_seat_26 : decode cX5_seat 26 = .ok (.bipush 6, 2) := by decide +kernel
theorem dX5_seat_28 : decode cX5_seat 28 = .ok (.if_icmp .ne 6, 3) := by decide +kernel
theorem dX5_seat_31 : decode cX5_seat 31 = .ok (.bipush (-3), 2) := by decide +kernel
theorem dX5_seat_33 : decode cX5_seat 33 = .ok (.ireturn, 1) := by decide +kernel
theorem dX5_seat_34 : decode cX5_seat 34 = .ok (.iconst 4, 1) := by decide +kernel
theorem dX5_seat_35 : decode cX5_seat 35 = .ok (.aload_n 0, 1) := by decide +kernel
theorem dX5_seat_36 : decode cX5_seat 36 = .ok (.getfield 7, 3) := by decide +kernel
theorem dX5_seat_39 : decode cX5_seat 39 = .ok (.bipush 24, 2) := by decide +kernel
theorem dX5_seat_41 : decode cX5_seat 41 = .ok (.iaload, 1) := by decide +kernel
theorem dX5_seat_42 : decode cX5_seat 42 = .ok (.imul, 1) := by decide +kernel
theorem dX5_seat_43 : decode cX5_seat 43 = .ok (.istore_n 3, 1) := by decide +kernel
theorem dX5_seat_44 : decode cX5_seat 44 = .ok (.aload_n 0, 1) := by decide +kernel
theorem dX5_seat_45 : decode cX5_seat 45 = .ok (.getfield 7, 3) := by decide +kernel
theorem dX5_seat_48 : decode cX5_seat 48 = .ok (.iload_n 3, 1) := by decide +kernel
theorem dX5_seat_49 : decode cX5_seat 49 = .ok (.iconst 0, 1) := by decide +kernel
theorem dX5_seat_50 : decode cX5_seat 50 = .ok (.iadd, 1) := by decide +kernel
theorem dX5_seat_51 : decode cX5_seat 51 = .ok (.iconst 0, 1) := by decide +kernel
theorem dX5_seat_52 : decode cX5_seat 52 = .ok (.iastore, 1) := by decide +kernel
theorem dX5_seat_53 : decode cX5_seat 53 = .ok (.aload_n 0, 1) := by decide +kernel
theorem dX5_seat_54 : decode cX5_seat 54 = .ok (.getfield 7, 3) := by decide +kernel
theorem dX5_seat_57 : decode cX5_seat 57 = .ok (.iload_n 3, 1) := by decide +kernel
theorem dX5_seat_58 : decode cX5_seat 58 = .ok (.iconst 1, 1) := by decide +kernel
theorem dX5_seat_59 : decode cX5_seat 59 = .ok (.iadd, 1) := by decide +kernel
theorem dX5_seat_60 : decode cX5_seat 60 = .ok (.iload_n 1, 1) := by decide +kernel
theorem dX5_seat_61 : decode cX5_seat 61 = .ok (.iastore, 1) := by decide +kernel
theorem dX5_seat_62 : decode cX5_seat 62 = .ok (.aload_n 0, 1) := by decide +kernel
theorem dX5_seat_63 : decode cX5_seat 63 = .ok (.getfield 7, 3) := by decide +kernel
theorem dX5_seat_66 : decode cX5_seat 66 = .ok (.iload_n 3, 1) := by decide +kernel
theorem dX5_seat_67 : decode cX5_seat 67 = .ok (.iconst 2, 1) := by decide +kernel
theorem dX5_seat_68 : decode cX5_seat 68 = .ok (.iadd, 1) := by decide +kernel
theorem dX5_seat_69 : decode cX5_seat 69 = .ok (.iload_n 2, 1) := by decide +kernel
theorem dX5_seat_70 : decode cX5_seat 70 = .ok (.iastore, 1) := by decide +kernel
theorem dX5_seat_71 : decode cX5_seat 71 = .ok (.aload_n 0, 1) := by decide +kernel
theorem dX5_seat_72 : decode cX5_seat 72 = .ok (.getfield 7, 3) := by decide +kernel
theorem dX5_seat_75 : decode cX5_seat 75 = .ok (.iload_n 3, 1) := by decide +kernel
theorem dX5_seat_76 : decode cX5_seat 76 = .ok (.iconst 3, 1) := by decide +kernel
theorem dX5_seat_77 : decode cX5_seat 77 = .ok (.iadd, 1) := by decide +kernel
theorem dX5_seat_78 : decode cX5_seat 78 = .ok (.iconst 0, 1) := by decide +kernel
theorem dX5_seat_79 : decode cX5_seat 79 = .ok (.iastore, 1) := by decide +kernel
theorem dX5_seat_80 : decode cX5_seat 80 = .ok (.aload_n 0, 1) := by decide +kernel
theorem dX5_seat_81 : decode cX5_seat 81 = .ok (.getfield 7, 3) := by decide +kernel
theorem dX5_seat_84 : decode cX5_seat 84 = .ok (.bipush 24, 2) := by decide +kernel
theorem dX5_seat_86 : decode cX5_seat 86 = .ok (.dup2, 1) := by decide +kernel
theorem dX5_seat_87 : decode cX5_seat 87 = .ok (.iaload, 1) := by decide +kernel
theorem dX5_seat_88 : decode cX5_seat 88 = .ok (.iconst 1, 1) := by decide +kernel
theorem dX5_seat_89 : decode cX5_seat 89 = .ok (.iadd, 1) := by decide +kernel
theorem dX5_seat_90 : decode cX5_seat 90 = .ok (.iastore, 1) := by decide +kernel
theorem dX5_seat_91 : decode cX5_seat 91 = .ok (.aload_n 0, 1) := by decide +kernel
theorem dX5_seat_92 : decode cX5_seat 92 = .ok (.getfield 7, 3) := by decide +kernel
theorem dX5_seat_95 : decode cX5_seat 95 = .ok (.bipush 24, 2) := by decide +kernel
theorem dX5_seat_97 : decode cX5_seat 97 = .ok (.iaload, 1) := by decide +kernel
theorem dX5_seat_98 : decode cX5_seat 98 = .ok (.ireturn, 1) := by decide +kernel
theorem dX5_clear_0 : decode cX5_clear 0 = .ok (.iload_n 1, 1) := by decide +kernel
theorem dX5_clear_1 : decode cX5_clear 1 = .ok (.i2l, 1) := by decide +kernel
theorem dX5_clear_2 : decode cX5_clear 2 = .ok (.lconst 0, 1) := by decide +kernel
theorem dX5_clear_3 : decode cX5_clear 3 = .ok (.aload_n 0, 1) := by decide +kernel
theorem dX5_clear_4 : decode cX5_clear 4 = .ok (.getfield 7, 3) := by decide +kernel
theorem dX5_clear_7 : decode cX5_clear 7 = .ok (.bipush 24, 2) := by decide +kernel
theorem dX5_clear_9 : decode cX5_clear 9 = .ok (.iaload, 1) := by decide +kernel
theorem dX5_clear_10 : decode cX5_clear 10 = .ok (.i2l, 1) := by decide +kernel
theorem dX5_clear_11 : decode cX5_clear 11 = .ok (.invokestatic 56, 3) := by decide +kernel
theorem dX5_clear_14 : decode cX5_clear 14 = .ok (.ifCond .eq 13, 3) := by decide +kernel
theorem dX5_clear_17 : decode cX5_clear 17 = .ok (.aload_n 0, 1) := by decide +kernel
theorem dX5_clear_18 : decode cX5_clear 18 = .ok (.bipush 24, 2) := by decide +kernel
theorem dX5_clear_20 : decode cX5_clear 20 = .ok (.iload_n 1, 1) := by decide +kernel
theorem dX5_clear_21 : decode cX5_clear 21 = .ok (.invokevirtual 212, 3) := by decide +kernel
theorem dX5_clear_24 : decode cX5_clear 24 = .ok (.goto 4, 3) := by decide +kernel
theorem dX5_clear_27 : decode cX5_clear 27 = .ok (.iconst (-1), 1) := by decide +kernel
theorem dX5_clear_28 : decode cX5_clear 28 = .ok (.ireturn, 1) := by decide +kernel
theorem dX5_days_0 : decode cX5_days 0 = .ok (.iload_n 1, 1) := by decide +kernel
theorem dX5_days_1 : decode cX5_days 1 = .ok (.i2l, 1) := by decide +kernel
theorem dX5_days_2 : decode cX5_days 2 = .ok (.lconst 0, 1) := by decide +kernel
theorem dX5_days_3 : decode cX5_days 3 = .ok (.ldc2_w 215, 3) := by decide +kernel
theorem dX5_days_6 : decode cX5_days 6 = .ok (.invokestatic 56, 3) := by decide +kernel
theorem dX5_days_9 : decode cX5_days 9 = .ok (.ifCond .ne 5, 3) := by decide +kernel
theorem dX5_days_12 : decode cX5_days 12 = .ok (.iconst (-1), 1) := by decide +kernel
theorem dX5_days_13 : decode cX5_days 13 = .ok (.ireturn, 1) := by decide +kernel
theorem dX5_days_14 : decode cX5_days 14 = .ok (.aload_n 0, 1) := by decide +kernel
theorem dX5_days_15 : decode cX5_days 15 = .ok (.getfield 7, 3) := by decide +kernel
theorem dX5_days_18 : decode cX5_days 18 = .ok (.bipush 26, 2) := by decide +kernel
theorem dX5_days_20 : decode cX5_days 20 = .ok (.iaload, 1) := by decide +kernel
theorem dX5_days_21 : decode cX5_days 21 = .ok (.iload_n 1, 1) := by decide +kernel
theorem dX5_days_22 : decode cX5_days 22 = .ok (.iadd, 1) := by decide +kernel
theorem dX5_days_23 : decode cX5_days 23 = .ok (.sipush 999, 3) := by decide +kernel
theorem dX5_days_26 : decode cX5_days 26 = .ok (.if_icmp .le 6, 3) := by decide +kernel
theorem dX5_days_29 : decode cX5_days 29 = .ok (.bipush (-3), 2) := by decide +kernel
theorem dX5_days_31 : decode cX5_days 31 = .ok (.ireturn, 1) := by decide +kernel
theorem dX5_days_32 : decode cX5_days 32 = .ok (.aload_n 0, 1) := by decide +kernel
theorem dX5_days_33 : decode cX5_days 33 = .ok (.invokevirtual 196, 3) := by decide +kernel
theorem dX5_days_36 : decode cX5_days 36 = .ok (.aload_n 0, 1) := by decide +kernel
theorem dX5_days_37 : decode cX5_days 37 = .ok (.iload_n 1, 1) := by decide +kernel
theorem dX5_days_38 : decode cX5_days 38 = .ok (.invokevirtual 217, 3) := by decide +kernel
theorem dX5_days_41 : decode cX5_days 41 = .ok (.aload_n 0, 1) := by decide +kernel
theorem dX5_days_42 : decode cX5_days 42 = .ok (.invokevirtual 220, 3) := by decide +kernel
theorem dX5_days_45 : decode cX5_days 45 = .ok (.aload_n 0, 1) := by decide +kernel
theorem dX5_days_46 : decode cX5_days 46 = .ok (.getfield 128, 3) := by decide +kernel
theorem dX5_days_49 : decode cX5_days 49 = .ok (.ireturn, 1) := by decide +kernel
theorem dX5_isFar_0 : decode cX5_isFar 0 = .ok (.iload_n 0, 1) := by decide +kernel
theorem dX5_isFar_1 : decode cX5_isFar 1 = .ok (.i2l, 1) := by decide +kernel
theorem dX5_isFar_2 : decode cX5_isFar 2 = .ok (.lconst 0, 1) := by decide +kernel
theorem dX5_isFar_3 : decode cX5_isFar 3 = .ok (.ldc2_w 223, 3) := by decide +kernel
theorem dX5_isFar_6 : decode cX5_isFar 6 = .ok (.invokestatic 56, 3) := by decide +kernel
theorem dX5_isFar_9 : decode cX5_isFar 9 = .ok (.ireturn, 1) := by decide +kernel
theorem dX5_runs_0 : decode cX5_runs 0 = .ok (.iload_n 1, 1) := by decide +kernel
theorem dX5_runs_1 : decode cX5_runs 1 = .ok (.invokestatic 225, 3) := by decide +kernel
theorem dX5_runs_4 : decode cX5_runs 4 = .ok (.ifCond .eq 15, 3) := by decide +kernel
theorem dX5_runs_7 : decode cX5_runs 7 = .ok (.iload_n 2, 1) := by decide +kernel
theorem dX5_runs_8 : decode cX5_runs 8 = .ok (.i2l, 1) := by decide +kernel
theorem dX5_runs_9 : decode cX5_runs 9 = .ok (.lconst 0, 1) := by decide +kernel
theorem dX5_runs_10 : decode cX5_runs 10 = .ok (.ldc2_w 228, 3) := by decide +kernel
theorem dX5_runs_13 : decode cX5_runs 13 = .ok (.invokestatic 56, 3) := by decide +kernel
theorem dX5_runs_16 : decode cX5_runs 16 = .ok (.ifCond .ne 5, 3) := by decide +kernel
theorem dX5_runs_19 : decode cX5_runs 19 = .ok (.iconst (-1), 1) := by decide +kernel
theorem dX5_runs_20 : decode cX5_runs 20 = .ok (.ireturn, 1) := by decide +kernel
theorem dX5_runs_21 : decode cX5_runs 21 = .ok (.aload_n 0, 1) := by decide +kernel
theorem dX5_runs_22 : decode cX5_runs 22 = .ok (.invokevirtual 196, 3) := by decide +kernel
theorem dX5_runs_25 : decode cX5_runs 25 = .ok (.aload_n 0, 1) := by decide +kernel
theorem dX5_runs_26 : decode cX5_runs 26 = .ok (.iload_n 1, 1) := by decide +kernel
theorem dX5_runs_27 : decode cX5_runs 27 = .ok (.invokevirtual 217, 3) := by decide +kernel
theorem dX5_runs_30 : decode cX5_runs 30 = .ok (.iload_n 2, 1) := by decide +kernel
theorem dX5_runs_31 : decode cX5_runs 31 = .ok (.tableswitch 56 0 3 #[29, 37, 42, 50], 29) := by decide +kernel
theorem dX5_runs_60 : decode cX5_runs 60 = .ok (.aload_n 0, 1) := by decide +kernel
theorem dX5_runs_61 : decode cX5_runs 61 = .ok (.getfield 13, 3) := by decide +kernel
theorem dX5_runs_64 : decode cX5_runs 64 = .ok (.bipush 25, 2) := by decide +kernel
theorem dX5_runs_66 : decode cX5_runs 66 = .ok (.iaload, 1) := by decide +kernel
theorem dX5_runs_67 : decode cX5_runs 67 = .ok (.ireturn, 1) := by decide +kernel
theorem dX5_runs_68 : decode cX5_runs 68 = .ok (.aload_n 0, 1) := by decide +kernel
theorem dX5_runs_69 : decode cX5_runs 69 = .ok (.getfield 128, 3) := by decide +kernel
theorem dX5_runs_72 : decode cX5_runs 72 = .ok (.ireturn, 1) := by decide +kernel
theorem dX5_runs_73 : decode cX5_runs 73 = .ok (.aload_n 0, 1) := by decide +kernel
theorem dX5_runs_74 : decode cX5_runs 74 = .ok (.invokevirtual 185, 3) := by decide +kernel
theorem dX5_runs_77 : decode cX5_runs 77 = .ok (.invokestatic 153, 3) := by decide +kernel
theorem dX5_runs_80 : decode cX5_runs 80 = .ok (.ireturn, 1) := by decide +kernel
theorem dX5_runs_81 : decode cX5_runs 81 = .ok (.aload_n 0, 1) := by decide +kernel
theorem dX5_runs_82 : decode cX5_runs 82 = .ok (.iconst 3, 1) := by decide +kernel
theorem dX5_runs_83 : decode cX5_runs 83 = .ok (.invokevirtual 230, 3) := by decide +kernel
theorem dX5_runs_86 : decode cX5_runs 86 = .ok (.ireturn, 1) := by decide +kernel
theorem dX5_runs_87 : decode cX5_runs 87 = .ok (.aload_n 0, 1) := by decide +kernel
theorem dX5_runs_88 : decode cX5_runs 88 = .ok (.invokevirtual 199, 3) := by decide +kernel
theorem dX5_runs_91 : decode cX5_runs 91 = .ok (.ireturn, 1) := by decide +kernel
theorem dX5_ahead_0 : decode cX5_ahead 0 = .ok (.aload_n 0, 1) := by decide +kernel
theorem dX5_ahead_1 : decode cX5_ahead 1 = .ok (.iload_n 1, 1) := by decide +kernel
theorem dX5_ahead_2 : decode cX5_ahead 2 = .ok (.invokevirtual 205, 3) := by decide +kernel
theorem dX5_ahead_5 : decode cX5_ahead 5 = .ok (.ifCond .eq 10, 3) := by decide +kernel
theorem dX5_ahead_8 : decode cX5_ahead 8 = .ok (.iload_n 2, 1) := by decide +kernel
theorem dX5_ahead_9 : decode cX5_ahead 9 = .ok (.invokestatic 225, 3) := by decide +kernel
theorem dX5_ahead_12 : decode cX5_ahead 12 = .ok (.ifCond .ne 5, 3) := by decide +kernel
theorem dX5_ahead_15 : decode cX5_ahead 15 = .ok (.iconst (-1), 1) := by decide +kernel
theorem dX5_ahead_16 : decode cX5_ahead 16 = .ok (.ireturn, 1) := by decide +kernel
theorem dX5_ahead_17 : decode cX5_ahead 17 = .ok (.aload_n 0, 1) := by decide +kernel
theorem dX5_ahead_18 : decode cX5_ahead 18 = .ok (.invokevirtual 196, 3) := by decide +kernel
theorem dX5_ahead_21 : decode cX5_ahead 21 = .ok (.aload_n 0, 1) := by decide +kernel
theorem dX5_ahead_22 : decode cX5_ahead 22 = .ok (.iload_n 2, 1) := by decide +kernel
theorem dX5_ahead_23 : decode cX5_ahead 23 = .ok (.invokevirtual 217, 3) := by decide +kernel
theorem dX5_ahead_26 : decode cX5_ahead 26 = .ok (.aload_n 0, 1) := by decide +kernel
theorem dX5_ahead_27 : decode cX5_ahead 27 = .ok (.iload_n 1, 1) := by decide +kernel
theorem dX5_ahead_28 : decode cX5_ahead 28 = .ok (.iconst 3, 1) := by decide +kernel
theorem dX5_ahead_29 : decode cX5_ahead 29 = .ok (.invokevirtual 131, 3) := by decide +kernel
theorem dX5_ahead_32 : decode cX5_ahead 32 = .ok (.ireturn, 1) := by decide +kernel
theorem dX5_daysTo_0 : decode cX5_daysTo 0 = .ok (.iconst 0, 1) := by decide +kernel
theorem dX5_daysTo_1 : decode cX5_daysTo 1 = .ok (.istore_n 1, 1) := by decide +kernel
theorem dX5_daysTo_2 : decode cX5_daysTo 2 = .ok (.iload_n 1, 1) := by decide +kernel
theorem dX5_daysTo_3 : decode cX5_daysTo 3 = .ok (.bipush 60, 2) := by decide +kernel
theorem dX5_daysTo_5 : decode cX5_daysTo 5 = .ok (.if_icmp .gt 23, 3) := by decide +kernel
theorem dX5_daysTo_8 : decode cX5_daysTo 8 = .ok (.aload_n 0, 1) := by decide +kernel
theorem dX5_daysTo_9 : decode cX5_daysTo 9 = .ok (.invokevirtual 185, 3) := by decide +kernel
theorem dX5_daysTo_12 : decode cX5_daysTo 12 = .ok (.ifCond .eq 5, 3) := by decide +kernel
theorem dX5_daysTo_15 : decode cX5_daysTo 15 = .ok (.iload_n 1, 1) := by decide +kernel
theorem dX5_daysTo_16 : decode cX5_daysTo 16 = .ok (.ireturn, 1) := by decide +kernel
theorem dX5_daysTo_17 : decode cX5_daysTo 17 = .ok (.aload_n 0, 1) := by decide +kernel
theorem dX5_daysTo_18 : decode cX5_daysTo 18 = .ok (.iconst 0, 1) := by decide +kernel
theorem dX5_daysTo_19 : decode cX5_daysTo 19 = .ok (.invokevirtual 192, 3) := by decide +kernel
theorem dX5_daysTo_22 : decode cX5_daysTo 22 = .ok (.iinc 1 1, 3) := by decide +kernel
theorem dX5_daysTo_25 : decode cX5_daysTo 25 = .ok (.goto (-23), 3) := by decide +kernel
theorem dX5_daysTo_28 : decode cX5_daysTo 28 = .ok (.bipush (-4), 2) := by decide +kernel
theorem dX5_daysTo_30 : decode cX5_daysTo 30 = .ok (.ireturn, 1) := by decide +kernel
theorem dX5_carries_0 : decode cX5_carries 0 = .ok (.aload_n 0, 1) := by decide +kernel
theorem dX5_carries_1 : decode cX5_carries 1 = .ok (.invokevirtual 196, 3) := by decide +kernel
theorem dX5_carries_4 : decode cX5_carries 4 = .ok (.aload_n 0, 1) := by decide +kernel
theorem dX5_carries_5 : decode cX5_carries 5 = .ok (.invokevirtual 233, 3) := by decide +kernel
theorem dX5_carries_8 : decode cX5_carries 8 = .ok (.ireturn, 1) := by decide +kernel
theorem dX5_startsJudging_0 : decode cX5_startsJudging 0 = .ok (.aload_n 0, 1) := by decide +kernel
theorem dX5_startsJudging_1 : decode cX5_startsJudging 1 = .ok (.bipush (-4), 2) := by decide +kernel
theorem dX5_startsJudging_3 : decode cX5_startsJudging 3 = .ok (.putfield 236, 3) := by decide +kernel
theorem dX5_startsJudging_6 : decode cX5_startsJudging 6 = .ok (.aload_n 0, 1) := by decide +kernel
theorem dX5_startsJudging_7 : decode cX5_startsJudging 7 = .ok (.iload_n 1, 1) := by decide +kernel
theorem dX5_startsJudging_8 : decode cX5_startsJudging 8 = .ok (.bipush (-4), 2) := by decide +kernel
theorem dX5_startsJudging_10 : decode cX5_startsJudging 10 = .ok (.if_icmp .ne 8, 3) := by decide +kernel
theorem dX5_startsJudging_13 : decode cX5_startsJudging 13 = .ok (.ldc 239, 2) := by decide +kernel
theorem dX5_startsJudging_15 : decode cX5_startsJudging 15 = .ok (.goto 4, 3) := by decide +kernel
theorem dX5_startsJudging_18 : decode cX5_startsJudging 18 = .ok (.iload_n 1, 1) := by decide +kernel
theorem dX5_startsJudging_19 : decode cX5_startsJudging 19 = .ok (.putfield 240, 3) := by decide +kernel
theorem dX5_startsJudging_22 : decode cX5_startsJudging 22 = .ok (.return_, 1) := by decide +kernel
theorem dX5_judges_0 : decode cX5_judges 0 = .ok (.iload_n 2, 1) := by decide +kernel
theorem dX5_judges_1 : decode cX5_judges 1 = .ok (.bipush (-4), 2) := by decide +kernel
theorem dX5_judges_3 : decode cX5_judges 3 = .ok (.if_icmp .eq 21, 3) := by decide +kernel
theorem dX5_judges_6 : decode cX5_judges 6 = .ok (.iload_n 2, 1) := by decide +kernel
theorem dX5_judges_7 : decode cX5_judges 7 = .ok (.aload_n 0, 1) := by decide +kernel
theorem dX5_judges_8 : decode cX5_judges 8 = .ok (.getfield 240, 3) := by decide +kernel
theorem dX5_judges_11 : decode cX5_judges 11 = .ok (.if_icmp .ge 13, 3) := by decide +kernel
theorem dX5_judges_14 : decode cX5_judges 14 = .ok (.aload_n 0, 1) := by decide +kernel
theorem dX5_judges_15 : decode cX5_judges 15 = .ok (.iload_n 1, 1) := by decide +kernel
theorem dX5_judges_16 : decode cX5_judges 16 = .ok (.putfield 236, 3) := by decide +kernel
theorem dX5_judges_19 : decode cX5_judges 19 = .ok (.aload_n 0, 1) := by decide +kernel
theorem dX5_judges_20 : decode cX5_judges 20 = .ok (.iload_n 2, 1) := by decide +kernel
theorem dX5_judges_21 : decode cX5_judges 21 = .ok (.putfield 240, 3) := by decide +kernel
theorem dX5_judges_24 : decode cX5_judges 24 = .ok (.return_, 1) := by decide +kernel
theorem dX5_judged_0 : decode cX5_judged 0 = .ok (.aload_n 0, 1) := by decide +kernel
theorem dX5_judged_1 : decode cX5_judged 1 = .ok (.getfield 236, 3) := by decide +kernel
theorem dX5_judged_4 : decode cX5_judged 4 = .ok (.bipush (-4), 2) := by decide +kernel
theorem dX5_judged_6 : decode cX5_judged 6 = .ok (.if_icmp .ne 8, 3) := by decide +kernel
theorem dX5_judged_9 : decode cX5_judged 9 = .ok (.bipush (-4), 2) := by decide +kernel
theorem dX5_judged_11 : decode cX5_judged 11 = .ok (.goto 18, 3) := by decide +kernel
theorem dX5_judged_14 : decode cX5_judged 14 = .ok (.iload_n 1, 1) := by decide +kernel
theorem dX5_judged_15 : decode cX5_judged 15 = .ok (.ifCond .ne 10, 3) := by decide +kernel
theorem dX5_judged_18 : decode cX5_judged 18 = .ok (.aload_n 0, 1) := by decide +kernel
theorem dX5_judged_19 : decode cX5_judged 19 = .ok (.getfield 236, 3) := by decide +kernel
theorem dX5_judged_22 : decode cX5_judged 22 = .ok (.goto 7, 3) := by decide +kernel
theorem dX5_judged_25 : decode cX5_judged 25 = .ok (.aload_n 0, 1) := by decide +kernel
theorem dX5_judged_26 : decode cX5_judged 26 = .ok (.getfield 240, 3) := by decide +kernel
theorem dX5_judged_29 : decode cX5_judged 29 = .ok (.ireturn, 1) := by decide +kernel
theorem dX5_wording_0 : decode cX5_wording 0 = .ok (.iload_n 1, 1) := by decide +kernel
theorem dX5_wording_1 : decode cX5_wording 1 = .ok (.invokestatic 243, 3) := by decide +kernel
theorem dX5_wording_4 : decode cX5_wording 4 = .ok (.ifCond .ne 5, 3) := by decide +kernel
theorem dX5_wording_7 : decode cX5_wording 7 = .ok (.iconst (-1), 1) := by decide +kernel
theorem dX5_wording_8 : decode cX5_wording 8 = .ok (.ireturn, 1) := by decide +kernel
theorem dX5_wording_9 : decode cX5_wording 9 = .ok (.aload_n 0, 1) := by decide +kernel
theorem dX5_wording_10 : decode cX5_wording 10 = .ok (.bipush (-4), 2) := by decide +kernel
theorem dX5_wording_12 : decode cX5_wording 12 = .ok (.invokevirtual 246, 3) := by decide +kernel
theorem dX5_wording_15 : decode cX5_wording 15 = .ok (.iconst 0, 1) := by decide +kernel
theorem dX5_wording_16 : decode cX5_wording 16 = .ok (.istore_n 2, 1) := by decide +kernel
theorem dX5_wording_17 : decode cX5_wording 17 = .ok (.iload_n 2, 1) := by decide +kernel
theorem dX5_wording_18 : decode cX5_wording 18 = .ok (.bipush 20, 2) := by decide +kernel
theorem dX5_wording_20 : decode cX5_wording 20 = .ok (.if_icmp .gt 30, 3) := by decide +kernel
theorem dX5_wording_23 : decode cX5_wording 23 = .ok (.aload_n 0, 1) := by decide +kernel
theorem dX5_wording_24 : decode cX5_wording 24 = .ok (.invokevirtual 196, 3) := by decide +kernel
theorem dX5_wording_27 : decode cX5_wording 27 = .ok (.aload_n 0, 1) := by decide +kernel
theorem dX5_wording_28 : decode cX5_wording 28 = .ok (.getfield 13, 3) := by decide +kernel
theorem dX5_wording_31 : decode cX5_wording 31 = .ok (.bipush 25, 2) := by decide +kernel
theorem dX5_wording_33 : decode cX5_wording 33 = .ok (.iload_n 2, 1) := by decide +kernel
theorem dX5_wording_34 : decode cX5_wording 34 = .ok (.iastore, 1) := by decide +kernel
theorem dX5_wording_35 : decode cX5_wording 35 = .ok (.aload_n 0, 1) := by decide +kernel
theorem dX5_wording_36 : decode cX5_wording 36 = .ok (.iload_n 2, 1) := by decide +kernel
theorem dX5_wording_37 : decode cX5_wording 37 = .ok (.aload_n 0, 1) := by decide +kernel
theorem dX5_wording_38 : decode cX5_wording 38 = .ok (.invokevirtual 233, 3) := by decide +kernel
theorem dX5_wording_41 : decode cX5_wording 41 = .ok (.invokevirtual 249, 3) := by decide +kernel
theorem dX5_wording_44 : decode cX5_wording 44 = .ok (.iinc 2 1, 3) := by decide +kernel
theorem dX5_wording_47 : decode cX5_wording 47 = .ok (.goto (-30), 3) := by decide +kernel
theorem dX5_wording_50 : decode cX5_wording 50 = .ok (.aload_n 0, 1) := by decide +kernel
theorem dX5_wording_51 : decode cX5_wording 51 = .ok (.iload_n 1, 1) := by decide +kernel
theorem dX5_wording_52 : decode cX5_wording 52 = .ok (.invokevirtual 253, 3) := by decide +kernel
theorem dX5_wording_55 : decode cX5_wording 55 = .ok (.ireturn, 1) := by decide +kernel
theorem dX5_middle_0 : decode cX5_middle 0 = .ok (.iload_n 1, 1) := by decide +kernel
theorem dX5_middle_1 : decode cX5_middle 1 = .ok (.invokestatic 243, 3) := by decide +kernel
theorem dX5_middle_4 : decode cX5_middle 4 = .ok (.ifCond .ne 5, 3) := by decide +kernel
theorem dX5_middle_7 : decode cX5_middle 7 = .ok (.iconst (-1), 1) := by decide +kernel
theorem dX5_middle_8 : decode cX5_middle 8 = .ok (.ireturn, 1) := by decide +kernel
theorem dX5_middle_9 : decode cX5_middle 9 = .ok (.iconst (-1), 1) := by decide +kernel
theorem dX5_middle_10 : decode cX5_middle 10 = .ok (.istore_n 2, 1) := by decide +kernel
theorem dX5_middle_11 : decode cX5_middle 11 = .ok (.iconst 0, 1) := by decide +kernel
theorem dX5_middle_12 : decode cX5_middle 12 = .ok (.istore_n 3, 1) := by decide +kernel
theorem dX5_middle_13 : decode cX5_middle 13 = .ok (.aload_n 0, 1) := by decide +kernel
theorem dX5_middle_14 : decode cX5_middle 14 = .ok (.invokevirtual 196, 3) := by decide +kernel
theorem dX5_middle_17 : decode cX5_middle 17 = .ok (.iconst 0, 1) := by decide +kernel
theorem dX5_middle_18 : decode cX5_middle 18 = .ok (.istore 4, 2) := by decide +kernel
theorem dX5_middle_20 : decode cX5_middle 20 = .ok (.iload 4, 2) := by decide +kernel
theorem dX5_middle_22 : decode cX5_middle 22 = .ok (.bipush 20, 2) := by decide +kernel
theorem dX5_middle_24 : decode cX5_middle 24 = .ok (.if_icmp .gt 57, 3) := by decide +kernel
theorem dX5_middle_27 : decode cX5_middle 27 = .ok (.aload_n 0, 1) := by decide +kernel
theorem dX5_middle_28 : decode cX5_middle 28 = .ok (.getfield 13, 3) := by decide +kernel
theorem dX5_middle_31 : decode cX5_middle 31 = .ok (.bipush 25, 2) := by decide +kernel
theorem dX5_middle_33 : decode cX5_middle 33 = .ok (.iload 4, 2) := by decide +kernel
theorem dX5_middle_35 : decode cX5_middle 35 = .ok (.iastore, 1) := by decide +kernel
theorem dX5_middle_36 : decode cX5_middle 36 = .ok (.aload_n 0, 1) := by decide +kernel
theorem dX5_middle_37 : decode cX5_middle 37 = .ok (.iconst 0, 1) := by decide +kernel
theorem dX5_middle_38 : decode cX5_middle 38 = .ok (.invokevirtual 160, 3) := by decide +kernel
theorem dX5_middle_41 : decode cX5_middle 41 = .ok (.aload_n 0, 1) := by decide +kernel
theorem dX5_middle_42 : decode cX5_middle 42 = .ok (.iconst 1, 1) := by decide +kernel
theorem dX5_middle_43 : decode cX5_middle 43 = .ok (.invokevirtual 160, 3) := by decide +kernel
theorem dX5_middle_46 : decode cX5_middle 46 = .ok (.iadd, 1) := by decide +kernel
theorem dX5_middle_47 : decode cX5_middle 47 = .ok (.istore 5, 2) := by decide +kernel
theorem dX5_middle_49 : decode cX5_middle 49 = .ok (.iload 5, 2) := by decide +kernel
theorem dX5_middle_51 : decode cX5_middle 51 = .ok (.iload_n 2, 1) := by decide +kernel
theorem dX5_middle_52 : decode cX5_middle 52 = .ok (.if_icmp .le 8, 3) := by decide +kernel
theorem dX5_middle_55 : decode cX5_middle 55 = .ok (.iload 4, 2) := by decide +kernel
theorem dX5_middle_57 : decode cX5_middle 57 = .ok (.goto 4, 3) := by decide +kernel
theorem dX5_middle_60 : decode cX5_middle 60 = .ok (.iload_n 3, 1) := by decide +kernel
theorem dX5_middle_61 : decode cX5_middle 61 = .ok (.istore_n 3, 1) := by decide +kernel
theorem dX5_middle_62 : decode cX5_middle 62 = .ok (.iload 5, 2) := by decide +kernel
theorem dX5_middle_64 : decode cX5_middle 64 = .ok (.iload_n 2, 1) := by decide +kernel
theorem dX5_middle_65 : decode cX5_middle 65 = .ok (.if_icmp .le 8, 3) := by decide +kernel
theorem dX5_middle_68 : decode cX5_middle 68 = .ok (.iload 5, 2) := by decide +kernel
theorem dX5_middle_70 : decode cX5_middle 70 = .ok (.goto 4, 3) := by decide +kernel
theorem dX5_middle_73 : decode cX5_middle 73 = .ok (.iload_n 2, 1) := by decide +kernel
theorem dX5_middle_74 : decode cX5_middle 74 = .ok (.istore_n 2, 1) := by decide +kernel
theorem dX5_middle_75 : decode cX5_middle 75 = .ok (.iinc 4 1, 3) := by decide +kernel
theorem dX5_middle_78 : decode cX5_middle 78 = .ok (.goto (-58), 3) := by decide +kernel
theorem dX5_middle_81 : decode cX5_middle 81 = .ok (.iload_n 1, 1) := by decide +kernel
theorem dX5_middle_82 : decode cX5_middle 82 = .ok (.ifCond .ne 7, 3) := by decide +kernel
theorem dX5_middle_85 : decode cX5_middle 85 = .ok (.iload_n 3, 1) := by decide +kernel
theorem dX5_middle_86 : decode cX5_middle 86 = .ok (.goto 4, 3) := by decide +kernel
theorem dX5_middle_89 : decode cX5_middle 89 = .ok (.iload_n 2, 1) := by decide +kernel
theorem dX5_middle_90 : decode cX5_middle 90 = .ok (.ireturn, 1) := by decide +kernel
theorem dX5_swing_0 : decode cX5_swing 0 = .ok (.aload_n 0, 1) := by decide +kernel
theorem dX5_swing_1 : decode cX5_swing 1 = .ok (.iload_n 1, 1) := by decide +kernel
theorem dX5_swing_2 : decode cX5_swing 2 = .ok (.invokevirtual 205, 3) := by decide +kernel
theorem dX5_swing_5 : decode cX5_swing 5 = .ok (.ifCond .ne 5, 3) := by decide +kernel
theorem dX5_swing_8 : decode cX5_swing 8 = .ok (.iconst (-1), 1) := by decide +kernel
theorem dX5_swing_9 : decode cX5_swing 9 = .ok (.ireturn, 1) := by decide +kernel
theorem dX5_swing_10 : decode cX5_swing 10 = .ok (.iconst 0, 1) := by decide +kernel
theorem dX5_swing_11 : decode cX5_swing 11 = .ok (.istore_n 2, 1) := by decide +kernel
theorem dX5_swing_12 : decode cX5_swing 12 = .ok (.aload_n 0, 1) := by decide +kernel
theorem dX5_swing_13 : decode cX5_swing 13 = .ok (.invokevirtual 196, 3) := by decide +kernel
theorem dX5_swing_16 : decode cX5_swing 16 = .ok (.aload_n 0, 1) := by decide +kernel
theorem dX5_swing_17 : decode cX5_swing 17 = .ok (.iload_n 1, 1) := by decide +kernel
theorem dX5_swing_18 : decode cX5_swing 18 = .ok (.putfield 125, 3) := by decide +kernel
theorem dX5_swing_21 : decode cX5_swing 21 = .ok (.aload_n 0, 1) := by decide +kernel
theorem dX5_swing_22 : decode cX5_swing 22 = .ok (.iload_n 1, 1) := by decide +kernel
theorem dX5_swing_23 : decode cX5_swing 23 = .ok (.iconst 1, 1) := by decide +kernel
theorem dX5_swing_24 : decode cX5_swing 24 = .ok (.invokevirtual 131, 3) := by decide +kernel
theorem dX5_swing_27 : decode cX5_swing 27 = .ok (.istore_n 3, 1) := by decide +kernel
theorem dX5_swing_28 : decode cX5_swing 28 = .ok (.iconst 0, 1) := by decide +kernel
theorem dX5_swing_29 : decode cX5_swing 29 = .ok (.istore 4, 2) := by decide +kernel
theorem dX5_swing_31 : decode cX5_swing 31 = .ok (.iload 4, 2) := by decide +kernel
theorem dX5_swing_33 : decode cX5_swing 33 = .ok (.bipush 20, 2) := by decide +kernel
theorem dX5_swing_35 : decode cX5_swing 35 = .ok (.if_icmp .gt 61, 3) := by decide +kernel
theorem dX5_swing_38 : decode cX5_swing 38 = .ok (.aload_n 0, 1) := by decide +kernel
theorem dX5_swing_39 : decode cX5_swing 39 = .ok (.getfield 13, 3) := by decide +kernel
theorem dX5_swing_42 : decode cX5_swing 42 = .ok (.bipush 25, 2) := by decide +kernel
theorem dX5_swing_44 : decode cX5_swing 44 = .ok (.iload 4, 2) := by decide +kernel
theorem dX5_swing_46 : decode cX5_swing 46 = .ok (.iastore, 1) := by decide +kernel
theorem dX5_swing_47 : decode cX5_swing 47 = .ok (.aload_n 0, 1) := by decide +kernel
theorem dX5_swing_48 : decode cX5_swing 48 = .ok (.iload_n 3, 1) := by decide +kernel
theorem dX5_swing_49 : decode cX5_swing 49 = .ok (.invokevirtual 160, 3) := by decide +kernel
theorem dX5_swing_52 : decode cX5_swing 52 = .ok (.istore 5, 2) := by decide +kernel
theorem dX5_swing_54 : decode cX5_swing 54 = .ok (.aload_n 0, 1) := by decide +kernel
theorem dX5_swing_55 : decode cX5_swing 55 = .ok (.iload_n 3, 1) := by decide +kernel
theorem dX5_swing_56 : decode cX5_swing 56 = .ok (.invokevirtual 163, 3) := by decide +kernel
theorem dX5_swing_59 : decode cX5_swing 59 = .ok (.istore 6, 2) := by decide +kernel
theorem dX5_swing_61 : decode cX5_swing 61 = .ok (.iload_n 2, 1) := by decide +kernel
theorem dX5_swing_62 : decode cX5_swing 62 = .ok (.iload 5, 2) := by decide +kernel
theorem dX5_swing_64 : decode cX5_swing 64 = .ok (.iconst 1, 1) := by decide +kernel
theorem dX5_swing_65 : decode cX5_swing 65 = .ok (.iadd, 1) := by decide +kernel
theorem dX5_swing_66 : decode cX5_swing 66 = .ok (.iload 6, 2) := by decide +kernel
theorem dX5_swing_68 : decode cX5_swing 68 = .ok (.if_icmp .le 16, 3) := by decide +kernel
theorem dX5_swing_71 : decode cX5_swing 71 = .ok (.iload 5, 2) := by decide +kernel
theorem dX5_swing_73 : decode cX5_swing 73 = .ok (.iload 6, 2) := by decide +kernel
theorem dX5_swing_75 : decode cX5_swing 75 = .ok (.iconst 1, 1) := by decide +kernel
theorem dX5_swing_76 : decode cX5_swing 76 = .ok (.iadd, 1) := by decide +kernel
theorem dX5_swing_77 : decode cX5_swing 77 = .ok (.if_icmp .gt 7, 3) := by decide +kernel
theorem dX5_swing_80 : decode cX5_swing 80 = .ok (.iconst 1, 1) := by decide +kernel
theorem dX5_swing_81 : decode cX5_swing 81 = .ok (.goto 4, 3) := by decide +kernel
theorem dX5_swing_84 : decode cX5_swing 84 = .ok (.iconst 0, 1) := by decide +kernel
theorem dX5_swing_85 : decode cX5_swing 85 = .ok (.invokestatic 153, 3) := by decide +kernel
theorem dX5_swing_88 : decode cX5_swing 88 = .ok (.iadd, 1) := by decide +kernel
theorem dX5_swing_89 : decode cX5_swing 89 = .ok (.istore_n 2, 1) := by decide +kernel
theorem dX5_swing_90 : decode cX5_swing 90 = .ok (.iinc 4 1, 3) := by decide +kernel
theorem dX5_swing_93 : decode cX5_swing 93 = .ok (.goto (-62), 3) := by decide +kernel
theorem dX5_swing_96 : decode cX5_swing 96 = .ok (.iload_n 2, 1) := by decide +kernel
theorem dX5_swing_97 : decode cX5_swing 97 = .ok (.ireturn, 1) := by decide +kernel
theorem dX5_soonestNow_0 : decode cX5_soonestNow 0 = .ok (.aload_n 0, 1) := by decide +kernel
theorem dX5_soonestNow_1 : decode cX5_soonestNow 1 = .ok (.invokevirtual 196, 3) := by decide +kernel
theorem dX5_soonestNow_4 : decode cX5_soonestNow 4 = .ok (.aload_n 0, 1) := by decide +kernel
theorem dX5_soonestNow_5 : decode cX5_soonestNow 5 = .ok (.invokevirtual 233, 3) := by decide +kernel
theorem dX5_soonestNow_8 : decode cX5_soonestNow 8 = .ok (.ireturn, 1) := by decide +kernel
theorem dX5_lose_0 : decode cX5_lose 0 = .ok (.iload_n 1, 1) := by decide +kernel
theorem dX5_lose_1 : decode cX5_lose 1 = .ok (.invokestatic 243, 3) := by decide +kernel
theorem dX5_lose_4 : decode cX5_lose 4 = .ok (.ifCond .ne 5, 3) := by decide +kernel
theorem dX5_lose_7 : decode cX5_lose 7 = .ok (.iconst (-1), 1) := by decide +kernel
theorem dX5_lose_8 : decode cX5_lose 8 = .ok (.ireturn, 1) := by decide +kernel
theorem dX5_lose_9 : decode cX5_lose 9 = .ok (.aload_n 0, 1) := by decide +kernel
theorem dX5_lose_10 : decode cX5_lose 10 = .ok (.aload_n 0, 1) := by decide +kernel
theorem dX5_lose_11 : decode cX5_lose 11 = .ok (.invokevirtual 256, 3) := by decide +kernel
theorem dX5_lose_14 : decode cX5_lose 14 = .ok (.invokevirtual 246, 3) := by decide +kernel
theorem dX5_lose_17 : decode cX5_lose 17 = .ok (.iconst 0, 1) := by decide +kernel
theorem dX5_lose_18 : decode cX5_lose 18 = .ok (.istore_n 2, 1) := by decide +kernel
theorem dX5_lose_19 : decode cX5_lose 19 = .ok (.iload_n 2, 1) := by decide +kernel
theorem dX5_lose_20 : decode cX5_lose 20 = .ok (.aload_n 0, 1) := by decide +kernel
theorem dX5_lose_21 : decode cX5_lose 21 = .ok (.getfield 7, 3) := by decide +kernel
theorem dX5_lose_24 : decode cX5_lose 24 = .ok (.bipush 24, 2) := by decide +kernel
theorem dX5_lose_26 : decode cX5_lose 26 = .ok (.iaload, 1) := by decide +kernel
theorem dX5_lose_27 : decode cX5_lose 27 = .ok (.if_icmp .ge 27, 3) := by decide +kernel
theorem dX5_lose_30 : decode cX5_lose 30 = .ok (.aload_n 0, 1) := by decide +kernel
theorem dX5_lose_31 : decode cX5_lose 31 = .ok (.invokevirtual 196, 3) := by decide +kernel
theorem dX5_lose_34 : decode cX5_lose 34 = .ok (.aload_n 0, 1) := by decide +kernel
theorem dX5_lose_35 : decode cX5_lose 35 = .ok (.iload_n 2, 1) := by decide +kernel
theorem dX5_lose_36 : decode cX5_lose 36 = .ok (.putfield 125, 3) := by decide +kernel
theorem dX5_lose_39 : decode cX5_lose 39 = .ok (.aload_n 0, 1) := by decide +kernel
theorem dX5_lose_40 : decode cX5_lose 40 = .ok (.iload_n 2, 1) := by decide +kernel
theorem dX5_lose_41 : decode cX5_lose 41 = .ok (.aload_n 0, 1) := by decide +kernel
theorem dX5_lose_42 : decode cX5_lose 42 = .ok (.invokevirtual 233, 3) := by decide +kernel
theorem dX5_lose_45 : decode cX5_lose 45 = .ok (.invokevirtual 249, 3) := by decide +kernel
theorem dX5_lose_48 : decode cX5_lose 48 = .ok (.iinc 2 1, 3) := by decide +kernel
theorem dX5_lose_51 : decode cX5_lose 51 = .ok (.goto (-32), 3) := by decide +kernel
theorem dX5_lose_54 : decode cX5_lose 54 = .ok (.aload_n 0, 1) := by decide +kernel
theorem dX5_lose_55 : decode cX5_lose 55 = .ok (.iload_n 1, 1) := by decide +kernel
theorem dX5_lose_56 : decode cX5_lose 56 = .ok (.invokevirtual 253, 3) := by decide +kernel
theorem dX5_lose_59 : decode cX5_lose 59 = .ok (.ireturn, 1) := by decide +kernel
theorem dX5_cross_0 : decode cX5_cross 0 = .ok (.iload_n 1, 1) := by decide +kernel
theorem dX5_cross_1 : decode cX5_cross 1 = .ok (.invokestatic 243, 3) := by decide +kernel
theorem dX5_cross_4 : decode cX5_cross 4 = .ok (.ifCond .ne 5, 3) := by decide +kernel
theorem dX5_cross_7 : decode cX5_cross 7 = .ok (.iconst (-1), 1) := by decide +kernel
theorem dX5_cross_8 : decode cX5_cross 8 = .ok (.ireturn, 1) := by decide +kernel
theorem dX5_cross_9 : decode cX5_cross 9 = .ok (.aload_n 0, 1) := by decide +kernel
theorem dX5_cross_10 : decode cX5_cross 10 = .ok (.aload_n 0, 1) := by decide +kernel
theorem dX5_cross_11 : decode cX5_cross 11 = .ok (.invokevirtual 256, 3) := by decide +kernel
theorem dX5_cross_14 : decode cX5_cross 14 = .ok (.invokevirtual 246, 3) := by decide +kernel
theorem dX5_cross_17 : decode cX5_cross 17 = .ok (.iconst 0, 1) := by decide +kernel
theorem dX5_cross_18 : decode cX5_cross 18 = .ok (.istore_n 2, 1) := by decide +kernel
theorem dX5_cross_19 : decode cX5_cross 19 = .ok (.iload_n 2, 1) := by decide +kernel
theorem dX5_cross_20 : decode cX5_cross 20 = .ok (.aload_n 0, 1) := by decide +kernel
theorem dX5_cross_21 : decode cX5_cross 21 = .ok (.getfield 7, 3) := by decide +kernel
theorem dX5_cross_24 : decode cX5_cross 24 = .ok (.bipush 24, 2) := by decide +kernel
theorem dX5_cross_26 : decode cX5_cross 26 = .ok (.iaload, 1) := by decide +kernel
theorem dX5_cross_27 : decode cX5_cross 27 = .ok (.if_icmp .ge 36, 3) := by decide +kernel
theorem dX5_cross_30 : decode cX5_cross 30 = .ok (.aload_n 0, 1) := by decide +kernel
theorem dX5_cross_31 : decode cX5_cross 31 = .ok (.invokevirtual 196, 3) := by decide +kernel
theorem dX5_cross_34 : decode cX5_cross 34 = .ok (.aload_n 0, 1) := by decide +kernel
theorem dX5_cross_35 : decode cX5_cross 35 = .ok (.iload_n 2, 1) := by decide +kernel
theorem dX5_cross_36 : decode cX5_cross 36 = .ok (.iconst 1, 1) := by decide +kernel
theorem dX5_cross_37 : decode cX5_cross 37 = .ok (.iconst 1, 1) := by decide +kernel
theorem dX5_cross_38 : decode cX5_cross 38 = .ok (.aload_n 0, 1) := by decide +kernel
theorem dX5_cross_39 : decode cX5_cross 39 = .ok (.iload_n 2, 1) := by decide +kernel
theorem dX5_cross_40 : decode cX5_cross 40 = .ok (.iconst 1, 1) := by decide +kernel
theorem dX5_cross_41 : decode cX5_cross 41 = .ok (.invokevirtual 131, 3) := by decide +kernel
theorem dX5_cross_44 : decode cX5_cross 44 = .ok (.isub, 1) := by decide +kernel
theorem dX5_cross_45 : decode cX5_cross 45 = .ok (.invokevirtual 178, 3) := by decide +kernel
theorem dX5_cross_48 : decode cX5_cross 48 = .ok (.aload_n 0, 1) := by decide +kernel
theorem dX5_cross_49 : decode cX5_cross 49 = .ok (.iload_n 2, 1) := by decide +kernel
theorem dX5_cross_50 : decode cX5_cross 50 = .ok (.aload_n 0, 1) := by decide +kernel
theorem dX5_cross_51 : decode cX5_cross 51 = .ok (.invokevirtual 233, 3) := by decide +kernel
theorem dX5_cross_54 : decode cX5_cross 54 = .ok (.invokevirtual 249, 3) := by decide +kernel
theorem dX5_cross_57 : decode cX5_cross 57 = .ok (.iinc 2 1, 3) := by decide +kernel
theorem dX5_cross_60 : decode cX5_cross 60 = .ok (.goto (-41), 3) := by decide +kernel
theorem dX5_cross_63 : decode cX5_cross 63 = .ok (.aload_n 0, 1) := by decide +kernel
theorem dX5_cross_64 : decode cX5_cross 64 = .ok (.iload_n 1, 1) := by decide +kernel
theorem dX5_cross_65 : decode cX5_cross 65 = .ok (.invokevirtual 253, 3) := by decide +kernel
theorem dX5_cross_68 : decode cX5_cross 68 = .ok (.ireturn, 1) := by decide +kernel
theorem dX5_give_0 : decode cX5_give 0 = .ok (.aload_n 0, 1) := by decide +kernel
theorem dX5_give_1 : decode cX5_give 1 = .ok (.iload_n 1, 1) := by decide +kernel
theorem dX5_give_2 : decode cX5_give 2 = .ok (.invokevirtual 205, 3) := by decide +kernel
theorem dX5_give_5 : decode cX5_give 5 = .ok (.ifCond .eq 10, 3) := by decide +kernel
theorem dX5_give_8 : decode cX5_give 8 = .ok (.iload_n 2, 1) := by decide +kernel
theorem dX5_give_9 : decode cX5_give 9 = .ok (.invokestatic 225, 3) := by decide +kernel
theorem dX5_give_12 : decode cX5_give 12 = .ok (.ifCond .ne 5, 3) := by decide +kernel
theorem dX5_give_15 : decode cX5_give 15 = .ok (.iconst (-1), 1) := by decide +kernel
theorem dX5_give_16 : decode cX5_give 16 = .ok (.ireturn, 1) := by decide +kernel
theorem dX5_give_17 : decode cX5_give 17 = .ok (.iconst 0, 1) := by decide +kernel
theorem dX5_give_18 : decode cX5_give 18 = .ok (.istore_n 3, 1) := by decide +kernel
theorem dX5_give_19 : decode cX5_give 19 = .ok (.iload_n 3, 1) := by decide +kernel
theorem dX5_give_20 : decode cX5_give 20 = .ok (.bipush 20, 2) := by decide +kernel
theorem dX5_give_22 : decode cX5_give 22 = .ok (.if_icmp .gt 34, 3) := by decide +kernel
theorem dX5_give_25 : decode cX5_give 25 = .ok (.aload_n 0, 1) := by decide +kernel
theorem dX5_give_26 : decode cX5_give 26 = .ok (.invokevirtual 196, 3) := by decide +kernel
theorem dX5_give_29 : decode cX5_give 29 = .ok (.aload_n 0, 1) := by decide +kernel
theorem dX5_give_30 : decode cX5_give 30 = .ok (.iload_n 1, 1) := by decide +kernel
theorem dX5_give_31 : decode cX5_give 31 = .ok (.iconst 3, 1) := by decide +kernel
theorem dX5_give_32 : decode cX5_give 32 = .ok (.iload_n 3, 1) := by decide +kernel
theorem dX5_give_33 : decode cX5_give 33 = .ok (.invokevirtual 178, 3) := by decide +kernel
theorem dX5_give_36 : decode cX5_give 36 = .ok (.aload_n 0, 1) := by decide +kernel
theorem dX5_give_37 : decode cX5_give 37 = .ok (.iload_n 2, 1) := by decide +kernel
theorem dX5_give_38 : decode cX5_give 38 = .ok (.invokevirtual 217, 3) := by decide +kernel
theorem dX5_give_41 : decode cX5_give 41 = .ok (.aload_n 0, 1) := by decide +kernel
theorem dX5_give_42 : decode cX5_give 42 = .ok (.invokevirtual 185, 3) := by decide +kernel
theorem dX5_give_45 : decode cX5_give 45 = .ok (.ifCond .eq 5, 3) := by decide +kernel
theorem dX5_give_48 : decode cX5_give 48 = .ok (.iload_n 3, 1) := by decide +kernel
theorem dX5_give_49 : decode cX5_give 49 = .ok (.ireturn, 1) := by decide +kernel
theorem dX5_give_50 : decode cX5_give 50 = .ok (.iinc 3 1, 3) := by decide +kernel
theorem dX5_give_53 : decode cX5_give 53 = .ok (.goto (-34), 3) := by decide +kernel
theorem dX5_give_56 : decode cX5_give 56 = .ok (.bipush (-4), 2) := by decide +kernel
theorem dX5_give_58 : decode cX5_give 58 = .ok (.ireturn, 1) := by decide +kernel
theorem dX5_soonestBy_0 : decode cX5_soonestBy 0 = .ok (.aload_n 0, 1) := by decide +kernel
theorem dX5_soonestBy_1 : decode cX5_soonestBy 1 = .ok (.bipush (-4), 2) := by decide +kernel
theorem dX5_soonestBy_3 : decode cX5_soonestBy 3 = .ok (.invokevirtual 246, 3) := by decide +kernel
theorem dX5_soonestBy_6 : decode cX5_soonestBy 6 = .ok (.iconst 0, 1) := by decide +kernel
theorem dX5_soonestBy_7 : decode cX5_soonestBy 7 = .ok (.istore 5, 2) := by decide +kernel
theorem dX5_soonestBy_9 : decode cX5_soonestBy 9 = .ok (.iload 5, 2) := by decide +kernel
theorem dX5_soonestBy_11 : decode cX5_soonestBy 11 = .ok (.iload_n 3, 1) := by decide +kernel
theorem dX5_soonestBy_12 : decode cX5_soonestBy 12 = .ok (.if_icmp .gt 31, 3) := by decide +kernel
theorem dX5_soonestBy_15 : decode cX5_soonestBy 15 = .ok (.aload_n 0, 1) := by decide +kernel
theorem dX5_soonestBy_16 : decode cX5_soonestBy 16 = .ok (.invokevirtual 196, 3) := by decide +kernel
theorem dX5_soonestBy_19 : decode cX5_soonestBy 19 = .ok (.aload_n 0, 1) := by decide +kernel
theorem dX5_soonestBy_20 : decode cX5_soonestBy 20 = .ok (.iload_n 1, 1) := by decide +kernel
theorem dX5_soonestBy_21 : decode cX5_soonestBy 21 = .ok (.iload_n 2, 1) := by decide +kernel
theorem dX5_soonestBy_22 : decode cX5_soonestBy 22 = .ok (.iload 5, 2) := by decide +kernel
theorem dX5_soonestBy_24 : decode cX5_soonestBy 24 = .ok (.invokevirtual 178, 3) := by decide +kernel
theorem dX5_soonestBy_27 : decode cX5_soonestBy 27 = .ok (.aload_n 0, 1) := by decide +kernel
theorem dX5_soonestBy_28 : decode cX5_soonestBy 28 = .ok (.iload 5, 2) := by decide +kernel
theorem dX5_soonestBy_30 : decode cX5_soonestBy 30 = .ok (.aload_n 0, 1) := by decide +kernel
theorem dX5_soonestBy_31 : decode cX5_soonestBy 31 = .ok (.invokevirtual 233, 3) := by decide +kernel
theorem dX5_soonestBy_34 : decode cX5_soonestBy 34 = .ok (.invokevirtual 249, 3) := by decide +kernel
theorem dX5_soonestBy_37 : decode cX5_soonestBy 37 = .ok (.iinc 5 1, 3) := by decide +kernel
theorem dX5_soonestBy_40 : decode cX5_soonestBy 40 = .ok (.goto (-31), 3) := by decide +kernel
theorem dX5_soonestBy_43 : decode cX5_soonestBy 43 = .ok (.aload_n 0, 1) := by decide +kernel
theorem dX5_soonestBy_44 : decode cX5_soonestBy 44 = .ok (.iload 4, 2) := by decide +kernel
theorem dX5_soonestBy_46 : decode cX5_soonestBy 46 = .ok (.invokevirtual 253, 3) := by decide +kernel
theorem dX5_soonestBy_49 : decode cX5_soonestBy 49 = .ok (.ireturn, 1) := by decide +kernel
theorem dX5_mind_0 : decode cX5_mind 0 = .ok (.aload_n 0, 1) := by decide +kernel
theorem dX5_mind_1 : decode cX5_mind 1 = .ok (.iload_n 1, 1) := by decide +kernel
theorem dX5_mind_2 : decode cX5_mind 2 = .ok (.invokevirtual 205, 3) := by decide +kernel
theorem dX5_mind_5 : decode cX5_mind 5 = .ok (.ifCond .eq 22, 3) := by decide +kernel
theorem dX5_mind_8 : decode cX5_mind 8 = .ok (.iload_n 2, 1) := by decide +kernel
theorem dX5_mind_9 : decode cX5_mind 9 = .ok (.invokestatic 243, 3) := by decide +kernel
theorem dX5_mind_12 : decode cX5_mind 12 = .ok (.ifCond .eq 15, 3) := by decide +kernel
theorem dX5_mind_15 : decode cX5_mind 15 = .ok (.aload_n 0, 1) := by decide +kernel
theorem dX5_mind_16 : decode cX5_mind 16 = .ok (.iload_n 1, 1) := by decide +kernel
theorem dX5_mind_17 : decode cX5_mind 17 = .ok (.iconst 2, 1) := by decide +kernel
theorem dX5_mind_18 : decode cX5_mind 18 = .ok (.bipush 20, 2) := by decide +kernel
theorem dX5_mind_20 : decode cX5_mind 20 = .ok (.iload_n 2, 1) := by decide +kernel
theorem dX5_mind_21 : decode cX5_mind 21 = .ok (.invokevirtual 259, 3) := by decide +kernel
theorem dX5_mind_24 : decode cX5_mind 24 = .ok (.goto 4, 3) := by decide +kernel
theorem dX5_mind_27 : decode cX5_mind 27 = .ok (.iconst (-1), 1) := by decide +kernel
theorem dX5_mind_28 : decode cX5_mind 28 = .ok (.ireturn, 1) := by decide +kernel
theorem dX5_kind_0 : decode cX5_kind 0 = .ok (.aload_n 0, 1) := by decide +kernel
theorem dX5_kind_1 : decode cX5_kind 1 = .ok (.iload_n 1, 1) := by decide +kernel
end
section
theorem dX5_kind_2 : decode cX5_kind 2 = .ok (.invokevirtual 205, 3) := by decide +kernel
theorem dX5_kind_5 : decode cX5_kind 5 = .ok (.ifCond .eq 21, 3) := by decide +kernel
theorem dX5_kind_8 : decode cX5_kind 8 = .ok (.iload_n 2, 1) := by decide +kernel
theorem dX5_kind_9 : decode cX5_kind 9 = .ok (.invokestatic 243, 3) := by decide +kernel
theorem dX5_kind_12 : decode cX5_kind 12 = .ok (.ifCond .eq 14, 3) := by decide +kernel
theorem dX5_kind_15 : decode cX5_kind 15 = .ok (.aload_n 0, 1) := by decide +kernel
theorem dX5_kind_16 : decode cX5_kind 16 = .ok (.iload_n 1, 1) := by decide +kernel
theorem dX5_kind_17 : decode cX5_kind 17 = .ok (.iconst 0, 1) := by decide +kernel
theorem dX5_kind_18 : decode cX5_kind 18 = .ok (.iconst 3, 1) := by decide +kernel
theorem dX5_kind_19 : decode cX5_kind 19 = .ok (.iload_n 2, 1) := by decide +kernel
theorem dX5_kind_20 : decode cX5_kind 20 = .ok (.invokevirtual 259, 3) := by decide +kernel
theorem dX5_kind_23 : decode cX5_kind 23 = .ok (.goto 4, 3) := by decide +kernel
theorem dX5_kind_26 : decode cX5_kind 26 = .ok (.iconst (-1), 1) := by decide +kernel
theorem dX5_kind_27 : decode cX5_kind 27 = .ok (.ireturn, 1) := by decide +kernel
theorem dX5_common_0 : decode cX5_common 0 = .ok (.lload_n 0, 1) := by decide +kernel
theorem dX5_common_1 : decode cX5_common 1 = .ok (.lstore 4, 2) := by decide +kernel
theorem dX5_common_3 : decode cX5_common 3 = .ok (.lload_n 2, 1) := by decide +kernel
theorem dX5_common_4 : decode cX5_common 4 = .ok (.lstore 6, 2) := by decide +kernel
theorem dX5_common_6 : decode cX5_common 6 = .ok (.lload 6, 2) := by decide +kernel
theorem dX5_common_8 : decode cX5_common 8 = .ok (.lconst 0, 1) := by decide +kernel
theorem dX5_common_9 : decode cX5_common 9 = .ok (.lcmp, 1) := by decide +kernel
theorem dX5_common_10 : decode cX5_common 10 = .ok (.ifCond .eq 21, 3) := by decide +kernel
theorem dX5_common_13 : decode cX5_common 13 = .ok (.lload 4, 2) := by decide +kernel
theorem dX5_common_15 : decode cX5_common 15 = .ok (.lload 6, 2) := by decide +kernel
theorem dX5_common_17 : decode cX5_common 17 = .ok (.lrem, 1) := by decide +kernel
theorem dX5_common_18 : decode cX5_common 18 = .ok (.lstore 8, 2) := by decide +kernel
theorem dX5_common_20 : decode cX5_common 20 = .ok (.lload 6, 2) := by decide +kernel
theorem dX5_common_22 : decode cX5_common 22 = .ok (.lstore 4, 2) := by decide +kernel
theorem dX5_common_24 : decode cX5_common 24 = .ok (.lload 8, 2) := by decide +kernel
theorem dX5_common_26 : decode cX5_common 26 = .ok (.lstore 6, 2) := by decide +kernel
theorem dX5_common_28 : decode cX5_common 28 = .ok (.goto (-22), 3) := by decide +kernel
theorem dX5_common_31 : decode cX5_common 31 = .ok (.lload 4, 2) := by decide +kernel
theorem dX5_common_33 : decode cX5_common 33 = .ok (.lreturn, 1) := by decide +kernel
theorem dX5_told_0 : decode cX5_told 0 = .ok (.lload_n 2, 1) := by decide +kernel
theorem dX5_told_1 : decode cX5_told 1 = .ok (.lload_n 0, 1) := by decide +kernel
theorem dX5_told_2 : decode cX5_told 2 = .ok (.invokestatic 263, 3) := by decide +kernel
theorem dX5_told_5 : decode cX5_told 5 = .ok (.lstore 5, 2) := by decide +kernel
theorem dX5_told_7 : decode cX5_told 7 = .ok (.iload 4, 2) := by decide +kernel
theorem dX5_told_9 : decode cX5_told 9 = .ok (.ifCond .ne 10, 3) := by decide +kernel
theorem dX5_told_12 : decode cX5_told 12 = .ok (.lload_n 0, 1) := by decide +kernel
theorem dX5_told_13 : decode cX5_told 13 = .ok (.lload 5, 2) := by decide +kernel
theorem dX5_told_15 : decode cX5_told 15 = .ok (.ldiv, 1) := by decide +kernel
theorem dX5_told_16 : decode cX5_told 16 = .ok (.goto 7, 3) := by decide +kernel
theorem dX5_told_19 : decode cX5_told 19 = .ok (.lload_n 2, 1) := by decide +kernel
theorem dX5_told_20 : decode cX5_told 20 = .ok (.lload 5, 2) := by decide +kernel
theorem dX5_told_22 : decode cX5_told 22 = .ok (.ldiv, 1) := by decide +kernel
theorem dX5_told_23 : decode cX5_told 23 = .ok (.lreturn, 1) := by decide +kernel
theorem dX5_findOdds_0 : decode cX5_findOdds 0 = .ok (.aload_n 0, 1) := by decide +kernel
theorem dX5_findOdds_1 : decode cX5_findOdds 1 = .ok (.lconst 0, 1) := by decide +kernel
theorem dX5_findOdds_2 : decode cX5_findOdds 2 = .ok (.putfield 267, 3) := by decide +kernel
theorem dX5_findOdds_5 : decode cX5_findOdds 5 = .ok (.aload_n 0, 1) := by decide +kernel
theorem dX5_findOdds_6 : decode cX5_findOdds 6 = .ok (.lconst 0, 1) := by decide +kernel
theorem dX5_findOdds_7 : decode cX5_findOdds 7 = .ok (.putfield 271, 3) := by decide +kernel
theorem dX5_findOdds_10 : decode cX5_findOdds 10 = .ok (.aload_n 0, 1) := by decide +kernel
theorem dX5_findOdds_11 : decode cX5_findOdds 11 = .ok (.lconst 1, 1) := by decide +kernel
theorem dX5_findOdds_12 : decode cX5_findOdds 12 = .ok (.putfield 274, 3) := by decide +kernel
theorem dX5_findOdds_15 : decode cX5_findOdds 15 = .ok (.iconst 0, 1) := by decide +kernel
theorem dX5_findOdds_16 : decode cX5_findOdds 16 = .ok (.istore_n 3, 1) := by decide +kernel
theorem dX5_findOdds_17 : decode cX5_findOdds 17 = .ok (.iload_n 3, 1) := by decide +kernel
theorem dX5_findOdds_18 : decode cX5_findOdds 18 = .ok (.iload_n 2, 1) := by decide +kernel
theorem dX5_findOdds_19 : decode cX5_findOdds 19 = .ok (.if_icmp .ge 21, 3) := by decide +kernel
theorem dX5_findOdds_22 : decode cX5_findOdds 22 = .ok (.aload_n 0, 1) := by decide +kernel
theorem dX5_findOdds_23 : decode cX5_findOdds 23 = .ok (.dup, 1) := by decide +kernel
theorem dX5_findOdds_24 : decode cX5_findOdds 24 = .ok (.getfield 274, 3) := by decide +kernel
theorem dX5_findOdds_27 : decode cX5_findOdds 27 = .ok (.ldc2_w 277, 3) := by decide +kernel
theorem dX5_findOdds_30 : decode cX5_findOdds 30 = .ok (.lmul, 1) := by decide +kernel
theorem dX5_findOdds_31 : decode cX5_findOdds 31 = .ok (.putfield 274, 3) := by decide +kernel
theorem dX5_findOdds_34 : decode cX5_findOdds 34 = .ok (.iinc 3 1, 3) := by decide +kernel
theorem dX5_findOdds_37 : decode cX5_findOdds 37 = .ok (.goto (-20), 3) := by decide +kernel
theorem dX5_findOdds_40 : decode cX5_findOdds 40 = .ok (.iconst 0, 1) := by decide +kernel
theorem dX5_findOdds_41 : decode cX5_findOdds 41 = .ok (.istore_n 3, 1) := by decide +kernel
theorem dX5_findOdds_42 : decode cX5_findOdds 42 = .ok (.iload_n 3, 1) := by decide +kernel
theorem dX5_findOdds_43 : decode cX5_findOdds 43 = .ok (.iconst 1, 1) := by decide +kernel
theorem dX5_findOdds_44 : decode cX5_findOdds 44 = .ok (.iload_n 2, 1) := by decide +kernel
theorem dX5_findOdds_45 : decode cX5_findOdds 45 = .ok (.ishl, 1) := by decide +kernel
theorem dX5_findOdds_46 : decode cX5_findOdds 46 = .ok (.if_icmp .ge 116, 3) := by decide +kernel
theorem dX5_findOdds_49 : decode cX5_findOdds 49 = .ok (.lconst 1, 1) := by decide +kernel
theorem dX5_findOdds_50 : decode cX5_findOdds 50 = .ok (.lstore 4, 2) := by decide +kernel
theorem dX5_findOdds_52 : decode cX5_findOdds 52 = .ok (.aload_n 0, 1) := by decide +kernel
theorem dX5_findOdds_53 : decode cX5_findOdds 53 = .ok (.invokevirtual 196, 3) := by decide +kernel
theorem dX5_findOdds_56 : decode cX5_findOdds 56 = .ok (.iconst 0, 1) := by decide +kernel
theorem dX5_findOdds_57 : decode cX5_findOdds 57 = .ok (.istore 6, 2) := by decide +kernel
theorem dX5_findOdds_59 : decode cX5_findOdds 59 = .ok (.iload 6, 2) := by decide +kernel
theorem dX5_findOdds_61 : decode cX5_findOdds 61 = .ok (.iload_n 2, 1) := by decide +kernel
theorem dX5_findOdds_62 : decode cX5_findOdds 62 = .ok (.if_icmp .ge 52, 3) := by decide +kernel
theorem dX5_findOdds_65 : decode cX5_findOdds 65 = .ok (.iload_n 3, 1) := by decide +kernel
theorem dX5_findOdds_66 : decode cX5_findOdds 66 = .ok (.iload 6, 2) := by decide +kernel
theorem dX5_findOdds_68 : decode cX5_findOdds 68 = .ok (.ishr, 1) := by decide +kernel
theorem dX5_findOdds_69 : decode cX5_findOdds 69 = .ok (.iconst 1, 1) := by decide +kernel
theorem dX5_findOdds_70 : decode cX5_findOdds 70 = .ok (.iand, 1) := by decide +kernel
theorem dX5_findOdds_71 : decode cX5_findOdds 71 = .ok (.iconst 1, 1) := by decide +kernel
theorem dX5_findOdds_72 : decode cX5_findOdds 72 = .ok (.if_icmp .ne 7, 3) := by decide +kernel
theorem dX5_findOdds_75 : decode cX5_findOdds 75 = .ok (.iconst 1, 1) := by decide +kernel
theorem dX5_findOdds_76 : decode cX5_findOdds 76 = .ok (.goto 4, 3) := by decide +kernel
theorem dX5_findOdds_79 : decode cX5_findOdds 79 = .ok (.iconst 0, 1) := by decide +kernel
theorem dX5_findOdds_80 : decode cX5_findOdds 80 = .ok (.istore 7, 2) := by decide +kernel
theorem dX5_findOdds_82 : decode cX5_findOdds 82 = .ok (.lload 4, 2) := by decide +kernel
theorem dX5_findOdds_84 : decode cX5_findOdds 84 = .ok (.iload 7, 2) := by decide +kernel
theorem dX5_findOdds_86 : decode cX5_findOdds 86 = .ok (.ifCond .eq 8, 3) := by decide +kernel
theorem dX5_findOdds_89 : decode cX5_findOdds 89 = .ok (.iload_n 1, 1) := by decide +kernel
theorem dX5_findOdds_90 : decode cX5_findOdds 90 = .ok (.i2l, 1) := by decide +kernel
theorem dX5_findOdds_91 : decode cX5_findOdds 91 = .ok (.goto 8, 3) := by decide +kernel
theorem dX5_findOdds_94 : decode cX5_findOdds 94 = .ok (.bipush 10, 2) := by decide +kernel
theorem dX5_findOdds_96 : decode cX5_findOdds 96 = .ok (.iload_n 1, 1) := by decide +kernel
theorem dX5_findOdds_97 : decode cX5_findOdds 97 = .ok (.isub, 1) := by decide +kernel
theorem dX5_findOdds_98 : decode cX5_findOdds 98 = .ok (.i2l, 1) := by decide +kernel
theorem dX5_findOdds_99 : decode cX5_findOdds 99 = .ok (.lmul, 1) := by decide +kernel
theorem dX5_findOdds_100 : decode cX5_findOdds 100 = .ok (.lstore 4, 2) := by decide +kernel
theorem dX5_findOdds_102 : decode cX5_findOdds 102 = .ok (.aload_n 0, 1) := by decide +kernel
theorem dX5_findOdds_103 : decode cX5_findOdds 103 = .ok (.iload 7, 2) := by decide +kernel
theorem dX5_findOdds_105 : decode cX5_findOdds 105 = .ok (.invokevirtual 192, 3) := by decide +kernel
theorem dX5_findOdds_108 : decode cX5_findOdds 108 = .ok (.iinc 6 1, 3) := by decide +kernel
theorem dX5_findOdds_111 : decode cX5_findOdds 111 = .ok (.goto (-52), 3) := by decide +kernel
theorem dX5_findOdds_114 : decode cX5_findOdds 114 = .ok (.aload_n 0, 1) := by decide +kernel
theorem dX5_findOdds_115 : decode cX5_findOdds 115 = .ok (.dup, 1) := by decide +kernel
theorem dX5_findOdds_116 : decode cX5_findOdds 116 = .ok (.getfield 267, 3) := by decide +kernel
theorem dX5_findOdds_119 : decode cX5_findOdds 119 = .ok (.aload_n 0, 1) := by decide +kernel
theorem dX5_findOdds_120 : decode cX5_findOdds 120 = .ok (.invokevirtual 185, 3) := by decide +kernel
theorem dX5_findOdds_123 : decode cX5_findOdds 123 = .ok (.ifCond .eq 8, 3) := by decide +kernel
theorem dX5_findOdds_126 : decode cX5_findOdds 126 = .ok (.lload 4, 2) := by decide +kernel
theorem dX5_findOdds_128 : decode cX5_findOdds 128 = .ok (.goto 4, 3) := by decide +kernel
theorem dX5_findOdds_131 : decode cX5_findOdds 131 = .ok (.lconst 0, 1) := by decide +kernel
theorem dX5_findOdds_132 : decode cX5_findOdds 132 = .ok (.ladd, 1) := by decide +kernel
theorem dX5_findOdds_133 : decode cX5_findOdds 133 = .ok (.putfield 267, 3) := by decide +kernel
theorem dX5_findOdds_136 : decode cX5_findOdds 136 = .ok (.aload_n 0, 1) := by decide +kernel
theorem dX5_findOdds_137 : decode cX5_findOdds 137 = .ok (.dup, 1) := by decide +kernel
theorem dX5_findOdds_138 : decode cX5_findOdds 138 = .ok (.getfield 271, 3) := by decide +kernel
theorem dX5_findOdds_141 : decode cX5_findOdds 141 = .ok (.lload 4, 2) := by decide +kernel
theorem dX5_findOdds_143 : decode cX5_findOdds 143 = .ok (.aload_n 0, 1) := by decide +kernel
theorem dX5_findOdds_144 : decode cX5_findOdds 144 = .ok (.getfield 13, 3) := by decide +kernel
theorem dX5_findOdds_147 : decode cX5_findOdds 147 = .ok (.bipush 25, 2) := by decide +kernel
theorem dX5_findOdds_149 : decode cX5_findOdds 149 = .ok (.iaload, 1) := by decide +kernel
theorem dX5_findOdds_150 : decode cX5_findOdds 150 = .ok (.i2l, 1) := by decide +kernel
theorem dX5_findOdds_151 : decode cX5_findOdds 151 = .ok (.lmul, 1) := by decide +kernel
theorem dX5_findOdds_152 : decode cX5_findOdds 152 = .ok (.ladd, 1) := by decide +kernel
theorem dX5_findOdds_153 : decode cX5_findOdds 153 = .ok (.putfield 271, 3) := by decide +kernel
theorem dX5_findOdds_156 : decode cX5_findOdds 156 = .ok (.iinc 3 1, 3) := by decide +kernel
theorem dX5_findOdds_159 : decode cX5_findOdds 159 = .ok (.goto (-117), 3) := by decide +kernel
theorem dX5_findOdds_162 : decode cX5_findOdds 162 = .ok (.return_, 1) := by decide +kernel
theorem dX5_isOdds_0 : decode cX5_isOdds 0 = .ok (.iload_n 0, 1) := by decide +kernel
theorem dX5_isOdds_1 : decode cX5_isOdds 1 = .ok (.i2l, 1) := by decide +kernel
theorem dX5_isOdds_2 : decode cX5_isOdds 2 = .ok (.lconst 0, 1) := by decide +kernel
theorem dX5_isOdds_3 : decode cX5_isOdds 3 = .ok (.ldc2_w 277, 3) := by decide +kernel
theorem dX5_isOdds_6 : decode cX5_isOdds 6 = .ok (.invokestatic 56, 3) := by decide +kernel
theorem dX5_isOdds_9 : decode cX5_isOdds 9 = .ok (.ifCond .eq 26, 3) := by decide +kernel
theorem dX5_isOdds_12 : decode cX5_isOdds 12 = .ok (.iload_n 1, 1) := by decide +kernel
theorem dX5_isOdds_13 : decode cX5_isOdds 13 = .ok (.i2l, 1) := by decide +kernel
theorem dX5_isOdds_14 : decode cX5_isOdds 14 = .ok (.lconst 0, 1) := by decide +kernel
theorem dX5_isOdds_15 : decode cX5_isOdds 15 = .ok (.ldc2_w 279, 3) := by decide +kernel
theorem dX5_isOdds_18 : decode cX5_isOdds 18 = .ok (.invokestatic 56, 3) := by decide +kernel
theorem dX5_isOdds_21 : decode cX5_isOdds 21 = .ok (.ifCond .eq 14, 3) := by decide +kernel
theorem dX5_isOdds_24 : decode cX5_isOdds 24 = .ok (.iload_n 2, 1) := by decide +kernel
theorem dX5_isOdds_25 : decode cX5_isOdds 25 = .ok (.invokestatic 243, 3) := by decide +kernel
theorem dX5_isOdds_28 : decode cX5_isOdds 28 = .ok (.ifCond .eq 7, 3) := by decide +kernel
theorem dX5_isOdds_31 : decode cX5_isOdds 31 = .ok (.iconst 1, 1) := by decide +kernel
theorem dX5_isOdds_32 : decode cX5_isOdds 32 = .ok (.goto 4, 3) := by decide +kernel
theorem dX5_isOdds_35 : decode cX5_isOdds 35 = .ok (.iconst 0, 1) := by decide +kernel
theorem dX5_isOdds_36 : decode cX5_isOdds 36 = .ok (.ireturn, 1) := by decide +kernel
theorem dX5_luck_0 : decode cX5_luck 0 = .ok (.iload_n 1, 1) := by decide +kernel
theorem dX5_luck_1 : decode cX5_luck 1 = .ok (.iload_n 2, 1) := by decide +kernel
theorem dX5_luck_2 : decode cX5_luck 2 = .ok (.iload_n 3, 1) := by decide +kernel
theorem dX5_luck_3 : decode cX5_luck 3 = .ok (.invokestatic 281, 3) := by decide +kernel
theorem dX5_luck_6 : decode cX5_luck 6 = .ok (.ifCond .ne 7, 3) := by decide +kernel
theorem dX5_luck_9 : decode cX5_luck 9 = .ok (.ldc2_w 284, 3) := by decide +kernel
theorem dX5_luck_12 : decode cX5_luck 12 = .ok (.lreturn, 1) := by decide +kernel
theorem dX5_luck_13 : decode cX5_luck 13 = .ok (.aload_n 0, 1) := by decide +kernel
theorem dX5_luck_14 : decode cX5_luck 14 = .ok (.iload_n 1, 1) := by decide +kernel
theorem dX5_luck_15 : decode cX5_luck 15 = .ok (.iload_n 2, 1) := by decide +kernel
theorem dX5_luck_16 : decode cX5_luck 16 = .ok (.invokevirtual 286, 3) := by decide +kernel
theorem dX5_luck_19 : decode cX5_luck 19 = .ok (.aload_n 0, 1) := by decide +kernel
theorem dX5_luck_20 : decode cX5_luck 20 = .ok (.getfield 267, 3) := by decide +kernel
theorem dX5_luck_23 : decode cX5_luck 23 = .ok (.aload_n 0, 1) := by decide +kernel
theorem dX5_luck_24 : decode cX5_luck 24 = .ok (.getfield 274, 3) := by decide +kernel
theorem dX5_luck_27 : decode cX5_luck 27 = .ok (.iload_n 3, 1) := by decide +kernel
theorem dX5_luck_28 : decode cX5_luck 28 = .ok (.invokestatic 289, 3) := by decide +kernel
theorem dX5_luck_31 : decode cX5_luck 31 = .ok (.lreturn, 1) := by decide +kernel
theorem dX5_mean_0 : decode cX5_mean 0 = .ok (.iload_n 1, 1) := by decide +kernel
theorem dX5_mean_1 : decode cX5_mean 1 = .ok (.iload_n 2, 1) := by decide +kernel
theorem dX5_mean_2 : decode cX5_mean 2 = .ok (.iload_n 3, 1) := by decide +kernel
theorem dX5_mean_3 : decode cX5_mean 3 = .ok (.invokestatic 281, 3) := by decide +kernel
theorem dX5_mean_6 : decode cX5_mean 6 = .ok (.ifCond .ne 7, 3) := by decide +kernel
theorem dX5_mean_9 : decode cX5_mean 9 = .ok (.ldc2_w 284, 3) := by decide +kernel
theorem dX5_mean_12 : decode cX5_mean 12 = .ok (.lreturn, 1) := by decide +kernel
theorem dX5_mean_13 : decode cX5_mean 13 = .ok (.aload_n 0, 1) := by decide +kernel
theorem dX5_mean_14 : decode cX5_mean 14 = .ok (.iload_n 1, 1) := by decide +kernel
theorem dX5_mean_15 : decode cX5_mean 15 = .ok (.iload_n 2, 1) := by decide +kernel
theorem dX5_mean_16 : decode cX5_mean 16 = .ok (.invokevirtual 286, 3) := by decide +kernel
theorem dX5_mean_19 : decode cX5_mean 19 = .ok (.aload_n 0, 1) := by decide +kernel
theorem dX5_mean_20 : decode cX5_mean 20 = .ok (.getfield 271, 3) := by decide +kernel
theorem dX5_mean_23 : decode cX5_mean 23 = .ok (.aload_n 0, 1) := by decide +kernel
theorem dX5_mean_24 : decode cX5_mean 24 = .ok (.getfield 274, 3) := by decide +kernel
theorem dX5_mean_27 : decode cX5_mean 27 = .ok (.iload_n 3, 1) := by decide +kernel
theorem dX5_mean_28 : decode cX5_mean 28 = .ok (.invokestatic 289, 3) := by decide +kernel
theorem dX5_mean_31 : decode cX5_mean 31 = .ok (.lreturn, 1) := by decide +kernel
theorem dX5_see_0 : decode cX5_see 0 = .ok (.iload_n 1, 1) := by decide +kernel
theorem dX5_see_1 : decode cX5_see 1 = .ok (.i2l, 1) := by decide +kernel
theorem dX5_see_2 : decode cX5_see 2 = .ok (.lconst 0, 1) := by decide +kernel
theorem dX5_see_3 : decode cX5_see 3 = .ok (.ldc2_w 123, 3) := by decide +kernel
theorem dX5_see_6 : decode cX5_see 6 = .ok (.invokestatic 56, 3) := by decide +kernel
theorem dX5_see_9 : decode cX5_see 9 = .ok (.ifCond .eq 10, 3) := by decide +kernel
theorem dX5_see_12 : decode cX5_see 12 = .ok (.iload_n 2, 1) := by decide +kernel
theorem dX5_see_13 : decode cX5_see 13 = .ok (.invokestatic 182, 3) := by decide +kernel
theorem dX5_see_16 : decode cX5_see 16 = .ok (.ifCond .ne 5, 3) := by decide +kernel
theorem dX5_see_19 : decode cX5_see 19 = .ok (.iconst (-1), 1) := by decide +kernel
theorem dX5_see_20 : decode cX5_see 20 = .ok (.ireturn, 1) := by decide +kernel
theorem dX5_see_21 : decode cX5_see 21 = .ok (.aload_n 0, 1) := by decide +kernel
theorem dX5_see_22 : decode cX5_see 22 = .ok (.getfield 7, 3) := by decide +kernel
theorem dX5_see_25 : decode cX5_see 25 = .ok (.bipush 28, 2) := by decide +kernel
theorem dX5_see_27 : decode cX5_see 27 = .ok (.iaload, 1) := by decide +kernel
theorem dX5_see_28 : decode cX5_see 28 = .ok (.bipush 6, 2) := by decide +kernel
theorem dX5_see_30 : decode cX5_see 30 = .ok (.if_icmp .ne 6, 3) := by decide +kernel
theorem dX5_see_33 : decode cX5_see 33 = .ok (.bipush (-3), 2) := by decide +kernel
theorem dX5_see_35 : decode cX5_see 35 = .ok (.ireturn, 1) := by decide +kernel
theorem dX5_see_36 : decode cX5_see 36 = .ok (.bipush 29, 2) := by decide +kernel
theorem dX5_see_38 : decode cX5_see 38 = .ok (.iconst 2, 1) := by decide +kernel
theorem dX5_see_39 : decode cX5_see 39 = .ok (.aload_n 0, 1) := by decide +kernel
theorem dX5_see_40 : decode cX5_see 40 = .ok (.getfield 7, 3) := by decide +kernel
theorem dX5_see_43 : decode cX5_see 43 = .ok (.bipush 28, 2) := by decide +kernel
theorem dX5_see_45 : decode cX5_see 45 = .ok (.iaload, 1) := by decide +kernel
theorem dX5_see_46 : decode cX5_see 46 = .ok (.imul, 1) := by decide +kernel
theorem dX5_see_47 : decode cX5_see 47 = .ok (.iadd, 1) := by decide +kernel
theorem dX5_see_48 : decode cX5_see 48 = .ok (.istore_n 3, 1) := by decide +kernel
theorem dX5_see_49 : decode cX5_see 49 = .ok (.aload_n 0, 1) := by decide +kernel
theorem dX5_see_50 : decode cX5_see 50 = .ok (.getfield 7, 3) := by decide +kernel
theorem dX5_see_53 : decode cX5_see 53 = .ok (.iload_n 3, 1) := by decide +kernel
theorem dX5_see_54 : decode cX5_see 54 = .ok (.iload_n 1, 1) := by decide +kernel
theorem dX5_see_55 : decode cX5_see 55 = .ok (.iastore, 1) := by decide +kernel
theorem dX5_see_56 : decode cX5_see 56 = .ok (.aload_n 0, 1) := by decide +kernel
theorem dX5_see_57 : decode cX5_see 57 = .ok (.getfield 7, 3) := by decide +kernel
theorem dX5_see_60 : decode cX5_see 60 = .ok (.iload_n 3, 1) := by decide +kernel
theorem dX5_see_61 : decode cX5_see 61 = .ok (.iconst 1, 1) := by decide +kernel
theorem dX5_see_62 : decode cX5_see 62 = .ok (.iadd, 1) := by decide +kernel
theorem dX5_see_63 : decode cX5_see 63 = .ok (.iload_n 2, 1) := by decide +kernel
theorem dX5_see_64 : decode cX5_see 64 = .ok (.iastore, 1) := by decide +kernel
theorem dX5_see_65 : decode cX5_see 65 = .ok (.aload_n 0, 1) := by decide +kernel
theorem dX5_see_66 : decode cX5_see 66 = .ok (.getfield 7, 3) := by decide +kernel
theorem dX5_see_69 : decode cX5_see 69 = .ok (.bipush 28, 2) := by decide +kernel
theorem dX5_see_71 : decode cX5_see 71 = .ok (.dup2, 1) := by decide +kernel
theorem dX5_see_72 : decode cX5_see 72 = .ok (.iaload, 1) := by decide +kernel
theorem dX5_see_73 : decode cX5_see 73 = .ok (.iconst 1, 1) := by decide +kernel
theorem dX5_see_74 : decode cX5_see 74 = .ok (.iadd, 1) := by decide +kernel
theorem dX5_see_75 : decode cX5_see 75 = .ok (.iastore, 1) := by decide +kernel
theorem dX5_see_76 : decode cX5_see 76 = .ok (.aload_n 0, 1) := by decide +kernel
theorem dX5_see_77 : decode cX5_see 77 = .ok (.getfield 7, 3) := by decide +kernel
theorem dX5_see_80 : decode cX5_see 80 = .ok (.bipush 28, 2) := by decide +kernel
theorem dX5_see_82 : decode cX5_see 82 = .ok (.iaload, 1) := by decide +kernel
theorem dX5_see_83 : decode cX5_see 83 = .ok (.ireturn, 1) := by decide +kernel
theorem dX5_forget_0 : decode cX5_forget 0 = .ok (.iload_n 1, 1) := by decide +kernel
theorem dX5_forget_1 : decode cX5_forget 1 = .ok (.i2l, 1) := by decide +kernel
theorem dX5_forget_2 : decode cX5_forget 2 = .ok (.lconst 0, 1) := by decide +kernel
theorem dX5_forget_3 : decode cX5_forget 3 = .ok (.aload_n 0, 1) := by decide +kernel
theorem dX5_forget_4 : decode cX5_forget 4 = .ok (.getfield 7, 3) := by decide +kernel
theorem dX5_forget_7 : decode cX5_forget 7 = .ok (.bipush 28, 2) := by decide +kernel
theorem dX5_forget_9 : decode cX5_forget 9 = .ok (.iaload, 1) := by decide +kernel
theorem dX5_forget_10 : decode cX5_forget 10 = .ok (.i2l, 1) := by decide +kernel
theorem dX5_forget_11 : decode cX5_forget 11 = .ok (.invokestatic 56, 3) := by decide +kernel
theorem dX5_forget_14 : decode cX5_forget 14 = .ok (.ifCond .eq 13, 3) := by decide +kernel
theorem dX5_forget_17 : decode cX5_forget 17 = .ok (.aload_n 0, 1) := by decide +kernel
theorem dX5_forget_18 : decode cX5_forget 18 = .ok (.bipush 28, 2) := by decide +kernel
theorem dX5_forget_20 : decode cX5_forget 20 = .ok (.iload_n 1, 1) := by decide +kernel
theorem dX5_forget_21 : decode cX5_forget 21 = .ok (.invokevirtual 212, 3) := by decide +kernel
theorem dX5_forget_24 : decode cX5_forget 24 = .ok (.goto 4, 3) := by decide +kernel
theorem dX5_forget_27 : decode cX5_forget 27 = .ok (.iconst (-1), 1) := by decide +kernel
theorem dX5_forget_28 : decode cX5_forget 28 = .ok (.ireturn, 1) := by decide +kernel
theorem dX5_isSoWith_0 : decode cX5_isSoWith 0 = .ok (.aload_n 0, 1) := by decide +kernel
theorem dX5_isSoWith_1 : decode cX5_isSoWith 1 = .ok (.invokevirtual 196, 3) := by decide +kernel
theorem dX5_isSoWith_4 : decode cX5_isSoWith 4 = .ok (.aload_n 0, 1) := by decide +kernel
theorem dX5_isSoWith_5 : decode cX5_isSoWith 5 = .ok (.getfield 13, 3) := by decide +kernel
theorem dX5_isSoWith_8 : decode cX5_isSoWith 8 = .ok (.iload_n 1, 1) := by decide +kernel
theorem dX5_isSoWith_9 : decode cX5_isSoWith 9 = .ok (.iload_n 2, 1) := by decide +kernel
theorem dX5_isSoWith_10 : decode cX5_isSoWith 10 = .ok (.iastore, 1) := by decide +kernel
theorem dX5_isSoWith_11 : decode cX5_isSoWith 11 = .ok (.iconst 0, 1) := by decide +kernel
theorem dX5_isSoWith_12 : decode cX5_isSoWith 12 = .ok (.istore_n 3, 1) := by decide +kernel
theorem dX5_isSoWith_13 : decode cX5_isSoWith 13 = .ok (.iload_n 3, 1) := by decide +kernel
theorem dX5_isSoWith_14 : decode cX5_isSoWith 14 = .ok (.bipush 20, 2) := by decide +kernel
theorem dX5_isSoWith_16 : decode cX5_isSoWith 16 = .ok (.if_icmp .gt 27, 3) := by decide +kernel
theorem dX5_isSoWith_19 : decode cX5_isSoWith 19 = .ok (.aload_n 0, 1) := by decide +kernel
theorem dX5_isSoWith_20 : decode cX5_isSoWith 20 = .ok (.getfield 26, 3) := by decide +kernel
theorem dX5_isSoWith_23 : decode cX5_isSoWith 23 = .ok (.iload_n 3, 1) := by decide +kernel
theorem dX5_isSoWith_24 : decode cX5_isSoWith 24 = .ok (.aload_n 0, 1) := by decide +kernel
theorem dX5_isSoWith_25 : decode cX5_isSoWith 25 = .ok (.getfield 13, 3) := by decide +kernel
theorem dX5_isSoWith_28 : decode cX5_isSoWith 28 = .ok (.bipush 25, 2) := by decide +kernel
theorem dX5_isSoWith_30 : decode cX5_isSoWith 30 = .ok (.iaload, 1) := by decide +kernel
theorem dX5_isSoWith_31 : decode cX5_isSoWith 31 = .ok (.iastore, 1) := by decide +kernel
theorem dX5_isSoWith_32 : decode cX5_isSoWith 32 = .ok (.aload_n 0, 1) := by decide +kernel
theorem dX5_isSoWith_33 : decode cX5_isSoWith 33 = .ok (.iconst 0, 1) := by decide +kernel
theorem dX5_isSoWith_34 : decode cX5_isSoWith 34 = .ok (.invokevirtual 192, 3) := by decide +kernel
theorem dX5_isSoWith_37 : decode cX5_isSoWith 37 = .ok (.iinc 3 1, 3) := by decide +kernel
theorem dX5_isSoWith_40 : decode cX5_isSoWith 40 = .ok (.goto (-27), 3) := by decide +kernel
theorem dX5_isSoWith_43 : decode cX5_isSoWith 43 = .ok (.iconst 1, 1) := by decide +kernel
theorem dX5_isSoWith_44 : decode cX5_isSoWith 44 = .ok (.istore_n 3, 1) := by decide +kernel
theorem dX5_isSoWith_45 : decode cX5_isSoWith 45 = .ok (.iconst 0, 1) := by decide +kernel
theorem dX5_isSoWith_46 : decode cX5_isSoWith 46 = .ok (.istore 4, 2) := by decide +kernel
theorem dX5_isSoWith_48 : decode cX5_isSoWith 48 = .ok (.iload 4, 2) := by decide +kernel
theorem dX5_isSoWith_50 : decode cX5_isSoWith 50 = .ok (.aload_n 0, 1) := by decide +kernel
theorem dX5_isSoWith_51 : decode cX5_isSoWith 51 = .ok (.getfield 7, 3) := by decide +kernel
theorem dX5_isSoWith_54 : decode cX5_isSoWith 54 = .ok (.bipush 28, 2) := by decide +kernel
theorem dX5_isSoWith_56 : decode cX5_isSoWith 56 = .ok (.iaload, 1) := by decide +kernel
theorem dX5_isSoWith_57 : decode cX5_isSoWith 57 = .ok (.if_icmp .ge 53, 3) := by decide +kernel
theorem dX5_isSoWith_60 : decode cX5_isSoWith 60 = .ok (.iload_n 3, 1) := by decide +kernel
theorem dX5_isSoWith_61 : decode cX5_isSoWith 61 = .ok (.ifCond .eq 41, 3) := by decide +kernel
theorem dX5_isSoWith_64 : decode cX5_isSoWith 64 = .ok (.aload_n 0, 1) := by decide +kernel
theorem dX5_isSoWith_65 : decode cX5_isSoWith 65 = .ok (.getfield 26, 3) := by decide +kernel
theorem dX5_isSoWith_68 : decode cX5_isSoWith 68 = .ok (.aload_n 0, 1) := by decide +kernel
theorem dX5_isSoWith_69 : decode cX5_isSoWith 69 = .ok (.getfield 7, 3) := by decide +kernel
theorem dX5_isSoWith_72 : decode cX5_isSoWith 72 = .ok (.bipush 29, 2) := by decide +kernel
theorem dX5_isSoWith_74 : decode cX5_isSoWith 74 = .ok (.iconst 2, 1) := by decide +kernel
theorem dX5_isSoWith_75 : decode cX5_isSoWith 75 = .ok (.iload 4, 2) := by decide +kernel
theorem dX5_isSoWith_77 : decode cX5_isSoWith 77 = .ok (.imul, 1) := by decide +kernel
theorem dX5_isSoWith_78 : decode cX5_isSoWith 78 = .ok (.iadd, 1) := by decide +kernel
theorem dX5_isSoWith_79 : decode cX5_isSoWith 79 = .ok (.iaload, 1) := by decide +kernel
theorem dX5_isSoWith_80 : decode cX5_isSoWith 80 = .ok (.iaload, 1) := by decide +kernel
theorem dX5_isSoWith_81 : decode cX5_isSoWith 81 = .ok (.aload_n 0, 1) := by decide +kernel
theorem dX5_isSoWith_82 : decode cX5_isSoWith 82 = .ok (.getfield 7, 3) := by decide +kernel
theorem dX5_isSoWith_85 : decode cX5_isSoWith 85 = .ok (.bipush 29, 2) := by decide +kernel
theorem dX5_isSoWith_87 : decode cX5_isSoWith 87 = .ok (.iconst 2, 1) := by decide +kernel
theorem dX5_isSoWith_88 : decode cX5_isSoWith 88 = .ok (.iload 4, 2) := by decide +kernel
theorem dX5_isSoWith_90 : decode cX5_isSoWith 90 = .ok (.imul, 1) := by decide +kernel
theorem dX5_isSoWith_91 : decode cX5_isSoWith 91 = .ok (.iadd, 1) := by decide +kernel
theorem dX5_isSoWith_92 : decode cX5_isSoWith 92 = .ok (.iconst 1, 1) := by decide +kernel
theorem dX5_isSoWith_93 : decode cX5_isSoWith 93 = .ok (.iadd, 1) := by decide +kernel
theorem dX5_isSoWith_94 : decode cX5_isSoWith 94 = .ok (.iaload, 1) := by decide +kernel
theorem dX5_isSoWith_95 : decode cX5_isSoWith 95 = .ok (.if_icmp .ne 7, 3) := by decide +kernel
theorem dX5_isSoWith_98 : decode cX5_isSoWith 98 = .ok (.iconst 1, 1) := by decide +kernel
theorem dX5_isSoWith_99 : decode cX5_isSoWith 99 = .ok (.goto 4, 3) := by decide +kernel
theorem dX5_isSoWith_102 : decode cX5_isSoWith 102 = .ok (.iconst 0, 1) := by decide +kernel
theorem dX5_isSoWith_103 : decode cX5_isSoWith 103 = .ok (.istore_n 3, 1) := by decide +kernel
theorem dX5_isSoWith_104 : decode cX5_isSoWith 104 = .ok (.iinc 4 1, 3) := by decide +kernel
theorem dX5_isSoWith_107 : decode cX5_isSoWith 107 = .ok (.goto (-59), 3) := by decide +kernel
theorem dX5_isSoWith_110 : decode cX5_isSoWith 110 = .ok (.iload_n 3, 1) := by decide +kernel
theorem dX5_isSoWith_111 : decode cX5_isSoWith 111 = .ok (.ireturn, 1) := by decide +kernel
theorem dX5_which_0 : decode cX5_which 0 = .ok (.iconst 0, 1) := by decide +kernel
theorem dX5_which_1 : decode cX5_which 1 = .ok (.istore_n 3, 1) := by decide +kernel
theorem dX5_which_2 : decode cX5_which 2 = .ok (.iconst 0, 1) := by decide +kernel
theorem dX5_which_3 : decode cX5_which 3 = .ok (.istore 4, 2) := by decide +kernel
theorem dX5_which_5 : decode cX5_which 5 = .ok (.iload 4, 2) := by decide +kernel
theorem dX5_which_7 : decode cX5_which 7 = .ok (.iload_n 2, 1) := by decide +kernel
theorem dX5_which_8 : decode cX5_which 8 = .ok (.if_icmp .gt 25, 3) := by decide +kernel
theorem dX5_which_11 : decode cX5_which 11 = .ok (.iload_n 3, 1) := by decide +kernel
theorem dX5_which_12 : decode cX5_which 12 = .ok (.aload_n 0, 1) := by decide +kernel
theorem dX5_which_13 : decode cX5_which 13 = .ok (.iload_n 1, 1) := by decide +kernel
theorem dX5_which_14 : decode cX5_which 14 = .ok (.iload 4, 2) := by decide +kernel
theorem dX5_which_16 : decode cX5_which 16 = .ok (.invokevirtual 293, 3) := by decide +kernel
theorem dX5_which_19 : decode cX5_which 19 = .ok (.invokestatic 153, 3) := by decide +kernel
theorem dX5_which_22 : decode cX5_which 22 = .ok (.iload 4, 2) := by decide +kernel
theorem dX5_which_24 : decode cX5_which 24 = .ok (.ishl, 1) := by decide +kernel
theorem dX5_which_25 : decode cX5_which 25 = .ok (.ior, 1) := by decide +kernel
theorem dX5_which_26 : decode cX5_which 26 = .ok (.istore_n 3, 1) := by decide +kernel
theorem dX5_which_27 : decode cX5_which 27 = .ok (.iinc 4 1, 3) := by decide +kernel
theorem dX5_which_30 : decode cX5_which 30 = .ok (.goto (-25), 3) := by decide +kernel
theorem dX5_which_33 : decode cX5_which 33 = .ok (.iload_n 3, 1) := by decide +kernel
theorem dX5_which_34 : decode cX5_which 34 = .ok (.ireturn, 1) := by decide +kernel
theorem dX5_kinds_0 : decode cX5_kinds 0 = .ok (.aload_n 0, 1) := by decide +kernel
theorem dX5_kinds_1 : decode cX5_kinds 1 = .ok (.iload_n 1, 1) := by decide +kernel
theorem dX5_kinds_2 : decode cX5_kinds 2 = .ok (.invokevirtual 205, 3) := by decide +kernel
theorem dX5_kinds_5 : decode cX5_kinds 5 = .ok (.ifCond .eq 16, 3) := by decide +kernel
theorem dX5_kinds_8 : decode cX5_kinds 8 = .ok (.aload_n 0, 1) := by decide +kernel
theorem dX5_kinds_9 : decode cX5_kinds 9 = .ok (.iconst 4, 1) := by decide +kernel
theorem dX5_kinds_10 : decode cX5_kinds 10 = .ok (.iload_n 1, 1) := by decide +kernel
theorem dX5_kinds_11 : decode cX5_kinds 11 = .ok (.imul, 1) := by decide +kernel
theorem dX5_kinds_12 : decode cX5_kinds 12 = .ok (.iconst 0, 1) := by decide +kernel
theorem dX5_kinds_13 : decode cX5_kinds 13 = .ok (.iadd, 1) := by decide +kernel
theorem dX5_kinds_14 : decode cX5_kinds 14 = .ok (.iconst 3, 1) := by decide +kernel
theorem dX5_kinds_15 : decode cX5_kinds 15 = .ok (.invokevirtual 296, 3) := by decide +kernel
theorem dX5_kinds_18 : decode cX5_kinds 18 = .ok (.goto 4, 3) := by decide +kernel
theorem dX5_kinds_21 : decode cX5_kinds 21 = .ok (.iconst (-1), 1) := by decide +kernel
theorem dX5_kinds_22 : decode cX5_kinds 22 = .ok (.ireturn, 1) := by decide +kernel
theorem dX5_wants_0 : decode cX5_wants 0 = .ok (.aload_n 0, 1) := by decide +kernel
theorem dX5_wants_1 : decode cX5_wants 1 = .ok (.iload_n 1, 1) := by decide +kernel
theorem dX5_wants_2 : decode cX5_wants 2 = .ok (.invokevirtual 205, 3) := by decide +kernel
theorem dX5_wants_5 : decode cX5_wants 5 = .ok (.ifCond .eq 17, 3) := by decide +kernel
theorem dX5_wants_8 : decode cX5_wants 8 = .ok (.aload_n 0, 1) := by decide +kernel
theorem dX5_wants_9 : decode cX5_wants 9 = .ok (.iconst 4, 1) := by decide +kernel
theorem dX5_wants_10 : decode cX5_wants 10 = .ok (.iload_n 1, 1) := by decide +kernel
theorem dX5_wants_11 : decode cX5_wants 11 = .ok (.imul, 1) := by decide +kernel
theorem dX5_wants_12 : decode cX5_wants 12 = .ok (.iconst 2, 1) := by decide +kernel
theorem dX5_wants_13 : decode cX5_wants 13 = .ok (.iadd, 1) := by decide +kernel
theorem dX5_wants_14 : decode cX5_wants 14 = .ok (.bipush 20, 2) := by decide +kernel
theorem dX5_wants_16 : decode cX5_wants 16 = .ok (.invokevirtual 296, 3) := by decide +kernel
theorem dX5_wants_19 : decode cX5_wants 19 = .ok (.goto 4, 3) := by decide +kernel
theorem dX5_wants_22 : decode cX5_wants 22 = .ok (.iconst (-1), 1) := by decide +kernel
theorem dX5_wants_23 : decode cX5_wants 23 = .ok (.ireturn, 1) := by decide +kernel
theorem dX5_ask_0 : decode cX5_ask 0 = .ok (.aload_n 0, 1) := by decide +kernel
theorem dX5_ask_1 : decode cX5_ask 1 = .ok (.iload_n 1, 1) := by decide +kernel
theorem dX5_ask_2 : decode cX5_ask 2 = .ok (.invokevirtual 205, 3) := by decide +kernel
theorem dX5_ask_5 : decode cX5_ask 5 = .ok (.ifCond .eq 10, 3) := by decide +kernel
theorem dX5_ask_8 : decode cX5_ask 8 = .ok (.iload_n 2, 1) := by decide +kernel
theorem dX5_ask_9 : decode cX5_ask 9 = .ok (.invokestatic 243, 3) := by decide +kernel
theorem dX5_ask_12 : decode cX5_ask 12 = .ok (.ifCond .ne 5, 3) := by decide +kernel
theorem dX5_ask_15 : decode cX5_ask 15 = .ok (.iconst (-1), 1) := by decide +kernel
theorem dX5_ask_16 : decode cX5_ask 16 = .ok (.ireturn, 1) := by decide +kernel
theorem dX5_ask_17 : decode cX5_ask 17 = .ok (.iconst 0, 1) := by decide +kernel
theorem dX5_ask_18 : decode cX5_ask 18 = .ok (.istore_n 3, 1) := by decide +kernel
theorem dX5_ask_19 : decode cX5_ask 19 = .ok (.iconst 0, 1) := by decide +kernel
theorem dX5_ask_20 : decode cX5_ask 20 = .ok (.istore 4, 2) := by decide +kernel
theorem dX5_ask_22 : decode cX5_ask 22 = .ok (.iload 4, 2) := by decide +kernel
theorem dX5_ask_24 : decode cX5_ask 24 = .ok (.bipush 20, 2) := by decide +kernel
theorem dX5_ask_26 : decode cX5_ask 26 = .ok (.if_icmp .gt 61, 3) := by decide +kernel
theorem dX5_ask_29 : decode cX5_ask 29 = .ok (.aload_n 0, 1) := by decide +kernel
theorem dX5_ask_30 : decode cX5_ask 30 = .ok (.iconst 4, 1) := by decide +kernel
theorem dX5_ask_31 : decode cX5_ask 31 = .ok (.iload_n 1, 1) := by decide +kernel
theorem dX5_ask_32 : decode cX5_ask 32 = .ok (.imul, 1) := by decide +kernel
theorem dX5_ask_33 : decode cX5_ask 33 = .ok (.iconst 2, 1) := by decide +kernel
theorem dX5_ask_34 : decode cX5_ask 34 = .ok (.iadd, 1) := by decide +kernel
theorem dX5_ask_35 : decode cX5_ask 35 = .ok (.iload 4, 2) := by decide +kernel
theorem dX5_ask_37 : decode cX5_ask 37 = .ok (.invokevirtual 293, 3) := by decide +kernel
theorem dX5_ask_40 : decode cX5_ask 40 = .ok (.ifCond .eq 41, 3) := by decide +kernel
theorem dX5_ask_43 : decode cX5_ask 43 = .ok (.iconst 0, 1) := by decide +kernel
theorem dX5_ask_44 : decode cX5_ask 44 = .ok (.istore 5, 2) := by decide +kernel
theorem dX5_ask_46 : decode cX5_ask 46 = .ok (.iload 5, 2) := by decide +kernel
theorem dX5_ask_48 : decode cX5_ask 48 = .ok (.bipush 20, 2) := by decide +kernel
theorem dX5_ask_50 : decode cX5_ask 50 = .ok (.if_icmp .gt 28, 3) := by decide +kernel
theorem dX5_ask_53 : decode cX5_ask 53 = .ok (.aload_n 0, 1) := by decide +kernel
theorem dX5_ask_54 : decode cX5_ask 54 = .ok (.getfield 29, 3) := by decide +kernel
theorem dX5_ask_57 : decode cX5_ask 57 = .ok (.bipush 21, 2) := by decide +kernel
theorem dX5_ask_59 : decode cX5_ask 59 = .ok (.iload_n 3, 1) := by decide +kernel
theorem dX5_ask_60 : decode cX5_ask 60 = .ok (.imul, 1) := by decide +kernel
theorem dX5_ask_61 : decode cX5_ask 61 = .ok (.iload 5, 2) := by decide +kernel
theorem dX5_ask_63 : decode cX5_ask 63 = .ok (.iadd, 1) := by decide +kernel
theorem dX5_ask_64 : decode cX5_ask 64 = .ok (.aload_n 0, 1) := by decide +kernel
theorem dX5_ask_65 : decode cX5_ask 65 = .ok (.getfield 26, 3) := by decide +kernel
theorem dX5_ask_68 : decode cX5_ask 68 = .ok (.iload 5, 2) := by decide +kernel
theorem dX5_ask_70 : decode cX5_ask 70 = .ok (.iaload, 1) := by decide +kernel
theorem dX5_ask_71 : decode cX5_ask 71 = .ok (.iastore, 1) := by decide +kernel
theorem dX5_ask_72 : decode cX5_ask 72 = .ok (.iinc 5 1, 3) := by decide +kernel
theorem dX5_ask_75 : decode cX5_ask 75 = .ok (.goto (-29), 3) := by decide +kernel
theorem dX5_ask_78 : decode cX5_ask 78 = .ok (.iinc 3 1, 3) := by decide +kernel
theorem dX5_ask_81 : decode cX5_ask 81 = .ok (.iinc 4 1, 3) := by decide +kernel
theorem dX5_ask_84 : decode cX5_ask 84 = .ok (.goto (-62), 3) := by decide +kernel
theorem dX5_ask_87 : decode cX5_ask 87 = .ok (.aload_n 0, 1) := by decide +kernel
theorem dX5_ask_88 : decode cX5_ask 88 = .ok (.iload_n 3, 1) := by decide +kernel
theorem dX5_ask_89 : decode cX5_ask 89 = .ok (.invokevirtual 246, 3) := by decide +kernel
theorem dX5_ask_92 : decode cX5_ask 92 = .ok (.iconst 0, 1) := by decide +kernel
theorem dX5_ask_93 : decode cX5_ask 93 = .ok (.istore 4, 2) := by decide +kernel
theorem dX5_ask_95 : decode cX5_ask 95 = .ok (.iload 4, 2) := by decide +kernel
theorem dX5_ask_97 : decode cX5_ask 97 = .ok (.bipush 20, 2) := by decide +kernel
theorem dX5_ask_99 : decode cX5_ask 99 = .ok (.if_icmp .gt 111, 3) := by decide +kernel
theorem dX5_ask_102 : decode cX5_ask 102 = .ok (.iconst 0, 1) := by decide +kernel
theorem dX5_ask_103 : decode cX5_ask 103 = .ok (.istore 5, 2) := by decide +kernel
theorem dX5_ask_105 : decode cX5_ask 105 = .ok (.iconst 0, 1) := by decide +kernel
theorem dX5_ask_106 : decode cX5_ask 106 = .ok (.istore 6, 2) := by decide +kernel
theorem dX5_ask_108 : decode cX5_ask 108 = .ok (.iload 6, 2) := by decide +kernel
theorem dX5_ask_110 : decode cX5_ask 110 = .ok (.iload_n 3, 1) := by decide +kernel
theorem dX5_ask_111 : decode cX5_ask 111 = .ok (.if_icmp .ge 85, 3) := by decide +kernel
theorem dX5_ask_114 : decode cX5_ask 114 = .ok (.iconst 0, 1) := by decide +kernel
theorem dX5_ask_115 : decode cX5_ask 115 = .ok (.istore 7, 2) := by decide +kernel
theorem dX5_ask_117 : decode cX5_ask 117 = .ok (.iconst 0, 1) := by decide +kernel
theorem dX5_ask_118 : decode cX5_ask 118 = .ok (.istore 8, 2) := by decide +kernel
theorem dX5_ask_120 : decode cX5_ask 120 = .ok (.iload 8, 2) := by decide +kernel
theorem dX5_ask_122 : decode cX5_ask 122 = .ok (.iload_n 3, 1) := by decide +kernel
theorem dX5_ask_123 : decode cX5_ask 123 = .ok (.if_icmp .ge 51, 3) := by decide +kernel
theorem dX5_ask_126 : decode cX5_ask 126 = .ok (.iload 7, 2) := by decide +kernel
theorem dX5_ask_128 : decode cX5_ask 128 = .ok (.aload_n 0, 1) := by decide +kernel
theorem dX5_ask_129 : decode cX5_ask 129 = .ok (.getfield 29, 3) := by decide +kernel
theorem dX5_ask_132 : decode cX5_ask 132 = .ok (.bipush 21, 2) := by decide +kernel
theorem dX5_ask_134 : decode cX5_ask 134 = .ok (.iload 6, 2) := by decide +kernel
theorem dX5_ask_136 : decode cX5_ask 136 = .ok (.imul, 1) := by decide +kernel
theorem dX5_ask_137 : decode cX5_ask 137 = .ok (.iload 4, 2) := by decide +kernel
theorem dX5_ask_139 : decode cX5_ask 139 = .ok (.iadd, 1) := by decide +kernel
theorem dX5_ask_140 : decode cX5_ask 140 = .ok (.iaload, 1) := by decide +kernel
theorem dX5_ask_141 : decode cX5_ask 141 = .ok (.aload_n 0, 1) := by decide +kernel
theorem dX5_ask_142 : decode cX5_ask 142 = .ok (.getfield 29, 3) := by decide +kernel
theorem dX5_ask_145 : decode cX5_ask 145 = .ok (.bipush 21, 2) := by decide +kernel
theorem dX5_ask_147 : decode cX5_ask 147 = .ok (.iload 8, 2) := by decide +kernel
theorem dX5_ask_149 : decode cX5_ask 149 = .ok (.imul, 1) := by decide +kernel
theorem dX5_ask_150 : decode cX5_ask 150 = .ok (.iload 4, 2) := by decide +kernel
theorem dX5_ask_152 : decode cX5_ask 152 = .ok (.iadd, 1) := by decide +kernel
theorem dX5_ask_153 : decode cX5_ask 153 = .ok (.iaload, 1) := by decide +kernel
theorem dX5_ask_154 : decode cX5_ask 154 = .ok (.if_icmp .ne 7, 3) := by decide +kernel
theorem dX5_ask_157 : decode cX5_ask 157 = .ok (.iconst 1, 1) := by decide +kernel
theorem dX5_ask_158 : decode cX5_ask 158 = .ok (.goto 4, 3) := by decide +kernel
theorem dX5_ask_161 : decode cX5_ask 161 = .ok (.iconst 0, 1) := by decide +kernel
theorem dX5_ask_162 : decode cX5_ask 162 = .ok (.invokestatic 153, 3) := by decide +kernel
theorem dX5_ask_165 : decode cX5_ask 165 = .ok (.iadd, 1) := by decide +kernel
theorem dX5_ask_166 : decode cX5_ask 166 = .ok (.istore 7, 2) := by decide +kernel
theorem dX5_ask_168 : decode cX5_ask 168 = .ok (.iinc 8 1, 3) := by decide +kernel
theorem dX5_ask_171 : decode cX5_ask 171 = .ok (.goto (-51), 3) := by decide +kernel
theorem dX5_ask_174 : decode cX5_ask 174 = .ok (.iload 7, 2) := by decide +kernel
theorem dX5_ask_176 : decode cX5_ask 176 = .ok (.iload 5, 2) := by decide +kernel
theorem dX5_ask_178 : decode cX5_ask 178 = .ok (.if_icmp .le 8, 3) := by decide +kernel
theorem dX5_ask_181 : decode cX5_ask 181 = .ok (.iload 7, 2) := by decide +kernel
theorem dX5_ask_183 : decode cX5_ask 183 = .ok (.goto 5, 3) := by decide +kernel
theorem dX5_ask_186 : decode cX5_ask 186 = .ok (.iload 5, 2) := by decide +kernel
theorem dX5_ask_188 : decode cX5_ask 188 = .ok (.istore 5, 2) := by decide +kernel
theorem dX5_ask_190 : decode cX5_ask 190 = .ok (.iinc 6 1, 3) := by decide +kernel
theorem dX5_ask_193 : decode cX5_ask 193 = .ok (.goto (-85), 3) := by decide +kernel
theorem dX5_ask_196 : decode cX5_ask 196 = .ok (.aload_n 0, 1) := by decide +kernel
theorem dX5_ask_197 : decode cX5_ask 197 = .ok (.iload 4, 2) := by decide +kernel
theorem dX5_ask_199 : decode cX5_ask 199 = .ok (.iload 5, 2) := by decide +kernel
theorem dX5_ask_201 : decode cX5_ask 201 = .ok (.invokevirtual 249, 3) := by decide +kernel
theorem dX5_ask_204 : decode cX5_ask 204 = .ok (.iinc 4 1, 3) := by decide +kernel
theorem dX5_ask_207 : decode cX5_ask 207 = .ok (.goto (-112), 3) := by decide +kernel
theorem dX5_ask_210 : decode cX5_ask 210 = .ok (.aload_n 0, 1) := by decide +kernel
theorem dX5_ask_211 : decode cX5_ask 211 = .ok (.iload_n 2, 1) := by decide +kernel
theorem dX5_ask_212 : decode cX5_ask 212 = .ok (.invokevirtual 253, 3) := by decide +kernel
theorem dX5_ask_215 : decode cX5_ask 215 = .ok (.ireturn, 1) := by decide +kernel
theorem dX5_drift_0 : decode cX5_drift 0 = .ok (.iload_n 2, 1) := by decide +kernel
theorem dX5_drift_1 : decode cX5_drift 1 = .ok (.i2l, 1) := by decide +kernel
theorem dX5_drift_2 : decode cX5_drift 2 = .ok (.lconst 1, 1) := by decide +kernel
theorem dX5_drift_3 : decode cX5_drift 3 = .ok (.ldc2_w 223, 3) := by decide +kernel
theorem dX5_drift_6 : decode cX5_drift 6 = .ok (.invokestatic 56, 3) := by decide +kernel
theorem dX5_drift_9 : decode cX5_drift 9 = .ok (.ifCond .eq 10, 3) := by decide +kernel
theorem dX5_drift_12 : decode cX5_drift 12 = .ok (.iload_n 3, 1) := by decide +kernel
theorem dX5_drift_13 : decode cX5_drift 13 = .ok (.invokestatic 243, 3) := by decide +kernel
theorem dX5_drift_16 : decode cX5_drift 16 = .ok (.ifCond .ne 5, 3) := by decide +kernel
theorem dX5_drift_19 : decode cX5_drift 19 = .ok (.iconst (-1), 1) := by decide +kernel
theorem dX5_drift_20 : decode cX5_drift 20 = .ok (.ireturn, 1) := by decide +kernel
theorem dX5_drift_21 : decode cX5_drift 21 = .ok (.aload_n 0, 1) := by decide +kernel
theorem dX5_drift_22 : decode cX5_drift 22 = .ok (.getfield 7, 3) := by decide +kernel
theorem dX5_drift_25 : decode cX5_drift 25 = .ok (.bipush 24, 2) := by decide +kernel
theorem dX5_drift_27 : decode cX5_drift 27 = .ok (.iaload, 1) := by decide +kernel
theorem dX5_drift_28 : decode cX5_drift 28 = .ok (.ifCond .ne 6, 3) := by decide +kernel
theorem dX5_drift_31 : decode cX5_drift 31 = .ok (.bipush (-2), 2) := by decide +kernel
theorem dX5_drift_33 : decode cX5_drift 33 = .ok (.ireturn, 1) := by decide +kernel
theorem dX5_drift_34 : decode cX5_drift 34 = .ok (.iload_n 1, 1) := by decide +kernel
theorem dX5_drift_35 : decode cX5_drift 35 = .ok (.istore 4, 2) := by decide +kernel
theorem dX5_drift_37 : decode cX5_drift 37 = .ok (.aload_n 0, 1) := by decide +kernel
theorem dX5_drift_38 : decode cX5_drift 38 = .ok (.invokevirtual 196, 3) := by decide +kernel
theorem dX5_drift_41 : decode cX5_drift 41 = .ok (.iconst 0, 1) := by decide +kernel
theorem dX5_drift_42 : decode cX5_drift 42 = .ok (.istore 5, 2) := by decide +kernel
theorem dX5_drift_44 : decode cX5_drift 44 = .ok (.iload 5, 2) := by decide +kernel
theorem dX5_drift_46 : decode cX5_drift 46 = .ok (.iload_n 2, 1) := by decide +kernel
theorem dX5_drift_47 : decode cX5_drift 47 = .ok (.if_icmp .ge 60, 3) := by decide +kernel
theorem dX5_drift_50 : decode cX5_drift 50 = .ok (.iload 4, 2) := by decide +kernel
theorem dX5_drift_52 : decode cX5_drift 52 = .ok (.ldc_w 299, 3) := by decide +kernel
theorem dX5_drift_55 : decode cX5_drift 55 = .ok (.imul, 1) := by decide +kernel
theorem dX5_drift_56 : decode cX5_drift 56 = .ok (.sipush 12345, 3) := by decide +kernel
theorem dX5_drift_59 : decode cX5_drift 59 = .ok (.iadd, 1) := by decide +kernel
theorem dX5_drift_60 : decode cX5_drift 60 = .ok (.istore 4, 2) := by decide +kernel
theorem dX5_drift_62 : decode cX5_drift 62 = .ok (.iload 4, 2) := by decide +kernel
theorem dX5_drift_64 : decode cX5_drift 64 = .ok (.bipush 16, 2) := by decide +kernel
theorem dX5_drift_66 : decode cX5_drift 66 = .ok (.ishr, 1) := by decide +kernel
theorem dX5_drift_67 : decode cX5_drift 67 = .ok (.sipush 32767, 3) := by decide +kernel
theorem dX5_drift_70 : decode cX5_drift 70 = .ok (.iand, 1) := by decide +kernel
theorem dX5_drift_71 : decode cX5_drift 71 = .ok (.istore 6, 2) := by decide +kernel
theorem dX5_drift_73 : decode cX5_drift 73 = .ok (.aload_n 0, 1) := by decide +kernel
theorem dX5_drift_74 : decode cX5_drift 74 = .ok (.iload 6, 2) := by decide +kernel
theorem dX5_drift_76 : decode cX5_drift 76 = .ok (.aload_n 0, 1) := by decide +kernel
theorem dX5_drift_77 : decode cX5_drift 77 = .ok (.getfield 7, 3) := by decide +kernel
theorem dX5_drift_80 : decode cX5_drift 80 = .ok (.bipush 24, 2) := by decide +kernel
theorem dX5_drift_82 : decode cX5_drift 82 = .ok (.iaload, 1) := by decide +kernel
theorem dX5_drift_83 : decode cX5_drift 83 = .ok (.irem, 1) := by decide +kernel
theorem dX5_drift_84 : decode cX5_drift 84 = .ok (.iconst 2, 1) := by decide +kernel
theorem dX5_drift_85 : decode cX5_drift 85 = .ok (.iload 6, 2) := by decide +kernel
theorem dX5_drift_87 : decode cX5_drift 87 = .ok (.bipush 8, 2) := by decide +kernel
theorem dX5_drift_89 : decode cX5_drift 89 = .ok (.idiv, 1) := by decide +kernel
theorem dX5_drift_90 : decode cX5_drift 90 = .ok (.bipush 21, 2) := by decide +kernel
theorem dX5_drift_92 : decode cX5_drift 92 = .ok (.irem, 1) := by decide +kernel
theorem dX5_drift_93 : decode cX5_drift 93 = .ok (.invokevirtual 178, 3) := by decide +kernel
theorem dX5_drift_96 : decode cX5_drift 96 = .ok (.aload_n 0, 1) := by decide +kernel
theorem dX5_drift_97 : decode cX5_drift 97 = .ok (.iconst 0, 1) := by decide +kernel
theorem dX5_drift_98 : decode cX5_drift 98 = .ok (.invokevirtual 192, 3) := by decide +kernel
theorem dX5_drift_101 : decode cX5_drift 101 = .ok (.iinc 5 1, 3) := by decide +kernel
theorem dX5_drift_104 : decode cX5_drift 104 = .ok (.goto (-60), 3) := by decide +kernel
theorem dX5_drift_107 : decode cX5_drift 107 = .ok (.iload_n 3, 1) := by decide +kernel
theorem dX5_drift_108 : decode cX5_drift 108 = .ok (.ifCond .ne 13, 3) := by decide +kernel
theorem dX5_drift_111 : decode cX5_drift 111 = .ok (.aload_n 0, 1) := by decide +kernel
theorem dX5_drift_112 : decode cX5_drift 112 = .ok (.getfield 13, 3) := by decide +kernel
theorem dX5_drift_115 : decode cX5_drift 115 = .ok (.bipush 25, 2) := by decide +kernel
theorem dX5_drift_117 : decode cX5_drift 117 = .ok (.iaload, 1) := by decide +kernel
theorem dX5_drift_118 : decode cX5_drift 118 = .ok (.goto 7, 3) := by decide +kernel
theorem dX5_drift_121 : decode cX5_drift 121 = .ok (.aload_n 0, 1) := by decide +kernel
theorem dX5_drift_122 : decode cX5_drift 122 = .ok (.getfield 128, 3) := by decide +kernel
theorem dX5_drift_125 : decode cX5_drift 125 = .ok (.ireturn, 1) := by decide +kernel
theorem dX5_copies_0 : decode cX5_copies 0 = .ok (.iconst 0, 1) := by decide +kernel
theorem dX5_copies_1 : decode cX5_copies 1 = .ok (.istore_n 3, 1) := by decide +kernel
theorem dX5_copies_2 : decode cX5_copies 2 = .ok (.iload_n 3, 1) := by decide +kernel
theorem dX5_copies_3 : decode cX5_copies 3 = .ok (.bipush 41, 2) := by decide +kernel
theorem dX5_copies_5 : decode cX5_copies 5 = .ok (.if_icmp .ge 25, 3) := by decide +kernel
theorem dX5_copies_8 : decode cX5_copies 8 = .ok (.aload_n 0, 1) := by decide +kernel
theorem dX5_copies_9 : decode cX5_copies 9 = .ok (.getfield 7, 3) := by decide +kernel
theorem dX5_copies_12 : decode cX5_copies 12 = .ok (.iload_n 1, 1) := by decide +kernel
theorem dX5_copies_13 : decode cX5_copies 13 = .ok (.iload_n 3, 1) := by decide +kernel
theorem dX5_copies_14 : decode cX5_copies 14 = .ok (.iadd, 1) := by decide +kernel
theorem dX5_copies_15 : decode cX5_copies 15 = .ok (.aload_n 0, 1) := by decide +kernel
theorem dX5_copies_16 : decode cX5_copies 16 = .ok (.getfield 7, 3) := by decide +kernel
theorem dX5_copies_19 : decode cX5_copies 19 = .ok (.iload_n 2, 1) := by decide +kernel
theorem dX5_copies_20 : decode cX5_copies 20 = .ok (.iload_n 3, 1) := by decide +kernel
theorem dX5_copies_21 : decode cX5_copies 21 = .ok (.iadd, 1) := by decide +kernel
theorem dX5_copies_22 : decode cX5_copies 22 = .ok (.iaload, 1) := by decide +kernel
theorem dX5_copies_23 : decode cX5_copies 23 = .ok (.iastore, 1) := by decide +kernel
theorem dX5_copies_24 : decode cX5_copies 24 = .ok (.iinc 3 1, 3) := by decide +kernel
theorem dX5_copies_27 : decode cX5_copies 27 = .ok (.goto (-25), 3) := by decide +kernel
theorem dX5_copies_30 : decode cX5_copies 30 = .ok (.return_, 1) := by decide +kernel
theorem dX5_keep_0 : decode cX5_keep 0 = .ok (.iload_n 1, 1) := by decide +kernel
theorem dX5_keep_1 : decode cX5_keep 1 = .ok (.i2l, 1) := by decide +kernel
theorem dX5_keep_2 : decode cX5_keep 2 = .ok (.lconst 0, 1) := by decide +kernel
theorem dX5_keep_3 : decode cX5_keep 3 = .ok (.lconst 1, 1) := by decide +kernel
theorem dX5_keep_4 : decode cX5_keep 4 = .ok (.invokestatic 56, 3) := by decide +kernel
theorem dX5_keep_7 : decode cX5_keep 7 = .ok (.ifCond .ne 5, 3) := by decide +kernel
theorem dX5_keep_10 : decode cX5_keep 10 = .ok (.iconst (-1), 1) := by decide +kernel
theorem dX5_keep_11 : decode cX5_keep 11 = .ok (.ireturn, 1) := by decide +kernel
theorem dX5_keep_12 : decode cX5_keep 12 = .ok (.aload_n 0, 1) := by decide +kernel
theorem dX5_keep_13 : decode cX5_keep 13 = .ok (.getfield 16, 3) := by decide +kernel
theorem dX5_keep_16 : decode cX5_keep 16 = .ok (.iload_n 1, 1) := by decide +kernel
theorem dX5_keep_17 : decode cX5_keep 17 = .ok (.baload, 1) := by decide +kernel
theorem dX5_keep_18 : decode cX5_keep 18 = .ok (.invokestatic 153, 3) := by decide +kernel
theorem dX5_keep_21 : decode cX5_keep 21 = .ok (.istore_n 2, 1) := by decide +kernel
theorem dX5_keep_22 : decode cX5_keep 22 = .ok (.aload_n 0, 1) := by decide +kernel
theorem dX5_keep_23 : decode cX5_keep 23 = .ok (.getfield 16, 3) := by decide +kernel
theorem dX5_keep_26 : decode cX5_keep 26 = .ok (.iload_n 1, 1) := by decide +kernel
theorem dX5_keep_27 : decode cX5_keep 27 = .ok (.iconst 1, 1) := by decide +kernel
theorem dX5_keep_28 : decode cX5_keep 28 = .ok (.bastore, 1) := by decide +kernel
theorem dX5_keep_29 : decode cX5_keep 29 = .ok (.aload_n 0, 1) := by decide +kernel
theorem dX5_keep_30 : decode cX5_keep 30 = .ok (.bipush 41, 2) := by decide +kernel
theorem dX5_keep_32 : decode cX5_keep 32 = .ok (.iload_n 1, 1) := by decide +kernel
theorem dX5_keep_33 : decode cX5_keep 33 = .ok (.iconst 1, 1) := by decide +kernel
theorem dX5_keep_34 : decode cX5_keep 34 = .ok (.iadd, 1) := by decide +kernel
theorem dX5_keep_35 : decode cX5_keep 35 = .ok (.imul, 1) := by decide +kernel
theorem dX5_keep_36 : decode cX5_keep 36 = .ok (.iconst 0, 1) := by decide +kernel
theorem dX5_keep_37 : decode cX5_keep 37 = .ok (.invokevirtual 300, 3) := by decide +kernel
theorem dX5_keep_40 : decode cX5_keep 40 = .ok (.iload_n 2, 1) := by decide +kernel
theorem dX5_keep_41 : decode cX5_keep 41 = .ok (.ireturn, 1) := by decide +kernel
theorem dX5_back_0 : decode cX5_back 0 = .ok (.iload_n 1, 1) := by decide +kernel
theorem dX5_back_1 : decode cX5_back 1 = .ok (.i2l, 1) := by decide +kernel
theorem dX5_back_2 : decode cX5_back 2 = .ok (.lconst 0, 1) := by decide +kernel
theorem dX5_back_3 : decode cX5_back 3 = .ok (.lconst 1, 1) := by decide +kernel
theorem dX5_back_4 : decode cX5_back 4 = .ok (.invokestatic 56, 3) := by decide +kernel
theorem dX5_back_7 : decode cX5_back 7 = .ok (.ifCond .ne 5, 3) := by decide +kernel
theorem dX5_back_10 : decode cX5_back 10 = .ok (.iconst (-1), 1) := by decide +kernel
theorem dX5_back_11 : decode cX5_back 11 = .ok (.ireturn, 1) := by decide +kernel
theorem dX5_back_12 : decode cX5_back 12 = .ok (.aload_n 0, 1) := by decide +kernel
theorem dX5_back_13 : decode cX5_back 13 = .ok (.getfield 16, 3) := by decide +kernel
theorem dX5_back_16 : decode cX5_back 16 = .ok (.iload_n 1, 1) := by decide +kernel
theorem dX5_back_17 : decode cX5_back 17 = .ok (.baload, 1) := by decide +kernel
theorem dX5_back_18 : decode cX5_back 18 = .ok (.ifCond .ne 6, 3) := by decide +kernel
theorem dX5_back_21 : decode cX5_back 21 = .ok (.bipush (-2), 2) := by decide +kernel
theorem dX5_back_23 : decode cX5_back 23 = .ok (.ireturn, 1) := by decide +kernel
theorem dX5_back_24 : decode cX5_back 24 = .ok (.aload_n 0, 1) := by decide +kernel
theorem dX5_back_25 : decode cX5_back 25 = .ok (.iconst 0, 1) := by decide +kernel
theorem dX5_back_26 : decode cX5_back 26 = .ok (.bipush 41, 2) := by decide +kernel
theorem dX5_back_28 : decode cX5_back 28 = .ok (.iload_n 1, 1) := by decide +kernel
theorem dX5_back_29 : decode cX5_back 29 = .ok (.iconst 1, 1) := by decide +kernel
theorem dX5_back_30 : decode cX5_back 30 = .ok (.iadd, 1) := by decide +kernel
theorem dX5_back_31 : decode cX5_back 31 = .ok (.imul, 1) := by decide +kernel
theorem dX5_back_32 : decode cX5_back 32 = .ok (.invokevirtual 300, 3) := by decide +kernel
theorem dX5_back_35 : decode cX5_back 35 = .ok (.aload_n 0, 1) := by decide +kernel
theorem dX5_back_36 : decode cX5_back 36 = .ok (.getfield 7, 3) := by decide +kernel
theorem dX5_back_39 : decode cX5_back 39 = .ok (.bipush 26, 2) := by decide +kernel
theorem dX5_back_41 : decode cX5_back 41 = .ok (.iaload, 1) := by decide +kernel
theorem dX5_back_42 : decode cX5_back 42 = .ok (.ireturn, 1) := by decide +kernel
theorem dX5_isSheet_0 : decode cX5_isSheet 0 = .ok (.iload_n 0, 1) := by decide +kernel
theorem dX5_isSheet_1 : decode cX5_isSheet 1 = .ok (.i2l, 1) := by decide +kernel
theorem dX5_isSheet_2 : decode cX5_isSheet 2 = .ok (.lconst 0, 1) := by decide +kernel
theorem dX5_isSheet_3 : decode cX5_isSheet 3 = .ok (.ldc2_w 210, 3) := by decide +kernel
theorem dX5_isSheet_6 : decode cX5_isSheet 6 = .ok (.invokestatic 56, 3) := by decide +kernel
theorem dX5_isSheet_9 : decode cX5_isSheet 9 = .ok (.ifCond .eq 19, 3) := by decide +kernel
theorem dX5_isSheet_12 : decode cX5_isSheet 12 = .ok (.iload_n 1, 1) := by decide +kernel
theorem dX5_isSheet_13 : decode cX5_isSheet 13 = .ok (.i2l, 1) := by decide +kernel
theorem dX5_isSheet_14 : decode cX5_isSheet 14 = .ok (.lconst 0, 1) := by decide +kernel
theorem dX5_isSheet_15 : decode cX5_isSheet 15 = .ok (.ldc2_w 140, 3) := by decide +kernel
theorem dX5_isSheet_18 : decode cX5_isSheet 18 = .ok (.invokestatic 56, 3) := by decide +kernel
theorem dX5_isSheet_21 : decode cX5_isSheet 21 = .ok (.ifCond .eq 7, 3) := by decide +kernel
theorem dX5_isSheet_24 : decode cX5_isSheet 24 = .ok (.iconst 1, 1) := by decide +kernel
theorem dX5_isSheet_25 : decode cX5_isSheet 25 = .ok (.goto 4, 3) := by decide +kernel
theorem dX5_isSheet_28 : decode cX5_isSheet 28 = .ok (.iconst 0, 1) := by decide +kernel
theorem dX5_isSheet_29 : decode cX5_isSheet 29 = .ok (.ireturn, 1) := by decide +kernel
theorem dX5_sheet_0 : decode cX5_sheet 0 = .ok (.iload_n 1, 1) := by decide +kernel
theorem dX5_sheet_1 : decode cX5_sheet 1 = .ok (.iload_n 2, 1) := by decide +kernel
theorem dX5_sheet_2 : decode cX5_sheet 2 = .ok (.invokestatic 303, 3) := by decide +kernel
theorem dX5_sheet_5 : decode cX5_sheet 5 = .ok (.ifCond .eq 9, 3) := by decide +kernel
theorem dX5_sheet_8 : decode cX5_sheet 8 = .ok (.iload_n 3, 1) := by decide +kernel
theorem dX5_sheet_9 : decode cX5_sheet 9 = .ok (.bipush 40, 2) := by decide +kernel
theorem dX5_sheet_11 : decode cX5_sheet 11 = .ok (.if_icmp .le 5, 3) := by decide +kernel
theorem dX5_sheet_14 : decode cX5_sheet 14 = .ok (.iconst (-1), 1) := by decide +kernel
theorem dX5_sheet_15 : decode cX5_sheet 15 = .ok (.ireturn, 1) := by decide +kernel
theorem dX5_sheet_16 : decode cX5_sheet 16 = .ok (.iload_n 3, 1) := by decide +kernel
theorem dX5_sheet_17 : decode cX5_sheet 17 = .ok (.ifCond .ge 6, 3) := by decide +kernel
theorem dX5_sheet_20 : decode cX5_sheet 20 = .ok (.bipush (-14), 2) := by decide +kernel
theorem dX5_sheet_22 : decode cX5_sheet 22 = .ok (.ireturn, 1) := by decide +kernel
theorem dX5_sheet_23 : decode cX5_sheet 23 = .ok (.aload_n 0, 1) := by decide +kernel
theorem dX5_sheet_24 : decode cX5_sheet 24 = .ok (.getfield 32, 3) := by decide +kernel
theorem dX5_sheet_27 : decode cX5_sheet 27 = .ok (.iload_n 1, 1) := by decide +kernel
theorem dX5_sheet_28 : decode cX5_sheet 28 = .ok (.iload_n 2, 1) := by decide +kernel
theorem dX5_sheet_29 : decode cX5_sheet 29 = .ok (.iastore, 1) := by decide +kernel
theorem dX5_sheet_30 : decode cX5_sheet 30 = .ok (.aload_n 0, 1) := by decide +kernel
theorem dX5_sheet_31 : decode cX5_sheet 31 = .ok (.getfield 35, 3) := by decide +kernel
theorem dX5_sheet_34 : decode cX5_sheet 34 = .ok (.iload_n 1, 1) := by decide +kernel
theorem dX5_sheet_35 : decode cX5_sheet 35 = .ok (.iload_n 3, 1) := by decide +kernel
theorem dX5_sheet_36 : decode cX5_sheet 36 = .ok (.iastore, 1) := by decide +kernel
theorem dX5_sheet_37 : decode cX5_sheet 37 = .ok (.iconst 0, 1) := by decide +kernel
theorem dX5_sheet_38 : decode cX5_sheet 38 = .ok (.istore 4, 2) := by decide +kernel
theorem dX5_sheet_40 : decode cX5_sheet 40 = .ok (.iload 4, 2) := by decide +kernel
theorem dX5_sheet_42 : decode cX5_sheet 42 = .ok (.bipush 40, 2) := by decide +kernel
theorem dX5_sheet_44 : decode cX5_sheet 44 = .ok (.if_icmp .ge 22, 3) := by decide +kernel
theorem dX5_sheet_47 : decode cX5_sheet 47 = .ok (.aload_n 0, 1) := by decide +kernel
theorem dX5_sheet_48 : decode cX5_sheet 48 = .ok (.getfield 38, 3) := by decide +kernel
theorem dX5_sheet_51 : decode cX5_sheet 51 = .ok (.bipush 40, 2) := by decide +kernel
theorem dX5_sheet_53 : decode cX5_sheet 53 = .ok (.iload_n 1, 1) := by decide +kernel
theorem dX5_sheet_54 : decode cX5_sheet 54 = .ok (.imul, 1) := by decide +kernel
theorem dX5_sheet_55 : decode cX5_sheet 55 = .ok (.iload 4, 2) := by decide +kernel
theorem dX5_sheet_57 : decode cX5_sheet 57 = .ok (.iadd, 1) := by decide +kernel
theorem dX5_sheet_58 : decode cX5_sheet 58 = .ok (.iconst 0, 1) := by decide +kernel
theorem dX5_sheet_59 : decode cX5_sheet 59 = .ok (.iastore, 1) := by decide +kernel
theorem dX5_sheet_60 : decode cX5_sheet 60 = .ok (.iinc 4 1, 3) := by decide +kernel
theorem dX5_sheet_63 : decode cX5_sheet 63 = .ok (.goto (-23), 3) := by decide +kernel
theorem dX5_sheet_66 : decode cX5_sheet 66 = .ok (.iconst 1, 1) := by decide +kernel
theorem dX5_sheet_67 : decode cX5_sheet 67 = .ok (.ireturn, 1) := by decide +kernel
theorem dX5_lay_0 : decode cX5_lay 0 = .ok (.iload_n 1, 1) := by decide +kernel
theorem dX5_lay_1 : decode cX5_lay 1 = .ok (.iconst 0, 1) := by decide +kernel
theorem dX5_lay_2 : decode cX5_lay 2 = .ok (.invokestatic 303, 3) := by decide +kernel
theorem dX5_lay_5 : decode cX5_lay 5 = .ok (.ifCond .ne 5, 3) := by decide +kernel
theorem dX5_lay_8 : decode cX5_lay 8 = .ok (.iconst (-1), 1) := by decide +kernel
theorem dX5_lay_9 : decode cX5_lay 9 = .ok (.ireturn, 1) := by decide +kernel
theorem dX5_lay_10 : decode cX5_lay 10 = .ok (.aload_n 0, 1) := by decide +kernel
theorem dX5_lay_11 : decode cX5_lay 11 = .ok (.getfield 32, 3) := by decide +kernel
theorem dX5_lay_14 : decode cX5_lay 14 = .ok (.iload_n 1, 1) := by decide +kernel
theorem dX5_lay_15 : decode cX5_lay 15 = .ok (.iaload, 1) := by decide +kernel
theorem dX5_lay_16 : decode cX5_lay 16 = .ok (.bipush (-4), 2) := by decide +kernel
theorem dX5_lay_18 : decode cX5_lay 18 = .ok (.if_icmp .ne 6, 3) := by decide +kernel
theorem dX5_lay_21 : decode cX5_lay 21 = .ok (.bipush (-11), 2) := by decide +kernel
theorem dX5_lay_23 : decode cX5_lay 23 = .ok (.ireturn, 1) := by decide +kernel
theorem dX5_lay_24 : decode cX5_lay 24 = .ok (.iload_n 2, 1) := by decide +kernel
theorem dX5_lay_25 : decode cX5_lay 25 = .ok (.i2l, 1) := by decide +kernel
theorem dX5_lay_26 : decode cX5_lay 26 = .ok (.lconst 0, 1) := by decide +kernel
theorem dX5_lay_27 : decode cX5_lay 27 = .ok (.aload_n 0, 1) := by decide +kernel
theorem dX5_lay_28 : decode cX5_lay 28 = .ok (.getfield 35, 3) := by decide +kernel
theorem dX5_lay_31 : decode cX5_lay 31 = .ok (.iload_n 1, 1) := by decide +kernel
theorem dX5_lay_32 : decode cX5_lay 32 = .ok (.iaload, 1) := by decide +kernel
theorem dX5_lay_33 : decode cX5_lay 33 = .ok (.iconst 1, 1) := by decide +kernel
theorem dX5_lay_34 : decode cX5_lay 34 = .ok (.isub, 1) := by decide +kernel
theorem dX5_lay_35 : decode cX5_lay 35 = .ok (.i2l, 1) := by decide +kernel
theorem dX5_lay_36 : decode cX5_lay 36 = .ok (.invokestatic 56, 3) := by decide +kernel
theorem dX5_lay_39 : decode cX5_lay 39 = .ok (.ifCond .ne 6, 3) := by decide +kernel
theorem dX5_lay_42 : decode cX5_lay 42 = .ok (.bipush (-12), 2) := by decide +kernel
theorem dX5_lay_44 : decode cX5_lay 44 = .ok (.ireturn, 1) := by decide +kernel
theorem dX5_lay_45 : decode cX5_lay 45 = .ok (.aload_n 0, 1) := by decide +kernel
theorem dX5_lay_46 : decode cX5_lay 46 = .ok (.getfield 38, 3) := by decide +kernel
theorem dX5_lay_49 : decode cX5_lay 49 = .ok (.bipush 40, 2) := by decide +kernel
theorem dX5_lay_51 : decode cX5_lay 51 = .ok (.iload_n 1, 1) := by decide +kernel
theorem dX5_lay_52 : decode cX5_lay 52 = .ok (.imul, 1) := by decide +kernel
theorem dX5_lay_53 : decode cX5_lay 53 = .ok (.iload_n 2, 1) := by decide +kernel
theorem dX5_lay_54 : decode cX5_lay 54 = .ok (.iadd, 1) := by decide +kernel
theorem dX5_lay_55 : decode cX5_lay 55 = .ok (.aload_n 0, 1) := by decide +kernel
theorem dX5_lay_56 : decode cX5_lay 56 = .ok (.getfield 32, 3) := by decide +kernel
theorem dX5_lay_59 : decode cX5_lay 59 = .ok (.iload_n 1, 1) := by decide +kernel
theorem dX5_lay_60 : decode cX5_lay 60 = .ok (.iaload, 1) := by decide +kernel
theorem dX5_lay_61 : decode cX5_lay 61 = .ok (.ifCond .ne 8, 3) := by decide +kernel
theorem dX5_lay_64 : decode cX5_lay 64 = .ok (.iload_n 3, 1) := by decide +kernel
theorem dX5_lay_65 : decode cX5_lay 65 = .ok (.i2b, 1) := by decide +kernel
theorem dX5_lay_66 : decode cX5_lay 66 = .ok (.goto 19, 3) := by decide +kernel
theorem dX5_lay_69 : decode cX5_lay 69 = .ok (.aload_n 0, 1) := by decide +kernel
theorem dX5_lay_70 : decode cX5_lay 70 = .ok (.getfield 32, 3) := by decide +kernel
theorem dX5_lay_73 : decode cX5_lay 73 = .ok (.iload_n 1, 1) := by decide +kernel
theorem dX5_lay_74 : decode cX5_lay 74 = .ok (.iaload, 1) := by decide +kernel
theorem dX5_lay_75 : decode cX5_lay 75 = .ok (.iconst 1, 1) := by decide +kernel
theorem dX5_lay_76 : decode cX5_lay 76 = .ok (.if_icmp .ne 8, 3) := by decide +kernel
theorem dX5_lay_79 : decode cX5_lay 79 = .ok (.iload_n 3, 1) := by decide +kernel
theorem dX5_lay_80 : decode cX5_lay 80 = .ok (.i2s, 1) := by decide +kernel
theorem dX5_lay_81 : decode cX5_lay 81 = .ok (.goto 4, 3) := by decide +kernel
theorem dX5_lay_84 : decode cX5_lay 84 = .ok (.iload_n 3, 1) := by decide +kernel
theorem dX5_lay_85 : decode cX5_lay 85 = .ok (.iastore, 1) := by decide +kernel
theorem dX5_lay_86 : decode cX5_lay 86 = .ok (.iconst 1, 1) := by decide +kernel
theorem dX5_lay_87 : decode cX5_lay 87 = .ok (.ireturn, 1) := by decide +kernel
theorem dX5_read_0 : decode cX5_read 0 = .ok (.iload_n 1, 1) := by decide +kernel
theorem dX5_read_1 : decode cX5_read 1 = .ok (.iload_n 2, 1) := by decide +kernel
theorem dX5_read_2 : decode cX5_read 2 = .ok (.invokestatic 303, 3) := by decide +kernel
theorem dX5_read_5 : decode cX5_read 5 = .ok (.ifCond .eq 16, 3) := by decide +kernel
theorem dX5_read_8 : decode cX5_read 8 = .ok (.iload 4, 2) := by decide +kernel
theorem dX5_read_10 : decode cX5_read 10 = .ok (.i2l, 1) := by decide +kernel
theorem dX5_read_11 : decode cX5_read 11 = .ok (.lconst 0, 1) := by decide +kernel
theorem dX5_read_12 : decode cX5_read 12 = .ok (.ldc2_w 123, 3) := by decide +kernel
theorem dX5_read_15 : decode cX5_read 15 = .ok (.invokestatic 56, 3) := by decide +kernel
theorem dX5_read_18 : decode cX5_read 18 = .ok (.ifCond .ne 5, 3) := by decide +kernel
theorem dX5_read_21 : decode cX5_read 21 = .ok (.iconst (-1), 1) := by decide +kernel
theorem dX5_read_22 : decode cX5_read 22 = .ok (.ireturn, 1) := by decide +kernel
theorem dX5_read_23 : decode cX5_read 23 = .ok (.iconst 0, 1) := by decide +kernel
theorem dX5_read_24 : decode cX5_read 24 = .ok (.istore 5, 2) := by decide +kernel
theorem dX5_read_26 : decode cX5_read 26 = .ok (.iload 5, 2) := by decide +kernel
theorem dX5_read_28 : decode cX5_read 28 = .ok (.bipush 41, 2) := by decide +kernel
theorem dX5_read_30 : decode cX5_read 30 = .ok (.if_icmp .ge 23, 3) := by decide +kernel
theorem dX5_read_33 : decode cX5_read 33 = .ok (.aload_n 0, 1) := by decide +kernel
theorem dX5_read_34 : decode cX5_read 34 = .ok (.getfield 41, 3) := by decide +kernel
theorem dX5_read_37 : decode cX5_read 37 = .ok (.iload 5, 2) := by decide +kernel
theorem dX5_read_39 : decode cX5_read 39 = .ok (.aload_n 0, 1) := by decide +kernel
theorem dX5_read_40 : decode cX5_read 40 = .ok (.getfield 7, 3) := by decide +kernel
theorem dX5_read_43 : decode cX5_read 43 = .ok (.iload 5, 2) := by decide +kernel
theorem dX5_read_45 : decode cX5_read 45 = .ok (.iaload, 1) := by decide +kernel
theorem dX5_read_46 : decode cX5_read 46 = .ok (.iastore, 1) := by decide +kernel
theorem dX5_read_47 : decode cX5_read 47 = .ok (.iinc 5 1, 3) := by decide +kernel
theorem dX5_read_50 : decode cX5_read 50 = .ok (.goto (-24), 3) := by decide +kernel
theorem dX5_read_53 : decode cX5_read 53 = .ok (.iconst 0, 1) := by decide +kernel
theorem dX5_read_54 : decode cX5_read 54 = .ok (.istore 5, 2) := by decide +kernel
theorem dX5_read_56 : decode cX5_read 56 = .ok (.iconst 0, 1) := by decide +kernel
theorem dX5_read_57 : decode cX5_read 57 = .ok (.istore 6, 2) := by decide +kernel
theorem dX5_read_59 : decode cX5_read 59 = .ok (.iconst 0, 1) := by decide +kernel
theorem dX5_read_60 : decode cX5_read 60 = .ok (.istore 7, 2) := by decide +kernel
theorem dX5_read_62 : decode cX5_read 62 = .ok (.iload 7, 2) := by decide +kernel
theorem dX5_read_64 : decode cX5_read 64 = .ok (.iload 4, 2) := by decide +kernel
theorem dX5_read_66 : decode cX5_read 66 = .ok (.if_icmp .ge 185, 3) := by decide +kernel
theorem dX5_read_69 : decode cX5_read 69 = .ok (.iload 5, 2) := by decide +kernel
theorem dX5_read_71 : decode cX5_read 71 = .ok (.ifCond .ne 180, 3) := by decide +kernel
theorem dX5_read_74 : decode cX5_read 74 = .ok (.iconst 0, 1) := by decide +kernel
theorem dX5_read_75 : decode cX5_read 75 = .ok (.istore 8, 2) := by decide +kernel
theorem dX5_read_77 : decode cX5_read 77 = .ok (.iload 8, 2) := by decide +kernel
theorem dX5_read_79 : decode cX5_read 79 = .ok (.iconst 2, 1) := by decide +kernel
theorem dX5_read_80 : decode cX5_read 80 = .ok (.if_icmp .ge 84, 3) := by decide +kernel
theorem dX5_read_83 : decode cX5_read 83 = .ok (.iload 5, 2) := by decide +kernel
theorem dX5_read_85 : decode cX5_read 85 = .ok (.ifCond .ne 79, 3) := by decide +kernel
theorem dX5_read_88 : decode cX5_read 88 = .ok (.iload_n 3, 1) := by decide +kernel
theorem dX5_read_89 : decode cX5_read 89 = .ok (.i2l, 1) := by decide +kernel
theorem dX5_read_90 : decode cX5_read 90 = .ok (.iconst 2, 1) := by decide +kernel
theorem dX5_read_91 : decode cX5_read 91 = .ok (.iload 7, 2) := by decide +kernel
theorem dX5_read_93 : decode cX5_read 93 = .ok (.imul, 1) := by decide +kernel
theorem dX5_read_94 : decode cX5_read 94 = .ok (.i2l, 1) := by decide +kernel
theorem dX5_read_95 : decode cX5_read 95 = .ok (.ladd, 1) := by decide +kernel
theorem dX5_read_96 : decode cX5_read 96 = .ok (.iload 8, 2) := by decide +kernel
theorem dX5_read_98 : decode cX5_read 98 = .ok (.i2l, 1) := by decide +kernel
theorem dX5_read_99 : decode cX5_read 99 = .ok (.ladd, 1) := by decide +kernel
theorem dX5_read_100 : decode cX5_read 100 = .ok (.lstore 9, 2) := by decide +kernel
theorem dX5_read_102 : decode cX5_read 102 = .ok (.aload_n 0, 1) := by decide +kernel
theorem dX5_read_103 : decode cX5_read 103 = .ok (.getfield 32, 3) := by decide +kernel
theorem dX5_read_106 : decode cX5_read 106 = .ok (.iload_n 1, 1) := by decide +kernel
theorem dX5_read_107 : decode cX5_read 107 = .ok (.iaload, 1) := by decide +kernel
theorem dX5_read_108 : decode cX5_read 108 = .ok (.bipush (-4), 2) := by decide +kernel
theorem dX5_read_110 : decode cX5_read 110 = .ok (.if_icmp .ne 7, 3) := by decide +kernel
theorem dX5_read_113 : decode cX5_read 113 = .ok (.iconst 1, 1) := by decide +kernel
theorem dX5_read_114 : decode cX5_read 114 = .ok (.goto 42, 3) := by decide +kernel
theorem dX5_read_117 : decode cX5_read 117 = .ok (.aload_n 0, 1) := by decide +kernel
theorem dX5_read_118 : decode cX5_read 118 = .ok (.getfield 32, 3) := by decide +kernel
theorem dX5_read_121 : decode cX5_read 121 = .ok (.iload_n 1, 1) := by decide +kernel
theorem dX5_read_122 : decode cX5_read 122 = .ok (.iaload, 1) := by decide +kernel
theorem dX5_read_123 : decode cX5_read 123 = .ok (.iload_n 2, 1) := by decide +kernel
theorem dX5_read_124 : decode cX5_read 124 = .ok (.if_icmp .eq 7, 3) := by decide +kernel
theorem dX5_read_127 : decode cX5_read 127 = .ok (.iconst 3, 1) := by decide +kernel
theorem dX5_read_128 : decode cX5_read 128 = .ok (.goto 28, 3) := by decide +kernel
theorem dX5_read_131 : decode cX5_read 131 = .ok (.lload 9, 2) := by decide +kernel
theorem dX5_read_133 : decode cX5_read 133 = .ok (.lconst 0, 1) := by decide +kernel
theorem dX5_read_134 : decode cX5_read 134 = .ok (.lcmp, 1) := by decide +kernel
theorem dX5_read_135 : decode cX5_read 135 = .ok (.ifCond .lt 16, 3) := by decide +kernel
theorem dX5_read_138 : decode cX5_read 138 = .ok (.lload 9, 2) := by decide +kernel
theorem dX5_read_140 : decode cX5_read 140 = .ok (.aload_n 0, 1) := by decide +kernel
theorem dX5_read_141 : decode cX5_read 141 = .ok (.getfield 35, 3) := by decide +kernel
theorem dX5_read_144 : decode cX5_read 144 = .ok (.iload_n 1, 1) := by decide +kernel
theorem dX5_read_145 : decode cX5_read 145 = .ok (.iaload, 1) := by decide +kernel
theorem dX5_read_146 : decode cX5_read 146 = .ok (.i2l, 1) := by decide +kernel
theorem dX5_read_147 : decode cX5_read 147 = .ok (.lcmp, 1) := by decide +kernel
theorem dX5_read_148 : decode cX5_read 148 = .ok (.ifCond .lt 7, 3) := by decide +kernel
theorem dX5_read_151 : decode cX5_read 151 = .ok (.iconst 2, 1) := by decide +kernel
theorem dX5_read_152 : decode cX5_read 152 = .ok (.goto 4, 3) := by decide +kernel
theorem dX5_read_155 : decode cX5_read 155 = .ok (.iconst 0, 1) := by decide +kernel
theorem dX5_read_156 : decode cX5_read 156 = .ok (.istore 5, 2) := by decide +kernel
theorem dX5_read_158 : decode cX5_read 158 = .ok (.iinc 8 1, 3) := by decide +kernel
theorem dX5_read_161 : decode cX5_read 161 = .ok (.goto (-84), 3) := by decide +kernel
theorem dX5_read_164 : decode cX5_read 164 = .ok (.iload 5, 2) := by decide +kernel
theorem dX5_read_166 : decode cX5_read 166 = .ok (.ifCond .ne 79, 3) := by decide +kernel
theorem dX5_read_169 : decode cX5_read 169 = .ok (.bipush 40, 2) := by decide +kernel
theorem dX5_read_171 : decode cX5_read 171 = .ok (.iload_n 1, 1) := by decide +kernel
theorem dX5_read_172 : decode cX5_read 172 = .ok (.imul, 1) := by decide +kernel
theorem dX5_read_173 : decode cX5_read 173 = .ok (.iload_n 3, 1) := by decide +kernel
theorem dX5_read_174 : decode cX5_read 174 = .ok (.iadd, 1) := by decide +kernel
theorem dX5_read_175 : decode cX5_read 175 = .ok (.iconst 2, 1) := by decide +kernel
theorem dX5_read_176 : decode cX5_read 176 = .ok (.iload 7, 2) := by decide +kernel
theorem dX5_read_178 : decode cX5_read 178 = .ok (.imul, 1) := by decide +kernel
theorem dX5_read_179 : decode cX5_read 179 = .ok (.iadd, 1) := by decide +kernel
theorem dX5_read_180 : decode cX5_read 180 = .ok (.istore 8, 2) := by decide +kernel
theorem dX5_read_182 : decode cX5_read 182 = .ok (.aload_n 0, 1) := by decide +kernel
theorem dX5_read_183 : decode cX5_read 183 = .ok (.aload_n 0, 1) := by decide +kernel
theorem dX5_read_184 : decode cX5_read 184 = .ok (.getfield 38, 3) := by decide +kernel
theorem dX5_read_187 : decode cX5_read 187 = .ok (.iload 8, 2) := by decide +kernel
theorem dX5_read_189 : decode cX5_read 189 = .ok (.iaload, 1) := by decide +kernel
theorem dX5_read_190 : decode cX5_read 190 = .ok (.iconst 2, 1) := by decide +kernel
theorem dX5_read_191 : decode cX5_read 191 = .ok (.aload_n 0, 1) := by decide +kernel
theorem dX5_read_192 : decode cX5_read 192 = .ok (.getfield 38, 3) := by decide +kernel
theorem dX5_read_195 : decode cX5_read 195 = .ok (.iload 8, 2) := by decide +kernel
theorem dX5_read_197 : decode cX5_read 197 = .ok (.iconst 1, 1) := by decide +kernel
theorem dX5_read_198 : decode cX5_read 198 = .ok (.iadd, 1) := by decide +kernel
theorem dX5_read_199 : decode cX5_read 199 = .ok (.iaload, 1) := by decide +kernel
theorem dX5_read_200 : decode cX5_read 200 = .ok (.invokevirtual 306, 3) := by decide +kernel
theorem dX5_read_203 : decode cX5_read 203 = .ok (.ifCond .ge 39, 3) := by decide +kernel
theorem dX5_read_206 : decode cX5_read 206 = .ok (.iconst 0, 1) := by decide +kernel
theorem dX5_read_207 : decode cX5_read 207 = .ok (.istore 9, 2) := by decide +kernel
theorem dX5_read_209 : decode cX5_read 209 = .ok (.iload 9, 2) := by decide +kernel
theorem dX5_read_211 : decode cX5_read 211 = .ok (.bipush 41, 2) := by decide +kernel
theorem dX5_read_213 : decode cX5_read 213 = .ok (.if_icmp .ge 23, 3) := by decide +kernel
theorem dX5_read_216 : decode cX5_read 216 = .ok (.aload_n 0, 1) := by decide +kernel
theorem dX5_read_217 : decode cX5_read 217 = .ok (.getfield 7, 3) := by decide +kernel
theorem dX5_read_220 : decode cX5_read 220 = .ok (.iload 9, 2) := by decide +kernel
theorem dX5_read_222 : decode cX5_read 222 = .ok (.aload_n 0, 1) := by decide +kernel
theorem dX5_read_223 : decode cX5_read 223 = .ok (.getfield 41, 3) := by decide +kernel
theorem dX5_read_226 : decode cX5_read 226 = .ok (.iload 9, 2) := by decide +kernel
theorem dX5_read_228 : decode cX5_read 228 = .ok (.iaload, 1) := by decide +kernel
theorem dX5_read_229 : decode cX5_read 229 = .ok (.iastore, 1) := by decide +kernel
theorem dX5_read_230 : decode cX5_read 230 = .ok (.iinc 9 1, 3) := by decide +kernel
theorem dX5_read_233 : decode cX5_read 233 = .ok (.goto (-24), 3) := by decide +kernel
theorem dX5_read_236 : decode cX5_read 236 = .ok (.bipush (-20), 2) := by decide +kernel
theorem dX5_read_238 : decode cX5_read 238 = .ok (.iload 7, 2) := by decide +kernel
theorem dX5_read_240 : decode cX5_read 240 = .ok (.isub, 1) := by decide +kernel
theorem dX5_read_241 : decode cX5_read 241 = .ok (.ireturn, 1) := by decide +kernel
theorem dX5_read_242 : decode cX5_read 242 = .ok (.iinc 6 1, 3) := by decide +kernel
theorem dX5_read_245 : decode cX5_read 245 = .ok (.iinc 7 1, 3) := by decide +kernel
theorem dX5_read_248 : decode cX5_read 248 = .ok (.goto (-186), 3) := by decide +kernel
theorem dX5_read_251 : decode cX5_read 251 = .ok (.aload_n 0, 1) := by decide +kernel
theorem dX5_read_252 : decode cX5_read 252 = .ok (.iload 5, 2) := by decide +kernel
theorem dX5_read_254 : decode cX5_read 254 = .ok (.putfield 310, 3) := by decide +kernel
theorem dX5_read_257 : decode cX5_read 257 = .ok (.iload 6, 2) := by decide +kernel
theorem dX5_read_259 : decode cX5_read 259 = .ok (.ireturn, 1) := by decide +kernel
theorem dX5_torn_0 : decode cX5_torn 0 = .ok (.aload_n 0, 1) := by decide +kernel
theorem dX5_torn_1 : decode cX5_torn 1 = .ok (.getfield 310, 3) := by decide +kernel
theorem dX5_torn_4 : decode cX5_torn 4 = .ok (.ireturn, 1) := by decide +kernel
theorem dX5_count_0 : decode cX5_count 0 = .ok (.aload_n 0, 1) := by decide +kernel
theorem dX5_count_1 : decode cX5_count 1 = .ok (.invokevirtual 196, 3) := by decide +kernel
theorem dX5_count_4 : decode cX5_count 4 = .ok (.iload_n 1, 1) := by decide +kernel
theorem dX5_count_5 : decode cX5_count 5 = .ok (.tableswitch 107 0 5 #[39, 47, 67, 72, 95, 101], 39) := by decide +kernel
theorem dX5_count_44 : decode cX5_count 44 = .ok (.aload_n 0, 1) := by decide +kernel
theorem dX5_count_45 : decode cX5_count 45 = .ok (.getfield 7, 3) := by decide +kernel
theorem dX5_count_48 : decode cX5_count 48 = .ok (.bipush 28, 2) := by decide +kernel
theorem dX5_count_50 : decode cX5_count 50 = .ok (.iaload, 1) := by decide +kernel
theorem dX5_count_51 : decode cX5_count 51 = .ok (.ireturn, 1) := by decide +kernel
theorem dX5_count_52 : decode cX5_count 52 = .ok (.aload_n 0, 1) := by decide +kernel
theorem dX5_count_53 : decode cX5_count 53 = .ok (.getfield 16, 3) := by decide +kernel
theorem dX5_count_56 : decode cX5_count 56 = .ok (.iconst 0, 1) := by decide +kernel
theorem dX5_count_57 : decode cX5_count 57 = .ok (.baload, 1) := by decide +kernel
theorem dX5_count_58 : decode cX5_count 58 = .ok (.invokestatic 153, 3) := by decide +kernel
theorem dX5_count_61 : decode cX5_count 61 = .ok (.aload_n 0, 1) := by decide +kernel
theorem dX5_count_62 : decode cX5_count 62 = .ok (.getfield 16, 3) := by decide +kernel
theorem dX5_count_65 : decode cX5_count 65 = .ok (.iconst 1, 1) := by decide +kernel
theorem dX5_count_66 : decode cX5_count 66 = .ok (.baload, 1) := by decide +kernel
theorem dX5_count_67 : decode cX5_count 67 = .ok (.invokestatic 153, 3) := by decide +kernel
theorem dX5_count_70 : decode cX5_count 70 = .ok (.iadd, 1) := by decide +kernel
theorem dX5_count_71 : decode cX5_count 71 = .ok (.ireturn, 1) := by decide +kernel
theorem dX5_count_72 : decode cX5_count 72 = .ok (.aload_n 0, 1) := by decide +kernel
theorem dX5_count_73 : decode cX5_count 73 = .ok (.getfield 60, 3) := by decide +kernel
theorem dX5_count_76 : decode cX5_count 76 = .ok (.ireturn, 1) := by decide +kernel
theorem dX5_count_77 : decode cX5_count 77 = .ok (.aload_n 0, 1) := by decide +kernel
theorem dX5_count_78 : decode cX5_count 78 = .ok (.getfield 32, 3) := by decide +kernel
theorem dX5_count_81 : decode cX5_count 81 = .ok (.iconst 0, 1) := by decide +kernel
theorem dX5_count_82 : decode cX5_count 82 = .ok (.iaload, 1) := by decide +kernel
theorem dX5_count_83 : decode cX5_count 83 = .ok (.bipush (-4), 2) := by decide +kernel
theorem dX5_count_85 : decode cX5_count 85 = .ok (.if_icmp .ne 8, 3) := by decide +kernel
theorem dX5_count_88 : decode cX5_count 88 = .ok (.bipush (-4), 2) := by decide +kernel
theorem dX5_count_90 : decode cX5_count 90 = .ok (.goto 9, 3) := by decide +kernel
theorem dX5_count_93 : decode cX5_count 93 = .ok (.aload_n 0, 1) := by decide +kernel
theorem dX5_count_94 : decode cX5_count 94 = .ok (.getfield 35, 3) := by decide +kernel
theorem dX5_count_97 : decode cX5_count 97 = .ok (.iconst 0, 1) := by decide +kernel
theorem dX5_count_98 : decode cX5_count 98 = .ok (.iaload, 1) := by decide +kernel
theorem dX5_count_99 : decode cX5_count 99 = .ok (.ireturn, 1) := by decide +kernel
theorem dX5_count_100 : decode cX5_count 100 = .ok (.aload_n 0, 1) := by decide +kernel
theorem dX5_count_101 : decode cX5_count 101 = .ok (.iconst 2, 1) := by decide +kernel
theorem dX5_count_102 : decode cX5_count 102 = .ok (.invokevirtual 230, 3) := by decide +kernel
theorem dX5_count_105 : decode cX5_count 105 = .ok (.ireturn, 1) := by decide +kernel
theorem dX5_count_106 : decode cX5_count 106 = .ok (.aload_n 0, 1) := by decide +kernel
theorem dX5_count_107 : decode cX5_count 107 = .ok (.iconst 3, 1) := by decide +kernel
theorem dX5_count_108 : decode cX5_count 108 = .ok (.invokevirtual 230, 3) := by decide +kernel
theorem dX5_count_111 : decode cX5_count 111 = .ok (.ireturn, 1) := by decide +kernel
theorem dX5_count_112 : decode cX5_count 112 = .ok (.iconst (-1), 1) := by decide +kernel
theorem dX5_count_113 : decode cX5_count 113 = .ok (.ireturn, 1) := by decide +kernel
end
section
/-! the mini machine: a flat memory over a world of 45 cells that both systems share; contracts over it; a row an instruction -/
/-- the words that move over calls -/
def tb : List Cond := lw_tbl.filter goodWord
theorem tb_good : GoodIn tb tb := fun _ h => ⟨h, good_of_word (List.mem_filter.mp h).2⟩
theorem tb_of {w : Cond} (i : Nat) (h : lw_tbl[i]? = some w) (hg : goodWord w = true) : w ∈ tb := List.mem_filter.mpr ⟨List.mem_of_getElem? h, hg⟩
def isNs : Cond → Bool
  | .fieldLinkNest .. => true
  | .methodLinkNest .. => true
  | _ => false
def nw : List Cond := lw_tbl.filter isNs
theorem nw_of {w : Cond} (i : Nat) (h : lw_tbl[i]? = some w) (hg : isNs w = true) : w ∈ nw := List.mem_filter.mpr ⟨List.mem_of_getElem? h, hg⟩
def NW (U : State) : Prop := ∀ w ∈ nw, va_Nw w U
theorem isNs_on {w : Cond} (h : isNs w = true) : w.onTables = true := by cases w <;> first | rfl | (simp [isNs] at h)
theorem NW.warm {s U : State} (hW : s.WarmedH U.vm) (h : NW s) : NW U := by
  intro w hw
  have h1 := (List.mem_filter.mp hw).2
  have h2 := h w hw
  cases w <;> first
    | exact va_Nw.warmF hW h2
    | exact va_Nw.warmM hW h2
    | (simp [isNs] at h1)
theorem NW.same {u U : State} (hv : u.vm = U.vm) (h : NW u) : NW U := fun w hw => va_Nw.same (isNs_on (List.mem_filter.mp hw).2) hv (h w hw)
theorem NW.of {args : Array Value} {s : State} (h : ∀ w ∈ lw_tbl, w.before args s = true) : NW s := fun w hw => va_Nw.of (isNs_on (List.mem_filter.mp hw).2) (h w (List.mem_filter.mp hw).1)
theorem NW.use {args : Array Value} {s : State} (h : NW s) {w : Cond} (hw : w ∈ nw) : w.before args s = true := va_Nw.use (isNs_on (List.mem_filter.mp hw).2) (h w hw)
/-- the classes: 0 Nut, 1 Sheet, 2 Tape, 3 Teller, 4 WalnutHouses, 5 WalnutHousesModel -/
abbrev cls6 : List vw_C := [(RX0, TX0, 8), (RX1, TX1, 3), (RX2, TX2, 6), (RX3, TX3, 2), (RX4, TX4, 11), (RX5, TX5, 27)]
/-- memory: ints and longs, by place and index -/
abbrev Mm : Type := (Nat → Nat → Int32) × (Nat → Nat → Int64)
/-- the shape of the world. An object: its class, its slots (0 int, 1 long, t + 2: the cell at place t). 10, 11, 12: an array of ints, bytes, booleans, its length; 13, 14: of Nuts, of Sheets, their places -/
def shz : List (Nat × List Nat) := [
  (4, [3, 5, 6, 10, 14, 15, 16, 17, 34, 0, 0]),
  (2, [4, 0, 0, 0, 0, 0]), (11, [160]),
  (3, [0, 0]),
  (0, [7, 8, 9, 0, 0, 0, 0, 0]), (10, [24]), (10, [6]), (10, [6]),
  (0, [11, 12, 13, 0, 0, 0, 0, 0]), (10, [24]), (10, [6]), (10, [6]),
  (13, [16, 20]), (12, [2]), (14, [24, 26, 28, 30]), (10, [21]),
  (0, [19, 20, 21, 0, 0, 0, 0, 0]), (10, [24]), (10, [6]), (10, [6]),
  (0, [23, 24, 25, 0, 0, 0, 0, 0]), (10, [24]), (10, [6]), (10, [6]),
  (1, [27, 0, 0]), (10, [40]), (1, [29, 0, 0]), (10, [40]), (1, [31, 0, 0]), (10, [40]), (1, [33, 0, 0]), (10, [40]),
  (10, [441]),
  (5, [36, 37, 38, 39, 0, 40, 0, 0, 0, 0, 0, 0, 0, 0, 0, 0, 0, 1, 1, 1, 41, 42, 43, 44, 45, 0, 46]),
  (10, [123]), (10, [41]), (12, [2]), (10, [41]), (10, [160]), (10, [21]), (10, [441]), (10, [4]), (10, [4]), (10, [160]), (10, [41])]
def sltV (ad : Nat → Nat) (M : Mm) (p k c : Nat) : Value := match c with
  | 0 => .int (M.1 p k)
  | 1 => .long (M.2 p k)
  | t + 2 => .ref (ad t)
def celE (ad : Nat → Nat) (cT : Nat → ClassId) (M : Mm) (p : Nat) (e : Nat × List Nat) : va_E :=
  if e.1 < 10 then .inr (e.1, e.2.mapIdx (fun k c => sltV ad M p k c))
  else if e.1 < 13 then .inl (cT e.1, e.2.headD 0, .inl (M.1 p))
  else .inl (cT e.1, e.2.length, .inr (.inr (.inr (.inr (fun i => (e.2[i]?).map ad)))))
def wlz (ad : Nat → Nat) (cT : Nat → ClassId) (M : Mm) : va_W := shz.mapIdx (fun p e => (ad p, celE ad cT M p e))
abbrev tyz (cT : Nat → ClassId) : List (ClassId × FieldType) := [(cT 10, .int), (cT 11, .byte), (cT 12, .boolean), (cT 13, .object "WalnutHouses$Nut"), (cT 14, .object "WalnutHouses$Sheet")]
theorem wlz_at {ad : Nat → Nat} {cT : Nat → ClassId} {M : Mm} {p : Nat} {e : Nat × List Nat} (h : shz[p]? = some e) : (wlz ad cT M)[p]? = some (ad p, celE ad cT M p e) := by
  unfold wlz
  rw [List.getElem?_mapIdx, h]
  rfl
/-- what the shape says of a place -/
def fI (p ci k : Nat) : Bool := match shz[p]? with
  | some e => e.1 == ci && decide (e.1 < 10) && e.2[k]? == some 0
  | none => false
def fL (p ci k : Nat) : Bool := match shz[p]? with
  | some e => e.1 == ci && decide (e.1 < 10) && e.2[k]? == some 1
  | none => false
def fR (p ci k t : Nat) : Bool := match shz[p]? with
  | some e => e.1 == ci && decide (e.1 < 10) && e.2[k]? == some (t + 2)
  | none => false
def oC (p ci : Nat) : Bool := match shz[p]? with
  | some e => e.1 == ci && decide (e.1 < 10)
  | none => false
/-- an array of type tag ty (10, 11, 12), length n -/
def aI (ty p n : Nat) : Bool := match shz[p]? with
  | some e => e.1 == ty && (decide (10 ≤ e.1) && decide (e.1 < 13)) && e.2 == [n]
  | none => false
/-- an array of references, length n; at j the place t -/
def aR (ty p n j t : Nat) : Bool := match shz[p]? with
  | some e => e.1 == ty && (e.1 == 13 || e.1 == 14) && e.2.length == n && e.2[j]? == some t
  | none => false
theorem fI_sp {p ci k : Nat} (h : fI p ci k = true) : ∃ ds, shz[p]? = some (ci, ds) ∧ ci < 10 ∧ ds[k]? = some 0 := by
  unfold fI at h
  cases hs : shz[p]? with
  | none => rw [hs] at h; cases h
  | some e =>
    rw [hs] at h
    simp only [Bool.and_eq_true, beq_iff_eq, decide_eq_true_eq] at h
    obtain ⟨⟨h1, h2⟩, h3⟩ := h
    subst h1
    exact ⟨e.2, rfl, h2, h3⟩
theorem fL_sp {p ci k : Nat} (h : fL p ci k = true) : ∃ ds, shz[p]? = some (ci, ds) ∧ ci < 10 ∧ ds[k]? = some 1 := by
  unfold fL at h
  cases hs : shz[p]? with
  | none => rw [hs] at h; cases h
  | some e =>
    rw [hs] at h
    simp only [Bool.and_eq_true, beq_iff_eq, decide_eq_true_eq] at h
    obtain ⟨⟨h1, h2⟩, h3⟩ := h
    subst h1
    exact ⟨e.2, rfl, h2, h3⟩
theorem fR_sp {p ci k t : Nat} (h : fR p ci k t = true) : ∃ ds, shz[p]? = some (ci, ds) ∧ ci < 10 ∧ ds[k]? = some (t + 2) := by
  unfold fR at h
  cases hs : shz[p]? with
  | none => rw [hs] at h; cases h
  | some e =>
    rw [hs] at h
    simp only [Bool.and_eq_true, beq_iff_eq, decide_eq_true_eq] at h
    obtain ⟨⟨h1, h2⟩, h3⟩ := h
    subst h1
    exact ⟨e.2, rfl, h2, h3⟩
theorem oC_sp {p ci : Nat} (h : oC p ci = true) : ∃ ds, shz[p]? = some (ci, ds) ∧ ci < 10 := by
  unfold oC at h
  cases hs : shz[p]? with
  | none => rw [hs] at h; cases h
  | some e =>
    rw [hs] at h
    simp only [Bool.and_eq_true, beq_iff_eq, decide_eq_true_eq] at h
    obtain ⟨h1, h2⟩ := h
    subst h1
    exact ⟨e.2, rfl, h2⟩
theorem aI_sp {ty p n : Nat} (h : aI ty p n = true) : shz[p]? = some (ty, [n]) ∧ 10 ≤ ty ∧ ty < 13 := by
  unfold aI at h
  cases hs : shz[p]? with
  | none => rw [hs] at h; cases h
  | some e =>
    rw [hs] at h
    simp only [Bool.and_eq_true, beq_iff_eq, decide_eq_true_eq] at h
    obtain ⟨⟨h1, h2, h3⟩, h4⟩ := h
    subst h1
    exact ⟨by rw [← h4], h2, h3⟩
theorem aR_sp {ty p n j t : Nat} (h : aR ty p n j t = true) : ∃ ds, shz[p]? = some (ty, ds) ∧ (ty = 13 ∨ ty = 14) ∧ ds.length = n ∧ ds[j]? = some t := by
  unfold aR at h
  cases hs : shz[p]? with
  | none => rw [hs] at h; cases h
  | some e =>
    rw [hs] at h
    simp only [Bool.and_eq_true, Bool.or_eq_true, beq_iff_eq] at h
    obtain ⟨⟨⟨h1, h2⟩, h3⟩, h4⟩ := h
    subst h1
    exact ⟨e.2, rfl, h2, h3, h4⟩
/-- writing -/
def mput (M : Mm) (p k : Nat) (x : Int32) : Mm := (fun a => if a = p then upd (M.1 p) k x else M.1 a, M.2)
def mputL (M : Mm) (p k : Nat) (x : Int64) : Mm := (M.1, fun a => if a = p then vp_updL (M.2 p) k x else M.2 a)
def mset (M : Mm) (p : Nat) (f : Nat → Int32) : Mm := (fun a => if a = p then f else M.1 a, M.2)
theorem celE_obj {ad : Nat → Nat} {cT : Nat → ClassId} {M : Mm} {p ci : Nat} {ds : List Nat} (h : ci < 10) : celE ad cT M p (ci, ds) = .inr (ci, ds.mapIdx (fun k c => sltV ad M p k c)) := by
  unfold celE; rw [if_pos h]
theorem celE_arr {ad : Nat → Nat} {cT : Nat → ClassId} {M : Mm} {p ty n : Nat} (h1 : 10 ≤ ty) (h2 : ty < 13) : celE ad cT M p (ty, [n]) = .inl (cT ty, n, .inl (M.1 p)) := by
  unfold celE; rw [if_neg (Nat.not_lt.mpr h1), if_pos h2]; rfl
theorem celE_ra {ad : Nat → Nat} {cT : Nat → ClassId} {M : Mm} {p ty : Nat} {ds : List Nat} (h : ty = 13 ∨ ty = 14) : celE ad cT M p (ty, ds) = .inl (cT ty, ds.length, .inr (.inr (.inr (.inr (fun i => (ds[i]?).map ad))))) := by
  unfold celE
  rw [if_neg (show ¬ ty < 10 by omega), if_neg (show ¬ ty < 13 by omega)]
theorem celE_ne {ad : Nat → Nat} {cT : Nat → ClassId} {M M' : Mm} {p : Nat} {e : Nat × List Nat} (h1 : M'.1 p = M.1 p) (h2 : M'.2 p = M.2 p) : celE ad cT M' p e = celE ad cT M p e := by
  have hs : ∀ k c, sltV ad M' p k c = sltV ad M p k c := by
    intro k c
    unfold sltV
    match c with
    | 0 => rw [h1]
    | 1 => rw [h2]
    | t + 2 => rfl
  unfold celE
  simp only [hs, h1]
theorem wlz_set {ad : Nat → Nat} {cT : Nat → ClassId} {M M' : Mm} {p : Nat} {e : Nat × List Nat} {x : va_E} (h : shz[p]? = some e) (h0 : celE ad cT M' p e = x) (h1 : ∀ q, q ≠ p → M'.1 q = M.1 q) (h2 : ∀ q, q ≠ p → M'.2 q = M.2 q) : (wlz ad cT M).set p (ad p, x) = wlz ad cT M' := by
  apply List.ext_getElem?
  intro k
  by_cases hk : k = p
  · subst hk
    rw [wlz_at h, h0]
    have hl : k < (wlz ad cT M).length := (List.getElem?_eq_some_iff.mp (wlz_at (ad := ad) (cT := cT) (M := M) h)).1
    rw [List.getElem?_set_self hl]
  · rw [List.getElem?_set_ne (Ne.symm hk)]
    unfold wlz
    rw [List.getElem?_mapIdx, List.getElem?_mapIdx]
    cases hs : shz[k]? with
    | none => rfl
    | some e => simp only [Option.map_some]; rw [celE_ne (h1 k hk) (h2 k hk)]
theorem wlz_len {ad : Nat → Nat} {cT : Nat → ClassId} {M : Mm} : (wlz ad cT M).length = 45 := by unfold wlz; rw [List.length_mapIdx]; rfl
theorem wlz_adr {ad : Nat → Nat} {cT : Nat → ClassId} {M : Mm} {k : Nat} {q : Nat × va_E} (h : (wlz ad cT M)[k]? = some q) : q.1 = ad k ∧ k < 45 := by
  have hl := (List.getElem?_eq_some_iff.mp h).1
  rw [wlz_len] at hl
  unfold wlz at h
  rw [List.getElem?_mapIdx] at h
  cases hs : shz[k]? with
  | none => rw [hs] at h; cases h
  | some e => rw [hs] at h; cases h; exact ⟨rfl, hl⟩
theorem wlz_some {ad : Nat → Nat} {cT : Nat → ClassId} (M : Mm) {k : Nat} (h : k < 45) : ∃ x, (wlz ad cT M)[k]? = some (ad k, x) := by
  have hl : k < (wlz ad cT M).length := by rw [wlz_len]; exact h
  have h1 := List.getElem?_eq_getElem hl
  have h2 := wlz_adr h1
  refine ⟨((wlz ad cT M)[k]).2, ?_⟩
  rw [h1, ← h2.1]
theorem wlz_D {A : Nat → Prop} {ad : Nat → Nat} {cT : Nat → ClassId} {M M' : Mm} (h : va_D A (wlz ad cT M)) : va_D A (wlz ad cT M') := by
  refine ⟨fun i j p q hi hj hpq => ?_, fun k q hk => ?_⟩
  · obtain ⟨a1, b1⟩ := wlz_adr hi
    obtain ⟨a2, b2⟩ := wlz_adr hj
    obtain ⟨x, hx⟩ := wlz_some (ad := ad) (cT := cT) M b1
    obtain ⟨y, hy⟩ := wlz_some (ad := ad) (cT := cT) M b2
    exact h.1 i j _ _ hx hy (by show ad i = ad j; rw [← a1, ← a2]; exact hpq)
  · obtain ⟨a1, b1⟩ := wlz_adr hk
    obtain ⟨x, hx⟩ := wlz_some (ad := ad) (cT := cT) M b1
    rw [a1]
    exact h.2 k _ hx
/-- what a method may change -/
def AAz (ad : Nat → Nat) (sz : Nat) : Nat → Prop := fun q => (∃ k, k < 45 ∧ q = ad k) ∨ sz ≤ q
theorem wlz_DA {ad : Nat → Nat} {cT : Nat → ClassId} {M : Mm} {A : Nat → Prop} {sz : Nat} (h : va_D A (wlz ad cT M)) : va_D (AAz ad sz) (wlz ad cT M) :=
  ⟨h.1, fun _ _ hk => Or.inl ⟨_, (wlz_adr hk).2, (wlz_adr hk).1⟩⟩
/-- values with places for addresses -/
def cvz (ad : Nat → Nat) : Value → Value
  | .ref a => .ref (ad a)
  | v => v
theorem cvz_cat (ad : Nat → Nat) (v : Value) : (cvz ad v).category = v.category := by cases v <;> rfl
def cvq (ad : Nat → Nat) (q : Nat × Value) : Nat × Value := (q.1, cvz ad q.2)
theorem cvz_args (ad : Nat → Nat) : ∀ (vs : List Value) (n : Nat), lv_args n (vs.map (cvz ad)) = (lv_args n vs).map (cvq ad) := by
  intro vs
  induction vs with
  | nil => intro n; rfl
  | cons v vs ih => intro n; simp only [List.map_cons, lv_args, ih, cvz_cat]; rfl
/-- the constants: TOP_OF at 50, TIRES at 51, five texts at 60 .. 64, their bytes at 70 .. 74 -/
def topz (j : Nat) : Int32 := [3, 1, 20, 20, 20].getD j 0
def tirz (j : Nat) : Int32 := [1, 0, 2, 3].getD j 0
def lenz : List Nat := [5, 4, 7, 6, 6]
def bytz : List (List Int32) := [[112, 108, 97, 105, 110], [119, 104, 105, 112], [100, 111, 117, 98, 116, 101, 114], [109, 97, 103, 103, 111, 116], [109, 111, 116, 105, 111, 110]]
def ZSz (ad : Nat → Nat) (A : Nat → Prop) (U : State) (H : Heap) : Prop :=
  va_Z "WalnutHouses" "TOP_OF" "[I" (.ref (ad 50)) A U H ∧ va_T .int (ad 50) 5 (fun j => .int (topz j)) A U H ∧
  va_Z "WalnutHouses" "TIRES" "[I" (.ref (ad 51)) A U H ∧ va_T .int (ad 51) 4 (fun j => .int (tirz j)) A U H ∧
  va_Z "java/lang/String" "COMPACT_STRINGS" "Z" (.int 1) A U H ∧ va_Zq "jdk/internal/util/Preconditions" "SIOOBE_FORMATTER" "Ljava/util/function/BiFunction;" A U H ∧
  vk_S 5 lenz bytz (fun i => ad (60 + i)) (fun i => ad (70 + i)) A U H
theorem ZSz.moved {ad : Nat → Nat} {A : Nat → Prop} {u U : State} {H : Heap} (hvm : u.vm.Alike U.vm) (h : ZSz ad A u H) : ZSz ad A U H := by
  obtain ⟨h1, h2, h3, h4, h5, h6, h7⟩ := h
  exact ⟨h1.moved hvm, h2.moved hvm, h3.moved hvm, h4.moved hvm, h5.moved hvm, h6.moved hvm, h7.moved hvm⟩
theorem ZSz.kept {ad : Nat → Nat} {A : Nat → Prop} {U : State} {H H1 : Heap} (h : ZSz ad A U H) (hq : ∀ a : Nat, a < H.size → ¬ A a → H1[a]? = H[a]?) : ZSz ad A U H1 := by
  obtain ⟨h1, h2, h3, h4, h5, h6, h7⟩ := h
  exact ⟨h1.kept hq, h2.kept hq, h3.kept hq, h4.kept hq, h5.kept hq, h6.kept hq, h7.kept hq⟩
theorem ZSz.narrow {ad : Nat → Nat} {A B : Nat → Prop} {U : State} {H : Heap} (h : ZSz ad A U H) (hAB : ∀ q, B q → A q) : ZSz ad B U H := by
  obtain ⟨h1, h2, h3, h4, h5, h6, h7⟩ := h
  exact ⟨h1.narrow hAB, h2.narrow hAB, h3.narrow hAB, h4.narrow hAB, h5.narrow hAB, h6.narrow hAB, h7.narrow hAB⟩
/-- the texts' own links -/
def RSz (ad : Nat → Nat) (U : State) : Prop :=
  vk_R RX3 57 "plain" (ad 60) U ∧ vk_R RX3 63 "whip" (ad 61) U ∧ vk_R RX3 65 "doubter" (ad 62) U ∧ vk_R RX3 67 "maggot" (ad 63) U ∧ vk_R RX3 69 "motion" (ad 64) U
theorem RSz.same {ad : Nat → Nat} {u U : State} (hv : U.vm = u.vm) (h : RSz ad u) : RSz ad U := ⟨h.1.same hv, h.2.1.same hv, h.2.2.1.same hv, h.2.2.2.1.same hv, h.2.2.2.2.same hv⟩
theorem RSz.warm {ad : Nat → Nat} {s U : State} (hW : s.WarmedH U.vm) (h : RSz ad s) : RSz ad U := ⟨h.1.warm hW, h.2.1.warm hW, h.2.2.1.warm hW, h.2.2.2.1.warm hW, h.2.2.2.2.warm hW⟩
end
section
/-! the judgement over the mini machine, contracts, rows -/
abbrev Cxz : Type := Program × Launch × Env × Room × State × MethodId × Array Value × List Frame × Method × Code × Nat × Nat × (State → Prop) × va_G × (Nat → ClassId) × (Nat → Nat) × Nat
/-- the locals: a list by index; null: not known -/
def nnz : Value → Bool
  | .null => false
  | _ => true
theorem nnz_sp {v : Value} : nnz v = true ↔ v ≠ .null := by cases v <;> simp [nnz]
def lvK (ad : Nat → Nat) (lv : List Value) : List (Nat × Value) := (List.range lv.length).filterMap (fun j => (lv[j]?).bind (fun v => if nnz v = true then some (j, cvz ad v) else none))
theorem lvK_mem {ad : Nat → Nat} {lv : List Value} {q : Nat × Value} : q ∈ lvK ad lv ↔ ∃ v, lv[q.1]? = some v ∧ v ≠ .null ∧ q.2 = cvz ad v := by
  unfold lvK
  rw [List.mem_filterMap]
  constructor
  · rintro ⟨j, hj, h⟩
    cases hv : lv[j]? with
    | none => rw [hv] at h; cases h
    | some v =>
      rw [hv, Option.bind_some] at h
      by_cases hn : nnz v = true
      · rw [if_pos hn] at h
        cases h
        exact ⟨v, hv, nnz_sp.mp hn, rfl⟩
      · rw [if_neg hn] at h; cases h
  · rintro ⟨v, h1, h2, h3⟩
    refine ⟨q.1, List.mem_range.mpr (List.getElem?_eq_some_iff.mp h1).1, ?_⟩
    rw [h1, Option.bind_some, if_pos (nnz_sp.mpr h2), ← h3]
def Gz (X : Cxz) (pc : Nat) (lv : List Value) (st : List Value) (M : Mm) : Prop := match X with
  | (p, l, e, R, s, m, args, below, meth, c, cells, slots, Q, D, cT, ad, nL) => ∀ (H : Heap) (locs : List Loc) (ls : Array Slot), lv_has ls nL (lvK ad lv) → va_P D cls6 (wlz ad cT M) H → va_D (AAz ad s.heap.size) (wlz ad cT M) → va_S (AAz ad s.heap.size) s.heap H locs → W p l e R s m args below meth c H locs cells slots Q (F0 m pc ls (st.map (cvz ad)))
def Okz (X : Cxz) (cc : ByteArray) (own : String) (d : Nat) : Prop := match X with
  | (p, l, e, R, s, m, args, below, meth, c, cells, slots, Q, D, cT, ad, nL) => p.tables.exec = Jvm.exec ∧ c.code = cc ∧ c.maxLocals = nL ∧ s.vm.findClass own = some m.cls ∧ (∀ w ∈ tb, w.before args s = true) ∧ NW s ∧ RSz ad s ∧ va_K D cls6 (tyz cT) s ∧ ZSz ad (AAz ad s.heap.size) s s.heap ∧ (cells ≤ R.cells ∧ slots ≤ R.slots ∧ d ≤ R.frames ∧ 36 * d ≤ R.locals)
def CQz (D : va_G) (cT : Nat → ClassId) (ad : Nat → Nat) (A : Nat → Prop) (Po : Option Value → Mm → Prop) : Array Value → State → Outcome → State → Prop := fun _ st oc t =>
  (∃ r, oc = .returned r ∧ ∃ (r0 : Option Value) (M' : Mm), r = r0.map (cvz ad) ∧ Po r0 M' ∧ va_P D cls6 (wlz ad cT M') t.heap) ∧ va_F A st t
def Rtz (X : Cxz) (ret : Option FieldType) (Po : Option Value → Mm → Prop) : Prop := match X with
  | (p, l, e, R, s, m, args, below, meth, c, cells, slots, Q, D, cT, ad, nL) => meth.sig.returnType = ret ∧ meth.locks = false ∧ Q = MQ below (CQz D cT ad (AAz ad s.heap.size) Po) args s cells slots (AAz ad s.heap.size)
def rmz (d : Nat) : Room := { frames := d, cells := 0, slots := 0, locals := 36 * d }
def CPz (D : va_G) (cT : Nat → ClassId) (ad : Nat → Nat) (sz : Nat) (M : Mm) (U : State) : Prop :=
  U.heap.size = sz ∧ va_P D cls6 (wlz ad cT M) U.heap ∧ va_K D cls6 (tyz cT) U ∧ va_D (fun _ => True) (wlz ad cT M) ∧ NW U ∧ RSz ad U ∧ ZSz ad (AAz ad sz) U U.heap
/-- a contract: called with these arguments at this memory, y returns with Po -/
def Clz (l : Launch) (d : Nat) (y : MethodName) (bytes : ByteArray) (maxL : Nat) (ret : Option FieldType) (av : List Value) (M : Mm) (Po : Option Value → Mm → Prop) : Prop :=
  ∀ (D : va_G) (cT : Nat → ClassId) (ad : Nat → Nat) (sz : Nat), Met l y (.code y bytes maxL ret :: tb) (rmz d) (va_Pc (av.map (cvz ad)) (CPz D cT ad sz M)) (CQz D cT ad (AAz ad sz) Po) 0 0 (AAz ad sz)
def lvA (av : List Value) (n : Nat) : List Value := (av.flatMap fun v => if v.category = 2 then [v, .null] else [v]) ++ List.replicate (n - (av.flatMap fun v => if v.category = 2 then [v, Value.null] else [v]).length) .null
theorem lvA_args : ∀ (av : List Value) (i : Nat) (pre : List Value) (n j : Nat) (v : Value), pre.length = i → (pre ++ ((av.flatMap fun v => if v.category = 2 then [v, .null] else [v]) ++ List.replicate n Value.null))[j]? = some v → v ≠ .null → i ≤ j → (j, v) ∈ lv_args i av := by
  intro av
  induction av with
  | nil =>
    intro i pre n j v hi hj hn hij
    exfalso
    rw [List.flatMap_nil, List.nil_append, List.getElem?_append_right (by omega)] at hj
    have := List.getElem?_eq_some_iff.mp hj
    obtain ⟨h1, h2⟩ := this
    rw [List.getElem_replicate] at h2
    exact hn h2.symm
  | cons a av ih =>
    intro i pre n j v hi hj hn hij
    unfold lv_args
    rw [List.flatMap_cons] at hj
    by_cases hji : j = i
    · subst hji
      rw [List.getElem?_append_right (by omega), hi, Nat.sub_self] at hj
      by_cases hc : a.category = 2
      · rw [if_pos hc] at hj
        simp at hj
        rw [hj]; exact List.mem_cons_self
      · rw [if_neg hc] at hj
        simp at hj
        rw [hj]; exact List.mem_cons_self
    · refine List.mem_cons_of_mem _ ?_
      by_cases hc : a.category = 2
      · rw [if_pos hc] at hj ⊢
        by_cases hj2 : j = i + 1
        · exfalso
          rw [List.getElem?_append_right (by omega), hi, hj2, Nat.add_sub_cancel_left] at hj
          simp at hj
          exact hn hj.symm
        · exact ih (i + 2) (pre ++ [a, .null]) n j v (by simp; omega) (by rw [List.append_assoc]; rw [List.append_assoc] at hj; exact hj) hn (by omega)
      · rw [if_neg hc] at hj ⊢
        exact ih (i + 1) (pre ++ [a]) n j v (by simp; omega) (by rw [List.append_assoc]; rw [List.append_assoc] at hj; exact hj) hn (by omega)
theorem lg_sl_cv (ad : Nat → Nat) : ∀ av : List Value, (lg_sl (av.map (cvz ad))).length = (av.flatMap fun v => if v.category = 2 then [v, Value.null] else [v]).length := by
  intro av
  unfold lg_sl
  induction av with
  | nil => rfl
  | cons v av ih =>
    rw [List.map_cons, List.flatMap_cons, List.flatMap_cons, List.length_append, List.length_append, ih, cvz_cat]
    by_cases h : v.category = 2
    · rw [if_pos h, if_pos h]; rfl
    · rw [if_neg h, if_neg h]; rfl
theorem Clz.of {l : Launch} {d : Nat} {y : MethodName} {bytes : ByteArray} {maxL : Nat} {ret : Option FieldType} {av : List Value} {M : Mm} {Po : Option Value → Mm → Prop} (own : String) (ho : y.cls = own) (hy : plainName y.cls = true) (hm : (av.flatMap fun v => if v.category = 2 then [v, Value.null] else [v]).length ≤ maxL)
    (body : ∀ X : Cxz, X.2.1 = l → Okz X bytes own d → Rtz X ret Po → Gz X 0 (lvA av maxL) [] M) : Clz l d y bytes maxL ret av M Po := by
  intro D cT ad sz
  subst ho
  refine Met.ofW (cc := bytes) (maxL := maxL) (ret := ret) hy rfl ?_
  intro p e s m args below meth c s₁ B hml hv
  obtain ⟨rfl, hsz, hP, hK, hD0, hN, hR, hZ⟩ := hv
  subst hsz
  have hts := atoms_spec (ws := Cond.code y bytes maxL ret :: tb) B.pre
  have b := body (p, l, e, (headSpec (Cond.code y bytes maxL ret :: tb) (rmz d)).room, s, m, (av.map (cvz ad)).toArray, below, meth, c, 0, 0, MQ below (CQz D cT ad (AAz ad s.heap.size) Po) (av.map (cvz ad)).toArray s 0 0 (AAz ad s.heap.size), D, cT, ad, maxL) rfl
    ⟨B.exec, B.bytes, hml, findClass_of_methodNamed B.named, fun w hw => hts w (List.mem_cons_of_mem _ hw), hN, hR, hK, hZ, Nat.zero_le _, Nat.zero_le _, Nat.le_refl _, Nat.le_refl _⟩ ⟨B.returns, B.notSynchronized, rfl⟩
  rw [lg_entry_eq]
  have hl := lv_entry (av.map (cvz ad)) (n := maxL) (by rw [lg_sl_cv]; exact hm)
  refine b s.heap [] _ ⟨hl.1, hl.2.1, fun q hq => ?_⟩ hP (wlz_DA hD0) va_S.rf
  obtain ⟨v, h1, h2, h3⟩ := lvK_mem.mp hq
  refine hl.2.2 q ?_
  rw [cvz_args]
  refine List.mem_map.mpr ⟨(q.1, v), lvA_args av 0 [] _ q.1 v rfl h1 h2 (Nat.zero_le _), ?_⟩
  show (q.1, cvz ad v) = q
  rw [← h3]
/-- storing a local -/
def isLg : Option Value → Bool
  | some (.long _) => true
  | _ => false
def lvS (lv : List Value) (i : Nat) (v : Value) : List Value := match i with
  | 0 => lv.set 0 v
  | j + 1 => (bif isLg (lv[j]?) then lv.set j .null else lv).set (j + 1) v
def lvS2 (lv : List Value) (i : Nat) (v : Value) : List Value := (lvS lv i v).set (i + 1) .null
theorem lvS_get {lv : List Value} {i j : Nat} {v w : Value} (hd : ∀ (k : Nat) x, lv[k]? ≠ some (.double x)) (h : (lvS lv i v)[j]? = some w) (hn : w ≠ .null) : (j = i ∧ w = v) ∨ (j ≠ i ∧ lv[j]? = some w ∧ ¬ (j + 1 = i ∧ w.category = 2)) := by
  have key : ∀ (n : Nat) (lv' : List Value), (lv'.set n v)[j]? = some w → (j = n ∧ w = v) ∨ (j ≠ n ∧ lv'[j]? = some w) := by
    intro n lv' h
    by_cases hj : j = n
    · subst hj
      left
      refine ⟨rfl, ?_⟩
      have hl := (List.getElem?_eq_some_iff.mp h).1
      rw [List.getElem?_set_self (by rw [List.length_set] at hl; exact hl)] at h
      exact (Option.some.inj h).symm
    · right
      rw [List.getElem?_set_ne (Ne.symm hj)] at h
      exact ⟨hj, h⟩
  cases i with
  | zero =>
    rcases key 0 lv h with h1 | ⟨h1, h2⟩
    · exact Or.inl h1
    · exact Or.inr ⟨h1, h2, fun z => by omega⟩
  | succ k =>
    rcases key (k + 1) _ h with h1 | ⟨h1, h2⟩
    · exact Or.inl h1
    · right
      cases hL : isLg (lv[k]?) with
      | true =>
        rw [hL, cond_true] at h2
        by_cases hjk : j = k
        · subst hjk
          have hl := (List.getElem?_eq_some_iff.mp h2).1
          rw [List.getElem?_set_self (by rw [List.length_set] at hl; exact hl)] at h2
          exact absurd (Option.some.inj h2).symm hn
        · rw [List.getElem?_set_ne (Ne.symm hjk)] at h2
          exact ⟨h1, h2, fun z => by omega⟩
      | false =>
        rw [hL, cond_false] at h2
        refine ⟨h1, h2, fun z => ?_⟩
        have hjk : j = k := by omega
        subst hjk
        rw [h2] at hL
        cases w with
        | long x => simp [isLg] at hL
        | double x => exact hd _ _ h2
        | _ => exact absurd z.2 (by simp [Value.category])
/-- no double among the locals -/
def ndz (lv : List Value) : Bool := lv.all (fun v => match v with
  | .double _ => false
  | _ => true)
theorem ndz_sp {lv : List Value} (h : ndz lv = true) : ∀ (k : Nat) x, lv[k]? ≠ some (.double x) := by
  intro k x hk
  have := List.all_eq_true.mp h _ (List.mem_of_getElem? hk)
  simp at this
theorem lvS_has {ad : Nat → Nat} {ls' : Array Slot} {nL i : Nat} {lv : List Value} {v : Value} (hd : ndz lv = true) (hv : v ≠ .null) (h : lv_has ls' nL ((i, cvz ad v) :: (lvK ad lv).filter (fun q => !(q.1 == i) && !(q.1 + 1 == i && q.2.category == 2)))) : lv_has ls' nL (lvK ad (lvS lv i v)) := by
  refine ⟨h.1, h.2.1, fun q hq => h.2.2 q ?_⟩
  obtain ⟨w, h1, h2, h3⟩ := lvK_mem.mp hq
  rcases lvS_get (ndz_sp hd) h1 h2 with ⟨h4, h5⟩ | ⟨h4, h5, h6⟩
  · have : q = (i, cvz ad v) := by rw [← h4, ← h5, ← h3]
    rw [this]; exact List.mem_cons_self
  · refine List.mem_cons_of_mem _ (List.mem_filter.mpr ⟨lvK_mem.mpr ⟨w, h5, h2, h3⟩, ?_⟩)
    rw [h3, cvz_cat]
    simp only [Bool.and_eq_true, Bool.not_eq_true', beq_eq_false_iff_ne, ne_eq, Bool.and_eq_false_imp, beq_iff_eq]
    exact ⟨h4, fun a b => h6 ⟨a, b⟩⟩
theorem lvS2_has {ad : Nat → Nat} {ls' : Array Slot} {nL i : Nat} {lv : List Value} {v : Value} (hd : ndz lv = true) (hv : v ≠ .null) (h : lv_has ls' nL ((i, cvz ad v) :: (lvK ad lv).filter (fun q => !(q.1 == i) && (!(q.1 == i + 1) && !(q.1 + 1 == i && q.2.category == 2))))) : lv_has ls' nL (lvK ad (lvS2 lv i v)) := by
  refine ⟨h.1, h.2.1, fun q hq => h.2.2 q ?_⟩
  obtain ⟨w, h1, h2, h3⟩ := lvK_mem.mp hq
  unfold lvS2 at h1
  by_cases hq1 : q.1 = i + 1
  · rw [hq1] at h1
    have hl := (List.getElem?_eq_some_iff.mp h1).1
    rw [List.getElem?_set_self (by rw [List.length_set] at hl; exact hl)] at h1
    exact absurd (Option.some.inj h1).symm h2
  · rw [List.getElem?_set_ne (Ne.symm hq1)] at h1
    rcases lvS_get (ndz_sp hd) h1 h2 with ⟨h4, h5⟩ | ⟨h4, h5, h6⟩
    · have : q = (i, cvz ad v) := by rw [← h4, ← h5, ← h3]
      rw [this]; exact List.mem_cons_self
    · refine List.mem_cons_of_mem _ (List.mem_filter.mpr ⟨lvK_mem.mpr ⟨w, h5, h2, h3⟩, ?_⟩)
      rw [h3, cvz_cat]
      simp only [Bool.and_eq_true, Bool.not_eq_true', beq_eq_false_iff_ne, ne_eq, Bool.and_eq_false_imp, beq_iff_eq]
      exact ⟨h4, hq1, fun a b => h6 ⟨a, b⟩⟩
theorem lvK_at {ad : Nat → Nat} {ls : Array Slot} {nL : Nat} {lv : List Value} (h : lv_has ls nL (lvK ad lv)) {i : Nat} {v : Value} (hv : lv[i]? = some v) (hn : v ≠ .null) : ls[i]? = some (.val (cvz ad v)) := h.2.2 (i, cvz ad v) (lvK_mem.mpr ⟨v, hv, hn, rfl⟩)
section RW
variable {X : Cxz} {cc : ByteArray} {own : String} {d pc : Nat} {lv st : List Value} {M : Mm}
theorem r_iadd {x y : Int32} (h : Okz X cc own d) (hd : decode cc pc = .ok (.iadd, 1)) (k : Gz X (pc + 1) lv (.int (x + y) :: st) M) : Gz X pc lv (.int y :: .int x :: st) M := by
  obtain ⟨p, l, e, R, s, m, args, below, meth, c, cells, slots, Q, D, cT, ad, nL⟩ := X
  intro H locs ls hl hP hD hS
  exact lv_iadd (x := x) (y := y) (rest := st.map (cvz ad)) h.1 h.2.1 hd (k H locs ls hl hP hD hS)
theorem r_isub {x y : Int32} (h : Okz X cc own d) (hd : decode cc pc = .ok (.isub, 1)) (k : Gz X (pc + 1) lv (.int (x - y) :: st) M) : Gz X pc lv (.int y :: .int x :: st) M := by
  obtain ⟨p, l, e, R, s, m, args, below, meth, c, cells, slots, Q, D, cT, ad, nL⟩ := X
  intro H locs ls hl hP hD hS
  exact lv_isub (x := x) (y := y) (rest := st.map (cvz ad)) h.1 h.2.1 hd (k H locs ls hl hP hD hS)
theorem r_imul {x y : Int32} (h : Okz X cc own d) (hd : decode cc pc = .ok (.imul, 1)) (k : Gz X (pc + 1) lv (.int (x * y) :: st) M) : Gz X pc lv (.int y :: .int x :: st) M := by
  obtain ⟨p, l, e, R, s, m, args, below, meth, c, cells, slots, Q, D, cT, ad, nL⟩ := X
  intro H locs ls hl hP hD hS
  exact lv_imul (x := x) (y := y) (rest := st.map (cvz ad)) h.1 h.2.1 hd (k H locs ls hl hP hD hS)
theorem r_iand {x y : Int32} (h : Okz X cc own d) (hd : decode cc pc = .ok (.iand, 1)) (k : Gz X (pc + 1) lv (.int (x &&& y) :: st) M) : Gz X pc lv (.int y :: .int x :: st) M := by
  obtain ⟨p, l, e, R, s, m, args, below, meth, c, cells, slots, Q, D, cT, ad, nL⟩ := X
  intro H locs ls hl hP hD hS
  exact lv_iand (x := x) (y := y) (rest := st.map (cvz ad)) h.1 h.2.1 hd (k H locs ls hl hP hD hS)
theorem r_ior {x y : Int32} (h : Okz X cc own d) (hd : decode cc pc = .ok (.ior, 1)) (k : Gz X (pc + 1) lv (.int (x ||| y) :: st) M) : Gz X pc lv (.int y :: .int x :: st) M := by
  obtain ⟨p, l, e, R, s, m, args, below, meth, c, cells, slots, Q, D, cT, ad, nL⟩ := X
  intro H locs ls hl hP hD hS
  exact lv_ior (x := x) (y := y) (rest := st.map (cvz ad)) h.1 h.2.1 hd (k H locs ls hl hP hD hS)
theorem r_ixor {x y : Int32} (h : Okz X cc own d) (hd : decode cc pc = .ok (.ixor, 1)) (k : Gz X (pc + 1) lv (.int (x ^^^ y) :: st) M) : Gz X pc lv (.int y :: .int x :: st) M := by
  obtain ⟨p, l, e, R, s, m, args, below, meth, c, cells, slots, Q, D, cT, ad, nL⟩ := X
  intro H locs ls hl hP hD hS
  exact lv_ixor (x := x) (y := y) (rest := st.map (cvz ad)) h.1 h.2.1 hd (k H locs ls hl hP hD hS)
theorem r_ishl {x y : Int32} (h : Okz X cc own d) (hd : decode cc pc = .ok (.ishl, 1)) (k : Gz X (pc + 1) lv (.int (x <<< (y &&& 31)) :: st) M) : Gz X pc lv (.int y :: .int x :: st) M := by
  obtain ⟨p, l, e, R, s, m, args, below, meth, c, cells, slots, Q, D, cT, ad, nL⟩ := X
  intro H locs ls hl hP hD hS
  exact lv_ishl (x := x) (y := y) (rest := st.map (cvz ad)) h.1 h.2.1 hd (k H locs ls hl hP hD hS)
theorem r_ishr {x y : Int32} (h : Okz X cc own d) (hd : decode cc pc = .ok (.ishr, 1)) (k : Gz X (pc + 1) lv (.int (x >>> (y &&& 31)) :: st) M) : Gz X pc lv (.int y :: .int x :: st) M := by
  obtain ⟨p, l, e, R, s, m, args, below, meth, c, cells, slots, Q, D, cT, ad, nL⟩ := X
  intro H locs ls hl hP hD hS
  exact lv_ishr (x := x) (y := y) (rest := st.map (cvz ad)) h.1 h.2.1 hd (k H locs ls hl hP hD hS)
theorem r_iushr {x y : Int32} (h : Okz X cc own d) (hd : decode cc pc = .ok (.iushr, 1)) (k : Gz X (pc + 1) lv (.int ((x.toUInt32 >>> (y.toUInt32 &&& Int32.toUInt32 31)).toInt32) :: st) M) : Gz X pc lv (.int y :: .int x :: st) M := by
  obtain ⟨p, l, e, R, s, m, args, below, meth, c, cells, slots, Q, D, cT, ad, nL⟩ := X
  intro H locs ls hl hP hD hS
  exact lv_iushr (x := x) (y := y) (rest := st.map (cvz ad)) h.1 h.2.1 hd rfl (k H locs ls hl hP hD hS)
theorem r_idiv {x y : Int32} (h : Okz X cc own d) (hd : decode cc pc = .ok (.idiv, 1)) (hne : ¬ y = 0) (k : Gz X (pc + 1) lv (.int (x / y) :: st) M) : Gz X pc lv (.int y :: .int x :: st) M := by
  obtain ⟨p, l, e, R, s, m, args, below, meth, c, cells, slots, Q, D, cT, ad, nL⟩ := X
  intro H locs ls hl hP hD hS
  exact lv_idiv (x := x) (y := y) (rest := st.map (cvz ad)) h.1 h.2.1 hd hne (k H locs ls hl hP hD hS)
theorem r_irem {x y : Int32} (h : Okz X cc own d) (hd : decode cc pc = .ok (.irem, 1)) (hne : ¬ y = 0) (k : Gz X (pc + 1) lv (.int (x - x / y * y) :: st) M) : Gz X pc lv (.int y :: .int x :: st) M := by
  obtain ⟨p, l, e, R, s, m, args, below, meth, c, cells, slots, Q, D, cT, ad, nL⟩ := X
  intro H locs ls hl hP hD hS
  exact lv_irem (x := x) (y := y) (rest := st.map (cvz ad)) h.1 h.2.1 hd hne (k H locs ls hl hP hD hS)
theorem r_ineg {x : Int32} (h : Okz X cc own d) (hd : decode cc pc = .ok (.ineg, 1)) (k : Gz X (pc + 1) lv (.int (-x) :: st) M) : Gz X pc lv (.int x :: st) M := by
  obtain ⟨p, l, e, R, s, m, args, below, meth, c, cells, slots, Q, D, cT, ad, nL⟩ := X
  intro H locs ls hl hP hD hS
  exact lv_ineg (x := x) (rest := st.map (cvz ad)) h.1 h.2.1 hd (k H locs ls hl hP hD hS)
theorem r_ladd {x y : Int64} (h : Okz X cc own d) (hd : decode cc pc = .ok (.ladd, 1)) (k : Gz X (pc + 1) lv (.long (x + y) :: st) M) : Gz X pc lv (.long y :: .long x :: st) M := by
  obtain ⟨p, l, e, R, s, m, args, below, meth, c, cells, slots, Q, D, cT, ad, nL⟩ := X
  intro H locs ls hl hP hD hS
  exact lv_ladd (x := x) (y := y) (rest := st.map (cvz ad)) h.1 h.2.1 hd (k H locs ls hl hP hD hS)
theorem r_lsub {x y : Int64} (h : Okz X cc own d) (hd : decode cc pc = .ok (.lsub, 1)) (k : Gz X (pc + 1) lv (.long (x - y) :: st) M) : Gz X pc lv (.long y :: .long x :: st) M := by
  obtain ⟨p, l, e, R, s, m, args, below, meth, c, cells, slots, Q, D, cT, ad, nL⟩ := X
  intro H locs ls hl hP hD hS
  exact lv_lsub (x := x) (y := y) (rest := st.map (cvz ad)) h.1 h.2.1 hd (k H locs ls hl hP hD hS)
theorem r_lmul {x y : Int64} (h : Okz X cc own d) (hd : decode cc pc = .ok (.lmul, 1)) (k : Gz X (pc + 1) lv (.long (x * y) :: st) M) : Gz X pc lv (.long y :: .long x :: st) M := by
  obtain ⟨p, l, e, R, s, m, args, below, meth, c, cells, slots, Q, D, cT, ad, nL⟩ := X
  intro H locs ls hl hP hD hS
  exact lv_lmul (x := x) (y := y) (rest := st.map (cvz ad)) h.1 h.2.1 hd (k H locs ls hl hP hD hS)
theorem r_ldiv {x y : Int64} (h : Okz X cc own d) (hd : decode cc pc = .ok (.ldiv, 1)) (hne : ¬ y = 0) (k : Gz X (pc + 1) lv (.long (x / y) :: st) M) : Gz X pc lv (.long y :: .long x :: st) M := by
  obtain ⟨p, l, e, R, s, m, args, below, meth, c, cells, slots, Q, D, cT, ad, nL⟩ := X
  intro H locs ls hl hP hD hS
  exact lv_ldiv (x := x) (y := y) (rest := st.map (cvz ad)) h.1 h.2.1 hd hne (k H locs ls hl hP hD hS)
theorem r_lrem {x y : Int64} (h : Okz X cc own d) (hd : decode cc pc = .ok (.lrem, 1)) (hne : ¬ y = 0) (k : Gz X (pc + 1) lv (.long (x - x / y * y) :: st) M) : Gz X pc lv (.long y :: .long x :: st) M := by
  obtain ⟨p, l, e, R, s, m, args, below, meth, c, cells, slots, Q, D, cT, ad, nL⟩ := X
  intro H locs ls hl hP hD hS
  exact lv_lrem (x := x) (y := y) (rest := st.map (cvz ad)) h.1 h.2.1 hd hne (k H locs ls hl hP hD hS)
theorem r_lcmp {x y : Int64} (h : Okz X cc own d) (hd : decode cc pc = .ok (.lcmp, 1)) (k : Gz X (pc + 1) lv (.int (lg_cmp x y) :: st) M) : Gz X pc lv (.long y :: .long x :: st) M := by
  obtain ⟨p, l, e, R, s, m, args, below, meth, c, cells, slots, Q, D, cT, ad, nL⟩ := X
  intro H locs ls hl hP hD hS
  exact W.lcmp (x := x) (y := y) (rest := st.map (cvz ad)) h.1 h.2.1 hd (k H locs ls hl hP hD hS)
theorem r_i2l {x : Int32} (h : Okz X cc own d) (hd : decode cc pc = .ok (.i2l, 1)) (k : Gz X (pc + 1) lv (.long (x.toInt64) :: st) M) : Gz X pc lv (.int x :: st) M := by
  obtain ⟨p, l, e, R, s, m, args, below, meth, c, cells, slots, Q, D, cT, ad, nL⟩ := X
  intro H locs ls hl hP hD hS
  exact lv_i2l (x := x) (rest := st.map (cvz ad)) h.1 h.2.1 hd rfl (k H locs ls hl hP hD hS)
theorem r_l2i {x : Int64} (h : Okz X cc own d) (hd : decode cc pc = .ok (.l2i, 1)) (k : Gz X (pc + 1) lv (.int (x.toInt32) :: st) M) : Gz X pc lv (.long x :: st) M := by
  obtain ⟨p, l, e, R, s, m, args, below, meth, c, cells, slots, Q, D, cT, ad, nL⟩ := X
  intro H locs ls hl hP hD hS
  exact lv_l2i (x := x) (rest := st.map (cvz ad)) h.1 h.2.1 hd rfl (k H locs ls hl hP hD hS)
theorem r_i2b {x : Int32} (h : Okz X cc own d) (hd : decode cc pc = .ok (.i2b, 1)) (k : Gz X (pc + 1) lv (.int (x.toInt8.toInt32) :: st) M) : Gz X pc lv (.int x :: st) M := by
  obtain ⟨p, l, e, R, s, m, args, below, meth, c, cells, slots, Q, D, cT, ad, nL⟩ := X
  intro H locs ls hl hP hD hS
  exact lv_i2b (x := x) (rest := st.map (cvz ad)) h.1 h.2.1 hd rfl (k H locs ls hl hP hD hS)
theorem r_i2s {x : Int32} (h : Okz X cc own d) (hd : decode cc pc = .ok (.i2s, 1)) (k : Gz X (pc + 1) lv (.int (x.toInt16.toInt32) :: st) M) : Gz X pc lv (.int x :: st) M := by
  obtain ⟨p, l, e, R, s, m, args, below, meth, c, cells, slots, Q, D, cT, ad, nL⟩ := X
  intro H locs ls hl hP hD hS
  exact lv_i2s (x := x) (rest := st.map (cvz ad)) h.1 h.2.1 hd rfl (k H locs ls hl hP hD hS)
theorem r_i2c {x : Int32} (h : Okz X cc own d) (hd : decode cc pc = .ok (.i2c, 1)) (k : Gz X (pc + 1) lv (.int ((x.toUInt32 % 65536).toInt32) :: st) M) : Gz X pc lv (.int x :: st) M := by
  obtain ⟨p, l, e, R, s, m, args, below, meth, c, cells, slots, Q, D, cT, ad, nL⟩ := X
  intro H locs ls hl hP hD hS
  exact lv_i2c (x := x) (rest := st.map (cvz ad)) h.1 h.2.1 hd rfl (k H locs ls hl hP hD hS)
theorem r_iconst {n : Int} {v : Int32} (h : Okz X cc own d) (hd : decode cc pc = .ok (.iconst n, 1)) (hv : Int32.ofInt n = v) (k : Gz X (pc + 1) lv (.int v :: st) M) : Gz X pc lv (st) M := by
  obtain ⟨p, l, e, R, s, m, args, below, meth, c, cells, slots, Q, D, cT, ad, nL⟩ := X
  intro H locs ls hl hP hD hS
  exact lv_iconst (rest := st.map (cvz ad)) h.1 h.2.1 hd hv (k H locs ls hl hP hD hS)
theorem r_bipush {n : Int} {v : Int32} (h : Okz X cc own d) (hd : decode cc pc = .ok (.bipush n, 2)) (hv : (Int8.ofInt n).toInt32 = v) (k : Gz X (pc + 2) lv (.int v :: st) M) : Gz X pc lv (st) M := by
  obtain ⟨p, l, e, R, s, m, args, below, meth, c, cells, slots, Q, D, cT, ad, nL⟩ := X
  intro H locs ls hl hP hD hS
  exact lv_bipush (rest := st.map (cvz ad)) h.1 h.2.1 hd hv (k H locs ls hl hP hD hS)
theorem r_sipush {n : Int} {v : Int32} (h : Okz X cc own d) (hd : decode cc pc = .ok (.sipush n, 3)) (hv : (Int16.ofInt n).toInt32 = v) (k : Gz X (pc + 3) lv (.int v :: st) M) : Gz X pc lv (st) M := by
  obtain ⟨p, l, e, R, s, m, args, below, meth, c, cells, slots, Q, D, cT, ad, nL⟩ := X
  intro H locs ls hl hP hD hS
  exact lv_sipush (rest := st.map (cvz ad)) h.1 h.2.1 hd hv (k H locs ls hl hP hD hS)
theorem r_lconst {n : Fin 2} {v : Int64} (h : Okz X cc own d) (hd : decode cc pc = .ok (.lconst n, 1)) (hv : Int64.ofNat (n : Nat) = v) (k : Gz X (pc + 1) lv (.long v :: st) M) : Gz X pc lv (st) M := by
  obtain ⟨p, l, e, R, s, m, args, below, meth, c, cells, slots, Q, D, cT, ad, nL⟩ := X
  intro H locs ls hl hP hD hS
  exact lv_lconst (rest := st.map (cvz ad)) h.1 h.2.1 hd hv (k H locs ls hl hP hD hS)
theorem r_ldc {i : Nat} {v : Int32} (h : Okz X cc own d) (hd : decode cc pc = .ok (.ldc i, 2)) (hw : Cond.constant own i v ∈ tb) (k : Gz X (pc + 2) lv (.int v :: st) M) : Gz X pc lv (st) M := by
  obtain ⟨p, l, e, R, s, m, args, below, meth, c, cells, slots, Q, D, cT, ad, nL⟩ := X
  intro H locs ls hl hP hD hS
  exact lv_ldc (rest := st.map (cvz ad)) h.1 h.2.1 h.2.2.2.1 (h.2.2.2.2.1 _ hw) hd (k H locs ls hl hP hD hS)
theorem r_ldcw {i : Nat} {v : Int32} (h : Okz X cc own d) (hd : decode cc pc = .ok (.ldc_w i, 3)) (hw : Cond.constant own i v ∈ tb) (k : Gz X (pc + 3) lv (.int v :: st) M) : Gz X pc lv (st) M := by
  obtain ⟨p, l, e, R, s, m, args, below, meth, c, cells, slots, Q, D, cT, ad, nL⟩ := X
  intro H locs ls hl hP hD hS
  exact lv_ldcw (rest := st.map (cvz ad)) h.1 h.2.1 h.2.2.2.1 (h.2.2.2.2.1 _ hw) hd (k H locs ls hl hP hD hS)
theorem r_ldc2 {i : Nat} {v : Int64} (h : Okz X cc own d) (hd : decode cc pc = .ok (.ldc2_w i, 3)) (hw : Cond.constantLong own i v ∈ tb) (k : Gz X (pc + 3) lv (.long v :: st) M) : Gz X pc lv (st) M := by
  obtain ⟨p, l, e, R, s, m, args, below, meth, c, cells, slots, Q, D, cT, ad, nL⟩ := X
  intro H locs ls hl hP hD hS
  exact lv_ldc2 (rest := st.map (cvz ad)) h.1 h.2.1 h.2.2.2.1 (h.2.2.2.2.1 _ hw) hd (k H locs ls hl hP hD hS)
theorem r_iload_n {i : Fin 4} {x : Int32} (h : Okz X cc own d) (hd : decode cc pc = .ok (.iload_n i, 1)) (hv : lv[i.val]? = some (.int x)) (k : Gz X (pc + 1) lv (.int x :: st) M) : Gz X pc lv (st) M := by
  obtain ⟨p, l, e, R, s, m, args, below, meth, c, cells, slots, Q, D, cT, ad, nL⟩ := X
  intro H locs ls hl hP hD hS
  exact lv_iload_n (rest := st.map (cvz ad)) h.1 h.2.1 hd rfl (lvK_at hl hv (fun z => by cases z)) (k H locs ls hl hP hD hS)
theorem r_iload {i : Nat} {x : Int32} (h : Okz X cc own d) (hd : decode cc pc = .ok (.iload i, 2)) (hv : lv[i]? = some (.int x)) (k : Gz X (pc + 2) lv (.int x :: st) M) : Gz X pc lv (st) M := by
  obtain ⟨p, l, e, R, s, m, args, below, meth, c, cells, slots, Q, D, cT, ad, nL⟩ := X
  intro H locs ls hl hP hD hS
  exact lv_iload (rest := st.map (cvz ad)) h.1 h.2.1 hd (lvK_at hl hv (fun z => by cases z)) (k H locs ls hl hP hD hS)
theorem r_istore_n {i : Fin 4} {x : Int32} (h : Okz X cc own d) (hd : decode cc pc = .ok (.istore_n i, 1)) (hn : i.val < X.2.2.2.2.2.2.2.2.2.2.2.2.2.2.2.2) (hnd : ndz lv = true) (k : Gz X (pc + 1) (lvS lv i.val (.int x)) st M) : Gz X pc lv (.int x :: st) M := by
  obtain ⟨p, l, e, R, s, m, args, below, meth, c, cells, slots, Q, D, cT, ad, nL⟩ := X
  intro H locs ls hl hP hD hS
  exact lv_istore_n (rest := st.map (cvz ad)) h.1 h.2.1 hd rfl hl hn rfl (fun ls' hl' => k H locs ls' (lvS_has hnd (fun z => by cases z) hl') hP hD hS)
theorem r_istore {i : Nat} {x : Int32} (h : Okz X cc own d) (hd : decode cc pc = .ok (.istore i, 2)) (hn : i < X.2.2.2.2.2.2.2.2.2.2.2.2.2.2.2.2) (hnd : ndz lv = true) (k : Gz X (pc + 2) (lvS lv i (.int x)) st M) : Gz X pc lv (.int x :: st) M := by
  obtain ⟨p, l, e, R, s, m, args, below, meth, c, cells, slots, Q, D, cT, ad, nL⟩ := X
  intro H locs ls hl hP hD hS
  exact lv_istore (rest := st.map (cvz ad)) h.1 h.2.1 hd hl hn rfl (fun ls' hl' => k H locs ls' (lvS_has hnd (fun z => by cases z) hl') hP hD hS)
theorem r_lload_n {i : Fin 4} {x : Int64} (h : Okz X cc own d) (hd : decode cc pc = .ok (.lload_n i, 1)) (hv : lv[i.val]? = some (.long x)) (k : Gz X (pc + 1) lv (.long x :: st) M) : Gz X pc lv (st) M := by
  obtain ⟨p, l, e, R, s, m, args, below, meth, c, cells, slots, Q, D, cT, ad, nL⟩ := X
  intro H locs ls hl hP hD hS
  exact lv_lload_n (rest := st.map (cvz ad)) h.1 h.2.1 hd rfl (lvK_at hl hv (fun z => by cases z)) (k H locs ls hl hP hD hS)
theorem r_lload {i : Nat} {x : Int64} (h : Okz X cc own d) (hd : decode cc pc = .ok (.lload i, 2)) (hv : lv[i]? = some (.long x)) (k : Gz X (pc + 2) lv (.long x :: st) M) : Gz X pc lv (st) M := by
  obtain ⟨p, l, e, R, s, m, args, below, meth, c, cells, slots, Q, D, cT, ad, nL⟩ := X
  intro H locs ls hl hP hD hS
  exact lv_lload (rest := st.map (cvz ad)) h.1 h.2.1 hd (lvK_at hl hv (fun z => by cases z)) (k H locs ls hl hP hD hS)
theorem r_lstore_n {i : Fin 4} {x : Int64} (h : Okz X cc own d) (hd : decode cc pc = .ok (.lstore_n i, 1)) (hn : i.val + 1 < X.2.2.2.2.2.2.2.2.2.2.2.2.2.2.2.2) (hnd : ndz lv = true) (k : Gz X (pc + 1) (lvS2 lv i.val (.long x)) st M) : Gz X pc lv (.long x :: st) M := by
  obtain ⟨p, l, e, R, s, m, args, below, meth, c, cells, slots, Q, D, cT, ad, nL⟩ := X
  intro H locs ls hl hP hD hS
  exact lv_lstore_n (rest := st.map (cvz ad)) h.1 h.2.1 hd rfl hl hn rfl (fun ls' hl' => k H locs ls' (lvS2_has hnd (fun z => by cases z) hl') hP hD hS)
theorem r_lstore {i : Nat} {x : Int64} (h : Okz X cc own d) (hd : decode cc pc = .ok (.lstore i, 2)) (hn : i + 1 < X.2.2.2.2.2.2.2.2.2.2.2.2.2.2.2.2) (hnd : ndz lv = true) (k : Gz X (pc + 2) (lvS2 lv i (.long x)) st M) : Gz X pc lv (.long x :: st) M := by
  obtain ⟨p, l, e, R, s, m, args, below, meth, c, cells, slots, Q, D, cT, ad, nL⟩ := X
  intro H locs ls hl hP hD hS
  exact lv_lstore (rest := st.map (cvz ad)) h.1 h.2.1 hd hl hn rfl (fun ls' hl' => k H locs ls' (lvS2_has hnd (fun z => by cases z) hl') hP hD hS)
theorem r_aload_n {i : Fin 4} {x : Nat} (h : Okz X cc own d) (hd : decode cc pc = .ok (.aload_n i, 1)) (hv : lv[i.val]? = some (.ref x)) (k : Gz X (pc + 1) lv (.ref x :: st) M) : Gz X pc lv (st) M := by
  obtain ⟨p, l, e, R, s, m, args, below, meth, c, cells, slots, Q, D, cT, ad, nL⟩ := X
  intro H locs ls hl hP hD hS
  exact lv_aload_n (rest := st.map (cvz ad)) h.1 h.2.1 hd rfl (lvK_at hl hv (fun z => by cases z)) (k H locs ls hl hP hD hS)
theorem r_aload {i : Nat} {x : Nat} (h : Okz X cc own d) (hd : decode cc pc = .ok (.aload i, 2)) (hv : lv[i]? = some (.ref x)) (k : Gz X (pc + 2) lv (.ref x :: st) M) : Gz X pc lv (st) M := by
  obtain ⟨p, l, e, R, s, m, args, below, meth, c, cells, slots, Q, D, cT, ad, nL⟩ := X
  intro H locs ls hl hP hD hS
  exact lv_aload (rest := st.map (cvz ad)) h.1 h.2.1 hd (lvK_at hl hv (fun z => by cases z)) (k H locs ls hl hP hD hS)
theorem r_astore_n {i : Fin 4} {x : Nat} (h : Okz X cc own d) (hd : decode cc pc = .ok (.astore_n i, 1)) (hn : i.val < X.2.2.2.2.2.2.2.2.2.2.2.2.2.2.2.2) (hnd : ndz lv = true) (k : Gz X (pc + 1) (lvS lv i.val (.ref x)) st M) : Gz X pc lv (.ref x :: st) M := by
  obtain ⟨p, l, e, R, s, m, args, below, meth, c, cells, slots, Q, D, cT, ad, nL⟩ := X
  intro H locs ls hl hP hD hS
  exact lv_astore_n (rest := st.map (cvz ad)) h.1 h.2.1 hd rfl hl hn rfl (fun ls' hl' => k H locs ls' (lvS_has hnd (fun z => by cases z) hl') hP hD hS)
theorem r_astore {i : Nat} {x : Nat} (h : Okz X cc own d) (hd : decode cc pc = .ok (.astore i, 2)) (hn : i < X.2.2.2.2.2.2.2.2.2.2.2.2.2.2.2.2) (hnd : ndz lv = true) (k : Gz X (pc + 2) (lvS lv i (.ref x)) st M) : Gz X pc lv (.ref x :: st) M := by
  obtain ⟨p, l, e, R, s, m, args, below, meth, c, cells, slots, Q, D, cT, ad, nL⟩ := X
  intro H locs ls hl hP hD hS
  exact lv_astore (rest := st.map (cvz ad)) h.1 h.2.1 hd hl hn rfl (fun ls' hl' => k H locs ls' (lvS_has hnd (fun z => by cases z) hl') hP hD hS)
theorem r_iinc {i : Nat} {n : Int} {x v : Int32} (h : Okz X cc own d) (hd : decode cc pc = .ok (.iinc i n, 3)) (hv : lv[i]? = some (.int x)) (he : x + Int32.ofInt n = v) (hn : i < X.2.2.2.2.2.2.2.2.2.2.2.2.2.2.2.2) (hnd : ndz lv = true) (k : Gz X (pc + 3) (lvS lv i (.int v)) st M) : Gz X pc lv st M := by
  obtain ⟨p, l, e, R, s, m, args, below, meth, c, cells, slots, Q, D, cT, ad, nL⟩ := X
  intro H locs ls hl hP hD hS
  obtain ⟨j, hj⟩ := List.getElem?_of_mem (lvK_mem (ad := ad) (lv := lv) (q := (i, .int x)) |>.mpr ⟨.int x, hv, (fun z => by cases z), rfl⟩)
  exact lv_iinc (rest := st.map (cvz ad)) h.1 h.2.1 hd hl hj he hn rfl (fun ls' hl' => k H locs ls' (lvS_has hnd (fun z => by cases z) hl') hP hD hS)
theorem r_if_eq {x : Int32} {off : Int} (tgt : Nat) (h : Okz X cc own d) (hd : decode cc pc = .ok (.ifCond .eq off, 3)) (ht : (pc : Int) + off = (tgt : Int)) (kt : x = 0 → Gz X tgt lv st M) (kf : ¬ x = 0 → Gz X (pc + 3) lv st M) : Gz X pc lv (.int x :: st) M := by
  obtain ⟨p, l, e, R, s, m, args, below, meth, c, cells, slots, Q, D, cT, ad, nL⟩ := X
  intro H locs ls hl hP hD hS
  exact lv_if_eq (rest := st.map (cvz ad)) h.1 h.2.1 hd ht (fun q => kt q H locs ls hl hP hD hS) (fun q => kf q H locs ls hl hP hD hS)
theorem r_icmp_eq {x y : Int32} {off : Int} (tgt : Nat) (h : Okz X cc own d) (hd : decode cc pc = .ok (.if_icmp .eq off, 3)) (ht : (pc : Int) + off = (tgt : Int)) (kt : x = y → Gz X tgt lv st M) (kf : ¬ x = y → Gz X (pc + 3) lv st M) : Gz X pc lv (.int y :: .int x :: st) M := by
  obtain ⟨p, l, e, R, s, m, args, below, meth, c, cells, slots, Q, D, cT, ad, nL⟩ := X
  intro H locs ls hl hP hD hS
  exact lv_icmp_eq (rest := st.map (cvz ad)) h.1 h.2.1 hd ht (fun q => kt q H locs ls hl hP hD hS) (fun q => kf q H locs ls hl hP hD hS)
theorem r_if_ne {x : Int32} {off : Int} (tgt : Nat) (h : Okz X cc own d) (hd : decode cc pc = .ok (.ifCond .ne off, 3)) (ht : (pc : Int) + off = (tgt : Int)) (kt : ¬ x = 0 → Gz X tgt lv st M) (kf : x = 0 → Gz X (pc + 3) lv st M) : Gz X pc lv (.int x :: st) M := by
  obtain ⟨p, l, e, R, s, m, args, below, meth, c, cells, slots, Q, D, cT, ad, nL⟩ := X
  intro H locs ls hl hP hD hS
  exact lv_if_ne (rest := st.map (cvz ad)) h.1 h.2.1 hd ht (fun q => kt q H locs ls hl hP hD hS) (fun q => kf q H locs ls hl hP hD hS)
theorem r_icmp_ne {x y : Int32} {off : Int} (tgt : Nat) (h : Okz X cc own d) (hd : decode cc pc = .ok (.if_icmp .ne off, 3)) (ht : (pc : Int) + off = (tgt : Int)) (kt : ¬ x = y → Gz X tgt lv st M) (kf : x = y → Gz X (pc + 3) lv st M) : Gz X pc lv (.int y :: .int x :: st) M := by
  obtain ⟨p, l, e, R, s, m, args, below, meth, c, cells, slots, Q, D, cT, ad, nL⟩ := X
  intro H locs ls hl hP hD hS
  exact lv_icmp_ne (rest := st.map (cvz ad)) h.1 h.2.1 hd ht (fun q => kt q H locs ls hl hP hD hS) (fun q => kf q H locs ls hl hP hD hS)
theorem r_if_lt {x : Int32} {off : Int} (tgt : Nat) (h : Okz X cc own d) (hd : decode cc pc = .ok (.ifCond .lt off, 3)) (ht : (pc : Int) + off = (tgt : Int)) (kt : x < 0 → Gz X tgt lv st M) (kf : ¬ x < 0 → Gz X (pc + 3) lv st M) : Gz X pc lv (.int x :: st) M := by
  obtain ⟨p, l, e, R, s, m, args, below, meth, c, cells, slots, Q, D, cT, ad, nL⟩ := X
  intro H locs ls hl hP hD hS
  exact lv_if_lt (rest := st.map (cvz ad)) h.1 h.2.1 hd ht (fun q => kt q H locs ls hl hP hD hS) (fun q => kf q H locs ls hl hP hD hS)
theorem r_icmp_lt {x y : Int32} {off : Int} (tgt : Nat) (h : Okz X cc own d) (hd : decode cc pc = .ok (.if_icmp .lt off, 3)) (ht : (pc : Int) + off = (tgt : Int)) (kt : x < y → Gz X tgt lv st M) (kf : ¬ x < y → Gz X (pc + 3) lv st M) : Gz X pc lv (.int y :: .int x :: st) M := by
  obtain ⟨p, l, e, R, s, m, args, below, meth, c, cells, slots, Q, D, cT, ad, nL⟩ := X
  intro H locs ls hl hP hD hS
  exact lv_icmp_lt (rest := st.map (cvz ad)) h.1 h.2.1 hd ht (fun q => kt q H locs ls hl hP hD hS) (fun q => kf q H locs ls hl hP hD hS)
theorem r_if_ge {x : Int32} {off : Int} (tgt : Nat) (h : Okz X cc own d) (hd : decode cc pc = .ok (.ifCond .ge off, 3)) (ht : (pc : Int) + off = (tgt : Int)) (kt : 0 ≤ x → Gz X tgt lv st M) (kf : ¬ 0 ≤ x → Gz X (pc + 3) lv st M) : Gz X pc lv (.int x :: st) M := by
  obtain ⟨p, l, e, R, s, m, args, below, meth, c, cells, slots, Q, D, cT, ad, nL⟩ := X
  intro H locs ls hl hP hD hS
  exact lv_if_ge (rest := st.map (cvz ad)) h.1 h.2.1 hd ht (fun q => kt q H locs ls hl hP hD hS) (fun q => kf q H locs ls hl hP hD hS)
theorem r_icmp_ge {x y : Int32} {off : Int} (tgt : Nat) (h : Okz X cc own d) (hd : decode cc pc = .ok (.if_icmp .ge off, 3)) (ht : (pc : Int) + off = (tgt : Int)) (kt : y ≤ x → Gz X tgt lv st M) (kf : ¬ y ≤ x → Gz X (pc + 3) lv st M) : Gz X pc lv (.int y :: .int x :: st) M := by
  obtain ⟨p, l, e, R, s, m, args, below, meth, c, cells, slots, Q, D, cT, ad, nL⟩ := X
  intro H locs ls hl hP hD hS
  exact lv_icmp_ge (rest := st.map (cvz ad)) h.1 h.2.1 hd ht (fun q => kt q H locs ls hl hP hD hS) (fun q => kf q H locs ls hl hP hD hS)
theorem r_if_gt {x : Int32} {off : Int} (tgt : Nat) (h : Okz X cc own d) (hd : decode cc pc = .ok (.ifCond .gt off, 3)) (ht : (pc : Int) + off = (tgt : Int)) (kt : 0 < x → Gz X tgt lv st M) (kf : ¬ 0 < x → Gz X (pc + 3) lv st M) : Gz X pc lv (.int x :: st) M := by
  obtain ⟨p, l, e, R, s, m, args, below, meth, c, cells, slots, Q, D, cT, ad, nL⟩ := X
  intro H locs ls hl hP hD hS
  exact lv_if_gt (rest := st.map (cvz ad)) h.1 h.2.1 hd ht (fun q => kt q H locs ls hl hP hD hS) (fun q => kf q H locs ls hl hP hD hS)
theorem r_icmp_gt {x y : Int32} {off : Int} (tgt : Nat) (h : Okz X cc own d) (hd : decode cc pc = .ok (.if_icmp .gt off, 3)) (ht : (pc : Int) + off = (tgt : Int)) (kt : y < x → Gz X tgt lv st M) (kf : ¬ y < x → Gz X (pc + 3) lv st M) : Gz X pc lv (.int y :: .int x :: st) M := by
  obtain ⟨p, l, e, R, s, m, args, below, meth, c, cells, slots, Q, D, cT, ad, nL⟩ := X
  intro H locs ls hl hP hD hS
  exact lv_icmp_gt (rest := st.map (cvz ad)) h.1 h.2.1 hd ht (fun q => kt q H locs ls hl hP hD hS) (fun q => kf q H locs ls hl hP hD hS)
theorem r_if_le {x : Int32} {off : Int} (tgt : Nat) (h : Okz X cc own d) (hd : decode cc pc = .ok (.ifCond .le off, 3)) (ht : (pc : Int) + off = (tgt : Int)) (kt : x ≤ 0 → Gz X tgt lv st M) (kf : ¬ x ≤ 0 → Gz X (pc + 3) lv st M) : Gz X pc lv (.int x :: st) M := by
  obtain ⟨p, l, e, R, s, m, args, below, meth, c, cells, slots, Q, D, cT, ad, nL⟩ := X
  intro H locs ls hl hP hD hS
  exact lv_if_le (rest := st.map (cvz ad)) h.1 h.2.1 hd ht (fun q => kt q H locs ls hl hP hD hS) (fun q => kf q H locs ls hl hP hD hS)
theorem r_icmp_le {x y : Int32} {off : Int} (tgt : Nat) (h : Okz X cc own d) (hd : decode cc pc = .ok (.if_icmp .le off, 3)) (ht : (pc : Int) + off = (tgt : Int)) (kt : x ≤ y → Gz X tgt lv st M) (kf : ¬ x ≤ y → Gz X (pc + 3) lv st M) : Gz X pc lv (.int y :: .int x :: st) M := by
  obtain ⟨p, l, e, R, s, m, args, below, meth, c, cells, slots, Q, D, cT, ad, nL⟩ := X
  intro H locs ls hl hP hD hS
  exact lv_icmp_le (rest := st.map (cvz ad)) h.1 h.2.1 hd ht (fun q => kt q H locs ls hl hP hD hS) (fun q => kf q H locs ls hl hP hD hS)
theorem r_goto {off : Int} (tgt : Nat) (h : Okz X cc own d) (hd : decode cc pc = .ok (.goto off, 3)) (ht : (pc : Int) + off = (tgt : Int)) (k : Gz X tgt lv st M) : Gz X pc lv st M := by
  obtain ⟨p, l, e, R, s, m, args, below, meth, c, cells, slots, Q, D, cT, ad, nL⟩ := X
  intro H locs ls hl hP hD hS
  exact lv_goto h.1 h.2.1 hd ht (k H locs ls hl hP hD hS)
theorem r_tabIn {dflt lo hi : Int} {offs : Array Int} {len : Nat} {x : Int32} {off : Int} (tgt : Nat) (h : Okz X cc own d) (hd : decode cc pc = .ok (.tableswitch dflt lo hi offs, len)) (h1 : ¬ x.toInt < lo) (h2 : ¬ hi < x.toInt) (ho : offs[(x.toInt - lo).toNat]? = some off) (ht : (pc : Int) + off = (tgt : Int)) (k : Gz X tgt lv st M) : Gz X pc lv (.int x :: st) M := by
  obtain ⟨p, l, e, R, s, m, args, below, meth, c, cells, slots, Q, D, cT, ad, nL⟩ := X
  intro H locs ls hl hP hD hS
  exact lv_tableIn (rest := st.map (cvz ad)) h.1 h.2.1 hd h1 h2 ho ht (k H locs ls hl hP hD hS)
theorem r_tabOut {dflt lo hi : Int} {offs : Array Int} {len : Nat} {x : Int32} (tgt : Nat) (h : Okz X cc own d) (hd : decode cc pc = .ok (.tableswitch dflt lo hi offs, len)) (h1 : x.toInt < lo ∨ hi < x.toInt) (ht : (pc : Int) + dflt = (tgt : Int)) (k : Gz X tgt lv st M) : Gz X pc lv (.int x :: st) M := by
  obtain ⟨p, l, e, R, s, m, args, below, meth, c, cells, slots, Q, D, cT, ad, nL⟩ := X
  intro H locs ls hl hP hD hS
  exact lv_tableOut (rest := st.map (cvz ad)) h.1 h.2.1 hd h1 ht (k H locs ls hl hP hD hS)
theorem r_dup {v : Value} (h : Okz X cc own d) (hd : decode cc pc = .ok (.dup, 1)) (hc : v.category = 1) (k : Gz X (pc + 1) lv (v :: v :: st) M) : Gz X pc lv (v :: st) M := by
  obtain ⟨p, l, e, R, s, m, args, below, meth, c, cells, slots, Q, D, cT, ad, nL⟩ := X
  intro H locs ls hl hP hD hS
  exact lv_dup (rest := st.map (cvz ad)) h.1 h.2.1 hd (by rw [cvz_cat]; exact hc) (k H locs ls hl hP hD hS)
theorem r_pop {v : Value} (h : Okz X cc own d) (hd : decode cc pc = .ok (.pop, 1)) (hc : v.category = 1) (k : Gz X (pc + 1) lv (st) M) : Gz X pc lv (v :: st) M := by
  obtain ⟨p, l, e, R, s, m, args, below, meth, c, cells, slots, Q, D, cT, ad, nL⟩ := X
  intro H locs ls hl hP hD hS
  exact lv_pop (rest := st.map (cvz ad)) h.1 h.2.1 hd (by rw [cvz_cat]; exact hc) (k H locs ls hl hP hD hS)
theorem r_dup2 {v w : Value} (h : Okz X cc own d) (hd : decode cc pc = .ok (.dup2, 1)) (hc : v.category = 1) (hc2 : w.category = 1) (k : Gz X (pc + 1) lv (v :: w :: v :: w :: st) M) : Gz X pc lv (v :: w :: st) M := by
  obtain ⟨p, l, e, R, s, m, args, below, meth, c, cells, slots, Q, D, cT, ad, nL⟩ := X
  intro H locs ls hl hP hD hS
  exact lv_dup2_11 (rest := st.map (cvz ad)) h.1 h.2.1 hd (by rw [cvz_cat]; exact hc) (by rw [cvz_cat]; exact hc2) (k H locs ls hl hP hD hS)
theorem r_dup2l {v : Value} (h : Okz X cc own d) (hd : decode cc pc = .ok (.dup2, 1)) (hc : v.category = 2) (k : Gz X (pc + 1) lv (v :: v :: st) M) : Gz X pc lv (v :: st) M := by
  obtain ⟨p, l, e, R, s, m, args, below, meth, c, cells, slots, Q, D, cT, ad, nL⟩ := X
  intro H locs ls hl hP hD hS
  exact lv_dup2_2 (rest := st.map (cvz ad)) h.1 h.2.1 hd (by rw [cvz_cat]; exact hc) (k H locs ls hl hP hD hS)
end RW
end
section
/-! rows of fields, arrays, calls, ends -/
def CKz (ci : Nat) (C : String) (T : u_T) (N : Nat) : Prop := cls6[ci]? = some (C, T, N) ∧ (∀ w ∈ u_ws C T N, w ∈ tb) ∧ (∃ ty0 : Nat → FieldType, ∀ k, k < N → parseFieldDescriptor (T k).2.2.1 = some (ty0 k)) ∧ (∀ a, a < N → ∀ b, b < N → a ≠ b → (T a).2.1 ≠ (T b).2.1)
def FLz (own : String) (idx ci k : Nat) (ty : FieldType) (fin : Bool) : Prop := ∃ (C : String) (T : u_T) (N : Nat), CKz ci C T N ∧ k < N ∧ parseFieldDescriptor (T k).2.2.1 = some ty ∧ (T k).2.2.2 = fin ∧ (Cond.fieldLink own idx (T k).1 (T k).2.1 (T k).2.2.1 ∈ tb ∨ ∃ host, Cond.fieldLinkNest own idx (T k).1 (T k).2.1 (T k).2.2.1 host ∈ nw)
theorem ck_of {ci N : Nat} {C : String} {T : u_T} (ps : List Nat) (h1 : cls6[ci]? = some (C, T, N)) (h2 : ∀ k, k < N → lw_tbl[ps.getD k 0]? = some (u_lay C T k) ∧ goodWord (u_lay C T k) = true) (ty0 : Nat → FieldType) (h3 : ∀ k, k < N → parseFieldDescriptor (T k).2.2.1 = some (ty0 k)) (h4 : ∀ a, a < N → ∀ b, b < N → a ≠ b → (T a).2.1 ≠ (T b).2.1) : CKz ci C T N := by
  refine ⟨h1, fun w hw => ?_, ⟨ty0, h3⟩, h4⟩
  obtain ⟨k, hk, rfl⟩ := List.mem_map.mp hw
  have := h2 k (List.mem_range.mp hk)
  exact tb_of _ this.1 this.2
theorem slt_put {ad : Nat → Nat} {M : Mm} {q k : Nat} {x : Int32} {ds : List Nat} (hk : ds[k]? = some 0) : ds.mapIdx (fun j c => sltV ad (mput M q k x) q j c) = (ds.mapIdx (fun j c => sltV ad M q j c)).set k (.int x) := by
  apply List.ext_getElem?
  intro j
  rw [List.getElem?_mapIdx]
  by_cases hj : j = k
  · subst hj
    have hl := (List.getElem?_eq_some_iff.mp hk).1
    rw [List.getElem?_set_self (by rw [List.length_mapIdx]; exact hl), hk]
    simp [sltV, mput, upd]
  · rw [List.getElem?_set_ne (Ne.symm hj), List.getElem?_mapIdx]
    cases hs : ds[j]? with
    | none => rfl
    | some c =>
      simp only [Option.map_some]
      congr 1
      match c with
      | 0 => simp [sltV, mput, upd, hj]
      | 1 => rfl
      | t + 2 => rfl
theorem slt_putL {ad : Nat → Nat} {M : Mm} {q k : Nat} {x : Int64} {ds : List Nat} (hk : ds[k]? = some 1) : ds.mapIdx (fun j c => sltV ad (mputL M q k x) q j c) = (ds.mapIdx (fun j c => sltV ad M q j c)).set k (.long x) := by
  apply List.ext_getElem?
  intro j
  rw [List.getElem?_mapIdx]
  by_cases hj : j = k
  · subst hj
    have hl := (List.getElem?_eq_some_iff.mp hk).1
    rw [List.getElem?_set_self (by rw [List.length_mapIdx]; exact hl), hk]
    simp [sltV, mputL, vp_updL]
  · rw [List.getElem?_set_ne (Ne.symm hj), List.getElem?_mapIdx]
    cases hs : ds[j]? with
    | none => rfl
    | some c =>
      simp only [Option.map_some]
      congr 1
      match c with
      | 0 => rfl
      | 1 => simp [sltV, mputL, vp_updL, hj]
      | t + 2 => rfl
theorem mput_ne {M : Mm} {q k : Nat} {x : Int32} : ∀ a, a ≠ q → (mput M q k x).1 a = M.1 a := fun a h => if_neg h
theorem mputL_ne {M : Mm} {q k : Nat} {x : Int64} : ∀ a, a ≠ q → (mputL M q k x).2 a = M.2 a := fun a h => if_neg h
theorem mset_ne {M : Mm} {q : Nat} {f : Nat → Int32} : ∀ a, a ≠ q → (mset M q f).1 a = M.1 a := fun a h => if_neg h
theorem mput_at (M : Mm) (q k : Nat) (x : Int32) : (mput M q k x).1 q = upd (M.1 q) k x := if_pos rfl
theorem mset_at (M : Mm) (q : Nat) (f : Nat → Int32) : (mset M q f).1 q = f := if_pos rfl
section RH
variable {X : Cxz} {cc : ByteArray} {own : String} {d pc : Nat} {lv st : List Value} {M : Mm}
theorem r_getI {idx ci k q : Nat} {ty : FieldType} {fin : Bool} (h : Okz X cc own d) (hd : decode cc pc = .ok (.getfield idx, 3)) (fl : FLz own idx ci k ty fin) (hf : fI q ci k = true) (kk : Gz X (pc + 3) lv (.int (M.1 q k) :: st) M) : Gz X pc lv (.ref q :: st) M := by
  obtain ⟨p, l, e, R, s, m, args, below, meth, c, cells, slots, Q, D, cT, ad, nL⟩ := X
  intro H locs ls hl hP hD hS
  obtain ⟨ds, h1, h2, h3⟩ := fI_sp hf
  obtain ⟨C, T, N, ⟨c1, c2, c3, c4⟩, hk, -, -, hlk⟩ := fl
  have he := wlz_at (ad := ad) (cT := cT) (M := M) h1
  rw [celE_obj h2] at he
  have hv : (ds.mapIdx (fun k c => sltV ad M q k c))[k]? = some (.int (M.1 q k)) := by rw [List.getElem?_mapIdx, h3]; rfl
  rcases hlk with hlk | ⟨host, hlk⟩
  · exact va_get (rest := st.map (cvz ad)) h.1 h.2.1 h.2.2.2.2.1 c2 h.2.2.2.1 h.2.2.2.2.2.2.2.1 hP q he c1 k hk (h.2.2.2.2.1 _ hlk) (fun _ z => z) hv hd (kk H locs ls hl hP hD hS)
  · exact va_getN (rest := st.map (cvz ad)) h.1 h.2.1 h.2.2.2.2.1 c2 h.2.2.2.1 h.2.2.2.2.2.2.2.1 hP q he c1 k hk (h.2.2.2.2.2.1.use hlk) (fun _ z => z) hv hd (kk H locs ls hl hP hD hS)
theorem r_getL {idx ci k q : Nat} {ty : FieldType} {fin : Bool} (h : Okz X cc own d) (hd : decode cc pc = .ok (.getfield idx, 3)) (fl : FLz own idx ci k ty fin) (hf : fL q ci k = true) (kk : Gz X (pc + 3) lv (.long (M.2 q k) :: st) M) : Gz X pc lv (.ref q :: st) M := by
  obtain ⟨p, l, e, R, s, m, args, below, meth, c, cells, slots, Q, D, cT, ad, nL⟩ := X
  intro H locs ls hl hP hD hS
  obtain ⟨ds, h1, h2, h3⟩ := fL_sp hf
  obtain ⟨C, T, N, ⟨c1, c2, c3, c4⟩, hk, -, -, hlk⟩ := fl
  have he := wlz_at (ad := ad) (cT := cT) (M := M) h1
  rw [celE_obj h2] at he
  have hv : (ds.mapIdx (fun k c => sltV ad M q k c))[k]? = some (.long (M.2 q k)) := by rw [List.getElem?_mapIdx, h3]; rfl
  rcases hlk with hlk | ⟨host, hlk⟩
  · exact va_get (rest := st.map (cvz ad)) h.1 h.2.1 h.2.2.2.2.1 c2 h.2.2.2.1 h.2.2.2.2.2.2.2.1 hP q he c1 k hk (h.2.2.2.2.1 _ hlk) (fun _ z => z) hv hd (kk H locs ls hl hP hD hS)
  · exact va_getN (rest := st.map (cvz ad)) h.1 h.2.1 h.2.2.2.2.1 c2 h.2.2.2.1 h.2.2.2.2.2.2.2.1 hP q he c1 k hk (h.2.2.2.2.2.1.use hlk) (fun _ z => z) hv hd (kk H locs ls hl hP hD hS)
theorem r_getR {idx ci k q : Nat} (t : Nat) {ty : FieldType} {fin : Bool} (h : Okz X cc own d) (hd : decode cc pc = .ok (.getfield idx, 3)) (fl : FLz own idx ci k ty fin) (hf : fR q ci k t = true) (kk : Gz X (pc + 3) lv (.ref t :: st) M) : Gz X pc lv (.ref q :: st) M := by
  obtain ⟨p, l, e, R, s, m, args, below, meth, c, cells, slots, Q, D, cT, ad, nL⟩ := X
  intro H locs ls hl hP hD hS
  obtain ⟨ds, h1, h2, h3⟩ := fR_sp hf
  obtain ⟨C, T, N, ⟨c1, c2, c3, c4⟩, hk, -, -, hlk⟩ := fl
  have he := wlz_at (ad := ad) (cT := cT) (M := M) h1
  rw [celE_obj h2] at he
  have hv : (ds.mapIdx (fun k c => sltV ad M q k c))[k]? = some (.ref (ad t)) := by rw [List.getElem?_mapIdx, h3]; rfl
  rcases hlk with hlk | ⟨host, hlk⟩
  · exact va_get (rest := st.map (cvz ad)) h.1 h.2.1 h.2.2.2.2.1 c2 h.2.2.2.1 h.2.2.2.2.2.2.2.1 hP q he c1 k hk (h.2.2.2.2.1 _ hlk) (fun _ z => z) hv hd (kk H locs ls hl hP hD hS)
  · exact va_getN (rest := st.map (cvz ad)) h.1 h.2.1 h.2.2.2.2.1 c2 h.2.2.2.1 h.2.2.2.2.2.2.2.1 hP q he c1 k hk (h.2.2.2.2.2.1.use hlk) (fun _ z => z) hv hd (kk H locs ls hl hP hD hS)
theorem r_putT {idx ci k q : Nat} {x : Int32} {ty : FieldType} (h : Okz X cc own d) (hd : decode cc pc = .ok (.putfield idx, 3)) (fl : FLz own idx ci k ty false) (hf : fI q ci k = true) (hn : narrow ty (.int x) = .int x) (hft : fits ty (.int x) = true) (kk : Gz X (pc + 3) lv st (mput M q k x)) : Gz X pc lv (.int x :: .ref q :: st) M := by
  obtain ⟨p, l, e, R, s, m, args, below, meth, c, cells, slots, Q, D, cT, ad, nL⟩ := X
  intro H locs ls hl hP hD hS
  obtain ⟨ds, h1, h2, h3⟩ := fI_sp hf
  obtain ⟨C, T, N, ⟨c1, c2, ⟨ty0, c3⟩, c4⟩, hk, hty, hfin, hlk⟩ := fl
  have he := wlz_at (ad := ad) (cT := cT) (M := M) h1
  rw [celE_obj h2] at he
  have hlen : k < (ds.mapIdx (fun k c => sltV ad M q k c)).length := by rw [List.length_mapIdx]; exact (List.getElem?_eq_some_iff.mp h3).1
  have hw : (wlz ad cT M).set q (ad q, .inr (ci, (ds.mapIdx (fun k c => sltV ad M q k c)).set k (.int x))) = wlz ad cT (mput M q k x) := wlz_set h1 (by rw [celE_obj h2, slt_put h3]) mput_ne (fun _ _ => rfl)
  rcases hlk with hlk | ⟨host, hlk⟩
  · exact va_put (rest := st.map (cvz ad)) h.1 h.2.1 h.2.2.2.2.1 c2 ty0 c3 c4 h.2.2.2.1 h.2.2.2.2.2.2.2.1 hP hD hS q he c1 k hk (h.2.2.2.2.1 _ hlk) (fun _ z => z) hfin hty hn hft hlen hd (fun H1 locs1 a1 a2 a3 => kk H1 locs1 ls hl (by rw [← hw]; exact a1) (wlz_D hD) a3)
  · exact va_putN (rest := st.map (cvz ad)) h.1 h.2.1 h.2.2.2.2.1 c2 ty0 c3 c4 h.2.2.2.1 h.2.2.2.2.2.2.2.1 hP hD hS q he c1 k hk (h.2.2.2.2.2.1.use hlk) (fun _ z => z) hfin hty hn hft hlen hd (fun H1 locs1 a1 a2 a3 => kk H1 locs1 ls hl (by rw [← hw]; exact a1) (wlz_D hD) a3)
theorem r_putI {idx ci k q : Nat} {x : Int32} (h : Okz X cc own d) (hd : decode cc pc = .ok (.putfield idx, 3)) (fl : FLz own idx ci k .int false) (hf : fI q ci k = true) (kk : Gz X (pc + 3) lv st (mput M q k x)) : Gz X pc lv (.int x :: .ref q :: st) M := r_putT h hd fl hf rfl rfl kk
theorem r_putL {idx ci k q : Nat} {x : Int64} (h : Okz X cc own d) (hd : decode cc pc = .ok (.putfield idx, 3)) (fl : FLz own idx ci k .long false) (hf : fL q ci k = true) (kk : Gz X (pc + 3) lv st (mputL M q k x)) : Gz X pc lv (.long x :: .ref q :: st) M := by
  obtain ⟨p, l, e, R, s, m, args, below, meth, c, cells, slots, Q, D, cT, ad, nL⟩ := X
  intro H locs ls hl hP hD hS
  obtain ⟨ds, h1, h2, h3⟩ := fL_sp hf
  obtain ⟨C, T, N, ⟨c1, c2, ⟨ty0, c3⟩, c4⟩, hk, hty, hfin, hlk⟩ := fl
  have he := wlz_at (ad := ad) (cT := cT) (M := M) h1
  rw [celE_obj h2] at he
  have hlen : k < (ds.mapIdx (fun k c => sltV ad M q k c)).length := by rw [List.length_mapIdx]; exact (List.getElem?_eq_some_iff.mp h3).1
  have hw : (wlz ad cT M).set q (ad q, .inr (ci, (ds.mapIdx (fun k c => sltV ad M q k c)).set k (.long x))) = wlz ad cT (mputL M q k x) := wlz_set h1 (by rw [celE_obj h2, slt_putL h3]) (fun _ _ => rfl) mputL_ne
  rcases hlk with hlk | ⟨host, hlk⟩
  · exact va_put (rest := st.map (cvz ad)) h.1 h.2.1 h.2.2.2.2.1 c2 ty0 c3 c4 h.2.2.2.1 h.2.2.2.2.2.2.2.1 hP hD hS q he c1 k hk (h.2.2.2.2.1 _ hlk) (fun _ z => z) hfin hty rfl rfl hlen hd (fun H1 locs1 a1 a2 a3 => kk H1 locs1 ls hl (by rw [← hw]; exact a1) (wlz_D hD) a3)
  · exact va_putN (rest := st.map (cvz ad)) h.1 h.2.1 h.2.2.2.2.1 c2 ty0 c3 c4 h.2.2.2.1 h.2.2.2.2.2.2.2.1 hP hD hS q he c1 k hk (h.2.2.2.2.2.1.use hlk) (fun _ z => z) hfin hty rfl rfl hlen hd (fun H1 locs1 a1 a2 a3 => kk H1 locs1 ls hl (by rw [← hw]; exact a1) (wlz_D hD) a3)
theorem r_iald (n : Nat) {q : Nat} {i : Int32} (h : Okz X cc own d) (hd : decode cc pc = .ok (.iaload, 1)) (ha : aI 10 q n = true) (hin : vp_in i n) (kk : Gz X (pc + 1) lv (.int (M.1 q i.toNatClampNeg) :: st) M) : Gz X pc lv (.int i :: .ref q :: st) M := by
  obtain ⟨p, l, e, R, s, m, args, below, meth, c, cells, slots, Q, D, cT, ad, nL⟩ := X
  intro H locs ls hl hP hD hS
  obtain ⟨h1, h2, h3⟩ := aI_sp ha
  have he := wlz_at (ad := ad) (cT := cT) (M := M) h1
  rw [celE_arr h2 h3] at he
  exact va_iald (rest := st.map (cvz ad)) h.1 h.2.1 h.2.2.2.2.2.2.2.1 hP q 0 he rfl hin hd (kk H locs ls hl hP hD hS)
theorem r_bald (n : Nat) {q : Nat} {i : Int32} (h : Okz X cc own d) (hd : decode cc pc = .ok (.baload, 1)) (ha : aI 11 q n = true) (hin : vp_in i n) (kk : Gz X (pc + 1) lv (.int (M.1 q i.toNatClampNeg) :: st) M) : Gz X pc lv (.int i :: .ref q :: st) M := by
  obtain ⟨p, l, e, R, s, m, args, below, meth, c, cells, slots, Q, D, cT, ad, nL⟩ := X
  intro H locs ls hl hP hD hS
  obtain ⟨h1, h2, h3⟩ := aI_sp ha
  have he := wlz_at (ad := ad) (cT := cT) (M := M) h1
  rw [celE_arr h2 h3] at he
  exact va_bald (rest := st.map (cvz ad)) h.1 h.2.1 h.2.2.2.2.2.2.2.1 hP q 1 he rfl hin hd (kk H locs ls hl hP hD hS)
theorem r_zald (n : Nat) {q : Nat} {i : Int32} (h : Okz X cc own d) (hd : decode cc pc = .ok (.baload, 1)) (ha : aI 12 q n = true) (hin : vp_in i n) (kk : Gz X (pc + 1) lv (.int (M.1 q i.toNatClampNeg) :: st) M) : Gz X pc lv (.int i :: .ref q :: st) M := by
  obtain ⟨p, l, e, R, s, m, args, below, meth, c, cells, slots, Q, D, cT, ad, nL⟩ := X
  intro H locs ls hl hP hD hS
  obtain ⟨h1, h2, h3⟩ := aI_sp ha
  have he := wlz_at (ad := ad) (cT := cT) (M := M) h1
  rw [celE_arr h2 h3] at he
  exact va_zald (rest := st.map (cvz ad)) h.1 h.2.1 h.2.2.2.2.2.2.2.1 hP q 2 he rfl hin hd (kk H locs ls hl hP hD hS)
theorem r_iast (n : Nat) {q : Nat} {i x : Int32} (h : Okz X cc own d) (hd : decode cc pc = .ok (.iastore, 1)) (ha : aI 10 q n = true) (hin : vp_in i n) (kk : Gz X (pc + 1) lv st (mput M q i.toNatClampNeg x)) : Gz X pc lv (.int x :: .int i :: .ref q :: st) M := by
  obtain ⟨p, l, e, R, s, m, args, below, meth, c, cells, slots, Q, D, cT, ad, nL⟩ := X
  intro H locs ls hl hP hD hS
  obtain ⟨h1, h2, h3⟩ := aI_sp ha
  have he := wlz_at (ad := ad) (cT := cT) (M := M) h1
  rw [celE_arr h2 h3] at he
  have hw : (wlz ad cT M).set q (ad q, .inl (cT 10, n, .inl (upd (M.1 q) i.toNatClampNeg x))) = wlz ad cT (mput M q i.toNatClampNeg x) := wlz_set h1 (by rw [celE_arr h2 h3, mput_at]) mput_ne (fun _ _ => rfl)
  exact va_iast (rest := st.map (cvz ad)) h.1 h.2.1 h.2.2.2.2.2.2.2.1 hP hD hS q 0 he rfl hin hd (fun H1 locs1 a1 a2 a3 => kk H1 locs1 ls hl (by rw [← hw]; exact a1) (wlz_D hD) a3)
theorem r_bast (n : Nat) {q : Nat} {i x : Int32} (h : Okz X cc own d) (hd : decode cc pc = .ok (.bastore, 1)) (ha : aI 11 q n = true) (hin : vp_in i n) (kk : Gz X (pc + 1) lv st (mput M q i.toNatClampNeg (vp_nar .byte x))) : Gz X pc lv (.int x :: .int i :: .ref q :: st) M := by
  obtain ⟨p, l, e, R, s, m, args, below, meth, c, cells, slots, Q, D, cT, ad, nL⟩ := X
  intro H locs ls hl hP hD hS
  obtain ⟨h1, h2, h3⟩ := aI_sp ha
  have he := wlz_at (ad := ad) (cT := cT) (M := M) h1
  rw [celE_arr h2 h3] at he
  have hw : (wlz ad cT M).set q (ad q, .inl (cT 11, n, .inl (upd (M.1 q) i.toNatClampNeg (vp_nar .byte x)))) = wlz ad cT (mput M q i.toNatClampNeg (vp_nar .byte x)) := wlz_set h1 (by rw [celE_arr h2 h3, mput_at]) mput_ne (fun _ _ => rfl)
  exact va_bast (rest := st.map (cvz ad)) h.1 h.2.1 h.2.2.2.2.2.2.2.1 hP hD hS q 1 he rfl hin hd (fun H1 locs1 a1 a2 a3 => kk H1 locs1 ls hl (by rw [← hw]; exact a1) (wlz_D hD) a3)
theorem r_zast (n : Nat) {q : Nat} {i x : Int32} (h : Okz X cc own d) (hd : decode cc pc = .ok (.bastore, 1)) (ha : aI 12 q n = true) (hin : vp_in i n) (kk : Gz X (pc + 1) lv st (mput M q i.toNatClampNeg (vp_nar .boolean x))) : Gz X pc lv (.int x :: .int i :: .ref q :: st) M := by
  obtain ⟨p, l, e, R, s, m, args, below, meth, c, cells, slots, Q, D, cT, ad, nL⟩ := X
  intro H locs ls hl hP hD hS
  obtain ⟨h1, h2, h3⟩ := aI_sp ha
  have he := wlz_at (ad := ad) (cT := cT) (M := M) h1
  rw [celE_arr h2 h3] at he
  have hw : (wlz ad cT M).set q (ad q, .inl (cT 12, n, .inl (upd (M.1 q) i.toNatClampNeg (vp_nar .boolean x)))) = wlz ad cT (mput M q i.toNatClampNeg (vp_nar .boolean x)) := wlz_set h1 (by rw [celE_arr h2 h3, mput_at]) mput_ne (fun _ _ => rfl)
  exact va_zast (rest := st.map (cvz ad)) h.1 h.2.1 h.2.2.2.2.2.2.2.1 hP hD hS q 2 he rfl hin hd (fun H1 locs1 a1 a2 a3 => kk H1 locs1 ls hl (by rw [← hw]; exact a1) (wlz_D hD) a3)
theorem r_alen (ty n : Nat) {q : Nat} {v : Int32} (h : Okz X cc own d) (hd : decode cc pc = .ok (.arraylength, 1)) (ha : aI ty q n = true) (hv : Int32.ofNat n = v) (kk : Gz X (pc + 1) lv (.int v :: st) M) : Gz X pc lv (.ref q :: st) M := by
  obtain ⟨p, l, e, R, s, m, args, below, meth, c, cells, slots, Q, D, cT, ad, nL⟩ := X
  intro H locs ls hl hP hD hS
  obtain ⟨h1, h2, h3⟩ := aI_sp ha
  have he := wlz_at (ad := ad) (cT := cT) (M := M) h1
  rw [celE_arr h2 h3] at he
  rcases (show ty = 10 ∨ ty = 11 ∨ ty = 12 by omega) with rfl | rfl | rfl
  · exact va_alen (rest := st.map (cvz ad)) h.1 h.2.1 h.2.2.2.2.2.2.2.1 hP q 0 he (ty := .int) rfl hv hd (kk H locs ls hl hP hD hS)
  · exact va_alen (rest := st.map (cvz ad)) h.1 h.2.1 h.2.2.2.2.2.2.2.1 hP q 1 he (ty := .byte) rfl hv hd (kk H locs ls hl hP hD hS)
  · exact va_alen (rest := st.map (cvz ad)) h.1 h.2.1 h.2.2.2.2.2.2.2.1 hP q 2 he (ty := .boolean) rfl hv hd (kk H locs ls hl hP hD hS)
theorem r_aald (ty n t : Nat) {q : Nat} {i : Int32} (h : Okz X cc own d) (hd : decode cc pc = .ok (.aaload, 1)) (ha : aR ty q n i.toNatClampNeg t = true) (hin : vp_in i n) (kk : Gz X (pc + 1) lv (.ref t :: st) M) : Gz X pc lv (.int i :: .ref q :: st) M := by
  obtain ⟨p, l, e, R, s, m, args, below, meth, c, cells, slots, Q, D, cT, ad, nL⟩ := X
  intro H locs ls hl hP hD hS
  obtain ⟨ds, h1, h2, h3, h4⟩ := aR_sp ha
  have he := wlz_at (ad := ad) (cT := cT) (M := M) h1
  rw [celE_ra h2] at he
  have hv : va_rf ((ds[i.toNatClampNeg]?).map ad) = .ref (ad t) := by rw [h4]; rfl
  have key := kk H locs ls hl hP hD hS
  rw [List.map_cons, show cvz ad (.ref t) = va_rf ((ds[i.toNatClampNeg]?).map ad) from hv.symm] at key
  subst h3
  rcases h2 with rfl | rfl
  · exact va_aldq (rest := st.map (cvz ad)) h.1 h.2.1 h.2.2.2.2.2.2.2.1 hP q 3 he rfl hin hd key
  · exact va_aldq (rest := st.map (cvz ad)) h.1 h.2.1 h.2.2.2.2.2.2.2.1 hP q 4 he rfl hin hd key
/-- constants -/
def SLz (own : String) (idx : Nat) (nm : String) : Prop := Cond.fieldLink own idx "WalnutHouses" nm "[I" ∈ tb ∨ ∃ host, Cond.fieldLinkNest own idx "WalnutHouses" nm "[I" host ∈ nw
theorem r_getTop {idx : Nat} (h : Okz X cc own d) (hd : decode cc pc = .ok (.getstatic idx, 3)) (sl : SLz own idx "TOP_OF") (kk : Gz X (pc + 3) lv (.ref 50 :: st) M) : Gz X pc lv st M := by
  obtain ⟨p, l, e, R, s, m, args, below, meth, c, cells, slots, Q, D, cT, ad, nL⟩ := X
  intro H locs ls hl hP hD hS
  rcases sl with hlk | ⟨host, hlk⟩
  · exact va_gets (rest := st.map (cvz ad)) h.1 h.2.1 h.2.2.2.2.2.2.2.2.1.1 hS h.2.2.2.1 (h.2.2.2.2.1 _ hlk) (fun _ z => z) hd (kk H locs ls hl hP hD hS)
  · exact va_getsN (rest := st.map (cvz ad)) h.1 h.2.1 h.2.2.2.2.2.2.2.2.1.1 hS h.2.2.2.1 (h.2.2.2.2.2.1.use hlk) (fun _ z => z) hd (kk H locs ls hl hP hD hS)
theorem r_getTir {idx : Nat} (h : Okz X cc own d) (hd : decode cc pc = .ok (.getstatic idx, 3)) (sl : SLz own idx "TIRES") (kk : Gz X (pc + 3) lv (.ref 51 :: st) M) : Gz X pc lv st M := by
  obtain ⟨p, l, e, R, s, m, args, below, meth, c, cells, slots, Q, D, cT, ad, nL⟩ := X
  intro H locs ls hl hP hD hS
  rcases sl with hlk | ⟨host, hlk⟩
  · exact va_gets (rest := st.map (cvz ad)) h.1 h.2.1 h.2.2.2.2.2.2.2.2.1.2.2.1 hS h.2.2.2.1 (h.2.2.2.2.1 _ hlk) (fun _ z => z) hd (kk H locs ls hl hP hD hS)
  · exact va_getsN (rest := st.map (cvz ad)) h.1 h.2.1 h.2.2.2.2.2.2.2.2.1.2.2.1 hS h.2.2.2.1 (h.2.2.2.2.2.1.use hlk) (fun _ z => z) hd (kk H locs ls hl hP hD hS)
theorem r_topld {i : Int32} (h : Okz X cc own d) (hd : decode cc pc = .ok (.iaload, 1)) (hin : vp_in i 5) (kk : Gz X (pc + 1) lv (.int (topz i.toNatClampNeg) :: st) M) : Gz X pc lv (.int i :: .ref 50 :: st) M := by
  obtain ⟨p, l, e, R, s, m, args, below, meth, c, cells, slots, Q, D, cT, ad, nL⟩ := X
  intro H locs ls hl hP hD hS
  exact va_ti (rest := st.map (cvz ad)) h.1 h.2.1 h.2.2.2.2.2.2.2.2.1.2.1 hS hin rfl hd (kk H locs ls hl hP hD hS)
theorem r_tirld {i : Int32} (h : Okz X cc own d) (hd : decode cc pc = .ok (.iaload, 1)) (hin : vp_in i 4) (kk : Gz X (pc + 1) lv (.int (tirz i.toNatClampNeg) :: st) M) : Gz X pc lv (.int i :: .ref 51 :: st) M := by
  obtain ⟨p, l, e, R, s, m, args, below, meth, c, cells, slots, Q, D, cT, ad, nL⟩ := X
  intro H locs ls hl hP hD hS
  exact va_ti (rest := st.map (cvz ad)) h.1 h.2.1 h.2.2.2.2.2.2.2.2.1.2.2.2.1 hS hin rfl hd (kk H locs ls hl hP hD hS)
theorem cat_le (v : Value) : v.category ≤ 2 := by rcases lv_cat v with h | h <;> omega
theorem cat_sum : ∀ st : List Value, (st.map fun v => v.category).sum ≤ 2 * st.length := by
  intro st
  induction st with
  | nil => simp
  | cons v st ih => have := cat_le v; simp only [List.map_cons, List.sum_cons, List.length_cons]; omega
/-- Math -/
def MXz (own : String) (idx : Nat) (y : MethodName) (code : ByteArray) (n : Nat) : Prop := Cond.methodLink own idx y ∈ tb ∧ Cond.static y ∈ tb ∧ Cond.initialized "java/lang/Math" ∈ tb ∧ Cond.code y code n (some .int) ∈ tb
theorem r_mmax {idx : Nat} {x y : Int32} (h : Okz X cc own d) (hd : decode cc pc = .ok (.invokestatic idx, 3)) (mx : MXz own idx Lib.Math.max.name Lib.Math.max.code 2) (h1 : 1 ≤ d) (h2 : st.length ≤ 4) (kk : Gz X (pc + 3) lv (.int (if x < y then y else x) :: st) M) : Gz X pc lv (.int y :: .int x :: st) M := by
  obtain ⟨p, l, e, R, s, m, args, below, meth, c, cells, slots, Q, D, cT, ad, nL⟩ := X
  intro H locs ls hl hP hD hS
  obtain ⟨g1, g2, g3, g4⟩ := h.2.2.2.2.2.2.2.2.2
  have hs := cat_sum (st.map (cvz ad))
  rw [List.length_map] at hs
  exact va_mmax (rest := st.map (cvz ad)) h.1 h.2.1 (h.2.2.1.trans hl.1.symm) h.2.2.2.1 (h.2.2.2.2.1 _ mx.1) (h.2.2.2.2.1 _ mx.2.1) (h.2.2.2.2.1 _ mx.2.2.1) (h.2.2.2.2.1 _ mx.2.2.2) (by omega) (by omega) g1 g2 hd (kk H locs ls hl hP hD hS)
theorem r_mmin {idx : Nat} {x y : Int32} (h : Okz X cc own d) (hd : decode cc pc = .ok (.invokestatic idx, 3)) (mx : MXz own idx Lib.Math.min.name Lib.Math.min.code 2) (h1 : 1 ≤ d) (h2 : st.length ≤ 4) (kk : Gz X (pc + 3) lv (.int (if y < x then y else x) :: st) M) : Gz X pc lv (.int y :: .int x :: st) M := by
  obtain ⟨p, l, e, R, s, m, args, below, meth, c, cells, slots, Q, D, cT, ad, nL⟩ := X
  intro H locs ls hl hP hD hS
  obtain ⟨g1, g2, g3, g4⟩ := h.2.2.2.2.2.2.2.2.2
  have hs := cat_sum (st.map (cvz ad))
  rw [List.length_map] at hs
  exact va_mmin (rest := st.map (cvz ad)) h.1 h.2.1 (h.2.2.1.trans hl.1.symm) h.2.2.2.1 (h.2.2.2.2.1 _ mx.1) (h.2.2.2.2.1 _ mx.2.1) (h.2.2.2.2.1 _ mx.2.2.1) (h.2.2.2.2.1 _ mx.2.2.2) (by omega) (by omega) g1 g2 hd (kk H locs ls hl hP hD hS)
theorem r_mabs {idx : Nat} {x : Int32} (h : Okz X cc own d) (hd : decode cc pc = .ok (.invokestatic idx, 3)) (mx : MXz own idx Lib.Math.abs.name Lib.Math.abs.code 1) (h1 : 1 ≤ d) (h2 : st.length ≤ 4) (kk : Gz X (pc + 3) lv (.int (if 0 ≤ x then x else 0 - x) :: st) M) : Gz X pc lv (.int x :: st) M := by
  obtain ⟨p, l, e, R, s, m, args, below, meth, c, cells, slots, Q, D, cT, ad, nL⟩ := X
  intro H locs ls hl hP hD hS
  obtain ⟨g1, g2, g3, g4⟩ := h.2.2.2.2.2.2.2.2.2
  have hs := cat_sum (st.map (cvz ad))
  rw [List.length_map] at hs
  exact va_mabs (rest := st.map (cvz ad)) h.1 h.2.1 (h.2.2.1.trans hl.1.symm) h.2.2.2.1 (h.2.2.2.2.1 _ mx.1) (h.2.2.2.2.1 _ mx.2.1) (h.2.2.2.2.1 _ mx.2.2.1) (h.2.2.2.2.1 _ mx.2.2.2) (by omega) (by omega) g1 g2 hd (kk H locs ls hl hP hD hS)
/-- arraycopy of ints -/
def MCz (own : String) (idx : Nat) : Prop := Cond.methodLink own idx arraycopyName ∈ tb ∧ Cond.native arraycopyName ∈ tb ∧ Cond.static arraycopyName ∈ tb ∧ Cond.initialized "java/lang/System" ∈ tb
theorem r_copy {idx : Nat} (n0 n1 : Nat) {q0 q1 : Nat} {sp dp n : Int32} (h : Okz X cc own d) (hd : decode cc pc = .ok (.invokestatic idx, 3)) (mx : MCz own idx) (hd1 : 1 ≤ d) (hst : st.length ≤ 4) (ha0 : aI 10 q0 n0 = true) (ha1 : aI 10 q1 n1 = true) (h1 : ¬ sp < 0) (h2 : ¬ dp < 0) (h3 : ¬ n < 0) (h4 : sp.toNatClampNeg + n.toNatClampNeg ≤ n0) (h5 : dp.toNatClampNeg + n.toNatClampNeg ≤ n1)
    (kk : Gz X (pc + 3) lv st (mset M q1 (va_cpy (M.1 q0) (M.1 q1) sp.toNatClampNeg dp.toNatClampNeg n.toNatClampNeg))) : Gz X pc lv (.int n :: .int dp :: .ref q1 :: .int sp :: .ref q0 :: st) M := by
  obtain ⟨p, l, e, R, s, m, args, below, meth, c, cells, slots, Q, D, cT, ad, nL⟩ := X
  intro H locs ls hl hP hD hS
  obtain ⟨g1, g2, g3, g4⟩ := h.2.2.2.2.2.2.2.2.2
  have hs := cat_sum (st.map (cvz ad))
  rw [List.length_map] at hs
  obtain ⟨a1, a2, a3⟩ := aI_sp ha0
  obtain ⟨b1, b2, b3⟩ := aI_sp ha1
  have he0 := wlz_at (ad := ad) (cT := cT) (M := M) a1
  rw [celE_arr a2 a3] at he0
  have he1 := wlz_at (ad := ad) (cT := cT) (M := M) b1
  rw [celE_arr b2 b3] at he1
  have hw : (wlz ad cT M).set q1 (ad q1, .inl (cT 10, n1, .inl (va_cpy (M.1 q0) (M.1 q1) sp.toNatClampNeg dp.toNatClampNeg n.toNatClampNeg))) = wlz ad cT (mset M q1 (va_cpy (M.1 q0) (M.1 q1) sp.toNatClampNeg dp.toNatClampNeg n.toNatClampNeg)) := wlz_set b1 (by rw [celE_arr b2 b3, mset_at]) mset_ne (fun _ _ => rfl)
  have hnf : nativeFrameWords "java/lang/System" "arraycopy" 5 ≤ 16 := by decide +kernel
  exact va_copyi (rest := st.map (cvz ad)) h.1 h.2.1 (h.2.2.1.trans hl.1.symm) h.2.2.2.1 (h.2.2.2.2.1 _ mx.1) (h.2.2.2.2.1 _ mx.2.1) (h.2.2.2.2.1 _ mx.2.2.1) (h.2.2.2.2.1 _ mx.2.2.2) h.2.2.2.2.2.2.2.1 hP hD hS q0 q1 0 0 (ty := .int) he0 he1 rfl rfl rfl h1 h2 h3 h4 h5 (fun _ _ => rfl) (by omega) (by omega) hd (fun H1 locs1 z1 z2 z3 => kk H1 locs1 ls hl (by rw [← hw]; exact z1) (wlz_D hD) z3)
/-- ends -/
theorem r_ireturn {ty : FieldType} {v : Int32} {Po : Option Value → Mm → Prop} (h : Okz X cc own d) (hr : Rtz X (some ty) Po) (hd : decode cc pc = .ok (.ireturn, 1)) (hn : narrow ty (.int v) = .int v) (hp : Po (some (.int v)) M) : Gz X pc lv [.int v] M := by
  obtain ⟨p, l, e, R, s, m, args, below, meth, c, cells, slots, Q, D, cT, ad, nL⟩ := X
  intro H locs ls hl hP hD hS
  obtain ⟨h1, h2, h3⟩ := hr
  subst h3
  exact W.zret h.1 h.2.1 h1 hn (fun t ht hW => ⟨⟨_, rfl, some (.int v), M, rfl, hp, by rw [ht]; exact hP⟩, hS.F ht⟩) hS.2.2 hd h2
theorem r_lreturn {v : Int64} {Po : Option Value → Mm → Prop} (h : Okz X cc own d) (hr : Rtz X (some .long) Po) (hd : decode cc pc = .ok (.lreturn, 1)) (hp : Po (some (.long v)) M) : Gz X pc lv [.long v] M := by
  obtain ⟨p, l, e, R, s, m, args, below, meth, c, cells, slots, Q, D, cT, ad, nL⟩ := X
  intro H locs ls hl hP hD hS
  obtain ⟨h1, h2, h3⟩ := hr
  subst h3
  exact W.lret h.1 h.2.1 h1 (fun t ht hW => ⟨⟨_, rfl, some (.long v), M, rfl, hp, by rw [ht]; exact hP⟩, hS.F ht⟩) hS.2.2 hd h2
theorem r_return {Po : Option Value → Mm → Prop} (h : Okz X cc own d) (hr : Rtz X none Po) (hd : decode cc pc = .ok (.return_, 1)) (hp : Po none M) : Gz X pc lv [] M := by
  obtain ⟨p, l, e, R, s, m, args, below, meth, c, cells, slots, Q, D, cT, ad, nL⟩ := X
  intro H locs ls hl hP hD hS
  obtain ⟨h1, h2, h3⟩ := hr
  subst h3
  exact W.vret h.1 h.2.1 h1 (fun t ht hW => ⟨⟨_, rfl, none, M, rfl, hp, by rw [ht]; exact hP⟩, hS.F ht⟩) hS.2.2 hd h2
end RH
section MMC
variable {p : Program} {l : Launch} {e : Env} {R : Room} {s : State} {m : MethodId} {args : Array Value} {below : List Frame} {meth : Method} {c : Code} {H : Heap} {locs : List Loc} {cells slots : Nat} {Q : State → Prop}
variable {pc : Nat} {ls : Array Slot} {rest st0 : List Value} {A0 A1 : Nat → Prop} {H0 : Heap} {mc ms : Nat} {free : Addr → Prop}
theorem mm_call {post : Option Value → State → Prop} (hr : va_Run p l e R s m args below meth c H locs cells slots mc ms (F0 m pc ls st0) rest (fun st oc t => (∃ r, oc = .returned r ∧ post r t) ∧ va_F A1 st t) free) (hS : va_S A0 H0 H locs) (hA : ∀ q, q < H.size → A1 q → A0 q) (hf : ∀ q, free q → A0 q)
    (kk : ∀ (r : Option Value) (t : State) (H1 : Heap) (locs1 : List Loc), t.heap = H1 → post r t → va_S A0 H0 H1 locs1 → W p l e R s m args below meth c H1 locs1 (cells + mc) (slots + ms) Q (F0 m (pc + 3) ls (r.toList ++ rest))) : W p l e R s m args below meth c H locs cells slots Q (F0 m pc ls st0) := by
  intro T hT X
  obtain ⟨v, st₀, t, T', L, h0, X', hL, e1, e2, ⟨⟨r, hv, hp⟩, hz, hk⟩, st⟩ := hr T hT X
  cases hv
  rw [h0] at hz hk
  obtain ⟨t2, a1, b1⟩ := kk v t T'.heap (locs ++ L) e1.symm hp
    ⟨Nat.le_trans hS.1 (by rw [e1]; exact hz), fun q h1 h2 => by rw [e1, hk q (Nat.lt_of_lt_of_le h1 hS.1) (fun z => h2 (hA q (Nat.lt_of_lt_of_le h1 hS.1) z))]; exact hS.2.1 q h1 h2, fun q hq => by
      rcases List.mem_append.mp hq with h | h
      · exact hS.2.2 q h
      · exact hf _ (hL q h)⟩ T' rfl X'
  exact ⟨t2, st t2 a1, b1⟩
end MMC
/-- the callee's facts -/
def NMz (y : MethodName) (n : Nat) : Prop := y.cls ≠ "java/lang/invoke/MethodHandle" ∧ y.cls ≠ "java/lang/invoke/VarHandle" ∧ (parseMethodDescriptor y.desc).map (fun d => d.parameters.length) = some n
def MIz (ci : Nat) (y : MethodName) (bytes : ByteArray) (maxL : Nat) (ret : Option FieldType) (n : Nat) : Prop := (∃ (T : u_T) (N : Nat), cls6[ci]? = some (y.cls, T, N)) ∧ NMz y n ∧ Cond.instanceMethod y ∈ tb ∧ Cond.selects y.cls y y ∈ tb ∧ Cond.initialized y.cls ∈ tb ∧ Cond.code y bytes maxL ret ∈ tb
def MSz (y : MethodName) (bytes : ByteArray) (maxL : Nat) (ret : Option FieldType) (n : Nat) : Prop := NMz y n ∧ Cond.static y ∈ tb ∧ Cond.initialized y.cls ∈ tb ∧ Cond.code y bytes maxL ret ∈ tb
def LKz (own : String) (idx : Nat) (y : MethodName) : Prop := Cond.methodLink own idx y ∈ tb ∨ ∃ host, Cond.methodLinkNest own idx y host ∈ nw
theorem good_cons {w : Cond} (h : w ∈ tb) : GoodIn tb (w :: tb) := fun _ hv => (List.mem_cons.mp hv).elim (fun e => by rw [e]; exact tb_good _ h) (fun z => tb_good _ z)
theorem CPz_blind {av : List Value} {D : va_G} {cT : Nat → ClassId} {ad : Nat → Nat} {sz : Nat} {M : Mm} : FrameBlind (va_Pc av (CPz D cT ad sz M)) := by
  intro a U g mk q
  obtain ⟨q0, q1, q2, q3, q4, q5, q6, q7⟩ := q
  exact ⟨q0, q1, q2, va_K.moved (u := U) (U := U.calling g mk a) (Vm.Alike.refl U.vm) q3, q4, NW.same (u := U) (U := U.calling g mk a) rfl q5, RSz.same (u := U) (U := U.calling g mk a) rfl q6, ZSz.moved (u := U) (U := U.calling g mk a) (Vm.Alike.refl U.vm) q7⟩
theorem CPz_at {av : List Value} {D : va_G} {cT : Nat → ClassId} {ad : Nat → Nat} {M : Mm} {s : State} {H : Heap} {locs : List Loc} {B : Nat → Prop} (hP : va_P D cls6 (wlz ad cT M) H) (hD : va_D B (wlz ad cT M)) (hS : va_S (AAz ad s.heap.size) s.heap H locs) (hN : NW s) (hR : RSz ad s) (hK : va_K D cls6 (tyz cT) s) (hZ : ZSz ad (AAz ad s.heap.size) s s.heap) : ∀ U : State, U.heap = H → s.WarmedH U.vm → va_Pc av (CPz D cT ad H.size M) av.toArray U := by
  intro U hU hW
  refine ⟨rfl, by rw [hU], by rw [hU]; exact hP, va_K.moved hW.alike hK, hD.weaken (fun _ _ _ _ => trivial), hN.warm hW, hR.warm hW, ?_⟩
  rw [hU]
  refine ZSz.moved hW.alike ((hZ.kept hS.2.1).narrow (fun q hq => ?_))
  rcases hq with h | h
  · exact Or.inl h
  · exact Or.inr (Nat.le_trans hS.1 h)
section RC
variable {X : Cxz} {cc : ByteArray} {own : String} {d pc : Nat} {lv st : List Value} {M : Mm}
theorem r_callV {idx ci d' maxL n b : Nat} {y : MethodName} {bytes : ByteArray} {ret : Option FieldType} {av rest : List Value} {Po : Option Value → Mm → Prop} (h : Okz X cc own d) (hd : decode cc pc = .ok (.invokevirtual idx, 3)) (lk : LKz own idx y) (mi : MIz ci y bytes maxL ret n) (hc : Clz X.2.1 d' y bytes maxL ret (.ref b :: av) M Po) (hR : d' < d ∧ maxL ≤ 17 ∧ av.length = n ∧ (rest.map fun v => v.category).sum ≤ 8) (ho : oC b ci = true) (hst : st = av.reverse ++ .ref b :: rest)
    (kk : ∀ (r : Option Value) (M' : Mm), Po r M' → Gz X (pc + 3) lv (r.toList ++ rest) M') : Gz X pc lv st M := by
  obtain ⟨p, l, e, R, s, m, args, below, meth, c, cells, slots, Q, D, cT, ad, nL⟩ := X
  intro H locs ls hl hP hD hS
  subst hst
  obtain ⟨⟨T, N, hci⟩, ⟨m1, m2, m3⟩, m4, m5, m6, m7⟩ := mi
  obtain ⟨hx, hb, hml, hown, hts, hN, hRS, hK, hZ, g1, g2, g3, g4⟩ := h
  obtain ⟨r1, r2, r3, r4⟩ := hR
  obtain ⟨ds, o1, o2⟩ := oC_sp ho
  have he := wlz_at (ad := ad) (cT := cT) (M := M) o1
  rw [celE_obj o2] at he
  have hM := hc D cT ad H.size
  have hp : PreV s H y.cls (ad b) (va_Pc ((Value.ref b :: av).map (cvz ad)) (CPz D cT ad H.size M)) (av.map (cvz ad)) := ⟨CPz_blind, va_recv hK hP hci he, CPz_at hP hD hS hN hRS hK hZ⟩
  have hrm : (rmz d').frames + 1 ≤ R.frames ∧ 8 + (maxL + 11) + (rmz d').locals ≤ R.locals := ⟨by show d' + 1 ≤ _; omega, by show 8 + (maxL + 11) + 36 * d' ≤ _; omega⟩
  have hsum : ((rest.map (cvz ad)).map fun v => v.category).sum ≤ 8 := by
    rw [List.map_map, show ((fun v : Value => v.category) ∘ cvz ad) = (fun v => v.category) from funext (fun v => cvz_cat ad v)]
    exact r4
  have hstk : (F0 m pc ls ((av.reverse ++ Value.ref b :: rest).map (cvz ad))).stack = (av.map (cvz ad)).reverse ++ .ref (ad b) :: rest.map (cvz ad) := by
    show (av.reverse ++ Value.ref b :: rest).map (cvz ad) = _
    rw [List.map_append, List.map_reverse]; rfl
  have fin : ∀ q, AAz ad H.size q → AAz ad s.heap.size q := fun q hq => hq.elim Or.inl (fun z => Or.inr (Nat.le_trans hS.1 z))
  have run : va_Run p l e R s m args below meth c H locs cells slots 0 0 (F0 m pc ls ((av.reverse ++ Value.ref b :: rest).map (cvz ad))) (rest.map (cvz ad)) (CQz D cT ad (AAz ad H.size) Po (Value.ref (ad b) :: av.map (cvz ad)).toArray) (AAz ad H.size) := by
    rcases lk with lk | ⟨host, lk⟩
    · exact va_runV ⟨hx, hb, hml, hown, hts⟩ hM ⟨callB_of n hts (good_cons m7) rfl rfl rfl (hts _ m6) (hts _ lk) ⟨m1, m2, m3⟩ hrm, hts _ m4, hts _ m5⟩ hp rfl (by rw [List.length_map]; exact r3) hl.1 hstk (lv_room hsum) hd ⟨g1, g2⟩
    · exact va_runVN ⟨hx, hb, hml, hown, hts⟩ hM ⟨va_cnB n hts (good_cons m7) rfl rfl rfl (hN _ lk) (hts _ m6) ⟨m1, m2, m3⟩ hrm, hts _ m4, hts _ m5⟩ hp rfl (by rw [List.length_map]; exact r3) hl.1 hstk (lv_room hsum) hd ⟨g1, g2⟩
  refine mm_call run hS (fun q _ hq => fin q hq) fin (fun r t H1 locs1 ht hpost hS1 => ?_)
  obtain ⟨r0, M', e1, e2, e3⟩ := hpost
  have key := kk r0 M' e2 H1 locs1 ls hl (by rw [← ht]; exact e3) (wlz_D hD) hS1
  rw [List.map_append] at key
  subst e1
  cases r0 with
  | none => exact key
  | some v => exact key
theorem r_callS {idx d' maxL n : Nat} {y : MethodName} {bytes : ByteArray} {ret : Option FieldType} {av rest : List Value} {Po : Option Value → Mm → Prop} (h : Okz X cc own d) (hd : decode cc pc = .ok (.invokestatic idx, 3)) (lk : LKz own idx y) (mi : MSz y bytes maxL ret n) (hc : Clz X.2.1 d' y bytes maxL ret av M Po) (hR : d' < d ∧ maxL ≤ 17 ∧ av.length = n ∧ (rest.map fun v => v.category).sum ≤ 8) (hst : st = av.reverse ++ rest)
    (kk : ∀ (r : Option Value) (M' : Mm), Po r M' → Gz X (pc + 3) lv (r.toList ++ rest) M') : Gz X pc lv st M := by
  obtain ⟨p, l, e, R, s, m, args, below, meth, c, cells, slots, Q, D, cT, ad, nL⟩ := X
  intro H locs ls hl hP hD hS
  subst hst
  obtain ⟨⟨m1, m2, m3⟩, m4, m6, m7⟩ := mi
  obtain ⟨hx, hb, hml, hown, hts, hN, hRS, hK, hZ, g1, g2, g3, g4⟩ := h
  obtain ⟨r1, r2, r3, r4⟩ := hR
  have hM := hc D cT ad H.size
  have hp : PreS s H (va_Pc (av.map (cvz ad)) (CPz D cT ad H.size M)) (av.map (cvz ad)) := ⟨CPz_blind, CPz_at hP hD hS hN hRS hK hZ⟩
  have hrm : (rmz d').frames + 1 ≤ R.frames ∧ 8 + (maxL + 11) + (rmz d').locals ≤ R.locals := ⟨by show d' + 1 ≤ _; omega, by show 8 + (maxL + 11) + 36 * d' ≤ _; omega⟩
  have hsum : ((rest.map (cvz ad)).map fun v => v.category).sum ≤ 8 := by
    rw [List.map_map, show ((fun v : Value => v.category) ∘ cvz ad) = (fun v => v.category) from funext (fun v => cvz_cat ad v)]
    exact r4
  have hstk : (F0 m pc ls ((av.reverse ++ rest).map (cvz ad))).stack = (av.map (cvz ad)).reverse ++ rest.map (cvz ad) := by
    show (av.reverse ++ rest).map (cvz ad) = _
    rw [List.map_append, List.map_reverse]
  have fin : ∀ q, AAz ad H.size q → AAz ad s.heap.size q := fun q hq => hq.elim Or.inl (fun z => Or.inr (Nat.le_trans hS.1 z))
  have run : va_Run p l e R s m args below meth c H locs cells slots 0 0 (F0 m pc ls ((av.reverse ++ rest).map (cvz ad))) (rest.map (cvz ad)) (CQz D cT ad (AAz ad H.size) Po (av.map (cvz ad)).toArray) (AAz ad H.size) := by
    rcases lk with lk | ⟨host, lk⟩
    · exact va_runS ⟨hx, hb, hml, hown, hts⟩ hM ⟨callB_of n hts (good_cons m7) rfl rfl rfl (hts _ m6) (hts _ lk) ⟨m1, m2, m3⟩ hrm, hts _ m4⟩ hp rfl (by rw [List.length_map]; exact r3) hl.1 hstk (lv_room hsum) hd ⟨g1, g2⟩
    · exact va_runSN ⟨hx, hb, hml, hown, hts⟩ hM ⟨va_cnB n hts (good_cons m7) rfl rfl rfl (hN _ lk) (hts _ m6) ⟨m1, m2, m3⟩ hrm, hts _ m4, trivial⟩ hp rfl (by rw [List.length_map]; exact r3) hl.1 hstk (lv_room hsum) hd ⟨g1, g2⟩
  refine mm_call run hS (fun q _ hq => fin q hq) fin (fun r t H1 locs1 ht hpost hS1 => ?_)
  obtain ⟨r0, M', e1, e2, e3⟩ := hpost
  have key := kk r0 M' e2 H1 locs1 ls hl (by rw [← ht]; exact e3) (wlz_D hD) hS1
  rw [List.map_append] at key
  subst e1
  cases r0 with
  | none => exact key
  | some v => exact key
/-- a contract with one answer and one memory -/
abbrev CFz (l : Launch) (d : Nat) (y : MethodName) (bytes : ByteArray) (maxL : Nat) (ret : Option FieldType) (av : List Value) (M : Mm) (r : Option Value) (M' : Mm) : Prop := Clz l d y bytes maxL ret av M (fun r1 M1 => r1 = r ∧ M1 = M')
theorem r_fV {idx ci d' maxL n b : Nat} {y : MethodName} {bytes : ByteArray} {ret : Option FieldType} {av rest : List Value} {r : Option Value} {M' : Mm} (h : Okz X cc own d) (hd : decode cc pc = .ok (.invokevirtual idx, 3)) (lk : LKz own idx y) (mi : MIz ci y bytes maxL ret n) (hc : CFz X.2.1 d' y bytes maxL ret (.ref b :: av) M r M') (hR : d' < d ∧ maxL ≤ 17 ∧ av.length = n ∧ (rest.map fun v => v.category).sum ≤ 8) (ho : oC b ci = true) (hst : st = av.reverse ++ .ref b :: rest)
    (kk : Gz X (pc + 3) lv (r.toList ++ rest) M') : Gz X pc lv st M := r_callV h hd lk mi hc hR ho hst (fun _ _ q => by rw [q.1, q.2]; exact kk)
theorem r_fS {idx d' maxL n : Nat} {y : MethodName} {bytes : ByteArray} {ret : Option FieldType} {av rest : List Value} {r : Option Value} {M' : Mm} (h : Okz X cc own d) (hd : decode cc pc = .ok (.invokestatic idx, 3)) (lk : LKz own idx y) (mi : MSz y bytes maxL ret n) (hc : CFz X.2.1 d' y bytes maxL ret av M r M') (hR : d' < d ∧ maxL ≤ 17 ∧ av.length = n ∧ (rest.map fun v => v.category).sum ≤ 8) (hst : st = av.reverse ++ rest)
    (kk : Gz X (pc + 3) lv (r.toList ++ rest) M') : Gz X pc lv st M := r_callS h hd lk mi hc hR hst (fun _ _ q => by rw [q.1, q.2]; exact kk)
end RC
end
section
theorem ck0 : CKz 0 RX0 TX0 8 := ck_of [175, 177, 179, 181, 183, 185, 187, 189] rfl (by decide +kernel) tyX0 tyX0_ok nmX0
theorem ck1 : CKz 1 RX1 TX1 3 := ck_of [206, 208, 210] rfl (by decide +kernel) tyX1 tyX1_ok nmX1
theorem ck2 : CKz 2 RX2 TX2 6 := ck_of [125, 127, 129, 131, 133, 135] rfl (by decide +kernel) tyX2 tyX2_ok nmX2
theorem ck3 : CKz 3 RX3 TX3 2 := ck_of [148, 150] rfl (by decide +kernel) tyX3 tyX3_ok nmX3
theorem ck4 : CKz 4 RX4 TX4 11 := ck_of [225, 227, 229, 231, 233, 235, 237, 239, 241, 243, 245] rfl (by decide +kernel) tyX4 tyX4_ok nmX4
theorem ck5 : CKz 5 RX5 TX5 27 := ck_of [731, 733, 735, 737, 739, 741, 743, 745, 747, 749, 751, 753, 755, 757, 759, 761, 763, 765, 767, 769, 771, 773, 775, 777, 779, 781, 783] rfl (by decide +kernel) tyX5 tyX5_ok nmX5
theorem fRX2_9 : FLz RX2 9 2 0 (.array .byte) true := ⟨RX2, TX2, 6, ck2, by decide, by decide +kernel, rfl, Or.inl (tb_of 114 (by decide +kernel) rfl)⟩
theorem fRX4_69 : FLz RX4 69 2 0 (.array .byte) true := ⟨RX2, TX2, 6, ck2, by decide, by decide +kernel, rfl, Or.inr ⟨"WalnutHouses", (nw_of 115 (by decide +kernel) rfl)⟩⟩
theorem fRX2_15 : FLz RX2 15 2 1 (.int) false := ⟨RX2, TX2, 6, ck2, by decide, by decide +kernel, rfl, Or.inl (tb_of 116 (by decide +kernel) rfl)⟩
theorem fRX4_66 : FLz RX4 66 2 1 (.int) false := ⟨RX2, TX2, 6, ck2, by decide, by decide +kernel, rfl, Or.inr ⟨"WalnutHouses", (nw_of 117 (by decide +kernel) rfl)⟩⟩
theorem fRX2_19 : FLz RX2 19 2 2 (.int) false := ⟨RX2, TX2, 6, ck2, by decide, by decide +kernel, rfl, Or.inl (tb_of 118 (by decide +kernel) rfl)⟩
theorem fRX3_32 : FLz RX3 32 2 2 (.int) false := ⟨RX2, TX2, 6, ck2, by decide, by decide +kernel, rfl, Or.inr ⟨"WalnutHouses", (nw_of 119 (by decide +kernel) rfl)⟩⟩
theorem fRX2_22 : FLz RX2 22 2 3 (.int) false := ⟨RX2, TX2, 6, ck2, by decide, by decide +kernel, rfl, Or.inl (tb_of 120 (by decide +kernel) rfl)⟩
theorem fRX3_39 : FLz RX3 39 2 3 (.int) false := ⟨RX2, TX2, 6, ck2, by decide, by decide +kernel, rfl, Or.inr ⟨"WalnutHouses", (nw_of 121 (by decide +kernel) rfl)⟩⟩
theorem fRX2_25 : FLz RX2 25 2 4 (.int) false := ⟨RX2, TX2, 6, ck2, by decide, by decide +kernel, rfl, Or.inl (tb_of 122 (by decide +kernel) rfl)⟩
theorem fRX2_28 : FLz RX2 28 2 5 (.int) false := ⟨RX2, TX2, 6, ck2, by decide, by decide +kernel, rfl, Or.inl (tb_of 123 (by decide +kernel) rfl)⟩
theorem fRX3_75 : FLz RX3 75 2 5 (.int) false := ⟨RX2, TX2, 6, ck2, by decide, by decide +kernel, rfl, Or.inr ⟨"WalnutHouses", (nw_of 124 (by decide +kernel) rfl)⟩⟩
theorem fRX3_9 : FLz RX3 9 3 0 (.int) false := ⟨RX3, TX3, 2, ck3, by decide, by decide +kernel, rfl, Or.inl (tb_of 145 (by decide +kernel) rfl)⟩
theorem fRX4_77 : FLz RX4 77 3 0 (.int) false := ⟨RX3, TX3, 2, ck3, by decide, by decide +kernel, rfl, Or.inr ⟨"WalnutHouses", (nw_of 146 (by decide +kernel) rfl)⟩⟩
theorem fRX3_15 : FLz RX3 15 3 1 (.boolean) false := ⟨RX3, TX3, 2, ck3, by decide, by decide +kernel, rfl, Or.inl (tb_of 147 (by decide +kernel) rfl)⟩
theorem fRX0_9 : FLz RX0 9 0 0 (.array .int) true := ⟨RX0, TX0, 8, ck0, by decide, by decide +kernel, rfl, Or.inl (tb_of 159 (by decide +kernel) rfl)⟩
theorem fRX0_15 : FLz RX0 15 0 1 (.array .int) true := ⟨RX0, TX0, 8, ck0, by decide, by decide +kernel, rfl, Or.inl (tb_of 160 (by decide +kernel) rfl)⟩
theorem fRX4_174 : FLz RX4 174 0 1 (.array .int) true := ⟨RX0, TX0, 8, ck0, by decide, by decide +kernel, rfl, Or.inr ⟨"WalnutHouses", (nw_of 161 (by decide +kernel) rfl)⟩⟩
theorem fRX0_18 : FLz RX0 18 0 2 (.array .int) true := ⟨RX0, TX0, 8, ck0, by decide, by decide +kernel, rfl, Or.inl (tb_of 162 (by decide +kernel) rfl)⟩
theorem fRX4_177 : FLz RX4 177 0 2 (.array .int) true := ⟨RX0, TX0, 8, ck0, by decide, by decide +kernel, rfl, Or.inr ⟨"WalnutHouses", (nw_of 163 (by decide +kernel) rfl)⟩⟩
theorem fRX0_21 : FLz RX0 21 0 3 (.int) false := ⟨RX0, TX0, 8, ck0, by decide, by decide +kernel, rfl, Or.inl (tb_of 164 (by decide +kernel) rfl)⟩
theorem fRX3_50 : FLz RX3 50 0 3 (.int) false := ⟨RX0, TX0, 8, ck0, by decide, by decide +kernel, rfl, Or.inr ⟨"WalnutHouses", (nw_of 165 (by decide +kernel) rfl)⟩⟩
theorem fRX4_84 : FLz RX4 84 0 3 (.int) false := ⟨RX0, TX0, 8, ck0, by decide, by decide +kernel, rfl, Or.inr ⟨"WalnutHouses", (nw_of 166 (by decide +kernel) rfl)⟩⟩
theorem fRX0_25 : FLz RX0 25 0 4 (.int) false := ⟨RX0, TX0, 8, ck0, by decide, by decide +kernel, rfl, Or.inl (tb_of 167 (by decide +kernel) rfl)⟩
theorem fRX4_90 : FLz RX4 90 0 4 (.int) false := ⟨RX0, TX0, 8, ck0, by decide, by decide +kernel, rfl, Or.inr ⟨"WalnutHouses", (nw_of 168 (by decide +kernel) rfl)⟩⟩
theorem fRX0_28 : FLz RX0 28 0 5 (.int) false := ⟨RX0, TX0, 8, ck0, by decide, by decide +kernel, rfl, Or.inl (tb_of 169 (by decide +kernel) rfl)⟩
theorem fRX4_87 : FLz RX4 87 0 5 (.int) false := ⟨RX0, TX0, 8, ck0, by decide, by decide +kernel, rfl, Or.inr ⟨"WalnutHouses", (nw_of 170 (by decide +kernel) rfl)⟩⟩
theorem fRX0_31 : FLz RX0 31 0 6 (.int) false := ⟨RX0, TX0, 8, ck0, by decide, by decide +kernel, rfl, Or.inl (tb_of 171 (by decide +kernel) rfl)⟩
theorem fRX4_109 : FLz RX4 109 0 6 (.int) false := ⟨RX0, TX0, 8, ck0, by decide, by decide +kernel, rfl, Or.inr ⟨"WalnutHouses", (nw_of 172 (by decide +kernel) rfl)⟩⟩
theorem fRX0_34 : FLz RX0 34 0 7 (.int) false := ⟨RX0, TX0, 8, ck0, by decide, by decide +kernel, rfl, Or.inl (tb_of 173 (by decide +kernel) rfl)⟩
theorem fRX4_171 : FLz RX4 171 0 7 (.int) false := ⟨RX0, TX0, 8, ck0, by decide, by decide +kernel, rfl, Or.inr ⟨"WalnutHouses", (nw_of 174 (by decide +kernel) rfl)⟩⟩
theorem fRX1_9 : FLz RX1 9 1 0 (.array .int) true := ⟨RX1, TX1, 3, ck1, by decide, by decide +kernel, rfl, Or.inl (tb_of 201 (by decide +kernel) rfl)⟩
theorem fRX4_206 : FLz RX4 206 1 0 (.array .int) true := ⟨RX1, TX1, 3, ck1, by decide, by decide +kernel, rfl, Or.inr ⟨"WalnutHouses", (nw_of 202 (by decide +kernel) rfl)⟩⟩
theorem fRX1_15 : FLz RX1 15 1 1 (.int) false := ⟨RX1, TX1, 3, ck1, by decide, by decide +kernel, rfl, Or.inl (tb_of 203 (by decide +kernel) rfl)⟩
theorem fRX1_19 : FLz RX1 19 1 2 (.int) false := ⟨RX1, TX1, 3, ck1, by decide, by decide +kernel, rfl, Or.inl (tb_of 204 (by decide +kernel) rfl)⟩
theorem fRX4_209 : FLz RX4 209 1 2 (.int) false := ⟨RX1, TX1, 3, ck1, by decide, by decide +kernel, rfl, Or.inr ⟨"WalnutHouses", (nw_of 205 (by decide +kernel) rfl)⟩⟩
theorem fRX4_12 : FLz RX4 12 4 0 (.object "WalnutHouses$Tape") true := ⟨RX4, TX4, 11, ck4, by decide, by decide +kernel, rfl, Or.inl (tb_of 214 (by decide +kernel) rfl)⟩
theorem fRX4_19 : FLz RX4 19 4 1 (.object "WalnutHouses$Teller") true := ⟨RX4, TX4, 11, ck4, by decide, by decide +kernel, rfl, Or.inl (tb_of 215 (by decide +kernel) rfl)⟩
theorem fRX4_26 : FLz RX4 26 4 2 (.object "WalnutHouses$Nut") true := ⟨RX4, TX4, 11, ck4, by decide, by decide +kernel, rfl, Or.inl (tb_of 216 (by decide +kernel) rfl)⟩
theorem fRX4_30 : FLz RX4 30 4 3 (.object "WalnutHouses$Nut") true := ⟨RX4, TX4, 11, ck4, by decide, by decide +kernel, rfl, Or.inl (tb_of 217 (by decide +kernel) rfl)⟩
theorem fRX4_33 : FLz RX4 33 4 4 (.array (.object "WalnutHouses$Nut")) true := ⟨RX4, TX4, 11, ck4, by decide, by decide +kernel, rfl, Or.inl (tb_of 218 (by decide +kernel) rfl)⟩
theorem fRX4_37 : FLz RX4 37 4 5 (.array .boolean) true := ⟨RX4, TX4, 11, ck4, by decide, by decide +kernel, rfl, Or.inl (tb_of 219 (by decide +kernel) rfl)⟩
theorem fRX4_43 : FLz RX4 43 4 6 (.array (.object "WalnutHouses$Sheet")) true := ⟨RX4, TX4, 11, ck4, by decide, by decide +kernel, rfl, Or.inl (tb_of 220 (by decide +kernel) rfl)⟩
theorem fRX4_47 : FLz RX4 47 4 7 (.array .int) true := ⟨RX4, TX4, 11, ck4, by decide, by decide +kernel, rfl, Or.inl (tb_of 221 (by decide +kernel) rfl)⟩
theorem fRX4_51 : FLz RX4 51 4 8 (.array .int) true := ⟨RX4, TX4, 11, ck4, by decide, by decide +kernel, rfl, Or.inl (tb_of 222 (by decide +kernel) rfl)⟩
theorem fRX4_54 : FLz RX4 54 4 9 (.int) false := ⟨RX4, TX4, 11, ck4, by decide, by decide +kernel, rfl, Or.inl (tb_of 223 (by decide +kernel) rfl)⟩
theorem fRX4_58 : FLz RX4 58 4 10 (.int) false := ⟨RX4, TX4, 11, ck4, by decide, by decide +kernel, rfl, Or.inl (tb_of 224 (by decide +kernel) rfl)⟩
theorem sRX3_78 : SLz RX3 78 "TOP_OF" := Or.inr ⟨"WalnutHouses", (nw_of 361 (by decide +kernel) rfl)⟩
theorem wRJ6_265 : Cond.constant RJ6 265 (1431655765) ∈ tb := (tb_of 446 (by decide +kernel) rfl)
theorem wRJ6_266 : Cond.constant RJ6 266 (858993459) ∈ tb := (tb_of 447 (by decide +kernel) rfl)
theorem wRJ6_267 : Cond.constant RJ6 267 (252645135) ∈ tb := (tb_of 448 (by decide +kernel) rfl)
theorem sRX4_212 : SLz RX4 212 "TOP_OF" := Or.inl (tb_of 462 (by decide +kernel) rfl)
theorem sRX0_92 : SLz RX0 92 "TIRES" := Or.inr ⟨"WalnutHouses", (nw_of 498 (by decide +kernel) rfl)⟩
theorem wRX4_165 : Cond.constantLong RX4 165 (-1) ∈ tb := (tb_of 578 (by decide +kernel) rfl)
theorem wRX4_189 : Cond.constant RX4 189 (1103515245) ∈ tb := (tb_of 642 (by decide +kernel) rfl)
theorem fRX5_7 : FLz RX5 7 5 0 (.array .int) true := ⟨RX5, TX5, 27, ck5, by decide, by decide +kernel, rfl, Or.inl (tb_of 704 (by decide +kernel) rfl)⟩
theorem fRX5_13 : FLz RX5 13 5 1 (.array .int) true := ⟨RX5, TX5, 27, ck5, by decide, by decide +kernel, rfl, Or.inl (tb_of 705 (by decide +kernel) rfl)⟩
theorem fRX5_16 : FLz RX5 16 5 2 (.array .boolean) true := ⟨RX5, TX5, 27, ck5, by decide, by decide +kernel, rfl, Or.inl (tb_of 706 (by decide +kernel) rfl)⟩
theorem fRX5_20 : FLz RX5 20 5 3 (.array .int) true := ⟨RX5, TX5, 27, ck5, by decide, by decide +kernel, rfl, Or.inl (tb_of 707 (by decide +kernel) rfl)⟩
theorem fRX5_50 : FLz RX5 50 5 4 (.boolean) false := ⟨RX5, TX5, 27, ck5, by decide, by decide +kernel, rfl, Or.inl (tb_of 708 (by decide +kernel) rfl)⟩
theorem fRX5_23 : FLz RX5 23 5 5 (.array .int) true := ⟨RX5, TX5, 27, ck5, by decide, by decide +kernel, rfl, Or.inl (tb_of 709 (by decide +kernel) rfl)⟩
theorem fRX5_60 : FLz RX5 60 5 6 (.int) false := ⟨RX5, TX5, 27, ck5, by decide, by decide +kernel, rfl, Or.inl (tb_of 710 (by decide +kernel) rfl)⟩
theorem fRX5_73 : FLz RX5 73 5 7 (.int) false := ⟨RX5, TX5, 27, ck5, by decide, by decide +kernel, rfl, Or.inl (tb_of 711 (by decide +kernel) rfl)⟩
theorem fRX5_67 : FLz RX5 67 5 8 (.int) false := ⟨RX5, TX5, 27, ck5, by decide, by decide +kernel, rfl, Or.inl (tb_of 712 (by decide +kernel) rfl)⟩
theorem fRX5_88 : FLz RX5 88 5 9 (.int) false := ⟨RX5, TX5, 27, ck5, by decide, by decide +kernel, rfl, Or.inl (tb_of 713 (by decide +kernel) rfl)⟩
theorem fRX5_99 : FLz RX5 99 5 10 (.int) false := ⟨RX5, TX5, 27, ck5, by decide, by decide +kernel, rfl, Or.inl (tb_of 714 (by decide +kernel) rfl)⟩
theorem fRX5_64 : FLz RX5 64 5 11 (.int) false := ⟨RX5, TX5, 27, ck5, by decide, by decide +kernel, rfl, Or.inl (tb_of 715 (by decide +kernel) rfl)⟩
theorem fRX5_70 : FLz RX5 70 5 12 (.int) false := ⟨RX5, TX5, 27, ck5, by decide, by decide +kernel, rfl, Or.inl (tb_of 716 (by decide +kernel) rfl)⟩
theorem fRX5_125 : FLz RX5 125 5 13 (.int) false := ⟨RX5, TX5, 27, ck5, by decide, by decide +kernel, rfl, Or.inl (tb_of 717 (by decide +kernel) rfl)⟩
theorem fRX5_128 : FLz RX5 128 5 14 (.int) false := ⟨RX5, TX5, 27, ck5, by decide, by decide +kernel, rfl, Or.inl (tb_of 718 (by decide +kernel) rfl)⟩
theorem fRX5_236 : FLz RX5 236 5 15 (.int) false := ⟨RX5, TX5, 27, ck5, by decide, by decide +kernel, rfl, Or.inl (tb_of 719 (by decide +kernel) rfl)⟩
theorem fRX5_240 : FLz RX5 240 5 16 (.int) false := ⟨RX5, TX5, 27, ck5, by decide, by decide +kernel, rfl, Or.inl (tb_of 720 (by decide +kernel) rfl)⟩
theorem fRX5_267 : FLz RX5 267 5 17 (.long) false := ⟨RX5, TX5, 27, ck5, by decide, by decide +kernel, rfl, Or.inl (tb_of 721 (by decide +kernel) rfl)⟩
theorem fRX5_271 : FLz RX5 271 5 18 (.long) false := ⟨RX5, TX5, 27, ck5, by decide, by decide +kernel, rfl, Or.inl (tb_of 722 (by decide +kernel) rfl)⟩
theorem fRX5_274 : FLz RX5 274 5 19 (.long) false := ⟨RX5, TX5, 27, ck5, by decide, by decide +kernel, rfl, Or.inl (tb_of 723 (by decide +kernel) rfl)⟩
theorem fRX5_26 : FLz RX5 26 5 20 (.array .int) true := ⟨RX5, TX5, 27, ck5, by decide, by decide +kernel, rfl, Or.inl (tb_of 724 (by decide +kernel) rfl)⟩
theorem fRX5_29 : FLz RX5 29 5 21 (.array .int) true := ⟨RX5, TX5, 27, ck5, by decide, by decide +kernel, rfl, Or.inl (tb_of 725 (by decide +kernel) rfl)⟩
theorem fRX5_32 : FLz RX5 32 5 22 (.array .int) true := ⟨RX5, TX5, 27, ck5, by decide, by decide +kernel, rfl, Or.inl (tb_of 726 (by decide +kernel) rfl)⟩
theorem fRX5_35 : FLz RX5 35 5 23 (.array .int) true := ⟨RX5, TX5, 27, ck5, by decide, by decide +kernel, rfl, Or.inl (tb_of 727 (by decide +kernel) rfl)⟩
theorem fRX5_38 : FLz RX5 38 5 24 (.array .int) true := ⟨RX5, TX5, 27, ck5, by decide, by decide +kernel, rfl, Or.inl (tb_of 728 (by decide +kernel) rfl)⟩
theorem fRX5_310 : FLz RX5 310 5 25 (.int) false := ⟨RX5, TX5, 27, ck5, by decide, by decide +kernel, rfl, Or.inl (tb_of 729 (by decide +kernel) rfl)⟩
theorem fRX5_41 : FLz RX5 41 5 26 (.array .int) true := ⟨RX5, TX5, 27, ck5, by decide, by decide +kernel, rfl, Or.inl (tb_of 730 (by decide +kernel) rfl)⟩
theorem wRX5_54 : Cond.constantLong RX5 54 (127) ∈ tb := (tb_of 790 (by decide +kernel) rfl)
theorem wRX5_91 : Cond.constantLong RX5 91 (97) ∈ tb := (tb_of 810 (by decide +kernel) rfl)
theorem wRX5_93 : Cond.constantLong RX5 93 (122) ∈ tb := (tb_of 811 (by decide +kernel) rfl)
theorem wRX5_95 : Cond.constantLong RX5 95 (48) ∈ tb := (tb_of 812 (by decide +kernel) rfl)
theorem wRX5_97 : Cond.constantLong RX5 97 (57) ∈ tb := (tb_of 813 (by decide +kernel) rfl)
theorem wRX5_208 : Cond.constantLong RX5 208 (5) ∈ tb := (tb_of 905 (by decide +kernel) rfl)
theorem wRX5_138 : Cond.constantLong RX5 138 (-2) ∈ tb := (tb_of 910 (by decide +kernel) rfl)
theorem wRX5_140 : Cond.constantLong RX5 140 (2) ∈ tb := (tb_of 911 (by decide +kernel) rfl)
theorem wRX5_210 : Cond.constantLong RX5 210 (3) ∈ tb := (tb_of 927 (by decide +kernel) rfl)
theorem wRX5_123 : Cond.constantLong RX5 123 (20) ∈ tb := (tb_of 939 (by decide +kernel) rfl)
theorem wRX5_215 : Cond.constantLong RX5 215 (30) ∈ tb := (tb_of 952 (by decide +kernel) rfl)
theorem wRX5_223 : Cond.constantLong RX5 223 (60) ∈ tb := (tb_of 986 (by decide +kernel) rfl)
theorem wRX5_228 : Cond.constantLong RX5 228 (4) ∈ tb := (tb_of 987 (by decide +kernel) rfl)
theorem wRX5_239 : Cond.constant RX5 239 (1000000) ∈ tb := (tb_of 1015 (by decide +kernel) rfl)
theorem wRX5_277 : Cond.constantLong RX5 277 (10) ∈ tb := (tb_of 1067 (by decide +kernel) rfl)
theorem wRX5_279 : Cond.constantLong RX5 279 (8) ∈ tb := (tb_of 1068 (by decide +kernel) rfl)
theorem wRX5_284 : Cond.constantLong RX5 284 (-1) ∈ tb := (tb_of 1069 (by decide +kernel) rfl)
theorem wRX5_299 : Cond.constant RX5 299 (1103515245) ∈ tb := (tb_of 1116 (by decide +kernel) rfl)
theorem kRL_13 : LKz RL 13 yX4_feed := Or.inl (tb_of 248 (by decide +kernel) rfl)
theorem miX4_feed : MIz 4 yX4_feed cX4_feed 2 (some .int) 1 := ⟨⟨_, _, rfl⟩, ⟨by decide +kernel, by decide +kernel, by decide +kernel⟩, (tb_of 249 (by decide +kernel) rfl), (tb_of 250 (by decide +kernel) rfl), (tb_of 86 (by decide +kernel) rfl), (tb_of 251 (by decide +kernel) rfl)⟩
theorem kRX4_62 : LKz RX4 62 yX4_within := Or.inl (tb_of 252 (by decide +kernel) rfl)
theorem msX4_within : MSz yX4_within cX4_within 2 (some .boolean) 2 := ⟨⟨by decide +kernel, by decide +kernel, by decide +kernel⟩, (tb_of 253 (by decide +kernel) rfl), (tb_of 86 (by decide +kernel) rfl), (tb_of 254 (by decide +kernel) rfl)⟩
theorem kRL_18 : LKz RL 18 yX4_end := Or.inl (tb_of 255 (by decide +kernel) rfl)
theorem miX4_end : MIz 4 yX4_end cX4_end 3 (some .int) 1 := ⟨⟨_, _, rfl⟩, ⟨by decide +kernel, by decide +kernel, by decide +kernel⟩, (tb_of 256 (by decide +kernel) rfl), (tb_of 257 (by decide +kernel) rfl), (tb_of 86 (by decide +kernel) rfl), (tb_of 258 (by decide +kernel) rfl)⟩
theorem kRL_22 : LKz RL 22 yX4_text := Or.inl (tb_of 259 (by decide +kernel) rfl)
theorem miX4_text : MIz 4 yX4_text cX4_text 3 (some .int) 0 := ⟨⟨_, _, rfl⟩, ⟨by decide +kernel, by decide +kernel, by decide +kernel⟩, (tb_of 260 (by decide +kernel) rfl), (tb_of 261 (by decide +kernel) rfl), (tb_of 86 (by decide +kernel) rfl), (tb_of 262 (by decide +kernel) rfl)⟩
theorem kRX4_73 : LKz RX4 73 yX3_tell := Or.inr ⟨"WalnutHouses", (nw_of 263 (by decide +kernel) rfl)⟩
theorem miX3_tell : MIz 3 yX3_tell cX3_tell 4 (some .int) 2 := ⟨⟨_, _, rfl⟩, ⟨by decide +kernel, by decide +kernel, by decide +kernel⟩, (tb_of 265 (by decide +kernel) rfl), (tb_of 0 (by decide +kernel) rfl), (tb_of 88 (by decide +kernel) rfl), (tb_of 266 (by decide +kernel) rfl)⟩
theorem kRX3_19 : LKz RX3 19 yX0_beginAnew := Or.inr ⟨"WalnutHouses", (nw_of 267 (by decide +kernel) rfl)⟩
theorem miX0_beginAnew : MIz 0 yX0_beginAnew cX0_beginAnew 1 none 0 := ⟨⟨_, _, rfl⟩, ⟨by decide +kernel, by decide +kernel, by decide +kernel⟩, (tb_of 269 (by decide +kernel) rfl), (tb_of 1 (by decide +kernel) rfl), (tb_of 89 (by decide +kernel) rfl), (tb_of 270 (by decide +kernel) rfl)⟩
theorem kRX3_24 : LKz RX3 24 yX2_rewind := Or.inr ⟨"WalnutHouses", (nw_of 271 (by decide +kernel) rfl)⟩
theorem miX2_rewind : MIz 2 yX2_rewind cX2_rewind 1 none 0 := ⟨⟨_, _, rfl⟩, ⟨by decide +kernel, by decide +kernel, by decide +kernel⟩, (tb_of 273 (by decide +kernel) rfl), (tb_of 2 (by decide +kernel) rfl), (tb_of 87 (by decide +kernel) rfl), (tb_of 274 (by decide +kernel) rfl)⟩
theorem kRX3_29 : LKz RX3 29 yX2_readToken := Or.inr ⟨"WalnutHouses", (nw_of 275 (by decide +kernel) rfl)⟩
theorem miX2_readToken : MIz 2 yX2_readToken cX2_readToken 1 none 0 := ⟨⟨_, _, rfl⟩, ⟨by decide +kernel, by decide +kernel, by decide +kernel⟩, (tb_of 277 (by decide +kernel) rfl), (tb_of 3 (by decide +kernel) rfl), (tb_of 87 (by decide +kernel) rfl), (tb_of 278 (by decide +kernel) rfl)⟩
theorem kRX2_31 : LKz RX2 31 yX2_startsWithin := Or.inl (tb_of 279 (by decide +kernel) rfl)
theorem miX2_startsWithin : MIz 2 yX2_startsWithin cX2_startsWithin 3 (some .boolean) 2 := ⟨⟨_, _, rfl⟩, ⟨by decide +kernel, by decide +kernel, by decide +kernel⟩, (tb_of 281 (by decide +kernel) rfl), (tb_of 4 (by decide +kernel) rfl), (tb_of 87 (by decide +kernel) rfl), (tb_of 282 (by decide +kernel) rfl)⟩
theorem kRX2_35 : LKz RX2 35 yX2_endOfRun := Or.inl (tb_of 283 (by decide +kernel) rfl)
theorem miX2_endOfRun : MIz 2 yX2_endOfRun cX2_endOfRun 4 (some .int) 2 := ⟨⟨_, _, rfl⟩, ⟨by decide +kernel, by decide +kernel, by decide +kernel⟩, (tb_of 285 (by decide +kernel) rfl), (tb_of 5 (by decide +kernel) rfl), (tb_of 87 (by decide +kernel) rfl), (tb_of 286 (by decide +kernel) rfl)⟩
theorem kRX2_39 : LKz RX2 39 yX2_readFigures := Or.inl (tb_of 287 (by decide +kernel) rfl)
theorem miX2_readFigures : MIz 2 yX2_readFigures cX2_readFigures 2 none 0 := ⟨⟨_, _, rfl⟩, ⟨by decide +kernel, by decide +kernel, by decide +kernel⟩, (tb_of 289 (by decide +kernel) rfl), (tb_of 6 (by decide +kernel) rfl), (tb_of 87 (by decide +kernel) rfl), (tb_of 290 (by decide +kernel) rfl)⟩
theorem kRX3_35 : LKz RX3 35 yX3_faultOfLine := Or.inl (tb_of 291 (by decide +kernel) rfl)
theorem miX3_faultOfLine : MIz 3 yX3_faultOfLine cX3_faultOfLine 4 (some .int) 2 := ⟨⟨_, _, rfl⟩, ⟨by decide +kernel, by decide +kernel, by decide +kernel⟩, (tb_of 293 (by decide +kernel) rfl), (tb_of 7 (by decide +kernel) rfl), (tb_of 88 (by decide +kernel) rfl), (tb_of 294 (by decide +kernel) rfl)⟩
theorem kRX3_42 : LKz RX3 42 yX3_wordOf := Or.inl (tb_of 295 (by decide +kernel) rfl)
theorem msX3_wordOf : MSz yX3_wordOf cX3_wordOf 1 (some .int) 1 := ⟨⟨by decide +kernel, by decide +kernel, by decide +kernel⟩, (tb_of 296 (by decide +kernel) rfl), (tb_of 88 (by decide +kernel) rfl), (tb_of 297 (by decide +kernel) rfl)⟩
theorem kRX3_59 : LKz RX3 59 yX2_isNamed := Or.inr ⟨"WalnutHouses", (nw_of 299 (by decide +kernel) rfl)⟩
theorem miX2_isNamed : MIz 2 yX2_isNamed cX2_isNamed 3 (some .boolean) 1 := ⟨⟨_, _, rfl⟩, ⟨by decide +kernel, by decide +kernel, by decide +kernel⟩, (tb_of 301 (by decide +kernel) rfl), (tb_of 8 (by decide +kernel) rfl), (tb_of 87 (by decide +kernel) rfl), (tb_of 302 (by decide +kernel) rfl)⟩
theorem kRX3_46 : LKz RX3 46 yX3_faultOfNumbers := Or.inl (tb_of 355 (by decide +kernel) rfl)
theorem msX3_faultOfNumbers : MSz yX3_faultOfNumbers cX3_faultOfNumbers 7 (some .int) 5 := ⟨⟨by decide +kernel, by decide +kernel, by decide +kernel⟩, (tb_of 356 (by decide +kernel) rfl), (tb_of 88 (by decide +kernel) rfl), (tb_of 357 (by decide +kernel) rfl)⟩
theorem kRX3_71 : LKz RX3 71 yX3_faultOfToken := Or.inl (tb_of 358 (by decide +kernel) rfl)
theorem msX3_faultOfToken : MSz yX3_faultOfToken cX3_faultOfToken 2 (some .int) 2 := ⟨⟨by decide +kernel, by decide +kernel, by decide +kernel⟩, (tb_of 359 (by decide +kernel) rfl), (tb_of 88 (by decide +kernel) rfl), (tb_of 360 (by decide +kernel) rfl)⟩
theorem kRX3_82 : LKz RX3 82 yX0_put := Or.inr ⟨"WalnutHouses", (nw_of 363 (by decide +kernel) rfl)⟩
theorem miX0_put : MIz 0 yX0_put cX0_put 4 none 3 := ⟨⟨_, _, rfl⟩, ⟨by decide +kernel, by decide +kernel, by decide +kernel⟩, (tb_of 365 (by decide +kernel) rfl), (tb_of 9 (by decide +kernel) rfl), (tb_of 89 (by decide +kernel) rfl), (tb_of 366 (by decide +kernel) rfl)⟩
theorem kRX3_53 : LKz RX3 53 yX0_addMember := Or.inr ⟨"WalnutHouses", (nw_of 367 (by decide +kernel) rfl)⟩
theorem miX0_addMember : MIz 0 yX0_addMember cX0_addMember 3 (some .int) 1 := ⟨⟨_, _, rfl⟩, ⟨by decide +kernel, by decide +kernel, by decide +kernel⟩, (tb_of 369 (by decide +kernel) rfl), (tb_of 10 (by decide +kernel) rfl), (tb_of 89 (by decide +kernel) rfl), (tb_of 370 (by decide +kernel) rfl)⟩
theorem kRX0_43 : LKz RX0 43 yX0_put := Or.inl (tb_of 371 (by decide +kernel) rfl)
theorem kRX4_80 : LKz RX4 80 yX0_become := Or.inr ⟨"WalnutHouses", (nw_of 372 (by decide +kernel) rfl)⟩
theorem miX0_become : MIz 0 yX0_become cX0_become 2 none 1 := ⟨⟨_, _, rfl⟩, ⟨by decide +kernel, by decide +kernel, by decide +kernel⟩, (tb_of 374 (by decide +kernel) rfl), (tb_of 11 (by decide +kernel) rfl), (tb_of 89 (by decide +kernel) rfl), (tb_of 375 (by decide +kernel) rfl)⟩
theorem xRX0_37 : MCz RX0 37 := ⟨(tb_of 376 (by decide +kernel) rfl), (tb_of 378 (by decide +kernel) rfl), (tb_of 377 (by decide +kernel) rfl), (tb_of 96 (by decide +kernel) rfl)⟩
theorem kRL_27 : LKz RL 27 yX4_fault := Or.inl (tb_of 379 (by decide +kernel) rfl)
theorem miX4_fault : MIz 4 yX4_fault cX4_fault 1 (some .int) 0 := ⟨⟨_, _, rfl⟩, ⟨by decide +kernel, by decide +kernel, by decide +kernel⟩, (tb_of 380 (by decide +kernel) rfl), (tb_of 381 (by decide +kernel) rfl), (tb_of 86 (by decide +kernel) rfl), (tb_of 382 (by decide +kernel) rfl)⟩
theorem kRL_31 : LKz RL 31 yX4_rule := Or.inl (tb_of 383 (by decide +kernel) rfl)
theorem miX4_rule : MIz 4 yX4_rule cX4_rule 2 (some .int) 1 := ⟨⟨_, _, rfl⟩, ⟨by decide +kernel, by decide +kernel, by decide +kernel⟩, (tb_of 384 (by decide +kernel) rfl), (tb_of 385 (by decide +kernel) rfl), (tb_of 86 (by decide +kernel) rfl), (tb_of 386 (by decide +kernel) rfl)⟩
theorem kRX4_93 : LKz RX4 93 yX0_isCarried := Or.inr ⟨"WalnutHouses", (nw_of 387 (by decide +kernel) rfl)⟩
theorem miX0_isCarried : MIz 0 yX0_isCarried cX0_isCarried 1 (some .boolean) 0 := ⟨⟨_, _, rfl⟩, ⟨by decide +kernel, by decide +kernel, by decide +kernel⟩, (tb_of 389 (by decide +kernel) rfl), (tb_of 12 (by decide +kernel) rfl), (tb_of 89 (by decide +kernel) rfl), (tb_of 390 (by decide +kernel) rfl)⟩
theorem kRX0_55 : LKz RX0 55 yX0_agrees := Or.inl (tb_of 391 (by decide +kernel) rfl)
theorem miX0_agrees : MIz 0 yX0_agrees cX0_agrees 5 (some .boolean) 1 := ⟨⟨_, _, rfl⟩, ⟨by decide +kernel, by decide +kernel, by decide +kernel⟩, (tb_of 393 (by decide +kernel) rfl), (tb_of 13 (by decide +kernel) rfl), (tb_of 89 (by decide +kernel) rfl), (tb_of 394 (by decide +kernel) rfl)⟩
theorem kRX0_47 : LKz RX0 47 yX0_part := Or.inl (tb_of 395 (by decide +kernel) rfl)
theorem miX0_part : MIz 0 yX0_part cX0_part 3 (some .int) 2 := ⟨⟨_, _, rfl⟩, ⟨by decide +kernel, by decide +kernel, by decide +kernel⟩, (tb_of 397 (by decide +kernel) rfl), (tb_of 14 (by decide +kernel) rfl), (tb_of 89 (by decide +kernel) rfl), (tb_of 398 (by decide +kernel) rfl)⟩
theorem kRX0_51 : LKz RX0 51 yX0_votesFor := Or.inl (tb_of 399 (by decide +kernel) rfl)
theorem miX0_votesFor : MIz 0 yX0_votesFor cX0_votesFor 5 (some .boolean) 2 := ⟨⟨_, _, rfl⟩, ⟨by decide +kernel, by decide +kernel, by decide +kernel⟩, (tb_of 401 (by decide +kernel) rfl), (tb_of 15 (by decide +kernel) rfl), (tb_of 89 (by decide +kernel) rfl), (tb_of 402 (by decide +kernel) rfl)⟩
theorem kRX4_97 : LKz RX4 97 yX4_bit := Or.inl (tb_of 403 (by decide +kernel) rfl)
theorem msX4_bit : MSz yX4_bit cX4_bit 1 (some .int) 1 := ⟨⟨by decide +kernel, by decide +kernel, by decide +kernel⟩, (tb_of 404 (by decide +kernel) rfl), (tb_of 86 (by decide +kernel) rfl), (tb_of 405 (by decide +kernel) rfl)⟩
theorem kRX4_101 : LKz RX4 101 yX0_agreeingHouses := Or.inr ⟨"WalnutHouses", (nw_of 406 (by decide +kernel) rfl)⟩
theorem miX0_agreeingHouses : MIz 0 yX0_agreeingHouses cX0_agreeingHouses 1 (some .int) 0 := ⟨⟨_, _, rfl⟩, ⟨by decide +kernel, by decide +kernel, by decide +kernel⟩, (tb_of 408 (by decide +kernel) rfl), (tb_of 16 (by decide +kernel) rfl), (tb_of 89 (by decide +kernel) rfl), (tb_of 409 (by decide +kernel) rfl)⟩
theorem kRX0_59 : LKz RX0 59 yX4_bit := Or.inr ⟨"WalnutHouses", (nw_of 410 (by decide +kernel) rfl)⟩
theorem kRX4_105 : LKz RX4 105 yX0_votersFor := Or.inr ⟨"WalnutHouses", (nw_of 411 (by decide +kernel) rfl)⟩
theorem miX0_votersFor : MIz 0 yX0_votersFor cX0_votersFor 4 (some .int) 1 := ⟨⟨_, _, rfl⟩, ⟨by decide +kernel, by decide +kernel, by decide +kernel⟩, (tb_of 413 (by decide +kernel) rfl), (tb_of 17 (by decide +kernel) rfl), (tb_of 89 (by decide +kernel) rfl), (tb_of 414 (by decide +kernel) rfl)⟩
theorem kRL_35 : LKz RL 35 yX4_member := Or.inl (tb_of 415 (by decide +kernel) rfl)
theorem miX4_member : MIz 4 yX4_member cX4_member 3 (some .int) 2 := ⟨⟨_, _, rfl⟩, ⟨by decide +kernel, by decide +kernel, by decide +kernel⟩, (tb_of 416 (by decide +kernel) rfl), (tb_of 417 (by decide +kernel) rfl), (tb_of 86 (by decide +kernel) rfl), (tb_of 418 (by decide +kernel) rfl)⟩
theorem kRX4_112 : LKz RX4 112 yX4_isMember := Or.inl (tb_of 419 (by decide +kernel) rfl)
theorem miX4_isMember : MIz 4 yX4_isMember cX4_isMember 2 (some .boolean) 1 := ⟨⟨_, _, rfl⟩, ⟨by decide +kernel, by decide +kernel, by decide +kernel⟩, (tb_of 421 (by decide +kernel) rfl), (tb_of 18 (by decide +kernel) rfl), (tb_of 86 (by decide +kernel) rfl), (tb_of 422 (by decide +kernel) rfl)⟩
theorem kRX4_116 : LKz RX4 116 yX0_part := Or.inr ⟨"WalnutHouses", (nw_of 423 (by decide +kernel) rfl)⟩
theorem kRX4_120 : LKz RX4 120 yX0_votesFor := Or.inr ⟨"WalnutHouses", (nw_of 424 (by decide +kernel) rfl)⟩
theorem kRX4_123 : LKz RX4 123 yX0_pull := Or.inr ⟨"WalnutHouses", (nw_of 425 (by decide +kernel) rfl)⟩
theorem miX0_pull : MIz 0 yX0_pull cX0_pull 5 (some .int) 1 := ⟨⟨_, _, rfl⟩, ⟨by decide +kernel, by decide +kernel, by decide +kernel⟩, (tb_of 427 (by decide +kernel) rfl), (tb_of 19 (by decide +kernel) rfl), (tb_of 89 (by decide +kernel) rfl), (tb_of 428 (by decide +kernel) rfl)⟩
theorem kRX0_63 : LKz RX0 63 yX4_sign := Or.inr ⟨"WalnutHouses", (nw_of 429 (by decide +kernel) rfl)⟩
theorem msX4_sign : MSz yX4_sign cX4_sign 1 (some .int) 1 := ⟨⟨by decide +kernel, by decide +kernel, by decide +kernel⟩, (tb_of 430 (by decide +kernel) rfl), (tb_of 86 (by decide +kernel) rfl), (tb_of 431 (by decide +kernel) rfl)⟩
theorem xRX0_67 : MXz RX0 67 Lib.Math.abs.name Lib.Math.abs.code 1 := ⟨(tb_of 432 (by decide +kernel) rfl), (tb_of 433 (by decide +kernel) rfl), (tb_of 97 (by decide +kernel) rfl), (tb_of 434 (by decide +kernel) rfl)⟩
theorem kRL_40 : LKz RL 40 yX4_house := Or.inl (tb_of 435 (by decide +kernel) rfl)
theorem miX4_house : MIz 4 yX4_house cX4_house 5 (some .int) 2 := ⟨⟨_, _, rfl⟩, ⟨by decide +kernel, by decide +kernel, by decide +kernel⟩, (tb_of 436 (by decide +kernel) rfl), (tb_of 437 (by decide +kernel) rfl), (tb_of 86 (by decide +kernel) rfl), (tb_of 438 (by decide +kernel) rfl)⟩
theorem kRX4_126 : LKz RX4 126 yX0_membersOf := Or.inr ⟨"WalnutHouses", (nw_of 439 (by decide +kernel) rfl)⟩
theorem miX0_membersOf : MIz 0 yX0_membersOf cX0_membersOf 4 (some .int) 1 := ⟨⟨_, _, rfl⟩, ⟨by decide +kernel, by decide +kernel, by decide +kernel⟩, (tb_of 441 (by decide +kernel) rfl), (tb_of 20 (by decide +kernel) rfl), (tb_of 89 (by decide +kernel) rfl), (tb_of 442 (by decide +kernel) rfl)⟩
theorem kRX4_129 : LKz RX4 129 yJ6_bitCount_0f7a4 := Or.inl (tb_of 443 (by decide +kernel) rfl)
theorem msJ6_bitCount_0f7a4 : MSz yJ6_bitCount_0f7a4 cJ6_bitCount_0f7a4 1 (some .int) 1 := ⟨⟨by decide +kernel, by decide +kernel, by decide +kernel⟩, (tb_of 444 (by decide +kernel) rfl), (tb_of 98 (by decide +kernel) rfl), (tb_of 445 (by decide +kernel) rfl)⟩
theorem kRX4_134 : LKz RX4 134 yX0_pullOf := Or.inr ⟨"WalnutHouses", (nw_of 449 (by decide +kernel) rfl)⟩
theorem miX0_pullOf : MIz 0 yX0_pullOf cX0_pullOf 4 (some .int) 1 := ⟨⟨_, _, rfl⟩, ⟨by decide +kernel, by decide +kernel, by decide +kernel⟩, (tb_of 451 (by decide +kernel) rfl), (tb_of 21 (by decide +kernel) rfl), (tb_of 89 (by decide +kernel) rfl), (tb_of 452 (by decide +kernel) rfl)⟩
theorem kRX0_72 : LKz RX0 72 yX0_pull := Or.inl (tb_of 453 (by decide +kernel) rfl)
theorem kRL_44 : LKz RL 44 yX4_alter := Or.inl (tb_of 454 (by decide +kernel) rfl)
theorem miX4_alter : MIz 4 yX4_alter cX4_alter 5 (some .int) 3 := ⟨⟨_, _, rfl⟩, ⟨by decide +kernel, by decide +kernel, by decide +kernel⟩, (tb_of 455 (by decide +kernel) rfl), (tb_of 456 (by decide +kernel) rfl), (tb_of 86 (by decide +kernel) rfl), (tb_of 457 (by decide +kernel) rfl)⟩
theorem kRX4_137 : LKz RX4 137 yX4_canAlter := Or.inl (tb_of 458 (by decide +kernel) rfl)
theorem miX4_canAlter : MIz 4 yX4_canAlter cX4_canAlter 4 (some .boolean) 3 := ⟨⟨_, _, rfl⟩, ⟨by decide +kernel, by decide +kernel, by decide +kernel⟩, (tb_of 460 (by decide +kernel) rfl), (tb_of 22 (by decide +kernel) rfl), (tb_of 86 (by decide +kernel) rfl), (tb_of 461 (by decide +kernel) rfl)⟩
theorem kRX4_141 : LKz RX4 141 yX0_put := Or.inr ⟨"WalnutHouses", (nw_of 463 (by decide +kernel) rfl)⟩
theorem kRL_49 : LKz RL 49 yX4_word := Or.inl (tb_of 464 (by decide +kernel) rfl)
theorem miX4_word : MIz 4 yX4_word cX4_word 3 (some .int) 1 := ⟨⟨_, _, rfl⟩, ⟨by decide +kernel, by decide +kernel, by decide +kernel⟩, (tb_of 465 (by decide +kernel) rfl), (tb_of 466 (by decide +kernel) rfl), (tb_of 86 (by decide +kernel) rfl), (tb_of 467 (by decide +kernel) rfl)⟩
theorem kRL_53 : LKz RL 53 yX4_seat := Or.inl (tb_of 468 (by decide +kernel) rfl)
theorem miX4_seat : MIz 4 yX4_seat cX4_seat 4 (some .int) 2 := ⟨⟨_, _, rfl⟩, ⟨by decide +kernel, by decide +kernel, by decide +kernel⟩, (tb_of 469 (by decide +kernel) rfl), (tb_of 470 (by decide +kernel) rfl), (tb_of 86 (by decide +kernel) rfl), (tb_of 471 (by decide +kernel) rfl)⟩
theorem kRX4_145 : LKz RX4 145 yX0_addMember := Or.inr ⟨"WalnutHouses", (nw_of 472 (by decide +kernel) rfl)⟩
theorem kRL_57 : LKz RL 57 yX4_clear := Or.inl (tb_of 473 (by decide +kernel) rfl)
theorem miX4_clear : MIz 4 yX4_clear cX4_clear 3 (some .int) 1 := ⟨⟨_, _, rfl⟩, ⟨by decide +kernel, by decide +kernel, by decide +kernel⟩, (tb_of 474 (by decide +kernel) rfl), (tb_of 475 (by decide +kernel) rfl), (tb_of 86 (by decide +kernel) rfl), (tb_of 476 (by decide +kernel) rfl)⟩
theorem kRL_61 : LKz RL 61 yX4_days := Or.inl (tb_of 477 (by decide +kernel) rfl)
theorem miX4_days : MIz 4 yX4_days cX4_days 2 (some .int) 1 := ⟨⟨_, _, rfl⟩, ⟨by decide +kernel, by decide +kernel, by decide +kernel⟩, (tb_of 478 (by decide +kernel) rfl), (tb_of 479 (by decide +kernel) rfl), (tb_of 86 (by decide +kernel) rfl), (tb_of 480 (by decide +kernel) rfl)⟩
theorem kRX4_148 : LKz RX4 148 yX0_passDays := Or.inr ⟨"WalnutHouses", (nw_of 481 (by decide +kernel) rfl)⟩
theorem miX0_passDays : MIz 0 yX0_passDays cX0_passDays 4 (some .int) 1 := ⟨⟨_, _, rfl⟩, ⟨by decide +kernel, by decide +kernel, by decide +kernel⟩, (tb_of 483 (by decide +kernel) rfl), (tb_of 23 (by decide +kernel) rfl), (tb_of 89 (by decide +kernel) rfl), (tb_of 484 (by decide +kernel) rfl)⟩
theorem kRX0_75 : LKz RX0 75 yX0_passDay := Or.inl (tb_of 485 (by decide +kernel) rfl)
theorem miX0_passDay : MIz 0 yX0_passDay cX0_passDay 3 (some .int) 1 := ⟨⟨_, _, rfl⟩, ⟨by decide +kernel, by decide +kernel, by decide +kernel⟩, (tb_of 487 (by decide +kernel) rfl), (tb_of 24 (by decide +kernel) rfl), (tb_of 89 (by decide +kernel) rfl), (tb_of 488 (by decide +kernel) rfl)⟩
theorem kRX0_78 : LKz RX0 78 yX0_isCarried := Or.inl (tb_of 489 (by decide +kernel) rfl)
theorem kRX0_82 : LKz RX0 82 yX0_sit := Or.inl (tb_of 490 (by decide +kernel) rfl)
theorem miX0_sit : MIz 0 yX0_sit cX0_sit 4 (some .int) 1 := ⟨⟨_, _, rfl⟩, ⟨by decide +kernel, by decide +kernel, by decide +kernel⟩, (tb_of 492 (by decide +kernel) rfl), (tb_of 25 (by decide +kernel) rfl), (tb_of 89 (by decide +kernel) rfl), (tb_of 493 (by decide +kernel) rfl)⟩
theorem kRX0_85 : LKz RX0 85 yX0_tire := Or.inl (tb_of 494 (by decide +kernel) rfl)
theorem miX0_tire : MIz 0 yX0_tire cX0_tire 2 none 1 := ⟨⟨_, _, rfl⟩, ⟨by decide +kernel, by decide +kernel, by decide +kernel⟩, (tb_of 496 (by decide +kernel) rfl), (tb_of 26 (by decide +kernel) rfl), (tb_of 89 (by decide +kernel) rfl), (tb_of 497 (by decide +kernel) rfl)⟩
theorem xRX0_95 : MXz RX0 95 Lib.Math.min.name Lib.Math.min.code 2 := ⟨(tb_of 500 (by decide +kernel) rfl), (tb_of 501 (by decide +kernel) rfl), (tb_of 97 (by decide +kernel) rfl), (tb_of 502 (by decide +kernel) rfl)⟩
theorem kRX0_89 : LKz RX0 89 yX0_amend := Or.inl (tb_of 503 (by decide +kernel) rfl)
theorem miX0_amend : MIz 0 yX0_amend cX0_amend 3 (some .int) 1 := ⟨⟨_, _, rfl⟩, ⟨by decide +kernel, by decide +kernel, by decide +kernel⟩, (tb_of 505 (by decide +kernel) rfl), (tb_of 27 (by decide +kernel) rfl), (tb_of 89 (by decide +kernel) rfl), (tb_of 506 (by decide +kernel) rfl)⟩
theorem xRX0_98 : MXz RX0 98 Lib.Math.max.name Lib.Math.max.code 2 := ⟨(tb_of 507 (by decide +kernel) rfl), (tb_of 508 (by decide +kernel) rfl), (tb_of 97 (by decide +kernel) rfl), (tb_of 509 (by decide +kernel) rfl)⟩
theorem kRL_65 : LKz RL 65 yX4_runs := Or.inl (tb_of 510 (by decide +kernel) rfl)
theorem miX4_runs : MIz 4 yX4_runs cX4_runs 4 (some .int) 2 := ⟨⟨_, _, rfl⟩, ⟨by decide +kernel, by decide +kernel, by decide +kernel⟩, (tb_of 511 (by decide +kernel) rfl), (tb_of 512 (by decide +kernel) rfl), (tb_of 86 (by decide +kernel) rfl), (tb_of 513 (by decide +kernel) rfl)⟩
theorem kRX4_151 : LKz RX4 151 yX0_sumOf := Or.inr ⟨"WalnutHouses", (nw_of 514 (by decide +kernel) rfl)⟩
theorem miX0_sumOf : MIz 0 yX0_sumOf cX0_sumOf 4 (some .int) 1 := ⟨⟨_, _, rfl⟩, ⟨by decide +kernel, by decide +kernel, by decide +kernel⟩, (tb_of 516 (by decide +kernel) rfl), (tb_of 28 (by decide +kernel) rfl), (tb_of 89 (by decide +kernel) rfl), (tb_of 517 (by decide +kernel) rfl)⟩
theorem kRL_69 : LKz RL 69 yX4_ahead := Or.inl (tb_of 518 (by decide +kernel) rfl)
theorem miX4_ahead : MIz 4 yX4_ahead cX4_ahead 3 (some .int) 2 := ⟨⟨_, _, rfl⟩, ⟨by decide +kernel, by decide +kernel, by decide +kernel⟩, (tb_of 519 (by decide +kernel) rfl), (tb_of 520 (by decide +kernel) rfl), (tb_of 86 (by decide +kernel) rfl), (tb_of 521 (by decide +kernel) rfl)⟩
theorem kRL_73 : LKz RL 73 yX4_carries := Or.inl (tb_of 522 (by decide +kernel) rfl)
theorem miX4_carries : MIz 4 yX4_carries cX4_carries 2 (some .int) 0 := ⟨⟨_, _, rfl⟩, ⟨by decide +kernel, by decide +kernel, by decide +kernel⟩, (tb_of 523 (by decide +kernel) rfl), (tb_of 524 (by decide +kernel) rfl), (tb_of 86 (by decide +kernel) rfl), (tb_of 525 (by decide +kernel) rfl)⟩
theorem kRX4_154 : LKz RX4 154 yX0_daysToCarry := Or.inr ⟨"WalnutHouses", (nw_of 526 (by decide +kernel) rfl)⟩
theorem miX0_daysToCarry : MIz 0 yX0_daysToCarry cX0_daysToCarry 2 (some .int) 0 := ⟨⟨_, _, rfl⟩, ⟨by decide +kernel, by decide +kernel, by decide +kernel⟩, (tb_of 528 (by decide +kernel) rfl), (tb_of 29 (by decide +kernel) rfl), (tb_of 89 (by decide +kernel) rfl), (tb_of 529 (by decide +kernel) rfl)⟩
theorem kRL_77 : LKz RL 77 yX4_wording := Or.inl (tb_of 530 (by decide +kernel) rfl)
theorem miX4_wording : MIz 4 yX4_wording cX4_wording 2 (some .int) 1 := ⟨⟨_, _, rfl⟩, ⟨by decide +kernel, by decide +kernel, by decide +kernel⟩, (tb_of 531 (by decide +kernel) rfl), (tb_of 532 (by decide +kernel) rfl), (tb_of 86 (by decide +kernel) rfl), (tb_of 533 (by decide +kernel) rfl)⟩
theorem kRX4_157 : LKz RX4 157 yX4_soonest := Or.inl (tb_of 534 (by decide +kernel) rfl)
theorem miX4_soonest : MIz 4 yX4_soonest cX4_soonest 8 (some .int) 3 := ⟨⟨_, _, rfl⟩, ⟨by decide +kernel, by decide +kernel, by decide +kernel⟩, (tb_of 536 (by decide +kernel) rfl), (tb_of 30 (by decide +kernel) rfl), (tb_of 86 (by decide +kernel) rfl), (tb_of 537 (by decide +kernel) rfl)⟩
theorem kRL_81 : LKz RL 81 yX4_middle := Or.inl (tb_of 538 (by decide +kernel) rfl)
theorem miX4_middle : MIz 4 yX4_middle cX4_middle 6 (some .int) 1 := ⟨⟨_, _, rfl⟩, ⟨by decide +kernel, by decide +kernel, by decide +kernel⟩, (tb_of 539 (by decide +kernel) rfl), (tb_of 540 (by decide +kernel) rfl), (tb_of 86 (by decide +kernel) rfl), (tb_of 541 (by decide +kernel) rfl)⟩
theorem kRL_85 : LKz RL 85 yX4_swing := Or.inl (tb_of 542 (by decide +kernel) rfl)
theorem miX4_swing : MIz 4 yX4_swing cX4_swing 8 (some .int) 1 := ⟨⟨_, _, rfl⟩, ⟨by decide +kernel, by decide +kernel, by decide +kernel⟩, (tb_of 543 (by decide +kernel) rfl), (tb_of 544 (by decide +kernel) rfl), (tb_of 86 (by decide +kernel) rfl), (tb_of 545 (by decide +kernel) rfl)⟩
theorem kRL_89 : LKz RL 89 yX4_lose := Or.inl (tb_of 546 (by decide +kernel) rfl)
theorem miX4_lose : MIz 4 yX4_lose cX4_lose 2 (some .int) 1 := ⟨⟨_, _, rfl⟩, ⟨by decide +kernel, by decide +kernel, by decide +kernel⟩, (tb_of 547 (by decide +kernel) rfl), (tb_of 548 (by decide +kernel) rfl), (tb_of 86 (by decide +kernel) rfl), (tb_of 549 (by decide +kernel) rfl)⟩
theorem kRX4_161 : LKz RX4 161 yX4_soonerWith := Or.inl (tb_of 550 (by decide +kernel) rfl)
theorem miX4_soonerWith : MIz 4 yX4_soonerWith cX4_soonerWith 7 (some .int) 2 := ⟨⟨_, _, rfl⟩, ⟨by decide +kernel, by decide +kernel, by decide +kernel⟩, (tb_of 552 (by decide +kernel) rfl), (tb_of 31 (by decide +kernel) rfl), (tb_of 86 (by decide +kernel) rfl), (tb_of 553 (by decide +kernel) rfl)⟩
theorem kRX4_215 : LKz RX4 215 yX0_leaveOut := Or.inr ⟨"WalnutHouses", (nw_of 554 (by decide +kernel) rfl)⟩
theorem miX0_leaveOut : MIz 0 yX0_leaveOut cX0_leaveOut 3 none 1 := ⟨⟨_, _, rfl⟩, ⟨by decide +kernel, by decide +kernel, by decide +kernel⟩, (tb_of 556 (by decide +kernel) rfl), (tb_of 32 (by decide +kernel) rfl), (tb_of 89 (by decide +kernel) rfl), (tb_of 557 (by decide +kernel) rfl)⟩
theorem kRL_93 : LKz RL 93 yX4_cross := Or.inl (tb_of 558 (by decide +kernel) rfl)
theorem miX4_cross : MIz 4 yX4_cross cX4_cross 2 (some .int) 1 := ⟨⟨_, _, rfl⟩, ⟨by decide +kernel, by decide +kernel, by decide +kernel⟩, (tb_of 559 (by decide +kernel) rfl), (tb_of 560 (by decide +kernel) rfl), (tb_of 86 (by decide +kernel) rfl), (tb_of 561 (by decide +kernel) rfl)⟩
theorem kRL_97 : LKz RL 97 yX4_give := Or.inl (tb_of 562 (by decide +kernel) rfl)
theorem miX4_give : MIz 4 yX4_give cX4_give 4 (some .int) 2 := ⟨⟨_, _, rfl⟩, ⟨by decide +kernel, by decide +kernel, by decide +kernel⟩, (tb_of 563 (by decide +kernel) rfl), (tb_of 564 (by decide +kernel) rfl), (tb_of 86 (by decide +kernel) rfl), (tb_of 565 (by decide +kernel) rfl)⟩
theorem kRL_101 : LKz RL 101 yX4_mind := Or.inl (tb_of 566 (by decide +kernel) rfl)
theorem miX4_mind : MIz 4 yX4_mind cX4_mind 3 (some .int) 2 := ⟨⟨_, _, rfl⟩, ⟨by decide +kernel, by decide +kernel, by decide +kernel⟩, (tb_of 567 (by decide +kernel) rfl), (tb_of 568 (by decide +kernel) rfl), (tb_of 86 (by decide +kernel) rfl), (tb_of 569 (by decide +kernel) rfl)⟩
theorem kRL_105 : LKz RL 105 yX4_kind := Or.inl (tb_of 570 (by decide +kernel) rfl)
theorem miX4_kind : MIz 4 yX4_kind cX4_kind 3 (some .int) 2 := ⟨⟨_, _, rfl⟩, ⟨by decide +kernel, by decide +kernel, by decide +kernel⟩, (tb_of 571 (by decide +kernel) rfl), (tb_of 572 (by decide +kernel) rfl), (tb_of 86 (by decide +kernel) rfl), (tb_of 573 (by decide +kernel) rfl)⟩
theorem kRL_109 : LKz RL 109 yX4_luck := Or.inl (tb_of 574 (by decide +kernel) rfl)
end
section
theorem miX4_luck : MIz 4 yX4_luck cX4_luck 4 (some .long) 3 := ⟨⟨_, _, rfl⟩, ⟨by decide +kernel, by decide +kernel, by decide +kernel⟩, (tb_of 575 (by decide +kernel) rfl), (tb_of 576 (by decide +kernel) rfl), (tb_of 86 (by decide +kernel) rfl), (tb_of 577 (by decide +kernel) rfl)⟩
theorem kRX4_167 : LKz RX4 167 yX4_byOdds := Or.inl (tb_of 579 (by decide +kernel) rfl)
theorem miX4_byOdds : MIz 4 yX4_byOdds cX4_byOdds 13 (some .long) 4 := ⟨⟨_, _, rfl⟩, ⟨by decide +kernel, by decide +kernel, by decide +kernel⟩, (tb_of 581 (by decide +kernel) rfl), (tb_of 33 (by decide +kernel) rfl), (tb_of 86 (by decide +kernel) rfl), (tb_of 582 (by decide +kernel) rfl)⟩
theorem kRX4_219 : LKz RX4 219 yX4_weightOf := Or.inl (tb_of 583 (by decide +kernel) rfl)
theorem msX4_weightOf : MSz yX4_weightOf cX4_weightOf 6 (some .long) 3 := ⟨⟨by decide +kernel, by decide +kernel, by decide +kernel⟩, (tb_of 584 (by decide +kernel) rfl), (tb_of 86 (by decide +kernel) rfl), (tb_of 585 (by decide +kernel) rfl)⟩
theorem kRX4_190 : LKz RX4 190 yX0_passDay := Or.inr ⟨"WalnutHouses", (nw_of 586 (by decide +kernel) rfl)⟩
theorem kRX4_223 : LKz RX4 223 yX4_commonDivisor := Or.inl (tb_of 587 (by decide +kernel) rfl)
theorem msX4_commonDivisor : MSz yX4_commonDivisor cX4_commonDivisor 11 (some .long) 2 := ⟨⟨by decide +kernel, by decide +kernel, by decide +kernel⟩, (tb_of 588 (by decide +kernel) rfl), (tb_of 86 (by decide +kernel) rfl), (tb_of 589 (by decide +kernel) rfl)⟩
theorem kRL_114 : LKz RL 114 yX4_mean := Or.inl (tb_of 590 (by decide +kernel) rfl)
theorem miX4_mean : MIz 4 yX4_mean cX4_mean 4 (some .long) 3 := ⟨⟨_, _, rfl⟩, ⟨by decide +kernel, by decide +kernel, by decide +kernel⟩, (tb_of 591 (by decide +kernel) rfl), (tb_of 592 (by decide +kernel) rfl), (tb_of 86 (by decide +kernel) rfl), (tb_of 593 (by decide +kernel) rfl)⟩
theorem kRL_118 : LKz RL 118 yX4_see := Or.inl (tb_of 594 (by decide +kernel) rfl)
theorem miX4_see : MIz 4 yX4_see cX4_see 3 (some .int) 2 := ⟨⟨_, _, rfl⟩, ⟨by decide +kernel, by decide +kernel, by decide +kernel⟩, (tb_of 595 (by decide +kernel) rfl), (tb_of 596 (by decide +kernel) rfl), (tb_of 86 (by decide +kernel) rfl), (tb_of 597 (by decide +kernel) rfl)⟩
theorem kRL_122 : LKz RL 122 yX4_forget := Or.inl (tb_of 598 (by decide +kernel) rfl)
theorem miX4_forget : MIz 4 yX4_forget cX4_forget 3 (some .int) 1 := ⟨⟨_, _, rfl⟩, ⟨by decide +kernel, by decide +kernel, by decide +kernel⟩, (tb_of 599 (by decide +kernel) rfl), (tb_of 600 (by decide +kernel) rfl), (tb_of 86 (by decide +kernel) rfl), (tb_of 601 (by decide +kernel) rfl)⟩
theorem kRL_126 : LKz RL 126 yX4_kinds := Or.inl (tb_of 602 (by decide +kernel) rfl)
theorem miX4_kinds : MIz 4 yX4_kinds cX4_kinds 2 (some .int) 1 := ⟨⟨_, _, rfl⟩, ⟨by decide +kernel, by decide +kernel, by decide +kernel⟩, (tb_of 603 (by decide +kernel) rfl), (tb_of 604 (by decide +kernel) rfl), (tb_of 86 (by decide +kernel) rfl), (tb_of 605 (by decide +kernel) rfl)⟩
theorem kRX4_180 : LKz RX4 180 yX4_asSeen := Or.inl (tb_of 606 (by decide +kernel) rfl)
theorem miX4_asSeen : MIz 4 yX4_asSeen cX4_asSeen 5 (some .int) 2 := ⟨⟨_, _, rfl⟩, ⟨by decide +kernel, by decide +kernel, by decide +kernel⟩, (tb_of 608 (by decide +kernel) rfl), (tb_of 34 (by decide +kernel) rfl), (tb_of 86 (by decide +kernel) rfl), (tb_of 609 (by decide +kernel) rfl)⟩
theorem kRX4_227 : LKz RX4 227 yX4_traceWith := Or.inl (tb_of 610 (by decide +kernel) rfl)
theorem miX4_traceWith : MIz 4 yX4_traceWith cX4_traceWith 5 none 3 := ⟨⟨_, _, rfl⟩, ⟨by decide +kernel, by decide +kernel, by decide +kernel⟩, (tb_of 612 (by decide +kernel) rfl), (tb_of 35 (by decide +kernel) rfl), (tb_of 86 (by decide +kernel) rfl), (tb_of 613 (by decide +kernel) rfl)⟩
theorem kRX4_230 : LKz RX4 230 yX4_traceIsAsSeen := Or.inl (tb_of 614 (by decide +kernel) rfl)
theorem miX4_traceIsAsSeen : MIz 4 yX4_traceIsAsSeen cX4_traceIsAsSeen 2 (some .boolean) 0 := ⟨⟨_, _, rfl⟩, ⟨by decide +kernel, by decide +kernel, by decide +kernel⟩, (tb_of 616 (by decide +kernel) rfl), (tb_of 36 (by decide +kernel) rfl), (tb_of 86 (by decide +kernel) rfl), (tb_of 617 (by decide +kernel) rfl)⟩
theorem kRL_130 : LKz RL 130 yX4_wants := Or.inl (tb_of 618 (by decide +kernel) rfl)
theorem miX4_wants : MIz 4 yX4_wants cX4_wants 2 (some .int) 1 := ⟨⟨_, _, rfl⟩, ⟨by decide +kernel, by decide +kernel, by decide +kernel⟩, (tb_of 619 (by decide +kernel) rfl), (tb_of 620 (by decide +kernel) rfl), (tb_of 86 (by decide +kernel) rfl), (tb_of 621 (by decide +kernel) rfl)⟩
theorem kRL_134 : LKz RL 134 yX4_ask := Or.inl (tb_of 622 (by decide +kernel) rfl)
theorem miX4_ask : MIz 4 yX4_ask cX4_ask 7 (some .int) 2 := ⟨⟨_, _, rfl⟩, ⟨by decide +kernel, by decide +kernel, by decide +kernel⟩, (tb_of 623 (by decide +kernel) rfl), (tb_of 624 (by decide +kernel) rfl), (tb_of 86 (by decide +kernel) rfl), (tb_of 625 (by decide +kernel) rfl)⟩
theorem kRX4_183 : LKz RX4 183 yX4_tallyWants := Or.inl (tb_of 626 (by decide +kernel) rfl)
theorem miX4_tallyWants : MIz 4 yX4_tallyWants cX4_tallyWants 5 (some .int) 1 := ⟨⟨_, _, rfl⟩, ⟨by decide +kernel, by decide +kernel, by decide +kernel⟩, (tb_of 628 (by decide +kernel) rfl), (tb_of 37 (by decide +kernel) rfl), (tb_of 86 (by decide +kernel) rfl), (tb_of 629 (by decide +kernel) rfl)⟩
theorem kRX4_233 : LKz RX4 233 yJ7_fill_53178 := Or.inl (tb_of 630 (by decide +kernel) rfl)
theorem msJ7_fill_53178 : MSz yJ7_fill_53178 cJ7_fill_53178 4 none 2 := ⟨⟨by decide +kernel, by decide +kernel, by decide +kernel⟩, (tb_of 631 (by decide +kernel) rfl), (tb_of 99 (by decide +kernel) rfl), (tb_of 632 (by decide +kernel) rfl)⟩
theorem kRX4_186 : LKz RX4 186 yX4_worstLeft := Or.inl (tb_of 633 (by decide +kernel) rfl)
theorem miX4_worstLeft : MIz 4 yX4_worstLeft cX4_worstLeft 4 (some .int) 1 := ⟨⟨_, _, rfl⟩, ⟨by decide +kernel, by decide +kernel, by decide +kernel⟩, (tb_of 635 (by decide +kernel) rfl), (tb_of 38 (by decide +kernel) rfl), (tb_of 86 (by decide +kernel) rfl), (tb_of 636 (by decide +kernel) rfl)⟩
theorem xRX4_239 : MXz RX4 239 Lib.Math.max.name Lib.Math.max.code 2 := ⟨(tb_of 637 (by decide +kernel) rfl), (tb_of 508 (by decide +kernel) rfl), (tb_of 97 (by decide +kernel) rfl), (tb_of 509 (by decide +kernel) rfl)⟩
theorem kRL_138 : LKz RL 138 yX4_drift := Or.inl (tb_of 638 (by decide +kernel) rfl)
theorem miX4_drift : MIz 4 yX4_drift cX4_drift 8 (some .int) 3 := ⟨⟨_, _, rfl⟩, ⟨by decide +kernel, by decide +kernel, by decide +kernel⟩, (tb_of 639 (by decide +kernel) rfl), (tb_of 640 (by decide +kernel) rfl), (tb_of 86 (by decide +kernel) rfl), (tb_of 641 (by decide +kernel) rfl)⟩
theorem kRL_142 : LKz RL 142 yX4_keep := Or.inl (tb_of 643 (by decide +kernel) rfl)
theorem miX4_keep : MIz 4 yX4_keep cX4_keep 3 (some .int) 1 := ⟨⟨_, _, rfl⟩, ⟨by decide +kernel, by decide +kernel, by decide +kernel⟩, (tb_of 644 (by decide +kernel) rfl), (tb_of 645 (by decide +kernel) rfl), (tb_of 86 (by decide +kernel) rfl), (tb_of 646 (by decide +kernel) rfl)⟩
theorem kRL_146 : LKz RL 146 yX4_back := Or.inl (tb_of 647 (by decide +kernel) rfl)
theorem miX4_back : MIz 4 yX4_back cX4_back 2 (some .int) 1 := ⟨⟨_, _, rfl⟩, ⟨by decide +kernel, by decide +kernel, by decide +kernel⟩, (tb_of 648 (by decide +kernel) rfl), (tb_of 649 (by decide +kernel) rfl), (tb_of 86 (by decide +kernel) rfl), (tb_of 650 (by decide +kernel) rfl)⟩
theorem kRL_150 : LKz RL 150 yX4_sheet := Or.inl (tb_of 651 (by decide +kernel) rfl)
theorem miX4_sheet : MIz 4 yX4_sheet cX4_sheet 4 (some .int) 3 := ⟨⟨_, _, rfl⟩, ⟨by decide +kernel, by decide +kernel, by decide +kernel⟩, (tb_of 652 (by decide +kernel) rfl), (tb_of 653 (by decide +kernel) rfl), (tb_of 86 (by decide +kernel) rfl), (tb_of 654 (by decide +kernel) rfl)⟩
theorem kRX4_193 : LKz RX4 193 yX1_renew := Or.inr ⟨"WalnutHouses", (nw_of 655 (by decide +kernel) rfl)⟩
theorem miX1_renew : MIz 1 yX1_renew cX1_renew 3 none 2 := ⟨⟨_, _, rfl⟩, ⟨by decide +kernel, by decide +kernel, by decide +kernel⟩, (tb_of 657 (by decide +kernel) rfl), (tb_of 39 (by decide +kernel) rfl), (tb_of 90 (by decide +kernel) rfl), (tb_of 658 (by decide +kernel) rfl)⟩
theorem kRX1_22 : LKz RX1 22 yJ7_fill_53178 := Or.inl (tb_of 659 (by decide +kernel) rfl)
theorem kRL_154 : LKz RL 154 yX4_lay := Or.inl (tb_of 660 (by decide +kernel) rfl)
theorem miX4_lay : MIz 4 yX4_lay cX4_lay 5 (some .int) 3 := ⟨⟨_, _, rfl⟩, ⟨by decide +kernel, by decide +kernel, by decide +kernel⟩, (tb_of 661 (by decide +kernel) rfl), (tb_of 662 (by decide +kernel) rfl), (tb_of 86 (by decide +kernel) rfl), (tb_of 663 (by decide +kernel) rfl)⟩
theorem kRX4_197 : LKz RX4 197 yX1_faultOfCell := Or.inr ⟨"WalnutHouses", (nw_of 664 (by decide +kernel) rfl)⟩
theorem miX1_faultOfCell : MIz 1 yX1_faultOfCell cX1_faultOfCell 2 (some .int) 1 := ⟨⟨_, _, rfl⟩, ⟨by decide +kernel, by decide +kernel, by decide +kernel⟩, (tb_of 666 (by decide +kernel) rfl), (tb_of 40 (by decide +kernel) rfl), (tb_of 90 (by decide +kernel) rfl), (tb_of 667 (by decide +kernel) rfl)⟩
theorem kRX1_28 : LKz RX1 28 yX4_within := Or.inr ⟨"WalnutHouses", (nw_of 668 (by decide +kernel) rfl)⟩
theorem kRX4_200 : LKz RX4 200 yX1_putCell := Or.inr ⟨"WalnutHouses", (nw_of 669 (by decide +kernel) rfl)⟩
theorem miX1_putCell : MIz 1 yX1_putCell cX1_putCell 3 none 2 := ⟨⟨_, _, rfl⟩, ⟨by decide +kernel, by decide +kernel, by decide +kernel⟩, (tb_of 671 (by decide +kernel) rfl), (tb_of 41 (by decide +kernel) rfl), (tb_of 90 (by decide +kernel) rfl), (tb_of 672 (by decide +kernel) rfl)⟩
theorem kRL_158 : LKz RL 158 yX4_read := Or.inl (tb_of 673 (by decide +kernel) rfl)
theorem miX4_read : MIz 4 yX4_read cX4_read 12 (some .int) 4 := ⟨⟨_, _, rfl⟩, ⟨by decide +kernel, by decide +kernel, by decide +kernel⟩, (tb_of 674 (by decide +kernel) rfl), (tb_of 675 (by decide +kernel) rfl), (tb_of 86 (by decide +kernel) rfl), (tb_of 676 (by decide +kernel) rfl)⟩
theorem kRX4_203 : LKz RX4 203 yX1_faultOfPair := Or.inr ⟨"WalnutHouses", (nw_of 677 (by decide +kernel) rfl)⟩
theorem miX1_faultOfPair : MIz 1 yX1_faultOfPair cX1_faultOfPair 4 (some .int) 2 := ⟨⟨_, _, rfl⟩, ⟨by decide +kernel, by decide +kernel, by decide +kernel⟩, (tb_of 679 (by decide +kernel) rfl), (tb_of 42 (by decide +kernel) rfl), (tb_of 90 (by decide +kernel) rfl), (tb_of 680 (by decide +kernel) rfl)⟩
theorem kRX1_32 : LKz RX1 32 yX1_faultOfCell := Or.inl (tb_of 681 (by decide +kernel) rfl)
theorem kRL_163 : LKz RL 163 yX4_torn := Or.inl (tb_of 682 (by decide +kernel) rfl)
theorem miX4_torn : MIz 4 yX4_torn cX4_torn 1 (some .int) 0 := ⟨⟨_, _, rfl⟩, ⟨by decide +kernel, by decide +kernel, by decide +kernel⟩, (tb_of 683 (by decide +kernel) rfl), (tb_of 684 (by decide +kernel) rfl), (tb_of 86 (by decide +kernel) rfl), (tb_of 685 (by decide +kernel) rfl)⟩
theorem kRL_167 : LKz RL 167 yX4_count := Or.inl (tb_of 686 (by decide +kernel) rfl)
theorem miX4_count : MIz 4 yX4_count cX4_count 2 (some .int) 1 := ⟨⟨_, _, rfl⟩, ⟨by decide +kernel, by decide +kernel, by decide +kernel⟩, (tb_of 687 (by decide +kernel) rfl), (tb_of 688 (by decide +kernel) rfl), (tb_of 86 (by decide +kernel) rfl), (tb_of 689 (by decide +kernel) rfl)⟩
theorem kRX5_44 : LKz RX5 44 yX5_firstDraft := Or.inl (tb_of 696 (by decide +kernel) rfl)
theorem miX5_firstDraft : MIz 5 yX5_firstDraft cX5_firstDraft 2 none 0 := ⟨⟨_, _, rfl⟩, ⟨by decide +kernel, by decide +kernel, by decide +kernel⟩, (tb_of 698 (by decide +kernel) rfl), (tb_of 43 (by decide +kernel) rfl), (tb_of 91 (by decide +kernel) rfl), (tb_of 699 (by decide +kernel) rfl)⟩
theorem kRX5_47 : LKz RX5 47 yX5_keepDraft := Or.inl (tb_of 700 (by decide +kernel) rfl)
theorem miX5_keepDraft : MIz 5 yX5_keepDraft cX5_keepDraft 2 none 0 := ⟨⟨_, _, rfl⟩, ⟨by decide +kernel, by decide +kernel, by decide +kernel⟩, (tb_of 702 (by decide +kernel) rfl), (tb_of 44 (by decide +kernel) rfl), (tb_of 91 (by decide +kernel) rfl), (tb_of 703 (by decide +kernel) rfl)⟩
theorem kRL_17 : LKz RL 17 yX5_feed := Or.inl (tb_of 786 (by decide +kernel) rfl)
theorem miX5_feed : MIz 5 yX5_feed cX5_feed 2 (some .int) 1 := ⟨⟨_, _, rfl⟩, ⟨by decide +kernel, by decide +kernel, by decide +kernel⟩, (tb_of 787 (by decide +kernel) rfl), (tb_of 788 (by decide +kernel) rfl), (tb_of 91 (by decide +kernel) rfl), (tb_of 789 (by decide +kernel) rfl)⟩
theorem kRX5_56 : LKz RX5 56 yX5_in := Or.inl (tb_of 791 (by decide +kernel) rfl)
theorem msX5_in : MSz yX5_in cX5_in 6 (some .boolean) 3 := ⟨⟨by decide +kernel, by decide +kernel, by decide +kernel⟩, (tb_of 792 (by decide +kernel) rfl), (tb_of 91 (by decide +kernel) rfl), (tb_of 793 (by decide +kernel) rfl)⟩
theorem kRL_21 : LKz RL 21 yX5_end := Or.inl (tb_of 794 (by decide +kernel) rfl)
theorem miX5_end : MIz 5 yX5_end cX5_end 3 (some .int) 1 := ⟨⟨_, _, rfl⟩, ⟨by decide +kernel, by decide +kernel, by decide +kernel⟩, (tb_of 795 (by decide +kernel) rfl), (tb_of 796 (by decide +kernel) rfl), (tb_of 91 (by decide +kernel) rfl), (tb_of 797 (by decide +kernel) rfl)⟩
theorem kRL_26 : LKz RL 26 yX5_text := Or.inl (tb_of 798 (by decide +kernel) rfl)
theorem miX5_text : MIz 5 yX5_text cX5_text 2 (some .int) 0 := ⟨⟨_, _, rfl⟩, ⟨by decide +kernel, by decide +kernel, by decide +kernel⟩, (tb_of 799 (by decide +kernel) rfl), (tb_of 800 (by decide +kernel) rfl), (tb_of 91 (by decide +kernel) rfl), (tb_of 801 (by decide +kernel) rfl)⟩
theorem kRX5_106 : LKz RX5 106 yX5_reads := Or.inl (tb_of 802 (by decide +kernel) rfl)
theorem miX5_reads : MIz 5 yX5_reads cX5_reads 2 none 0 := ⟨⟨_, _, rfl⟩, ⟨by decide +kernel, by decide +kernel, by decide +kernel⟩, (tb_of 804 (by decide +kernel) rfl), (tb_of 45 (by decide +kernel) rfl), (tb_of 91 (by decide +kernel) rfl), (tb_of 805 (by decide +kernel) rfl)⟩
theorem kRX5_76 : LKz RX5 76 yX5_byteAt := Or.inl (tb_of 806 (by decide +kernel) rfl)
theorem miX5_byteAt : MIz 5 yX5_byteAt cX5_byteAt 2 (some .int) 1 := ⟨⟨_, _, rfl⟩, ⟨by decide +kernel, by decide +kernel, by decide +kernel⟩, (tb_of 808 (by decide +kernel) rfl), (tb_of 46 (by decide +kernel) rfl), (tb_of 91 (by decide +kernel) rfl), (tb_of 809 (by decide +kernel) rfl)⟩
theorem kRX5_102 : LKz RX5 102 yX5_requires := Or.inl (tb_of 814 (by decide +kernel) rfl)
theorem miX5_requires : MIz 5 yX5_requires cX5_requires 3 none 2 := ⟨⟨_, _, rfl⟩, ⟨by decide +kernel, by decide +kernel, by decide +kernel⟩, (tb_of 816 (by decide +kernel) rfl), (tb_of 47 (by decide +kernel) rfl), (tb_of 91 (by decide +kernel) rfl), (tb_of 817 (by decide +kernel) rfl)⟩
theorem kRX5_120 : LKz RX5 120 yX5_readLine := Or.inl (tb_of 818 (by decide +kernel) rfl)
theorem miX5_readLine : MIz 5 yX5_readLine cX5_readLine 2 none 0 := ⟨⟨_, _, rfl⟩, ⟨by decide +kernel, by decide +kernel, by decide +kernel⟩, (tb_of 820 (by decide +kernel) rfl), (tb_of 48 (by decide +kernel) rfl), (tb_of 91 (by decide +kernel) rfl), (tb_of 821 (by decide +kernel) rfl)⟩
theorem kRX5_112 : LKz RX5 112 yX5_lineNow := Or.inl (tb_of 822 (by decide +kernel) rfl)
theorem miX5_lineNow : MIz 5 yX5_lineNow cX5_lineNow 1 (some .int) 0 := ⟨⟨_, _, rfl⟩, ⟨by decide +kernel, by decide +kernel, by decide +kernel⟩, (tb_of 824 (by decide +kernel) rfl), (tb_of 49 (by decide +kernel) rfl), (tb_of 91 (by decide +kernel) rfl), (tb_of 825 (by decide +kernel) rfl)⟩
theorem kRX5_80 : LKz RX5 80 yX5_is := Or.inl (tb_of 826 (by decide +kernel) rfl)
theorem miX5_is : MIz 5 yX5_is cX5_is 6 (some .boolean) 5 := ⟨⟨_, _, rfl⟩, ⟨by decide +kernel, by decide +kernel, by decide +kernel⟩, (tb_of 828 (by decide +kernel) rfl), (tb_of 50 (by decide +kernel) rfl), (tb_of 91 (by decide +kernel) rfl), (tb_of 829 (by decide +kernel) rfl)⟩
theorem kRX5_84 : LKz RX5 84 yX5_endsIn := Or.inl (tb_of 830 (by decide +kernel) rfl)
theorem miX5_endsIn : MIz 5 yX5_endsIn cX5_endsIn 4 (some .boolean) 3 := ⟨⟨_, _, rfl⟩, ⟨by decide +kernel, by decide +kernel, by decide +kernel⟩, (tb_of 832 (by decide +kernel) rfl), (tb_of 51 (by decide +kernel) rfl), (tb_of 91 (by decide +kernel) rfl), (tb_of 833 (by decide +kernel) rfl)⟩
theorem kRX5_109 : LKz RX5 109 yX5_readNumber := Or.inl (tb_of 834 (by decide +kernel) rfl)
theorem miX5_readNumber : MIz 5 yX5_readNumber cX5_readNumber 3 (some .int) 1 := ⟨⟨_, _, rfl⟩, ⟨by decide +kernel, by decide +kernel, by decide +kernel⟩, (tb_of 836 (by decide +kernel) rfl), (tb_of 52 (by decide +kernel) rfl), (tb_of 91 (by decide +kernel) rfl), (tb_of 837 (by decide +kernel) rfl)⟩
theorem kRX5_116 : LKz RX5 116 yX5_readMember := Or.inl (tb_of 838 (by decide +kernel) rfl)
theorem miX5_readMember : MIz 5 yX5_readMember cX5_readMember 3 none 1 := ⟨⟨_, _, rfl⟩, ⟨by decide +kernel, by decide +kernel, by decide +kernel⟩, (tb_of 840 (by decide +kernel) rfl), (tb_of 53 (by decide +kernel) rfl), (tb_of 91 (by decide +kernel) rfl), (tb_of 841 (by decide +kernel) rfl)⟩
theorem kRL_30 : LKz RL 30 yX5_fault := Or.inl (tb_of 842 (by decide +kernel) rfl)
theorem miX5_fault : MIz 5 yX5_fault cX5_fault 1 (some .int) 0 := ⟨⟨_, _, rfl⟩, ⟨by decide +kernel, by decide +kernel, by decide +kernel⟩, (tb_of 843 (by decide +kernel) rfl), (tb_of 844 (by decide +kernel) rfl), (tb_of 91 (by decide +kernel) rfl), (tb_of 845 (by decide +kernel) rfl)⟩
theorem kRL_34 : LKz RL 34 yX5_rule := Or.inl (tb_of 846 (by decide +kernel) rfl)
theorem miX5_rule : MIz 5 yX5_rule cX5_rule 2 (some .int) 1 := ⟨⟨_, _, rfl⟩, ⟨by decide +kernel, by decide +kernel, by decide +kernel⟩, (tb_of 847 (by decide +kernel) rfl), (tb_of 848 (by decide +kernel) rfl), (tb_of 91 (by decide +kernel) rfl), (tb_of 849 (by decide +kernel) rfl)⟩
theorem kRX5_196 : LKz RX5 196 yX5_starts := Or.inl (tb_of 850 (by decide +kernel) rfl)
theorem miX5_starts : MIz 5 yX5_starts cX5_starts 2 none 0 := ⟨⟨_, _, rfl⟩, ⟨by decide +kernel, by decide +kernel, by decide +kernel⟩, (tb_of 852 (by decide +kernel) rfl), (tb_of 54 (by decide +kernel) rfl), (tb_of 91 (by decide +kernel) rfl), (tb_of 853 (by decide +kernel) rfl)⟩
theorem kRX5_185 : LKz RX5 185 yX5_isCarried := Or.inl (tb_of 854 (by decide +kernel) rfl)
theorem miX5_isCarried : MIz 5 yX5_isCarried cX5_isCarried 1 (some .boolean) 0 := ⟨⟨_, _, rfl⟩, ⟨by decide +kernel, by decide +kernel, by decide +kernel⟩, (tb_of 856 (by decide +kernel) rfl), (tb_of 55 (by decide +kernel) rfl), (tb_of 91 (by decide +kernel) rfl), (tb_of 857 (by decide +kernel) rfl)⟩
theorem kRX5_166 : LKz RX5 166 yX5_agrees := Or.inl (tb_of 858 (by decide +kernel) rfl)
theorem miX5_agrees : MIz 5 yX5_agrees cX5_agrees 4 (some .boolean) 1 := ⟨⟨_, _, rfl⟩, ⟨by decide +kernel, by decide +kernel, by decide +kernel⟩, (tb_of 860 (by decide +kernel) rfl), (tb_of 56 (by decide +kernel) rfl), (tb_of 91 (by decide +kernel) rfl), (tb_of 861 (by decide +kernel) rfl)⟩
theorem kRX5_160 : LKz RX5 160 yX5_votesFor := Or.inl (tb_of 862 (by decide +kernel) rfl)
theorem miX5_votesFor : MIz 5 yX5_votesFor cX5_votesFor 4 (some .int) 1 := ⟨⟨_, _, rfl⟩, ⟨by decide +kernel, by decide +kernel, by decide +kernel⟩, (tb_of 864 (by decide +kernel) rfl), (tb_of 57 (by decide +kernel) rfl), (tb_of 91 (by decide +kernel) rfl), (tb_of 865 (by decide +kernel) rfl)⟩
theorem kRX5_145 : LKz RX5 145 yX5_isOf := Or.inl (tb_of 866 (by decide +kernel) rfl)
theorem miX5_isOf : MIz 5 yX5_isOf cX5_isOf 3 (some .boolean) 2 := ⟨⟨_, _, rfl⟩, ⟨by decide +kernel, by decide +kernel, by decide +kernel⟩, (tb_of 868 (by decide +kernel) rfl), (tb_of 58 (by decide +kernel) rfl), (tb_of 91 (by decide +kernel) rfl), (tb_of 869 (by decide +kernel) rfl)⟩
theorem kRX5_131 : LKz RX5 131 yX5_of := Or.inl (tb_of 870 (by decide +kernel) rfl)
theorem miX5_of : MIz 5 yX5_of cX5_of 3 (some .int) 2 := ⟨⟨_, _, rfl⟩, ⟨by decide +kernel, by decide +kernel, by decide +kernel⟩, (tb_of 872 (by decide +kernel) rfl), (tb_of 59 (by decide +kernel) rfl), (tb_of 91 (by decide +kernel) rfl), (tb_of 873 (by decide +kernel) rfl)⟩
theorem kRX5_149 : LKz RX5 149 yX5_votes := Or.inl (tb_of 874 (by decide +kernel) rfl)
theorem miX5_votes : MIz 5 yX5_votes cX5_votes 2 (some .boolean) 1 := ⟨⟨_, _, rfl⟩, ⟨by decide +kernel, by decide +kernel, by decide +kernel⟩, (tb_of 876 (by decide +kernel) rfl), (tb_of 60 (by decide +kernel) rfl), (tb_of 91 (by decide +kernel) rfl), (tb_of 877 (by decide +kernel) rfl)⟩
theorem kRX5_135 : LKz RX5 135 yX5_awayBy := Or.inl (tb_of 878 (by decide +kernel) rfl)
theorem miX5_awayBy : MIz 5 yX5_awayBy cX5_awayBy 2 (some .int) 1 := ⟨⟨_, _, rfl⟩, ⟨by decide +kernel, by decide +kernel, by decide +kernel⟩, (tb_of 880 (by decide +kernel) rfl), (tb_of 61 (by decide +kernel) rfl), (tb_of 91 (by decide +kernel) rfl), (tb_of 881 (by decide +kernel) rfl)⟩
theorem kRX5_153 : LKz RX5 153 yX5_flag := Or.inl (tb_of 882 (by decide +kernel) rfl)
theorem msX5_flag : MSz yX5_flag cX5_flag 1 (some .int) 1 := ⟨⟨by decide +kernel, by decide +kernel, by decide +kernel⟩, (tb_of 883 (by decide +kernel) rfl), (tb_of 91 (by decide +kernel) rfl), (tb_of 884 (by decide +kernel) rfl)⟩
theorem kRX5_163 : LKz RX5 163 yX5_votesAgainst := Or.inl (tb_of 885 (by decide +kernel) rfl)
theorem miX5_votesAgainst : MIz 5 yX5_votesAgainst cX5_votesAgainst 4 (some .int) 1 := ⟨⟨_, _, rfl⟩, ⟨by decide +kernel, by decide +kernel, by decide +kernel⟩, (tb_of 887 (by decide +kernel) rfl), (tb_of 62 (by decide +kernel) rfl), (tb_of 91 (by decide +kernel) rfl), (tb_of 888 (by decide +kernel) rfl)⟩
theorem kRX5_199 : LKz RX5 199 yX5_agreeing := Or.inl (tb_of 889 (by decide +kernel) rfl)
theorem miX5_agreeing : MIz 5 yX5_agreeing cX5_agreeing 1 (some .int) 0 := ⟨⟨_, _, rfl⟩, ⟨by decide +kernel, by decide +kernel, by decide +kernel⟩, (tb_of 891 (by decide +kernel) rfl), (tb_of 63 (by decide +kernel) rfl), (tb_of 91 (by decide +kernel) rfl), (tb_of 892 (by decide +kernel) rfl)⟩
theorem kRX5_202 : LKz RX5 202 yX5_votingNow := Or.inl (tb_of 893 (by decide +kernel) rfl)
theorem miX5_votingNow : MIz 5 yX5_votingNow cX5_votingNow 3 (some .int) 0 := ⟨⟨_, _, rfl⟩, ⟨by decide +kernel, by decide +kernel, by decide +kernel⟩, (tb_of 895 (by decide +kernel) rfl), (tb_of 64 (by decide +kernel) rfl), (tb_of 91 (by decide +kernel) rfl), (tb_of 896 (by decide +kernel) rfl)⟩
theorem kRL_39 : LKz RL 39 yX5_member := Or.inl (tb_of 897 (by decide +kernel) rfl)
theorem miX5_member : MIz 5 yX5_member cX5_member 3 (some .int) 2 := ⟨⟨_, _, rfl⟩, ⟨by decide +kernel, by decide +kernel, by decide +kernel⟩, (tb_of 898 (by decide +kernel) rfl), (tb_of 899 (by decide +kernel) rfl), (tb_of 91 (by decide +kernel) rfl), (tb_of 900 (by decide +kernel) rfl)⟩
theorem kRX5_205 : LKz RX5 205 yX5_isMember := Or.inl (tb_of 901 (by decide +kernel) rfl)
theorem miX5_isMember : MIz 5 yX5_isMember cX5_isMember 2 (some .boolean) 1 := ⟨⟨_, _, rfl⟩, ⟨by decide +kernel, by decide +kernel, by decide +kernel⟩, (tb_of 903 (by decide +kernel) rfl), (tb_of 65 (by decide +kernel) rfl), (tb_of 91 (by decide +kernel) rfl), (tb_of 904 (by decide +kernel) rfl)⟩
theorem kRX5_157 : LKz RX5 157 yX5_pull := Or.inl (tb_of 906 (by decide +kernel) rfl)
theorem miX5_pull : MIz 5 yX5_pull cX5_pull 4 (some .int) 1 := ⟨⟨_, _, rfl⟩, ⟨by decide +kernel, by decide +kernel, by decide +kernel⟩, (tb_of 908 (by decide +kernel) rfl), (tb_of 66 (by decide +kernel) rfl), (tb_of 91 (by decide +kernel) rfl), (tb_of 909 (by decide +kernel) rfl)⟩
theorem kRX5_142 : LKz RX5 142 yX5_sign := Or.inl (tb_of 912 (by decide +kernel) rfl)
theorem msX5_sign : MSz yX5_sign cX5_sign 1 (some .int) 1 := ⟨⟨by decide +kernel, by decide +kernel, by decide +kernel⟩, (tb_of 913 (by decide +kernel) rfl), (tb_of 91 (by decide +kernel) rfl), (tb_of 914 (by decide +kernel) rfl)⟩
theorem kRL_43 : LKz RL 43 yX5_house := Or.inl (tb_of 915 (by decide +kernel) rfl)
theorem miX5_house : MIz 5 yX5_house cX5_house 5 (some .int) 2 := ⟨⟨_, _, rfl⟩, ⟨by decide +kernel, by decide +kernel, by decide +kernel⟩, (tb_of 916 (by decide +kernel) rfl), (tb_of 917 (by decide +kernel) rfl), (tb_of 91 (by decide +kernel) rfl), (tb_of 918 (by decide +kernel) rfl)⟩
theorem kRX5_169 : LKz RX5 169 yX5_pullOfAll := Or.inl (tb_of 919 (by decide +kernel) rfl)
theorem miX5_pullOfAll : MIz 5 yX5_pullOfAll cX5_pullOfAll 4 (some .int) 1 := ⟨⟨_, _, rfl⟩, ⟨by decide +kernel, by decide +kernel, by decide +kernel⟩, (tb_of 921 (by decide +kernel) rfl), (tb_of 67 (by decide +kernel) rfl), (tb_of 91 (by decide +kernel) rfl), (tb_of 922 (by decide +kernel) rfl)⟩
theorem kRL_48 : LKz RL 48 yX5_alter := Or.inl (tb_of 923 (by decide +kernel) rfl)
theorem miX5_alter : MIz 5 yX5_alter cX5_alter 5 (some .int) 3 := ⟨⟨_, _, rfl⟩, ⟨by decide +kernel, by decide +kernel, by decide +kernel⟩, (tb_of 924 (by decide +kernel) rfl), (tb_of 925 (by decide +kernel) rfl), (tb_of 91 (by decide +kernel) rfl), (tb_of 926 (by decide +kernel) rfl)⟩
theorem kRX5_212 : LKz RX5 212 yX5_becomes := Or.inl (tb_of 928 (by decide +kernel) rfl)
theorem miX5_becomes : MIz 5 yX5_becomes cX5_becomes 4 (some .int) 2 := ⟨⟨_, _, rfl⟩, ⟨by decide +kernel, by decide +kernel, by decide +kernel⟩, (tb_of 930 (by decide +kernel) rfl), (tb_of 68 (by decide +kernel) rfl), (tb_of 91 (by decide +kernel) rfl), (tb_of 931 (by decide +kernel) rfl)⟩
theorem kRL_52 : LKz RL 52 yX5_word := Or.inl (tb_of 932 (by decide +kernel) rfl)
theorem miX5_word : MIz 5 yX5_word cX5_word 2 (some .int) 1 := ⟨⟨_, _, rfl⟩, ⟨by decide +kernel, by decide +kernel, by decide +kernel⟩, (tb_of 933 (by decide +kernel) rfl), (tb_of 934 (by decide +kernel) rfl), (tb_of 91 (by decide +kernel) rfl), (tb_of 935 (by decide +kernel) rfl)⟩
theorem kRX5_182 : LKz RX5 182 yX5_isMotion := Or.inl (tb_of 936 (by decide +kernel) rfl)
theorem msX5_isMotion : MSz yX5_isMotion cX5_isMotion 1 (some .boolean) 1 := ⟨⟨by decide +kernel, by decide +kernel, by decide +kernel⟩, (tb_of 937 (by decide +kernel) rfl), (tb_of 91 (by decide +kernel) rfl), (tb_of 938 (by decide +kernel) rfl)⟩
theorem kRL_56 : LKz RL 56 yX5_seat := Or.inl (tb_of 940 (by decide +kernel) rfl)
theorem miX5_seat : MIz 5 yX5_seat cX5_seat 4 (some .int) 2 := ⟨⟨_, _, rfl⟩, ⟨by decide +kernel, by decide +kernel, by decide +kernel⟩, (tb_of 941 (by decide +kernel) rfl), (tb_of 942 (by decide +kernel) rfl), (tb_of 91 (by decide +kernel) rfl), (tb_of 943 (by decide +kernel) rfl)⟩
theorem kRL_60 : LKz RL 60 yX5_clear := Or.inl (tb_of 944 (by decide +kernel) rfl)
theorem miX5_clear : MIz 5 yX5_clear cX5_clear 2 (some .int) 1 := ⟨⟨_, _, rfl⟩, ⟨by decide +kernel, by decide +kernel, by decide +kernel⟩, (tb_of 945 (by decide +kernel) rfl), (tb_of 946 (by decide +kernel) rfl), (tb_of 91 (by decide +kernel) rfl), (tb_of 947 (by decide +kernel) rfl)⟩
theorem kRL_64 : LKz RL 64 yX5_days := Or.inl (tb_of 948 (by decide +kernel) rfl)
theorem miX5_days : MIz 5 yX5_days cX5_days 2 (some .int) 1 := ⟨⟨_, _, rfl⟩, ⟨by decide +kernel, by decide +kernel, by decide +kernel⟩, (tb_of 949 (by decide +kernel) rfl), (tb_of 950 (by decide +kernel) rfl), (tb_of 91 (by decide +kernel) rfl), (tb_of 951 (by decide +kernel) rfl)⟩
theorem kRX5_217 : LKz RX5 217 yX5_daysGo := Or.inl (tb_of 953 (by decide +kernel) rfl)
theorem miX5_daysGo : MIz 5 yX5_daysGo cX5_daysGo 3 none 1 := ⟨⟨_, _, rfl⟩, ⟨by decide +kernel, by decide +kernel, by decide +kernel⟩, (tb_of 955 (by decide +kernel) rfl), (tb_of 69 (by decide +kernel) rfl), (tb_of 91 (by decide +kernel) rfl), (tb_of 956 (by decide +kernel) rfl)⟩
theorem kRX5_192 : LKz RX5 192 yX5_dayGoes := Or.inl (tb_of 957 (by decide +kernel) rfl)
theorem miX5_dayGoes : MIz 5 yX5_dayGoes cX5_dayGoes 2 none 1 := ⟨⟨_, _, rfl⟩, ⟨by decide +kernel, by decide +kernel, by decide +kernel⟩, (tb_of 959 (by decide +kernel) rfl), (tb_of 70 (by decide +kernel) rfl), (tb_of 91 (by decide +kernel) rfl), (tb_of 960 (by decide +kernel) rfl)⟩
theorem kRX5_189 : LKz RX5 189 yX5_sits := Or.inl (tb_of 961 (by decide +kernel) rfl)
theorem miX5_sits : MIz 5 yX5_sits cX5_sits 4 none 1 := ⟨⟨_, _, rfl⟩, ⟨by decide +kernel, by decide +kernel, by decide +kernel⟩, (tb_of 963 (by decide +kernel) rfl), (tb_of 71 (by decide +kernel) rfl), (tb_of 91 (by decide +kernel) rfl), (tb_of 964 (by decide +kernel) rfl)⟩
theorem kRX5_172 : LKz RX5 172 yX5_tires := Or.inl (tb_of 965 (by decide +kernel) rfl)
theorem msX5_tires : MSz yX5_tires cX5_tires 1 (some .int) 1 := ⟨⟨by decide +kernel, by decide +kernel, by decide +kernel⟩, (tb_of 966 (by decide +kernel) rfl), (tb_of 91 (by decide +kernel) rfl), (tb_of 967 (by decide +kernel) rfl)⟩
theorem kRX5_175 : LKz RX5 175 yX5_lesser := Or.inl (tb_of 968 (by decide +kernel) rfl)
theorem msX5_lesser : MSz yX5_lesser cX5_lesser 2 (some .int) 2 := ⟨⟨by decide +kernel, by decide +kernel, by decide +kernel⟩, (tb_of 969 (by decide +kernel) rfl), (tb_of 91 (by decide +kernel) rfl), (tb_of 970 (by decide +kernel) rfl)⟩
theorem kRX5_178 : LKz RX5 178 yX5_becomesOf := Or.inl (tb_of 971 (by decide +kernel) rfl)
theorem miX5_becomesOf : MIz 5 yX5_becomesOf cX5_becomesOf 4 none 3 := ⟨⟨_, _, rfl⟩, ⟨by decide +kernel, by decide +kernel, by decide +kernel⟩, (tb_of 973 (by decide +kernel) rfl), (tb_of 72 (by decide +kernel) rfl), (tb_of 91 (by decide +kernel) rfl), (tb_of 974 (by decide +kernel) rfl)⟩
theorem kRX5_220 : LKz RX5 220 yX5_settles := Or.inl (tb_of 975 (by decide +kernel) rfl)
theorem miX5_settles : MIz 5 yX5_settles cX5_settles 2 none 0 := ⟨⟨_, _, rfl⟩, ⟨by decide +kernel, by decide +kernel, by decide +kernel⟩, (tb_of 977 (by decide +kernel) rfl), (tb_of 73 (by decide +kernel) rfl), (tb_of 91 (by decide +kernel) rfl), (tb_of 978 (by decide +kernel) rfl)⟩
theorem kRL_68 : LKz RL 68 yX5_runs := Or.inl (tb_of 979 (by decide +kernel) rfl)
theorem miX5_runs : MIz 5 yX5_runs cX5_runs 3 (some .int) 2 := ⟨⟨_, _, rfl⟩, ⟨by decide +kernel, by decide +kernel, by decide +kernel⟩, (tb_of 980 (by decide +kernel) rfl), (tb_of 981 (by decide +kernel) rfl), (tb_of 91 (by decide +kernel) rfl), (tb_of 982 (by decide +kernel) rfl)⟩
theorem kRX5_225 : LKz RX5 225 yX5_isFar := Or.inl (tb_of 983 (by decide +kernel) rfl)
theorem msX5_isFar : MSz yX5_isFar cX5_isFar 1 (some .boolean) 1 := ⟨⟨by decide +kernel, by decide +kernel, by decide +kernel⟩, (tb_of 984 (by decide +kernel) rfl), (tb_of 91 (by decide +kernel) rfl), (tb_of 985 (by decide +kernel) rfl)⟩
theorem kRX5_230 : LKz RX5 230 yX5_sumOf := Or.inl (tb_of 988 (by decide +kernel) rfl)
theorem miX5_sumOf : MIz 5 yX5_sumOf cX5_sumOf 4 (some .int) 1 := ⟨⟨_, _, rfl⟩, ⟨by decide +kernel, by decide +kernel, by decide +kernel⟩, (tb_of 990 (by decide +kernel) rfl), (tb_of 74 (by decide +kernel) rfl), (tb_of 91 (by decide +kernel) rfl), (tb_of 991 (by decide +kernel) rfl)⟩
theorem kRL_72 : LKz RL 72 yX5_ahead := Or.inl (tb_of 992 (by decide +kernel) rfl)
theorem miX5_ahead : MIz 5 yX5_ahead cX5_ahead 3 (some .int) 2 := ⟨⟨_, _, rfl⟩, ⟨by decide +kernel, by decide +kernel, by decide +kernel⟩, (tb_of 993 (by decide +kernel) rfl), (tb_of 994 (by decide +kernel) rfl), (tb_of 91 (by decide +kernel) rfl), (tb_of 995 (by decide +kernel) rfl)⟩
theorem kRL_76 : LKz RL 76 yX5_carries := Or.inl (tb_of 996 (by decide +kernel) rfl)
theorem miX5_carries : MIz 5 yX5_carries cX5_carries 1 (some .int) 0 := ⟨⟨_, _, rfl⟩, ⟨by decide +kernel, by decide +kernel, by decide +kernel⟩, (tb_of 997 (by decide +kernel) rfl), (tb_of 998 (by decide +kernel) rfl), (tb_of 91 (by decide +kernel) rfl), (tb_of 999 (by decide +kernel) rfl)⟩
theorem kRX5_233 : LKz RX5 233 yX5_daysTo := Or.inl (tb_of 1000 (by decide +kernel) rfl)
theorem miX5_daysTo : MIz 5 yX5_daysTo cX5_daysTo 2 (some .int) 0 := ⟨⟨_, _, rfl⟩, ⟨by decide +kernel, by decide +kernel, by decide +kernel⟩, (tb_of 1002 (by decide +kernel) rfl), (tb_of 75 (by decide +kernel) rfl), (tb_of 91 (by decide +kernel) rfl), (tb_of 1003 (by decide +kernel) rfl)⟩
theorem kRL_80 : LKz RL 80 yX5_wording := Or.inl (tb_of 1004 (by decide +kernel) rfl)
theorem miX5_wording : MIz 5 yX5_wording cX5_wording 3 (some .int) 1 := ⟨⟨_, _, rfl⟩, ⟨by decide +kernel, by decide +kernel, by decide +kernel⟩, (tb_of 1005 (by decide +kernel) rfl), (tb_of 1006 (by decide +kernel) rfl), (tb_of 91 (by decide +kernel) rfl), (tb_of 1007 (by decide +kernel) rfl)⟩
theorem kRX5_243 : LKz RX5 243 yX5_isPart := Or.inl (tb_of 1008 (by decide +kernel) rfl)
theorem msX5_isPart : MSz yX5_isPart cX5_isPart 1 (some .boolean) 1 := ⟨⟨by decide +kernel, by decide +kernel, by decide +kernel⟩, (tb_of 1009 (by decide +kernel) rfl), (tb_of 91 (by decide +kernel) rfl), (tb_of 1010 (by decide +kernel) rfl)⟩
theorem kRX5_246 : LKz RX5 246 yX5_startsJudging := Or.inl (tb_of 1011 (by decide +kernel) rfl)
theorem miX5_startsJudging : MIz 5 yX5_startsJudging cX5_startsJudging 2 none 1 := ⟨⟨_, _, rfl⟩, ⟨by decide +kernel, by decide +kernel, by decide +kernel⟩, (tb_of 1013 (by decide +kernel) rfl), (tb_of 76 (by decide +kernel) rfl), (tb_of 91 (by decide +kernel) rfl), (tb_of 1014 (by decide +kernel) rfl)⟩
theorem kRX5_249 : LKz RX5 249 yX5_judges := Or.inl (tb_of 1016 (by decide +kernel) rfl)
theorem miX5_judges : MIz 5 yX5_judges cX5_judges 3 none 2 := ⟨⟨_, _, rfl⟩, ⟨by decide +kernel, by decide +kernel, by decide +kernel⟩, (tb_of 1018 (by decide +kernel) rfl), (tb_of 77 (by decide +kernel) rfl), (tb_of 91 (by decide +kernel) rfl), (tb_of 1019 (by decide +kernel) rfl)⟩
theorem kRX5_253 : LKz RX5 253 yX5_judged := Or.inl (tb_of 1020 (by decide +kernel) rfl)
theorem miX5_judged : MIz 5 yX5_judged cX5_judged 2 (some .int) 1 := ⟨⟨_, _, rfl⟩, ⟨by decide +kernel, by decide +kernel, by decide +kernel⟩, (tb_of 1022 (by decide +kernel) rfl), (tb_of 78 (by decide +kernel) rfl), (tb_of 91 (by decide +kernel) rfl), (tb_of 1023 (by decide +kernel) rfl)⟩
theorem kRL_84 : LKz RL 84 yX5_middle := Or.inl (tb_of 1024 (by decide +kernel) rfl)
theorem miX5_middle : MIz 5 yX5_middle cX5_middle 6 (some .int) 1 := ⟨⟨_, _, rfl⟩, ⟨by decide +kernel, by decide +kernel, by decide +kernel⟩, (tb_of 1025 (by decide +kernel) rfl), (tb_of 1026 (by decide +kernel) rfl), (tb_of 91 (by decide +kernel) rfl), (tb_of 1027 (by decide +kernel) rfl)⟩
theorem kRL_88 : LKz RL 88 yX5_swing := Or.inl (tb_of 1028 (by decide +kernel) rfl)
theorem miX5_swing : MIz 5 yX5_swing cX5_swing 7 (some .int) 1 := ⟨⟨_, _, rfl⟩, ⟨by decide +kernel, by decide +kernel, by decide +kernel⟩, (tb_of 1029 (by decide +kernel) rfl), (tb_of 1030 (by decide +kernel) rfl), (tb_of 91 (by decide +kernel) rfl), (tb_of 1031 (by decide +kernel) rfl)⟩
theorem kRL_92 : LKz RL 92 yX5_lose := Or.inl (tb_of 1032 (by decide +kernel) rfl)
theorem miX5_lose : MIz 5 yX5_lose cX5_lose 3 (some .int) 1 := ⟨⟨_, _, rfl⟩, ⟨by decide +kernel, by decide +kernel, by decide +kernel⟩, (tb_of 1033 (by decide +kernel) rfl), (tb_of 1034 (by decide +kernel) rfl), (tb_of 91 (by decide +kernel) rfl), (tb_of 1035 (by decide +kernel) rfl)⟩
theorem kRX5_256 : LKz RX5 256 yX5_soonestNow := Or.inl (tb_of 1036 (by decide +kernel) rfl)
theorem miX5_soonestNow : MIz 5 yX5_soonestNow cX5_soonestNow 1 (some .int) 0 := ⟨⟨_, _, rfl⟩, ⟨by decide +kernel, by decide +kernel, by decide +kernel⟩, (tb_of 1038 (by decide +kernel) rfl), (tb_of 79 (by decide +kernel) rfl), (tb_of 91 (by decide +kernel) rfl), (tb_of 1039 (by decide +kernel) rfl)⟩
theorem kRL_96 : LKz RL 96 yX5_cross := Or.inl (tb_of 1040 (by decide +kernel) rfl)
theorem miX5_cross : MIz 5 yX5_cross cX5_cross 3 (some .int) 1 := ⟨⟨_, _, rfl⟩, ⟨by decide +kernel, by decide +kernel, by decide +kernel⟩, (tb_of 1041 (by decide +kernel) rfl), (tb_of 1042 (by decide +kernel) rfl), (tb_of 91 (by decide +kernel) rfl), (tb_of 1043 (by decide +kernel) rfl)⟩
theorem kRL_100 : LKz RL 100 yX5_give := Or.inl (tb_of 1044 (by decide +kernel) rfl)
theorem miX5_give : MIz 5 yX5_give cX5_give 4 (some .int) 2 := ⟨⟨_, _, rfl⟩, ⟨by decide +kernel, by decide +kernel, by decide +kernel⟩, (tb_of 1045 (by decide +kernel) rfl), (tb_of 1046 (by decide +kernel) rfl), (tb_of 91 (by decide +kernel) rfl), (tb_of 1047 (by decide +kernel) rfl)⟩
theorem kRL_104 : LKz RL 104 yX5_mind := Or.inl (tb_of 1048 (by decide +kernel) rfl)
theorem miX5_mind : MIz 5 yX5_mind cX5_mind 3 (some .int) 2 := ⟨⟨_, _, rfl⟩, ⟨by decide +kernel, by decide +kernel, by decide +kernel⟩, (tb_of 1049 (by decide +kernel) rfl), (tb_of 1050 (by decide +kernel) rfl), (tb_of 91 (by decide +kernel) rfl), (tb_of 1051 (by decide +kernel) rfl)⟩
theorem kRX5_259 : LKz RX5 259 yX5_soonestBy := Or.inl (tb_of 1052 (by decide +kernel) rfl)
theorem miX5_soonestBy : MIz 5 yX5_soonestBy cX5_soonestBy 6 (some .int) 4 := ⟨⟨_, _, rfl⟩, ⟨by decide +kernel, by decide +kernel, by decide +kernel⟩, (tb_of 1054 (by decide +kernel) rfl), (tb_of 80 (by decide +kernel) rfl), (tb_of 91 (by decide +kernel) rfl), (tb_of 1055 (by decide +kernel) rfl)⟩
theorem kRL_108 : LKz RL 108 yX5_kind := Or.inl (tb_of 1056 (by decide +kernel) rfl)
theorem miX5_kind : MIz 5 yX5_kind cX5_kind 3 (some .int) 2 := ⟨⟨_, _, rfl⟩, ⟨by decide +kernel, by decide +kernel, by decide +kernel⟩, (tb_of 1057 (by decide +kernel) rfl), (tb_of 1058 (by decide +kernel) rfl), (tb_of 91 (by decide +kernel) rfl), (tb_of 1059 (by decide +kernel) rfl)⟩
theorem kRL_113 : LKz RL 113 yX5_luck := Or.inl (tb_of 1060 (by decide +kernel) rfl)
theorem miX5_luck : MIz 5 yX5_luck cX5_luck 4 (some .long) 3 := ⟨⟨_, _, rfl⟩, ⟨by decide +kernel, by decide +kernel, by decide +kernel⟩, (tb_of 1061 (by decide +kernel) rfl), (tb_of 1062 (by decide +kernel) rfl), (tb_of 91 (by decide +kernel) rfl), (tb_of 1063 (by decide +kernel) rfl)⟩
theorem kRX5_281 : LKz RX5 281 yX5_isOdds := Or.inl (tb_of 1064 (by decide +kernel) rfl)
theorem msX5_isOdds : MSz yX5_isOdds cX5_isOdds 3 (some .boolean) 3 := ⟨⟨by decide +kernel, by decide +kernel, by decide +kernel⟩, (tb_of 1065 (by decide +kernel) rfl), (tb_of 91 (by decide +kernel) rfl), (tb_of 1066 (by decide +kernel) rfl)⟩
theorem kRX5_286 : LKz RX5 286 yX5_findOdds := Or.inl (tb_of 1070 (by decide +kernel) rfl)
theorem miX5_findOdds : MIz 5 yX5_findOdds cX5_findOdds 8 none 2 := ⟨⟨_, _, rfl⟩, ⟨by decide +kernel, by decide +kernel, by decide +kernel⟩, (tb_of 1072 (by decide +kernel) rfl), (tb_of 81 (by decide +kernel) rfl), (tb_of 91 (by decide +kernel) rfl), (tb_of 1073 (by decide +kernel) rfl)⟩
theorem kRX5_289 : LKz RX5 289 yX5_told := Or.inl (tb_of 1074 (by decide +kernel) rfl)
theorem msX5_told : MSz yX5_told cX5_told 7 (some .long) 3 := ⟨⟨by decide +kernel, by decide +kernel, by decide +kernel⟩, (tb_of 1075 (by decide +kernel) rfl), (tb_of 91 (by decide +kernel) rfl), (tb_of 1076 (by decide +kernel) rfl)⟩
theorem kRX5_263 : LKz RX5 263 yX5_common := Or.inl (tb_of 1077 (by decide +kernel) rfl)
theorem msX5_common : MSz yX5_common cX5_common 10 (some .long) 2 := ⟨⟨by decide +kernel, by decide +kernel, by decide +kernel⟩, (tb_of 1078 (by decide +kernel) rfl), (tb_of 91 (by decide +kernel) rfl), (tb_of 1079 (by decide +kernel) rfl)⟩
theorem kRL_117 : LKz RL 117 yX5_mean := Or.inl (tb_of 1080 (by decide +kernel) rfl)
theorem miX5_mean : MIz 5 yX5_mean cX5_mean 4 (some .long) 3 := ⟨⟨_, _, rfl⟩, ⟨by decide +kernel, by decide +kernel, by decide +kernel⟩, (tb_of 1081 (by decide +kernel) rfl), (tb_of 1082 (by decide +kernel) rfl), (tb_of 91 (by decide +kernel) rfl), (tb_of 1083 (by decide +kernel) rfl)⟩
theorem kRL_121 : LKz RL 121 yX5_see := Or.inl (tb_of 1084 (by decide +kernel) rfl)
theorem miX5_see : MIz 5 yX5_see cX5_see 4 (some .int) 2 := ⟨⟨_, _, rfl⟩, ⟨by decide +kernel, by decide +kernel, by decide +kernel⟩, (tb_of 1085 (by decide +kernel) rfl), (tb_of 1086 (by decide +kernel) rfl), (tb_of 91 (by decide +kernel) rfl), (tb_of 1087 (by decide +kernel) rfl)⟩
theorem kRL_125 : LKz RL 125 yX5_forget := Or.inl (tb_of 1088 (by decide +kernel) rfl)
theorem miX5_forget : MIz 5 yX5_forget cX5_forget 2 (some .int) 1 := ⟨⟨_, _, rfl⟩, ⟨by decide +kernel, by decide +kernel, by decide +kernel⟩, (tb_of 1089 (by decide +kernel) rfl), (tb_of 1090 (by decide +kernel) rfl), (tb_of 91 (by decide +kernel) rfl), (tb_of 1091 (by decide +kernel) rfl)⟩
theorem kRL_129 : LKz RL 129 yX5_kinds := Or.inl (tb_of 1092 (by decide +kernel) rfl)
theorem miX5_kinds : MIz 5 yX5_kinds cX5_kinds 2 (some .int) 1 := ⟨⟨_, _, rfl⟩, ⟨by decide +kernel, by decide +kernel, by decide +kernel⟩, (tb_of 1093 (by decide +kernel) rfl), (tb_of 1094 (by decide +kernel) rfl), (tb_of 91 (by decide +kernel) rfl), (tb_of 1095 (by decide +kernel) rfl)⟩
theorem kRX5_296 : LKz RX5 296 yX5_which := Or.inl (tb_of 1096 (by decide +kernel) rfl)
theorem miX5_which : MIz 5 yX5_which cX5_which 5 (some .int) 2 := ⟨⟨_, _, rfl⟩, ⟨by decide +kernel, by decide +kernel, by decide +kernel⟩, (tb_of 1098 (by decide +kernel) rfl), (tb_of 82 (by decide +kernel) rfl), (tb_of 91 (by decide +kernel) rfl), (tb_of 1099 (by decide +kernel) rfl)⟩
theorem kRX5_293 : LKz RX5 293 yX5_isSoWith := Or.inl (tb_of 1100 (by decide +kernel) rfl)
theorem miX5_isSoWith : MIz 5 yX5_isSoWith cX5_isSoWith 5 (some .boolean) 2 := ⟨⟨_, _, rfl⟩, ⟨by decide +kernel, by decide +kernel, by decide +kernel⟩, (tb_of 1102 (by decide +kernel) rfl), (tb_of 83 (by decide +kernel) rfl), (tb_of 91 (by decide +kernel) rfl), (tb_of 1103 (by decide +kernel) rfl)⟩
theorem kRL_133 : LKz RL 133 yX5_wants := Or.inl (tb_of 1104 (by decide +kernel) rfl)
theorem miX5_wants : MIz 5 yX5_wants cX5_wants 2 (some .int) 1 := ⟨⟨_, _, rfl⟩, ⟨by decide +kernel, by decide +kernel, by decide +kernel⟩, (tb_of 1105 (by decide +kernel) rfl), (tb_of 1106 (by decide +kernel) rfl), (tb_of 91 (by decide +kernel) rfl), (tb_of 1107 (by decide +kernel) rfl)⟩
theorem kRL_137 : LKz RL 137 yX5_ask := Or.inl (tb_of 1108 (by decide +kernel) rfl)
theorem miX5_ask : MIz 5 yX5_ask cX5_ask 9 (some .int) 2 := ⟨⟨_, _, rfl⟩, ⟨by decide +kernel, by decide +kernel, by decide +kernel⟩, (tb_of 1109 (by decide +kernel) rfl), (tb_of 1110 (by decide +kernel) rfl), (tb_of 91 (by decide +kernel) rfl), (tb_of 1111 (by decide +kernel) rfl)⟩
theorem kRL_141 : LKz RL 141 yX5_drift := Or.inl (tb_of 1112 (by decide +kernel) rfl)
theorem miX5_drift : MIz 5 yX5_drift cX5_drift 7 (some .int) 3 := ⟨⟨_, _, rfl⟩, ⟨by decide +kernel, by decide +kernel, by decide +kernel⟩, (tb_of 1113 (by decide +kernel) rfl), (tb_of 1114 (by decide +kernel) rfl), (tb_of 91 (by decide +kernel) rfl), (tb_of 1115 (by decide +kernel) rfl)⟩
theorem kRL_145 : LKz RL 145 yX5_keep := Or.inl (tb_of 1117 (by decide +kernel) rfl)
theorem miX5_keep : MIz 5 yX5_keep cX5_keep 3 (some .int) 1 := ⟨⟨_, _, rfl⟩, ⟨by decide +kernel, by decide +kernel, by decide +kernel⟩, (tb_of 1118 (by decide +kernel) rfl), (tb_of 1119 (by decide +kernel) rfl), (tb_of 91 (by decide +kernel) rfl), (tb_of 1120 (by decide +kernel) rfl)⟩
theorem kRX5_300 : LKz RX5 300 yX5_copies := Or.inl (tb_of 1121 (by decide +kernel) rfl)
theorem miX5_copies : MIz 5 yX5_copies cX5_copies 4 none 2 := ⟨⟨_, _, rfl⟩, ⟨by decide +kernel, by decide +kernel, by decide +kernel⟩, (tb_of 1123 (by decide +kernel) rfl), (tb_of 84 (by decide +kernel) rfl), (tb_of 91 (by decide +kernel) rfl), (tb_of 1124 (by decide +kernel) rfl)⟩
theorem kRL_149 : LKz RL 149 yX5_back := Or.inl (tb_of 1125 (by decide +kernel) rfl)
theorem miX5_back : MIz 5 yX5_back cX5_back 2 (some .int) 1 := ⟨⟨_, _, rfl⟩, ⟨by decide +kernel, by decide +kernel, by decide +kernel⟩, (tb_of 1126 (by decide +kernel) rfl), (tb_of 1127 (by decide +kernel) rfl), (tb_of 91 (by decide +kernel) rfl), (tb_of 1128 (by decide +kernel) rfl)⟩
theorem kRL_153 : LKz RL 153 yX5_sheet := Or.inl (tb_of 1129 (by decide +kernel) rfl)
theorem miX5_sheet : MIz 5 yX5_sheet cX5_sheet 5 (some .int) 3 := ⟨⟨_, _, rfl⟩, ⟨by decide +kernel, by decide +kernel, by decide +kernel⟩, (tb_of 1130 (by decide +kernel) rfl), (tb_of 1131 (by decide +kernel) rfl), (tb_of 91 (by decide +kernel) rfl), (tb_of 1132 (by decide +kernel) rfl)⟩
theorem kRX5_303 : LKz RX5 303 yX5_isSheet := Or.inl (tb_of 1133 (by decide +kernel) rfl)
theorem msX5_isSheet : MSz yX5_isSheet cX5_isSheet 2 (some .boolean) 2 := ⟨⟨by decide +kernel, by decide +kernel, by decide +kernel⟩, (tb_of 1134 (by decide +kernel) rfl), (tb_of 91 (by decide +kernel) rfl), (tb_of 1135 (by decide +kernel) rfl)⟩
theorem kRL_157 : LKz RL 157 yX5_lay := Or.inl (tb_of 1136 (by decide +kernel) rfl)
theorem miX5_lay : MIz 5 yX5_lay cX5_lay 4 (some .int) 3 := ⟨⟨_, _, rfl⟩, ⟨by decide +kernel, by decide +kernel, by decide +kernel⟩, (tb_of 1137 (by decide +kernel) rfl), (tb_of 1138 (by decide +kernel) rfl), (tb_of 91 (by decide +kernel) rfl), (tb_of 1139 (by decide +kernel) rfl)⟩
theorem kRL_162 : LKz RL 162 yX5_read := Or.inl (tb_of 1140 (by decide +kernel) rfl)
theorem miX5_read : MIz 5 yX5_read cX5_read 11 (some .int) 4 := ⟨⟨_, _, rfl⟩, ⟨by decide +kernel, by decide +kernel, by decide +kernel⟩, (tb_of 1141 (by decide +kernel) rfl), (tb_of 1142 (by decide +kernel) rfl), (tb_of 91 (by decide +kernel) rfl), (tb_of 1143 (by decide +kernel) rfl)⟩
theorem kRX5_306 : LKz RX5 306 yX5_alter := Or.inl (tb_of 1144 (by decide +kernel) rfl)
theorem kRL_166 : LKz RL 166 yX5_torn := Or.inl (tb_of 1145 (by decide +kernel) rfl)
theorem miX5_torn : MIz 5 yX5_torn cX5_torn 1 (some .int) 0 := ⟨⟨_, _, rfl⟩, ⟨by decide +kernel, by decide +kernel, by decide +kernel⟩, (tb_of 1146 (by decide +kernel) rfl), (tb_of 1147 (by decide +kernel) rfl), (tb_of 91 (by decide +kernel) rfl), (tb_of 1148 (by decide +kernel) rfl)⟩
theorem kRL_170 : LKz RL 170 yX5_count := Or.inl (tb_of 1149 (by decide +kernel) rfl)
theorem miX5_count : MIz 5 yX5_count cX5_count 2 (some .int) 1 := ⟨⟨_, _, rfl⟩, ⟨by decide +kernel, by decide +kernel, by decide +kernel⟩, (tb_of 1150 (by decide +kernel) rfl), (tb_of 1151 (by decide +kernel) rfl), (tb_of 91 (by decide +kernel) rfl), (tb_of 1152 (by decide +kernel) rfl)⟩
end
section
/-! rows as the programs write them; small facts -/
abbrev nLz (X : Cxz) : Nat := X.2.2.2.2.2.2.2.2.2.2.2.2.2.2.2.2
theorem Clz.on {l : Launch} {d : Nat} {y : MethodName} {bytes : ByteArray} {maxL : Nat} {ret : Option FieldType} {av : List Value} {M : Mm} {Po : Option Value → Mm → Prop} (own : String) (ho : y.cls = own) (hy : plainName y.cls = true) (hm : (av.flatMap fun v => if v.category = 2 then [v, Value.null] else [v]).length ≤ maxL)
    (body : ∀ X : Cxz, nLz X = maxL → Okz X bytes own d → Rtz X ret Po → Gz X 0 (lvA av maxL) [] M) : Clz l d y bytes maxL ret av M Po := by
  intro D cT ad sz
  subst ho
  refine Met.ofW (cc := bytes) (maxL := maxL) (ret := ret) hy rfl ?_
  intro p e s m args below meth c s₁ B hml hv
  obtain ⟨rfl, hsz, hP, hK, hD0, hN, hR, hZ⟩ := hv
  subst hsz
  have hts := atoms_spec (ws := Cond.code y bytes maxL ret :: tb) B.pre
  have b := body (p, l, e, (headSpec (Cond.code y bytes maxL ret :: tb) (rmz d)).room, s, m, (av.map (cvz ad)).toArray, below, meth, c, 0, 0, MQ below (CQz D cT ad (AAz ad s.heap.size) Po) (av.map (cvz ad)).toArray s 0 0 (AAz ad s.heap.size), D, cT, ad, maxL) rfl
    ⟨B.exec, B.bytes, hml, findClass_of_methodNamed B.named, fun w hw => hts w (List.mem_cons_of_mem _ hw), hN, hR, hK, hZ, Nat.zero_le _, Nat.zero_le _, Nat.le_refl _, Nat.le_refl _⟩ ⟨B.returns, B.notSynchronized, rfl⟩
  rw [lg_entry_eq]
  have hl := lv_entry (av.map (cvz ad)) (n := maxL) (by rw [lg_sl_cv]; exact hm)
  refine b s.heap [] _ ⟨hl.1, hl.2.1, fun q hq => ?_⟩ hP (wlz_DA hD0) va_S.rf
  obtain ⟨v, h1, h2, h3⟩ := lvK_mem.mp hq
  refine hl.2.2 q ?_
  rw [cvz_args]
  refine List.mem_map.mpr ⟨(q.1, v), lvA_args av 0 [] _ q.1 v rfl h1 h2 (Nat.zero_le _), ?_⟩
  show (q.1, cvz ad v) = q
  rw [← h3]
/-- a contract that holds for each answer of a weaker one -/
theorem Clz.weak {l : Launch} {d : Nat} {y : MethodName} {bytes : ByteArray} {maxL : Nat} {ret : Option FieldType} {av : List Value} {M : Mm} {Po Po' : Option Value → Mm → Prop} (h : Clz l d y bytes maxL ret av M Po) (hP : ∀ r M', Po r M' → Po' r M') : Clz l d y bytes maxL ret av M Po' := by
  intro D cT ad sz p e ha hc hk s m args below hf happ hPre hT
  obtain ⟨t, o, h1, h2, h3, ⟨⟨r, e1, r0, M', e2, e3, e4⟩, e5⟩, h5⟩ := h D cT ad sz p e ha hc hk s m args below hf happ hPre hT
  exact ⟨t, o, h1, h2, h3, ⟨⟨r, e1, r0, M', e2, hP _ _ e3, e4⟩, e5⟩, h5⟩
section SW
variable {X : Cxz} {cc : ByteArray} {own : String} {d pc N : Nat} {lv st : List Value} {M : Mm}
theorem s_istore_n {i : Fin 4} {x : Int32} (hL : nLz X = N) (h : Okz X cc own d) (hd : decode cc pc = .ok (.istore_n i, 1)) (hn : i.val < N) (hnd : ndz lv = true) (k : Gz X (pc + 1) (lvS lv i.val (.int x)) st M) : Gz X pc lv (.int x :: st) M := r_istore_n h hd (by rw [← hL] at hn; exact hn) hnd k
theorem s_istore {i : Nat} {x : Int32} (hL : nLz X = N) (h : Okz X cc own d) (hd : decode cc pc = .ok (.istore i, 2)) (hn : i < N) (hnd : ndz lv = true) (k : Gz X (pc + 2) (lvS lv i (.int x)) st M) : Gz X pc lv (.int x :: st) M := r_istore h hd (by rw [← hL] at hn; exact hn) hnd k
theorem s_astore_n {i : Fin 4} {x : Nat} (hL : nLz X = N) (h : Okz X cc own d) (hd : decode cc pc = .ok (.astore_n i, 1)) (hn : i.val < N) (hnd : ndz lv = true) (k : Gz X (pc + 1) (lvS lv i.val (.ref x)) st M) : Gz X pc lv (.ref x :: st) M := r_astore_n h hd (by rw [← hL] at hn; exact hn) hnd k
theorem s_astore {i : Nat} {x : Nat} (hL : nLz X = N) (h : Okz X cc own d) (hd : decode cc pc = .ok (.astore i, 2)) (hn : i < N) (hnd : ndz lv = true) (k : Gz X (pc + 2) (lvS lv i (.ref x)) st M) : Gz X pc lv (.ref x :: st) M := r_astore h hd (by rw [← hL] at hn; exact hn) hnd k
theorem s_lstore_n {i : Fin 4} {x : Int64} (hL : nLz X = N) (h : Okz X cc own d) (hd : decode cc pc = .ok (.lstore_n i, 1)) (hn : i.val + 1 < N) (hnd : ndz lv = true) (k : Gz X (pc + 1) (lvS2 lv i.val (.long x)) st M) : Gz X pc lv (.long x :: st) M := r_lstore_n h hd (by rw [← hL] at hn; exact hn) hnd k
theorem s_lstore {i : Nat} {x : Int64} (hL : nLz X = N) (h : Okz X cc own d) (hd : decode cc pc = .ok (.lstore i, 2)) (hn : i + 1 < N) (hnd : ndz lv = true) (k : Gz X (pc + 2) (lvS2 lv i (.long x)) st M) : Gz X pc lv (.long x :: st) M := r_lstore h hd (by rw [← hL] at hn; exact hn) hnd k
theorem s_iinc {i : Nat} {n : Int} {x w : Int32} (hL : nLz X = N) (h : Okz X cc own d) (hd : decode cc pc = .ok (.iinc i n, 3)) (hv : lv[i]? = some (.int x)) (hw : Int32.ofInt n = w) (hn : i < N) (hnd : ndz lv = true) (k : Gz X (pc + 3) (lvS lv i (.int (x + w))) st M) : Gz X pc lv st M := r_iinc h hd hv (by rw [hw]) (by rw [← hL] at hn; exact hn) hnd k
theorem s_iald (n : Nat) {q : Nat} {i : Int32} (h : Okz X cc own d) (hd : decode cc pc = .ok (.iaload, 1)) (ha : aI 10 q n = true) (hn : n ≤ 1000) (j : Nat) (hi : i = nI j) (hj : j < n) (kk : Gz X (pc + 1) lv (.int (M.1 q j) :: st) M) : Gz X pc lv (.int i :: .ref q :: st) M := by
  subst hi
  refine r_iald n h hd ha (vp_in_nI hj (by omega)) ?_
  rw [nI_clamp (by omega)]; exact kk
theorem s_bald (n : Nat) {q : Nat} {i : Int32} (h : Okz X cc own d) (hd : decode cc pc = .ok (.baload, 1)) (ha : aI 11 q n = true) (hn : n ≤ 1000) (j : Nat) (hi : i = nI j) (hj : j < n) (kk : Gz X (pc + 1) lv (.int (M.1 q j) :: st) M) : Gz X pc lv (.int i :: .ref q :: st) M := by
  subst hi
  refine r_bald n h hd ha (vp_in_nI hj (by omega)) ?_
  rw [nI_clamp (by omega)]; exact kk
theorem s_zald (n : Nat) {q : Nat} {i : Int32} (h : Okz X cc own d) (hd : decode cc pc = .ok (.baload, 1)) (ha : aI 12 q n = true) (hn : n ≤ 1000) (j : Nat) (hi : i = nI j) (hj : j < n) (kk : Gz X (pc + 1) lv (.int (M.1 q j) :: st) M) : Gz X pc lv (.int i :: .ref q :: st) M := by
  subst hi
  refine r_zald n h hd ha (vp_in_nI hj (by omega)) ?_
  rw [nI_clamp (by omega)]; exact kk
theorem s_iast (n : Nat) {q : Nat} {i x : Int32} (h : Okz X cc own d) (hd : decode cc pc = .ok (.iastore, 1)) (ha : aI 10 q n = true) (hn : n ≤ 1000) (j : Nat) (hi : i = nI j) (hj : j < n) (kk : Gz X (pc + 1) lv st (mput M q j x)) : Gz X pc lv (.int x :: .int i :: .ref q :: st) M := by
  subst hi
  refine r_iast n h hd ha (vp_in_nI hj (by omega)) ?_
  rw [nI_clamp (by omega)]; exact kk
theorem s_bast (n : Nat) {q : Nat} {i x : Int32} (h : Okz X cc own d) (hd : decode cc pc = .ok (.bastore, 1)) (ha : aI 11 q n = true) (hn : n ≤ 1000) (j : Nat) (hi : i = nI j) (hj : j < n) (kk : Gz X (pc + 1) lv st (mput M q j (vp_nar .byte x))) : Gz X pc lv (.int x :: .int i :: .ref q :: st) M := by
  subst hi
  refine r_bast n h hd ha (vp_in_nI hj (by omega)) ?_
  rw [nI_clamp (by omega)]; exact kk
theorem s_zast (n : Nat) {q : Nat} {i x : Int32} (h : Okz X cc own d) (hd : decode cc pc = .ok (.bastore, 1)) (ha : aI 12 q n = true) (hn : n ≤ 1000) (j : Nat) (hi : i = nI j) (hj : j < n) (kk : Gz X (pc + 1) lv st (mput M q j (vp_nar .boolean x))) : Gz X pc lv (.int x :: .int i :: .ref q :: st) M := by
  subst hi
  refine r_zast n h hd ha (vp_in_nI hj (by omega)) ?_
  rw [nI_clamp (by omega)]; exact kk
theorem s_topld {i : Int32} (h : Okz X cc own d) (hd : decode cc pc = .ok (.iaload, 1)) (j : Nat) (hi : i = nI j) (hj : j < 5) (kk : Gz X (pc + 1) lv (.int (topz j) :: st) M) : Gz X pc lv (.int i :: .ref 50 :: st) M := by
  subst hi
  refine r_topld h hd (vp_in_nI hj (by omega)) ?_
  rw [nI_clamp (by omega)]; exact kk
theorem s_tirld {i : Int32} (h : Okz X cc own d) (hd : decode cc pc = .ok (.iaload, 1)) (j : Nat) (hi : i = nI j) (hj : j < 4) (kk : Gz X (pc + 1) lv (.int (tirz j) :: st) M) : Gz X pc lv (.int i :: .ref 51 :: st) M := by
  subst hi
  refine r_tirld h hd (vp_in_nI hj (by omega)) ?_
  rw [nI_clamp (by omega)]; exact kk
end SW
/-- the four Nuts, the four Sheets -/
def nuP (p : Nat) : Prop := p = 4 ∨ p = 8 ∨ p = 16 ∨ p = 20
def shP (p : Nat) : Prop := p = 24 ∨ p = 26 ∨ p = 28 ∨ p = 30
theorem nu_o {p : Nat} (h : nuP p) : oC p 0 = true := by rcases h with rfl | rfl | rfl | rfl <;> rfl
theorem nu_R0 {p : Nat} (h : nuP p) : fR p 0 0 (p + 1) = true := by rcases h with rfl | rfl | rfl | rfl <;> rfl
theorem nu_R1 {p : Nat} (h : nuP p) : fR p 0 1 (p + 2) = true := by rcases h with rfl | rfl | rfl | rfl <;> rfl
theorem nu_R2 {p : Nat} (h : nuP p) : fR p 0 2 (p + 3) = true := by rcases h with rfl | rfl | rfl | rfl <;> rfl
theorem nu_I3 {p : Nat} (h : nuP p) : fI p 0 3 = true := by rcases h with rfl | rfl | rfl | rfl <;> rfl
theorem nu_I4 {p : Nat} (h : nuP p) : fI p 0 4 = true := by rcases h with rfl | rfl | rfl | rfl <;> rfl
theorem nu_I5 {p : Nat} (h : nuP p) : fI p 0 5 = true := by rcases h with rfl | rfl | rfl | rfl <;> rfl
theorem nu_I6 {p : Nat} (h : nuP p) : fI p 0 6 = true := by rcases h with rfl | rfl | rfl | rfl <;> rfl
theorem nu_I7 {p : Nat} (h : nuP p) : fI p 0 7 = true := by rcases h with rfl | rfl | rfl | rfl <;> rfl
theorem nu_A0 {p : Nat} (h : nuP p) : aI 10 (p + 1) 24 = true := by rcases h with rfl | rfl | rfl | rfl <;> rfl
theorem nu_A1 {p : Nat} (h : nuP p) : aI 10 (p + 2) 6 = true := by rcases h with rfl | rfl | rfl | rfl <;> rfl
theorem nu_A2 {p : Nat} (h : nuP p) : aI 10 (p + 3) 6 = true := by rcases h with rfl | rfl | rfl | rfl <;> rfl
theorem sh_o {p : Nat} (h : shP p) : oC p 1 = true := by rcases h with rfl | rfl | rfl | rfl <;> rfl
theorem sh_R0 {p : Nat} (h : shP p) : fR p 1 0 (p + 1) = true := by rcases h with rfl | rfl | rfl | rfl <;> rfl
theorem sh_I1 {p : Nat} (h : shP p) : fI p 1 1 = true := by rcases h with rfl | rfl | rfl | rfl <;> rfl
theorem sh_I2 {p : Nat} (h : shP p) : fI p 1 2 = true := by rcases h with rfl | rfl | rfl | rfl <;> rfl
theorem sh_A {p : Nat} (h : shP p) : aI 10 (p + 1) 40 = true := by rcases h with rfl | rfl | rfl | rfl <;> rfl
/-- truth as an int -/
def bI (b : Bool) : Int32 := if b = true then 1 else 0
theorem bI_0 {b : Bool} : bI b = 0 ↔ b = false := by cases b <;> decide
theorem bI_n0 {b : Bool} : ¬ bI b = 0 ↔ b = true := by cases b <;> decide
theorem bI_n {b : Bool} : narrow .boolean (.int (bI b)) = .int (bI b) := by cases b <;> rfl
theorem bI_f {b : Bool} : fits .boolean (.int (bI b)) = true := by cases b <;> rfl
theorem bI_nar (b : Bool) : vp_nar .boolean (bI b) = bI b := by cases b <;> decide
theorem i64_le {a b : Int32} : a.toInt64 ≤ b.toInt64 ↔ a ≤ b := by rw [Int64.le_iff_toInt_le, Int32.le_iff_toInt_le, Int32.toInt_toInt64, Int32.toInt_toInt64]
theorem i64_lt {a b : Int32} : a.toInt64 < b.toInt64 ↔ a < b := by rw [Int64.lt_iff_toInt_lt, Int32.lt_iff_toInt_lt, Int32.toInt_toInt64, Int32.toInt_toInt64]
theorem ix4 {x y : Int32} {a b : Nat} (hx : x = nI a) (hy : y = nI b) : 4 * x + y = nI (4 * a + b) := by
  rw [hx, hy, show (4 : Int32) = nI 4 from rfl, pk_mul, nI_add]
theorem xi4 {x y : Int32} {a b : Nat} (hx : x = nI a) (hy : y = nI b) : x * 4 + y = nI (4 * a + b) := by
  rw [hx, hy, show (4 : Int32) = nI 4 from rfl, pk_mul, nI_add, Nat.mul_comm]
theorem sw_1_3 (x : Int32) : x = 1 ∨ x = 2 ∨ x = 3 ∨ (x.toInt < 1 ∨ 3 < x.toInt) := by
  by_cases h1 : x = 1
  · exact Or.inl h1
  · by_cases h2 : x = 2
    · exact Or.inr (Or.inl h2)
    · by_cases h3 : x = 3
      · exact Or.inr (Or.inr (Or.inl h3))
      · have a1 := lv_neT (a := 1) h1 rfl
        have a2 := lv_neT (a := 2) h2 rfl
        have a3 := lv_neT (a := 3) h3 rfl
        right; right; right; omega
end
section
theorem bc_m20 : (Int8.ofInt (-20)).toInt32 = (-20) := by decide
theorem bc_m14 : (Int8.ofInt (-14)).toInt32 = (-14) := by decide
theorem bc_m12 : (Int8.ofInt (-12)).toInt32 = (-12) := by decide
theorem bc_m11 : (Int8.ofInt (-11)).toInt32 = (-11) := by decide
theorem bc_m10 : (Int8.ofInt (-10)).toInt32 = (-10) := by decide
theorem bc_m4 : (Int8.ofInt (-4)).toInt32 = (-4) := by decide
theorem bc_m3 : (Int8.ofInt (-3)).toInt32 = (-3) := by decide
theorem bc_m2 : (Int8.ofInt (-2)).toInt32 = (-2) := by decide
theorem bc_6 : (Int8.ofInt 6).toInt32 = 6 := by decide
theorem bc_7 : (Int8.ofInt 7).toInt32 = 7 := by decide
theorem bc_8 : (Int8.ofInt 8).toInt32 = 8 := by decide
theorem bc_10 : (Int8.ofInt 10).toInt32 = 10 := by decide
theorem bc_16 : (Int8.ofInt 16).toInt32 = 16 := by decide
theorem bc_20 : (Int8.ofInt 20).toInt32 = 20 := by decide
theorem bc_21 : (Int8.ofInt 21).toInt32 = 21 := by decide
theorem bc_24 : (Int8.ofInt 24).toInt32 = 24 := by decide
theorem bc_25 : (Int8.ofInt 25).toInt32 = 25 := by decide
theorem bc_26 : (Int8.ofInt 26).toInt32 = 26 := by decide
theorem bc_27 : (Int8.ofInt 27).toInt32 = 27 := by decide
theorem bc_28 : (Int8.ofInt 28).toInt32 = 28 := by decide
theorem bc_29 : (Int8.ofInt 29).toInt32 = 29 := by decide
theorem bc_30 : (Int8.ofInt 30).toInt32 = 30 := by decide
theorem bc_32 : (Int8.ofInt 32).toInt32 = 32 := by decide
theorem bc_40 : (Int8.ofInt 40).toInt32 = 40 := by decide
theorem bc_41 : (Int8.ofInt 41).toInt32 = 41 := by decide
theorem bc_48 : (Int8.ofInt 48).toInt32 = 48 := by decide
theorem bc_57 : (Int8.ofInt 57).toInt32 = 57 := by decide
theorem bc_59 : (Int8.ofInt 59).toInt32 = 59 := by decide
theorem bc_60 : (Int8.ofInt 60).toInt32 = 60 := by decide
theorem bc_61 : (Int8.ofInt 61).toInt32 = 61 := by decide
theorem bc_63 : (Int8.ofInt 63).toInt32 = 63 := by decide
theorem bc_97 : (Int8.ofInt 97).toInt32 = 97 := by decide
theorem bc_98 : (Int8.ofInt 98).toInt32 = 98 := by decide
theorem bc_100 : (Int8.ofInt 100).toInt32 = 100 := by decide
theorem bc_101 : (Int8.ofInt 101).toInt32 = 101 := by decide
theorem bc_103 : (Int8.ofInt 103).toInt32 = 103 := by decide
theorem bc_104 : (Int8.ofInt 104).toInt32 = 104 := by decide
theorem bc_105 : (Int8.ofInt 105).toInt32 = 105 := by decide
theorem bc_108 : (Int8.ofInt 108).toInt32 = 108 := by decide
theorem bc_109 : (Int8.ofInt 109).toInt32 = 109 := by decide
theorem bc_110 : (Int8.ofInt 110).toInt32 = 110 := by decide
theorem bc_111 : (Int8.ofInt 111).toInt32 = 111 := by decide
theorem bc_112 : (Int8.ofInt 112).toInt32 = 112 := by decide
theorem bc_114 : (Int8.ofInt 114).toInt32 = 114 := by decide
theorem bc_116 : (Int8.ofInt 116).toInt32 = 116 := by decide
theorem bc_117 : (Int8.ofInt 117).toInt32 = 117 := by decide
theorem bc_119 : (Int8.ofInt 119).toInt32 = 119 := by decide
theorem bc_122 : (Int8.ofInt 122).toInt32 = 122 := by decide
theorem bc_123 : (Int8.ofInt 123).toInt32 = 123 := by decide
theorem bc_127 : (Int8.ofInt 127).toInt32 = 127 := by decide
theorem ic_m1 : Int32.ofInt (-1) = (-1) := by decide
theorem ic_0 : Int32.ofInt 0 = 0 := by decide
theorem ic_1 : Int32.ofInt 1 = 1 := by decide
theorem ic_2 : Int32.ofInt 2 = 2 := by decide
theorem ic_3 : Int32.ofInt 3 = 3 := by decide
theorem ic_4 : Int32.ofInt 4 = 4 := by decide
theorem ic_5 : Int32.ofInt 5 = 5 := by decide
theorem lc_0 : Int64.ofNat ((0 : Fin 2) : Nat) = 0 := by decide
theorem lc_1 : Int64.ofNat ((1 : Fin 2) : Nat) = 1 := by decide
theorem sc_160 : (Int16.ofInt 160).toInt32 = 160 := by decide
theorem sc_200 : (Int16.ofInt 200).toInt32 = 200 := by decide
theorem sc_441 : (Int16.ofInt 441).toInt32 = 441 := by decide
theorem sc_999 : (Int16.ofInt 999).toInt32 = 999 := by decide
theorem sc_12345 : (Int16.ofInt 12345).toInt32 = 12345 := by decide
theorem sc_32767 : (Int16.ofInt 32767).toInt32 = 32767 := by decide
end
section
/-! the reference's small methods -/
theorem mpg (M : Mm) (p k : Nat) (x : Int32) (q j : Nat) : (mput M p k x).1 q j = if q = p ∧ j = k then x else M.1 q j := by
  unfold mput upd
  by_cases h : q = p
  · subst h; simp
  · simp [h]
theorem sI {a b : Int32} (h : a = b) : some (Value.int a) = some (Value.int b) := by rw [h]
def inI (v lo hi : Int32) : Bool := decide (lo ≤ v ∧ v ≤ hi)
def inL (v lo hi : Int64) : Bool := decide (lo ≤ v ∧ v ≤ hi)
theorem inLI (v lo hi : Int32) : inL v.toInt64 lo.toInt64 hi.toInt64 = inI v lo hi := by unfold inL inI; simp only [i64_le]
theorem inLc {v lo hi : Int32} {a b : Int64} (ha : a = lo.toInt64) (hb : b = hi.toInt64) : bI (inL v.toInt64 a b) = bI (inI v lo hi) := by rw [ha, hb, inLI]
theorem in_f1 {v lo hi : Int64} (h : lg_cmp v lo < 0) : (0 : Int32) = bI (inL v lo hi) := by
  have := (lg_cmp_lt _ _).mp h
  rw [inL, decide_eq_false (fun z => by rw [Int64.le_iff_toInt_le] at z; rw [Int64.lt_iff_toInt_lt] at this; omega)]; rfl
theorem in_f2 {v lo hi : Int64} (h : 0 < lg_cmp v hi) : (0 : Int32) = bI (inL v lo hi) := by
  have := (lg_cmp_gt _ _).mp h
  rw [inL, decide_eq_false (fun z => by have z := z.2; rw [Int64.le_iff_toInt_le] at z; rw [Int64.lt_iff_toInt_lt] at this; omega)]; rfl
theorem in_t {v lo hi : Int64} (h : ¬ lg_cmp v lo < 0) (h2 : ¬ 0 < lg_cmp v hi) : (1 : Int32) = bI (inL v lo hi) := by
  rw [lg_cmp_lt, Int64.lt_iff_toInt_lt] at h
  rw [lg_cmp_gt, Int64.lt_iff_toInt_lt] at h2
  rw [inL, decide_eq_true ⟨by rw [Int64.le_iff_toInt_le]; omega, by rw [Int64.le_iff_toInt_le]; omega⟩]; rfl
def sgI (v : Int32) : Int32 := if v ≤ 0 then (if 0 ≤ v then 0 else -1) else 1
def lsI (a b : Int32) : Int32 := if b ≤ a then b else a
theorem sw13n {x : Int32} (h : x.toInt < 1 ∨ 3 < x.toInt) : ¬ x = 1 ∧ ¬ x = 2 ∧ ¬ x = 3 := ⟨fun e => by rw [e] at h; revert h; decide, fun e => by rw [e] at h; revert h; decide, fun e => by rw [e] at h; revert h; decide⟩
def tiI (k : Int32) : Int32 := if k = 1 then 0 else if k = 2 then 2 else if k = 3 then 3 else 1
def dbI (y : Int32) : Int32 := if inI y (-2) 2 = true then 0 else sgI y
def plI (k y : Int32) : Int32 := if k = 1 then 2 * sgI y else if k = 2 then dbI y else if k = 3 then - dbI y else sgI y
def vtI (w m s : Int32) : Bool := inI (w - m) (-s) s
set_option maxHeartbeats 4000000 in
theorem zX5_in (l : Launch) {M : Mm} {v lo hi : Int64} : CFz l 0 yX5_in cX5_in 6 (some .boolean) [.long v, .long lo, .long hi] M (some (.int (bI (inL v lo hi)))) (M) := by
  refine Clz.on RX5 rfl (by decide +kernel) (Nat.le_of_ble_eq_true rfl) (fun X hL hO hr => ?_)
  show Gz X 0 [.long v, .null, .long lo, .null, .long hi, .null] [] M
  refine r_lload_n hO dX5_in_0 rfl ?_
  refine r_lload_n hO dX5_in_1 rfl ?_
  refine r_lcmp hO dX5_in_2 ?_
  refine r_if_lt 17 hO dX5_in_3 (by decide) (fun h3 => ?_) (fun h3 => ?_)
  · refine r_iconst hO dX5_in_17 ic_0 ?_
    exact r_ireturn hO hr dX5_in_18 rfl ⟨sI (in_f1 h3), rfl⟩
  · refine r_lload_n hO dX5_in_6 rfl ?_
    refine r_lload hO dX5_in_7 rfl ?_
    refine r_lcmp hO dX5_in_9 ?_
    refine r_if_gt 17 hO dX5_in_10 (by decide) (fun h10 => ?_) (fun h10 => ?_)
    · refine r_iconst hO dX5_in_17 ic_0 ?_
      exact r_ireturn hO hr dX5_in_18 rfl ⟨sI (in_f2 h10), rfl⟩
    · refine r_iconst hO dX5_in_13 ic_1 ?_
      refine r_goto 18 hO dX5_in_14 (by decide) ?_
      exact r_ireturn hO hr dX5_in_18 rfl ⟨sI (in_t h3 h10), rfl⟩
set_option maxHeartbeats 4000000 in
theorem zX5_flag (l : Launch) {M : Mm} {x : Int32} (b : Bool) (hx : x = bI b) : CFz l 0 yX5_flag cX5_flag 1 (some .int) [.int x] M (some (.int (bI b))) (M) := by
  refine Clz.on RX5 rfl (by decide +kernel) (Nat.le_of_ble_eq_true rfl) (fun X hL hO hr => ?_)
  show Gz X 0 [.int x] [] M
  refine r_iload_n hO dX5_flag_0 rfl ?_
  refine r_if_eq 8 hO dX5_flag_1 (by decide) (fun h1 => ?_) (fun h1 => ?_)
  · refine r_iconst hO dX5_flag_8 ic_0 ?_
    exact r_ireturn hO hr dX5_flag_9 rfl ⟨sI (by rw [hx] at h1; cases b <;> first | rfl | exact absurd h1 (by decide)), rfl⟩
  · refine r_iconst hO dX5_flag_4 ic_1 ?_
    refine r_goto 9 hO dX5_flag_5 (by decide) ?_
    exact r_ireturn hO hr dX5_flag_9 rfl ⟨sI (by rw [hx] at h1; cases b <;> first | rfl | exact absurd h1 (by decide)), rfl⟩
set_option maxHeartbeats 4000000 in
theorem zX5_lesser (l : Launch) {M : Mm} {a b : Int32} : CFz l 0 yX5_lesser cX5_lesser 2 (some .int) [.int a, .int b] M (some (.int (lsI a b))) (M) := by
  refine Clz.on RX5 rfl (by decide +kernel) (Nat.le_of_ble_eq_true rfl) (fun X hL hO hr => ?_)
  show Gz X 0 [.int a, .int b] [] M
  refine r_iload_n hO dX5_lesser_0 rfl ?_
  refine r_iload_n hO dX5_lesser_1 rfl ?_
  refine r_icmp_ge 9 hO dX5_lesser_2 (by decide) (fun h2 => ?_) (fun h2 => ?_)
  · refine r_iload_n hO dX5_lesser_9 rfl ?_
    exact r_ireturn hO hr dX5_lesser_10 rfl ⟨sI (by simp [lsI, h2]), rfl⟩
  · refine r_iload_n hO dX5_lesser_5 rfl ?_
    refine r_goto 10 hO dX5_lesser_6 (by decide) ?_
    exact r_ireturn hO hr dX5_lesser_10 rfl ⟨sI (by simp [lsI, h2]), rfl⟩
set_option maxHeartbeats 4000000 in
theorem zX5_sign (l : Launch) {M : Mm} {v : Int32} : CFz l 0 yX5_sign cX5_sign 1 (some .int) [.int v] M (some (.int (sgI v))) (M) := by
  refine Clz.on RX5 rfl (by decide +kernel) (Nat.le_of_ble_eq_true rfl) (fun X hL hO hr => ?_)
  show Gz X 0 [.int v] [] M
  refine r_iload_n hO dX5_sign_0 rfl ?_
  refine r_if_le 8 hO dX5_sign_1 (by decide) (fun h1 => ?_) (fun h1 => ?_)
  · refine r_iload_n hO dX5_sign_8 rfl ?_
    refine r_if_ge 16 hO dX5_sign_9 (by decide) (fun h9 => ?_) (fun h9 => ?_)
    · refine r_iconst hO dX5_sign_16 ic_0 ?_
      exact r_ireturn hO hr dX5_sign_17 rfl ⟨sI (by simp [sgI, h1, h9]), rfl⟩
    · refine r_iconst hO dX5_sign_12 ic_m1 ?_
      refine r_goto 17 hO dX5_sign_13 (by decide) ?_
      exact r_ireturn hO hr dX5_sign_17 rfl ⟨sI (by simp [sgI, h1, h9]), rfl⟩
  · refine r_iconst hO dX5_sign_4 ic_1 ?_
    refine r_goto 17 hO dX5_sign_5 (by decide) ?_
    exact r_ireturn hO hr dX5_sign_17 rfl ⟨sI (by simp [sgI, h1]), rfl⟩
set_option maxHeartbeats 4000000 in
theorem zX5_tires (l : Launch) {M : Mm} {k : Int32} : CFz l 0 yX5_tires cX5_tires 1 (some .int) [.int k] M (some (.int (tiI k))) (M) := by
  refine Clz.on RX5 rfl (by decide +kernel) (Nat.le_of_ble_eq_true rfl) (fun X hL hO hr => ?_)
  show Gz X 0 [.int k] [] M
  refine r_iload_n hO dX5_tires_0 rfl ?_
  refine r_iconst hO dX5_tires_1 ic_1 ?_
  refine r_icmp_ne 9 hO dX5_tires_2 (by decide) (fun h2 => ?_) (fun h2 => ?_)
  · refine r_iload_n hO dX5_tires_9 rfl ?_
    refine r_iconst hO dX5_tires_10 ic_2 ?_
    refine r_icmp_ne 18 hO dX5_tires_11 (by decide) (fun h11 => ?_) (fun h11 => ?_)
    · refine r_iload_n hO dX5_tires_18 rfl ?_
      refine r_iconst hO dX5_tires_19 ic_3 ?_
      refine r_icmp_ne 27 hO dX5_tires_20 (by decide) (fun h20 => ?_) (fun h20 => ?_)
      · refine r_iconst hO dX5_tires_27 ic_1 ?_
        exact r_ireturn hO hr dX5_tires_28 rfl ⟨sI (by simp [tiI, h2, h11, h20]), rfl⟩
      · refine r_iconst hO dX5_tires_23 ic_3 ?_
        refine r_goto 28 hO dX5_tires_24 (by decide) ?_
        exact r_ireturn hO hr dX5_tires_28 rfl ⟨sI (by simp [tiI, h2, h11, h20]), rfl⟩
    · refine r_iconst hO dX5_tires_14 ic_2 ?_
      refine r_goto 28 hO dX5_tires_15 (by decide) ?_
      exact r_ireturn hO hr dX5_tires_28 rfl ⟨sI (by simp [tiI, h2, h11]), rfl⟩
  · refine r_iconst hO dX5_tires_5 ic_0 ?_
    refine r_goto 28 hO dX5_tires_6 (by decide) ?_
    exact r_ireturn hO hr dX5_tires_28 rfl ⟨sI (by simp [tiI, h2]), rfl⟩
set_option maxHeartbeats 4000000 in
theorem zX5_isMotion (l : Launch) {M : Mm} {v : Int32} : CFz l 1 yX5_isMotion cX5_isMotion 1 (some .boolean) [.int v] M (some (.int (bI (inI v 0 20)))) (M) := by
  refine Clz.on RX5 rfl (by decide +kernel) (Nat.le_of_ble_eq_true rfl) (fun X hL hO hr => ?_)
  show Gz X 0 [.int v] [] M
  refine r_iload_n hO dX5_isMotion_0 rfl ?_
  refine r_i2l hO dX5_isMotion_1 ?_
  refine r_lconst hO dX5_isMotion_2 lc_0 ?_
  refine r_ldc2 hO dX5_isMotion_3 wRX5_123 ?_
  refine r_fS hO dX5_isMotion_6 kRX5_56 msX5_in (zX5_in _) ⟨Nat.le_of_ble_eq_true rfl, Nat.le_of_ble_eq_true rfl, rfl, Nat.le_of_ble_eq_true rfl⟩ rfl ?_
  exact r_ireturn hO hr dX5_isMotion_9 bI_n ⟨sI (inLc (lo := 0) (hi := 20) (by decide) (by decide)), rfl⟩
set_option maxHeartbeats 4000000 in
theorem zX5_isPart (l : Launch) {M : Mm} {v : Int32} : CFz l 1 yX5_isPart cX5_isPart 1 (some .boolean) [.int v] M (some (.int (bI (inI v 0 1)))) (M) := by
  refine Clz.on RX5 rfl (by decide +kernel) (Nat.le_of_ble_eq_true rfl) (fun X hL hO hr => ?_)
  show Gz X 0 [.int v] [] M
  refine r_iload_n hO dX5_isPart_0 rfl ?_
  refine r_i2l hO dX5_isPart_1 ?_
  refine r_lconst hO dX5_isPart_2 lc_0 ?_
  refine r_lconst hO dX5_isPart_3 lc_1 ?_
  refine r_fS hO dX5_isPart_4 kRX5_56 msX5_in (zX5_in _) ⟨Nat.le_of_ble_eq_true rfl, Nat.le_of_ble_eq_true rfl, rfl, Nat.le_of_ble_eq_true rfl⟩ rfl ?_
  exact r_ireturn hO hr dX5_isPart_7 bI_n ⟨sI (inLc (lo := 0) (hi := 1) (by decide) (by decide)), rfl⟩
set_option maxHeartbeats 4000000 in
theorem zX5_isFar (l : Launch) {M : Mm} {v : Int32} : CFz l 1 yX5_isFar cX5_isFar 1 (some .boolean) [.int v] M (some (.int (bI (inI v 0 60)))) (M) := by
  refine Clz.on RX5 rfl (by decide +kernel) (Nat.le_of_ble_eq_true rfl) (fun X hL hO hr => ?_)
  show Gz X 0 [.int v] [] M
  refine r_iload_n hO dX5_isFar_0 rfl ?_
  refine r_i2l hO dX5_isFar_1 ?_
  refine r_lconst hO dX5_isFar_2 lc_0 ?_
  refine r_ldc2 hO dX5_isFar_3 wRX5_223 ?_
  refine r_fS hO dX5_isFar_6 kRX5_56 msX5_in (zX5_in _) ⟨Nat.le_of_ble_eq_true rfl, Nat.le_of_ble_eq_true rfl, rfl, Nat.le_of_ble_eq_true rfl⟩ rfl ?_
  exact r_ireturn hO hr dX5_isFar_9 bI_n ⟨sI (inLc (lo := 0) (hi := 60) (by decide) (by decide)), rfl⟩
set_option maxHeartbeats 4000000 in
theorem zX5_isMember (l : Launch) {M : Mm} {i : Int32} : CFz l 1 yX5_isMember cX5_isMember 2 (some .boolean) [.ref 33, .int i] M (some (.int (bI (inI i 0 (M.1 34 24 - 1))))) (M) := by
  refine Clz.on RX5 rfl (by decide +kernel) (Nat.le_of_ble_eq_true rfl) (fun X hL hO hr => ?_)
  show Gz X 0 [.ref 33, .int i] [] M
  refine r_iload_n hO dX5_isMember_0 rfl ?_
  refine r_i2l hO dX5_isMember_1 ?_
  refine r_lconst hO dX5_isMember_2 lc_0 ?_
  refine r_aload_n hO dX5_isMember_3 rfl ?_
  refine r_getR 34 hO dX5_isMember_4 fRX5_7 rfl ?_
  refine r_bipush hO dX5_isMember_7 bc_24 ?_
  refine s_iald 123 hO dX5_isMember_9 rfl (Nat.le_of_ble_eq_true rfl) 24 (by decide) (by decide) ?_
  refine r_iconst hO dX5_isMember_10 ic_1 ?_
  refine r_isub hO dX5_isMember_11 ?_
  refine r_i2l hO dX5_isMember_12 ?_
  refine r_fS hO dX5_isMember_13 kRX5_56 msX5_in (zX5_in _) ⟨Nat.le_of_ble_eq_true rfl, Nat.le_of_ble_eq_true rfl, rfl, Nat.le_of_ble_eq_true rfl⟩ rfl ?_
  exact r_ireturn hO hr dX5_isMember_16 bI_n ⟨sI (inLc (lo := 0) (by decide) rfl), rfl⟩
set_option maxHeartbeats 4000000 in
theorem zX5_of (l : Launch) {M : Mm} {x y : Int32} (a b : Nat) (hx : x = nI a) (hy : y = nI b) (hab : 4 * a + b < 41) : CFz l 0 yX5_of cX5_of 3 (some .int) [.ref 33, .int x, .int y] M (some (.int (M.1 35 (4 * a + b)))) (M) := by
  refine Clz.on RX5 rfl (by decide +kernel) (Nat.le_of_ble_eq_true rfl) (fun X hL hO hr => ?_)
  show Gz X 0 [.ref 33, .int x, .int y] [] M
  refine r_aload_n hO dX5_of_0 rfl ?_
  refine r_getR 35 hO dX5_of_1 fRX5_13 rfl ?_
  refine r_iconst hO dX5_of_4 ic_4 ?_
  refine r_iload_n hO dX5_of_5 rfl ?_
  refine r_imul hO dX5_of_6 ?_
  refine r_iload_n hO dX5_of_7 rfl ?_
  refine r_iadd hO dX5_of_8 ?_
  refine s_iald 41 hO dX5_of_9 rfl (Nat.le_of_ble_eq_true rfl) (4 * a + b) (ix4 hx hy) hab ?_
  exact r_ireturn hO hr dX5_of_10 rfl ⟨rfl, rfl⟩
set_option maxHeartbeats 4000000 in
theorem zX5_becomesOf (l : Launch) {M : Mm} {x y v : Int32} (a b : Nat) (hx : x = nI a) (hy : y = nI b) (hab : 4 * a + b < 41) : CFz l 0 yX5_becomesOf cX5_becomesOf 4 none [.ref 33, .int x, .int y, .int v] M (none) (mput M 35 (4 * a + b) v) := by
  refine Clz.on RX5 rfl (by decide +kernel) (Nat.le_of_ble_eq_true rfl) (fun X hL hO hr => ?_)
  show Gz X 0 [.ref 33, .int x, .int y, .int v] [] M
  refine r_aload_n hO dX5_becomesOf_0 rfl ?_
  refine r_getR 35 hO dX5_becomesOf_1 fRX5_13 rfl ?_
  refine r_iconst hO dX5_becomesOf_4 ic_4 ?_
  refine r_iload_n hO dX5_becomesOf_5 rfl ?_
  refine r_imul hO dX5_becomesOf_6 ?_
  refine r_iload_n hO dX5_becomesOf_7 rfl ?_
  refine r_iadd hO dX5_becomesOf_8 ?_
  refine r_iload_n hO dX5_becomesOf_9 rfl ?_
  refine s_iast 41 hO dX5_becomesOf_10 rfl (Nat.le_of_ble_eq_true rfl) (4 * a + b) (ix4 hx hy) hab ?_
  exact r_return hO hr dX5_becomesOf_11 ⟨rfl, rfl⟩
set_option maxHeartbeats 4000000 in
theorem zX5_awayBy (l : Launch) {M : Mm} {x : Int32} (a : Nat) (hx : x = nI a) (ha : a < 6) : CFz l 1 yX5_awayBy cX5_awayBy 2 (some .int) [.ref 33, .int x] M (some (.int (M.1 35 (4 * a + 2) - M.1 35 25))) (M) := by
  refine Clz.on RX5 rfl (by decide +kernel) (Nat.le_of_ble_eq_true rfl) (fun X hL hO hr => ?_)
  show Gz X 0 [.ref 33, .int x] [] M
  refine r_aload_n hO dX5_awayBy_0 rfl ?_
  refine r_iload_n hO dX5_awayBy_1 rfl ?_
  refine r_iconst hO dX5_awayBy_2 ic_2 ?_
  refine r_fV hO dX5_awayBy_3 kRX5_131 miX5_of (zX5_of _ a 2 hx rfl (by omega)) ⟨Nat.le_of_ble_eq_true rfl, Nat.le_of_ble_eq_true rfl, rfl, Nat.le_of_ble_eq_true rfl⟩ rfl rfl ?_
  refine r_aload_n hO dX5_awayBy_6 rfl ?_
  refine r_getR 35 hO dX5_awayBy_7 fRX5_13 rfl ?_
  refine r_bipush hO dX5_awayBy_10 bc_25 ?_
  refine s_iald 41 hO dX5_awayBy_12 rfl (Nat.le_of_ble_eq_true rfl) 25 (by decide) (by decide) ?_
  refine r_isub hO dX5_awayBy_13 ?_
  exact r_ireturn hO hr dX5_awayBy_14 rfl ⟨rfl, rfl⟩
set_option maxHeartbeats 4000000 in
theorem zX5_votes (l : Launch) {M : Mm} {x : Int32} (a : Nat) (hx : x = nI a) (ha : a < 6) : CFz l 2 yX5_votes cX5_votes 2 (some .boolean) [.ref 33, .int x] M (some (.int (bI (vtI (M.1 35 (4 * a + 2)) (M.1 35 25) (M.1 35 (4 * a + 3)))))) (M) := by
  refine Clz.on RX5 rfl (by decide +kernel) (Nat.le_of_ble_eq_true rfl) (fun X hL hO hr => ?_)
  show Gz X 0 [.ref 33, .int x] [] M
  refine r_aload_n hO dX5_votes_0 rfl ?_
  refine r_iload_n hO dX5_votes_1 rfl ?_
  refine r_fV hO dX5_votes_2 kRX5_135 miX5_awayBy (zX5_awayBy _ a hx ha) ⟨Nat.le_of_ble_eq_true rfl, Nat.le_of_ble_eq_true rfl, rfl, Nat.le_of_ble_eq_true rfl⟩ rfl rfl ?_
  refine r_i2l hO dX5_votes_5 ?_
  refine r_aload_n hO dX5_votes_6 rfl ?_
  refine r_iload_n hO dX5_votes_7 rfl ?_
  refine r_iconst hO dX5_votes_8 ic_3 ?_
  refine r_fV hO dX5_votes_9 kRX5_131 miX5_of (zX5_of _ a 3 hx rfl (by omega)) ⟨Nat.le_of_ble_eq_true rfl, Nat.le_of_ble_eq_true rfl, rfl, Nat.le_of_ble_eq_true rfl⟩ rfl rfl ?_
  refine r_ineg hO dX5_votes_12 ?_
  refine r_i2l hO dX5_votes_13 ?_
  refine r_aload_n hO dX5_votes_14 rfl ?_
  refine r_iload_n hO dX5_votes_15 rfl ?_
  refine r_iconst hO dX5_votes_16 ic_3 ?_
  refine r_fV hO dX5_votes_17 kRX5_131 miX5_of (zX5_of _ a 3 hx rfl (by omega)) ⟨Nat.le_of_ble_eq_true rfl, Nat.le_of_ble_eq_true rfl, rfl, Nat.le_of_ble_eq_true rfl⟩ rfl rfl ?_
  refine r_i2l hO dX5_votes_20 ?_
  refine r_fS hO dX5_votes_21 kRX5_56 msX5_in (zX5_in _) ⟨Nat.le_of_ble_eq_true rfl, Nat.le_of_ble_eq_true rfl, rfl, Nat.le_of_ble_eq_true rfl⟩ rfl ?_
  exact r_ireturn hO hr dX5_votes_24 bI_n ⟨sI (inLc rfl rfl), rfl⟩
set_option maxHeartbeats 4000000 in
theorem zX5_pull (l : Launch) {M : Mm} {x : Int32} (a : Nat) (hx : x = nI a) (ha : a < 6) : CFz l 2 yX5_pull cX5_pull 4 (some .int) [.ref 33, .int x] M (some (.int (plI (M.1 35 (4 * a)) (M.1 35 (4 * a + 2) - M.1 35 25)))) (M) := by
  refine Clz.on RX5 rfl (by decide +kernel) (Nat.le_of_ble_eq_true rfl) (fun X hL hO hr => ?_)
  show Gz X 0 [.ref 33, .int x, .null, .null] [] M
  refine r_aload_n hO dX5_pull_0 rfl ?_
  refine r_iload_n hO dX5_pull_1 rfl ?_
  refine r_fV hO dX5_pull_2 kRX5_135 miX5_awayBy (zX5_awayBy _ a hx ha) ⟨Nat.le_of_ble_eq_true rfl, Nat.le_of_ble_eq_true rfl, rfl, Nat.le_of_ble_eq_true rfl⟩ rfl rfl ?_
  refine s_istore_n hL hO dX5_pull_5 (Nat.le_of_ble_eq_true rfl) rfl ?_
  refine r_iload_n hO dX5_pull_6 rfl ?_
  refine r_i2l hO dX5_pull_7 ?_
  refine r_ldc2 hO dX5_pull_8 wRX5_138 ?_
  refine r_ldc2 hO dX5_pull_11 wRX5_140 ?_
  refine r_fS hO dX5_pull_14 kRX5_56 msX5_in (zX5_in _) ⟨Nat.le_of_ble_eq_true rfl, Nat.le_of_ble_eq_true rfl, rfl, Nat.le_of_ble_eq_true rfl⟩ rfl ?_
  refine r_if_eq 24 hO dX5_pull_17 (by decide) (fun h17 => ?_) (fun h17 => ?_)
  · rw [inLc (lo := -2) (hi := 2) (by decide) (by decide)] at h17
    rw [bI_0] at h17
    refine r_iload_n hO dX5_pull_24 rfl ?_
    refine r_fS hO dX5_pull_25 kRX5_142 msX5_sign (zX5_sign _) ⟨Nat.le_of_ble_eq_true rfl, Nat.le_of_ble_eq_true rfl, rfl, Nat.le_of_ble_eq_true rfl⟩ rfl ?_
    refine s_istore_n hL hO dX5_pull_28 (Nat.le_of_ble_eq_true rfl) rfl ?_
    refine r_aload_n hO dX5_pull_29 rfl ?_
    refine r_iload_n hO dX5_pull_30 rfl ?_
    refine r_iconst hO dX5_pull_31 ic_0 ?_
    refine r_fV hO dX5_pull_32 kRX5_131 miX5_of (zX5_of _ a 0 hx rfl (by omega)) ⟨Nat.le_of_ble_eq_true rfl, Nat.le_of_ble_eq_true rfl, rfl, Nat.le_of_ble_eq_true rfl⟩ rfl rfl ?_
    rcases sw_1_3 (M.1 35 (4 * a + 0)) with sw35 | sw35 | sw35 | sw35
    · have sq : M.1 35 (4 * a) = _ := sw35
      refine r_tabIn 60 hO dX5_pull_35 (by rw [sw35]; decide) (by rw [sw35]; decide) (by rw [sw35]; rfl) (by decide) ?_
      refine r_iconst hO dX5_pull_60 ic_2 ?_
      refine r_iload_n hO dX5_pull_61 rfl ?_
      refine r_fS hO dX5_pull_62 kRX5_142 msX5_sign (zX5_sign _) ⟨Nat.le_of_ble_eq_true rfl, Nat.le_of_ble_eq_true rfl, rfl, Nat.le_of_ble_eq_true rfl⟩ rfl ?_
      refine r_imul hO dX5_pull_65 ?_
      exact r_ireturn hO hr dX5_pull_66 rfl ⟨sI (by simp [plI, dbI, sq, h17]), rfl⟩
    · have sq : M.1 35 (4 * a) = _ := sw35
      refine r_tabIn 67 hO dX5_pull_35 (by rw [sw35]; decide) (by rw [sw35]; decide) (by rw [sw35]; rfl) (by decide) ?_
      refine r_iload_n hO dX5_pull_67 rfl ?_
      exact r_ireturn hO hr dX5_pull_68 rfl ⟨sI (by simp [plI, dbI, sq, h17]), rfl⟩
    · have sq : M.1 35 (4 * a) = _ := sw35
      refine r_tabIn 69 hO dX5_pull_35 (by rw [sw35]; decide) (by rw [sw35]; decide) (by rw [sw35]; rfl) (by decide) ?_
      refine r_iload_n hO dX5_pull_69 rfl ?_
      refine r_ineg hO dX5_pull_70 ?_
      exact r_ireturn hO hr dX5_pull_71 rfl ⟨sI (by simp [plI, dbI, sq, h17]), rfl⟩
    · have swn : ¬ M.1 35 (4 * a) = 1 ∧ ¬ M.1 35 (4 * a) = 2 ∧ ¬ M.1 35 (4 * a) = 3 := sw13n sw35
      refine r_tabOut 72 hO dX5_pull_35 sw35 (by decide) ?_
      refine r_iload_n hO dX5_pull_72 rfl ?_
      refine r_fS hO dX5_pull_73 kRX5_142 msX5_sign (zX5_sign _) ⟨Nat.le_of_ble_eq_true rfl, Nat.le_of_ble_eq_true rfl, rfl, Nat.le_of_ble_eq_true rfl⟩ rfl ?_
      exact r_ireturn hO hr dX5_pull_76 rfl ⟨sI (by simp [plI, dbI, swn.1, swn.2.1, swn.2.2, h17]), rfl⟩
  · rw [inLc (lo := -2) (hi := 2) (by decide) (by decide)] at h17
    rw [bI_n0] at h17
    refine r_iconst hO dX5_pull_20 ic_0 ?_
    refine r_goto 28 hO dX5_pull_21 (by decide) ?_
    refine s_istore_n hL hO dX5_pull_28 (Nat.le_of_ble_eq_true rfl) rfl ?_
    refine r_aload_n hO dX5_pull_29 rfl ?_
    refine r_iload_n hO dX5_pull_30 rfl ?_
    refine r_iconst hO dX5_pull_31 ic_0 ?_
    refine r_fV hO dX5_pull_32 kRX5_131 miX5_of (zX5_of _ a 0 hx rfl (by omega)) ⟨Nat.le_of_ble_eq_true rfl, Nat.le_of_ble_eq_true rfl, rfl, Nat.le_of_ble_eq_true rfl⟩ rfl rfl ?_
    rcases sw_1_3 (M.1 35 (4 * a + 0)) with sw35 | sw35 | sw35 | sw35
    · have sq : M.1 35 (4 * a) = _ := sw35
      refine r_tabIn 60 hO dX5_pull_35 (by rw [sw35]; decide) (by rw [sw35]; decide) (by rw [sw35]; rfl) (by decide) ?_
      refine r_iconst hO dX5_pull_60 ic_2 ?_
      refine r_iload_n hO dX5_pull_61 rfl ?_
      refine r_fS hO dX5_pull_62 kRX5_142 msX5_sign (zX5_sign _) ⟨Nat.le_of_ble_eq_true rfl, Nat.le_of_ble_eq_true rfl, rfl, Nat.le_of_ble_eq_true rfl⟩ rfl ?_
      refine r_imul hO dX5_pull_65 ?_
      exact r_ireturn hO hr dX5_pull_66 rfl ⟨sI (by simp [plI, dbI, sq, h17]), rfl⟩
    · have sq : M.1 35 (4 * a) = _ := sw35
      refine r_tabIn 67 hO dX5_pull_35 (by rw [sw35]; decide) (by rw [sw35]; decide) (by rw [sw35]; rfl) (by decide) ?_
      refine r_iload_n hO dX5_pull_67 rfl ?_
      exact r_ireturn hO hr dX5_pull_68 rfl ⟨sI (by simp [plI, dbI, sq, h17]), rfl⟩
    · have sq : M.1 35 (4 * a) = _ := sw35
      refine r_tabIn 69 hO dX5_pull_35 (by rw [sw35]; decide) (by rw [sw35]; decide) (by rw [sw35]; rfl) (by decide) ?_
      refine r_iload_n hO dX5_pull_69 rfl ?_
      refine r_ineg hO dX5_pull_70 ?_
      exact r_ireturn hO hr dX5_pull_71 rfl ⟨sI (by simp [plI, dbI, sq, h17]), rfl⟩
    · have swn : ¬ M.1 35 (4 * a) = 1 ∧ ¬ M.1 35 (4 * a) = 2 ∧ ¬ M.1 35 (4 * a) = 3 := sw13n sw35
      refine r_tabOut 72 hO dX5_pull_35 sw35 (by decide) ?_
      refine r_iload_n hO dX5_pull_72 rfl ?_
      refine r_fS hO dX5_pull_73 kRX5_142 msX5_sign (zX5_sign _) ⟨Nat.le_of_ble_eq_true rfl, Nat.le_of_ble_eq_true rfl, rfl, Nat.le_of_ble_eq_true rfl⟩ rfl ?_
      exact r_ireturn hO hr dX5_pull_76 rfl ⟨sI (by simp [plI, dbI, swn.1, swn.2.1, swn.2.2, h17]), rfl⟩
set_option maxHeartbeats 4000000 in
theorem zX5_isOf (l : Launch) {M : Mm} {x h : Int32} (a : Nat) (hx : x = nI a) (ha : a < 6) : CFz l 1 yX5_isOf cX5_isOf 3 (some .boolean) [.ref 33, .int x, .int h] M (some (.int (bI (decide (x ≠ M.1 33 13 ∧ M.1 35 (4 * a + 1) = h))))) (M) := by
  refine Clz.on RX5 rfl (by decide +kernel) (Nat.le_of_ble_eq_true rfl) (fun X hL hO hr => ?_)
  show Gz X 0 [.ref 33, .int x, .int h] [] M
  refine r_iload_n hO dX5_isOf_0 rfl ?_
  refine r_aload_n hO dX5_isOf_1 rfl ?_
  refine r_getI hO dX5_isOf_2 fRX5_125 rfl ?_
  refine r_icmp_eq 22 hO dX5_isOf_5 (by decide) (fun h5 => ?_) (fun h5 => ?_)
  · refine r_iconst hO dX5_isOf_22 ic_0 ?_
    exact r_ireturn hO hr dX5_isOf_23 rfl ⟨sI (by simp [bI, h5]), rfl⟩
  · refine r_aload_n hO dX5_isOf_8 rfl ?_
    refine r_iload_n hO dX5_isOf_9 rfl ?_
    refine r_iconst hO dX5_isOf_10 ic_1 ?_
    refine r_fV hO dX5_isOf_11 kRX5_131 miX5_of (zX5_of _ a 1 hx rfl (by omega)) ⟨Nat.le_of_ble_eq_true rfl, Nat.le_of_ble_eq_true rfl, rfl, Nat.le_of_ble_eq_true rfl⟩ rfl rfl ?_
    refine r_iload_n hO dX5_isOf_14 rfl ?_
    refine r_icmp_ne 22 hO dX5_isOf_15 (by decide) (fun h15 => ?_) (fun h15 => ?_)
    · refine r_iconst hO dX5_isOf_22 ic_0 ?_
      exact r_ireturn hO hr dX5_isOf_23 rfl ⟨sI (by simp [bI, h5, h15]), rfl⟩
    · refine r_iconst hO dX5_isOf_18 ic_1 ?_
      refine r_goto 23 hO dX5_isOf_19 (by decide) ?_
      exact r_ireturn hO hr dX5_isOf_23 rfl ⟨sI (by simp [bI, h5, h15]), rfl⟩
set_option maxHeartbeats 4000000 in
theorem zX5_byteAt (l : Launch) {M : Mm} {x : Int32} (a : Nat) (hx : x = nI a) (n : Nat) (hn : M.1 33 6 = nI n) (hn2 : n ≤ 160) (ha : a < 1000) : CFz l 0 yX5_byteAt cX5_byteAt 2 (some .int) [.ref 33, .int x] M (some (.int (if a < n then M.1 38 a else -1))) (M) := by
  refine Clz.on RX5 rfl (by decide +kernel) (Nat.le_of_ble_eq_true rfl) (fun X hL hO hr => ?_)
  show Gz X 0 [.ref 33, .int x] [] M
  refine r_iload_n hO dX5_byteAt_0 rfl ?_
  refine r_aload_n hO dX5_byteAt_1 rfl ?_
  refine r_getI hO dX5_byteAt_2 fRX5_60 rfl ?_
  refine r_icmp_ge 17 hO dX5_byteAt_5 (by decide) (fun h5 => ?_) (fun h5 => ?_)
  · rw [hx, hn, nI_leI (by omega) (by omega)] at h5
    refine r_iconst hO dX5_byteAt_17 ic_m1 ?_
    exact r_ireturn hO hr dX5_byteAt_18 rfl ⟨sI (by rw [if_neg (by omega)]), rfl⟩
  · rw [hx, hn, nI_leI (by omega) (by omega)] at h5
    refine r_aload_n hO dX5_byteAt_8 rfl ?_
    refine r_getR 38 hO dX5_byteAt_9 fRX5_23 rfl ?_
    refine r_iload_n hO dX5_byteAt_12 rfl ?_
    refine s_iald 160 hO dX5_byteAt_13 rfl (Nat.le_of_ble_eq_true rfl) a hx (by omega) ?_
    refine r_goto 18 hO dX5_byteAt_14 (by decide) ?_
    exact r_ireturn hO hr dX5_byteAt_18 rfl ⟨sI (by rw [if_pos (by omega)]), rfl⟩
set_option maxHeartbeats 4000000 in
theorem zX5_requires (l : Launch) {M : Mm} {g co : Int32} : CFz l 0 yX5_requires cX5_requires 3 none [.ref 33, .int g, .int co] M (none) (if g = 0 ∧ M.1 33 11 = 0 then mput (mput M 33 11 co) 33 12 (M.1 33 8) else M) := by
  refine Clz.on RX5 rfl (by decide +kernel) (Nat.le_of_ble_eq_true rfl) (fun X hL hO hr => ?_)
  show Gz X 0 [.ref 33, .int g, .int co] [] M
  refine r_iload_n hO dX5_requires_0 rfl ?_
  refine r_if_ne 24 hO dX5_requires_1 (by decide) (fun h1 => ?_) (fun h1 => ?_)
  · exact r_return hO hr dX5_requires_24 ⟨rfl, by simp [mpg, h1]⟩
  · refine r_aload_n hO dX5_requires_4 rfl ?_
    refine r_getI hO dX5_requires_5 fRX5_64 rfl ?_
    refine r_if_ne 24 hO dX5_requires_8 (by decide) (fun h8 => ?_) (fun h8 => ?_)
    · exact r_return hO hr dX5_requires_24 ⟨rfl, by simp [mpg, h1, h8]⟩
    · refine r_aload_n hO dX5_requires_11 rfl ?_
      refine r_iload_n hO dX5_requires_12 rfl ?_
      refine r_putI hO dX5_requires_13 fRX5_64 rfl ?_
      refine r_aload_n hO dX5_requires_16 rfl ?_
      refine r_aload_n hO dX5_requires_17 rfl ?_
      refine r_getI hO dX5_requires_18 fRX5_67 rfl ?_
      refine r_putI hO dX5_requires_21 fRX5_70 rfl ?_
      exact r_return hO hr dX5_requires_24 ⟨rfl, by simp [mpg, h1, h8]⟩
end
section
/-! the days, as numbers: a MEMBER is (kind, house, want, slack) -/
abbrev Mb : Type := Nat × Nat × Nat × Nat
def okB (b : Mb) : Prop := b.1 ≤ 3 ∧ b.2.1 ≤ 1 ∧ b.2.2.1 ≤ 20 ∧ b.2.2.2 ≤ 20
def vt (b : Mb) (mo : Nat) : Bool := decide (b.2.2.1 ≤ mo + b.2.2.2 ∧ mo ≤ b.2.2.1 + b.2.2.2)
def inH (h : Nat) (b : Mb) : Bool := decide (b.2.1 = h)
def cY (h mo : Nat) (ms : List Mb) : Nat := ms.countP (fun b => inH h b && vt b mo)
def cN (h mo : Nat) (ms : List Mb) : Nat := ms.countP (fun b => inH h b && !vt b mo)
def agr (h mo : Nat) (ms : List Mb) : Bool := decide (cN h mo ms < cY h mo ms ∨ cY h mo ms + cN h mo ms = 0)
def car (mo : Nat) (ms : List Mb) : Bool := agr 0 mo ms && agr 1 mo ms
def sg (z : Int) : Int := if z > 0 then 1 else if z < 0 then -1 else 0
def db (z : Int) : Int := if -2 ≤ z ∧ z ≤ 2 then 0 else sg z
def plK (k : Nat) (z : Int) : Int := if k = 1 then 2 * sg z else if k = 2 then db z else if k = 3 then - db z else sg z
def pl (b : Mb) (mo : Nat) : Int := plK b.1 ((b.2.2.1 : Int) - mo)
def sP (h mo : Nat) : List Mb → Int
  | [] => 0
  | b :: bs => (if inH h b = true then pl b mo else 0) + sP h mo bs
def ti (k : Nat) : Nat := if k = 1 then 0 else if k = 2 then 2 else if k = 3 then 3 else 1
def tird (b : Mb) : Mb := (b.1, b.2.1, b.2.2.1, min 20 (b.2.2.2 + ti b.1))
def sitB (h mo : Nat) (b : Mb) : Mb := if (inH h b && !vt b mo) = true then tird b else b
def nmz (mo : Nat) (g : Int) : Nat := if 0 ≤ (mo : Int) + g ∧ (mo : Int) + g ≤ 20 then ((mo : Int) + g).toNat else mo
def nmo (h mo : Nat) (ms : List Mb) : Nat := nmz mo (sg (sP h mo ms))
/-- members, motion, day, amendments, changes -/
abbrev Ns : Type := List Mb × Nat × Nat × Nat × Nat
def dayS (s : Ns) : Ns := if car s.2.1 s.1 = true then (s.1, s.2.1, s.2.2.1 + 1, s.2.2.2.1, s.2.2.2.2) else
  (s.1.map (sitB (s.2.2.1 % 2) s.2.1), nmo (s.2.2.1 % 2) s.2.1 s.1, s.2.2.1 + 1, (if nmo (s.2.2.1 % 2) s.2.1 s.1 = s.2.1 then s.2.2.2.1 else min 999 (s.2.2.2.1 + 1)), (if nmo (s.2.2.1 % 2) s.2.1 s.1 = s.2.1 then s.2.2.2.2 else s.2.2.2.2 + 1))
def idlS (s : Ns) : Ns := (s.1, s.2.1, s.2.2.1 + 1, s.2.2.2.1, s.2.2.2.2)
def iI (z : Int) : Int32 := Int32.ofInt z
theorem iI_add (a b : Int) : iI a + iI b = iI (a + b) := (Int32.ofInt_add a b).symm
theorem iI_nat (n : Nat) : iI n = nI n := rfl
theorem vtI_d : ∀ w, w < 21 → ∀ m, m < 21 → ∀ s, s < 21 → vtI (nI w) (nI m) (nI s) = decide (w ≤ m + s ∧ m ≤ w + s) := by decide +kernel
theorem plI_d : ∀ k, k < 4 → ∀ w, w < 21 → ∀ m, m < 21 → plI (nI k) (nI w - nI m) = iI (plK k ((w : Int) - (m : Int))) := by decide +kernel
theorem sgI_d : ∀ n : Nat, n < 41 → sgI (iI ((n : Int) - 20)) = iI (sg ((n : Int) - 20)) := by decide +kernel
theorem tir_d : ∀ k, k < 4 → ∀ s, s < 21 → lsI 20 (nI s + tiI (nI k)) = nI (min 20 (s + ti k)) := by decide +kernel
theorem amd_d : ∀ a, a < 1000 → lsI 999 (nI a + 1) = nI (min 999 (a + 1)) := by decide +kernel
theorem sgI_eq {z : Int} (h1 : -20 ≤ z) (h2 : z ≤ 20) : sgI (iI z) = iI (sg z) := by
  have := sgI_d (z + 20).toNat (by omega)
  have e : (((z + 20).toNat : Nat) : Int) - 20 = z := by omega
  rw [e] at this
  exact this
theorem sg_in (z : Int) : sg z = -1 ∨ sg z = 0 ∨ sg z = 1 := by
  unfold sg
  by_cases h : z > 0
  · simp [h]
  · by_cases h2 : z < 0
    · simp [h, h2]
    · simp [h, h2]
theorem pl_in {b : Mb} (mo : Nat) : -2 ≤ pl b mo ∧ pl b mo ≤ 2 := by
  unfold pl plK db
  rcases sg_in ((b.2.2.1 : Int) - mo) with h | h | h <;> rw [h] <;> (repeat' split) <;> omega
theorem sP_in (h mo : Nat) : ∀ ms : List Mb, -(2 * (ms.length : Int)) ≤ sP h mo ms ∧ sP h mo ms ≤ 2 * (ms.length : Int) := by
  intro ms
  induction ms with
  | nil => simp [sP]
  | cons b ms ih =>
    have := pl_in (b := b) mo
    simp only [sP, List.length_cons]
    split <;> omega
theorem nmz_le {mo : Nat} (g : Int) (h : mo ≤ 20) : nmz mo g ≤ 20 := by unfold nmz; split <;> omega
theorem nmo_le {h mo : Nat} {ms : List Mb} (hm : mo ≤ 20) : nmo h mo ms ≤ 20 := nmz_le _ hm
theorem ti_le (k : Nat) : ti k ≤ 3 := by unfold ti; (repeat' split) <;> omega
theorem tird_ok {b : Mb} (h : okB b) : okB (tird b) := ⟨h.1, h.2.1, h.2.2.1, by show min 20 _ ≤ 20; omega⟩
theorem sitB_ok {h mo : Nat} {b : Mb} (hb : okB b) : okB (sitB h mo b) := by
  unfold sitB
  split
  · exact tird_ok hb
  · exact hb
/-- what a row of ints says of MEMBERS -/
def MbAt (f : Nat → Int32) (ms : List Mb) : Prop := ∀ i b, ms[i]? = some b → f (4 * i) = nI b.1 ∧ f (4 * i + 1) = nI b.2.1 ∧ f (4 * i + 2) = nI b.2.2.1 ∧ f (4 * i + 3) = nI b.2.2.2 ∧ okB b
theorem MbAt.set3 {f : Nat → Int32} {ms : List Mb} (h : MbAt f ms) {i : Nat} {b : Mb} (hb : ms[i]? = some b) {s : Nat} (hs : s ≤ 20) : MbAt (upd f (4 * i + 3) (nI s)) (ms.set i (b.1, b.2.1, b.2.2.1, s)) := by
  intro j c hc
  by_cases hj : j = i
  · subst hj
    rw [List.getElem?_set_self (List.getElem?_eq_some_iff.mp hb).1] at hc
    cases hc
    obtain ⟨h1, h2, h3, h4, h5⟩ := h j b hb
    refine ⟨by rw [pk_un (by omega)]; exact h1, by rw [pk_un (by omega)]; exact h2, by rw [pk_un (by omega)]; exact h3, by rw [pk_us], h5.1, h5.2.1, h5.2.2.1, hs⟩
  · rw [List.getElem?_set_ne (Ne.symm hj)] at hc
    obtain ⟨h1, h2, h3, h4, h5⟩ := h j c hc
    exact ⟨by rw [pk_un (by omega)]; exact h1, by rw [pk_un (by omega)]; exact h2, by rw [pk_un (by omega)]; exact h3, by rw [pk_un (by omega)]; exact h4, h5⟩
theorem MbAt.set2 {f : Nat → Int32} {ms : List Mb} (h : MbAt f ms) {i : Nat} {b : Mb} (hb : ms[i]? = some b) {w : Nat} (hs : w ≤ 20) : MbAt (upd f (4 * i + 2) (nI w)) (ms.set i (b.1, b.2.1, w, b.2.2.2)) := by
  intro j c hc
  by_cases hj : j = i
  · subst hj
    rw [List.getElem?_set_self (List.getElem?_eq_some_iff.mp hb).1] at hc
    cases hc
    obtain ⟨h1, h2, h3, h4, h5⟩ := h j b hb
    refine ⟨by rw [pk_un (by omega)]; exact h1, by rw [pk_un (by omega)]; exact h2, by rw [pk_us], by rw [pk_un (by omega)]; exact h4, h5.1, h5.2.1, hs, h5.2.2.2⟩
  · rw [List.getElem?_set_ne (Ne.symm hj)] at hc
    obtain ⟨h1, h2, h3, h4, h5⟩ := h j c hc
    exact ⟨by rw [pk_un (by omega)]; exact h1, by rw [pk_un (by omega)]; exact h2, by rw [pk_un (by omega)]; exact h3, by rw [pk_un (by omega)]; exact h4, h5⟩
theorem MbAt.set1 {f : Nat → Int32} {ms : List Mb} (h : MbAt f ms) {i : Nat} {b : Mb} (hb : ms[i]? = some b) {w : Nat} (hs : w ≤ 1) : MbAt (upd f (4 * i + 1) (nI w)) (ms.set i (b.1, w, b.2.2.1, b.2.2.2)) := by
  intro j c hc
  by_cases hj : j = i
  · subst hj
    rw [List.getElem?_set_self (List.getElem?_eq_some_iff.mp hb).1] at hc
    cases hc
    obtain ⟨h1, h2, h3, h4, h5⟩ := h j b hb
    refine ⟨by rw [pk_un (by omega)]; exact h1, by rw [pk_us], by rw [pk_un (by omega)]; exact h3, by rw [pk_un (by omega)]; exact h4, h5.1, hs, h5.2.2⟩
  · rw [List.getElem?_set_ne (Ne.symm hj)] at hc
    obtain ⟨h1, h2, h3, h4, h5⟩ := h j c hc
    exact ⟨by rw [pk_un (by omega)]; exact h1, by rw [pk_un (by omega)]; exact h2, by rw [pk_un (by omega)]; exact h3, by rw [pk_un (by omega)]; exact h4, h5⟩
theorem MbAt.set0 {f : Nat → Int32} {ms : List Mb} (h : MbAt f ms) {i : Nat} {b : Mb} (hb : ms[i]? = some b) {w : Nat} (hs : w ≤ 3) : MbAt (upd f (4 * i) (nI w)) (ms.set i (w, b.2.1, b.2.2.1, b.2.2.2)) := by
  intro j c hc
  by_cases hj : j = i
  · subst hj
    rw [List.getElem?_set_self (List.getElem?_eq_some_iff.mp hb).1] at hc
    cases hc
    obtain ⟨h1, h2, h3, h4, h5⟩ := h j b hb
    refine ⟨by rw [pk_us], by rw [pk_un (by omega)]; exact h2, by rw [pk_un (by omega)]; exact h3, by rw [pk_un (by omega)]; exact h4, hs, h5.2⟩
  · rw [List.getElem?_set_ne (Ne.symm hj)] at hc
    obtain ⟨h1, h2, h3, h4, h5⟩ := h j c hc
    exact ⟨by rw [pk_un (by omega)]; exact h1, by rw [pk_un (by omega)]; exact h2, by rw [pk_un (by omega)]; exact h3, by rw [pk_un (by omega)]; exact h4, h5⟩
theorem MbAt.far {f : Nat → Int32} {ms : List Mb} (h : MbAt f ms) (hl : ms.length ≤ 6) {k : Nat} (hk : 24 ≤ k) (x : Int32) : MbAt (upd f k x) ms := by
  intro j c hc
  have hj := (List.getElem?_eq_some_iff.mp hc).1
  obtain ⟨h1, h2, h3, h4, h5⟩ := h j c hc
  exact ⟨by rw [pk_un (by omega)]; exact h1, by rw [pk_un (by omega)]; exact h2, by rw [pk_un (by omega)]; exact h3, by rw [pk_un (by omega)]; exact h4, h5⟩
theorem MbAt.votes {f : Nat → Int32} {ms : List Mb} (h : MbAt f ms) {i : Nat} {b : Mb} (hb : ms[i]? = some b) {mo : Nat} (hm : mo ≤ 20) : vtI (f (4 * i + 2)) (nI mo) (f (4 * i + 3)) = vt b mo := by
  obtain ⟨h1, h2, h3, h4, h5⟩ := h i b hb
  rw [h3, h4, vtI_d _ (by have := h5.2.2.1; omega) _ (by omega) _ (by have := h5.2.2.2; omega)]; rfl
theorem MbAt.pull {f : Nat → Int32} {ms : List Mb} (h : MbAt f ms) {i : Nat} {b : Mb} (hb : ms[i]? = some b) {mo : Nat} (hm : mo ≤ 20) : plI (f (4 * i)) (f (4 * i + 2) - nI mo) = iI (pl b mo) := by
  obtain ⟨h1, h2, h3, h4, h5⟩ := h i b hb
  rw [h1, h3, plI_d _ (by have := h5.1; omega) _ (by have := h5.2.2.1; omega) _ (by omega)]; rfl
theorem MbAt.house {f : Nat → Int32} {ms : List Mb} (h : MbAt f ms) {i : Nat} {b : Mb} (hb : ms[i]? = some b) {g : Nat} (hg : g < 100) : (f (4 * i + 1) = nI g) ↔ inH g b = true := by
  obtain ⟨h1, h2, h3, h4, h5⟩ := h i b hb
  have := h5.2.1
  rw [h2, nI_eq (by omega) (by omega)]
  unfold inH
  rw [decide_eq_true_iff]
/-- the members but one that is out -/
def act (out : Int32) : Nat → List Mb → List Mb
  | _, [] => []
  | i, b :: bs => if nI i = out then act out (i + 1) bs else b :: act out (i + 1) bs
def sitA (out : Int32) (h mo : Nat) : Nat → List Mb → List Mb
  | _, [] => []
  | i, b :: bs => (if nI i = out then b else sitB h mo b) :: sitA out h mo (i + 1) bs
theorem act_sitA (out : Int32) (h mo : Nat) : ∀ (ms : List Mb) (i : Nat), act out i (sitA out h mo i ms) = (act out i ms).map (sitB h mo) := by
  intro ms
  induction ms with
  | nil => intro i; rfl
  | cons b ms ih =>
    intro i
    by_cases hi : nI i = out
    · simp [sitA, act, hi, ih]
    · simp [sitA, act, hi, ih]
theorem sitA_len (out : Int32) (h mo : Nat) : ∀ (ms : List Mb) (i : Nat), (sitA out h mo i ms).length = ms.length := by
  intro ms
  induction ms with
  | nil => intro i; rfl
  | cons b ms ih => intro i; simp [sitA, ih]
theorem act_none : ∀ (ms : List Mb) (i : Nat), i + ms.length < 2 ^ 31 → act (-4) i ms = ms := by
  intro ms
  induction ms with
  | nil => intro i _; rfl
  | cons b ms ih =>
    intro i hi
    simp only [List.length_cons] at hi
    have hne : ¬ nI i = -4 := by
      intro e
      have := nI_pos (n := i) (by omega)
      rw [e] at this
      exact this (by decide)
    simp only [act, hne, if_false]
    rw [ih (i + 1) (by omega)]
theorem act_len (out : Int32) : ∀ (ms : List Mb) (i : Nat), (act out i ms).length ≤ ms.length := by
  intro ms
  induction ms with
  | nil => intro i; exact Nat.le_refl _
  | cons b ms ih =>
    intro i
    have := ih (i + 1)
    unfold act
    split <;> simp only [List.length_cons] <;> omega
theorem cY_le (h mo : Nat) (ms : List Mb) : cY h mo ms ≤ ms.length := List.countP_le_length
theorem cN_le (h mo : Nat) (ms : List Mb) : cN h mo ms ≤ ms.length := List.countP_le_length
theorem drop_cons {ms : List Mb} {i : Nat} {b : Mb} {bs : List Mb} (h : ms.drop i = b :: bs) : ms[i]? = some b ∧ ms.drop (i + 1) = bs ∧ i < ms.length := by
  have hl : i < ms.length := by
    rcases Nat.lt_or_ge i ms.length with q | q
    · exact q
    · rw [List.drop_eq_nil_of_le q] at h; cases h
  rw [List.drop_eq_getElem_cons hl] at h
  have := List.cons.inj h
  exact ⟨by rw [List.getElem?_eq_getElem hl, this.1], this.2, hl⟩
theorem drop_nil {ms : List Mb} {i : Nat} (h : ms.drop i = []) (hi : i ≤ ms.length) : i = ms.length := by
  have := List.drop_eq_nil_iff.mp h
  omega
theorem act_c (out : Int32) (i : Nat) (b : Mb) (bs : List Mb) : act out i (b :: bs) = if nI i = out then act out (i + 1) bs else b :: act out (i + 1) bs := rfl
def isA (out : Int32) (i h : Nat) (b : Mb) : Bool := !decide (nI i = out) && inH h b
theorem cY_skip {out : Int32} {i h mo : Nat} {b : Mb} {bs : List Mb} (hq : isA out i h b = false) : cY h mo (act out i (b :: bs)) = cY h mo (act out (i + 1) bs) := by
  unfold isA at hq
  rw [act_c]
  by_cases ho : nI i = out
  · rw [if_pos ho]
  · rw [if_neg ho]
    simp [ho] at hq
    simp [cY, hq]
theorem cY_no {out : Int32} {i h mo : Nat} {b : Mb} {bs : List Mb} (hv : vt b mo = false) : cY h mo (act out i (b :: bs)) = cY h mo (act out (i + 1) bs) := by
  rw [act_c]
  by_cases ho : nI i = out
  · rw [if_pos ho]
  · rw [if_neg ho]
    simp [cY, hv]
theorem cY_yes {out : Int32} {i h mo : Nat} {b : Mb} {bs : List Mb} (hq : isA out i h b = true) (hv : vt b mo = true) : cY h mo (act out i (b :: bs)) = cY h mo (act out (i + 1) bs) + 1 := by
  unfold isA at hq
  rw [act_c]
  by_cases ho : nI i = out
  · simp [ho] at hq
  · rw [if_neg ho]
    simp [ho] at hq
    simp [cY, hv, hq]
theorem cN_skip {out : Int32} {i h mo : Nat} {b : Mb} {bs : List Mb} (hq : isA out i h b = false) : cN h mo (act out i (b :: bs)) = cN h mo (act out (i + 1) bs) := by
  unfold isA at hq
  rw [act_c]
  by_cases ho : nI i = out
  · rw [if_pos ho]
  · rw [if_neg ho]
    simp [ho] at hq
    simp [cN, hq]
theorem cN_no {out : Int32} {i h mo : Nat} {b : Mb} {bs : List Mb} (hv : vt b mo = true) : cN h mo (act out i (b :: bs)) = cN h mo (act out (i + 1) bs) := by
  rw [act_c]
  by_cases ho : nI i = out
  · rw [if_pos ho]
  · rw [if_neg ho]
    simp [cN, hv]
theorem cN_yes {out : Int32} {i h mo : Nat} {b : Mb} {bs : List Mb} (hq : isA out i h b = true) (hv : vt b mo = false) : cN h mo (act out i (b :: bs)) = cN h mo (act out (i + 1) bs) + 1 := by
  unfold isA at hq
  rw [act_c]
  by_cases ho : nI i = out
  · simp [ho] at hq
  · rw [if_neg ho]
    simp [ho] at hq
    simp [cN, hv, hq]
theorem sP_skip {out : Int32} {i h mo : Nat} {b : Mb} {bs : List Mb} (hq : isA out i h b = false) : sP h mo (act out i (b :: bs)) = sP h mo (act out (i + 1) bs) := by
  unfold isA at hq
  rw [act_c]
  by_cases ho : nI i = out
  · rw [if_pos ho]
  · rw [if_neg ho]
    simp [ho] at hq
    simp [sP, hq]
theorem sP_yes {out : Int32} {i h mo : Nat} {b : Mb} {bs : List Mb} (hq : isA out i h b = true) : sP h mo (act out i (b :: bs)) = pl b mo + sP h mo (act out (i + 1) bs) := by
  unfold isA at hq
  rw [act_c]
  by_cases ho : nI i = out
  · simp [ho] at hq
  · rw [if_neg ho]
    simp [ho] at hq
    simp [sP, hq]
theorem nI_bt (m : Nat) : nI m + bI true = nI (m + 1) := nI_1 m
theorem nI_bf (m : Nat) : nI m + bI false = nI m := by show nI m + 0 = nI m; rw [show (0 : Int32) = nI 0 from rfl, nI_add]; rfl
/-- the reference's row of now -/
def RN (M : Mm) (full : List Mb) (mo day am : Nat) (out : Int32) (ch : Nat) : Prop := full.length ≤ 6 ∧ MbAt (M.1 35) full ∧ M.1 35 24 = nI full.length ∧ (M.1 35 25 = nI mo ∧ mo ≤ 20) ∧ (M.1 35 26 = nI day ∧ day ≤ 100000) ∧ (M.1 35 27 = nI am ∧ am ≤ 999) ∧ M.1 33 13 = out ∧ (M.1 33 14 = nI ch ∧ ch ≤ 100000)
/-- nothing changes but now and changes -/
def F35 (M M' : Mm) : Prop := (∀ a k, a ≠ 35 → (a ≠ 33 ∨ k ≠ 14) → M'.1 a k = M.1 a k) ∧ M'.2 = M.2
theorem F35.rf {M : Mm} : F35 M M := ⟨fun _ _ _ _ => rfl, rfl⟩
theorem F35.tr {M M1 M2 : Mm} (h1 : F35 M M1) (h2 : F35 M1 M2) : F35 M M2 := ⟨fun a k ha hk => (h2.1 a k ha hk).trans (h1.1 a k ha hk), h2.2.trans h1.2⟩
theorem F35.put {M : Mm} {k : Nat} {x : Int32} : F35 M (mput M 35 k x) := ⟨fun a j ha _ => by rw [mpg]; simp [ha], rfl⟩
theorem F35.put14 {M : Mm} {x : Int32} : F35 M (mput M 33 14 x) := ⟨fun a j ha hj => by rw [mpg]; rw [if_neg (fun z => by omega)], rfl⟩
theorem mput35 (M : Mm) (k : Nat) (x : Int32) : (mput M 35 k x).1 35 = upd (M.1 35) k x := mput_at M 35 k x
theorem takeS {ms : List Mb} {i : Nat} {b : Mb} (hb : ms[i]? = some b) : ms.take (i + 1) = ms.take i ++ [b] := by
  rw [List.take_succ, hb]; rfl
theorem sitA_c (out : Int32) (h mo i : Nat) (b : Mb) (bs : List Mb) : sitA out h mo i (b :: bs) = (if nI i = out then b else sitB h mo b) :: sitA out h mo (i + 1) bs := rfl
theorem sit_skip {out : Int32} {i h mo : Nat} {b : Mb} (hq : isA out i h b = false) : (if nI i = out then b else sitB h mo b) = b := by
  unfold isA at hq
  by_cases ho : nI i = out
  · rw [if_pos ho]
  · rw [if_neg ho]; simp [ho] at hq; simp [sitB, hq]
theorem sit_vt {out : Int32} {i h mo : Nat} {b : Mb} (hv : vt b mo = true) : (if nI i = out then b else sitB h mo b) = b := by
  by_cases ho : nI i = out
  · rw [if_pos ho]
  · rw [if_neg ho]; simp [sitB, hv]
theorem sit_yes {out : Int32} {i h mo : Nat} {b : Mb} (hq : isA out i h b = true) (hv : vt b mo = false) : (if nI i = out then b else sitB h mo b) = tird b := by
  unfold isA at hq
  by_cases ho : nI i = out
  · simp [ho] at hq
  · rw [if_neg ho]; simp [ho] at hq; simp [sitB, hv, hq]
theorem agr_1 {h mo : Nat} {ms : List Mb} (hl : ms.length ≤ 6) (q : nI (cN h mo ms) < nI (cY h mo ms)) : (1 : Int32) = bI (agr h mo ms) := by
  have := cY_le h mo ms
  have := cN_le h mo ms
  rw [nI_ltI (by omega) (by omega)] at q
  rw [agr, decide_eq_true (Or.inl q)]; rfl
theorem agr_2 {h mo : Nat} {ms : List Mb} (hl : ms.length ≤ 6) (q : ¬ nI (cN h mo ms) < nI (cY h mo ms)) (q2 : ¬ nI (cY h mo ms) + nI (cN h mo ms) = 0) : (0 : Int32) = bI (agr h mo ms) := by
  have := cY_le h mo ms
  have := cN_le h mo ms
  rw [nI_ltI (by omega) (by omega)] at q
  rw [agr, decide_eq_false (fun z => z.elim q (fun z => q2 (by rw [nI_add, z]; rfl)))]; rfl
theorem agr_3 {h mo : Nat} {ms : List Mb} (hl : ms.length ≤ 6) (q2 : nI (cY h mo ms) + nI (cN h mo ms) = 0) : (1 : Int32) = bI (agr h mo ms) := by
  have := cY_le h mo ms
  have := cN_le h mo ms
  rw [nI_add, show (0 : Int32) = nI 0 from rfl, nI_eq (by omega) (by omega)] at q2
  rw [agr, decide_eq_true (Or.inr q2)]; rfl
theorem mo1_d : ∀ mo, mo < 21 → ∀ k : Nat, k < 3 → nI mo + iI ((k : Int) - 1) = nI mo → nmz mo ((k : Int) - 1) = mo := by decide +kernel
theorem mo2_d : ∀ mo, mo < 21 → ∀ k : Nat, k < 3 → inI (nI mo + iI ((k : Int) - 1)) 0 20 = false → nmz mo ((k : Int) - 1) = mo := by decide +kernel
theorem mo3_d : ∀ mo, mo < 21 → ∀ k : Nat, k < 3 → ¬ (nI mo + iI ((k : Int) - 1) = nI mo) → inI (nI mo + iI ((k : Int) - 1)) 0 20 = true → nI mo + iI ((k : Int) - 1) = nI (nmz mo ((k : Int) - 1)) ∧ nmz mo ((k : Int) - 1) ≠ mo := by decide +kernel
theorem sg_k (z : Int) : ∃ k : Nat, k < 3 ∧ sg z = (k : Int) - 1 := by
  rcases sg_in z with h | h | h
  · exact ⟨0, by omega, by rw [h]; rfl⟩
  · exact ⟨1, by omega, by rw [h]; rfl⟩
  · exact ⟨2, by omega, by rw [h]; rfl⟩
theorem mo1 {mo : Nat} {z : Int} (hm : mo ≤ 20) (h : nI mo + iI (sg z) = nI mo) : nmz mo (sg z) = mo := by
  obtain ⟨k, hk, e⟩ := sg_k z
  rw [e] at h ⊢
  exact mo1_d mo (by omega) k hk h
theorem mo2 {mo : Nat} {z : Int} (hm : mo ≤ 20) (h : inI (nI mo + iI (sg z)) 0 20 = false) : nmz mo (sg z) = mo := by
  obtain ⟨k, hk, e⟩ := sg_k z
  rw [e] at h ⊢
  exact mo2_d mo (by omega) k hk h
theorem mo3 {mo : Nat} {z : Int} (hm : mo ≤ 20) (h : ¬ nI mo + iI (sg z) = nI mo) (h2 : inI (nI mo + iI (sg z)) 0 20 = true) : nI mo + iI (sg z) = nI (nmz mo (sg z)) ∧ nmz mo (sg z) ≠ mo := by
  obtain ⟨k, hk, e⟩ := sg_k z
  rw [e] at h h2 ⊢
  exact mo3_d mo (by omega) k hk h h2
theorem RN.ptm {M : Mm} {full : List Mb} {mo day am ch : Nat} {out : Int32} (R : RN M full mo day am out ch) {i : Nat} {b : Mb} (hb : full[i]? = some b) {s : Nat} (hs : s ≤ 20) : RN (mput M 35 (4 * i + 3) (nI s)) (full.set i (b.1, b.2.1, b.2.2.1, s)) mo day am out ch := by
  obtain ⟨h1, h2, h3, h4, h5, h6, h7, h8⟩ := R
  have hi := (List.getElem?_eq_some_iff.mp hb).1
  have k : ∀ j, 24 ≤ j → (mput M 35 (4 * i + 3) (nI s)).1 35 j = M.1 35 j := fun j hj => by rw [mpg, if_neg (fun z => by omega)]
  have k2 : ∀ j, (mput M 35 (4 * i + 3) (nI s)).1 33 j = M.1 33 j := fun j => by rw [mpg, if_neg (fun z => by omega)]
  exact ⟨by rw [List.length_set]; exact h1, by rw [mput35]; exact h2.set3 hb hs, by rw [k _ (by omega), List.length_set]; exact h3, by rw [k _ (by omega)]; exact h4, by rw [k _ (by omega)]; exact h5, by rw [k _ (by omega)]; exact h6, by rw [k2]; exact h7, by rw [k2]; exact h8⟩
theorem RN.change {M : Mm} {full : List Mb} {mo day am ch : Nat} {out : Int32} (R : RN M full mo day am out ch) {m2 a2 : Nat} (hm : m2 ≤ 20) (ha : a2 ≤ 999) (hc : ch < 100000) : RN (mput (mput (mput M 35 25 (nI m2)) 35 27 (nI a2)) 33 14 (nI (ch + 1))) full m2 day a2 out (ch + 1) := by
  obtain ⟨h1, h2, h3, h4, h5, h6, h7, h8⟩ := R
  have e : (mput (mput (mput M 35 25 (nI m2)) 35 27 (nI a2)) 33 14 (nI (ch + 1))).1 35 = upd (upd (M.1 35) 25 (nI m2)) 27 (nI a2) := by
    rw [mput_ne _ (by decide), mput35, mput35]
  refine ⟨h1, by rw [e]; exact (h2.far h1 (by omega) _).far h1 (by omega) _, ?_, ⟨?_, hm⟩, ⟨?_, h5.2⟩, ⟨?_, ha⟩, ?_, ⟨?_, by omega⟩⟩
  · rw [e]; simp [upd, h3]
  · rw [e]; simp [upd]
  · rw [e]; simp [upd, h5.1]
  · rw [e]; simp [upd]
  · simp [mpg, h7]
  · simp [mpg]
theorem RN.day {M : Mm} {full : List Mb} {mo day am ch : Nat} {out : Int32} (R : RN M full mo day am out ch) (hd : day < 100000) : RN (mput M 35 26 (nI (day + 1))) full mo (day + 1) am out ch := by
  obtain ⟨h1, h2, h3, h4, h5, h6, h7, h8⟩ := R
  refine ⟨h1, by rw [mput35]; exact h2.far h1 (by omega) _, ?_, ⟨?_, h4.2⟩, ⟨?_, by omega⟩, ⟨?_, h6.2⟩, ?_, ⟨?_, h8.2⟩⟩
  · simp [mpg, h3]
  · simp [mpg, h4.1]
  · simp [mpg]
  · simp [mpg, h6.1]
  · simp [mpg, h7]
  · simp [mpg, h8.1]
/-- the view: what the days see of now -/
def RV (M : Mm) (s : Ns) (out : Int32) (n : Nat) : Prop := ∃ full : List Mb, full.length = n ∧ RN M full s.2.1 s.2.2.1 s.2.2.2.1 out s.2.2.2.2 ∧ act out 0 full = s.1
def fld (k : Nat) (b : Mb) : Nat := if k = 0 then b.1 else if k = 1 then b.2.1 else if k = 2 then b.2.2.1 else b.2.2.2
def sumK (k : Nat) : List Mb → Nat
  | [] => 0
  | b :: bs => fld k b + sumK k bs
theorem fld_le {b : Mb} (h : okB b) (k : Nat) : fld k b ≤ 20 := by
  obtain ⟨h1, h2, h3, h4⟩ := h
  unfold fld; (repeat' split) <;> omega
theorem MbAt.fld {f : Nat → Int32} {ms : List Mb} (h : MbAt f ms) {i : Nat} {b : Mb} (hb : ms[i]? = some b) {k : Nat} (hk : k < 4) : f (4 * i + k) = nI (fld k b) := by
  obtain ⟨h1, h2, h3, h4, h5⟩ := h i b hb
  rcases (show k = 0 ∨ k = 1 ∨ k = 2 ∨ k = 3 by omega) with rfl | rfl | rfl | rfl
  · exact h1
  · exact h2
  · exact h3
  · exact h4
def orB (f : Mb → Bool) : Nat → Int32 → List Mb → Int32
  | _, acc, [] => acc
  | i, acc, b :: bs => orB f (i + 1) (acc ||| (bI (f b) <<< (nI i &&& 31))) bs
end
section
/-! the reference's days -/
theorem RN.a {M : Mm} {full : List Mb} {mo day am ch : Nat} {out : Int32} (R : RN M full mo day am out ch) {i : Nat} {b : Mb} (hb : full[i]? = some b) : i < 6 := by
  have := (List.getElem?_eq_some_iff.mp hb).1
  have := R.1
  omega
theorem zX5_isOfR (l : Launch) {M : Mm} {full : List Mb} {mo day am ch : Nat} {out : Int32} (R : RN M full mo day am out ch) {x y : Int32} {i : Nat} {b : Mb} (h : Nat) (hb : full[i]? = some b) (hx : x = nI i) (hy : y = nI h) (hh : h < 2) : CFz l 1 yX5_isOf cX5_isOf 3 (some .boolean) [.ref 33, .int x, .int y] M (some (.int (bI (isA out i h b)))) M := by
  have e : decide (x ≠ M.1 33 13 ∧ M.1 35 (4 * i + 1) = y) = isA out i h b := by
    rw [R.2.2.2.2.2.2.1, hx, hy]
    unfold isA
    rw [Bool.eq_iff_iff, decide_eq_true_iff, Bool.and_eq_true, R.2.1.house hb (by omega)]
    simp
  rw [← e]
  exact zX5_isOf l i hx (R.a hb)
theorem zX5_votesR (l : Launch) {M : Mm} {full : List Mb} {mo day am ch : Nat} {out : Int32} (R : RN M full mo day am out ch) {x : Int32} {i : Nat} {b : Mb} (hb : full[i]? = some b) (hx : x = nI i) : CFz l 2 yX5_votes cX5_votes 2 (some .boolean) [.ref 33, .int x] M (some (.int (bI (vt b mo)))) M := by
  rw [← R.2.1.votes hb R.2.2.2.1.2, ← R.2.2.2.1.1]
  exact zX5_votes l i hx (R.a hb)
theorem zX5_pullR (l : Launch) {M : Mm} {full : List Mb} {mo day am ch : Nat} {out : Int32} (R : RN M full mo day am out ch) {x : Int32} {i : Nat} {b : Mb} (hb : full[i]? = some b) (hx : x = nI i) : CFz l 2 yX5_pull cX5_pull 4 (some .int) [.ref 33, .int x] M (some (.int (iI (pl b mo)))) M := by
  rw [← R.2.1.pull hb R.2.2.2.1.2, ← R.2.2.2.1.1]
  exact zX5_pull l i hx (R.a hb)
set_option maxHeartbeats 4000000 in
theorem zX5_votesFor (l : Launch) {M : Mm} {full : List Mb} {mo day am ch : Nat} {out : Int32} (R : RN M full mo day am out ch) {x : Int32} (h : Nat) (hx : x = nI h) (hh : h < 2) : CFz l 3 yX5_votesFor cX5_votesFor 4 (some .int) [.ref 33, .int x] M (some (.int (nI (cY h mo (act out 0 full))))) (M) := by
  refine Clz.on RX5 rfl (by decide +kernel) (Nat.le_of_ble_eq_true rfl) (fun X hL hO hr => ?_)
  show Gz X 0 [.ref 33, .int x, .null, .null] [] M
  have loop : ∀ (rest : List Mb) (i m : Nat), full.drop i = rest → i ≤ full.length → m + cY h mo (act out i rest) = cY h mo (act out 0 full) → Gz X 4 [.ref 33, .int x, .int (nI m), .int (nI i)] [] M := by
    intro rest
    induction rest with
    | nil =>
      intro i m hd hi hm
      have hi := drop_nil hd hi
      refine r_iload_n hO dX5_votesFor_4 rfl ?_
      refine r_aload_n hO dX5_votesFor_5 rfl ?_
      refine r_getR 35 hO dX5_votesFor_6 fRX5_13 rfl ?_
      refine r_bipush hO dX5_votesFor_9 bc_24 ?_
      refine s_iald 41 hO dX5_votesFor_11 rfl (Nat.le_of_ble_eq_true rfl) 24 (by decide) (by decide) ?_
      refine r_icmp_ge 49 hO dX5_votesFor_12 (by decide) (fun _ => ?_) (fun z => absurd (by rw [R.2.2.1, hi]; exact nI_le (Nat.le_refl _) (by have := R.1; omega)) z)
      refine r_iload_n hO dX5_votesFor_49 rfl ?_
      exact r_ireturn hO hr dX5_votesFor_50 rfl ⟨sI (by rw [← hm]; simp [cY, act]), rfl⟩
    | cons b bs ih =>
      intro i m hd hi hm
      obtain ⟨hb, hd2, hlt⟩ := drop_cons hd
      refine r_iload_n hO dX5_votesFor_4 rfl ?_
      refine r_aload_n hO dX5_votesFor_5 rfl ?_
      refine r_getR 35 hO dX5_votesFor_6 fRX5_13 rfl ?_
      refine r_bipush hO dX5_votesFor_9 bc_24 ?_
      refine s_iald 41 hO dX5_votesFor_11 rfl (Nat.le_of_ble_eq_true rfl) 24 (by decide) (by decide) ?_
      refine r_icmp_ge 49 hO dX5_votesFor_12 (by decide) (fun z => absurd z (by rw [R.2.2.1]; exact nI_ge hlt (by have := R.1; omega))) (fun _ => ?_)
      refine r_iload_n hO dX5_votesFor_15 rfl ?_
      refine r_aload_n hO dX5_votesFor_16 rfl ?_
      refine r_iload_n hO dX5_votesFor_17 rfl ?_
      refine r_iload_n hO dX5_votesFor_18 rfl ?_
      refine r_fV hO dX5_votesFor_19 kRX5_145 miX5_isOf (zX5_isOfR _ R h hb rfl hx hh) ⟨Nat.le_of_ble_eq_true rfl, Nat.le_of_ble_eq_true rfl, rfl, Nat.le_of_ble_eq_true rfl⟩ rfl rfl ?_
      refine r_if_eq 37 hO dX5_votesFor_22 (by decide) (fun h22 => ?_) (fun h22 => ?_)
      · rw [bI_0] at h22
        refine r_iconst hO dX5_votesFor_37 ic_0 ?_
        refine r_fS hO dX5_votesFor_38 kRX5_153 msX5_flag (zX5_flag _ false rfl) ⟨Nat.le_of_ble_eq_true rfl, Nat.le_of_ble_eq_true rfl, rfl, Nat.le_of_ble_eq_true rfl⟩ rfl ?_
        refine r_iadd hO dX5_votesFor_41 ?_
        refine s_istore_n hL hO dX5_votesFor_42 (Nat.le_of_ble_eq_true rfl) rfl ?_
        refine s_iinc hL hO dX5_votesFor_43 rfl ic_1 (Nat.le_of_ble_eq_true rfl) rfl ?_
        refine r_goto 4 hO dX5_votesFor_46 (by decide) ?_
        show Gz X 4 [.ref 33, .int x, .int (nI m + bI false), .int (nI i + 1)] [] M
        rw [nI_bf, nI_1]
        exact ih (i + 1) _ hd2 (by omega) (by rw [← hm, cY_skip h22] <;> omega)
      · rw [bI_n0] at h22
        refine r_aload_n hO dX5_votesFor_25 rfl ?_
        refine r_iload_n hO dX5_votesFor_26 rfl ?_
        refine r_fV hO dX5_votesFor_27 kRX5_149 miX5_votes (zX5_votesR _ R hb rfl) ⟨Nat.le_of_ble_eq_true rfl, Nat.le_of_ble_eq_true rfl, rfl, Nat.le_of_ble_eq_true rfl⟩ rfl rfl ?_
        refine r_if_eq 37 hO dX5_votesFor_30 (by decide) (fun h30 => ?_) (fun h30 => ?_)
        · rw [bI_0] at h30
          refine r_iconst hO dX5_votesFor_37 ic_0 ?_
          refine r_fS hO dX5_votesFor_38 kRX5_153 msX5_flag (zX5_flag _ false rfl) ⟨Nat.le_of_ble_eq_true rfl, Nat.le_of_ble_eq_true rfl, rfl, Nat.le_of_ble_eq_true rfl⟩ rfl ?_
          refine r_iadd hO dX5_votesFor_41 ?_
          refine s_istore_n hL hO dX5_votesFor_42 (Nat.le_of_ble_eq_true rfl) rfl ?_
          refine s_iinc hL hO dX5_votesFor_43 rfl ic_1 (Nat.le_of_ble_eq_true rfl) rfl ?_
          refine r_goto 4 hO dX5_votesFor_46 (by decide) ?_
          show Gz X 4 [.ref 33, .int x, .int (nI m + bI false), .int (nI i + 1)] [] M
          rw [nI_bf, nI_1]
          exact ih (i + 1) _ hd2 (by omega) (by rw [← hm, cY_no h30] <;> omega)
        · rw [bI_n0] at h30
          refine r_iconst hO dX5_votesFor_33 ic_1 ?_
          refine r_goto 38 hO dX5_votesFor_34 (by decide) ?_
          refine r_fS hO dX5_votesFor_38 kRX5_153 msX5_flag (zX5_flag _ true rfl) ⟨Nat.le_of_ble_eq_true rfl, Nat.le_of_ble_eq_true rfl, rfl, Nat.le_of_ble_eq_true rfl⟩ rfl ?_
          refine r_iadd hO dX5_votesFor_41 ?_
          refine s_istore_n hL hO dX5_votesFor_42 (Nat.le_of_ble_eq_true rfl) rfl ?_
          refine s_iinc hL hO dX5_votesFor_43 rfl ic_1 (Nat.le_of_ble_eq_true rfl) rfl ?_
          refine r_goto 4 hO dX5_votesFor_46 (by decide) ?_
          show Gz X 4 [.ref 33, .int x, .int (nI m + bI true), .int (nI i + 1)] [] M
          rw [nI_bt, nI_1]
          exact ih (i + 1) _ hd2 (by omega) (by rw [← hm, cY_yes h22 h30] <;> omega)
  refine r_iconst hO dX5_votesFor_0 ic_0 ?_
  refine s_istore_n hL hO dX5_votesFor_1 (Nat.le_of_ble_eq_true rfl) rfl ?_
  refine r_iconst hO dX5_votesFor_2 ic_0 ?_
  refine s_istore_n hL hO dX5_votesFor_3 (Nat.le_of_ble_eq_true rfl) rfl ?_
  exact loop full 0 0 rfl (Nat.zero_le _) (by simp)
set_option maxHeartbeats 4000000 in
theorem zX5_votesAgainst (l : Launch) {M : Mm} {full : List Mb} {mo day am ch : Nat} {out : Int32} (R : RN M full mo day am out ch) {x : Int32} (h : Nat) (hx : x = nI h) (hh : h < 2) : CFz l 3 yX5_votesAgainst cX5_votesAgainst 4 (some .int) [.ref 33, .int x] M (some (.int (nI (cN h mo (act out 0 full))))) (M) := by
  refine Clz.on RX5 rfl (by decide +kernel) (Nat.le_of_ble_eq_true rfl) (fun X hL hO hr => ?_)
  show Gz X 0 [.ref 33, .int x, .null, .null] [] M
  have loop : ∀ (rest : List Mb) (i m : Nat), full.drop i = rest → i ≤ full.length → m + cN h mo (act out i rest) = cN h mo (act out 0 full) → Gz X 4 [.ref 33, .int x, .int (nI m), .int (nI i)] [] M := by
    intro rest
    induction rest with
    | nil =>
      intro i m hd hi hm
      have hi := drop_nil hd hi
      refine r_iload_n hO dX5_votesAgainst_4 rfl ?_
      refine r_aload_n hO dX5_votesAgainst_5 rfl ?_
      refine r_getR 35 hO dX5_votesAgainst_6 fRX5_13 rfl ?_
      refine r_bipush hO dX5_votesAgainst_9 bc_24 ?_
      refine s_iald 41 hO dX5_votesAgainst_11 rfl (Nat.le_of_ble_eq_true rfl) 24 (by decide) (by decide) ?_
      refine r_icmp_ge 49 hO dX5_votesAgainst_12 (by decide) (fun _ => ?_) (fun z => absurd (by rw [R.2.2.1, hi]; exact nI_le (Nat.le_refl _) (by have := R.1; omega)) z)
      refine r_iload_n hO dX5_votesAgainst_49 rfl ?_
      exact r_ireturn hO hr dX5_votesAgainst_50 rfl ⟨sI (by rw [← hm]; simp [cN, act]), rfl⟩
    | cons b bs ih =>
      intro i m hd hi hm
      obtain ⟨hb, hd2, hlt⟩ := drop_cons hd
      refine r_iload_n hO dX5_votesAgainst_4 rfl ?_
      refine r_aload_n hO dX5_votesAgainst_5 rfl ?_
      refine r_getR 35 hO dX5_votesAgainst_6 fRX5_13 rfl ?_
      refine r_bipush hO dX5_votesAgainst_9 bc_24 ?_
      refine s_iald 41 hO dX5_votesAgainst_11 rfl (Nat.le_of_ble_eq_true rfl) 24 (by decide) (by decide) ?_
      refine r_icmp_ge 49 hO dX5_votesAgainst_12 (by decide) (fun z => absurd z (by rw [R.2.2.1]; exact nI_ge hlt (by have := R.1; omega))) (fun _ => ?_)
      refine r_iload_n hO dX5_votesAgainst_15 rfl ?_
      refine r_aload_n hO dX5_votesAgainst_16 rfl ?_
      refine r_iload_n hO dX5_votesAgainst_17 rfl ?_
      refine r_iload_n hO dX5_votesAgainst_18 rfl ?_
      refine r_fV hO dX5_votesAgainst_19 kRX5_145 miX5_isOf (zX5_isOfR _ R h hb rfl hx hh) ⟨Nat.le_of_ble_eq_true rfl, Nat.le_of_ble_eq_true rfl, rfl, Nat.le_of_ble_eq_true rfl⟩ rfl rfl ?_
      refine r_if_eq 37 hO dX5_votesAgainst_22 (by decide) (fun h22 => ?_) (fun h22 => ?_)
      · rw [bI_0] at h22
        refine r_iconst hO dX5_votesAgainst_37 ic_0 ?_
        refine r_fS hO dX5_votesAgainst_38 kRX5_153 msX5_flag (zX5_flag _ false rfl) ⟨Nat.le_of_ble_eq_true rfl, Nat.le_of_ble_eq_true rfl, rfl, Nat.le_of_ble_eq_true rfl⟩ rfl ?_
        refine r_iadd hO dX5_votesAgainst_41 ?_
        refine s_istore_n hL hO dX5_votesAgainst_42 (Nat.le_of_ble_eq_true rfl) rfl ?_
        refine s_iinc hL hO dX5_votesAgainst_43 rfl ic_1 (Nat.le_of_ble_eq_true rfl) rfl ?_
        refine r_goto 4 hO dX5_votesAgainst_46 (by decide) ?_
        show Gz X 4 [.ref 33, .int x, .int (nI m + bI false), .int (nI i + 1)] [] M
        rw [nI_bf, nI_1]
        exact ih (i + 1) _ hd2 (by omega) (by rw [← hm, cN_skip h22] <;> omega)
      · rw [bI_n0] at h22
        refine r_aload_n hO dX5_votesAgainst_25 rfl ?_
        refine r_iload_n hO dX5_votesAgainst_26 rfl ?_
        refine r_fV hO dX5_votesAgainst_27 kRX5_149 miX5_votes (zX5_votesR _ R hb rfl) ⟨Nat.le_of_ble_eq_true rfl, Nat.le_of_ble_eq_true rfl, rfl, Nat.le_of_ble_eq_true rfl⟩ rfl rfl ?_
        refine r_if_ne 37 hO dX5_votesAgainst_30 (by decide) (fun h30 => ?_) (fun h30 => ?_)
        · rw [bI_n0] at h30
          refine r_iconst hO dX5_votesAgainst_37 ic_0 ?_
          refine r_fS hO dX5_votesAgainst_38 kRX5_153 msX5_flag (zX5_flag _ false rfl) ⟨Nat.le_of_ble_eq_true rfl, Nat.le_of_ble_eq_true rfl, rfl, Nat.le_of_ble_eq_true rfl⟩ rfl ?_
          refine r_iadd hO dX5_votesAgainst_41 ?_
          refine s_istore_n hL hO dX5_votesAgainst_42 (Nat.le_of_ble_eq_true rfl) rfl ?_
          refine s_iinc hL hO dX5_votesAgainst_43 rfl ic_1 (Nat.le_of_ble_eq_true rfl) rfl ?_
          refine r_goto 4 hO dX5_votesAgainst_46 (by decide) ?_
          show Gz X 4 [.ref 33, .int x, .int (nI m + bI false), .int (nI i + 1)] [] M
          rw [nI_bf, nI_1]
          exact ih (i + 1) _ hd2 (by omega) (by rw [← hm, cN_no h30] <;> omega)
        · rw [bI_0] at h30
          refine r_iconst hO dX5_votesAgainst_33 ic_1 ?_
          refine r_goto 38 hO dX5_votesAgainst_34 (by decide) ?_
          refine r_fS hO dX5_votesAgainst_38 kRX5_153 msX5_flag (zX5_flag _ true rfl) ⟨Nat.le_of_ble_eq_true rfl, Nat.le_of_ble_eq_true rfl, rfl, Nat.le_of_ble_eq_true rfl⟩ rfl ?_
          refine r_iadd hO dX5_votesAgainst_41 ?_
          refine s_istore_n hL hO dX5_votesAgainst_42 (Nat.le_of_ble_eq_true rfl) rfl ?_
          refine s_iinc hL hO dX5_votesAgainst_43 rfl ic_1 (Nat.le_of_ble_eq_true rfl) rfl ?_
          refine r_goto 4 hO dX5_votesAgainst_46 (by decide) ?_
          show Gz X 4 [.ref 33, .int x, .int (nI m + bI true), .int (nI i + 1)] [] M
          rw [nI_bt, nI_1]
          exact ih (i + 1) _ hd2 (by omega) (by rw [← hm, cN_yes h22 h30] <;> omega)
  refine r_iconst hO dX5_votesAgainst_0 ic_0 ?_
  refine s_istore_n hL hO dX5_votesAgainst_1 (Nat.le_of_ble_eq_true rfl) rfl ?_
  refine r_iconst hO dX5_votesAgainst_2 ic_0 ?_
  refine s_istore_n hL hO dX5_votesAgainst_3 (Nat.le_of_ble_eq_true rfl) rfl ?_
  exact loop full 0 0 rfl (Nat.zero_le _) (by simp)
set_option maxHeartbeats 4000000 in
theorem zX5_pullOfAll (l : Launch) {M : Mm} {full : List Mb} {mo day am ch : Nat} {out : Int32} (R : RN M full mo day am out ch) {x : Int32} (h : Nat) (hx : x = nI h) (hh : h < 2) : CFz l 3 yX5_pullOfAll cX5_pullOfAll 4 (some .int) [.ref 33, .int x] M (some (.int (iI (sP h mo (act out 0 full))))) (M) := by
  refine Clz.on RX5 rfl (by decide +kernel) (Nat.le_of_ble_eq_true rfl) (fun X hL hO hr => ?_)
  show Gz X 0 [.ref 33, .int x, .null, .null] [] M
  have loop : ∀ (rest : List Mb) (i : Nat) (m : Int), full.drop i = rest → i ≤ full.length → m + sP h mo (act out i rest) = sP h mo (act out 0 full) → Gz X 4 [.ref 33, .int x, .int (iI m), .int (nI i)] [] M := by
    intro rest
    induction rest with
    | nil =>
      intro i m hd hi hm
      have hi := drop_nil hd hi
      refine r_iload_n hO dX5_pullOfAll_4 rfl ?_
      refine r_aload_n hO dX5_pullOfAll_5 rfl ?_
      refine r_getR 35 hO dX5_pullOfAll_6 fRX5_13 rfl ?_
      refine r_bipush hO dX5_pullOfAll_9 bc_24 ?_
      refine s_iald 41 hO dX5_pullOfAll_11 rfl (Nat.le_of_ble_eq_true rfl) 24 (by decide) (by decide) ?_
      refine r_icmp_ge 42 hO dX5_pullOfAll_12 (by decide) (fun _ => ?_) (fun z => absurd (by rw [R.2.2.1, hi]; exact nI_le (Nat.le_refl _) (by have := R.1; omega)) z)
      refine r_iload_n hO dX5_pullOfAll_42 rfl ?_
      exact r_ireturn hO hr dX5_pullOfAll_43 rfl ⟨sI (by rw [← hm]; simp [sP, act]), rfl⟩
    | cons b bs ih =>
      intro i m hd hi hm
      obtain ⟨hb, hd2, hlt⟩ := drop_cons hd
      refine r_iload_n hO dX5_pullOfAll_4 rfl ?_
      refine r_aload_n hO dX5_pullOfAll_5 rfl ?_
      refine r_getR 35 hO dX5_pullOfAll_6 fRX5_13 rfl ?_
      refine r_bipush hO dX5_pullOfAll_9 bc_24 ?_
      refine s_iald 41 hO dX5_pullOfAll_11 rfl (Nat.le_of_ble_eq_true rfl) 24 (by decide) (by decide) ?_
      refine r_icmp_ge 42 hO dX5_pullOfAll_12 (by decide) (fun z => absurd z (by rw [R.2.2.1]; exact nI_ge hlt (by have := R.1; omega))) (fun _ => ?_)
      refine r_iload_n hO dX5_pullOfAll_15 rfl ?_
      refine r_aload_n hO dX5_pullOfAll_16 rfl ?_
      refine r_iload_n hO dX5_pullOfAll_17 rfl ?_
      refine r_iload_n hO dX5_pullOfAll_18 rfl ?_
      refine r_fV hO dX5_pullOfAll_19 kRX5_145 miX5_isOf (zX5_isOfR _ R h hb rfl hx hh) ⟨Nat.le_of_ble_eq_true rfl, Nat.le_of_ble_eq_true rfl, rfl, Nat.le_of_ble_eq_true rfl⟩ rfl rfl ?_
      refine r_if_eq 33 hO dX5_pullOfAll_22 (by decide) (fun h22 => ?_) (fun h22 => ?_)
      · rw [bI_0] at h22
        refine r_iconst hO dX5_pullOfAll_33 ic_0 ?_
        refine r_iadd hO dX5_pullOfAll_34 ?_
        refine s_istore_n hL hO dX5_pullOfAll_35 (Nat.le_of_ble_eq_true rfl) rfl ?_
        refine s_iinc hL hO dX5_pullOfAll_36 rfl ic_1 (Nat.le_of_ble_eq_true rfl) rfl ?_
        refine r_goto 4 hO dX5_pullOfAll_39 (by decide) ?_
        show Gz X 4 [.ref 33, .int x, .int (iI m + 0), .int (nI i + 1)] [] M
        rw [show iI m + 0 = iI m from by rw [show (0 : Int32) = iI 0 from rfl, iI_add, Int.add_zero], nI_1]
        exact ih (i + 1) _ hd2 (by omega) (by rw [← hm, sP_skip h22])
      · rw [bI_n0] at h22
        refine r_aload_n hO dX5_pullOfAll_25 rfl ?_
        refine r_iload_n hO dX5_pullOfAll_26 rfl ?_
        refine r_fV hO dX5_pullOfAll_27 kRX5_157 miX5_pull (zX5_pullR _ R hb rfl) ⟨Nat.le_of_ble_eq_true rfl, Nat.le_of_ble_eq_true rfl, rfl, Nat.le_of_ble_eq_true rfl⟩ rfl rfl ?_
        refine r_goto 34 hO dX5_pullOfAll_30 (by decide) ?_
        refine r_iadd hO dX5_pullOfAll_34 ?_
        refine s_istore_n hL hO dX5_pullOfAll_35 (Nat.le_of_ble_eq_true rfl) rfl ?_
        refine s_iinc hL hO dX5_pullOfAll_36 rfl ic_1 (Nat.le_of_ble_eq_true rfl) rfl ?_
        refine r_goto 4 hO dX5_pullOfAll_39 (by decide) ?_
        show Gz X 4 [.ref 33, .int x, .int (iI m + iI (pl b mo)), .int (nI i + 1)] [] M
        rw [iI_add, nI_1]
        exact ih (i + 1) _ hd2 (by omega) (by rw [← hm, sP_yes h22, Int.add_assoc])
  refine r_iconst hO dX5_pullOfAll_0 ic_0 ?_
  refine s_istore_n hL hO dX5_pullOfAll_1 (Nat.le_of_ble_eq_true rfl) rfl ?_
  refine r_iconst hO dX5_pullOfAll_2 ic_0 ?_
  refine s_istore_n hL hO dX5_pullOfAll_3 (Nat.le_of_ble_eq_true rfl) rfl ?_
  exact loop full 0 0 rfl (Nat.zero_le _) (by simp)
set_option maxHeartbeats 4000000 in
theorem zX5_agrees (l : Launch) {M : Mm} {full : List Mb} {mo day am ch : Nat} {out : Int32} (R : RN M full mo day am out ch) {x : Int32} (h : Nat) (hx : x = nI h) (hh : h < 2) : CFz l 4 yX5_agrees cX5_agrees 4 (some .boolean) [.ref 33, .int x] M (some (.int (bI (agr h mo (act out 0 full))))) (M) := by
  refine Clz.on RX5 rfl (by decide +kernel) (Nat.le_of_ble_eq_true rfl) (fun X hL hO hr => ?_)
  show Gz X 0 [.ref 33, .int x, .null, .null] [] M
  have hle : (act out 0 full).length ≤ 6 := Nat.le_trans (act_len out full 0) R.1
  refine r_aload_n hO dX5_agrees_0 rfl ?_
  refine r_iload_n hO dX5_agrees_1 rfl ?_
  refine r_fV hO dX5_agrees_2 kRX5_160 miX5_votesFor (zX5_votesFor _ R h hx hh) ⟨Nat.le_of_ble_eq_true rfl, Nat.le_of_ble_eq_true rfl, rfl, Nat.le_of_ble_eq_true rfl⟩ rfl rfl ?_
  refine s_istore_n hL hO dX5_agrees_5 (Nat.le_of_ble_eq_true rfl) rfl ?_
  refine r_aload_n hO dX5_agrees_6 rfl ?_
  refine r_iload_n hO dX5_agrees_7 rfl ?_
  refine r_fV hO dX5_agrees_8 kRX5_163 miX5_votesAgainst (zX5_votesAgainst _ R h hx hh) ⟨Nat.le_of_ble_eq_true rfl, Nat.le_of_ble_eq_true rfl, rfl, Nat.le_of_ble_eq_true rfl⟩ rfl rfl ?_
  refine s_istore_n hL hO dX5_agrees_11 (Nat.le_of_ble_eq_true rfl) rfl ?_
  refine r_iload_n hO dX5_agrees_12 rfl ?_
  refine r_iload_n hO dX5_agrees_13 rfl ?_
  refine r_icmp_gt 23 hO dX5_agrees_14 (by decide) (fun h14 => ?_) (fun h14 => ?_)
  · refine r_iconst hO dX5_agrees_23 ic_1 ?_
    refine r_goto 28 hO dX5_agrees_24 (by decide) ?_
    exact r_ireturn hO hr dX5_agrees_28 rfl ⟨sI (agr_1 hle h14), rfl⟩
  · refine r_iload_n hO dX5_agrees_17 rfl ?_
    refine r_iload_n hO dX5_agrees_18 rfl ?_
    refine r_iadd hO dX5_agrees_19 ?_
    refine r_if_ne 27 hO dX5_agrees_20 (by decide) (fun h20 => ?_) (fun h20 => ?_)
    · refine r_iconst hO dX5_agrees_27 ic_0 ?_
      exact r_ireturn hO hr dX5_agrees_28 rfl ⟨sI (agr_2 hle h14 h20), rfl⟩
    · refine r_iconst hO dX5_agrees_23 ic_1 ?_
      refine r_goto 28 hO dX5_agrees_24 (by decide) ?_
      exact r_ireturn hO hr dX5_agrees_28 rfl ⟨sI (agr_3 hle h20), rfl⟩
set_option maxHeartbeats 4000000 in
theorem zX5_isCarried (l : Launch) {M : Mm} {full : List Mb} {mo day am ch : Nat} {out : Int32} (R : RN M full mo day am out ch) : CFz l 5 yX5_isCarried cX5_isCarried 1 (some .boolean) [.ref 33] M (some (.int (bI (car mo (act out 0 full))))) (M) := by
  refine Clz.on RX5 rfl (by decide +kernel) (Nat.le_of_ble_eq_true rfl) (fun X hL hO hr => ?_)
  show Gz X 0 [.ref 33] [] M
  refine r_aload_n hO dX5_isCarried_0 rfl ?_
  refine r_iconst hO dX5_isCarried_1 ic_0 ?_
  refine r_fV hO dX5_isCarried_2 kRX5_166 miX5_agrees (zX5_agrees _ R 0 rfl (by decide)) ⟨Nat.le_of_ble_eq_true rfl, Nat.le_of_ble_eq_true rfl, rfl, Nat.le_of_ble_eq_true rfl⟩ rfl rfl ?_
  refine r_if_eq 20 hO dX5_isCarried_5 (by decide) (fun h5 => ?_) (fun h5 => ?_)
  · rw [bI_0] at h5
    refine r_iconst hO dX5_isCarried_20 ic_0 ?_
    exact r_ireturn hO hr dX5_isCarried_21 rfl ⟨sI (by simp [car, bI, h5]), rfl⟩
  · rw [bI_n0] at h5
    refine r_aload_n hO dX5_isCarried_8 rfl ?_
    refine r_iconst hO dX5_isCarried_9 ic_1 ?_
    refine r_fV hO dX5_isCarried_10 kRX5_166 miX5_agrees (zX5_agrees _ R 1 rfl (by decide)) ⟨Nat.le_of_ble_eq_true rfl, Nat.le_of_ble_eq_true rfl, rfl, Nat.le_of_ble_eq_true rfl⟩ rfl rfl ?_
    refine r_if_eq 20 hO dX5_isCarried_13 (by decide) (fun h13 => ?_) (fun h13 => ?_)
    · rw [bI_0] at h13
      refine r_iconst hO dX5_isCarried_20 ic_0 ?_
      exact r_ireturn hO hr dX5_isCarried_21 rfl ⟨sI (by simp [car, bI, h5, h13]), rfl⟩
    · rw [bI_n0] at h13
      refine r_iconst hO dX5_isCarried_16 ic_1 ?_
      refine r_goto 21 hO dX5_isCarried_17 (by decide) ?_
      exact r_ireturn hO hr dX5_isCarried_21 rfl ⟨sI (by simp [car, bI, h5, h13]), rfl⟩
set_option maxHeartbeats 4000000 in
theorem zX5_agreeing (l : Launch) {M : Mm} {full : List Mb} {mo day am ch : Nat} {out : Int32} (R : RN M full mo day am out ch) : CFz l 5 yX5_agreeing cX5_agreeing 1 (some .int) [.ref 33] M (some (.int (bI (agr 0 mo (act out 0 full)) + 2 * bI (agr 1 mo (act out 0 full))))) (M) := by
  refine Clz.on RX5 rfl (by decide +kernel) (Nat.le_of_ble_eq_true rfl) (fun X hL hO hr => ?_)
  show Gz X 0 [.ref 33] [] M
  refine r_aload_n hO dX5_agreeing_0 rfl ?_
  refine r_iconst hO dX5_agreeing_1 ic_0 ?_
  refine r_fV hO dX5_agreeing_2 kRX5_166 miX5_agrees (zX5_agrees _ R 0 rfl (by decide)) ⟨Nat.le_of_ble_eq_true rfl, Nat.le_of_ble_eq_true rfl, rfl, Nat.le_of_ble_eq_true rfl⟩ rfl rfl ?_
  refine r_fS hO dX5_agreeing_5 kRX5_153 msX5_flag (zX5_flag _ (agr 0 mo (act out 0 full)) rfl) ⟨Nat.le_of_ble_eq_true rfl, Nat.le_of_ble_eq_true rfl, rfl, Nat.le_of_ble_eq_true rfl⟩ rfl ?_
  refine r_iconst hO dX5_agreeing_8 ic_2 ?_
  refine r_aload_n hO dX5_agreeing_9 rfl ?_
  refine r_iconst hO dX5_agreeing_10 ic_1 ?_
  refine r_fV hO dX5_agreeing_11 kRX5_166 miX5_agrees (zX5_agrees _ R 1 rfl (by decide)) ⟨Nat.le_of_ble_eq_true rfl, Nat.le_of_ble_eq_true rfl, rfl, Nat.le_of_ble_eq_true rfl⟩ rfl rfl ?_
  refine r_fS hO dX5_agreeing_14 kRX5_153 msX5_flag (zX5_flag _ (agr 1 mo (act out 0 full)) rfl) ⟨Nat.le_of_ble_eq_true rfl, Nat.le_of_ble_eq_true rfl, rfl, Nat.le_of_ble_eq_true rfl⟩ rfl ?_
  refine r_imul hO dX5_agreeing_17 ?_
  refine r_iadd hO dX5_agreeing_18 ?_
  exact r_ireturn hO hr dX5_agreeing_19 rfl ⟨rfl, rfl⟩
set_option maxHeartbeats 4000000 in
theorem zX5_sumOf (l : Launch) {M : Mm} {full : List Mb} {mo day am ch : Nat} {out : Int32} (R : RN M full mo day am out ch) {x : Int32} (k : Nat) (hx : x = nI k) (hk : k < 4) : CFz l 1 yX5_sumOf cX5_sumOf 4 (some .int) [.ref 33, .int x] M (some (.int (nI (sumK k full)))) (M) := by
  refine Clz.on RX5 rfl (by decide +kernel) (Nat.le_of_ble_eq_true rfl) (fun X hL hO hr => ?_)
  show Gz X 0 [.ref 33, .int x, .null, .null] [] M
  have loop : ∀ (rest : List Mb) (i m : Nat), full.drop i = rest → i ≤ full.length → m + sumK k rest = sumK k full → Gz X 4 [.ref 33, .int x, .int (nI m), .int (nI i)] [] M := by
    intro rest
    induction rest with
    | nil =>
      intro i m hd hi hm
      have hi := drop_nil hd hi
      refine r_iload_n hO dX5_sumOf_4 rfl ?_
      refine r_aload_n hO dX5_sumOf_5 rfl ?_
      refine r_getR 35 hO dX5_sumOf_6 fRX5_13 rfl ?_
      refine r_bipush hO dX5_sumOf_9 bc_24 ?_
      refine s_iald 41 hO dX5_sumOf_11 rfl (Nat.le_of_ble_eq_true rfl) 24 (by decide) (by decide) ?_
      refine r_icmp_ge 30 hO dX5_sumOf_12 (by decide) (fun _ => ?_) (fun z => absurd (by rw [R.2.2.1, hi]; exact nI_le (Nat.le_refl _) (by have := R.1; omega)) z)
      refine r_iload_n hO dX5_sumOf_30 rfl ?_
      exact r_ireturn hO hr dX5_sumOf_31 rfl ⟨sI (by rw [← hm]; simp [sumK]), rfl⟩
    | cons b bs ih =>
      intro i m hd hi hm
      obtain ⟨hb, hd2, hlt⟩ := drop_cons hd
      refine r_iload_n hO dX5_sumOf_4 rfl ?_
      refine r_aload_n hO dX5_sumOf_5 rfl ?_
      refine r_getR 35 hO dX5_sumOf_6 fRX5_13 rfl ?_
      refine r_bipush hO dX5_sumOf_9 bc_24 ?_
      refine s_iald 41 hO dX5_sumOf_11 rfl (Nat.le_of_ble_eq_true rfl) 24 (by decide) (by decide) ?_
      refine r_icmp_ge 30 hO dX5_sumOf_12 (by decide) (fun z => absurd z (by rw [R.2.2.1]; exact nI_ge hlt (by have := R.1; omega))) (fun _ => ?_)
      refine r_iload_n hO dX5_sumOf_15 rfl ?_
      refine r_aload_n hO dX5_sumOf_16 rfl ?_
      refine r_iload_n hO dX5_sumOf_17 rfl ?_
      refine r_iload_n hO dX5_sumOf_18 rfl ?_
      refine r_fV hO dX5_sumOf_19 kRX5_131 miX5_of (zX5_of _ i k rfl hx (by have := R.a hb; omega)) ⟨Nat.le_of_ble_eq_true rfl, Nat.le_of_ble_eq_true rfl, rfl, Nat.le_of_ble_eq_true rfl⟩ rfl rfl ?_
      refine r_iadd hO dX5_sumOf_22 ?_
      refine s_istore_n hL hO dX5_sumOf_23 (Nat.le_of_ble_eq_true rfl) rfl ?_
      refine s_iinc hL hO dX5_sumOf_24 rfl ic_1 (Nat.le_of_ble_eq_true rfl) rfl ?_
      refine r_goto 4 hO dX5_sumOf_27 (by decide) ?_
      show Gz X 4 [.ref 33, .int x, .int (nI m + M.1 35 (4 * i + k)), .int (nI i + 1)] [] M
      rw [R.2.1.fld hb hk, nI_add, nI_1]
      exact ih (i + 1) _ hd2 (by omega) (by rw [← hm]; simp [sumK]; omega)
  refine r_iconst hO dX5_sumOf_0 ic_0 ?_
  refine s_istore_n hL hO dX5_sumOf_1 (Nat.le_of_ble_eq_true rfl) rfl ?_
  refine r_iconst hO dX5_sumOf_2 ic_0 ?_
  refine s_istore_n hL hO dX5_sumOf_3 (Nat.le_of_ble_eq_true rfl) rfl ?_
  exact loop full 0 0 rfl (Nat.zero_le _) (by simp)
set_option maxHeartbeats 4000000 in
theorem zX5_votingNow (l : Launch) {M : Mm} {full : List Mb} {mo day am ch : Nat} {out : Int32} (R : RN M full mo day am out ch) : CFz l 3 yX5_votingNow cX5_votingNow 3 (some .int) [.ref 33] M (some (.int (orB (fun b => vt b mo) 0 0 full))) (M) := by
  refine Clz.on RX5 rfl (by decide +kernel) (Nat.le_of_ble_eq_true rfl) (fun X hL hO hr => ?_)
  show Gz X 0 [.ref 33, .null, .null] [] M
  have loop : ∀ (rest : List Mb) (i : Nat) (m : Int32), full.drop i = rest → i ≤ full.length → orB (fun b => vt b mo) i m rest = orB (fun b => vt b mo) 0 0 full → Gz X 4 [.ref 33, .int m, .int (nI i)] [] M := by
    intro rest
    induction rest with
    | nil =>
      intro i m hd hi hm
      have hi := drop_nil hd hi
      refine r_iload_n hO dX5_votingNow_4 rfl ?_
      refine r_aload_n hO dX5_votingNow_5 rfl ?_
      refine r_getR 35 hO dX5_votingNow_6 fRX5_13 rfl ?_
      refine r_bipush hO dX5_votingNow_9 bc_24 ?_
      refine s_iald 41 hO dX5_votingNow_11 rfl (Nat.le_of_ble_eq_true rfl) 24 (by decide) (by decide) ?_
      refine r_icmp_ge 34 hO dX5_votingNow_12 (by decide) (fun _ => ?_) (fun z => absurd (by rw [R.2.2.1, hi]; exact nI_le (Nat.le_refl _) (by have := R.1; omega)) z)
      refine r_iload_n hO dX5_votingNow_34 rfl ?_
      exact r_ireturn hO hr dX5_votingNow_35 rfl ⟨sI hm, rfl⟩
    | cons b bs ih =>
      intro i m hd hi hm
      obtain ⟨hb, hd2, hlt⟩ := drop_cons hd
      refine r_iload_n hO dX5_votingNow_4 rfl ?_
      refine r_aload_n hO dX5_votingNow_5 rfl ?_
      refine r_getR 35 hO dX5_votingNow_6 fRX5_13 rfl ?_
      refine r_bipush hO dX5_votingNow_9 bc_24 ?_
      refine s_iald 41 hO dX5_votingNow_11 rfl (Nat.le_of_ble_eq_true rfl) 24 (by decide) (by decide) ?_
      refine r_icmp_ge 34 hO dX5_votingNow_12 (by decide) (fun z => absurd z (by rw [R.2.2.1]; exact nI_ge hlt (by have := R.1; omega))) (fun _ => ?_)
      refine r_iload_n hO dX5_votingNow_15 rfl ?_
      refine r_aload_n hO dX5_votingNow_16 rfl ?_
      refine r_iload_n hO dX5_votingNow_17 rfl ?_
      refine r_fV hO dX5_votingNow_18 kRX5_149 miX5_votes (zX5_votesR _ R hb rfl) ⟨Nat.le_of_ble_eq_true rfl, Nat.le_of_ble_eq_true rfl, rfl, Nat.le_of_ble_eq_true rfl⟩ rfl rfl ?_
      refine r_fS hO dX5_votingNow_21 kRX5_153 msX5_flag (zX5_flag _ (vt b mo) rfl) ⟨Nat.le_of_ble_eq_true rfl, Nat.le_of_ble_eq_true rfl, rfl, Nat.le_of_ble_eq_true rfl⟩ rfl ?_
      refine r_iload_n hO dX5_votingNow_24 rfl ?_
      refine r_ishl hO dX5_votingNow_25 ?_
      refine r_ior hO dX5_votingNow_26 ?_
      refine s_istore_n hL hO dX5_votingNow_27 (Nat.le_of_ble_eq_true rfl) rfl ?_
      refine s_iinc hL hO dX5_votingNow_28 rfl ic_1 (Nat.le_of_ble_eq_true rfl) rfl ?_
      refine r_goto 4 hO dX5_votingNow_31 (by decide) ?_
      show Gz X 4 [.ref 33, .int (m ||| bI (vt b mo) <<< (nI i &&& 31)), .int (nI i + 1)] [] M
      rw [nI_1]
      exact ih (i + 1) _ hd2 (by omega) hm
  refine r_iconst hO dX5_votingNow_0 ic_0 ?_
  refine s_istore_n hL hO dX5_votingNow_1 (Nat.le_of_ble_eq_true rfl) rfl ?_
  refine r_iconst hO dX5_votingNow_2 ic_0 ?_
  refine s_istore_n hL hO dX5_votingNow_3 (Nat.le_of_ble_eq_true rfl) rfl ?_
  exact loop full 0 0 rfl (Nat.zero_le _) rfl
set_option maxHeartbeats 4000000 in
theorem zX5_sits (l : Launch) {M : Mm} {full : List Mb} {mo day am ch : Nat} {out : Int32} (R : RN M full mo day am out ch) {x : Int32} (h : Nat) (hx : x = nI h) (hh : h < 2) (hc : ch < 100000) : Clz l 4 yX5_sits cX5_sits 4 none [.ref 33, .int x] M (fun r M' => r = none ∧ F35 M M' ∧ RN M' (sitA out h mo 0 full) (nmo h mo (act out 0 full)) day (if nmo h mo (act out 0 full) = mo then am else min 999 (am + 1)) out (if nmo h mo (act out 0 full) = mo then ch else ch + 1)) := by
  refine Clz.on RX5 rfl (by decide +kernel) (Nat.le_of_ble_eq_true rfl) (fun X hL hO hr => ?_)
  show Gz X 0 [.ref 33, .int x, .null, .null] [] M
  have hle : (act out 0 full).length ≤ 6 := Nat.le_trans (act_len out full 0) R.1
  have loop : ∀ (rest : List Mb) (i : Nat) (M1 : Mm) (cur : List Mb), cur.drop i = rest → i ≤ cur.length → RN M1 cur mo day am out ch → F35 M M1 → cur.take i ++ sitA out h mo i rest = sitA out h mo 0 full → Gz X 8 [.ref 33, .int x, .int (iI (sP h mo (act out 0 full))), .int (nI i)] [] M1 := by
    intro rest
    induction rest with
    | nil =>
      intro i M1 cur hd hi R1 hF hm
      have hi := drop_nil hd hi
      rw [hi, List.take_length, show sitA out h mo cur.length [] = [] from rfl, List.append_nil] at hm
      refine r_iload_n hO dX5_sits_8 rfl ?_
      refine r_aload_n hO dX5_sits_9 rfl ?_
      refine r_getR 35 hO dX5_sits_10 fRX5_13 rfl ?_
      refine r_bipush hO dX5_sits_13 bc_24 ?_
      refine s_iald 41 hO dX5_sits_15 rfl (Nat.le_of_ble_eq_true rfl) 24 (by decide) (by decide) ?_
      refine r_icmp_ge 69 hO dX5_sits_16 (by decide) (fun _ => ?_) (fun z => absurd (by rw [R1.2.2.1, hi]; exact nI_le (Nat.le_refl _) (by have := R1.1; omega)) z)
      refine r_aload_n hO dX5_sits_69 rfl ?_
      refine r_getR 35 hO dX5_sits_70 fRX5_13 rfl ?_
      refine r_bipush hO dX5_sits_73 bc_25 ?_
      refine s_iald 41 hO dX5_sits_75 rfl (Nat.le_of_ble_eq_true rfl) 25 (by decide) (by decide) ?_
      refine r_iload_n hO dX5_sits_76 rfl ?_
      refine r_fS hO dX5_sits_77 kRX5_142 msX5_sign (zX5_sign _) ⟨Nat.le_of_ble_eq_true rfl, Nat.le_of_ble_eq_true rfl, rfl, Nat.le_of_ble_eq_true rfl⟩ rfl ?_
      refine r_iadd hO dX5_sits_80 ?_
      rw [R1.2.2.2.1.1, sgI_eq (by have := sP_in h mo (act out 0 full); omega) (by have := sP_in h mo (act out 0 full); omega)]
      refine s_istore_n hL hO dX5_sits_81 (Nat.le_of_ble_eq_true rfl) rfl ?_
      refine r_iload_n hO dX5_sits_82 rfl ?_
      refine r_aload_n hO dX5_sits_83 rfl ?_
      refine r_getR 35 hO dX5_sits_84 fRX5_13 rfl ?_
      refine r_bipush hO dX5_sits_87 bc_25 ?_
      refine s_iald 41 hO dX5_sits_89 rfl (Nat.le_of_ble_eq_true rfl) 25 (by decide) (by decide) ?_
      refine r_icmp_eq 140 hO dX5_sits_90 (by decide) (fun h90 => ?_) (fun h90 => ?_)
      · rw [R1.2.2.2.1.1] at h90
        have hq : nmo h mo (act out 0 full) = mo := mo1 R.2.2.2.1.2 h90
        exact r_return hO hr dX5_sits_140 ⟨rfl, hF, by rw [if_pos hq, if_pos hq, hq, ← hm]; exact R1⟩
      · rw [R1.2.2.2.1.1] at h90
        refine r_iload_n hO dX5_sits_93 rfl ?_
        refine r_fS hO dX5_sits_94 kRX5_182 msX5_isMotion (zX5_isMotion _) ⟨Nat.le_of_ble_eq_true rfl, Nat.le_of_ble_eq_true rfl, rfl, Nat.le_of_ble_eq_true rfl⟩ rfl ?_
        refine r_if_eq 140 hO dX5_sits_97 (by decide) (fun h97 => ?_) (fun h97 => ?_)
        · rw [bI_0] at h97
          have hq : nmo h mo (act out 0 full) = mo := mo2 R.2.2.2.1.2 h97
          exact r_return hO hr dX5_sits_140 ⟨rfl, hF, by rw [if_pos hq, if_pos hq, hq, ← hm]; exact R1⟩
        · rw [bI_n0] at h97
          have hq : nI mo + iI (sg (sP h mo (act out 0 full))) = nI (nmo h mo (act out 0 full)) ∧ nmo h mo (act out 0 full) ≠ mo := mo3 R.2.2.2.1.2 h90 h97
          refine r_aload_n hO dX5_sits_100 rfl ?_
          refine r_getR 35 hO dX5_sits_101 fRX5_13 rfl ?_
          refine r_bipush hO dX5_sits_104 bc_25 ?_
          refine r_iload_n hO dX5_sits_106 rfl ?_
          refine s_iast 41 hO dX5_sits_107 rfl (Nat.le_of_ble_eq_true rfl) 25 (by decide) (by decide) ?_
          refine r_aload_n hO dX5_sits_108 rfl ?_
          refine r_getR 35 hO dX5_sits_109 fRX5_13 rfl ?_
          refine r_bipush hO dX5_sits_112 bc_27 ?_
          refine r_sipush hO dX5_sits_114 sc_999 ?_
          refine r_aload_n hO dX5_sits_117 rfl ?_
          refine r_getR 35 hO dX5_sits_118 fRX5_13 rfl ?_
          refine r_bipush hO dX5_sits_121 bc_27 ?_
          refine s_iald 41 hO dX5_sits_123 rfl (Nat.le_of_ble_eq_true rfl) 27 (by decide) (by decide) ?_
          refine r_iconst hO dX5_sits_124 ic_1 ?_
          refine r_iadd hO dX5_sits_125 ?_
          refine r_fS hO dX5_sits_126 kRX5_175 msX5_lesser (zX5_lesser _) ⟨Nat.le_of_ble_eq_true rfl, Nat.le_of_ble_eq_true rfl, rfl, Nat.le_of_ble_eq_true rfl⟩ rfl ?_
          refine s_iast 41 hO dX5_sits_129 rfl (Nat.le_of_ble_eq_true rfl) 27 (by decide) (by decide) ?_
          refine r_aload_n hO dX5_sits_130 rfl ?_
          refine r_dup hO dX5_sits_131 rfl ?_
          refine r_getI hO dX5_sits_132 fRX5_128 rfl ?_
          refine r_iconst hO dX5_sits_135 ic_1 ?_
          refine r_iadd hO dX5_sits_136 ?_
          refine r_putI hO dX5_sits_137 fRX5_128 rfl ?_
          have R2 := R1.change (m2 := nmo h mo (act out 0 full)) (a2 := min 999 (am + 1)) (nmo_le R.2.2.2.1.2) (by omega) hc
          have e27 : (mput M1 35 25 (nI mo + iI (sg (sP h mo (act out 0 full))))).1 35 27 = nI am := by rw [mpg, if_neg (by decide)]; exact R1.2.2.2.2.2.1.1
          have e14 : ∀ x y, (mput (mput M1 35 25 x) 35 27 y).1 33 14 = nI ch := fun x y => by rw [mpg, if_neg (by decide), mpg, if_neg (by decide)]; exact R1.2.2.2.2.2.2.2.1
          rw [e14, e27, amd_d _ (by have := R.2.2.2.2.2.1.2; omega), nI_1, hq.1]
          exact r_return hO hr dX5_sits_140 ⟨rfl, ((hF.tr F35.put).tr F35.put).tr F35.put14, by rw [if_neg hq.2, if_neg hq.2, ← hm]; exact R2⟩
    | cons b bs ih =>
      intro i M1 cur hd hi R1 hF hm
      obtain ⟨hb, hd2, hlt⟩ := drop_cons hd
      refine r_iload_n hO dX5_sits_8 rfl ?_
      refine r_aload_n hO dX5_sits_9 rfl ?_
      refine r_getR 35 hO dX5_sits_10 fRX5_13 rfl ?_
      refine r_bipush hO dX5_sits_13 bc_24 ?_
      refine s_iald 41 hO dX5_sits_15 rfl (Nat.le_of_ble_eq_true rfl) 24 (by decide) (by decide) ?_
      refine r_icmp_ge 69 hO dX5_sits_16 (by decide) (fun z => absurd z (by rw [R1.2.2.1]; exact nI_ge hlt (by have := R1.1; omega))) (fun _ => ?_)
      refine r_aload_n hO dX5_sits_19 rfl ?_
      refine r_iload_n hO dX5_sits_20 rfl ?_
      refine r_iload_n hO dX5_sits_21 rfl ?_
      refine r_fV hO dX5_sits_22 kRX5_145 miX5_isOf (zX5_isOfR _ R1 h hb rfl hx hh) ⟨Nat.le_of_ble_eq_true rfl, Nat.le_of_ble_eq_true rfl, rfl, Nat.le_of_ble_eq_true rfl⟩ rfl rfl ?_
      refine r_if_eq 63 hO dX5_sits_25 (by decide) (fun h25 => ?_) (fun h25 => ?_)
      · rw [bI_0] at h25
        refine s_iinc hL hO dX5_sits_63 rfl ic_1 (Nat.le_of_ble_eq_true rfl) rfl ?_
        refine r_goto 8 hO dX5_sits_66 (by decide) ?_
        show Gz X 8 [.ref 33, .int x, .int (iI (sP h mo (act out 0 full))), .int (nI i + 1)] [] _
        rw [nI_1]
        exact ih (i + 1) M1 cur hd2 (by omega) R1 hF (by rw [← hm, sitA_c, sit_skip h25, takeS hb, List.append_assoc]; rfl)
      · rw [bI_n0] at h25
        refine r_aload_n hO dX5_sits_28 rfl ?_
        refine r_iload_n hO dX5_sits_29 rfl ?_
        refine r_fV hO dX5_sits_30 kRX5_149 miX5_votes (zX5_votesR _ R1 hb rfl) ⟨Nat.le_of_ble_eq_true rfl, Nat.le_of_ble_eq_true rfl, rfl, Nat.le_of_ble_eq_true rfl⟩ rfl rfl ?_
        refine r_if_ne 63 hO dX5_sits_33 (by decide) (fun h33 => ?_) (fun h33 => ?_)
        · rw [bI_n0] at h33
          refine s_iinc hL hO dX5_sits_63 rfl ic_1 (Nat.le_of_ble_eq_true rfl) rfl ?_
          refine r_goto 8 hO dX5_sits_66 (by decide) ?_
          show Gz X 8 [.ref 33, .int x, .int (iI (sP h mo (act out 0 full))), .int (nI i + 1)] [] _
          rw [nI_1]
          exact ih (i + 1) M1 cur hd2 (by omega) R1 hF (by rw [← hm, sitA_c, sit_vt h33, takeS hb, List.append_assoc]; rfl)
        · rw [bI_0] at h33
          refine r_aload_n hO dX5_sits_36 rfl ?_
          refine r_iload_n hO dX5_sits_37 rfl ?_
          refine r_iconst hO dX5_sits_38 ic_3 ?_
          refine r_bipush hO dX5_sits_39 bc_20 ?_
          refine r_aload_n hO dX5_sits_41 rfl ?_
          refine r_iload_n hO dX5_sits_42 rfl ?_
          refine r_iconst hO dX5_sits_43 ic_3 ?_
          refine r_fV hO dX5_sits_44 kRX5_131 miX5_of (zX5_of _ i 3 rfl rfl (by have := R1.a hb; omega)) ⟨Nat.le_of_ble_eq_true rfl, Nat.le_of_ble_eq_true rfl, rfl, Nat.le_of_ble_eq_true rfl⟩ rfl rfl ?_
          refine r_aload_n hO dX5_sits_47 rfl ?_
          refine r_iload_n hO dX5_sits_48 rfl ?_
          refine r_iconst hO dX5_sits_49 ic_0 ?_
          refine r_fV hO dX5_sits_50 kRX5_131 miX5_of (zX5_of _ i 0 rfl rfl (by have := R1.a hb; omega)) ⟨Nat.le_of_ble_eq_true rfl, Nat.le_of_ble_eq_true rfl, rfl, Nat.le_of_ble_eq_true rfl⟩ rfl rfl ?_
          refine r_fS hO dX5_sits_53 kRX5_172 msX5_tires (zX5_tires _) ⟨Nat.le_of_ble_eq_true rfl, Nat.le_of_ble_eq_true rfl, rfl, Nat.le_of_ble_eq_true rfl⟩ rfl ?_
          refine r_iadd hO dX5_sits_56 ?_
          refine r_fS hO dX5_sits_57 kRX5_175 msX5_lesser (zX5_lesser _) ⟨Nat.le_of_ble_eq_true rfl, Nat.le_of_ble_eq_true rfl, rfl, Nat.le_of_ble_eq_true rfl⟩ rfl ?_
          refine r_fV hO dX5_sits_60 kRX5_178 miX5_becomesOf (zX5_becomesOf _ i 3 rfl rfl (by have := R1.a hb; omega)) ⟨Nat.le_of_ble_eq_true rfl, Nat.le_of_ble_eq_true rfl, rfl, Nat.le_of_ble_eq_true rfl⟩ rfl rfl ?_
          refine s_iinc hL hO dX5_sits_63 rfl ic_1 (Nat.le_of_ble_eq_true rfl) rfl ?_
          refine r_goto 8 hO dX5_sits_66 (by decide) ?_
          show Gz X 8 [.ref 33, .int x, .int (iI (sP h mo (act out 0 full))), .int (nI i + 1)] [] _
          rw [nI_1]
          have ev : lsI 20 (M1.1 35 (4 * i + 3) + tiI (M1.1 35 (4 * i + 0))) = nI (min 20 (b.2.2.2 + ti b.1)) := by
            obtain ⟨g1, g2, g3, g4, g5⟩ := R1.2.1 i b hb
            rw [show M1.1 35 (4 * i + 0) = nI b.1 from g1, g4, tir_d _ (by have := g5.1; omega) _ (by have := g5.2.2.2; omega)]
          rw [ev]
          exact ih (i + 1) _ (cur.set i (tird b)) (by rw [List.drop_set_of_lt (by omega)]; exact hd2) (by rw [List.length_set]; omega) (R1.ptm hb (by omega)) (hF.tr F35.put) (by rw [← hm, sitA_c, sit_yes h25 h33, takeS (ms := cur.set i (tird b)) (b := tird b) (List.getElem?_set_self hlt), List.append_assoc, List.take_set_of_le (Nat.le_refl i)]; rfl)
  refine r_aload_n hO dX5_sits_0 rfl ?_
  refine r_iload_n hO dX5_sits_1 rfl ?_
  refine r_fV hO dX5_sits_2 kRX5_169 miX5_pullOfAll (zX5_pullOfAll _ R h hx hh) ⟨Nat.le_of_ble_eq_true rfl, Nat.le_of_ble_eq_true rfl, rfl, Nat.le_of_ble_eq_true rfl⟩ rfl rfl ?_
  refine s_istore_n hL hO dX5_sits_5 (Nat.le_of_ble_eq_true rfl) rfl ?_
  refine r_iconst hO dX5_sits_6 ic_0 ?_
  refine s_istore_n hL hO dX5_sits_7 (Nat.le_of_ble_eq_true rfl) rfl ?_
  exact loop full 0 M full rfl (Nat.zero_le _) R F35.rf rfl
end
section
/-! the reference's days, seen as a state -/
theorem dayS_day (s : Ns) : (dayS s).2.2.1 = s.2.2.1 + 1 := by unfold dayS; split <;> rfl
theorem dayS_ch (s : Ns) : (dayS s).2.2.2.2 ≤ s.2.2.2.2 + 1 := by
  unfold dayS
  split
  · exact Nat.le_succ _
  · dsimp only
    split <;> omega
theorem dayS_t {ms : List Mb} {mo day am ch : Nat} (h : car mo ms = true) : dayS (ms, mo, day, am, ch) = (ms, mo, day + 1, am, ch) := if_pos h
theorem dayS_f {ms : List Mb} {mo day am ch : Nat} (h : car mo ms = false) : dayS (ms, mo, day, am, ch) = (ms.map (sitB (day % 2) mo), nmo (day % 2) mo ms, day + 1, (if nmo (day % 2) mo ms = mo then am else min 999 (am + 1)), (if nmo (day % 2) mo ms = mo then ch else ch + 1)) := if_neg (fun z => by rw [h] at z; cases z)
def runS : Nat → Ns → Ns
  | 0, s => s
  | n + 1, s => runS n (dayS s)
def dtS : Nat → Ns → Option Nat
  | 0, _ => none
  | f + 1, s => if car s.2.1 s.1 = true then some 0 else (dtS f (dayS s)).map (· + 1)
def dtI (j : Nat) : Option Nat → Int32
  | some k => nI (j + k)
  | none => -4
theorem dtI_s (j : Nat) (o : Option Nat) : dtI j (o.map (· + 1)) = dtI (j + 1) o := by
  cases o with
  | none => rfl
  | some k => show nI (j + (k + 1)) = nI (j + 1 + k); congr 1; omega
set_option maxHeartbeats 4000000 in
theorem zX5_dayGoes (l : Launch) {M : Mm} {s : Ns} {out : Int32} {n : Nat} (V : RV M s out n) {x : Int32} (b : Bool) (hx : x = bI b) (hd : s.2.2.1 < 100000) (hc : s.2.2.2.2 < 100000) : Clz l 6 yX5_dayGoes cX5_dayGoes 2 none [.ref 33, .int x] M (fun r M' => r = none ∧ F35 M M' ∧ RV M' (if b = true then idlS s else dayS s) out n) := by
  refine Clz.on RX5 rfl (by decide +kernel) (Nat.le_of_ble_eq_true rfl) (fun X hL hO hr => ?_)
  show Gz X 0 [.ref 33, .int x] [] M
  obtain ⟨ms, mo, day, am, ch⟩ := s
  obtain ⟨full, hn, R, hv⟩ := V
  dsimp only at R hv hd hc
  subst hv
  have tail : ∀ (M1 : Mm) (full1 : List Mb) (mo1 am1 ch1 : Nat), RN M1 full1 mo1 day am1 out ch1 → F35 M M1 → full1.length = n → (act out 0 full1, mo1, day + 1, am1, ch1) = (if b = true then idlS (act out 0 full, mo, day, am, ch) else dayS (act out 0 full, mo, day, am, ch)) → Gz X 24 [.ref 33, .int x] [] M1 := by
    intro M1 full1 mo1 am1 ch1 R1 hF hl1 he
    refine r_aload_n hO dX5_dayGoes_24 rfl ?_
    refine r_getR 35 hO dX5_dayGoes_25 fRX5_13 rfl ?_
    refine r_bipush hO dX5_dayGoes_28 bc_26 ?_
    refine r_dup2 hO dX5_dayGoes_30 rfl rfl ?_
    refine s_iald 41 hO dX5_dayGoes_31 rfl (Nat.le_of_ble_eq_true rfl) 26 (by decide) (by decide) ?_
    refine r_iconst hO dX5_dayGoes_32 ic_1 ?_
    refine r_iadd hO dX5_dayGoes_33 ?_
    refine s_iast 41 hO dX5_dayGoes_34 rfl (Nat.le_of_ble_eq_true rfl) 26 (by decide) (by decide) ?_
    rw [R1.2.2.2.2.1.1, nI_1]
    exact r_return hO hr dX5_dayGoes_35 ⟨rfl, hF.tr F35.put, by rw [← he]; exact ⟨full1, hl1, R1.day hd, rfl⟩⟩
  refine r_iload_n hO dX5_dayGoes_0 rfl ?_
  refine r_if_ne 24 hO dX5_dayGoes_1 (by decide) (fun h1 => ?_) (fun h1 => ?_)
  · exact tail M full mo am ch R F35.rf hn (by rw [if_pos (by rw [hx] at h1; exact bI_n0.mp h1)]; rfl)
  · have hb0 : b = false := by rw [hx] at h1; exact bI_0.mp h1
    refine r_aload_n hO dX5_dayGoes_4 rfl ?_
    refine r_fV hO dX5_dayGoes_5 kRX5_185 miX5_isCarried (zX5_isCarried _ R) ⟨Nat.le_of_ble_eq_true rfl, Nat.le_of_ble_eq_true rfl, rfl, Nat.le_of_ble_eq_true rfl⟩ rfl rfl ?_
    refine r_if_ne 24 hO dX5_dayGoes_8 (by decide) (fun h8 => ?_) (fun h8 => ?_)
    · rw [bI_n0] at h8
      exact tail M full mo am ch R F35.rf hn (by rw [hb0]; exact (dayS_t h8).symm)
    · rw [bI_0] at h8
      refine r_aload_n hO dX5_dayGoes_11 rfl ?_
      refine r_aload_n hO dX5_dayGoes_12 rfl ?_
      refine r_getR 35 hO dX5_dayGoes_13 fRX5_13 rfl ?_
      refine r_bipush hO dX5_dayGoes_16 bc_26 ?_
      refine s_iald 41 hO dX5_dayGoes_18 rfl (Nat.le_of_ble_eq_true rfl) 26 (by decide) (by decide) ?_
      refine r_iconst hO dX5_dayGoes_19 ic_2 ?_
      refine r_irem hO dX5_dayGoes_20 (by decide) ?_
      refine r_callV hO dX5_dayGoes_21 kRX5_189 miX5_sits (zX5_sits _ R (day % 2) (by rw [R.2.2.2.2.1.1]; exact pk_rem (a := day) (d := 2) (by have := R.2.2.2.2.1.2; omega) (by decide) (by decide)) (by omega) hc) ⟨Nat.le_of_ble_eq_true rfl, Nat.le_of_ble_eq_true rfl, rfl, Nat.le_of_ble_eq_true rfl⟩ rfl rfl (fun r M1 hpo => ?_)
      obtain ⟨rfl, hF, R1⟩ := hpo
      exact tail _ _ _ _ _ R1 hF (by rw [sitA_len]; exact hn) (by rw [hb0, act_sitA]; exact (dayS_f h8).symm)
set_option maxHeartbeats 4000000 in
theorem zX5_daysGo (l : Launch) {M : Mm} {s : Ns} {out : Int32} {n : Nat} (V : RV M s out n) {x : Int32} (k : Nat) (hx : x = nI k) (hk : k ≤ 1000) (hd : s.2.2.1 + k ≤ 100000) (hc : s.2.2.2.2 + k ≤ 100000) : Clz l 7 yX5_daysGo cX5_daysGo 3 none [.ref 33, .int x] M (fun r M' => r = none ∧ F35 M M' ∧ RV M' (runS k s) out n) := by
  refine Clz.on RX5 rfl (by decide +kernel) (Nat.le_of_ble_eq_true rfl) (fun X hL hO hr => ?_)
  show Gz X 0 [.ref 33, .int x, .null] [] M
  have loop : ∀ (r j : Nat) (s1 : Ns) (M1 : Mm), j + r = k → F35 M M1 → RV M1 s1 out n → s1.2.2.1 + r ≤ 100000 → s1.2.2.2.2 + r ≤ 100000 → runS r s1 = runS k s → Gz X 2 [.ref 33, .int x, .int (nI j)] [] M1 := by
    intro r
    induction r with
    | zero =>
      intro j s1 M1 hj hF hV h1 h2 he
      have hV : RV M1 (runS k s) out n := by rw [← he]; exact hV
      have hj : k = j := by omega
      refine r_iload_n hO dX5_daysGo_2 rfl ?_
      refine r_iload_n hO dX5_daysGo_3 rfl ?_
      refine r_icmp_ge 18 hO dX5_daysGo_4 (by decide) (fun _ => ?_) (fun z => absurd (by rw [hx, hj]; exact nI_le (Nat.le_refl _) (by omega)) z)
      exact r_return hO hr dX5_daysGo_18 ⟨rfl, hF, hV⟩
    | succ r ih =>
      intro j s1 M1 hj hF hV h1 h2 he
      refine r_iload_n hO dX5_daysGo_2 rfl ?_
      refine r_iload_n hO dX5_daysGo_3 rfl ?_
      refine r_icmp_ge 18 hO dX5_daysGo_4 (by decide) (fun z => absurd z (by rw [hx]; exact nI_ge (by omega) (by omega))) (fun _ => ?_)
      refine r_aload_n hO dX5_daysGo_7 rfl ?_
      refine r_iconst hO dX5_daysGo_8 ic_0 ?_
      refine r_callV hO dX5_daysGo_9 kRX5_192 miX5_dayGoes (zX5_dayGoes _ hV false rfl (by omega) (by omega)) ⟨Nat.le_of_ble_eq_true rfl, Nat.le_of_ble_eq_true rfl, rfl, Nat.le_of_ble_eq_true rfl⟩ rfl rfl (fun q M2 hpo => ?_)
      obtain ⟨rfl, hF2, hV2⟩ := hpo
      refine s_iinc hL hO dX5_daysGo_12 rfl ic_1 (Nat.le_of_ble_eq_true rfl) rfl ?_
      refine r_goto 2 hO dX5_daysGo_15 (by decide) ?_
      show Gz X 2 [.ref 33, .int x, .int (nI j + 1)] [] M2
      rw [nI_1]
      exact ih (j + 1) (dayS s1) M2 (by omega) (hF.tr hF2) hV2 (by rw [dayS_day]; omega) (by have := dayS_ch s1; omega) he
  refine r_iconst hO dX5_daysGo_0 ic_0 ?_
  refine s_istore_n hL hO dX5_daysGo_1 (Nat.le_of_ble_eq_true rfl) rfl ?_
  exact loop k 0 s M (by omega) F35.rf V hd hc rfl
set_option maxHeartbeats 4000000 in
theorem zX5_daysTo (l : Launch) {M : Mm} {s : Ns} {out : Int32} {n : Nat} (V : RV M s out n) (hd : s.2.2.1 ≤ 9000) (hc : s.2.2.2.2 ≤ 9000) : Clz l 7 yX5_daysTo cX5_daysTo 2 (some .int) [.ref 33] M (fun r M' => r = some (.int (dtI 0 (dtS 61 s))) ∧ F35 M M') := by
  refine Clz.on RX5 rfl (by decide +kernel) (Nat.le_of_ble_eq_true rfl) (fun X hL hO hr => ?_)
  show Gz X 0 [.ref 33, .null] [] M
  have loop : ∀ (r j : Nat) (s1 : Ns) (M1 : Mm), j + r = 61 → F35 M M1 → RV M1 s1 out n → s1.2.2.1 + r ≤ 100000 → s1.2.2.2.2 + r ≤ 100000 → dtI j (dtS r s1) = dtI 0 (dtS 61 s) → Gz X 2 [.ref 33, .int (nI j)] [] M1 := by
    intro r
    induction r with
    | zero =>
      intro j s1 M1 hj hF hV h1 h2 he
      refine r_iload_n hO dX5_daysTo_2 rfl ?_
      refine r_bipush hO dX5_daysTo_3 bc_60 ?_
      refine r_icmp_gt 28 hO dX5_daysTo_5 (by decide) (fun _ => ?_) (fun z => absurd (by rw [show (60 : Int32) = nI 60 from rfl]; exact nI_lt (by omega) (by omega)) z)
      refine r_bipush hO dX5_daysTo_28 bc_m4 ?_
      exact r_ireturn hO hr dX5_daysTo_30 rfl ⟨sI (by rw [← he]; rfl), hF⟩
    | succ r ih =>
      intro j s1 M1 hj hF hV h1 h2 he
      obtain ⟨full, hn, R, hv⟩ := id hV
      refine r_iload_n hO dX5_daysTo_2 rfl ?_
      refine r_bipush hO dX5_daysTo_3 bc_60 ?_
      refine r_icmp_gt 28 hO dX5_daysTo_5 (by decide) (fun z => absurd z (by rw [show (60 : Int32) = nI 60 from rfl]; exact nI_nlt (by omega) (by omega))) (fun _ => ?_)
      refine r_aload_n hO dX5_daysTo_8 rfl ?_
      refine r_fV hO dX5_daysTo_9 kRX5_185 miX5_isCarried (zX5_isCarried _ R) ⟨Nat.le_of_ble_eq_true rfl, Nat.le_of_ble_eq_true rfl, rfl, Nat.le_of_ble_eq_true rfl⟩ rfl rfl ?_
      refine r_if_eq 17 hO dX5_daysTo_12 (by decide) (fun h12 => ?_) (fun h12 => ?_)
      · rw [bI_0] at h12
        refine r_aload_n hO dX5_daysTo_17 rfl ?_
        refine r_iconst hO dX5_daysTo_18 ic_0 ?_
        refine r_callV hO dX5_daysTo_19 kRX5_192 miX5_dayGoes (zX5_dayGoes _ hV false rfl (by omega) (by omega)) ⟨Nat.le_of_ble_eq_true rfl, Nat.le_of_ble_eq_true rfl, rfl, Nat.le_of_ble_eq_true rfl⟩ rfl rfl (fun q M2 hpo => ?_)
        obtain ⟨rfl, hF2, hV2⟩ := hpo
        refine s_iinc hL hO dX5_daysTo_22 rfl ic_1 (Nat.le_of_ble_eq_true rfl) rfl ?_
        refine r_goto 2 hO dX5_daysTo_25 (by decide) ?_
        show Gz X 2 [.ref 33, .int (nI j + 1)] [] M2
        rw [nI_1]
        exact ih (j + 1) (dayS s1) M2 (by omega) (hF.tr hF2) hV2 (by rw [dayS_day]; omega) (by have := dayS_ch s1; omega) (by rw [← he, ← dtI_s]; congr 1; conv => rhs; unfold dtS; rw [if_neg (by rw [← hv, h12]; decide)])
      · rw [bI_n0] at h12
        refine r_iload_n hO dX5_daysTo_15 rfl ?_
        exact r_ireturn hO hr dX5_daysTo_16 rfl ⟨sI (by rw [← he]; unfold dtS; rw [if_pos (by rw [← hv]; exact h12)]; rfl), hF⟩
  refine r_iconst hO dX5_daysTo_0 ic_0 ?_
  refine s_istore_n hL hO dX5_daysTo_1 (Nat.le_of_ble_eq_true rfl) rfl ?_
  exact loop 61 0 s M (by omega) F35.rf V (by omega) (by omega) rfl
def StR (M M' : Mm) : Prop := (∀ a k, a ≠ 35 → ¬ (a = 33 ∧ (k = 13 ∨ k = 14)) → M'.1 a k = M.1 a k) ∧ M'.2 = M.2 ∧ (∀ k, k < 41 → M'.1 35 k = M.1 34 k) ∧ M'.1 33 13 = -4 ∧ M'.1 33 14 = 0
def SeR (M M' : Mm) : Prop := (∀ a k, ¬ (a = 34 ∧ k < 41) → M'.1 a k = M.1 a k) ∧ M'.2 = M.2 ∧ (∀ k, k < 41 → M'.1 34 k = M.1 35 k)
set_option maxHeartbeats 4000000 in
theorem zX5_starts (l : Launch) {M : Mm}  : Clz l 0 yX5_starts cX5_starts 2 none [.ref 33] M (fun r M' => r = none ∧ StR M M') := by
  refine Clz.on RX5 rfl (by decide +kernel) (Nat.le_of_ble_eq_true rfl) (fun X hL hO hr => ?_)
  show Gz X 0 [.ref 33, .null] [] M
  have loop : ∀ (r j : Nat) (M1 : Mm), j + r = 41 → (∀ a k, a ≠ 35 → M1.1 a k = M.1 a k) → M1.2 = M.2 → (∀ k, k < j → M1.1 35 k = M.1 34 k) → Gz X 2 [.ref 33, .int (nI j)] [] M1 := by
    intro r
    induction r with
    | zero =>
      intro j M1 hj hA hB hC
      refine r_iload_n hO dX5_starts_2 rfl ?_
      refine r_bipush hO dX5_starts_3 bc_41 ?_
      refine r_icmp_ge 26 hO dX5_starts_5 (by decide) (fun _ => ?_) (fun z => absurd (by rw [show (41 : Int32) = nI 41 from rfl]; exact nI_le (by omega) (by omega)) z)
      refine r_aload_n hO dX5_starts_26 rfl ?_
      refine r_bipush hO dX5_starts_27 bc_m4 ?_
      refine r_putI hO dX5_starts_29 fRX5_125 rfl ?_
      refine r_aload_n hO dX5_starts_32 rfl ?_
      refine r_iconst hO dX5_starts_33 ic_0 ?_
      refine r_putI hO dX5_starts_34 fRX5_128 rfl ?_
      exact r_return hO hr dX5_starts_37 ⟨rfl, fun a k h1 h2 => by rw [mpg, if_neg (by omega), mpg, if_neg (by omega)]; exact hA a k h1, hB, fun k hk => by rw [mpg, if_neg (by omega), mpg, if_neg (by omega)]; exact hC k (by omega), by simp [mpg], by simp [mpg]⟩
    | succ r ih =>
      intro j M1 hj hA hB hC
      refine r_iload_n hO dX5_starts_2 rfl ?_
      refine r_bipush hO dX5_starts_3 bc_41 ?_
      refine r_icmp_ge 26 hO dX5_starts_5 (by decide) (fun z => absurd z (by rw [show (41 : Int32) = nI 41 from rfl]; exact nI_ge (by omega) (by omega))) (fun _ => ?_)
      refine r_aload_n hO dX5_starts_8 rfl ?_
      refine r_getR 35 hO dX5_starts_9 fRX5_13 rfl ?_
      refine r_iload_n hO dX5_starts_12 rfl ?_
      refine r_aload_n hO dX5_starts_13 rfl ?_
      refine r_getR 34 hO dX5_starts_14 fRX5_7 rfl ?_
      refine r_iload_n hO dX5_starts_17 rfl ?_
      refine s_iald 123 hO dX5_starts_18 rfl (Nat.le_of_ble_eq_true rfl) j rfl (by omega) ?_
      refine s_iast 41 hO dX5_starts_19 rfl (Nat.le_of_ble_eq_true rfl) j rfl (by omega) ?_
      refine s_iinc hL hO dX5_starts_20 rfl ic_1 (Nat.le_of_ble_eq_true rfl) rfl ?_
      refine r_goto 2 hO dX5_starts_23 (by decide) ?_
      show Gz X 2 [.ref 33, .int (nI j + 1)] [] _
      rw [nI_1]
      exact ih (j + 1) _ (by omega) (fun a k h1 => by rw [mpg, if_neg (by omega)]; exact hA a k h1) hB (fun k hk => by
        rw [mpg]
        by_cases e : k = j
        · rw [if_pos ⟨rfl, e⟩, hA 34 j (by decide), e]
        · rw [if_neg (by omega)]; exact hC k (by omega))
  refine r_iconst hO dX5_starts_0 ic_0 ?_
  refine s_istore_n hL hO dX5_starts_1 (Nat.le_of_ble_eq_true rfl) rfl ?_
  exact loop 41 0 M (by omega) (fun _ _ _ => rfl) rfl (fun k hk => by omega)
set_option maxHeartbeats 4000000 in
theorem zX5_settles (l : Launch) {M : Mm}  : Clz l 0 yX5_settles cX5_settles 2 none [.ref 33] M (fun r M' => r = none ∧ SeR M M') := by
  refine Clz.on RX5 rfl (by decide +kernel) (Nat.le_of_ble_eq_true rfl) (fun X hL hO hr => ?_)
  show Gz X 0 [.ref 33, .null] [] M
  have loop : ∀ (r j : Nat) (M1 : Mm), j + r = 41 → (∀ a k, ¬ (a = 34 ∧ k < j) → M1.1 a k = M.1 a k) → M1.2 = M.2 → (∀ k, k < j → M1.1 34 k = M.1 35 k) → Gz X 2 [.ref 33, .int (nI j)] [] M1 := by
    intro r
    induction r with
    | zero =>
      intro j M1 hj hA hB hC
      refine r_iload_n hO dX5_settles_2 rfl ?_
      refine r_bipush hO dX5_settles_3 bc_41 ?_
      refine r_icmp_ge 26 hO dX5_settles_5 (by decide) (fun _ => ?_) (fun z => absurd (by rw [show (41 : Int32) = nI 41 from rfl]; exact nI_le (by omega) (by omega)) z)
      exact r_return hO hr dX5_settles_26 ⟨rfl, fun a k h1 => hA a k (fun z => h1 ⟨z.1, by omega⟩), hB, fun k hk => hC k (by omega)⟩
    | succ r ih =>
      intro j M1 hj hA hB hC
      refine r_iload_n hO dX5_settles_2 rfl ?_
      refine r_bipush hO dX5_settles_3 bc_41 ?_
      refine r_icmp_ge 26 hO dX5_settles_5 (by decide) (fun z => absurd z (by rw [show (41 : Int32) = nI 41 from rfl]; exact nI_ge (by omega) (by omega))) (fun _ => ?_)
      refine r_aload_n hO dX5_settles_8 rfl ?_
      refine r_getR 34 hO dX5_settles_9 fRX5_7 rfl ?_
      refine r_iload_n hO dX5_settles_12 rfl ?_
      refine r_aload_n hO dX5_settles_13 rfl ?_
      refine r_getR 35 hO dX5_settles_14 fRX5_13 rfl ?_
      refine r_iload_n hO dX5_settles_17 rfl ?_
      refine s_iald 41 hO dX5_settles_18 rfl (Nat.le_of_ble_eq_true rfl) j rfl (by omega) ?_
      refine s_iast 123 hO dX5_settles_19 rfl (Nat.le_of_ble_eq_true rfl) j rfl (by omega) ?_
      refine s_iinc hL hO dX5_settles_20 rfl ic_1 (Nat.le_of_ble_eq_true rfl) rfl ?_
      refine r_goto 2 hO dX5_settles_23 (by decide) ?_
      show Gz X 2 [.ref 33, .int (nI j + 1)] [] _
      rw [nI_1]
      exact ih (j + 1) _ (by omega) (fun a k h1 => by rw [mpg, if_neg (by omega)]; exact hA a k (by omega)) hB (fun k hk => by
        rw [mpg]
        by_cases e : k = j
        · rw [if_pos ⟨rfl, e⟩, hA 35 j (by omega), e]
        · rw [if_neg (by omega)]; exact hC k (by omega))
  refine r_iconst hO dX5_settles_0 ic_0 ?_
  refine s_istore_n hL hO dX5_settles_1 (Nat.le_of_ble_eq_true rfl) rfl ?_
  exact loop 41 0 M (by omega) (fun _ _ _ => rfl) rfl (fun k hk => by omega)
end
section
/-! the class's Nut -/
def wiI (v t : Int32) : Bool := inI v 0 t
theorem wi_f1 {v t : Int32} (h : v < 0) : (0 : Int32) = bI (wiI v t) := by
  rw [wiI, inI, decide_eq_false (fun z => by have z := z.1; rw [Int32.le_iff_toInt_le] at z; rw [Int32.lt_iff_toInt_lt] at h; omega)]; rfl
theorem wi_f2 {v t : Int32} (h : t < v) : (0 : Int32) = bI (wiI v t) := by
  rw [wiI, inI, decide_eq_false (fun z => by have z := z.2; rw [Int32.le_iff_toInt_le] at z; rw [Int32.lt_iff_toInt_lt] at h; omega)]; rfl
theorem wi_t {v t : Int32} (h : ¬ v < 0) (h2 : ¬ t < v) : (1 : Int32) = bI (wiI v t) := by
  rw [Int32.lt_iff_toInt_lt] at h h2
  rw [wiI, inI, decide_eq_true ⟨by rw [Int32.le_iff_toInt_le]; omega, by rw [Int32.le_iff_toInt_le]; omega⟩]; rfl
def CN (M : Mm) (p : Nat) (ms : List Mb) (mo day am : Nat) : Prop := ms.length ≤ 6 ∧ MbAt (M.1 (p + 1)) ms ∧ M.1 p 3 = nI ms.length ∧ (M.1 p 4 = nI mo ∧ mo ≤ 20) ∧ (M.1 p 5 = nI day ∧ day ≤ 100000) ∧ (M.1 p 6 = nI am ∧ am ≤ 999)
def FN (p : Nat) (M M' : Mm) : Prop := (∀ a k, a ≠ p + 1 → ¬ (a = p ∧ 4 ≤ k ∧ k ≤ 6) → M'.1 a k = M.1 a k) ∧ M'.2 = M.2
theorem FN.rf {p : Nat} {M : Mm} : FN p M M := ⟨fun _ _ _ _ => rfl, rfl⟩
theorem FN.tr {p : Nat} {M M1 M2 : Mm} (h1 : FN p M M1) (h2 : FN p M1 M2) : FN p M M2 := ⟨fun a k ha hk => (h2.1 a k ha hk).trans (h1.1 a k ha hk), h2.2.trans h1.2⟩
theorem FN.put {p : Nat} {M : Mm} {k : Nat} {x : Int32} : FN p M (mput M (p + 1) k x) := ⟨fun a j ha _ => by rw [mpg]; rw [if_neg (fun z => ha z.1)], rfl⟩
theorem FN.putp {p : Nat} {M : Mm} {k : Nat} {x : Int32} (h1 : 4 ≤ k) (h2 : k ≤ 6) : FN p M (mput M p k x) := ⟨fun a j ha hj => by rw [mpg]; rw [if_neg (fun z => hj ⟨z.1, by omega, by omega⟩)], rfl⟩
def vcI (w m s : Int32) : Bool := decide (¬ s < m - w ∧ ¬ s < -(m - w))
theorem vc_f1 {w m s : Int32} (h : s < m - w) : (0 : Int32) = bI (vcI w m s) := by rw [vcI, decide_eq_false (fun z => z.1 h)]; rfl
theorem vc_f2 {w m s : Int32} (h : s < -(m - w)) : (0 : Int32) = bI (vcI w m s) := by rw [vcI, decide_eq_false (fun z => z.2 h)]; rfl
theorem vc_t {w m s : Int32} (h : ¬ s < m - w) (h2 : ¬ s < -(m - w)) : (1 : Int32) = bI (vcI w m s) := by rw [vcI, decide_eq_true ⟨h, h2⟩]; rfl
theorem vcI_d : ∀ w, w < 21 → ∀ m, m < 21 → ∀ s, s < 21 → vcI (nI w) (nI m) (nI s) = decide (w ≤ m + s ∧ m ≤ w + s) := by decide +kernel
def abI (y : Int32) : Int32 := if 0 ≤ y then y else 0 - y
def dcI (y : Int32) : Int32 := if abI y ≤ 2 then 0 else sgI y
def pcI (k y : Int32) : Int32 := if k = 1 then 2 * sgI y else if k = 2 then dcI y else if k = 3 then - dcI y else sgI y
theorem pcI_d : ∀ k, k < 4 → ∀ w, w < 21 → ∀ m, m < 21 → pcI (nI k) (nI w - nI m) = iI (plK k ((w : Int) - (m : Int))) := by decide +kernel
theorem MbAt.votesC {f : Nat → Int32} {ms : List Mb} (h : MbAt f ms) {i : Nat} {b : Mb} (hb : ms[i]? = some b) {mo : Nat} (hm : mo ≤ 20) : vcI (f (4 * i + 2)) (nI mo) (f (4 * i + 3)) = vt b mo := by
  obtain ⟨h1, h2, h3, h4, h5⟩ := h i b hb
  rw [h3, h4, vcI_d _ (by have := h5.2.2.1; omega) _ (by omega) _ (by have := h5.2.2.2; omega)]; rfl
theorem MbAt.pullC {f : Nat → Int32} {ms : List Mb} (h : MbAt f ms) {i : Nat} {b : Mb} (hb : ms[i]? = some b) {mo : Nat} (hm : mo ≤ 20) : pcI (f (4 * i)) (f (4 * i + 2) - nI mo) = iI (pl b mo) := by
  obtain ⟨h1, h2, h3, h4, h5⟩ := h i b hb
  rw [h1, h3, pcI_d _ (by have := h5.1; omega) _ (by have := h5.2.2.1; omega) _ (by omega)]; rfl
theorem CN.a {M : Mm} {p : Nat} {ms : List Mb} {mo day am : Nat} (R : CN M p ms mo day am) {i : Nat} {b : Mb} (hb : ms[i]? = some b) : i < 6 := by
  have := (List.getElem?_eq_some_iff.mp hb).1
  have := R.1
  omega
theorem nu_ne {p : Nat} (hp : nuP p) : p ≠ p + 1 := by omega
set_option maxHeartbeats 4000000 in
theorem zX4_within (l : Launch) {M : Mm} {v t : Int32} : CFz l 0 yX4_within cX4_within 2 (some .boolean) [.int v, .int t] M (some (.int (bI (wiI v t)))) (M) := by
  refine Clz.on RX4 rfl (by decide +kernel) (Nat.le_of_ble_eq_true rfl) (fun X hL hO hr => ?_)
  show Gz X 0 [.int v, .int t] [] M
  refine r_iload_n hO dX4_within_0 rfl ?_
  refine r_if_lt 13 hO dX4_within_1 (by decide) (fun h1 => ?_) (fun h1 => ?_)
  · refine r_iconst hO dX4_within_13 ic_0 ?_
    exact r_ireturn hO hr dX4_within_14 rfl ⟨sI (wi_f1 h1), rfl⟩
  · refine r_iload_n hO dX4_within_4 rfl ?_
    refine r_iload_n hO dX4_within_5 rfl ?_
    refine r_icmp_gt 13 hO dX4_within_6 (by decide) (fun h6 => ?_) (fun h6 => ?_)
    · refine r_iconst hO dX4_within_13 ic_0 ?_
      exact r_ireturn hO hr dX4_within_14 rfl ⟨sI (wi_f2 h6), rfl⟩
    · refine r_iconst hO dX4_within_9 ic_1 ?_
      refine r_goto 14 hO dX4_within_10 (by decide) ?_
      exact r_ireturn hO hr dX4_within_14 rfl ⟨sI (wi_t h1 h6), rfl⟩
set_option maxHeartbeats 4000000 in
theorem zX4_bit (l : Launch) {M : Mm} {x : Int32} (b : Bool) (hx : x = bI b) : CFz l 0 yX4_bit cX4_bit 1 (some .int) [.int x] M (some (.int (bI b))) (M) := by
  refine Clz.on RX4 rfl (by decide +kernel) (Nat.le_of_ble_eq_true rfl) (fun X hL hO hr => ?_)
  show Gz X 0 [.int x] [] M
  refine r_iload_n hO dX4_bit_0 rfl ?_
  refine r_if_eq 8 hO dX4_bit_1 (by decide) (fun h1 => ?_) (fun h1 => ?_)
  · refine r_iconst hO dX4_bit_8 ic_0 ?_
    exact r_ireturn hO hr dX4_bit_9 rfl ⟨sI (by rw [hx] at h1; cases b <;> first | rfl | exact absurd h1 (by decide)), rfl⟩
  · refine r_iconst hO dX4_bit_4 ic_1 ?_
    refine r_goto 9 hO dX4_bit_5 (by decide) ?_
    exact r_ireturn hO hr dX4_bit_9 rfl ⟨sI (by rw [hx] at h1; cases b <;> first | rfl | exact absurd h1 (by decide)), rfl⟩
set_option maxHeartbeats 4000000 in
theorem zX4_sign (l : Launch) {M : Mm} {v : Int32} : CFz l 0 yX4_sign cX4_sign 1 (some .int) [.int v] M (some (.int (sgI v))) (M) := by
  refine Clz.on RX4 rfl (by decide +kernel) (Nat.le_of_ble_eq_true rfl) (fun X hL hO hr => ?_)
  show Gz X 0 [.int v] [] M
  refine r_iload_n hO dX4_sign_0 rfl ?_
  refine r_if_le 8 hO dX4_sign_1 (by decide) (fun h1 => ?_) (fun h1 => ?_)
  · refine r_iload_n hO dX4_sign_8 rfl ?_
    refine r_if_ge 16 hO dX4_sign_9 (by decide) (fun h9 => ?_) (fun h9 => ?_)
    · refine r_iconst hO dX4_sign_16 ic_0 ?_
      exact r_ireturn hO hr dX4_sign_17 rfl ⟨sI (by simp [sgI, h1, h9]), rfl⟩
    · refine r_iconst hO dX4_sign_12 ic_m1 ?_
      refine r_goto 17 hO dX4_sign_13 (by decide) ?_
      exact r_ireturn hO hr dX4_sign_17 rfl ⟨sI (by simp [sgI, h1, h9]), rfl⟩
  · refine r_iconst hO dX4_sign_4 ic_1 ?_
    refine r_goto 17 hO dX4_sign_5 (by decide) ?_
    exact r_ireturn hO hr dX4_sign_17 rfl ⟨sI (by simp [sgI, h1]), rfl⟩
set_option maxHeartbeats 4000000 in
theorem zX0_part (l : Launch) {M : Mm} {p : Nat} (hp : nuP p) {x y : Int32} (a b : Nat) (hx : x = nI a) (hy : y = nI b) (hab : 4 * a + b < 24) : CFz l 0 yX0_part cX0_part 3 (some .int) [.ref p, .int x, .int y] M (some (.int (M.1 (p + 1) (4 * a + b)))) (M) := by
  refine Clz.on RX0 rfl (by decide +kernel) (Nat.le_of_ble_eq_true rfl) (fun X hL hO hr => ?_)
  show Gz X 0 [.ref p, .int x, .int y] [] M
  refine r_aload_n hO dX0_part_0 rfl ?_
  refine r_getR (p + 1) hO dX0_part_1 fRX0_9 (nu_R0 hp) ?_
  refine r_iload_n hO dX0_part_4 rfl ?_
  refine r_iconst hO dX0_part_5 ic_4 ?_
  refine r_imul hO dX0_part_6 ?_
  refine r_iload_n hO dX0_part_7 rfl ?_
  refine r_iadd hO dX0_part_8 ?_
  refine s_iald 24 hO dX0_part_9 (nu_A0 hp) (Nat.le_of_ble_eq_true rfl) (4 * a + b) (xi4 hx hy) hab ?_
  exact r_ireturn hO hr dX0_part_10 rfl ⟨rfl, rfl⟩
set_option maxHeartbeats 4000000 in
theorem zX0_put (l : Launch) {M : Mm} {p : Nat} (hp : nuP p) {x y v : Int32} (a b : Nat) (hx : x = nI a) (hy : y = nI b) (hab : 4 * a + b < 24) (hb : b < 4) : CFz l 0 yX0_put cX0_put 4 none [.ref p, .int x, .int y, .int v] M (none) (mput M (p + 1) (4 * a + b) v) := by
  refine Clz.on RX0 rfl (by decide +kernel) (Nat.le_of_ble_eq_true rfl) (fun X hL hO hr => ?_)
  show Gz X 0 [.ref p, .int x, .int y, .int v] [] M
  refine r_iload_n hO dX0_put_0 rfl ?_
  refine r_iconst hO dX0_put_1 ic_4 ?_
  refine r_icmp_ne 13 hO dX0_put_2 (by decide) (fun _ => ?_) (fun z => absurd z (by rw [hy, show (4 : Int32) = nI 4 from rfl, nI_eq (by omega) (by omega)]; omega))
  refine r_aload_n hO dX0_put_13 rfl ?_
  refine r_getR (p + 1) hO dX0_put_14 fRX0_9 (nu_R0 hp) ?_
  refine r_iload_n hO dX0_put_17 rfl ?_
  refine r_iconst hO dX0_put_18 ic_4 ?_
  refine r_imul hO dX0_put_19 ?_
  refine r_iload_n hO dX0_put_20 rfl ?_
  refine r_iadd hO dX0_put_21 ?_
  refine r_iload_n hO dX0_put_22 rfl ?_
  refine s_iast 24 hO dX0_put_23 (nu_A0 hp) (Nat.le_of_ble_eq_true rfl) (4 * a + b) (xi4 hx hy) hab ?_
  exact r_return hO hr dX0_put_24 ⟨rfl, rfl⟩
set_option maxHeartbeats 4000000 in
theorem zX0_putM (l : Launch) {M : Mm} {p : Nat} (hp : nuP p) {x v : Int32} : CFz l 0 yX0_put cX0_put 4 none [.ref p, .int x, .int 4, .int v] M (none) (mput M p 4 v) := by
  refine Clz.on RX0 rfl (by decide +kernel) (Nat.le_of_ble_eq_true rfl) (fun X hL hO hr => ?_)
  show Gz X 0 [.ref p, .int x, .int 4, .int v] [] M
  refine r_iload_n hO dX0_put_0 rfl ?_
  refine r_iconst hO dX0_put_1 ic_4 ?_
  refine r_icmp_ne 13 hO dX0_put_2 (by decide) (fun z => absurd rfl z) (fun _ => ?_)
  refine r_aload_n hO dX0_put_5 rfl ?_
  refine r_iload_n hO dX0_put_6 rfl ?_
  refine r_putI hO dX0_put_7 fRX0_25 (nu_I4 hp) ?_
  refine r_goto 24 hO dX0_put_10 (by decide) ?_
  exact r_return hO hr dX0_put_24 ⟨rfl, rfl⟩
set_option maxHeartbeats 4000000 in
theorem zX0_votesFor (l : Launch) {M : Mm} {p : Nat} (hp : nuP p) {x v : Int32} (a : Nat) (hx : x = nI a) (ha : a < 6) : CFz l 0 yX0_votesFor cX0_votesFor 5 (some .boolean) [.ref p, .int x, .int v] M (some (.int (bI (vcI (M.1 (p + 1) (4 * a + 2)) v (M.1 (p + 1) (4 * a + 3)))))) (M) := by
  refine Clz.on RX0 rfl (by decide +kernel) (Nat.le_of_ble_eq_true rfl) (fun X hL hO hr => ?_)
  show Gz X 0 [.ref p, .int x, .int v, .null, .null] [] M
  refine r_iload_n hO dX0_votesFor_0 rfl ?_
  refine r_aload_n hO dX0_votesFor_1 rfl ?_
  refine r_getR (p + 1) hO dX0_votesFor_2 fRX0_9 (nu_R0 hp) ?_
  refine r_iload_n hO dX0_votesFor_5 rfl ?_
  refine r_iconst hO dX0_votesFor_6 ic_4 ?_
  refine r_imul hO dX0_votesFor_7 ?_
  refine r_iconst hO dX0_votesFor_8 ic_2 ?_
  refine r_iadd hO dX0_votesFor_9 ?_
  refine s_iald 24 hO dX0_votesFor_10 (nu_A0 hp) (Nat.le_of_ble_eq_true rfl) (4 * a + 2) (xi4 hx rfl) (by omega) ?_
  refine r_isub hO dX0_votesFor_11 ?_
  refine s_istore_n hL hO dX0_votesFor_12 (Nat.le_of_ble_eq_true rfl) rfl ?_
  refine r_aload_n hO dX0_votesFor_13 rfl ?_
  refine r_getR (p + 1) hO dX0_votesFor_14 fRX0_9 (nu_R0 hp) ?_
  refine r_iload_n hO dX0_votesFor_17 rfl ?_
  refine r_iconst hO dX0_votesFor_18 ic_4 ?_
  refine r_imul hO dX0_votesFor_19 ?_
  refine r_iconst hO dX0_votesFor_20 ic_3 ?_
  refine r_iadd hO dX0_votesFor_21 ?_
  refine s_iald 24 hO dX0_votesFor_22 (nu_A0 hp) (Nat.le_of_ble_eq_true rfl) (4 * a + 3) (xi4 hx rfl) (by omega) ?_
  refine s_istore hL hO dX0_votesFor_23 (Nat.le_of_ble_eq_true rfl) rfl ?_
  refine r_iload_n hO dX0_votesFor_25 rfl ?_
  refine r_iload hO dX0_votesFor_26 rfl ?_
  refine r_icmp_gt 42 hO dX0_votesFor_28 (by decide) (fun h28 => ?_) (fun h28 => ?_)
  · refine r_iconst hO dX0_votesFor_42 ic_0 ?_
    exact r_ireturn hO hr dX0_votesFor_43 rfl ⟨sI (vc_f1 h28), rfl⟩
  · refine r_iload_n hO dX0_votesFor_31 rfl ?_
    refine r_ineg hO dX0_votesFor_32 ?_
    refine r_iload hO dX0_votesFor_33 rfl ?_
    refine r_icmp_gt 42 hO dX0_votesFor_35 (by decide) (fun h35 => ?_) (fun h35 => ?_)
    · refine r_iconst hO dX0_votesFor_42 ic_0 ?_
      exact r_ireturn hO hr dX0_votesFor_43 rfl ⟨sI (vc_f2 h35), rfl⟩
    · refine r_iconst hO dX0_votesFor_38 ic_1 ?_
      refine r_goto 43 hO dX0_votesFor_39 (by decide) ?_
      exact r_ireturn hO hr dX0_votesFor_43 rfl ⟨sI (vc_t h28 h35), rfl⟩
theorem zX0_votesR (l : Launch) {M : Mm} {p : Nat} (hp : nuP p) {ms : List Mb} {mo day am : Nat} (R : CN M p ms mo day am) {x y : Int32} {i : Nat} {b : Mb} (v : Nat) (hb : ms[i]? = some b) (hx : x = nI i) (hy : y = nI v) (hv : v ≤ 20) : CFz l 0 yX0_votesFor cX0_votesFor 5 (some .boolean) [.ref p, .int x, .int y] M (some (.int (bI (vt b v)))) M := by
  rw [← R.2.1.votesC hb hv, ← hy]
  exact zX0_votesFor l hp i hx (R.a hb)
theorem zX0_partR (l : Launch) {M : Mm} {p : Nat} (hp : nuP p) {ms : List Mb} {mo day am : Nat} (R : CN M p ms mo day am) {x y : Int32} {i : Nat} {b : Mb} (k : Nat) (hb : ms[i]? = some b) (hx : x = nI i) (hy : y = nI k) (hk : k < 4) : CFz l 0 yX0_part cX0_part 3 (some .int) [.ref p, .int x, .int y] M (some (.int (nI (fld k b)))) M := by
  rw [← R.2.1.fld hb hk]
  exact zX0_part l hp i k hx hy (by have := R.a hb; omega)
theorem orB_f {f : Mb → Bool} {i : Nat} {m : Int32} {b : Mb} {bs : List Mb} (h : f b = false) : orB f i m (b :: bs) = orB f (i + 1) m bs := by
  show orB f (i + 1) (m ||| (bI (f b) <<< (nI i &&& 31))) bs = _
  rw [h, show bI false = 0 from rfl, show (0 : Int32) <<< (nI i &&& 31) = 0 from by apply Int32.toBitVec_inj.mp; simp, Int32.or_zero]
theorem orB_t {f : Mb → Bool} {i : Nat} {m : Int32} {b : Mb} {bs : List Mb} (h : f b = true) : orB f i m (b :: bs) = orB f (i + 1) (m ||| 1 <<< (nI i &&& 31)) bs := by
  show orB f (i + 1) (m ||| (bI (f b) <<< (nI i &&& 31))) bs = _
  rw [h]; rfl
set_option maxHeartbeats 4000000 in
theorem zX0_votersFor (l : Launch) {M : Mm} {p : Nat} (hp : nuP p) {ms : List Mb} {mo day am : Nat} (R : CN M p ms mo day am) {x : Int32} (v : Nat) (hx : x = nI v) (hv : v ≤ 20) : CFz l 1 yX0_votersFor cX0_votersFor 4 (some .int) [.ref p, .int x] M (some (.int (orB (fun b => vt b v) 0 0 ms))) (M) := by
  refine Clz.on RX0 rfl (by decide +kernel) (Nat.le_of_ble_eq_true rfl) (fun X hL hO hr => ?_)
  show Gz X 0 [.ref p, .int x, .null, .null] [] M
  have loop : ∀ (rest : List Mb) (i : Nat) (m : Int32), ms.drop i = rest → i ≤ ms.length → orB (fun b => vt b v) i m rest = orB (fun b => vt b v) 0 0 ms → Gz X 4 [.ref p, .int x, .int m, .int (nI i)] [] M := by
    intro rest
    induction rest with
    | nil =>
      intro i m hd hi hm
      have hi := drop_nil hd hi
      refine r_iload_n hO dX0_votersFor_4 rfl ?_
      refine r_aload_n hO dX0_votersFor_5 rfl ?_
      refine r_getI hO dX0_votersFor_6 fRX0_21 (nu_I3 hp) ?_
      refine r_icmp_ge 33 hO dX0_votersFor_9 (by decide) (fun _ => ?_) (fun z => absurd (by rw [R.2.2.1, hi]; exact nI_le (Nat.le_refl _) (by have := R.1; omega)) z)
      refine r_iload_n hO dX0_votersFor_33 rfl ?_
      exact r_ireturn hO hr dX0_votersFor_34 rfl ⟨sI hm, rfl⟩
    | cons b bs ih =>
      intro i m hd hi hm
      obtain ⟨hb, hd2, hlt⟩ := drop_cons hd
      refine r_iload_n hO dX0_votersFor_4 rfl ?_
      refine r_aload_n hO dX0_votersFor_5 rfl ?_
      refine r_getI hO dX0_votersFor_6 fRX0_21 (nu_I3 hp) ?_
      refine r_icmp_ge 33 hO dX0_votersFor_9 (by decide) (fun z => absurd z (by rw [R.2.2.1]; exact nI_ge hlt (by have := R.1; omega))) (fun _ => ?_)
      refine r_aload_n hO dX0_votersFor_12 rfl ?_
      refine r_iload_n hO dX0_votersFor_13 rfl ?_
      refine r_iload_n hO dX0_votersFor_14 rfl ?_
      refine r_fV hO dX0_votersFor_15 kRX0_51 miX0_votesFor (zX0_votesR _ hp R v hb rfl hx hv) ⟨Nat.le_of_ble_eq_true rfl, Nat.le_of_ble_eq_true rfl, rfl, Nat.le_of_ble_eq_true rfl⟩ (nu_o hp) rfl ?_
      refine r_if_eq 27 hO dX0_votersFor_18 (by decide) (fun h18 => ?_) (fun h18 => ?_)
      · rw [bI_0] at h18
        refine s_iinc hL hO dX0_votersFor_27 rfl ic_1 (Nat.le_of_ble_eq_true rfl) rfl ?_
        refine r_goto 4 hO dX0_votersFor_30 (by decide) ?_
        show Gz X 4 [.ref p, .int x, .int m, .int (nI i + 1)] [] M
        rw [nI_1]
        exact ih (i + 1) m hd2 (by omega) (by rw [← hm, orB_f (f := fun b => vt b v) h18])
      · rw [bI_n0] at h18
        refine r_iload_n hO dX0_votersFor_21 rfl ?_
        refine r_iconst hO dX0_votersFor_22 ic_1 ?_
        refine r_iload_n hO dX0_votersFor_23 rfl ?_
        refine r_ishl hO dX0_votersFor_24 ?_
        refine r_ior hO dX0_votersFor_25 ?_
        refine s_istore_n hL hO dX0_votersFor_26 (Nat.le_of_ble_eq_true rfl) rfl ?_
        refine s_iinc hL hO dX0_votersFor_27 rfl ic_1 (Nat.le_of_ble_eq_true rfl) rfl ?_
        refine r_goto 4 hO dX0_votersFor_30 (by decide) ?_
        show Gz X 4 [.ref p, .int x, .int (m ||| 1 <<< (nI i &&& 31)), .int (nI i + 1)] [] M
        rw [nI_1]
        exact ih (i + 1) _ hd2 (by omega) (by rw [← hm, orB_t (f := fun b => vt b v) h18])
  refine r_iconst hO dX0_votersFor_0 ic_0 ?_
  refine s_istore_n hL hO dX0_votersFor_1 (Nat.le_of_ble_eq_true rfl) rfl ?_
  refine r_iconst hO dX0_votersFor_2 ic_0 ?_
  refine s_istore_n hL hO dX0_votersFor_3 (Nat.le_of_ble_eq_true rfl) rfl ?_
  exact loop ms 0 0 rfl (Nat.zero_le _) rfl
set_option maxHeartbeats 4000000 in
theorem zX0_membersOf (l : Launch) {M : Mm} {p : Nat} (hp : nuP p) {ms : List Mb} {mo day am : Nat} (R : CN M p ms mo day am) {x : Int32} (h : Nat) (hx : x = nI h) (hh : h < 2) : CFz l 1 yX0_membersOf cX0_membersOf 4 (some .int) [.ref p, .int x] M (some (.int (orB (inH h) 0 0 ms))) (M) := by
  refine Clz.on RX0 rfl (by decide +kernel) (Nat.le_of_ble_eq_true rfl) (fun X hL hO hr => ?_)
  show Gz X 0 [.ref p, .int x, .null, .null] [] M
  have loop : ∀ (rest : List Mb) (i : Nat) (m : Int32), ms.drop i = rest → i ≤ ms.length → orB (inH h) i m rest = orB (inH h) 0 0 ms → Gz X 4 [.ref p, .int x, .int m, .int (nI i)] [] M := by
    intro rest
    induction rest with
    | nil =>
      intro i m hd hi hm
      have hi := drop_nil hd hi
      refine r_iload_n hO dX0_membersOf_4 rfl ?_
      refine r_aload_n hO dX0_membersOf_5 rfl ?_
      refine r_getI hO dX0_membersOf_6 fRX0_21 (nu_I3 hp) ?_
      refine r_icmp_ge 34 hO dX0_membersOf_9 (by decide) (fun _ => ?_) (fun z => absurd (by rw [R.2.2.1, hi]; exact nI_le (Nat.le_refl _) (by have := R.1; omega)) z)
      refine r_iload_n hO dX0_membersOf_34 rfl ?_
      exact r_ireturn hO hr dX0_membersOf_35 rfl ⟨sI hm, rfl⟩
    | cons b bs ih =>
      intro i m hd hi hm
      obtain ⟨hb, hd2, hlt⟩ := drop_cons hd
      refine r_iload_n hO dX0_membersOf_4 rfl ?_
      refine r_aload_n hO dX0_membersOf_5 rfl ?_
      refine r_getI hO dX0_membersOf_6 fRX0_21 (nu_I3 hp) ?_
      refine r_icmp_ge 34 hO dX0_membersOf_9 (by decide) (fun z => absurd z (by rw [R.2.2.1]; exact nI_ge hlt (by have := R.1; omega))) (fun _ => ?_)
      refine r_aload_n hO dX0_membersOf_12 rfl ?_
      refine r_iload_n hO dX0_membersOf_13 rfl ?_
      refine r_iconst hO dX0_membersOf_14 ic_1 ?_
      refine r_fV hO dX0_membersOf_15 kRX0_47 miX0_part (zX0_partR _ hp R 1 hb rfl rfl (by decide)) ⟨Nat.le_of_ble_eq_true rfl, Nat.le_of_ble_eq_true rfl, rfl, Nat.le_of_ble_eq_true rfl⟩ (nu_o hp) rfl ?_
      refine r_iload_n hO dX0_membersOf_18 rfl ?_
      refine r_icmp_ne 28 hO dX0_membersOf_19 (by decide) (fun h19 => ?_) (fun h19 => ?_)
      · rw [hx, show fld 1 b = b.2.1 from rfl, nI_eq (by have := (R.2.1 i b hb).2.2.2.2.2.1; omega) (by omega)] at h19
        have hq : inH h b = false := by simp [inH, h19]
        refine s_iinc hL hO dX0_membersOf_28 rfl ic_1 (Nat.le_of_ble_eq_true rfl) rfl ?_
        refine r_goto 4 hO dX0_membersOf_31 (by decide) ?_
        show Gz X 4 [.ref p, .int x, .int m, .int (nI i + 1)] [] M
        rw [nI_1]
        exact ih (i + 1) m hd2 (by omega) (by rw [← hm, orB_f (f := inH h) hq])
      · rw [hx, show fld 1 b = b.2.1 from rfl, nI_eq (by have := (R.2.1 i b hb).2.2.2.2.2.1; omega) (by omega)] at h19
        have hq : inH h b = true := by simp [inH, h19]
        refine r_iload_n hO dX0_membersOf_22 rfl ?_
        refine r_iconst hO dX0_membersOf_23 ic_1 ?_
        refine r_iload_n hO dX0_membersOf_24 rfl ?_
        refine r_ishl hO dX0_membersOf_25 ?_
        refine r_ior hO dX0_membersOf_26 ?_
        refine s_istore_n hL hO dX0_membersOf_27 (Nat.le_of_ble_eq_true rfl) rfl ?_
        refine s_iinc hL hO dX0_membersOf_28 rfl ic_1 (Nat.le_of_ble_eq_true rfl) rfl ?_
        refine r_goto 4 hO dX0_membersOf_31 (by decide) ?_
        show Gz X 4 [.ref p, .int x, .int (m ||| 1 <<< (nI i &&& 31)), .int (nI i + 1)] [] M
        rw [nI_1]
        exact ih (i + 1) _ hd2 (by omega) (by rw [← hm, orB_t (f := inH h) hq])
  refine r_iconst hO dX0_membersOf_0 ic_0 ?_
  refine s_istore_n hL hO dX0_membersOf_1 (Nat.le_of_ble_eq_true rfl) rfl ?_
  refine r_iconst hO dX0_membersOf_2 ic_0 ?_
  refine s_istore_n hL hO dX0_membersOf_3 (Nat.le_of_ble_eq_true rfl) rfl ?_
  exact loop ms 0 0 rfl (Nat.zero_le _) rfl
set_option maxHeartbeats 4000000 in
theorem zX0_sumOf (l : Launch) {M : Mm} {p : Nat} (hp : nuP p) {ms : List Mb} {mo day am : Nat} (R : CN M p ms mo day am) {x : Int32} (k : Nat) (hx : x = nI k) (hk : k < 4) : CFz l 1 yX0_sumOf cX0_sumOf 4 (some .int) [.ref p, .int x] M (some (.int (nI (sumK k ms)))) (M) := by
  refine Clz.on RX0 rfl (by decide +kernel) (Nat.le_of_ble_eq_true rfl) (fun X hL hO hr => ?_)
  show Gz X 0 [.ref p, .int x, .null, .null] [] M
  have loop : ∀ (rest : List Mb) (i m : Nat), ms.drop i = rest → i ≤ ms.length → m + sumK k rest = sumK k ms → Gz X 4 [.ref p, .int x, .int (nI m), .int (nI i)] [] M := by
    intro rest
    induction rest with
    | nil =>
      intro i m hd hi hm
      have hi := drop_nil hd hi
      refine r_iload_n hO dX0_sumOf_4 rfl ?_
      refine r_aload_n hO dX0_sumOf_5 rfl ?_
      refine r_getI hO dX0_sumOf_6 fRX0_21 (nu_I3 hp) ?_
      refine r_icmp_ge 27 hO dX0_sumOf_9 (by decide) (fun _ => ?_) (fun z => absurd (by rw [R.2.2.1, hi]; exact nI_le (Nat.le_refl _) (by have := R.1; omega)) z)
      refine r_iload_n hO dX0_sumOf_27 rfl ?_
      exact r_ireturn hO hr dX0_sumOf_28 rfl ⟨sI (by rw [← hm]; simp [sumK]), rfl⟩
    | cons b bs ih =>
      intro i m hd hi hm
      obtain ⟨hb, hd2, hlt⟩ := drop_cons hd
      refine r_iload_n hO dX0_sumOf_4 rfl ?_
      refine r_aload_n hO dX0_sumOf_5 rfl ?_
      refine r_getI hO dX0_sumOf_6 fRX0_21 (nu_I3 hp) ?_
      refine r_icmp_ge 27 hO dX0_sumOf_9 (by decide) (fun z => absurd z (by rw [R.2.2.1]; exact nI_ge hlt (by have := R.1; omega))) (fun _ => ?_)
      refine r_iload_n hO dX0_sumOf_12 rfl ?_
      refine r_aload_n hO dX0_sumOf_13 rfl ?_
      refine r_iload_n hO dX0_sumOf_14 rfl ?_
      refine r_iload_n hO dX0_sumOf_15 rfl ?_
      refine r_fV hO dX0_sumOf_16 kRX0_47 miX0_part (zX0_partR _ hp R k hb rfl hx hk) ⟨Nat.le_of_ble_eq_true rfl, Nat.le_of_ble_eq_true rfl, rfl, Nat.le_of_ble_eq_true rfl⟩ (nu_o hp) rfl ?_
      refine r_iadd hO dX0_sumOf_19 ?_
      refine s_istore_n hL hO dX0_sumOf_20 (Nat.le_of_ble_eq_true rfl) rfl ?_
      refine s_iinc hL hO dX0_sumOf_21 rfl ic_1 (Nat.le_of_ble_eq_true rfl) rfl ?_
      refine r_goto 4 hO dX0_sumOf_24 (by decide) ?_
      show Gz X 4 [.ref p, .int x, .int (nI m + nI (fld k b)), .int (nI i + 1)] [] M
      rw [nI_add, nI_1]
      exact ih (i + 1) _ hd2 (by omega) (by rw [← hm]; simp [sumK]; omega)
  refine r_iconst hO dX0_sumOf_0 ic_0 ?_
  refine s_istore_n hL hO dX0_sumOf_1 (Nat.le_of_ble_eq_true rfl) rfl ?_
  refine r_iconst hO dX0_sumOf_2 ic_0 ?_
  refine s_istore_n hL hO dX0_sumOf_3 (Nat.le_of_ble_eq_true rfl) rfl ?_
  exact loop ms 0 0 rfl (Nat.zero_le _) (by simp)
theorem agC_1 {h mo : Nat} {ms : List Mb} (hl : ms.length ≤ 6) (q : nI (cY h mo ms + cN h mo ms) = 0) : (1 : Int32) = bI (agr h mo ms) := by
  have := cY_le h mo ms
  have := cN_le h mo ms
  rw [show (0 : Int32) = nI 0 from rfl, nI_eq (by omega) (by omega)] at q
  rw [agr, decide_eq_true (Or.inr q)]; rfl
theorem iI_pos {a b : Nat} (ha : a ≤ 6) (hb : b ≤ 6) : (iI ((a : Int) - (b : Int)) ≤ 0) ↔ a ≤ b := by
  have key : ∀ a : Nat, a < 7 → ∀ b : Nat, b < 7 → ((iI ((a : Int) - (b : Int)) ≤ 0) ↔ a ≤ b) := by decide +kernel
  exact key a (by omega) b (by omega)
theorem agC_2 {h mo : Nat} {ms : List Mb} (hl : ms.length ≤ 6) (q : ¬ nI (cY h mo ms + cN h mo ms) = 0) (q2 : iI ((cY h mo ms : Int) - (cN h mo ms : Int)) ≤ 0) : (0 : Int32) = bI (agr h mo ms) := by
  have h1 := cY_le h mo ms
  have h2 := cN_le h mo ms
  rw [iI_pos (by omega) (by omega)] at q2
  rw [agr, decide_eq_false (fun z => z.elim (fun z => by omega) (fun z => q (by rw [z]; rfl)))]; rfl
theorem agC_3 {h mo : Nat} {ms : List Mb} (hl : ms.length ≤ 6) (q2 : ¬ iI ((cY h mo ms : Int) - (cN h mo ms : Int)) ≤ 0) : (1 : Int32) = bI (agr h mo ms) := by
  have h1 := cY_le h mo ms
  have h2 := cN_le h mo ms
  rw [iI_pos (by omega) (by omega)] at q2
  rw [agr, decide_eq_true (Or.inl (by omega))]; rfl
theorem cYc (h mo : Nat) (b : Mb) (bs : List Mb) : cY h mo (b :: bs) = cY h mo bs + (if (inH h b && vt b mo) = true then 1 else 0) := by unfold cY; rw [List.countP_cons]
theorem cNc (h mo : Nat) (b : Mb) (bs : List Mb) : cN h mo (b :: bs) = cN h mo bs + (if (inH h b && !vt b mo) = true then 1 else 0) := by unfold cN; rw [List.countP_cons]
set_option maxHeartbeats 4000000 in
theorem zX0_agrees (l : Launch) {M : Mm} {p : Nat} (hp : nuP p) {ms : List Mb} {mo day am : Nat} (R : CN M p ms mo day am) {x : Int32} (h : Nat) (hx : x = nI h) (hh : h < 2) : CFz l 1 yX0_agrees cX0_agrees 5 (some .boolean) [.ref p, .int x] M (some (.int (bI (agr h mo ms)))) (M) := by
  refine Clz.on RX0 rfl (by decide +kernel) (Nat.le_of_ble_eq_true rfl) (fun X hL hO hr => ?_)
  show Gz X 0 [.ref p, .int x, .null, .null, .null] [] M
  have loop : ∀ (rest : List Mb) (i u : Nat) (z : Int), ms.drop i = rest → i ≤ ms.length → (u + (cY h mo rest + cN h mo rest) = cY h mo ms + cN h mo ms ∧ z + ((cY h mo rest : Int) - (cN h mo rest : Int)) = (cY h mo ms : Int) - (cN h mo ms : Int)) → Gz X 7 [.ref p, .int x, .int (nI u), .int (iI z), .int (nI i)] [] M := by
    intro rest
    induction rest with
    | nil =>
      intro i u z hd hi hm
      have hi := drop_nil hd hi
      refine r_iload hO dX0_agrees_7 rfl ?_
      refine r_aload_n hO dX0_agrees_9 rfl ?_
      refine r_getI hO dX0_agrees_10 fRX0_21 (nu_I3 hp) ?_
      refine r_icmp_ge 57 hO dX0_agrees_13 (by decide) (fun _ => ?_) (fun z => absurd (by rw [R.2.2.1, hi]; exact nI_le (Nat.le_refl _) (by have := R.1; omega)) z)
      rw [show u = cY h mo ms + cN h mo ms from by rw [← hm.1]; simp [cY, cN], show z = (cY h mo ms : Int) - (cN h mo ms : Int) from by rw [← hm.2]; simp [cY, cN]]
      refine r_iload_n hO dX0_agrees_57 rfl ?_
      refine r_if_eq 65 hO dX0_agrees_58 (by decide) (fun h58 => ?_) (fun h58 => ?_)
      · refine r_iconst hO dX0_agrees_65 ic_1 ?_
        refine r_goto 70 hO dX0_agrees_66 (by decide) ?_
        exact r_ireturn hO hr dX0_agrees_70 rfl ⟨sI (agC_1 R.1 h58), rfl⟩
      · refine r_iload_n hO dX0_agrees_61 rfl ?_
        refine r_if_le 69 hO dX0_agrees_62 (by decide) (fun h62 => ?_) (fun h62 => ?_)
        · refine r_iconst hO dX0_agrees_69 ic_0 ?_
          exact r_ireturn hO hr dX0_agrees_70 rfl ⟨sI (agC_2 R.1 h58 h62), rfl⟩
        · refine r_iconst hO dX0_agrees_65 ic_1 ?_
          refine r_goto 70 hO dX0_agrees_66 (by decide) ?_
          exact r_ireturn hO hr dX0_agrees_70 rfl ⟨sI (agC_3 R.1 h62), rfl⟩
    | cons b bs ih =>
      intro i u z hd hi hm
      obtain ⟨hb, hd2, hlt⟩ := drop_cons hd
      refine r_iload hO dX0_agrees_7 rfl ?_
      refine r_aload_n hO dX0_agrees_9 rfl ?_
      refine r_getI hO dX0_agrees_10 fRX0_21 (nu_I3 hp) ?_
      refine r_icmp_ge 57 hO dX0_agrees_13 (by decide) (fun z => absurd z (by rw [R.2.2.1]; exact nI_ge hlt (by have := R.1; omega))) (fun _ => ?_)
      refine r_aload_n hO dX0_agrees_16 rfl ?_
      refine r_iload hO dX0_agrees_17 rfl ?_
      refine r_iconst hO dX0_agrees_19 ic_1 ?_
      refine r_fV hO dX0_agrees_20 kRX0_47 miX0_part (zX0_partR _ hp R 1 hb rfl rfl (by decide)) ⟨Nat.le_of_ble_eq_true rfl, Nat.le_of_ble_eq_true rfl, rfl, Nat.le_of_ble_eq_true rfl⟩ (nu_o hp) rfl ?_
      refine r_iload_n hO dX0_agrees_23 rfl ?_
      refine r_icmp_ne 51 hO dX0_agrees_24 (by decide) (fun h24 => ?_) (fun h24 => ?_)
      · rw [hx, show fld 1 b = b.2.1 from rfl, nI_eq (by have := (R.2.1 i b hb).2.2.2.2.2.1; omega) (by omega)] at h24
        have hq : inH h b = false := by simp [inH, h24]
        refine s_iinc hL hO dX0_agrees_51 rfl ic_1 (Nat.le_of_ble_eq_true rfl) rfl ?_
        refine r_goto 7 hO dX0_agrees_54 (by decide) ?_
        show Gz X 7 [.ref p, .int x, .int (nI u), .int (iI z), .int (nI i + 1)] [] M
        rw [nI_1]
        exact ih (i + 1) u z hd2 (by omega) (by rw [← hm.1, ← hm.2, cYc, cNc, hq]; simp)
      · rw [hx, show fld 1 b = b.2.1 from rfl, nI_eq (by have := (R.2.1 i b hb).2.2.2.2.2.1; omega) (by omega)] at h24
        have hq : inH h b = true := by simp [inH, h24]
        refine s_iinc hL hO dX0_agrees_27 rfl ic_1 (Nat.le_of_ble_eq_true rfl) rfl ?_
        refine r_iload_n hO dX0_agrees_30 rfl ?_
        refine r_aload_n hO dX0_agrees_31 rfl ?_
        refine r_iload hO dX0_agrees_32 rfl ?_
        refine r_aload_n hO dX0_agrees_34 rfl ?_
        refine r_getI hO dX0_agrees_35 fRX0_25 (nu_I4 hp) ?_
        refine r_fV hO dX0_agrees_38 kRX0_51 miX0_votesFor (zX0_votesR _ hp R mo hb rfl R.2.2.2.1.1 R.2.2.2.1.2) ⟨Nat.le_of_ble_eq_true rfl, Nat.le_of_ble_eq_true rfl, rfl, Nat.le_of_ble_eq_true rfl⟩ (nu_o hp) rfl ?_
        refine r_if_eq 48 hO dX0_agrees_41 (by decide) (fun h41 => ?_) (fun h41 => ?_)
        · rw [bI_0] at h41
          refine r_iconst hO dX0_agrees_48 ic_m1 ?_
          refine r_iadd hO dX0_agrees_49 ?_
          refine s_istore_n hL hO dX0_agrees_50 (Nat.le_of_ble_eq_true rfl) rfl ?_
          refine s_iinc hL hO dX0_agrees_51 rfl ic_1 (Nat.le_of_ble_eq_true rfl) rfl ?_
          refine r_goto 7 hO dX0_agrees_54 (by decide) ?_
          show Gz X 7 [.ref p, .int x, .int (nI u + 1), .int (iI z + -1), .int (nI i + 1)] [] M
          rw [nI_1, nI_1, show (-1 : Int32) = iI (-1) from by decide, iI_add]
          exact ih (i + 1) (u + 1) _ hd2 (by omega) (by rw [← hm.1, ← hm.2, cYc, cNc, hq, h41]; simp; omega)
        · rw [bI_n0] at h41
          refine r_iconst hO dX0_agrees_44 ic_1 ?_
          refine r_goto 49 hO dX0_agrees_45 (by decide) ?_
          refine r_iadd hO dX0_agrees_49 ?_
          refine s_istore_n hL hO dX0_agrees_50 (Nat.le_of_ble_eq_true rfl) rfl ?_
          refine s_iinc hL hO dX0_agrees_51 rfl ic_1 (Nat.le_of_ble_eq_true rfl) rfl ?_
          refine r_goto 7 hO dX0_agrees_54 (by decide) ?_
          show Gz X 7 [.ref p, .int x, .int (nI u + 1), .int (iI z + 1), .int (nI i + 1)] [] M
          rw [nI_1, nI_1, show (1 : Int32) = iI (1) from by decide, iI_add]
          exact ih (i + 1) (u + 1) _ hd2 (by omega) (by rw [← hm.1, ← hm.2, cYc, cNc, hq, h41]; simp; omega)
  refine r_iconst hO dX0_agrees_0 ic_0 ?_
  refine s_istore_n hL hO dX0_agrees_1 (Nat.le_of_ble_eq_true rfl) rfl ?_
  refine r_iconst hO dX0_agrees_2 ic_0 ?_
  refine s_istore_n hL hO dX0_agrees_3 (Nat.le_of_ble_eq_true rfl) rfl ?_
  refine r_iconst hO dX0_agrees_4 ic_0 ?_
  refine s_istore hL hO dX0_agrees_5 (Nat.le_of_ble_eq_true rfl) rfl ?_
  exact loop ms 0 0 0 rfl (Nat.zero_le _) (by simp)
set_option maxHeartbeats 4000000 in
theorem zX0_isCarried (l : Launch) {M : Mm} {p : Nat} (hp : nuP p) {ms : List Mb} {mo day am : Nat} (R : CN M p ms mo day am) : CFz l 2 yX0_isCarried cX0_isCarried 1 (some .boolean) [.ref p] M (some (.int (bI (car mo ms)))) (M) := by
  refine Clz.on RX0 rfl (by decide +kernel) (Nat.le_of_ble_eq_true rfl) (fun X hL hO hr => ?_)
  show Gz X 0 [.ref p] [] M
  refine r_aload_n hO dX0_isCarried_0 rfl ?_
  refine r_iconst hO dX0_isCarried_1 ic_0 ?_
  refine r_fV hO dX0_isCarried_2 kRX0_55 miX0_agrees (zX0_agrees _ hp R 0 rfl (by decide)) ⟨Nat.le_of_ble_eq_true rfl, Nat.le_of_ble_eq_true rfl, rfl, Nat.le_of_ble_eq_true rfl⟩ (nu_o hp) rfl ?_
  refine r_if_eq 20 hO dX0_isCarried_5 (by decide) (fun h5 => ?_) (fun h5 => ?_)
  · rw [bI_0] at h5
    refine r_iconst hO dX0_isCarried_20 ic_0 ?_
    exact r_ireturn hO hr dX0_isCarried_21 rfl ⟨sI (by simp [car, bI, h5]), rfl⟩
  · rw [bI_n0] at h5
    refine r_aload_n hO dX0_isCarried_8 rfl ?_
    refine r_iconst hO dX0_isCarried_9 ic_1 ?_
    refine r_fV hO dX0_isCarried_10 kRX0_55 miX0_agrees (zX0_agrees _ hp R 1 rfl (by decide)) ⟨Nat.le_of_ble_eq_true rfl, Nat.le_of_ble_eq_true rfl, rfl, Nat.le_of_ble_eq_true rfl⟩ (nu_o hp) rfl ?_
    refine r_if_eq 20 hO dX0_isCarried_13 (by decide) (fun h13 => ?_) (fun h13 => ?_)
    · rw [bI_0] at h13
      refine r_iconst hO dX0_isCarried_20 ic_0 ?_
      exact r_ireturn hO hr dX0_isCarried_21 rfl ⟨sI (by simp [car, bI, h5, h13]), rfl⟩
    · rw [bI_n0] at h13
      refine r_iconst hO dX0_isCarried_16 ic_1 ?_
      refine r_goto 21 hO dX0_isCarried_17 (by decide) ?_
      exact r_ireturn hO hr dX0_isCarried_21 rfl ⟨sI (by simp [car, bI, h5, h13]), rfl⟩
set_option maxHeartbeats 4000000 in
theorem zX0_agreeingHouses (l : Launch) {M : Mm} {p : Nat} (hp : nuP p) {ms : List Mb} {mo day am : Nat} (R : CN M p ms mo day am) : CFz l 2 yX0_agreeingHouses cX0_agreeingHouses 1 (some .int) [.ref p] M (some (.int (bI (agr 0 mo ms) + 2 * bI (agr 1 mo ms)))) (M) := by
  refine Clz.on RX0 rfl (by decide +kernel) (Nat.le_of_ble_eq_true rfl) (fun X hL hO hr => ?_)
  show Gz X 0 [.ref p] [] M
  refine r_aload_n hO dX0_agreeingHouses_0 rfl ?_
  refine r_iconst hO dX0_agreeingHouses_1 ic_0 ?_
  refine r_fV hO dX0_agreeingHouses_2 kRX0_55 miX0_agrees (zX0_agrees _ hp R 0 rfl (by decide)) ⟨Nat.le_of_ble_eq_true rfl, Nat.le_of_ble_eq_true rfl, rfl, Nat.le_of_ble_eq_true rfl⟩ (nu_o hp) rfl ?_
  refine r_fS hO dX0_agreeingHouses_5 kRX0_59 msX4_bit (zX4_bit _ (agr 0 mo ms) rfl) ⟨Nat.le_of_ble_eq_true rfl, Nat.le_of_ble_eq_true rfl, rfl, Nat.le_of_ble_eq_true rfl⟩ rfl ?_
  refine r_iconst hO dX0_agreeingHouses_8 ic_2 ?_
  refine r_aload_n hO dX0_agreeingHouses_9 rfl ?_
  refine r_iconst hO dX0_agreeingHouses_10 ic_1 ?_
  refine r_fV hO dX0_agreeingHouses_11 kRX0_55 miX0_agrees (zX0_agrees _ hp R 1 rfl (by decide)) ⟨Nat.le_of_ble_eq_true rfl, Nat.le_of_ble_eq_true rfl, rfl, Nat.le_of_ble_eq_true rfl⟩ (nu_o hp) rfl ?_
  refine r_fS hO dX0_agreeingHouses_14 kRX0_59 msX4_bit (zX4_bit _ (agr 1 mo ms) rfl) ⟨Nat.le_of_ble_eq_true rfl, Nat.le_of_ble_eq_true rfl, rfl, Nat.le_of_ble_eq_true rfl⟩ rfl ?_
  refine r_imul hO dX0_agreeingHouses_17 ?_
  refine r_iadd hO dX0_agreeingHouses_18 ?_
  exact r_ireturn hO hr dX0_agreeingHouses_19 rfl ⟨rfl, rfl⟩
set_option maxHeartbeats 4000000 in
theorem zX0_pull (l : Launch) {M : Mm} {p : Nat} (hp : nuP p) {x : Int32} (a : Nat) (hx : x = nI a) (ha : a < 6) : CFz l 1 yX0_pull cX0_pull 5 (some .int) [.ref p, .int x] M (some (.int (pcI (M.1 (p + 1) (4 * a)) (M.1 (p + 1) (4 * a + 2) - M.1 p 4)))) (M) := by
  refine Clz.on RX0 rfl (by decide +kernel) (Nat.le_of_ble_eq_true rfl) (fun X hL hO hr => ?_)
  show Gz X 0 [.ref p, .int x, .null, .null, .null] [] M
  refine r_aload_n hO dX0_pull_0 rfl ?_
  refine r_iload_n hO dX0_pull_1 rfl ?_
  refine r_iconst hO dX0_pull_2 ic_2 ?_
  refine r_fV hO dX0_pull_3 kRX0_47 miX0_part (zX0_part _ hp a 2 hx rfl (by omega)) ⟨Nat.le_of_ble_eq_true rfl, Nat.le_of_ble_eq_true rfl, rfl, Nat.le_of_ble_eq_true rfl⟩ (nu_o hp) rfl ?_
  refine r_aload_n hO dX0_pull_6 rfl ?_
  refine r_getI hO dX0_pull_7 fRX0_25 (nu_I4 hp) ?_
  refine r_isub hO dX0_pull_10 ?_
  refine s_istore_n hL hO dX0_pull_11 (Nat.le_of_ble_eq_true rfl) rfl ?_
  refine r_iload_n hO dX0_pull_12 rfl ?_
  refine r_fS hO dX0_pull_13 kRX0_63 msX4_sign (zX4_sign _) ⟨Nat.le_of_ble_eq_true rfl, Nat.le_of_ble_eq_true rfl, rfl, Nat.le_of_ble_eq_true rfl⟩ rfl ?_
  refine s_istore_n hL hO dX0_pull_16 (Nat.le_of_ble_eq_true rfl) rfl ?_
  refine r_iload_n hO dX0_pull_17 rfl ?_
  refine r_mabs hO dX0_pull_18 xRX0_67 (Nat.le_of_ble_eq_true rfl) (Nat.le_of_ble_eq_true rfl) ?_
  refine r_iconst hO dX0_pull_21 ic_2 ?_
  refine r_icmp_le 29 hO dX0_pull_22 (by decide) (fun h22 => ?_) (fun h22 => ?_)
  · have h22 : abI (M.1 (p + 1) (4 * a + 2) - M.1 p 4) ≤ 2 := h22
    refine r_iconst hO dX0_pull_29 ic_0 ?_
    refine s_istore hL hO dX0_pull_30 (Nat.le_of_ble_eq_true rfl) rfl ?_
    refine r_aload_n hO dX0_pull_32 rfl ?_
    refine r_iload_n hO dX0_pull_33 rfl ?_
    refine r_iconst hO dX0_pull_34 ic_0 ?_
    refine r_fV hO dX0_pull_35 kRX0_47 miX0_part (zX0_part _ hp a 0 hx rfl (by omega)) ⟨Nat.le_of_ble_eq_true rfl, Nat.le_of_ble_eq_true rfl, rfl, Nat.le_of_ble_eq_true rfl⟩ (nu_o hp) rfl ?_
    rcases sw_1_3 (M.1 (p + 1) (4 * a + 0)) with sw38 | sw38 | sw38 | sw38
    · have sq : M.1 (p + 1) (4 * a) = _ := sw38
      refine r_tabIn 64 hO dX0_pull_38 (by rw [sw38]; decide) (by rw [sw38]; decide) (by rw [sw38]; rfl) (by decide) ?_
      refine r_iconst hO dX0_pull_64 ic_2 ?_
      refine r_iload_n hO dX0_pull_65 rfl ?_
      refine r_imul hO dX0_pull_66 ?_
      exact r_ireturn hO hr dX0_pull_67 rfl ⟨sI (by simp [pcI, dcI, sq, h22]), rfl⟩
    · have sq : M.1 (p + 1) (4 * a) = _ := sw38
      refine r_tabIn 68 hO dX0_pull_38 (by rw [sw38]; decide) (by rw [sw38]; decide) (by rw [sw38]; rfl) (by decide) ?_
      refine r_iload hO dX0_pull_68 rfl ?_
      exact r_ireturn hO hr dX0_pull_70 rfl ⟨sI (by simp [pcI, dcI, sq, h22]), rfl⟩
    · have sq : M.1 (p + 1) (4 * a) = _ := sw38
      refine r_tabIn 71 hO dX0_pull_38 (by rw [sw38]; decide) (by rw [sw38]; decide) (by rw [sw38]; rfl) (by decide) ?_
      refine r_iload hO dX0_pull_71 rfl ?_
      refine r_ineg hO dX0_pull_73 ?_
      exact r_ireturn hO hr dX0_pull_74 rfl ⟨sI (by simp [pcI, dcI, sq, h22]), rfl⟩
    · have swn : ¬ M.1 (p + 1) (4 * a) = 1 ∧ ¬ M.1 (p + 1) (4 * a) = 2 ∧ ¬ M.1 (p + 1) (4 * a) = 3 := sw13n sw38
      refine r_tabOut 75 hO dX0_pull_38 sw38 (by decide) ?_
      refine r_iload_n hO dX0_pull_75 rfl ?_
      exact r_ireturn hO hr dX0_pull_76 rfl ⟨sI (by simp [pcI, dcI, swn.1, swn.2.1, swn.2.2, h22]), rfl⟩
  · have h22 : ¬ abI (M.1 (p + 1) (4 * a + 2) - M.1 p 4) ≤ 2 := h22
    refine r_iload_n hO dX0_pull_25 rfl ?_
    refine r_goto 30 hO dX0_pull_26 (by decide) ?_
    refine s_istore hL hO dX0_pull_30 (Nat.le_of_ble_eq_true rfl) rfl ?_
    refine r_aload_n hO dX0_pull_32 rfl ?_
    refine r_iload_n hO dX0_pull_33 rfl ?_
    refine r_iconst hO dX0_pull_34 ic_0 ?_
    refine r_fV hO dX0_pull_35 kRX0_47 miX0_part (zX0_part _ hp a 0 hx rfl (by omega)) ⟨Nat.le_of_ble_eq_true rfl, Nat.le_of_ble_eq_true rfl, rfl, Nat.le_of_ble_eq_true rfl⟩ (nu_o hp) rfl ?_
    rcases sw_1_3 (M.1 (p + 1) (4 * a + 0)) with sw38 | sw38 | sw38 | sw38
    · have sq : M.1 (p + 1) (4 * a) = _ := sw38
      refine r_tabIn 64 hO dX0_pull_38 (by rw [sw38]; decide) (by rw [sw38]; decide) (by rw [sw38]; rfl) (by decide) ?_
      refine r_iconst hO dX0_pull_64 ic_2 ?_
      refine r_iload_n hO dX0_pull_65 rfl ?_
      refine r_imul hO dX0_pull_66 ?_
      exact r_ireturn hO hr dX0_pull_67 rfl ⟨sI (by simp [pcI, dcI, sq, h22]), rfl⟩
    · have sq : M.1 (p + 1) (4 * a) = _ := sw38
      refine r_tabIn 68 hO dX0_pull_38 (by rw [sw38]; decide) (by rw [sw38]; decide) (by rw [sw38]; rfl) (by decide) ?_
      refine r_iload hO dX0_pull_68 rfl ?_
      exact r_ireturn hO hr dX0_pull_70 rfl ⟨sI (by simp [pcI, dcI, sq, h22]), rfl⟩
    · have sq : M.1 (p + 1) (4 * a) = _ := sw38
      refine r_tabIn 71 hO dX0_pull_38 (by rw [sw38]; decide) (by rw [sw38]; decide) (by rw [sw38]; rfl) (by decide) ?_
      refine r_iload hO dX0_pull_71 rfl ?_
      refine r_ineg hO dX0_pull_73 ?_
      exact r_ireturn hO hr dX0_pull_74 rfl ⟨sI (by simp [pcI, dcI, sq, h22]), rfl⟩
    · have swn : ¬ M.1 (p + 1) (4 * a) = 1 ∧ ¬ M.1 (p + 1) (4 * a) = 2 ∧ ¬ M.1 (p + 1) (4 * a) = 3 := sw13n sw38
      refine r_tabOut 75 hO dX0_pull_38 sw38 (by decide) ?_
      refine r_iload_n hO dX0_pull_75 rfl ?_
      exact r_ireturn hO hr dX0_pull_76 rfl ⟨sI (by simp [pcI, dcI, swn.1, swn.2.1, swn.2.2, h22]), rfl⟩
theorem zX0_pullR (l : Launch) {M : Mm} {p : Nat} (hp : nuP p) {ms : List Mb} {mo day am : Nat} (R : CN M p ms mo day am) {x : Int32} {i : Nat} {b : Mb} (hb : ms[i]? = some b) (hx : x = nI i) : CFz l 1 yX0_pull cX0_pull 5 (some .int) [.ref p, .int x] M (some (.int (iI (pl b mo)))) M := by
  rw [← R.2.1.pullC hb R.2.2.2.1.2, ← R.2.2.2.1.1]
  exact zX0_pull l hp i hx (R.a hb)
set_option maxHeartbeats 4000000 in
theorem zX0_pullOf (l : Launch) {M : Mm} {p : Nat} (hp : nuP p) {ms : List Mb} {mo day am : Nat} (R : CN M p ms mo day am) {x : Int32} (h : Nat) (hx : x = nI h) (hh : h < 2) : CFz l 2 yX0_pullOf cX0_pullOf 4 (some .int) [.ref p, .int x] M (some (.int (iI (sP h mo ms)))) (M) := by
  refine Clz.on RX0 rfl (by decide +kernel) (Nat.le_of_ble_eq_true rfl) (fun X hL hO hr => ?_)
  show Gz X 0 [.ref p, .int x, .null, .null] [] M
  have loop : ∀ (rest : List Mb) (i : Nat) (m : Int), ms.drop i = rest → i ≤ ms.length → m + sP h mo rest = sP h mo ms → Gz X 4 [.ref p, .int x, .int (iI m), .int (nI i)] [] M := by
    intro rest
    induction rest with
    | nil =>
      intro i m hd hi hm
      have hi := drop_nil hd hi
      refine r_iload_n hO dX0_pullOf_4 rfl ?_
      refine r_aload_n hO dX0_pullOf_5 rfl ?_
      refine r_getI hO dX0_pullOf_6 fRX0_21 (nu_I3 hp) ?_
      refine r_icmp_ge 36 hO dX0_pullOf_9 (by decide) (fun _ => ?_) (fun z => absurd (by rw [R.2.2.1, hi]; exact nI_le (Nat.le_refl _) (by have := R.1; omega)) z)
      refine r_iload_n hO dX0_pullOf_36 rfl ?_
      exact r_ireturn hO hr dX0_pullOf_37 rfl ⟨sI (by rw [← hm]; simp [sP]), rfl⟩
    | cons b bs ih =>
      intro i m hd hi hm
      obtain ⟨hb, hd2, hlt⟩ := drop_cons hd
      refine r_iload_n hO dX0_pullOf_4 rfl ?_
      refine r_aload_n hO dX0_pullOf_5 rfl ?_
      refine r_getI hO dX0_pullOf_6 fRX0_21 (nu_I3 hp) ?_
      refine r_icmp_ge 36 hO dX0_pullOf_9 (by decide) (fun z => absurd z (by rw [R.2.2.1]; exact nI_ge hlt (by have := R.1; omega))) (fun _ => ?_)
      refine r_aload_n hO dX0_pullOf_12 rfl ?_
      refine r_iload_n hO dX0_pullOf_13 rfl ?_
      refine r_iconst hO dX0_pullOf_14 ic_1 ?_
      refine r_fV hO dX0_pullOf_15 kRX0_47 miX0_part (zX0_partR _ hp R 1 hb rfl rfl (by decide)) ⟨Nat.le_of_ble_eq_true rfl, Nat.le_of_ble_eq_true rfl, rfl, Nat.le_of_ble_eq_true rfl⟩ (nu_o hp) rfl ?_
      refine r_iload_n hO dX0_pullOf_18 rfl ?_
      refine r_icmp_ne 30 hO dX0_pullOf_19 (by decide) (fun h19 => ?_) (fun h19 => ?_)
      · rw [hx, show fld 1 b = b.2.1 from rfl, nI_eq (by have := (R.2.1 i b hb).2.2.2.2.2.1; omega) (by omega)] at h19
        have hq : inH h b = false := by simp [inH, h19]
        refine s_iinc hL hO dX0_pullOf_30 rfl ic_1 (Nat.le_of_ble_eq_true rfl) rfl ?_
        refine r_goto 4 hO dX0_pullOf_33 (by decide) ?_
        show Gz X 4 [.ref p, .int x, .int (iI m), .int (nI i + 1)] [] M
        rw [nI_1]
        exact ih (i + 1) m hd2 (by omega) (by rw [← hm]; simp [sP, hq])
      · rw [hx, show fld 1 b = b.2.1 from rfl, nI_eq (by have := (R.2.1 i b hb).2.2.2.2.2.1; omega) (by omega)] at h19
        have hq : inH h b = true := by simp [inH, h19]
        refine r_iload_n hO dX0_pullOf_22 rfl ?_
        refine r_aload_n hO dX0_pullOf_23 rfl ?_
        refine r_iload_n hO dX0_pullOf_24 rfl ?_
        refine r_fV hO dX0_pullOf_25 kRX0_72 miX0_pull (zX0_pullR _ hp R hb rfl) ⟨Nat.le_of_ble_eq_true rfl, Nat.le_of_ble_eq_true rfl, rfl, Nat.le_of_ble_eq_true rfl⟩ (nu_o hp) rfl ?_
        refine r_iadd hO dX0_pullOf_28 ?_
        refine s_istore_n hL hO dX0_pullOf_29 (Nat.le_of_ble_eq_true rfl) rfl ?_
        refine s_iinc hL hO dX0_pullOf_30 rfl ic_1 (Nat.le_of_ble_eq_true rfl) rfl ?_
        refine r_goto 4 hO dX0_pullOf_33 (by decide) ?_
        show Gz X 4 [.ref p, .int x, .int (iI m + iI (pl b mo)), .int (nI i + 1)] [] M
        rw [iI_add, nI_1]
        exact ih (i + 1) _ hd2 (by omega) (by rw [← hm]; simp [sP, hq, Int.add_assoc])
  refine r_iconst hO dX0_pullOf_0 ic_0 ?_
  refine s_istore_n hL hO dX0_pullOf_1 (Nat.le_of_ble_eq_true rfl) rfl ?_
  refine r_iconst hO dX0_pullOf_2 ic_0 ?_
  refine s_istore_n hL hO dX0_pullOf_3 (Nat.le_of_ble_eq_true rfl) rfl ?_
  exact loop ms 0 0 rfl (Nat.zero_le _) (by simp)
end
section
/-! the class's Nut: days -/
theorem tiC_d : ∀ k, k < 4 → ∀ s, s < 21 → (if nI s + tirz k < 20 then nI s + tirz k else 20) = nI (min 20 (s + ti k)) := by decide +kernel
def toI (y : Int32) : Int32 := if 0 < (if y < 20 then y else 20) then (if y < 20 then y else 20) else 0
theorem toI_d : ∀ mo, mo < 21 → ∀ k : Nat, k < 3 → toI (nI mo + iI ((k : Int) - 1)) = nI (nmz mo ((k : Int) - 1)) := by decide +kernel
theorem toI_eq {mo : Nat} {z : Int} (hm : mo ≤ 20) : toI (nI mo + iI (sg z)) = nI (nmz mo (sg z)) := by
  obtain ⟨k, hk, e⟩ := sg_k z
  rw [e]
  exact toI_d mo (by omega) k hk
theorem amC_d : ∀ a, a < 1000 → (if nI a + 1 < 999 then nI a + 1 else 999) = nI (min 999 (a + 1)) := by decide +kernel
theorem CN.ptm {M : Mm} {p : Nat} (hp : nuP p) {ms : List Mb} {mo day am : Nat} (R : CN M p ms mo day am) {i : Nat} {b : Mb} (hb : ms[i]? = some b) {s : Nat} (hs : s ≤ 20) : CN (mput M (p + 1) (4 * i + 3) (nI s)) p (ms.set i (b.1, b.2.1, b.2.2.1, s)) mo day am := by
  obtain ⟨h1, h2, h3, h4, h5, h6⟩ := R
  have k : ∀ j, (mput M (p + 1) (4 * i + 3) (nI s)).1 p j = M.1 p j := fun j => by rw [mpg, if_neg (fun z => by omega)]
  exact ⟨by rw [List.length_set]; exact h1, by rw [mput_at]; exact h2.set3 hb hs, by rw [k, List.length_set]; exact h3, by rw [k]; exact h4, by rw [k]; exact h5, by rw [k]; exact h6⟩
theorem CN.change {M : Mm} {p : Nat} (hp : nuP p) {ms : List Mb} {mo day am : Nat} (R : CN M p ms mo day am) {m2 a2 : Nat} (hm : m2 ≤ 20) (ha : a2 ≤ 999) : CN (mput (mput M p 4 (nI m2)) p 6 (nI a2)) p ms m2 day a2 := by
  obtain ⟨h1, h2, h3, h4, h5, h6⟩ := R
  refine ⟨h1, ?_, by simp [mpg, h3], ⟨by simp [mpg], hm⟩, ⟨by simp [mpg, h5.1], h5.2⟩, ⟨by simp [mpg], ha⟩⟩
  rw [mput_ne _ (by omega), mput_ne _ (by omega)]; exact h2
theorem CN.day {M : Mm} {p : Nat} (hp : nuP p) {ms : List Mb} {mo day am : Nat} (R : CN M p ms mo day am) (hd : day < 100000) : CN (mput M p 5 (nI (day + 1))) p ms mo (day + 1) am := by
  obtain ⟨h1, h2, h3, h4, h5, h6⟩ := R
  refine ⟨h1, ?_, by simp [mpg, h3], ⟨by simp [mpg, h4.1], h4.2⟩, ⟨by simp [mpg], by omega⟩, ⟨by simp [mpg, h6.1], h6.2⟩⟩
  rw [mput_ne _ (by omega)]; exact h2
def CV (M : Mm) (p : Nat) (s : Ns) : Prop := CN M p s.1 s.2.1 s.2.2.1 s.2.2.2.1
theorem dayS_ch2 (s : Ns) : s.2.2.2.2 ≤ (dayS s).2.2.2.2 := by
  unfold dayS
  split
  · exact Nat.le_refl _
  · dsimp only
    split <;> omega
def dtC (j : Nat) : Option Nat → Int32
  | some k => nI (j + k)
  | none => 61
theorem dtC_s (j : Nat) (o : Option Nat) : dtC j (o.map (· + 1)) = dtC (j + 1) o := by
  cases o with
  | none => rfl
  | some k => show nI (j + (k + 1)) = nI (j + 1 + k); congr 1; omega
set_option maxHeartbeats 4000000 in
theorem zX0_tire (l : Launch) {M : Mm} {p : Nat} (hp : nuP p) {ms : List Mb} {mo day am : Nat} (R : CN M p ms mo day am) {x : Int32} {i : Nat} {b : Mb} (hb : ms[i]? = some b) (hx : x = nI i) : CFz l 1 yX0_tire cX0_tire 2 none [.ref p, .int x] M (none) (if vt b mo = true then M else mput M (p + 1) (4 * i + 3) (nI (min 20 (b.2.2.2 + ti b.1)))) := by
  refine Clz.on RX0 rfl (by decide +kernel) (Nat.le_of_ble_eq_true rfl) (fun X hL hO hr => ?_)
  show Gz X 0 [.ref p, .int x] [] M
  refine r_aload_n hO dX0_tire_0 rfl ?_
  refine r_iload_n hO dX0_tire_1 rfl ?_
  refine r_aload_n hO dX0_tire_2 rfl ?_
  refine r_getI hO dX0_tire_3 fRX0_25 (nu_I4 hp) ?_
  refine r_fV hO dX0_tire_6 kRX0_51 miX0_votesFor (zX0_votesR _ hp R mo hb hx R.2.2.2.1.1 R.2.2.2.1.2) ⟨Nat.le_of_ble_eq_true rfl, Nat.le_of_ble_eq_true rfl, rfl, Nat.le_of_ble_eq_true rfl⟩ (nu_o hp) rfl ?_
  refine r_if_ne 40 hO dX0_tire_9 (by decide) (fun h9 => ?_) (fun h9 => ?_)
  · rw [bI_n0] at h9
    exact r_return hO hr dX0_tire_40 ⟨rfl, by rw [if_pos h9]⟩
  · rw [bI_0] at h9
    refine r_aload_n hO dX0_tire_12 rfl ?_
    refine r_iload_n hO dX0_tire_13 rfl ?_
    refine r_iconst hO dX0_tire_14 ic_3 ?_
    refine r_bipush hO dX0_tire_15 bc_20 ?_
    refine r_aload_n hO dX0_tire_17 rfl ?_
    refine r_iload_n hO dX0_tire_18 rfl ?_
    refine r_iconst hO dX0_tire_19 ic_3 ?_
    refine r_fV hO dX0_tire_20 kRX0_47 miX0_part (zX0_partR _ hp R 3 hb hx rfl (by decide)) ⟨Nat.le_of_ble_eq_true rfl, Nat.le_of_ble_eq_true rfl, rfl, Nat.le_of_ble_eq_true rfl⟩ (nu_o hp) rfl ?_
    refine r_getTir hO dX0_tire_23 sRX0_92 ?_
    refine r_aload_n hO dX0_tire_26 rfl ?_
    refine r_iload_n hO dX0_tire_27 rfl ?_
    refine r_iconst hO dX0_tire_28 ic_0 ?_
    refine r_fV hO dX0_tire_29 kRX0_47 miX0_part (zX0_partR _ hp R 0 hb hx rfl (by decide)) ⟨Nat.le_of_ble_eq_true rfl, Nat.le_of_ble_eq_true rfl, rfl, Nat.le_of_ble_eq_true rfl⟩ (nu_o hp) rfl ?_
    refine s_tirld hO dX0_tire_32 b.1 rfl (by have := (R.2.1 i b hb).2.2.2.2.1; omega) ?_
    refine r_iadd hO dX0_tire_33 ?_
    refine r_mmin hO dX0_tire_34 xRX0_95 (Nat.le_of_ble_eq_true rfl) (Nat.le_of_ble_eq_true rfl) ?_
    rw [show fld 3 b = b.2.2.2 from rfl, tiC_d b.1 (by have := (R.2.1 i b hb).2.2.2.2.1; omega) _ (by have := (R.2.1 i b hb).2.2.2.2.2.2.2; omega)]
    refine r_fV hO dX0_tire_37 kRX0_43 miX0_put (zX0_put _ hp i 3 hx rfl (by have := R.a hb; omega) (by decide)) ⟨Nat.le_of_ble_eq_true rfl, Nat.le_of_ble_eq_true rfl, rfl, Nat.le_of_ble_eq_true rfl⟩ (nu_o hp) rfl ?_
    exact r_return hO hr dX0_tire_40 ⟨rfl, by rw [if_neg (by rw [h9]; decide)]⟩
set_option maxHeartbeats 4000000 in
theorem zX0_amend (l : Launch) {M : Mm} {p : Nat} (hp : nuP p) {ms : List Mb} {mo day am : Nat} (R : CN M p ms mo day am) {x : Int32} (z : Int) (hx : x = iI (sg z)) : CFz l 1 yX0_amend cX0_amend 3 (some .int) [.ref p, .int x] M (some (.int (if nmz mo (sg z) = mo then 0 else 1))) (if nmz mo (sg z) = mo then M else mput (mput M p 4 (nI (nmz mo (sg z)))) p 6 (nI (min 999 (am + 1)))) := by
  refine Clz.on RX0 rfl (by decide +kernel) (Nat.le_of_ble_eq_true rfl) (fun X hL hO hr => ?_)
  show Gz X 0 [.ref p, .int x, .null] [] M
  refine r_iconst hO dX0_amend_0 ic_0 ?_
  refine r_bipush hO dX0_amend_1 bc_20 ?_
  refine r_aload_n hO dX0_amend_3 rfl ?_
  refine r_getI hO dX0_amend_4 fRX0_25 (nu_I4 hp) ?_
  refine r_iload_n hO dX0_amend_7 rfl ?_
  refine r_iadd hO dX0_amend_8 ?_
  refine r_mmin hO dX0_amend_9 xRX0_95 (Nat.le_of_ble_eq_true rfl) (Nat.le_of_ble_eq_true rfl) ?_
  refine r_mmax hO dX0_amend_12 xRX0_98 (Nat.le_of_ble_eq_true rfl) (Nat.le_of_ble_eq_true rfl) ?_
  rw [R.2.2.2.1.1, hx]
  change Gz X _ _ (.int (toI (nI mo + iI (sg z))) :: _) _
  rw [toI_eq R.2.2.2.1.2]
  refine s_istore_n hL hO dX0_amend_15 (Nat.le_of_ble_eq_true rfl) rfl ?_
  refine r_iload_n hO dX0_amend_16 rfl ?_
  refine r_aload_n hO dX0_amend_17 rfl ?_
  refine r_getI hO dX0_amend_18 fRX0_25 (nu_I4 hp) ?_
  refine r_icmp_ne 26 hO dX0_amend_21 (by decide) (fun h21 => ?_) (fun h21 => ?_)
  · rw [R.2.2.2.1.1, nI_eq (by have := nmz_le (sg z) R.2.2.2.1.2; omega) (by have := R.2.2.2.1.2; omega)] at h21
    refine r_aload_n hO dX0_amend_26 rfl ?_
    refine r_iload_n hO dX0_amend_27 rfl ?_
    refine r_putI hO dX0_amend_28 fRX0_25 (nu_I4 hp) ?_
    refine r_aload_n hO dX0_amend_31 rfl ?_
    refine r_sipush hO dX0_amend_32 sc_999 ?_
    refine r_aload_n hO dX0_amend_35 rfl ?_
    refine r_getI hO dX0_amend_36 fRX0_31 (nu_I6 hp) ?_
    refine r_iconst hO dX0_amend_39 ic_1 ?_
    refine r_iadd hO dX0_amend_40 ?_
    refine r_mmin hO dX0_amend_41 xRX0_95 (Nat.le_of_ble_eq_true rfl) (Nat.le_of_ble_eq_true rfl) ?_
    rw [show (mput M p 4 (nI (nmz mo (sg z)))).1 p 6 = nI am from by rw [mpg, if_neg (by omega)]; exact R.2.2.2.2.2.1, amC_d am (by have := R.2.2.2.2.2.2; omega)]
    refine r_putI hO dX0_amend_44 fRX0_31 (nu_I6 hp) ?_
    refine r_iconst hO dX0_amend_47 ic_1 ?_
    exact r_ireturn hO hr dX0_amend_48 rfl ⟨by rw [if_neg h21], by rw [if_neg h21]⟩
  · rw [R.2.2.2.1.1, nI_eq (by have := nmz_le (sg z) R.2.2.2.1.2; omega) (by have := R.2.2.2.1.2; omega)] at h21
    refine r_iconst hO dX0_amend_24 ic_0 ?_
    exact r_ireturn hO hr dX0_amend_25 rfl ⟨by rw [if_pos h21], by rw [if_pos h21]⟩
set_option maxHeartbeats 4000000 in
theorem zX0_sit (l : Launch) {M : Mm} {p : Nat} (hp : nuP p) {ms : List Mb} {mo day am : Nat} (R : CN M p ms mo day am) {x : Int32} (h : Nat) (hx : x = nI h) (hh : h < 2) : Clz l 2 yX0_sit cX0_sit 4 (some .int) [.ref p, .int x] M (fun r M' => r = some (.int (if nmo h mo ms = mo then 0 else 1)) ∧ FN p M M' ∧ CN M' p (ms.map (sitB h mo)) (nmo h mo ms) day (if nmo h mo ms = mo then am else min 999 (am + 1))) := by
  refine Clz.on RX0 rfl (by decide +kernel) (Nat.le_of_ble_eq_true rfl) (fun X hL hO hr => ?_)
  show Gz X 0 [.ref p, .int x, .null, .null] [] M
  have hle := R.1
  have loop : ∀ (rest : List Mb) (i : Nat) (M1 : Mm) (cur : List Mb) (m : Int), cur.drop i = rest → i ≤ cur.length → CN M1 p cur mo day am → FN p M M1 → cur.take i ++ rest.map (sitB h mo) = ms.map (sitB h mo) → m + sP h mo rest = sP h mo ms → Gz X 4 [.ref p, .int x, .int (iI m), .int (nI i)] [] M1 := by
    intro rest
    induction rest with
    | nil =>
      intro i M1 cur m hd hi R1 hF hm hs
      have hi := drop_nil hd hi
      rw [hi, List.take_length, List.map_nil, List.append_nil] at hm
      refine r_iload_n hO dX0_sit_4 rfl ?_
      refine r_aload_n hO dX0_sit_5 rfl ?_
      refine r_getI hO dX0_sit_6 fRX0_21 (nu_I3 hp) ?_
      refine r_icmp_ge 41 hO dX0_sit_9 (by decide) (fun _ => ?_) (fun z => absurd (by rw [R1.2.2.1, hi]; exact nI_le (Nat.le_refl _) (by have := R1.1; omega)) z)
      refine r_aload_n hO dX0_sit_41 rfl ?_
      refine r_iload_n hO dX0_sit_42 rfl ?_
      refine r_fS hO dX0_sit_43 kRX0_63 msX4_sign (zX4_sign _) ⟨Nat.le_of_ble_eq_true rfl, Nat.le_of_ble_eq_true rfl, rfl, Nat.le_of_ble_eq_true rfl⟩ rfl ?_
      change Gz X _ _ (.int (sgI (iI m)) :: _) _
      rw [show m = sP h mo ms from by rw [← hs]; simp [sP], sgI_eq (by have := sP_in h mo ms; omega) (by have := sP_in h mo ms; omega)]
      refine r_fV hO dX0_sit_46 kRX0_89 miX0_amend (zX0_amend _ hp R1 (sP h mo ms) rfl) ⟨Nat.le_of_ble_eq_true rfl, Nat.le_of_ble_eq_true rfl, rfl, Nat.le_of_ble_eq_true rfl⟩ (nu_o hp) rfl ?_
      exact r_ireturn hO hr dX0_sit_49 (by split <;> rfl) ⟨rfl, by split <;> first | exact hF | exact (hF.tr (FN.putp (by decide) (by decide))).tr (FN.putp (by decide) (by decide)), by
        rw [← hm]
        by_cases hq : nmo h mo ms = mo
        · rw [if_pos hq, if_pos (show nmz mo (sg (sP h mo ms)) = mo from hq), hq]; exact R1
        · rw [if_neg hq, if_neg (show ¬ nmz mo (sg (sP h mo ms)) = mo from hq)]; exact R1.change hp (nmo_le R1.2.2.2.1.2) (by omega)⟩
    | cons b bs ih =>
      intro i M1 cur m hd hi R1 hF hm hs
      obtain ⟨hb, hd2, hlt⟩ := drop_cons hd
      refine r_iload_n hO dX0_sit_4 rfl ?_
      refine r_aload_n hO dX0_sit_5 rfl ?_
      refine r_getI hO dX0_sit_6 fRX0_21 (nu_I3 hp) ?_
      refine r_icmp_ge 41 hO dX0_sit_9 (by decide) (fun z => absurd z (by rw [R1.2.2.1]; exact nI_ge hlt (by have := R1.1; omega))) (fun _ => ?_)
      refine r_aload_n hO dX0_sit_12 rfl ?_
      refine r_iload_n hO dX0_sit_13 rfl ?_
      refine r_iconst hO dX0_sit_14 ic_1 ?_
      refine r_fV hO dX0_sit_15 kRX0_47 miX0_part (zX0_partR _ hp R1 1 hb rfl rfl (by decide)) ⟨Nat.le_of_ble_eq_true rfl, Nat.le_of_ble_eq_true rfl, rfl, Nat.le_of_ble_eq_true rfl⟩ (nu_o hp) rfl ?_
      refine r_iload_n hO dX0_sit_18 rfl ?_
      refine r_icmp_ne 35 hO dX0_sit_19 (by decide) (fun h19 => ?_) (fun h19 => ?_)
      · rw [hx, show fld 1 b = b.2.1 from rfl, nI_eq (by have := (R1.2.1 i b hb).2.2.2.2.2.1; omega) (by omega)] at h19
        have hq : inH h b = false := by simp [inH, h19]
        refine s_iinc hL hO dX0_sit_35 rfl ic_1 (Nat.le_of_ble_eq_true rfl) rfl ?_
        refine r_goto 4 hO dX0_sit_38 (by decide) ?_
        show Gz X 4 [.ref p, .int x, .int (iI m), .int (nI i + 1)] [] M1
        rw [nI_1]
        exact ih (i + 1) M1 cur m hd2 (by omega) R1 hF (by rw [← hm, takeS hb, List.append_assoc, List.map_cons, show sitB h mo b = b from by simp [sitB, hq]]; rfl) (by rw [← hs]; simp [sP, hq])
      · rw [hx, show fld 1 b = b.2.1 from rfl, nI_eq (by have := (R1.2.1 i b hb).2.2.2.2.2.1; omega) (by omega)] at h19
        have hq : inH h b = true := by simp [inH, h19]
        refine r_iload_n hO dX0_sit_22 rfl ?_
        refine r_aload_n hO dX0_sit_23 rfl ?_
        refine r_iload_n hO dX0_sit_24 rfl ?_
        refine r_fV hO dX0_sit_25 kRX0_72 miX0_pull (zX0_pullR _ hp R1 hb rfl) ⟨Nat.le_of_ble_eq_true rfl, Nat.le_of_ble_eq_true rfl, rfl, Nat.le_of_ble_eq_true rfl⟩ (nu_o hp) rfl ?_
        refine r_iadd hO dX0_sit_28 ?_
        refine s_istore_n hL hO dX0_sit_29 (Nat.le_of_ble_eq_true rfl) rfl ?_
        refine r_aload_n hO dX0_sit_30 rfl ?_
        refine r_iload_n hO dX0_sit_31 rfl ?_
        refine r_fV hO dX0_sit_32 kRX0_85 miX0_tire (zX0_tire _ hp R1 hb rfl) ⟨Nat.le_of_ble_eq_true rfl, Nat.le_of_ble_eq_true rfl, rfl, Nat.le_of_ble_eq_true rfl⟩ (nu_o hp) rfl ?_
        refine s_iinc hL hO dX0_sit_35 rfl ic_1 (Nat.le_of_ble_eq_true rfl) rfl ?_
        refine r_goto 4 hO dX0_sit_38 (by decide) ?_
        show Gz X 4 [.ref p, .int x, .int (iI m + iI (pl b mo)), .int (nI i + 1)] [] _
        rw [nI_1, iI_add]
        have es : m + pl b mo + sP h mo bs = sP h mo ms := by rw [← hs]; simp [sP, hq, Int.add_assoc]
        by_cases hv : vt b mo = true
        · rw [if_pos hv]
          exact ih (i + 1) M1 cur _ hd2 (by omega) R1 hF (by rw [← hm, takeS hb, List.append_assoc, List.map_cons, show sitB h mo b = b from by simp [sitB, hv]]; rfl) es
        · rw [if_neg hv]
          exact ih (i + 1) _ (cur.set i (tird b)) _ (by rw [List.drop_set_of_lt (by omega)]; exact hd2) (by rw [List.length_set]; omega) (R1.ptm hp hb (by omega)) (hF.tr FN.put) (by rw [← hm, takeS (ms := cur.set i (tird b)) (b := tird b) (List.getElem?_set_self hlt), List.append_assoc, List.take_set_of_le (Nat.le_refl i), List.map_cons, show sitB h mo b = tird b from by simp [sitB, hv, hq]]; rfl) es
  refine r_iconst hO dX0_sit_0 ic_0 ?_
  refine s_istore_n hL hO dX0_sit_1 (Nat.le_of_ble_eq_true rfl) rfl ?_
  refine r_iconst hO dX0_sit_2 ic_0 ?_
  refine s_istore_n hL hO dX0_sit_3 (Nat.le_of_ble_eq_true rfl) rfl ?_
  exact loop ms 0 M ms 0 rfl (Nat.zero_le _) R FN.rf rfl (by simp)
set_option maxHeartbeats 4000000 in
theorem zX0_passDay (l : Launch) {M : Mm} {p : Nat} (hp : nuP p) {s : Ns} (V : CV M p s) {x : Int32} (b : Bool) (hx : x = bI b) (hd : s.2.2.1 < 100000) : Clz l 3 yX0_passDay cX0_passDay 3 (some .int) [.ref p, .int x] M (fun r M' => r = some (.int (nI ((if b = true then dayS s else idlS s).2.2.2.2 - s.2.2.2.2))) ∧ FN p M M' ∧ CV M' p (if b = true then dayS s else idlS s)) := by
  refine Clz.on RX0 rfl (by decide +kernel) (Nat.le_of_ble_eq_true rfl) (fun X hL hO hr => ?_)
  show Gz X 0 [.ref p, .int x, .null] [] M
  obtain ⟨ms, mo, day, am, ch⟩ := s
  have R : CN M p ms mo day am := V
  dsimp only at hd
  have tail : ∀ (M1 : Mm) (v : Int32) (ms1 : List Mb) (mo1 am1 : Nat), CN M1 p ms1 mo1 day am1 → FN p M M1 → ∀ ch1 : Nat, (ms1, mo1, day + 1, am1, ch1) = (if b = true then dayS (ms, mo, day, am, ch) else idlS (ms, mo, day, am, ch)) → v = nI ((if b = true then dayS (ms, mo, day, am, ch) else idlS (ms, mo, day, am, ch)).2.2.2.2 - ch) → Gz X 25 [.ref p, .int x, .null] [.int v] M1 := by
    intro M1 v ms1 mo1 am1 R1 hF ch1 he hv
    refine s_istore_n hL hO dX0_passDay_25 (Nat.le_of_ble_eq_true rfl) rfl ?_
    refine r_aload_n hO dX0_passDay_26 rfl ?_
    refine r_dup hO dX0_passDay_27 rfl ?_
    refine r_getI hO dX0_passDay_28 fRX0_28 (nu_I5 hp) ?_
    refine r_iconst hO dX0_passDay_31 ic_1 ?_
    refine r_iadd hO dX0_passDay_32 ?_
    refine r_putI hO dX0_passDay_33 fRX0_28 (nu_I5 hp) ?_
    refine r_iload_n hO dX0_passDay_36 rfl ?_
    rw [R1.2.2.2.2.1.1, nI_1]
    exact r_ireturn hO hr dX0_passDay_37 rfl ⟨sI hv, hF.tr (FN.putp (by decide) (by decide)), by rw [← he]; exact R1.day hp hd⟩
  refine r_iload_n hO dX0_passDay_0 rfl ?_
  refine r_if_eq 24 hO dX0_passDay_1 (by decide) (fun h1 => ?_) (fun h1 => ?_)
  · have hb0 : b = false := by rw [hx] at h1; exact bI_0.mp h1
    refine r_iconst hO dX0_passDay_24 ic_0 ?_
    exact tail M 0 ms mo am R FN.rf ch (by rw [hb0]; rfl) (by rw [hb0]; show (0 : Int32) = nI (ch - ch); rw [Nat.sub_self]; rfl)
  · have hb1 : b = true := by rw [hx] at h1; exact bI_n0.mp h1
    refine r_aload_n hO dX0_passDay_4 rfl ?_
    refine r_fV hO dX0_passDay_5 kRX0_78 miX0_isCarried (zX0_isCarried _ hp R) ⟨Nat.le_of_ble_eq_true rfl, Nat.le_of_ble_eq_true rfl, rfl, Nat.le_of_ble_eq_true rfl⟩ (nu_o hp) rfl ?_
    refine r_if_ne 24 hO dX0_passDay_8 (by decide) (fun h8 => ?_) (fun h8 => ?_)
    · rw [bI_n0] at h8
      refine r_iconst hO dX0_passDay_24 ic_0 ?_
      exact tail M 0 ms mo am R FN.rf ch (by rw [hb1]; exact (dayS_t h8).symm) (by rw [hb1, if_pos rfl, dayS_t h8]; show (0 : Int32) = nI (ch - ch); rw [Nat.sub_self]; rfl)
    · rw [bI_0] at h8
      refine r_aload_n hO dX0_passDay_11 rfl ?_
      refine r_aload_n hO dX0_passDay_12 rfl ?_
      refine r_getI hO dX0_passDay_13 fRX0_28 (nu_I5 hp) ?_
      refine r_iconst hO dX0_passDay_16 ic_2 ?_
      refine r_irem hO dX0_passDay_17 (by decide) ?_
      refine r_callV hO dX0_passDay_18 kRX0_82 miX0_sit (zX0_sit _ hp R (day % 2) (by rw [R.2.2.2.2.1.1]; exact pk_rem (a := day) (d := 2) (by have := R.2.2.2.2.1.2; omega) (by decide) (by decide)) (by omega)) ⟨Nat.le_of_ble_eq_true rfl, Nat.le_of_ble_eq_true rfl, rfl, Nat.le_of_ble_eq_true rfl⟩ (nu_o hp) rfl (fun r M1 hpo => ?_)
      obtain ⟨rfl, hF1, R1⟩ := hpo
      change Gz X 21 [.ref p, .int x, .null] [.int (if nmo (day % 2) mo ms = mo then 0 else 1)] M1
      refine r_goto 25 hO dX0_passDay_21 (by decide) ?_
      exact tail _ _ _ _ _ R1 hF1 _ (by rw [hb1]; exact (dayS_f h8).symm) (by rw [hb1, if_pos rfl, dayS_f h8]; dsimp only; split <;> simp [Nat.add_sub_cancel_left] <;> rfl)
set_option maxHeartbeats 4000000 in
theorem zX0_passDays (l : Launch) {M : Mm} {p : Nat} (hp : nuP p) {s : Ns} (V : CV M p s) (h0 : s.2.2.2.2 = 0) {x : Int32} (k : Nat) (hx : x = nI k) (hk : k ≤ 1000) (hd : s.2.2.1 + k ≤ 100000) : Clz l 4 yX0_passDays cX0_passDays 4 (some .int) [.ref p, .int x] M (fun r M' => r = some (.int (nI (runS k s).2.2.2.2)) ∧ FN p M M' ∧ CV M' p (runS k s)) := by
  refine Clz.on RX0 rfl (by decide +kernel) (Nat.le_of_ble_eq_true rfl) (fun X hL hO hr => ?_)
  show Gz X 0 [.ref p, .int x, .null, .null] [] M
  have loop : ∀ (r j : Nat) (s1 : Ns) (M1 : Mm), j + r = k → FN p M M1 → CV M1 p s1 → s1.2.2.1 + r ≤ 100000 → runS r s1 = runS k s → Gz X 4 [.ref p, .int x, .int (nI s1.2.2.2.2), .int (nI j)] [] M1 := by
    intro r
    induction r with
    | zero =>
      intro j s1 M1 hj hF hV h1 he
      have hj : k = j := by omega
      refine r_iload_n hO dX0_passDays_4 rfl ?_
      refine r_iload_n hO dX0_passDays_5 rfl ?_
      refine r_icmp_ge 23 hO dX0_passDays_6 (by decide) (fun _ => ?_) (fun z => absurd (by rw [hx, hj]; exact nI_le (Nat.le_refl _) (by omega)) z)
      refine r_iload_n hO dX0_passDays_23 rfl ?_
      exact r_ireturn hO hr dX0_passDays_24 rfl ⟨sI (by rw [← he]; rfl), hF, by rw [← he]; exact hV⟩
    | succ r ih =>
      intro j s1 M1 hj hF hV h1 he
      refine r_iload_n hO dX0_passDays_4 rfl ?_
      refine r_iload_n hO dX0_passDays_5 rfl ?_
      refine r_icmp_ge 23 hO dX0_passDays_6 (by decide) (fun z => absurd z (by rw [hx]; exact nI_ge (by omega) (by omega))) (fun _ => ?_)
      refine r_iload_n hO dX0_passDays_9 rfl ?_
      refine r_aload_n hO dX0_passDays_10 rfl ?_
      refine r_iconst hO dX0_passDays_11 ic_1 ?_
      refine r_callV hO dX0_passDays_12 kRX0_75 miX0_passDay (zX0_passDay _ hp hV true rfl (by omega)) ⟨Nat.le_of_ble_eq_true rfl, Nat.le_of_ble_eq_true rfl, rfl, Nat.le_of_ble_eq_true rfl⟩ (nu_o hp) rfl (fun q M2 hpo => ?_)
      obtain ⟨rfl, hF2, hV2⟩ := hpo
      change Gz X 15 [.ref p, .int x, .int (nI s1.2.2.2.2), .int (nI j)] [.int (nI ((dayS s1).2.2.2.2 - s1.2.2.2.2)), .int (nI s1.2.2.2.2)] M2
      refine r_iadd hO dX0_passDays_15 ?_
      refine s_istore_n hL hO dX0_passDays_16 (Nat.le_of_ble_eq_true rfl) rfl ?_
      refine s_iinc hL hO dX0_passDays_17 rfl ic_1 (Nat.le_of_ble_eq_true rfl) rfl ?_
      refine r_goto 4 hO dX0_passDays_20 (by decide) ?_
      show Gz X 4 [.ref p, .int x, .int (nI s1.2.2.2.2 + nI ((dayS s1).2.2.2.2 - s1.2.2.2.2)), .int (nI j + 1)] [] M2
      rw [nI_1, nI_add, Nat.add_sub_cancel' (dayS_ch2 s1)]
      exact ih (j + 1) (dayS s1) M2 (by omega) (hF.tr hF2) hV2 (by rw [dayS_day]; omega) he
  refine r_iconst hO dX0_passDays_0 ic_0 ?_
  refine s_istore_n hL hO dX0_passDays_1 (Nat.le_of_ble_eq_true rfl) rfl ?_
  refine r_iconst hO dX0_passDays_2 ic_0 ?_
  refine s_istore_n hL hO dX0_passDays_3 (Nat.le_of_ble_eq_true rfl) rfl ?_
  have e0 : (0 : Int32) = nI s.2.2.2.2 := by rw [h0]; rfl
  change Gz X 4 [.ref p, .int x, .int 0, .int 0] [] M
  rw [show Gz X 4 [.ref p, .int x, .int 0, .int 0] [] M = Gz X 4 [.ref p, .int x, .int (nI s.2.2.2.2), .int (nI 0)] [] M from by rw [← e0]; rfl]
  exact loop k 0 s M (by omega) FN.rf V hd rfl
set_option maxHeartbeats 4000000 in
theorem zX0_daysToCarry (l : Launch) {M : Mm} {p : Nat} (hp : nuP p) {s : Ns} (V : CV M p s) (hd : s.2.2.1 ≤ 9000) : Clz l 4 yX0_daysToCarry cX0_daysToCarry 2 (some .int) [.ref p] M (fun r M' => r = some (.int (dtC 0 (dtS 61 s))) ∧ FN p M M') := by
  refine Clz.on RX0 rfl (by decide +kernel) (Nat.le_of_ble_eq_true rfl) (fun X hL hO hr => ?_)
  show Gz X 0 [.ref p, .null] [] M
  have loop : ∀ (r j : Nat) (s1 : Ns) (M1 : Mm), j + r = 61 → FN p M M1 → CV M1 p s1 → s1.2.2.1 + r ≤ 100000 → dtC j (dtS r s1) = dtC 0 (dtS 61 s) → Gz X 2 [.ref p, .int (nI j)] [] M1 := by
    intro r
    induction r with
    | zero =>
      intro j s1 M1 hj hF hV h1 he
      refine r_iload_n hO dX0_daysToCarry_2 rfl ?_
      refine r_bipush hO dX0_daysToCarry_3 bc_60 ?_
      refine r_icmp_gt 29 hO dX0_daysToCarry_5 (by decide) (fun _ => ?_) (fun z => absurd (by rw [show (60 : Int32) = nI 60 from rfl]; exact nI_lt (by omega) (by omega)) z)
      refine r_bipush hO dX0_daysToCarry_29 bc_61 ?_
      exact r_ireturn hO hr dX0_daysToCarry_31 rfl ⟨sI (by rw [← he]; rfl), hF⟩
    | succ r ih =>
      intro j s1 M1 hj hF hV h1 he
      refine r_iload_n hO dX0_daysToCarry_2 rfl ?_
      refine r_bipush hO dX0_daysToCarry_3 bc_60 ?_
      refine r_icmp_gt 29 hO dX0_daysToCarry_5 (by decide) (fun z => absurd z (by rw [show (60 : Int32) = nI 60 from rfl]; exact nI_nlt (by omega) (by omega))) (fun _ => ?_)
      refine r_aload_n hO dX0_daysToCarry_8 rfl ?_
      refine r_fV hO dX0_daysToCarry_9 kRX0_78 miX0_isCarried (zX0_isCarried _ hp hV) ⟨Nat.le_of_ble_eq_true rfl, Nat.le_of_ble_eq_true rfl, rfl, Nat.le_of_ble_eq_true rfl⟩ (nu_o hp) rfl ?_
      refine r_if_eq 17 hO dX0_daysToCarry_12 (by decide) (fun h12 => ?_) (fun h12 => ?_)
      · rw [bI_0] at h12
        refine r_aload_n hO dX0_daysToCarry_17 rfl ?_
        refine r_iconst hO dX0_daysToCarry_18 ic_1 ?_
        refine r_callV hO dX0_daysToCarry_19 kRX0_75 miX0_passDay (zX0_passDay _ hp hV true rfl (by omega)) ⟨Nat.le_of_ble_eq_true rfl, Nat.le_of_ble_eq_true rfl, rfl, Nat.le_of_ble_eq_true rfl⟩ (nu_o hp) rfl (fun q M2 hpo => ?_)
        obtain ⟨rfl, hF2, hV2⟩ := hpo
        change Gz X 22 [.ref p, .int (nI j)] [.int (nI ((dayS s1).2.2.2.2 - s1.2.2.2.2))] M2
        refine r_pop hO dX0_daysToCarry_22 rfl ?_
        refine s_iinc hL hO dX0_daysToCarry_23 rfl ic_1 (Nat.le_of_ble_eq_true rfl) rfl ?_
        refine r_goto 2 hO dX0_daysToCarry_26 (by decide) ?_
        show Gz X 2 [.ref p, .int (nI j + 1)] [] M2
        rw [nI_1]
        exact ih (j + 1) (dayS s1) M2 (by omega) (hF.tr hF2) hV2 (by rw [dayS_day]; omega) (by rw [← he, ← dtC_s]; congr 1; conv => rhs; unfold dtS; rw [if_neg (by rw [h12]; decide)])
      · rw [bI_n0] at h12
        refine r_iload_n hO dX0_daysToCarry_15 rfl ?_
        exact r_ireturn hO hr dX0_daysToCarry_16 rfl ⟨sI (by rw [← he]; unfold dtS; rw [if_pos h12]; rfl), hF⟩
  refine r_iconst hO dX0_daysToCarry_0 ic_0 ?_
  refine s_istore_n hL hO dX0_daysToCarry_1 (Nat.le_of_ble_eq_true rfl) rfl ?_
  exact loop 61 0 s M (by omega) FN.rf V (by omega) rfl
end
section
/-! the class's Nut: become, beginAnew, addMember, leaveOut -/
theorem msg (M : Mm) (p : Nat) (f : Nat → Int32) (q j : Nat) : (mset M p f).1 q j = if q = p then f j else M.1 q j := by
  unfold mset
  by_cases h : q = p
  · subst h; simp
  · simp [h]
def BecR (p q : Nat) (M M' : Mm) : Prop := (∀ a k, ¬ (p ≤ a ∧ a ≤ p + 3) → M'.1 a k = M.1 a k) ∧ M'.2 = M.2 ∧ (∀ k, k < 24 → M'.1 (p + 1) k = M.1 (q + 1) k) ∧ (∀ k, k < 6 → M'.1 (p + 2) k = M.1 (q + 2) k) ∧ (∀ k, k < 6 → M'.1 (p + 3) k = M.1 (q + 3) k) ∧ (∀ k, 3 ≤ k → k ≤ 7 → M'.1 p k = M.1 q k)
theorem nu_apart {p q : Nat} (hp : nuP p) (hq : nuP q) (h : p ≠ q) : p + 3 < q ∨ q + 3 < p := by unfold nuP at hp hq; omega
theorem cpy0 {f g : Nat → Int32} {n k : Nat} {z w : Int32} (hz : z.toNatClampNeg = 0) (hw : w.toNatClampNeg = n) (hk : k < n) : va_cpy f g z.toNatClampNeg z.toNatClampNeg w.toNatClampNeg k = f k := by
  rw [hz, hw, pk_cpy_in (by omega) (by omega)]; congr 1; omega
set_option maxHeartbeats 4000000 in
theorem zX0_become (l : Launch) {M : Mm} {p q : Nat} (hp : nuP p) (hq : nuP q) (hpq : p ≠ q) : Clz l 1 yX0_become cX0_become 2 none [.ref p, .ref q] M (fun r M' => r = none ∧ BecR p q M M') := by
  refine Clz.on RX0 rfl (by decide +kernel) (Nat.le_of_ble_eq_true rfl) (fun X hL hO hr => ?_)
  show Gz X 0 [.ref p, .ref q] [] M
  have hap := nu_apart hp hq hpq
  refine r_aload_n hO dX0_become_0 rfl ?_
  refine r_getR (q + 1) hO dX0_become_1 fRX0_9 (nu_R0 hq) ?_
  refine r_iconst hO dX0_become_4 ic_0 ?_
  refine r_aload_n hO dX0_become_5 rfl ?_
  refine r_getR (p + 1) hO dX0_become_6 fRX0_9 (nu_R0 hp) ?_
  refine r_iconst hO dX0_become_9 ic_0 ?_
  refine r_aload_n hO dX0_become_10 rfl ?_
  refine r_getR (p + 1) hO dX0_become_11 fRX0_9 (nu_R0 hp) ?_
  refine r_alen 10 24 hO dX0_become_14 (nu_A0 hp) rfl ?_
  refine r_copy 24 24 hO dX0_become_15 xRX0_37 (Nat.le_of_ble_eq_true rfl) (Nat.le_of_ble_eq_true rfl) (nu_A0 hq) (nu_A0 hp) (by decide) (by decide) (by decide) (by decide) (by decide) ?_
  refine r_aload_n hO dX0_become_18 rfl ?_
  refine r_getR (q + 2) hO dX0_become_19 fRX0_15 (nu_R1 hq) ?_
  refine r_iconst hO dX0_become_22 ic_0 ?_
  refine r_aload_n hO dX0_become_23 rfl ?_
  refine r_getR (p + 2) hO dX0_become_24 fRX0_15 (nu_R1 hp) ?_
  refine r_iconst hO dX0_become_27 ic_0 ?_
  refine r_aload_n hO dX0_become_28 rfl ?_
  refine r_getR (p + 2) hO dX0_become_29 fRX0_15 (nu_R1 hp) ?_
  refine r_alen 10 6 hO dX0_become_32 (nu_A1 hp) rfl ?_
  refine r_copy 6 6 hO dX0_become_33 xRX0_37 (Nat.le_of_ble_eq_true rfl) (Nat.le_of_ble_eq_true rfl) (nu_A1 hq) (nu_A1 hp) (by decide) (by decide) (by decide) (by decide) (by decide) ?_
  refine r_aload_n hO dX0_become_36 rfl ?_
  refine r_getR (q + 3) hO dX0_become_37 fRX0_18 (nu_R2 hq) ?_
  refine r_iconst hO dX0_become_40 ic_0 ?_
  refine r_aload_n hO dX0_become_41 rfl ?_
  refine r_getR (p + 3) hO dX0_become_42 fRX0_18 (nu_R2 hp) ?_
  refine r_iconst hO dX0_become_45 ic_0 ?_
  refine r_aload_n hO dX0_become_46 rfl ?_
  refine r_getR (p + 3) hO dX0_become_47 fRX0_18 (nu_R2 hp) ?_
  refine r_alen 10 6 hO dX0_become_50 (nu_A2 hp) rfl ?_
  refine r_copy 6 6 hO dX0_become_51 xRX0_37 (Nat.le_of_ble_eq_true rfl) (Nat.le_of_ble_eq_true rfl) (nu_A2 hq) (nu_A2 hp) (by decide) (by decide) (by decide) (by decide) (by decide) ?_
  refine r_aload_n hO dX0_become_54 rfl ?_
  refine r_aload_n hO dX0_become_55 rfl ?_
  refine r_getI hO dX0_become_56 fRX0_21 (nu_I3 hq) ?_
  refine r_putI hO dX0_become_59 fRX0_21 (nu_I3 hp) ?_
  refine r_aload_n hO dX0_become_62 rfl ?_
  refine r_aload_n hO dX0_become_63 rfl ?_
  refine r_getI hO dX0_become_64 fRX0_25 (nu_I4 hq) ?_
  refine r_putI hO dX0_become_67 fRX0_25 (nu_I4 hp) ?_
  refine r_aload_n hO dX0_become_70 rfl ?_
  refine r_aload_n hO dX0_become_71 rfl ?_
  refine r_getI hO dX0_become_72 fRX0_28 (nu_I5 hq) ?_
  refine r_putI hO dX0_become_75 fRX0_28 (nu_I5 hp) ?_
  refine r_aload_n hO dX0_become_78 rfl ?_
  refine r_aload_n hO dX0_become_79 rfl ?_
  refine r_getI hO dX0_become_80 fRX0_31 (nu_I6 hq) ?_
  refine r_putI hO dX0_become_83 fRX0_31 (nu_I6 hp) ?_
  refine r_aload_n hO dX0_become_86 rfl ?_
  refine r_aload_n hO dX0_become_87 rfl ?_
  refine r_getI hO dX0_become_88 fRX0_34 (nu_I7 hq) ?_
  refine r_putI hO dX0_become_91 fRX0_34 (nu_I7 hp) ?_
  exact r_return hO hr dX0_become_94 ⟨rfl, fun a k ha => by
    simp only [mpg, msg]
    simp only [show a ≠ p from fun z => ha ⟨by omega, by omega⟩, show a ≠ p + 1 from fun z => ha ⟨by omega, by omega⟩, show a ≠ p + 2 from fun z => ha ⟨by omega, by omega⟩, show a ≠ p + 3 from fun z => ha ⟨by omega, by omega⟩, if_false, false_and], rfl, fun k hk => by
    simp only [mpg, msg, show p + 1 ≠ p from by omega, show p + 1 ≠ p + 2 from by omega, show p + 1 ≠ p + 3 from by omega, if_false, false_and, if_true]
    exact cpy0 (by decide) (by decide) hk, fun k hk => by
    simp only [mpg, msg, show p + 2 ≠ p from by omega, show p + 2 ≠ p + 1 from by omega, show p + 2 ≠ p + 3 from by omega, show q + 2 ≠ p + 1 from by omega, if_false, false_and, if_true]
    exact (cpy0 (z := 0) (w := Int32.ofNat 6) (by decide) (by decide) hk).trans (by rw [msg, if_neg (by omega)]), fun k hk => by
    simp only [mpg, msg, show p + 3 ≠ p from by omega, show p + 3 ≠ p + 1 from by omega, show p + 3 ≠ p + 2 from by omega, show q + 3 ≠ p + 1 from by omega, show q + 3 ≠ p + 2 from by omega, if_false, false_and, if_true]
    exact (cpy0 (z := 0) (w := Int32.ofNat 6) (by decide) (by decide) hk).trans (by rw [msg, if_neg (by omega), msg, if_neg (by omega)]), fun k h3 h7 => by
    rcases (show k = 3 ∨ k = 4 ∨ k = 5 ∨ k = 6 ∨ k = 7 by omega) with rfl | rfl | rfl | rfl | rfl <;> simp [mpg, msg, show q ≠ p from by omega, show p ≠ p + 1 from by omega, show p ≠ p + 2 from by omega, show p ≠ p + 3 from by omega, show q ≠ p + 1 from by omega, show q ≠ p + 2 from by omega, show q ≠ p + 3 from by omega]⟩
set_option maxHeartbeats 4000000 in
theorem zX0_beginAnew (l : Launch) {M : Mm} {p : Nat} (hp : nuP p) : CFz l 0 yX0_beginAnew cX0_beginAnew 1 none [.ref p] M (none) (mput (mput (mput (mput (mput M p 3 0) p 4 10) p 5 0) p 6 0) p 7 0) := by
  refine Clz.on RX0 rfl (by decide +kernel) (Nat.le_of_ble_eq_true rfl) (fun X hL hO hr => ?_)
  show Gz X 0 [.ref p] [] M
  refine r_aload_n hO dX0_beginAnew_0 rfl ?_
  refine r_iconst hO dX0_beginAnew_1 ic_0 ?_
  refine r_putI hO dX0_beginAnew_2 fRX0_21 (nu_I3 hp) ?_
  refine r_aload_n hO dX0_beginAnew_5 rfl ?_
  refine r_bipush hO dX0_beginAnew_6 bc_10 ?_
  refine r_putI hO dX0_beginAnew_8 fRX0_25 (nu_I4 hp) ?_
  refine r_aload_n hO dX0_beginAnew_11 rfl ?_
  refine r_iconst hO dX0_beginAnew_12 ic_0 ?_
  refine r_putI hO dX0_beginAnew_13 fRX0_28 (nu_I5 hp) ?_
  refine r_aload_n hO dX0_beginAnew_16 rfl ?_
  refine r_iconst hO dX0_beginAnew_17 ic_0 ?_
  refine r_putI hO dX0_beginAnew_18 fRX0_31 (nu_I6 hp) ?_
  refine r_aload_n hO dX0_beginAnew_21 rfl ?_
  refine r_iconst hO dX0_beginAnew_22 ic_0 ?_
  refine r_putI hO dX0_beginAnew_23 fRX0_34 (nu_I7 hp) ?_
  exact r_return hO hr dX0_beginAnew_26 ⟨rfl, rfl⟩
set_option maxHeartbeats 4000000 in
theorem zX0_addMember (l : Launch) {M : Mm} {p : Nat} (hp : nuP p) {x : Int32} (n : Nat) (hn : M.1 p 3 = nI n) (hn6 : n < 6) : CFz l 1 yX0_addMember cX0_addMember 3 (some .int) [.ref p, .int x] M (some (.int (nI n))) (mput (mput (mput (mput (mput M p 3 (nI (n + 1))) (p + 1) (4 * n + 0) x) (p + 1) (4 * n + 1) 0) (p + 1) (4 * n + 2) 0) (p + 1) (4 * n + 3) 0) := by
  refine Clz.on RX0 rfl (by decide +kernel) (Nat.le_of_ble_eq_true rfl) (fun X hL hO hr => ?_)
  show Gz X 0 [.ref p, .int x, .null] [] M
  refine r_aload_n hO dX0_addMember_0 rfl ?_
  refine r_getI hO dX0_addMember_1 fRX0_21 (nu_I3 hp) ?_
  refine s_istore_n hL hO dX0_addMember_4 (Nat.le_of_ble_eq_true rfl) rfl ?_
  refine r_aload_n hO dX0_addMember_5 rfl ?_
  refine r_dup hO dX0_addMember_6 rfl ?_
  refine r_getI hO dX0_addMember_7 fRX0_21 (nu_I3 hp) ?_
  refine r_iconst hO dX0_addMember_10 ic_1 ?_
  refine r_iadd hO dX0_addMember_11 ?_
  refine r_putI hO dX0_addMember_12 fRX0_21 (nu_I3 hp) ?_
  refine r_aload_n hO dX0_addMember_15 rfl ?_
  refine r_iload_n hO dX0_addMember_16 rfl ?_
  refine r_iconst hO dX0_addMember_17 ic_0 ?_
  refine r_iload_n hO dX0_addMember_18 rfl ?_
  refine r_fV hO dX0_addMember_19 kRX0_43 miX0_put (zX0_put _ hp n 0 (by rw [hn]) rfl (by omega) (by decide)) ⟨Nat.le_of_ble_eq_true rfl, Nat.le_of_ble_eq_true rfl, rfl, Nat.le_of_ble_eq_true rfl⟩ (nu_o hp) rfl ?_
  refine r_aload_n hO dX0_addMember_22 rfl ?_
  refine r_iload_n hO dX0_addMember_23 rfl ?_
  refine r_iconst hO dX0_addMember_24 ic_1 ?_
  refine r_iconst hO dX0_addMember_25 ic_0 ?_
  refine r_fV hO dX0_addMember_26 kRX0_43 miX0_put (zX0_put _ hp n 1 (by rw [hn]) rfl (by omega) (by decide)) ⟨Nat.le_of_ble_eq_true rfl, Nat.le_of_ble_eq_true rfl, rfl, Nat.le_of_ble_eq_true rfl⟩ (nu_o hp) rfl ?_
  refine r_aload_n hO dX0_addMember_29 rfl ?_
  refine r_iload_n hO dX0_addMember_30 rfl ?_
  refine r_iconst hO dX0_addMember_31 ic_2 ?_
  refine r_iconst hO dX0_addMember_32 ic_0 ?_
  refine r_fV hO dX0_addMember_33 kRX0_43 miX0_put (zX0_put _ hp n 2 (by rw [hn]) rfl (by omega) (by decide)) ⟨Nat.le_of_ble_eq_true rfl, Nat.le_of_ble_eq_true rfl, rfl, Nat.le_of_ble_eq_true rfl⟩ (nu_o hp) rfl ?_
  refine r_aload_n hO dX0_addMember_36 rfl ?_
  refine r_iload_n hO dX0_addMember_37 rfl ?_
  refine r_iconst hO dX0_addMember_38 ic_3 ?_
  refine r_iconst hO dX0_addMember_39 ic_0 ?_
  refine r_fV hO dX0_addMember_40 kRX0_43 miX0_put (zX0_put _ hp n 3 (by rw [hn]) rfl (by omega) (by decide)) ⟨Nat.le_of_ble_eq_true rfl, Nat.le_of_ble_eq_true rfl, rfl, Nat.le_of_ble_eq_true rfl⟩ (nu_o hp) rfl ?_
  refine r_iload_n hO dX0_addMember_43 rfl ?_
  exact r_ireturn hO hr dX0_addMember_44 rfl ⟨sI hn, by rw [hn, nI_1]⟩
set_option maxHeartbeats 4000000 in
theorem zX0_leaveOut (l : Launch) {M : Mm} {p : Nat} (hp : nuP p) {x : Int32} (i n : Nat) (hx : x = nI i) (hi : i < 6) (hn : M.1 p 3 = nI (n + 1)) (hn6 : n < 6) : CFz l 1 yX0_leaveOut cX0_leaveOut 3 none [.ref p, .int x] M (none) (mput (mset M (p + 1) (va_cpy (M.1 (p + 1)) (M.1 (p + 1)) (4 * (i + 1)) (4 * i) (24 - 4 * (i + 1)))) p 3 (nI n)) := by
  refine Clz.on RX0 rfl (by decide +kernel) (Nat.le_of_ble_eq_true rfl) (fun X hL hO hr => ?_)
  show Gz X 0 [.ref p, .int x, .null] [] M
  refine r_iload_n hO dX0_leaveOut_0 rfl ?_
  refine r_iconst hO dX0_leaveOut_1 ic_1 ?_
  refine r_iadd hO dX0_leaveOut_2 ?_
  refine r_iconst hO dX0_leaveOut_3 ic_4 ?_
  refine r_imul hO dX0_leaveOut_4 ?_
  refine s_istore_n hL hO dX0_leaveOut_5 (Nat.le_of_ble_eq_true rfl) rfl ?_
  refine r_aload_n hO dX0_leaveOut_6 rfl ?_
  refine r_getR (p + 1) hO dX0_leaveOut_7 fRX0_9 (nu_R0 hp) ?_
  refine r_iload_n hO dX0_leaveOut_10 rfl ?_
  refine r_aload_n hO dX0_leaveOut_11 rfl ?_
  refine r_getR (p + 1) hO dX0_leaveOut_12 fRX0_9 (nu_R0 hp) ?_
  refine r_iload_n hO dX0_leaveOut_15 rfl ?_
  refine r_iconst hO dX0_leaveOut_16 ic_4 ?_
  refine r_imul hO dX0_leaveOut_17 ?_
  refine r_aload_n hO dX0_leaveOut_18 rfl ?_
  refine r_getR (p + 1) hO dX0_leaveOut_19 fRX0_9 (nu_R0 hp) ?_
  refine r_alen 10 24 hO dX0_leaveOut_22 (nu_A0 hp) rfl ?_
  refine r_iload_n hO dX0_leaveOut_23 rfl ?_
  refine r_isub hO dX0_leaveOut_24 ?_
  have e1 : (x + 1) * 4 = nI (4 * (i + 1)) := by rw [hx, nI_1, show (4 : Int32) = nI 4 from rfl, pk_mul, Nat.mul_comm]
  have e2 : x * 4 = nI (4 * i) := by rw [hx, show (4 : Int32) = nI 4 from rfl, pk_mul, Nat.mul_comm]
  have e3 : Int32.ofNat 24 - (x + 1) * 4 = nI (24 - 4 * (i + 1)) := by rw [e1, show Int32.ofNat 24 = nI 24 from rfl, pk_sub (by omega)]
  have c1 : ((x + 1) * 4).toNatClampNeg = 4 * (i + 1) := by rw [e1, nI_clamp (by omega)]
  have c2 : (x * 4).toNatClampNeg = 4 * i := by rw [e2, nI_clamp (by omega)]
  have c3 : (Int32.ofNat 24 - (x + 1) * 4).toNatClampNeg = 24 - 4 * (i + 1) := by rw [e3, nI_clamp (by omega)]
  refine r_copy 24 24 hO dX0_leaveOut_25 xRX0_37 (Nat.le_of_ble_eq_true rfl) (Nat.le_of_ble_eq_true rfl) (nu_A0 hp) (nu_A0 hp) (by rw [e1]; exact nI_pos (by omega)) (by rw [e2]; exact nI_pos (by omega)) (by rw [e3]; exact nI_pos (by omega)) (by rw [c1, c3]; omega) (by rw [c2, c3]; omega) ?_
  rw [c1, c2, c3]
  refine r_aload_n hO dX0_leaveOut_28 rfl ?_
  refine r_dup hO dX0_leaveOut_29 rfl ?_
  refine r_getI hO dX0_leaveOut_30 fRX0_21 (nu_I3 hp) ?_
  refine r_iconst hO dX0_leaveOut_33 ic_1 ?_
  refine r_isub hO dX0_leaveOut_34 ?_
  refine r_putI hO dX0_leaveOut_35 fRX0_21 (nu_I3 hp) ?_
  exact r_return hO hr dX0_leaveOut_38 ⟨rfl, by rw [msg, if_neg (by omega), hn, nI_pred]⟩
end
section
/-! the state that both systems hold, and how each holds it -/
/-- a walnut: members, motion, day, amendments, what was seen -/
abbrev Nu : Type := List Mb × Nat × Nat × Nat × List (Nat × Nat)
abbrev Sh : Type := Option (Nat × Nat × (Nat → Int32))
/-- the walnut, its images (kept?), the tape, the text's fault, the reading's fault, the sheets -/
abbrev Sta : Type := Nu × (Nat → Bool × Nu) × List Nat × Nat × Nat × (Nat → Sh)
def SlAt (f g : Nat → Int32) (sl : List (Nat × Nat)) : Prop := ∀ i q, sl[i]? = some q → f i = nI q.1 ∧ g i = nI q.2 ∧ q.1 ≤ 20 ∧ q.2 ≤ 20
def CU (M : Mm) (p : Nat) (u : Nu) : Prop := CN M p u.1 u.2.1 u.2.2.1 u.2.2.2.1 ∧ u.2.2.1 ≤ 999 ∧ M.1 p 7 = nI u.2.2.2.2.length ∧ u.2.2.2.2.length ≤ 6 ∧ SlAt (M.1 (p + 2)) (M.1 (p + 3)) u.2.2.2.2
def RU (f : Nat → Int32) (u : Nu) : Prop := u.1.length ≤ 6 ∧ MbAt f u.1 ∧ f 24 = nI u.1.length ∧ (f 25 = nI u.2.1 ∧ u.2.1 ≤ 20) ∧ (f 26 = nI u.2.2.1 ∧ u.2.2.1 ≤ 999) ∧ (f 27 = nI u.2.2.2.1 ∧ u.2.2.2.1 ≤ 999) ∧ (f 28 = nI u.2.2.2.2.length ∧ u.2.2.2.2.length ≤ 6) ∧ SlAt (fun i => f (29 + 2 * i)) (fun i => f (30 + 2 * i)) u.2.2.2.2
def TpC (M : Mm) (t : List Nat) : Prop := t.length ≤ 160 ∧ M.1 1 1 = nI t.length ∧ ∀ i b, t[i]? = some b → M.1 2 i = nI b ∧ b ≤ 127
def TpD (M : Mm) (t : List Nat) : Prop := t.length ≤ 160 ∧ M.1 33 6 = nI t.length ∧ ∀ i b, t[i]? = some b → M.1 38 i = nI b ∧ b ≤ 127
def ShC (M : Mm) (p : Nat) (s : Sh) : Prop := match s with
  | none => M.1 p 2 = -1
  | some x => M.1 p 1 = nI x.1 ∧ x.1 ≤ 2 ∧ M.1 p 2 = nI x.2.1 ∧ x.2.1 ≤ 40 ∧ ∀ i, i < 40 → M.1 (p + 1) i = x.2.2 i
def ShD (M : Mm) (k : Nat) (s : Sh) : Prop := match s with
  | none => M.1 41 k = -4
  | some x => M.1 41 k = nI x.1 ∧ x.1 ≤ 2 ∧ M.1 42 k = nI x.2.1 ∧ x.2.1 ≤ 40 ∧ ∀ i, i < 40 → M.1 43 (40 * k + i) = x.2.2 i
def RC (M : Mm) (σ : Sta) : Prop := CU M 4 σ.1 ∧ (∀ k, k < 2 → M.1 13 k = bI (σ.2.1 k).1 ∧ ((σ.2.1 k).1 = true → CU M (16 + 4 * k) (σ.2.1 k).2)) ∧ TpC M σ.2.2.1 ∧ M.1 0 9 = nI σ.2.2.2.1 ∧ M.1 0 10 = nI σ.2.2.2.2.1 ∧ ∀ k, k < 4 → ShC M (24 + 2 * k) (σ.2.2.2.2.2 k)
def RD (M : Mm) (σ : Sta) : Prop := RU (M.1 34) σ.1 ∧ (∀ k, k < 2 → M.1 36 k = bI (σ.2.1 k).1 ∧ ((σ.2.1 k).1 = true → RU (fun j => M.1 34 (41 * (k + 1) + j)) (σ.2.1 k).2)) ∧ TpD M σ.2.2.1 ∧ M.1 33 11 = nI σ.2.2.2.1 ∧ M.1 33 25 = nI σ.2.2.2.2.1 ∧ ∀ k, k < 4 → ShD M k (σ.2.2.2.2.2 k)
/-- what a call of the class leaves alone, of the reference -/
def FCr (M M' : Mm) : Prop := (∀ a k, 33 ≤ a → M'.1 a k = M.1 a k) ∧ M'.2 = M.2
def FDr (M M' : Mm) : Prop := ∀ a k, a < 33 → M'.1 a k = M.1 a k
theorem FCr.rf {M : Mm} : FCr M M := ⟨fun _ _ _ => rfl, rfl⟩
theorem FDr.rf {M : Mm} : FDr M M := fun _ _ _ => rfl
theorem FCr.tr {M M1 M2 : Mm} (h1 : FCr M M1) (h2 : FCr M1 M2) : FCr M M2 := ⟨fun a k h => (h2.1 a k h).trans (h1.1 a k h), h2.2.trans h1.2⟩
theorem FDr.tr {M M1 M2 : Mm} (h1 : FDr M M1) (h2 : FDr M1 M2) : FDr M M2 := fun a k h => (h2 a k h).trans (h1 a k h)
theorem FCr.put {M : Mm} {p k : Nat} {x : Int32} (h : p < 33) : FCr M (mput M p k x) := ⟨fun a j ha => by rw [mpg, if_neg (by omega)], rfl⟩
theorem FDr.put {M : Mm} {p k : Nat} {x : Int32} (h : 33 ≤ p) : FDr M (mput M p k x) := fun a j ha => by rw [mpg, if_neg (by omega)]
theorem FDr.putL {M : Mm} {p k : Nat} {x : Int64} : FDr M (mputL M p k x) := fun _ _ _ => rfl
theorem MbAt.eq {f g : Nat → Int32} {ms : List Mb} (h : MbAt f ms) (hl : ms.length ≤ 6) (e : ∀ k, k < 24 → g k = f k) : MbAt g ms := by
  intro i b hb
  have hi := (List.getElem?_eq_some_iff.mp hb).1
  obtain ⟨h1, h2, h3, h4, h5⟩ := h i b hb
  exact ⟨by rw [e _ (by omega)]; exact h1, by rw [e _ (by omega)]; exact h2, by rw [e _ (by omega)]; exact h3, by rw [e _ (by omega)]; exact h4, h5⟩
theorem MbAt.take {f : Nat → Int32} {ms : List Mb} (h : MbAt f ms) (n : Nat) : MbAt f (ms.take n) := by
  intro i b hb
  rw [List.getElem?_take] at hb
  split at hb
  · exact h i b hb
  · cases hb
theorem SlAt.eq {f g f' g' : Nat → Int32} {sl : List (Nat × Nat)} (h : SlAt f g sl) (hl : sl.length ≤ 6) (e : ∀ k, k < 6 → f' k = f k) (e2 : ∀ k, k < 6 → g' k = g k) : SlAt f' g' sl := by
  intro i b hb
  have hi := (List.getElem?_eq_some_iff.mp hb).1
  obtain ⟨h1, h2, h3⟩ := h i b hb
  exact ⟨by rw [e _ (by omega)]; exact h1, by rw [e2 _ (by omega)]; exact h2, h3⟩
theorem SlAt.take {f g : Nat → Int32} {sl : List (Nat × Nat)} (h : SlAt f g sl) (n : Nat) : SlAt f g (sl.take n) := by
  intro i b hb
  rw [List.getElem?_take] at hb
  split at hb
  · exact h i b hb
  · cases hb
theorem CN.eq {M M' : Mm} {p : Nat} {ms : List Mb} {mo day am : Nat} (R : CN M p ms mo day am) (e : ∀ k, 3 ≤ k → k ≤ 6 → M'.1 p k = M.1 p k) (e1 : ∀ k, k < 24 → M'.1 (p + 1) k = M.1 (p + 1) k) : CN M' p ms mo day am := by
  obtain ⟨h1, h2, h3, h4, h5, h6⟩ := R
  exact ⟨h1, h2.eq h1 e1, by rw [e _ (by omega) (by omega)]; exact h3, by rw [e _ (by omega) (by omega)]; exact h4, by rw [e _ (by omega) (by omega)]; exact h5, by rw [e _ (by omega) (by omega)]; exact h6⟩
theorem CU.eq {M M' : Mm} {p : Nat} {u : Nu} (h : CU M p u) (e : ∀ a k, p ≤ a → a ≤ p + 3 → M'.1 a k = M.1 a k) : CU M' p u := by
  obtain ⟨h1, h2, h3, h4, h5⟩ := h
  exact ⟨h1.eq (fun k _ _ => e p k (by omega) (by omega)) (fun k _ => e (p + 1) k (by omega) (by omega)), h2, by rw [e _ _ (by omega) (by omega)]; exact h3, h4, h5.eq h4 (fun k _ => e _ _ (by omega) (by omega)) (fun k _ => e _ _ (by omega) (by omega))⟩
theorem CU.bec {M M' : Mm} {p q : Nat} {u : Nu} (h : CU M q u) (B : BecR p q M M') : CU M' p u := by
  obtain ⟨⟨h1, h2, h3, h4, h5, h6⟩, g2, g3, g4, g5⟩ := h
  obtain ⟨-, -, b1, b2, b3, b4⟩ := B
  exact ⟨⟨h1, h2.eq h1 b1, by rw [b4 _ (by omega) (by omega)]; exact h3, by rw [b4 _ (by omega) (by omega)]; exact h4, by rw [b4 _ (by omega) (by omega)]; exact h5, by rw [b4 _ (by omega) (by omega)]; exact h6⟩, g2, by rw [b4 _ (by omega) (by omega)]; exact g3, g4, g5.eq g4 b2 b3⟩
theorem RU.eq {f g : Nat → Int32} {u : Nu} (h : RU f u) (e : ∀ k, k < 41 → g k = f k) : RU g u := by
  obtain ⟨h1, h2, h3, h4, h5, h6, h7, h8⟩ := h
  exact ⟨h1, h2.eq h1 (fun k hk => e k (by omega)), by rw [e _ (by omega)]; exact h3, by rw [e _ (by omega)]; exact h4, by rw [e _ (by omega)]; exact h5, by rw [e _ (by omega)]; exact h6, by rw [e _ (by omega)]; exact h7, h8.eq h7.2 (fun k hk => e _ (by omega)) (fun k hk => e _ (by omega))⟩
theorem TpC.eq {M M' : Mm} {t : List Nat} (h : TpC M t) (e : M'.1 1 1 = M.1 1 1) (e2 : ∀ k, M'.1 2 k = M.1 2 k) : TpC M' t := ⟨h.1, by rw [e]; exact h.2.1, fun i b hb => by rw [e2]; exact h.2.2 i b hb⟩
theorem TpD.eq {M M' : Mm} {t : List Nat} (h : TpD M t) (e : M'.1 33 6 = M.1 33 6) (e2 : ∀ k, M'.1 38 k = M.1 38 k) : TpD M' t := ⟨h.1, by rw [e]; exact h.2.1, fun i b hb => by rw [e2]; exact h.2.2 i b hb⟩
theorem ShC.eq {M M' : Mm} {p : Nat} {s : Sh} (h : ShC M p s) (e : ∀ a k, a = p ∨ a = p + 1 → M'.1 a k = M.1 a k) : ShC M' p s := by
  cases s with
  | none => show M'.1 p 2 = -1; rw [e _ _ (Or.inl rfl)]; exact h
  | some x =>
    obtain ⟨h1, h2, h3, h4, h5⟩ := h
    exact ⟨by rw [e _ _ (Or.inl rfl)]; exact h1, h2, by rw [e _ _ (Or.inl rfl)]; exact h3, h4, fun i hi => by rw [e _ _ (Or.inr rfl)]; exact h5 i hi⟩
theorem ShD.eq {M M' : Mm} {k : Nat} {s : Sh} (h : ShD M k s) (e1 : M'.1 41 k = M.1 41 k) (e2 : M'.1 42 k = M.1 42 k) (e3 : ∀ i, i < 40 → M'.1 43 (40 * k + i) = M.1 43 (40 * k + i)) : ShD M' k s := by
  cases s with
  | none => show M'.1 41 k = -4; rw [e1]; exact h
  | some x =>
    obtain ⟨h1, h2, h3, h4, h5⟩ := h
    exact ⟨by rw [e1]; exact h1, h2, by rw [e2]; exact h3, h4, fun i hi => by rw [e3 i hi]; exact h5 i hi⟩
/-- RC after a change of some places -/
theorem RC.fq {M M' : Mm} {σ : Sta} (h : RC M σ) (e : ∀ a k, ¬ (8 ≤ a ∧ a ≤ 11) → a ≠ 15 → a ≠ 32 → a < 33 → (a ≠ 1 ∨ k = 1) → a ≠ 3 → M'.1 a k = M.1 a k) : RC M' σ := by
  obtain ⟨h1, h2, h3, h4, h5, h6⟩ := h
  exact ⟨h1.eq (fun a k _ _ => e a k (by omega) (by omega) (by omega) (by omega) (by omega) (by omega)), fun k hk => ⟨by rw [e _ _ (by omega) (by omega) (by omega) (by omega) (by omega) (by omega)]; exact (h2 k hk).1, fun z => ((h2 k hk).2 z).eq (fun a j _ _ => e a j (by omega) (by omega) (by omega) (by omega) (by omega) (by omega))⟩, h3.eq (e _ _ (by omega) (by omega) (by omega) (by omega) (by omega) (by omega)) (fun k => e _ _ (by omega) (by omega) (by omega) (by omega) (by omega) (by omega)), by rw [e _ _ (by omega) (by omega) (by omega) (by omega) (by omega) (by omega)]; exact h4, by rw [e _ _ (by omega) (by omega) (by omega) (by omega) (by omega) (by omega)]; exact h5, fun k hk => (h6 k hk).eq (fun a j ha => e a j (by omega) (by omega) (by omega) (by omega) (by omega) (by omega))⟩
theorem RC.nut {M M' : Mm} {σ : Sta} {u : Nu} (h : RC M σ) (e : ∀ a k, ¬ (4 ≤ a ∧ a ≤ 11) → a < 33 → M'.1 a k = M.1 a k) (hu : CU M' 4 u) : RC M' (u, σ.2) := by
  obtain ⟨h1, h2, h3, h4, h5, h6⟩ := h
  exact ⟨hu, fun k hk => ⟨by rw [e _ _ (by omega) (by omega)]; exact (h2 k hk).1, fun z => ((h2 k hk).2 z).eq (fun a j _ _ => e a j (by omega) (by omega))⟩, h3.eq (e _ _ (by omega) (by omega)) (fun k => e _ _ (by omega) (by omega)), by rw [e _ _ (by omega) (by omega)]; exact h4, by rw [e _ _ (by omega) (by omega)]; exact h5, fun k hk => (h6 k hk).eq (fun a j ha => e a j (by omega) (by omega))⟩
theorem RC.tp {M M' : Mm} {σ : Sta} {t : List Nat} (h : RC M σ) (e : ∀ a k, a ≠ 1 → a ≠ 2 → a < 33 → M'.1 a k = M.1 a k) (ht : TpC M' t) : RC M' (σ.1, σ.2.1, t, σ.2.2.2) := by
  obtain ⟨h1, h2, h3, h4, h5, h6⟩ := h
  exact ⟨h1.eq (fun a k _ _ => e a k (by omega) (by omega) (by omega)), fun k hk => ⟨by rw [e _ _ (by omega) (by omega) (by omega)]; exact (h2 k hk).1, fun z => ((h2 k hk).2 z).eq (fun a j _ _ => e a j (by omega) (by omega) (by omega))⟩, ht, by rw [e _ _ (by omega) (by omega) (by omega)]; exact h4, by rw [e _ _ (by omega) (by omega) (by omega)]; exact h5, fun k hk => (h6 k hk).eq (fun a j ha => e a j (by omega) (by omega) (by omega))⟩
theorem RC.sh {M M' : Mm} {σ : Sta} {j : Nat} {s : Sh} (h : RC M σ) (hj : j < 4) (e : ∀ a k, a ≠ 24 + 2 * j → a ≠ 25 + 2 * j → a < 33 → M'.1 a k = M.1 a k) (hs : ShC M' (24 + 2 * j) s) : RC M' (σ.1, σ.2.1, σ.2.2.1, σ.2.2.2.1, σ.2.2.2.2.1, fun i => if i = j then s else σ.2.2.2.2.2 i) := by
  obtain ⟨h1, h2, h3, h4, h5, h6⟩ := h
  refine ⟨h1.eq (fun a k _ _ => e a k (by omega) (by omega) (by omega)), fun k hk => ⟨by rw [e _ _ (by omega) (by omega) (by omega)]; exact (h2 k hk).1, fun z => ((h2 k hk).2 z).eq (fun a j _ _ => e a j (by omega) (by omega) (by omega))⟩, h3.eq (e _ _ (by omega) (by omega) (by omega)) (fun k => e _ _ (by omega) (by omega) (by omega)), by rw [e _ _ (by omega) (by omega) (by omega)]; exact h4, by rw [e _ _ (by omega) (by omega) (by omega)]; exact h5, fun k hk => ?_⟩
  by_cases hk2 : k = j
  · subst hk2; dsimp only; rw [if_pos rfl]; exact hs
  · dsimp only; rw [if_neg hk2]; exact (h6 k hk).eq (fun a i ha => e a i (by omega) (by omega) (by omega))
theorem RC.img {M M' : Mm} {σ : Sta} {j : Nat} {x : Bool × Nu} (h : RC M σ) (hj : j < 2) (e : ∀ a k, (a ≠ 13 ∨ k ≠ j) → ¬ (16 + 4 * j ≤ a ∧ a ≤ 19 + 4 * j) → a < 33 → M'.1 a k = M.1 a k) (h13 : M'.1 13 j = bI x.1) (hu : x.1 = true → CU M' (16 + 4 * j) x.2) : RC M' (σ.1, (fun i => if i = j then x else σ.2.1 i), σ.2.2) := by
  obtain ⟨h1, h2, h3, h4, h5, h6⟩ := h
  refine ⟨h1.eq (fun a k _ _ => e a k (by omega) (by omega) (by omega)), fun k hk => ?_, h3.eq (e _ _ (by omega) (by omega) (by omega)) (fun k => e _ _ (by omega) (by omega) (by omega)), by rw [e _ _ (by omega) (by omega) (by omega)]; exact h4, by rw [e _ _ (by omega) (by omega) (by omega)]; exact h5, fun k hk => (h6 k hk).eq (fun a j ha => e a j (by omega) (by omega) (by omega))⟩
  by_cases hk2 : k = j
  · subst hk2; dsimp only; rw [if_pos rfl]; exact ⟨h13, hu⟩
  · dsimp only; rw [if_neg hk2]; exact ⟨by rw [e _ _ (Or.inr hk2) (by omega) (by omega)]; exact (h2 k hk).1, fun z => ((h2 k hk).2 z).eq (fun a i _ _ => e a i (by omega) (by omega) (by omega))⟩
theorem RD.fr {M M' : Mm} {σ : Sta} (h : RD M σ) (e : ∀ a k, a ≠ 35 → a ≠ 37 → a ≠ 39 → a ≠ 40 → a ≠ 44 → 33 ≤ a → (a ≠ 33 ∨ k = 6 ∨ k = 11 ∨ k = 25) → M'.1 a k = M.1 a k) : RD M' σ := by
  obtain ⟨h1, h2, h3, h4, h5, h6⟩ := h
  have e34 : ∀ k, M'.1 34 k = M.1 34 k := fun k => e _ _ (by omega) (by omega) (by omega) (by omega) (by omega) (by omega) (by omega)
  exact ⟨h1.eq (fun k _ => e34 k), fun k hk => ⟨by rw [e _ _ (by omega) (by omega) (by omega) (by omega) (by omega) (by omega) (by omega)]; exact (h2 k hk).1, fun z => ((h2 k hk).2 z).eq (fun j _ => e34 _)⟩, h3.eq (e _ _ (by omega) (by omega) (by omega) (by omega) (by omega) (by omega) (by omega)) (fun k => e _ _ (by omega) (by omega) (by omega) (by omega) (by omega) (by omega) (by omega)), by rw [e _ _ (by omega) (by omega) (by omega) (by omega) (by omega) (by omega) (by omega)]; exact h4, by rw [e _ _ (by omega) (by omega) (by omega) (by omega) (by omega) (by omega) (by omega)]; exact h5, fun k hk => (h6 k hk).eq (e _ _ (by omega) (by omega) (by omega) (by omega) (by omega) (by omega) (by omega)) (e _ _ (by omega) (by omega) (by omega) (by omega) (by omega) (by omega) (by omega)) (fun i _ => e _ _ (by omega) (by omega) (by omega) (by omega) (by omega) (by omega) (by omega))⟩
theorem RD.nut {M M' : Mm} {σ : Sta} {u : Nu} (h : RD M σ) (e : ∀ a k, a ≠ 35 → a ≠ 37 → a ≠ 39 → a ≠ 40 → a ≠ 44 → 33 ≤ a → (a ≠ 33 ∨ k = 6 ∨ k = 11 ∨ k = 25) → (a ≠ 34 ∨ 41 ≤ k) → M'.1 a k = M.1 a k) (hu : RU (M'.1 34) u) : RD M' (u, σ.2) := by
  obtain ⟨h1, h2, h3, h4, h5, h6⟩ := h
  exact ⟨hu, fun k hk => ⟨by rw [e _ _ (by omega) (by omega) (by omega) (by omega) (by omega) (by omega) (by omega) (by omega)]; exact (h2 k hk).1, fun z => ((h2 k hk).2 z).eq (fun j _ => e _ _ (by omega) (by omega) (by omega) (by omega) (by omega) (by omega) (by omega) (by omega))⟩, h3.eq (e _ _ (by omega) (by omega) (by omega) (by omega) (by omega) (by omega) (by omega) (by omega)) (fun k => e _ _ (by omega) (by omega) (by omega) (by omega) (by omega) (by omega) (by omega) (by omega)), by rw [e _ _ (by omega) (by omega) (by omega) (by omega) (by omega) (by omega) (by omega) (by omega)]; exact h4, by rw [e _ _ (by omega) (by omega) (by omega) (by omega) (by omega) (by omega) (by omega) (by omega)]; exact h5, fun k hk => (h6 k hk).eq (e _ _ (by omega) (by omega) (by omega) (by omega) (by omega) (by omega) (by omega) (by omega)) (e _ _ (by omega) (by omega) (by omega) (by omega) (by omega) (by omega) (by omega) (by omega)) (fun i _ => e _ _ (by omega) (by omega) (by omega) (by omega) (by omega) (by omega) (by omega) (by omega))⟩
theorem RD.tp {M M' : Mm} {σ : Sta} {t : List Nat} (h : RD M σ) (e : ∀ a k, a ≠ 38 → 33 ≤ a → (a ≠ 33 ∨ k ≠ 6) → M'.1 a k = M.1 a k) (ht : TpD M' t) : RD M' (σ.1, σ.2.1, t, σ.2.2.2) := by
  obtain ⟨h1, h2, h3, h4, h5, h6⟩ := h
  exact ⟨h1.eq (fun k _ => e _ _ (by omega) (by omega) (by omega)), fun k hk => ⟨by rw [e _ _ (by omega) (by omega) (by omega)]; exact (h2 k hk).1, fun z => ((h2 k hk).2 z).eq (fun j _ => e _ _ (by omega) (by omega) (by omega))⟩, ht, by rw [e _ _ (by omega) (by omega) (by omega)]; exact h4, by rw [e _ _ (by omega) (by omega) (by omega)]; exact h5, fun k hk => (h6 k hk).eq (e _ _ (by omega) (by omega) (by omega)) (e _ _ (by omega) (by omega) (by omega)) (fun i _ => e _ _ (by omega) (by omega) (by omega))⟩
theorem RD.sh {M M' : Mm} {σ : Sta} {j : Nat} {s : Sh} (h : RD M σ) (hj : j < 4) (e : ∀ a k, ((a ≠ 41 ∧ a ≠ 42) ∨ k ≠ j) → (a ≠ 43 ∨ k < 40 * j ∨ 40 * j + 40 ≤ k) → 33 ≤ a → M'.1 a k = M.1 a k) (hs : ShD M' j s) : RD M' (σ.1, σ.2.1, σ.2.2.1, σ.2.2.2.1, σ.2.2.2.2.1, fun i => if i = j then s else σ.2.2.2.2.2 i) := by
  obtain ⟨h1, h2, h3, h4, h5, h6⟩ := h
  refine ⟨h1.eq (fun k _ => e _ _ (by omega) (by omega) (by omega)), fun k hk => ⟨by rw [e _ _ (by omega) (by omega) (by omega)]; exact (h2 k hk).1, fun z => ((h2 k hk).2 z).eq (fun j _ => e _ _ (by omega) (by omega) (by omega))⟩, h3.eq (e _ _ (by omega) (by omega) (by omega)) (fun k => e _ _ (by omega) (by omega) (by omega)), by rw [e _ _ (by omega) (by omega) (by omega)]; exact h4, by rw [e _ _ (by omega) (by omega) (by omega)]; exact h5, fun k hk => ?_⟩
  by_cases hk2 : k = j
  · subst hk2; dsimp only; rw [if_pos rfl]; exact hs
  · dsimp only; rw [if_neg hk2]; exact (h6 k hk).eq (e _ _ (Or.inr hk2) (by omega) (by omega)) (e _ _ (Or.inr hk2) (by omega) (by omega)) (fun i hi => e _ _ (by omega) (by omega) (by omega))
theorem RD.img {M M' : Mm} {σ : Sta} {j : Nat} {x : Bool × Nu} (h : RD M σ) (hj : j < 2) (e : ∀ a k, (a ≠ 36 ∨ k ≠ j) → (a ≠ 34 ∨ k < 41 * (j + 1) ∨ 41 * (j + 1) + 41 ≤ k) → 33 ≤ a → M'.1 a k = M.1 a k) (h13 : M'.1 36 j = bI x.1) (hu : x.1 = true → RU (fun i => M'.1 34 (41 * (j + 1) + i)) x.2) : RD M' (σ.1, (fun i => if i = j then x else σ.2.1 i), σ.2.2) := by
  obtain ⟨h1, h2, h3, h4, h5, h6⟩ := h
  refine ⟨h1.eq (fun k _ => e _ _ (by omega) (by omega) (by omega)), fun k hk => ?_, h3.eq (e _ _ (by omega) (by omega) (by omega)) (fun k => e _ _ (by omega) (by omega) (by omega)), by rw [e _ _ (by omega) (by omega) (by omega)]; exact h4, by rw [e _ _ (by omega) (by omega) (by omega)]; exact h5, fun k hk => (h6 k hk).eq (e _ _ (by omega) (by omega) (by omega)) (e _ _ (by omega) (by omega) (by omega)) (fun i _ => e _ _ (by omega) (by omega) (by omega))⟩
  by_cases hk2 : k = j
  · subst hk2; dsimp only; rw [if_pos rfl]; exact ⟨h13, hu⟩
  · dsimp only; rw [if_neg hk2]; exact ⟨by rw [e _ _ (Or.inr hk2) (by omega) (by omega)]; exact (h2 k hk).1, fun z => ((h2 k hk).2 z).eq (fun i _ => e _ _ (by omega) (by omega) (by omega))⟩
theorem RC.eqv {M M' : Mm} {σ : Sta} (h : RC M σ) (e : FDr M M') : RC M' σ := h.fq (fun a k _ _ _ ha _ _ => e a k ha)
theorem RD.eqv {M M' : Mm} {σ : Sta} (h : RD M σ) (e : FCr M M') : RD M' σ := h.fr (fun a k _ _ _ _ _ ha _ => e.1 a k ha)
/-- is it a member's number, and which -/
theorem inI_nat {i : Int32} {n : Nat} (hn : n < 2 ^ 31) (h : inI i 0 (nI n) = true) : ∃ a, a ≤ n ∧ i = nI a := by
  have h := of_decide_eq_true h
  have h0 : ¬ i < 0 := by rw [Int32.lt_iff_toInt_lt]; have := h.1; rw [Int32.le_iff_toInt_le] at this; omega
  obtain ⟨j, hj, e⟩ := nI_of h0
  refine ⟨j, ?_, e⟩
  have h2 := h.2
  rw [e, nI_leI hj hn] at h2
  exact h2
theorem inI_mem {i : Int32} {n : Nat} (hn : n < 2 ^ 31) (h : inI i 0 (nI n - 1) = true) : ∃ a, a < n ∧ i = nI a := by
  cases n with
  | zero =>
    exfalso
    have h := of_decide_eq_true h
    have h1 := h.1
    have h2 := h.2
    rw [Int32.le_iff_toInt_le] at h1 h2
    rw [show (nI 0 - 1).toInt = -1 from by decide] at h2
    rw [show (0 : Int32).toInt = 0 from by decide] at h1
    omega
  | succ n =>
    rw [nI_pred] at h
    obtain ⟨a, ha, e⟩ := inI_nat (by omega) h
    exact ⟨a, by omega, e⟩
theorem nI_inI {a n : Nat} (h : a ≤ n) (hn : n < 2 ^ 31) : inI (nI a) 0 (nI n) = true := decide_eq_true ⟨nI_pos' (by omega), nI_le h hn⟩
end
