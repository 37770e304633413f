section
/-- a private method of a class that the tables say can be made, by its rows of tables_1 -/
def lw_okq (q : MethodName × Nat) : Prop := (q.1.cls ≠ "java/lang/invoke/MethodHandle" ∧ q.1.cls ≠ "java/lang/invoke/VarHandle") ∧ Cond.instantiable q.1.cls q.2 ∈ tables_1 ∧ Cond.privateMethod q.1 ∈ tables_1 ∧ Cond.instanceMethod q.1 ∈ tables_1
theorem lw_p0 : lw_okq (⟨"ScanDetector$Walk", "setParameters", "(IIII)V"⟩, 9) := ⟨⟨by decide +kernel, by decide +kernel⟩, List.mem_of_getElem? (i := 49) (by decide +kernel), List.mem_of_getElem? (i := 55) (by decide +kernel), List.mem_of_getElem? (i := 56) (by decide +kernel)⟩
theorem lw_p1 : lw_okq (⟨"ScanDetector", "reset", "()V"⟩, 8) := ⟨⟨by decide +kernel, by decide +kernel⟩, List.mem_of_getElem? (i := 13) (by decide +kernel), List.mem_of_getElem? (i := 178) (by decide +kernel), List.mem_of_getElem? (i := 179) (by decide +kernel)⟩
theorem lw_p2 : lw_okq (⟨"ScanDetector$Cell", "reset", "()V"⟩, 5) := ⟨⟨by decide +kernel, by decide +kernel⟩, List.mem_of_getElem? (i := 22) (by decide +kernel), List.mem_of_getElem? (i := 182) (by decide +kernel), List.mem_of_getElem? (i := 183) (by decide +kernel)⟩
theorem lw_p3 : lw_okq (⟨"ScanDetector$Cell", "forget", "()V"⟩, 5) := ⟨⟨by decide +kernel, by decide +kernel⟩, List.mem_of_getElem? (i := 22) (by decide +kernel), List.mem_of_getElem? (i := 186) (by decide +kernel), List.mem_of_getElem? (i := 187) (by decide +kernel)⟩
theorem lw_p4 : lw_okq (⟨"ScanDetector", "cellIndex", "(I)I"⟩, 8) := ⟨⟨by decide +kernel, by decide +kernel⟩, List.mem_of_getElem? (i := 13) (by decide +kernel), List.mem_of_getElem? (i := 208) (by decide +kernel), List.mem_of_getElem? (i := 209) (by decide +kernel)⟩
theorem lw_p5 : lw_okq (⟨"ScanDetector$Cell", "stopConnect", "(Z)V"⟩, 5) := ⟨⟨by decide +kernel, by decide +kernel⟩, List.mem_of_getElem? (i := 22) (by decide +kernel), List.mem_of_getElem? (i := 212) (by decide +kernel), List.mem_of_getElem? (i := 213) (by decide +kernel)⟩
theorem lw_p6 : lw_okq (⟨"ScanDetector$Cell", "hasSeen", "(I)Z"⟩, 5) := ⟨⟨by decide +kernel, by decide +kernel⟩, List.mem_of_getElem? (i := 22) (by decide +kernel), List.mem_of_getElem? (i := 216) (by decide +kernel), List.mem_of_getElem? (i := 217) (by decide +kernel)⟩
theorem lw_p7 : lw_okq (⟨"ScanDetector$Cell", "see", "(I)V"⟩, 5) := ⟨⟨by decide +kernel, by decide +kernel⟩, List.mem_of_getElem? (i := 22) (by decide +kernel), List.mem_of_getElem? (i := 220) (by decide +kernel), List.mem_of_getElem? (i := 221) (by decide +kernel)⟩
theorem lw_p8 : lw_okq (⟨"ScanDetector", "settle", "(IZ)I"⟩, 8) := ⟨⟨by decide +kernel, by decide +kernel⟩, List.mem_of_getElem? (i := 13) (by decide +kernel), List.mem_of_getElem? (i := 224) (by decide +kernel), List.mem_of_getElem? (i := 225) (by decide +kernel)⟩
theorem lw_p9 : lw_okq (⟨"ScanDetector$Walk", "after", "(IZ)I"⟩, 9) := ⟨⟨by decide +kernel, by decide +kernel⟩, List.mem_of_getElem? (i := 49) (by decide +kernel), List.mem_of_getElem? (i := 228) (by decide +kernel), List.mem_of_getElem? (i := 229) (by decide +kernel)⟩
theorem lw_p10 : lw_okq (⟨"ScanDetector$Walk", "verdictAt", "(I)I"⟩, 9) := ⟨⟨by decide +kernel, by decide +kernel⟩, List.mem_of_getElem? (i := 49) (by decide +kernel), List.mem_of_getElem? (i := 232) (by decide +kernel), List.mem_of_getElem? (i := 233) (by decide +kernel)⟩
theorem lw_p11 : lw_okq (⟨"ScanDetector", "discardAttempts", "(I)V"⟩, 8) := ⟨⟨by decide +kernel, by decide +kernel⟩, List.mem_of_getElem? (i := 13) (by decide +kernel), List.mem_of_getElem? (i := 236) (by decide +kernel), List.mem_of_getElem? (i := 237) (by decide +kernel)⟩
theorem lw_p12 : lw_okq (⟨"ScanDetector$PendingAttempts", "drop", "(I)V"⟩, 4) := ⟨⟨by decide +kernel, by decide +kernel⟩, List.mem_of_getElem? (i := 93) (by decide +kernel), List.mem_of_getElem? (i := 240) (by decide +kernel), List.mem_of_getElem? (i := 241) (by decide +kernel)⟩
theorem lw_p13 : lw_okq (⟨"ScanDetector$VerdictLog", "note", "(I)V"⟩, 2) := ⟨⟨by decide +kernel, by decide +kernel⟩, List.mem_of_getElem? (i := 116) (by decide +kernel), List.mem_of_getElem? (i := 245) (by decide +kernel), List.mem_of_getElem? (i := 246) (by decide +kernel)⟩
theorem lw_p14 : lw_okq (⟨"ScanDetector$Cell", "stopAttempt", "()V"⟩, 5) := ⟨⟨by decide +kernel, by decide +kernel⟩, List.mem_of_getElem? (i := 22) (by decide +kernel), List.mem_of_getElem? (i := 256) (by decide +kernel), List.mem_of_getElem? (i := 257) (by decide +kernel)⟩
theorem lw_p15 : lw_okq (⟨"ScanDetector$PendingAttempts", "put", "(III)Z"⟩, 4) := ⟨⟨by decide +kernel, by decide +kernel⟩, List.mem_of_getElem? (i := 93) (by decide +kernel), List.mem_of_getElem? (i := 260) (by decide +kernel), List.mem_of_getElem? (i := 261) (by decide +kernel)⟩
def lw_privs_1 : List (MethodName × Nat) := [(⟨"ScanDetector$Walk", "setParameters", "(IIII)V"⟩, 9), (⟨"ScanDetector", "reset", "()V"⟩, 8), (⟨"ScanDetector$Cell", "reset", "()V"⟩, 5), (⟨"ScanDetector$Cell", "forget", "()V"⟩, 5), (⟨"ScanDetector", "cellIndex", "(I)I"⟩, 8), (⟨"ScanDetector$Cell", "stopConnect", "(Z)V"⟩, 5), (⟨"ScanDetector$Cell", "hasSeen", "(I)Z"⟩, 5), (⟨"ScanDetector$Cell", "see", "(I)V"⟩, 5), (⟨"ScanDetector", "settle", "(IZ)I"⟩, 8), (⟨"ScanDetector$Walk", "after", "(IZ)I"⟩, 9), (⟨"ScanDetector$Walk", "verdictAt", "(I)I"⟩, 9), (⟨"ScanDetector", "discardAttempts", "(I)V"⟩, 8), (⟨"ScanDetector$PendingAttempts", "drop", "(I)V"⟩, 4), (⟨"ScanDetector$VerdictLog", "note", "(I)V"⟩, 2), (⟨"ScanDetector$Cell", "stopAttempt", "()V"⟩, 5), (⟨"ScanDetector$PendingAttempts", "put", "(III)Z"⟩, 4)]
theorem lw_r1 : ∀ q ∈ lw_privs_1, lw_okq q := List.forall_mem_cons.mpr ⟨lw_p0, List.forall_mem_cons.mpr ⟨lw_p1, List.forall_mem_cons.mpr ⟨lw_p2, List.forall_mem_cons.mpr ⟨lw_p3, List.forall_mem_cons.mpr ⟨lw_p4, List.forall_mem_cons.mpr ⟨lw_p5, List.forall_mem_cons.mpr ⟨lw_p6, List.forall_mem_cons.mpr ⟨lw_p7, List.forall_mem_cons.mpr ⟨lw_p8, List.forall_mem_cons.mpr ⟨lw_p9, List.forall_mem_cons.mpr ⟨lw_p10, List.forall_mem_cons.mpr ⟨lw_p11, List.forall_mem_cons.mpr ⟨lw_p12, List.forall_mem_cons.mpr ⟨lw_p13, List.forall_mem_cons.mpr ⟨lw_p14, List.forall_mem_cons.mpr ⟨lw_p15, fun _ h => absurd h List.not_mem_nil⟩⟩⟩⟩⟩⟩⟩⟩⟩⟩⟩⟩⟩⟩⟩⟩
theorem lw_p16 : lw_okq (⟨"ScanDetector$PendingAttempts", "find", "(II)I"⟩, 4) := ⟨⟨by decide +kernel, by decide +kernel⟩, List.mem_of_getElem? (i := 93) (by decide +kernel), List.mem_of_getElem? (i := 268) (by decide +kernel), List.mem_of_getElem? (i := 269) (by decide +kernel)⟩
theorem lw_p17 : lw_okq (⟨"ScanDetector", "failDueAttempts", "()I"⟩, 8) := ⟨⟨by decide +kernel, by decide +kernel⟩, List.mem_of_getElem? (i := 13) (by decide +kernel), List.mem_of_getElem? (i := 276) (by decide +kernel), List.mem_of_getElem? (i := 277) (by decide +kernel)⟩
theorem lw_p18 : lw_okq (⟨"ScanDetector$PendingAttempts", "firstDue", "(I)I"⟩, 4) := ⟨⟨by decide +kernel, by decide +kernel⟩, List.mem_of_getElem? (i := 93) (by decide +kernel), List.mem_of_getElem? (i := 280) (by decide +kernel), List.mem_of_getElem? (i := 281) (by decide +kernel)⟩
theorem lw_p19 : lw_okq (⟨"ScanDetector", "cellExists", "(I)Z"⟩, 8) := ⟨⟨by decide +kernel, by decide +kernel⟩, List.mem_of_getElem? (i := 13) (by decide +kernel), List.mem_of_getElem? (i := 288) (by decide +kernel), List.mem_of_getElem? (i := 289) (by decide +kernel)⟩
theorem lw_p20 : lw_okq (⟨"ScanDetector$InputText", "put", "(I)Z"⟩, 2) := ⟨⟨by decide +kernel, by decide +kernel⟩, List.mem_of_getElem? (i := 130) (by decide +kernel), List.mem_of_getElem? (i := 296) (by decide +kernel), List.mem_of_getElem? (i := 297) (by decide +kernel)⟩
theorem lw_p21 : lw_okq (⟨"ScanDetector$InputText", "findError", "()I"⟩, 2) := ⟨⟨by decide +kernel, by decide +kernel⟩, List.mem_of_getElem? (i := 130) (by decide +kernel), List.mem_of_getElem? (i := 308) (by decide +kernel), List.mem_of_getElem? (i := 309) (by decide +kernel)⟩
theorem lw_p22 : lw_okq (⟨"ScanDetector$InputText", "fits", "(I)Z"⟩, 2) := ⟨⟨by decide +kernel, by decide +kernel⟩, List.mem_of_getElem? (i := 130) (by decide +kernel), List.mem_of_getElem? (i := 312) (by decide +kernel), List.mem_of_getElem? (i := 313) (by decide +kernel)⟩
theorem lw_p23 : lw_okq (⟨"ScanDetector$InputText", "isComplete", "()Z"⟩, 2) := ⟨⟨by decide +kernel, by decide +kernel⟩, List.mem_of_getElem? (i := 130) (by decide +kernel), List.mem_of_getElem? (i := 324) (by decide +kernel), List.mem_of_getElem? (i := 325) (by decide +kernel)⟩
theorem lw_p24 : lw_okq (⟨"ScanDetector$InputText", "sourceAt", "(I)I"⟩, 2) := ⟨⟨by decide +kernel, by decide +kernel⟩, List.mem_of_getElem? (i := 130) (by decide +kernel), List.mem_of_getElem? (i := 329) (by decide +kernel), List.mem_of_getElem? (i := 330) (by decide +kernel)⟩
theorem lw_p25 : lw_okq (⟨"ScanDetector$InputText", "destinationAt", "(I)I"⟩, 2) := ⟨⟨by decide +kernel, by decide +kernel⟩, List.mem_of_getElem? (i := 130) (by decide +kernel), List.mem_of_getElem? (i := 333) (by decide +kernel), List.mem_of_getElem? (i := 334) (by decide +kernel)⟩
theorem lw_p26 : lw_okq (⟨"ScanDetector$InputText", "successAt", "(I)Z"⟩, 2) := ⟨⟨by decide +kernel, by decide +kernel⟩, List.mem_of_getElem? (i := 130) (by decide +kernel), List.mem_of_getElem? (i := 337) (by decide +kernel), List.mem_of_getElem? (i := 338) (by decide +kernel)⟩
theorem lw_p27 : lw_okq (⟨"ScanDetector$VerdictLog", "kept", "()I"⟩, 2) := ⟨⟨by decide +kernel, by decide +kernel⟩, List.mem_of_getElem? (i := 116) (by decide +kernel), List.mem_of_getElem? (i := 387) (by decide +kernel), List.mem_of_getElem? (i := 388) (by decide +kernel)⟩
theorem lw_p28 : lw_okq (⟨"ScanDetector$VerdictLog", "recall", "(I)I"⟩, 2) := ⟨⟨by decide +kernel, by decide +kernel⟩, List.mem_of_getElem? (i := 116) (by decide +kernel), List.mem_of_getElem? (i := 391) (by decide +kernel), List.mem_of_getElem? (i := 392) (by decide +kernel)⟩
theorem lw_p29 : lw_okq (⟨"ScanDetector$Walk", "sequencesWith", "(II)I"⟩, 9) := ⟨⟨by decide +kernel, by decide +kernel⟩, List.mem_of_getElem? (i := 49) (by decide +kernel), List.mem_of_getElem? (i := 399) (by decide +kernel), List.mem_of_getElem? (i := 400) (by decide +kernel)⟩
theorem lw_p30 : lw_okq (⟨"ScanDetector$Walk", "indexOfZero", "()I"⟩, 9) := ⟨⟨by decide +kernel, by decide +kernel⟩, List.mem_of_getElem? (i := 49) (by decide +kernel), List.mem_of_getElem? (i := 406) (by decide +kernel), List.mem_of_getElem? (i := 407) (by decide +kernel)⟩
theorem lw_p31 : lw_okq (⟨"ScanDetector$Walk", "sumOfCounts", "(II)I"⟩, 9) := ⟨⟨by decide +kernel, by decide +kernel⟩, List.mem_of_getElem? (i := 49) (by decide +kernel), List.mem_of_getElem? (i := 410) (by decide +kernel), List.mem_of_getElem? (i := 411) (by decide +kernel)⟩
def lw_privs_2 : List (MethodName × Nat) := [(⟨"ScanDetector$PendingAttempts", "find", "(II)I"⟩, 4), (⟨"ScanDetector", "failDueAttempts", "()I"⟩, 8), (⟨"ScanDetector$PendingAttempts", "firstDue", "(I)I"⟩, 4), (⟨"ScanDetector", "cellExists", "(I)Z"⟩, 8), (⟨"ScanDetector$InputText", "put", "(I)Z"⟩, 2), (⟨"ScanDetector$InputText", "findError", "()I"⟩, 2), (⟨"ScanDetector$InputText", "fits", "(I)Z"⟩, 2), (⟨"ScanDetector$InputText", "isComplete", "()Z"⟩, 2), (⟨"ScanDetector$InputText", "sourceAt", "(I)I"⟩, 2), (⟨"ScanDetector$InputText", "destinationAt", "(I)I"⟩, 2), (⟨"ScanDetector$InputText", "successAt", "(I)Z"⟩, 2), (⟨"ScanDetector$VerdictLog", "kept", "()I"⟩, 2), (⟨"ScanDetector$VerdictLog", "recall", "(I)I"⟩, 2), (⟨"ScanDetector$Walk", "sequencesWith", "(II)I"⟩, 9), (⟨"ScanDetector$Walk", "indexOfZero", "()I"⟩, 9), (⟨"ScanDetector$Walk", "sumOfCounts", "(II)I"⟩, 9)]
theorem lw_r2 : ∀ q ∈ lw_privs_2, lw_okq q := List.forall_mem_cons.mpr ⟨lw_p16, List.forall_mem_cons.mpr ⟨lw_p17, List.forall_mem_cons.mpr ⟨lw_p18, List.forall_mem_cons.mpr ⟨lw_p19, List.forall_mem_cons.mpr ⟨lw_p20, List.forall_mem_cons.mpr ⟨lw_p21, List.forall_mem_cons.mpr ⟨lw_p22, List.forall_mem_cons.mpr ⟨lw_p23, List.forall_mem_cons.mpr ⟨lw_p24, List.forall_mem_cons.mpr ⟨lw_p25, List.forall_mem_cons.mpr ⟨lw_p26, List.forall_mem_cons.mpr ⟨lw_p27, List.forall_mem_cons.mpr ⟨lw_p28, List.forall_mem_cons.mpr ⟨lw_p29, List.forall_mem_cons.mpr ⟨lw_p30, List.forall_mem_cons.mpr ⟨lw_p31, fun _ h => absurd h List.not_mem_nil⟩⟩⟩⟩⟩⟩⟩⟩⟩⟩⟩⟩⟩⟩⟩⟩
theorem lw_p32 : lw_okq (⟨"ScanDetector$Walk", "stepCounts", "()V"⟩, 9) := ⟨⟨by decide +kernel, by decide +kernel⟩, List.mem_of_getElem? (i := 49) (by decide +kernel), List.mem_of_getElem? (i := 420) (by decide +kernel), List.mem_of_getElem? (i := 421) (by decide +kernel)⟩
theorem lw_p33 : lw_okq (⟨"ScanDetector$Walk", "chanceOfScanner", "(DI)D"⟩, 9) := ⟨⟨by decide +kernel, by decide +kernel⟩, List.mem_of_getElem? (i := 49) (by decide +kernel), List.mem_of_getElem? (i := 430) (by decide +kernel), List.mem_of_getElem? (i := 431) (by decide +kernel)⟩
theorem lw_p34 : lw_okq (⟨"ScanDetector$Walk", "startChances", "()V"⟩, 9) := ⟨⟨by decide +kernel, by decide +kernel⟩, List.mem_of_getElem? (i := 49) (by decide +kernel), List.mem_of_getElem? (i := 434) (by decide +kernel), List.mem_of_getElem? (i := 435) (by decide +kernel)⟩
theorem lw_p35 : lw_okq (⟨"ScanDetector$Walk", "stepChances", "(DD)D"⟩, 9) := ⟨⟨by decide +kernel, by decide +kernel⟩, List.mem_of_getElem? (i := 49) (by decide +kernel), List.mem_of_getElem? (i := 441) (by decide +kernel), List.mem_of_getElem? (i := 442) (by decide +kernel)⟩
theorem lw_p36 : lw_okq (⟨"ScanDetector$Walk", "meanContacts", "(DI)D"⟩, 9) := ⟨⟨by decide +kernel, by decide +kernel⟩, List.mem_of_getElem? (i := 49) (by decide +kernel), List.mem_of_getElem? (i := 456) (by decide +kernel), List.mem_of_getElem? (i := 457) (by decide +kernel)⟩
theorem lw_p37 : lw_okq (⟨"ScanDetector$Walk", "sumOfChances", "()D"⟩, 9) := ⟨⟨by decide +kernel, by decide +kernel⟩, List.mem_of_getElem? (i := 49) (by decide +kernel), List.mem_of_getElem? (i := 460) (by decide +kernel), List.mem_of_getElem? (i := 461) (by decide +kernel)⟩
theorem lw_p38 : lw_okq (⟨"ScanDetector", "hashSettings", "(J)J"⟩, 8) := ⟨⟨by decide +kernel, by decide +kernel⟩, List.mem_of_getElem? (i := 13) (by decide +kernel), List.mem_of_getElem? (i := 469) (by decide +kernel), List.mem_of_getElem? (i := 470) (by decide +kernel)⟩
theorem lw_p39 : lw_okq (⟨"ScanDetector", "hashCells", "(J)J"⟩, 8) := ⟨⟨by decide +kernel, by decide +kernel⟩, List.mem_of_getElem? (i := 13) (by decide +kernel), List.mem_of_getElem? (i := 477) (by decide +kernel), List.mem_of_getElem? (i := 478) (by decide +kernel)⟩
theorem lw_p40 : lw_okq (⟨"ScanDetector", "hashAttempts", "(J)J"⟩, 8) := ⟨⟨by decide +kernel, by decide +kernel⟩, List.mem_of_getElem? (i := 13) (by decide +kernel), List.mem_of_getElem? (i := 486) (by decide +kernel), List.mem_of_getElem? (i := 487) (by decide +kernel)⟩
theorem lw_p41 : lw_okq (⟨"ScanDetector", "hashVerdicts", "(J)J"⟩, 8) := ⟨⟨by decide +kernel, by decide +kernel⟩, List.mem_of_getElem? (i := 13) (by decide +kernel), List.mem_of_getElem? (i := 491) (by decide +kernel), List.mem_of_getElem? (i := 492) (by decide +kernel)⟩
theorem lw_p42 : lw_okq (⟨"ScanDetector", "hashAnalysis", "(J)J"⟩, 8) := ⟨⟨by decide +kernel, by decide +kernel⟩, List.mem_of_getElem? (i := 13) (by decide +kernel), List.mem_of_getElem? (i := 496) (by decide +kernel), List.mem_of_getElem? (i := 497) (by decide +kernel)⟩
theorem lw_p43 : lw_okq (⟨"ScanDetector", "hashInput", "(J)J"⟩, 8) := ⟨⟨by decide +kernel, by decide +kernel⟩, List.mem_of_getElem? (i := 13) (by decide +kernel), List.mem_of_getElem? (i := 503) (by decide +kernel), List.mem_of_getElem? (i := 504) (by decide +kernel)⟩
theorem lw_p44 : lw_okq (⟨"ScanDetectorModel", "reset", "()V"⟩, 27) := ⟨⟨by decide +kernel, by decide +kernel⟩, List.mem_of_getElem? (i := 507) (by decide +kernel), List.mem_of_getElem? (i := 604) (by decide +kernel), List.mem_of_getElem? (i := 605) (by decide +kernel)⟩
theorem lw_p45 : lw_okq (⟨"ScanDetectorModel", "connectNow", "(IIZ)I"⟩, 27) := ⟨⟨by decide +kernel, by decide +kernel⟩, List.mem_of_getElem? (i := 507) (by decide +kernel), List.mem_of_getElem? (i := 626) (by decide +kernel), List.mem_of_getElem? (i := 627) (by decide +kernel)⟩
theorem lw_p46 : lw_okq (⟨"ScanDetectorModel", "isSeen", "(II)Z"⟩, 27) := ⟨⟨by decide +kernel, by decide +kernel⟩, List.mem_of_getElem? (i := 507) (by decide +kernel), List.mem_of_getElem? (i := 630) (by decide +kernel), List.mem_of_getElem? (i := 631) (by decide +kernel)⟩
theorem lw_p47 : lw_okq (⟨"ScanDetectorModel", "count", "(IZ)I"⟩, 27) := ⟨⟨by decide +kernel, by decide +kernel⟩, List.mem_of_getElem? (i := 507) (by decide +kernel), List.mem_of_getElem? (i := 634) (by decide +kernel), List.mem_of_getElem? (i := 635) (by decide +kernel)⟩
def lw_privs_3 : List (MethodName × Nat) := [(⟨"ScanDetector$Walk", "stepCounts", "()V"⟩, 9), (⟨"ScanDetector$Walk", "chanceOfScanner", "(DI)D"⟩, 9), (⟨"ScanDetector$Walk", "startChances", "()V"⟩, 9), (⟨"ScanDetector$Walk", "stepChances", "(DD)D"⟩, 9), (⟨"ScanDetector$Walk", "meanContacts", "(DI)D"⟩, 9), (⟨"ScanDetector$Walk", "sumOfChances", "()D"⟩, 9), (⟨"ScanDetector", "hashSettings", "(J)J"⟩, 8), (⟨"ScanDetector", "hashCells", "(J)J"⟩, 8), (⟨"ScanDetector", "hashAttempts", "(J)J"⟩, 8), (⟨"ScanDetector", "hashVerdicts", "(J)J"⟩, 8), (⟨"ScanDetector", "hashAnalysis", "(J)J"⟩, 8), (⟨"ScanDetector", "hashInput", "(J)J"⟩, 8), (⟨"ScanDetectorModel", "reset", "()V"⟩, 27), (⟨"ScanDetectorModel", "connectNow", "(IIZ)I"⟩, 27), (⟨"ScanDetectorModel", "isSeen", "(II)Z"⟩, 27), (⟨"ScanDetectorModel", "count", "(IZ)I"⟩, 27)]
theorem lw_r3 : ∀ q ∈ lw_privs_3, lw_okq q := List.forall_mem_cons.mpr ⟨lw_p32, List.forall_mem_cons.mpr ⟨lw_p33, List.forall_mem_cons.mpr ⟨lw_p34, List.forall_mem_cons.mpr ⟨lw_p35, List.forall_mem_cons.mpr ⟨lw_p36, List.forall_mem_cons.mpr ⟨lw_p37, List.forall_mem_cons.mpr ⟨lw_p38, List.forall_mem_cons.mpr ⟨lw_p39, List.forall_mem_cons.mpr ⟨lw_p40, List.forall_mem_cons.mpr ⟨lw_p41, List.forall_mem_cons.mpr ⟨lw_p42, List.forall_mem_cons.mpr ⟨lw_p43, List.forall_mem_cons.mpr ⟨lw_p44, List.forall_mem_cons.mpr ⟨lw_p45, List.forall_mem_cons.mpr ⟨lw_p46, List.forall_mem_cons.mpr ⟨lw_p47, fun _ h => absurd h List.not_mem_nil⟩⟩⟩⟩⟩⟩⟩⟩⟩⟩⟩⟩⟩⟩⟩⟩
theorem lw_p48 : lw_okq (⟨"ScanDetectorModel", "dropAllOf", "(I)V"⟩, 27) := ⟨⟨by decide +kernel, by decide +kernel⟩, List.mem_of_getElem? (i := 507) (by decide +kernel), List.mem_of_getElem? (i := 638) (by decide +kernel), List.mem_of_getElem? (i := 639) (by decide +kernel)⟩
theorem lw_p49 : lw_okq (⟨"ScanDetectorModel", "drop", "(I)V"⟩, 27) := ⟨⟨by decide +kernel, by decide +kernel⟩, List.mem_of_getElem? (i := 507) (by decide +kernel), List.mem_of_getElem? (i := 642) (by decide +kernel), List.mem_of_getElem? (i := 643) (by decide +kernel)⟩
theorem lw_p50 : lw_okq (⟨"ScanDetectorModel", "decide", "(II)I"⟩, 27) := ⟨⟨by decide +kernel, by decide +kernel⟩, List.mem_of_getElem? (i := 507) (by decide +kernel), List.mem_of_getElem? (i := 646) (by decide +kernel), List.mem_of_getElem? (i := 647) (by decide +kernel)⟩
theorem lw_p51 : lw_okq (⟨"ScanDetectorModel", "attemptNow", "(II)I"⟩, 27) := ⟨⟨by decide +kernel, by decide +kernel⟩, List.mem_of_getElem? (i := 507) (by decide +kernel), List.mem_of_getElem? (i := 654) (by decide +kernel), List.mem_of_getElem? (i := 655) (by decide +kernel)⟩
theorem lw_p52 : lw_okq (⟨"ScanDetectorModel", "tick", "()I"⟩, 27) := ⟨⟨by decide +kernel, by decide +kernel⟩, List.mem_of_getElem? (i := 507) (by decide +kernel), List.mem_of_getElem? (i := 666) (by decide +kernel), List.mem_of_getElem? (i := 667) (by decide +kernel)⟩
theorem lw_p53 : lw_okq (⟨"ScanDetectorModel", "due", "()I"⟩, 27) := ⟨⟨by decide +kernel, by decide +kernel⟩, List.mem_of_getElem? (i := 507) (by decide +kernel), List.mem_of_getElem? (i := 670) (by decide +kernel), List.mem_of_getElem? (i := 671) (by decide +kernel)⟩
theorem lw_p54 : lw_okq (⟨"ScanDetectorModel", "isCell", "(I)Z"⟩, 27) := ⟨⟨by decide +kernel, by decide +kernel⟩, List.mem_of_getElem? (i := 507) (by decide +kernel), List.mem_of_getElem? (i := 678) (by decide +kernel), List.mem_of_getElem? (i := 679) (by decide +kernel)⟩
theorem lw_p55 : lw_okq (⟨"ScanDetectorModel", "rightLength", "()I"⟩, 27) := ⟨⟨by decide +kernel, by decide +kernel⟩, List.mem_of_getElem? (i := 507) (by decide +kernel), List.mem_of_getElem? (i := 694) (by decide +kernel), List.mem_of_getElem? (i := 695) (by decide +kernel)⟩
theorem lw_p56 : lw_okq (⟨"ScanDetectorModel", "isRight", "(I)Z"⟩, 27) := ⟨⟨by decide +kernel, by decide +kernel⟩, List.mem_of_getElem? (i := 507) (by decide +kernel), List.mem_of_getElem? (i := 698) (by decide +kernel), List.mem_of_getElem? (i := 699) (by decide +kernel)⟩
theorem lw_p57 : lw_okq (⟨"ScanDetectorModel", "described", "(I)I"⟩, 27) := ⟨⟨by decide +kernel, by decide +kernel⟩, List.mem_of_getElem? (i := 507) (by decide +kernel), List.mem_of_getElem? (i := 739) (by decide +kernel), List.mem_of_getElem? (i := 740) (by decide +kernel)⟩
theorem lw_p58 : lw_okq (⟨"ScanDetectorModel", "sequences", "(II)I"⟩, 27) := ⟨⟨by decide +kernel, by decide +kernel⟩, List.mem_of_getElem? (i := 507) (by decide +kernel), List.mem_of_getElem? (i := 759) (by decide +kernel), List.mem_of_getElem? (i := 760) (by decide +kernel)⟩
theorem lw_p59 : lw_okq (⟨"ScanDetectorModel", "scannedBits", "(II)J"⟩, 27) := ⟨⟨by decide +kernel, by decide +kernel⟩, List.mem_of_getElem? (i := 507) (by decide +kernel), List.mem_of_getElem? (i := 770) (by decide +kernel), List.mem_of_getElem? (i := 771) (by decide +kernel)⟩
theorem lw_p60 : lw_okq (⟨"ScanDetectorModel", "layChances", "(II)V"⟩, 27) := ⟨⟨by decide +kernel, by decide +kernel⟩, List.mem_of_getElem? (i := 507) (by decide +kernel), List.mem_of_getElem? (i := 774) (by decide +kernel), List.mem_of_getElem? (i := 775) (by decide +kernel)⟩
theorem lw_p61 : lw_okq (⟨"ScanDetectorModel", "step", "(DD)V"⟩, 27) := ⟨⟨by decide +kernel, by decide +kernel⟩, List.mem_of_getElem? (i := 507) (by decide +kernel), List.mem_of_getElem? (i := 779) (by decide +kernel), List.mem_of_getElem? (i := 780) (by decide +kernel)⟩
theorem lw_p62 : lw_okq (⟨"ScanDetectorModel", "awaitedBits", "(II)J"⟩, 27) := ⟨⟨by decide +kernel, by decide +kernel⟩, List.mem_of_getElem? (i := 507) (by decide +kernel), List.mem_of_getElem? (i := 798) (by decide +kernel), List.mem_of_getElem? (i := 799) (by decide +kernel)⟩
theorem lw_p63 : lw_okq (⟨"ScanDetectorModel", "mix", "(J)V"⟩, 27) := ⟨⟨by decide +kernel, by decide +kernel⟩, List.mem_of_getElem? (i := 507) (by decide +kernel), List.mem_of_getElem? (i := 807) (by decide +kernel), List.mem_of_getElem? (i := 808) (by decide +kernel)⟩
def lw_privs_4 : List (MethodName × Nat) := [(⟨"ScanDetectorModel", "dropAllOf", "(I)V"⟩, 27), (⟨"ScanDetectorModel", "drop", "(I)V"⟩, 27), (⟨"ScanDetectorModel", "decide", "(II)I"⟩, 27), (⟨"ScanDetectorModel", "attemptNow", "(II)I"⟩, 27), (⟨"ScanDetectorModel", "tick", "()I"⟩, 27), (⟨"ScanDetectorModel", "due", "()I"⟩, 27), (⟨"ScanDetectorModel", "isCell", "(I)Z"⟩, 27), (⟨"ScanDetectorModel", "rightLength", "()I"⟩, 27), (⟨"ScanDetectorModel", "isRight", "(I)Z"⟩, 27), (⟨"ScanDetectorModel", "described", "(I)I"⟩, 27), (⟨"ScanDetectorModel", "sequences", "(II)I"⟩, 27), (⟨"ScanDetectorModel", "scannedBits", "(II)J"⟩, 27), (⟨"ScanDetectorModel", "layChances", "(II)V"⟩, 27), (⟨"ScanDetectorModel", "step", "(DD)V"⟩, 27), (⟨"ScanDetectorModel", "awaitedBits", "(II)J"⟩, 27), (⟨"ScanDetectorModel", "mix", "(J)V"⟩, 27)]
theorem lw_r4 : ∀ q ∈ lw_privs_4, lw_okq q := List.forall_mem_cons.mpr ⟨lw_p48, List.forall_mem_cons.mpr ⟨lw_p49, List.forall_mem_cons.mpr ⟨lw_p50, List.forall_mem_cons.mpr ⟨lw_p51, List.forall_mem_cons.mpr ⟨lw_p52, List.forall_mem_cons.mpr ⟨lw_p53, List.forall_mem_cons.mpr ⟨lw_p54, List.forall_mem_cons.mpr ⟨lw_p55, List.forall_mem_cons.mpr ⟨lw_p56, List.forall_mem_cons.mpr ⟨lw_p57, List.forall_mem_cons.mpr ⟨lw_p58, List.forall_mem_cons.mpr ⟨lw_p59, List.forall_mem_cons.mpr ⟨lw_p60, List.forall_mem_cons.mpr ⟨lw_p61, List.forall_mem_cons.mpr ⟨lw_p62, List.forall_mem_cons.mpr ⟨lw_p63, fun _ h => absurd h List.not_mem_nil⟩⟩⟩⟩⟩⟩⟩⟩⟩⟩⟩⟩⟩⟩⟩⟩
def lw_privs : List (MethodName × Nat) := lw_privs_1 ++ (lw_privs_2 ++ (lw_privs_3 ++ (lw_privs_4)))
def lw_tbl : List Cond := k2_sels lw_privs ++ tables_1
theorem lw_privs_ok : ∀ q ∈ lw_privs, lw_okq q := by
  show ∀ q ∈ lw_privs_1 ++ (lw_privs_2 ++ (lw_privs_3 ++ (lw_privs_4))), lw_okq q
  exact List.forall_mem_append.mpr ⟨lw_r1, List.forall_mem_append.mpr ⟨lw_r2, List.forall_mem_append.mpr ⟨lw_r3, lw_r4⟩⟩⟩
/-- the streams that the claim lets the run draw from -/
abbrev lw_cs : List Choice := [Jvm.Choice.named "NaN.bits"]
theorem lw_bits : nanBits ∈ lw_cs := by first | decide | exact List.mem_cons_self | simp [lw_cs, nanBits]
end
section
def RX0 : String := "ScanDetector$Cell"
def TX0 : u_T := fun k => match k with
  | 0 => ("ScanDetector$Cell", "score", "I", false)
  | 1 => ("ScanDetector$Cell", "blocked", "Z", false)
  | 2 => ("ScanDetector$Cell", "seen", "J", false)
  | 3 => ("ScanDetector$Cell", "stopped", "I", false)
  | _ => ("ScanDetector$Cell", "wronglyStopped", "I", false)
def tyX0 : Nat → FieldType := fun k => match k with
  | 0 => .int
  | 1 => .boolean
  | 2 => .long
  | 3 => .int
  | _ => .int
theorem nmX0 : ∀ a, a < 5 → ∀ b, b < 5 → a ≠ b → (TX0 a).2.1 ≠ (TX0 b).2.1 := by decide +kernel
theorem tyX0_ok : ∀ k, k < 5 → parseFieldDescriptor (TX0 k).2.2.1 = some (tyX0 k) := by decide +kernel
abbrev cX0_init : ByteArray := prog_2_method_1_code
def yX0_init : MethodName := ⟨RX0, "<init>", "()V"⟩
abbrev cX0_reset : ByteArray := prog_2_method_2_code
def yX0_reset : MethodName := ⟨RX0, "reset", "()V"⟩
abbrev cX0_forget : ByteArray := prog_2_method_3_code
def yX0_forget : MethodName := ⟨RX0, "forget", "()V"⟩
abbrev cX0_hasSeen : ByteArray := prog_2_method_4_code
def yX0_hasSeen : MethodName := ⟨RX0, "hasSeen", "(I)Z"⟩
abbrev cX0_see : ByteArray := prog_2_method_5_code
def yX0_see : MethodName := ⟨RX0, "see", "(I)V"⟩
abbrev cX0_stopAttempt : ByteArray := prog_2_method_6_code
def yX0_stopAttempt : MethodName := ⟨RX0, "stopAttempt", "()V"⟩
abbrev cX0_stopConnect : ByteArray := prog_2_method_7_code
def yX0_stopConnect : MethodName := ⟨RX0, "stopConnect", "(Z)V"⟩
def RX1 : String := "ScanDetector$InputText"
def TX1 : u_T := fun k => match k with
  | 0 => ("ScanDetector$InputText", "codes", "[I", true)
  | _ => ("ScanDetector$InputText", "length", "I", false)
def tyX1 : Nat → FieldType := fun k => match k with
  | 0 => .array .int
  | _ => .int
theorem nmX1 : ∀ a, a < 2 → ∀ b, b < 2 → a ≠ b → (TX1 a).2.1 ≠ (TX1 b).2.1 := by decide +kernel
theorem tyX1_ok : ∀ k, k < 2 → parseFieldDescriptor (TX1 k).2.2.1 = some (tyX1 k) := by decide +kernel
abbrev cX1_init : ByteArray := prog_3_method_1_code
def yX1_init : MethodName := ⟨RX1, "<init>", "()V"⟩
abbrev cX1_put : ByteArray := prog_3_method_2_code
def yX1_put : MethodName := ⟨RX1, "put", "(I)Z"⟩
abbrev cX1_findError : ByteArray := prog_3_method_3_code
def yX1_findError : MethodName := ⟨RX1, "findError", "()I"⟩
abbrev cX1_fits : ByteArray := prog_3_method_4_code
def yX1_fits : MethodName := ⟨RX1, "fits", "(I)Z"⟩
abbrev cX1_isOutcome : ByteArray := prog_3_method_5_code
def yX1_isOutcome : MethodName := ⟨RX1, "isOutcome", "(I)Z"⟩
abbrev cX1_isComplete : ByteArray := prog_3_method_6_code
def yX1_isComplete : MethodName := ⟨RX1, "isComplete", "()Z"⟩
abbrev cX1_sourceAt : ByteArray := prog_3_method_7_code
def yX1_sourceAt : MethodName := ⟨RX1, "sourceAt", "(I)I"⟩
abbrev cX1_destinationAt : ByteArray := prog_3_method_8_code
def yX1_destinationAt : MethodName := ⟨RX1, "destinationAt", "(I)I"⟩
abbrev cX1_successAt : ByteArray := prog_3_method_9_code
def yX1_successAt : MethodName := ⟨RX1, "successAt", "(I)Z"⟩
def RX2 : String := "ScanDetector$PendingAttempts"
def TX2 : u_T := fun k => match k with
  | 0 => ("ScanDetector$PendingAttempts", "sources", "[I", true)
  | 1 => ("ScanDetector$PendingAttempts", "destinations", "[I", true)
  | 2 => ("ScanDetector$PendingAttempts", "deadlines", "[I", true)
  | _ => ("ScanDetector$PendingAttempts", "count", "I", false)
def tyX2 : Nat → FieldType := fun k => match k with
  | 0 => .array .int
  | 1 => .array .int
  | 2 => .array .int
  | _ => .int
theorem nmX2 : ∀ a, a < 4 → ∀ b, b < 4 → a ≠ b → (TX2 a).2.1 ≠ (TX2 b).2.1 := by decide +kernel
theorem tyX2_ok : ∀ k, k < 4 → parseFieldDescriptor (TX2 k).2.2.1 = some (tyX2 k) := by decide +kernel
abbrev cX2_init : ByteArray := prog_4_method_1_code
def yX2_init : MethodName := ⟨RX2, "<init>", "()V"⟩
abbrev cX2_put : ByteArray := prog_4_method_2_code
def yX2_put : MethodName := ⟨RX2, "put", "(III)Z"⟩
abbrev cX2_find : ByteArray := prog_4_method_3_code
def yX2_find : MethodName := ⟨RX2, "find", "(II)I"⟩
abbrev cX2_firstDue : ByteArray := prog_4_method_4_code
def yX2_firstDue : MethodName := ⟨RX2, "firstDue", "(I)I"⟩
abbrev cX2_drop : ByteArray := prog_4_method_5_code
def yX2_drop : MethodName := ⟨RX2, "drop", "(I)V"⟩
def RX3 : String := "ScanDetector$VerdictLog"
def TX3 : u_T := fun k => match k with
  | 0 => ("ScanDetector$VerdictLog", "latest", "[I", true)
  | _ => ("ScanDetector$VerdictLog", "count", "I", false)
def tyX3 : Nat → FieldType := fun k => match k with
  | 0 => .array .int
  | _ => .int
theorem nmX3 : ∀ a, a < 2 → ∀ b, b < 2 → a ≠ b → (TX3 a).2.1 ≠ (TX3 b).2.1 := by decide +kernel
theorem tyX3_ok : ∀ k, k < 2 → parseFieldDescriptor (TX3 k).2.2.1 = some (tyX3 k) := by decide +kernel
abbrev cX3_init : ByteArray := prog_5_method_1_code
def yX3_init : MethodName := ⟨RX3, "<init>", "()V"⟩
abbrev cX3_note : ByteArray := prog_5_method_2_code
def yX3_note : MethodName := ⟨RX3, "note", "(I)V"⟩
abbrev cX3_kept : ByteArray := prog_5_method_3_code
def yX3_kept : MethodName := ⟨RX3, "kept", "()I"⟩
abbrev cX3_recall : ByteArray := prog_5_method_4_code
def yX3_recall : MethodName := ⟨RX3, "recall", "(I)I"⟩
def RX4 : String := "ScanDetector$Walk"
def TX4 : u_T := fun k => match k with
  | 0 => ("ScanDetector$Walk", "up", "I", false)
  | 1 => ("ScanDetector$Walk", "down", "I", false)
  | 2 => ("ScanDetector$Walk", "upper", "I", false)
  | 3 => ("ScanDetector$Walk", "lower", "I", false)
  | 4 => ("ScanDetector$Walk", "width", "I", false)
  | 5 => ("ScanDetector$Walk", "counts", "[I", false)
  | 6 => ("ScanDetector$Walk", "spareCounts", "[I", false)
  | 7 => ("ScanDetector$Walk", "chances", "[D", false)
  | _ => ("ScanDetector$Walk", "spareChances", "[D", false)
def tyX4 : Nat → FieldType := fun k => match k with
  | 0 => .int
  | 1 => .int
  | 2 => .int
  | 3 => .int
  | 4 => .int
  | 5 => .array .int
  | 6 => .array .int
  | 7 => .array .double
  | _ => .array .double
theorem nmX4 : ∀ a, a < 9 → ∀ b, b < 9 → a ≠ b → (TX4 a).2.1 ≠ (TX4 b).2.1 := by decide +kernel
theorem tyX4_ok : ∀ k, k < 9 → parseFieldDescriptor (TX4 k).2.2.1 = some (tyX4 k) := by decide +kernel
abbrev cX4_init : ByteArray := prog_6_method_1_code
def yX4_init : MethodName := ⟨RX4, "<init>", "()V"⟩
abbrev cX4_setParameters : ByteArray := prog_6_method_2_code
def yX4_setParameters : MethodName := ⟨RX4, "setParameters", "(IIII)V"⟩
abbrev cX4_after : ByteArray := prog_6_method_3_code
def yX4_after : MethodName := ⟨RX4, "after", "(IZ)I"⟩
abbrev cX4_verdictAt : ByteArray := prog_6_method_4_code
def yX4_verdictAt : MethodName := ⟨RX4, "verdictAt", "(I)I"⟩
abbrev cX4_indexOfZero : ByteArray := prog_6_method_5_code
def yX4_indexOfZero : MethodName := ⟨RX4, "indexOfZero", "()I"⟩
abbrev cX4_sequencesWith : ByteArray := prog_6_method_6_code
def yX4_sequencesWith : MethodName := ⟨RX4, "sequencesWith", "(II)I"⟩
abbrev cX4_sumOfCounts : ByteArray := prog_6_method_7_code
def yX4_sumOfCounts : MethodName := ⟨RX4, "sumOfCounts", "(II)I"⟩
abbrev cX4_stepCounts : ByteArray := prog_6_method_8_code
def yX4_stepCounts : MethodName := ⟨RX4, "stepCounts", "()V"⟩
abbrev cX4_chanceOfScanner : ByteArray := prog_6_method_9_code
def yX4_chanceOfScanner : MethodName := ⟨RX4, "chanceOfScanner", "(DI)D"⟩
abbrev cX4_meanContacts : ByteArray := prog_6_method_10_code
def yX4_meanContacts : MethodName := ⟨RX4, "meanContacts", "(DI)D"⟩
abbrev cX4_startChances : ByteArray := prog_6_method_11_code
def yX4_startChances : MethodName := ⟨RX4, "startChances", "()V"⟩
abbrev cX4_sumOfChances : ByteArray := prog_6_method_12_code
def yX4_sumOfChances : MethodName := ⟨RX4, "sumOfChances", "()D"⟩
abbrev cX4_stepChances : ByteArray := prog_6_method_13_code
def yX4_stepChances : MethodName := ⟨RX4, "stepChances", "(DD)D"⟩
def RX5 : String := "ScanDetector"
def TX5 : u_T := fun k => match k with
  | 0 => ("ScanDetector", "cells", "[LScanDetector$Cell;", true)
  | 1 => ("ScanDetector", "walk", "LScanDetector$Walk;", true)
  | 2 => ("ScanDetector", "pending", "LScanDetector$PendingAttempts;", true)
  | 3 => ("ScanDetector", "verdicts", "LScanDetector$VerdictLog;", true)
  | 4 => ("ScanDetector", "input", "LScanDetector$InputText;", true)
  | 5 => ("ScanDetector", "cellCount", "I", false)
  | 6 => ("ScanDetector", "timeout", "I", false)
  | _ => ("ScanDetector", "clock", "I", false)
def tyX5 : Nat → FieldType := fun k => match k with
  | 0 => .array (.object "ScanDetector$Cell")
  | 1 => .object "ScanDetector$Walk"
  | 2 => .object "ScanDetector$PendingAttempts"
  | 3 => .object "ScanDetector$VerdictLog"
  | 4 => .object "ScanDetector$InputText"
  | 5 => .int
  | 6 => .int
  | _ => .int
theorem nmX5 : ∀ a, a < 8 → ∀ b, b < 8 → a ≠ b → (TX5 a).2.1 ≠ (TX5 b).2.1 := by decide +kernel
theorem tyX5_ok : ∀ k, k < 8 → parseFieldDescriptor (TX5 k).2.2.1 = some (tyX5 k) := by decide +kernel
abbrev cX5_init : ByteArray := prog_1_method_1_code
def yX5_init : MethodName := ⟨RX5, "<init>", "()V"⟩
abbrev cX5_configure : ByteArray := prog_1_method_2_code
def yX5_configure : MethodName := ⟨RX5, "configure", "(IIII)I"⟩
abbrev cX5_setCells : ByteArray := prog_1_method_3_code
def yX5_setCells : MethodName := ⟨RX5, "setCells", "(I)I"⟩
abbrev cX5_setTimeout : ByteArray := prog_1_method_4_code
def yX5_setTimeout : MethodName := ⟨RX5, "setTimeout", "(I)I"⟩
abbrev cX5_reset : ByteArray := prog_1_method_5_code
def yX5_reset : MethodName := ⟨RX5, "reset", "()V"⟩
abbrev cX5_connect : ByteArray := prog_1_method_6_code
def yX5_connect : MethodName := ⟨RX5, "connect", "(IIZ)I"⟩
abbrev cX5_attempt : ByteArray := prog_1_method_7_code
def yX5_attempt : MethodName := ⟨RX5, "attempt", "(II)I"⟩
abbrev cX5_answer : ByteArray := prog_1_method_8_code
def yX5_answer : MethodName := ⟨RX5, "answer", "(II)I"⟩
abbrev cX5_advance : ByteArray := prog_1_method_9_code
def yX5_advance : MethodName := ⟨RX5, "advance", "(I)I"⟩
abbrev cX5_failDueAttempts : ByteArray := prog_1_method_10_code
def yX5_failDueAttempts : MethodName := ⟨RX5, "failDueAttempts", "()I"⟩
abbrev cX5_unblock : ByteArray := prog_1_method_11_code
def yX5_unblock : MethodName := ⟨RX5, "unblock", "(I)I"⟩
abbrev cX5_settle : ByteArray := prog_1_method_12_code
def yX5_settle : MethodName := ⟨RX5, "settle", "(IZ)I"⟩
abbrev cX5_discardAttempts : ByteArray := prog_1_method_13_code
def yX5_discardAttempts : MethodName := ⟨RX5, "discardAttempts", "(I)V"⟩
abbrev cX5_append : ByteArray := prog_1_method_14_code
def yX5_append : MethodName := ⟨RX5, "append", "(I)I"⟩
abbrev cX5_clearInput : ByteArray := prog_1_method_15_code
def yX5_clearInput : MethodName := ⟨RX5, "clearInput", "()I"⟩
abbrev cX5_firstError : ByteArray := prog_1_method_16_code
def yX5_firstError : MethodName := ⟨RX5, "firstError", "()I"⟩
abbrev cX5_runInput : ByteArray := prog_1_method_17_code
def yX5_runInput : MethodName := ⟨RX5, "runInput", "()I"⟩
abbrev cX5_cellOf : ByteArray := prog_1_method_18_code
def yX5_cellOf : MethodName := ⟨RX5, "cellOf", "(I)I"⟩
abbrev cX5_score : ByteArray := prog_1_method_19_code
def yX5_score : MethodName := ⟨RX5, "score", "(I)I"⟩
abbrev cX5_isBlocked : ByteArray := prog_1_method_20_code
def yX5_isBlocked : MethodName := ⟨RX5, "isBlocked", "(I)I"⟩
abbrev cX5_seenDestinations : ByteArray := prog_1_method_21_code
def yX5_seenDestinations : MethodName := ⟨RX5, "seenDestinations", "(I)J"⟩
abbrev cX5_blockedContacts : ByteArray := prog_1_method_22_code
def yX5_blockedContacts : MethodName := ⟨RX5, "blockedContacts", "(I)I"⟩
abbrev cX5_wronglyBlocked : ByteArray := prog_1_method_23_code
def yX5_wronglyBlocked : MethodName := ⟨RX5, "wronglyBlocked", "(I)I"⟩
abbrev cX5_cellExists : ByteArray := prog_1_method_24_code
def yX5_cellExists : MethodName := ⟨RX5, "cellExists", "(I)Z"⟩
abbrev cX5_sourceExists : ByteArray := prog_1_method_25_code
def yX5_sourceExists : MethodName := ⟨RX5, "sourceExists", "(I)Z"⟩
abbrev cX5_destinationExists : ByteArray := prog_1_method_26_code
def yX5_destinationExists : MethodName := ⟨RX5, "destinationExists", "(I)Z"⟩
abbrev cX5_within : ByteArray := prog_1_method_27_code
def yX5_within : MethodName := ⟨RX5, "within", "(III)Z"⟩
abbrev cX5_cellIndex : ByteArray := prog_1_method_28_code
def yX5_cellIndex : MethodName := ⟨RX5, "cellIndex", "(I)I"⟩
abbrev cX5_attemptCount : ByteArray := prog_1_method_29_code
def yX5_attemptCount : MethodName := ⟨RX5, "attemptCount", "()I"⟩
abbrev cX5_describeAttempt : ByteArray := prog_1_method_30_code
def yX5_describeAttempt : MethodName := ⟨RX5, "describeAttempt", "(I)I"⟩
abbrev cX5_clock : ByteArray := prog_1_method_31_code
def yX5_clock : MethodName := ⟨RX5, "clock", "()I"⟩
abbrev cX5_verdictCount : ByteArray := prog_1_method_32_code
def yX5_verdictCount : MethodName := ⟨RX5, "verdictCount", "()I"⟩
abbrev cX5_describeVerdict : ByteArray := prog_1_method_33_code
def yX5_describeVerdict : MethodName := ⟨RX5, "describeVerdict", "(I)I"⟩
abbrev cX5_countSequences : ByteArray := prog_1_method_34_code
def yX5_countSequences : MethodName := ⟨RX5, "countSequences", "(II)I"⟩
abbrev cX5_scannerProbability : ByteArray := prog_1_method_35_code
def yX5_scannerProbability : MethodName := ⟨RX5, "scannerProbability", "(II)J"⟩
abbrev cX5_expectedContacts : ByteArray := prog_1_method_36_code
def yX5_expectedContacts : MethodName := ⟨RX5, "expectedContacts", "(II)J"⟩
abbrev cX5_bitsOf : ByteArray := prog_1_method_37_code
def yX5_bitsOf : MethodName := ⟨RX5, "bitsOf", "(D)J"⟩
abbrev cX5_digest : ByteArray := prog_1_method_38_code
def yX5_digest : MethodName := ⟨RX5, "digest", "()J"⟩
abbrev cX5_mix : ByteArray := prog_1_method_39_code
def yX5_mix : MethodName := ⟨RX5, "mix", "(JJ)J"⟩
abbrev cX5_hashSettings : ByteArray := prog_1_method_40_code
def yX5_hashSettings : MethodName := ⟨RX5, "hashSettings", "(J)J"⟩
abbrev cX5_hashCells : ByteArray := prog_1_method_41_code
def yX5_hashCells : MethodName := ⟨RX5, "hashCells", "(J)J"⟩
abbrev cX5_hashAttempts : ByteArray := prog_1_method_42_code
def yX5_hashAttempts : MethodName := ⟨RX5, "hashAttempts", "(J)J"⟩
abbrev cX5_hashVerdicts : ByteArray := prog_1_method_43_code
def yX5_hashVerdicts : MethodName := ⟨RX5, "hashVerdicts", "(J)J"⟩
abbrev cX5_hashAnalysis : ByteArray := prog_1_method_44_code
def yX5_hashAnalysis : MethodName := ⟨RX5, "hashAnalysis", "(J)J"⟩
abbrev cX5_hashInput : ByteArray := prog_1_method_45_code
def yX5_hashInput : MethodName := ⟨RX5, "hashInput", "(J)J"⟩
def RX6 : String := "ScanDetectorModel"
def TX6 : u_T := fun k => match k with
  | 0 => ("ScanDetectorModel", "cells", "I", false)
  | 1 => ("ScanDetectorModel", "up", "I", false)
  | 2 => ("ScanDetectorModel", "down", "I", false)
  | 3 => ("ScanDetectorModel", "upper", "I", false)
  | 4 => ("ScanDetectorModel", "lower", "I", false)
  | 5 => ("ScanDetectorModel", "timeout", "I", false)
  | 6 => ("ScanDetectorModel", "time", "I", false)
  | 7 => ("ScanDetectorModel", "scores", "[I", true)
  | 8 => ("ScanDetectorModel", "blocked", "[Z", true)
  | 9 => ("ScanDetectorModel", "seen", "[J", true)
  | 10 => ("ScanDetectorModel", "stopped", "[I", true)
  | 11 => ("ScanDetectorModel", "wrong", "[I", true)
  | 12 => ("ScanDetectorModel", "attempts", "I", false)
  | 13 => ("ScanDetectorModel", "sourceOf", "[I", true)
  | 14 => ("ScanDetectorModel", "destinationOf", "[I", true)
  | 15 => ("ScanDetectorModel", "deadlineOf", "[I", true)
  | 16 => ("ScanDetectorModel", "verdicts", "I", false)
  | 17 => ("ScanDetectorModel", "latest", "[I", true)
  | 18 => ("ScanDetectorModel", "length", "I", false)
  | 19 => ("ScanDetectorModel", "buffer", "[I", true)
  | 20 => ("ScanDetectorModel", "walks", "[I", true)
  | 21 => ("ScanDetectorModel", "walksThen", "[I", true)
  | 22 => ("ScanDetectorModel", "chance", "[D", true)
  | 23 => ("ScanDetectorModel", "chanceThen", "[D", true)
  | 24 => ("ScanDetectorModel", "scanned", "D", false)
  | 25 => ("ScanDetectorModel", "awaited", "D", false)
  | _ => ("ScanDetectorModel", "hash", "J", false)
def tyX6 : Nat → FieldType := fun k => match k with
  | 0 => .int
  | 1 => .int
  | 2 => .int
  | 3 => .int
  | 4 => .int
  | 5 => .int
  | 6 => .int
  | 7 => .array .int
  | 8 => .array .boolean
  | 9 => .array .long
  | 10 => .array .int
  | 11 => .array .int
  | 12 => .int
  | 13 => .array .int
  | 14 => .array .int
  | 15 => .array .int
  | 16 => .int
  | 17 => .array .int
  | 18 => .int
  | 19 => .array .int
  | 20 => .array .int
  | 21 => .array .int
  | 22 => .array .double
  | 23 => .array .double
  | 24 => .double
  | 25 => .double
  | _ => .long
theorem nmX6 : ∀ a, a < 27 → ∀ b, b < 27 → a ≠ b → (TX6 a).2.1 ≠ (TX6 b).2.1 := by decide +kernel
theorem tyX6_ok : ∀ k, k < 27 → parseFieldDescriptor (TX6 k).2.2.1 = some (tyX6 k) := by decide +kernel
abbrev cX6_init : ByteArray := prog_8_method_1_code
def yX6_init : MethodName := ⟨RX6, "<init>", "()V"⟩
abbrev cX6_within : ByteArray := prog_8_method_3_code
def yX6_within : MethodName := ⟨RX6, "within", "(III)Z"⟩
abbrev cX6_reset : ByteArray := prog_8_method_4_code
def yX6_reset : MethodName := ⟨RX6, "reset", "()V"⟩
abbrev cX6_configure : ByteArray := prog_8_method_5_code
def yX6_configure : MethodName := ⟨RX6, "configure", "(IIII)I"⟩
abbrev cX6_setCells : ByteArray := prog_8_method_6_code
def yX6_setCells : MethodName := ⟨RX6, "setCells", "(I)I"⟩
abbrev cX6_setTimeout : ByteArray := prog_8_method_7_code
def yX6_setTimeout : MethodName := ⟨RX6, "setTimeout", "(I)I"⟩
abbrev cX6_isSource : ByteArray := prog_8_method_8_code
def yX6_isSource : MethodName := ⟨RX6, "isSource", "(I)Z"⟩
abbrev cX6_isDestination : ByteArray := prog_8_method_9_code
def yX6_isDestination : MethodName := ⟨RX6, "isDestination", "(I)Z"⟩
abbrev cX6_drop : ByteArray := prog_8_method_10_code
def yX6_drop : MethodName := ⟨RX6, "drop", "(I)V"⟩
abbrev cX6_dropAllOf : ByteArray := prog_8_method_11_code
def yX6_dropAllOf : MethodName := ⟨RX6, "dropAllOf", "(I)V"⟩
abbrev cX6_decide : ByteArray := prog_8_method_12_code
def yX6_decide : MethodName := ⟨RX6, "decide", "(II)I"⟩
abbrev cX6_count : ByteArray := prog_8_method_13_code
def yX6_count : MethodName := ⟨RX6, "count", "(IZ)I"⟩
abbrev cX6_isSeen : ByteArray := prog_8_method_14_code
def yX6_isSeen : MethodName := ⟨RX6, "isSeen", "(II)Z"⟩
abbrev cX6_connectNow : ByteArray := prog_8_method_15_code
def yX6_connectNow : MethodName := ⟨RX6, "connectNow", "(IIZ)I"⟩
abbrev cX6_connect : ByteArray := prog_8_method_16_code
def yX6_connect : MethodName := ⟨RX6, "connect", "(IIZ)I"⟩
abbrev cX6_attemptNow : ByteArray := prog_8_method_17_code
def yX6_attemptNow : MethodName := ⟨RX6, "attemptNow", "(II)I"⟩
abbrev cX6_attempt : ByteArray := prog_8_method_18_code
def yX6_attempt : MethodName := ⟨RX6, "attempt", "(II)I"⟩
abbrev cX6_answer : ByteArray := prog_8_method_19_code
def yX6_answer : MethodName := ⟨RX6, "answer", "(II)I"⟩
abbrev cX6_due : ByteArray := prog_8_method_20_code
def yX6_due : MethodName := ⟨RX6, "due", "()I"⟩
abbrev cX6_tick : ByteArray := prog_8_method_21_code
def yX6_tick : MethodName := ⟨RX6, "tick", "()I"⟩
abbrev cX6_advance : ByteArray := prog_8_method_22_code
def yX6_advance : MethodName := ⟨RX6, "advance", "(I)I"⟩
abbrev cX6_isCell : ByteArray := prog_8_method_23_code
def yX6_isCell : MethodName := ⟨RX6, "isCell", "(I)Z"⟩
abbrev cX6_unblock : ByteArray := prog_8_method_24_code
def yX6_unblock : MethodName := ⟨RX6, "unblock", "(I)I"⟩
abbrev cX6_append : ByteArray := prog_8_method_25_code
def yX6_append : MethodName := ⟨RX6, "append", "(I)I"⟩
abbrev cX6_clearInput : ByteArray := prog_8_method_26_code
def yX6_clearInput : MethodName := ⟨RX6, "clearInput", "()I"⟩
abbrev cX6_isRight : ByteArray := prog_8_method_27_code
def yX6_isRight : MethodName := ⟨RX6, "isRight", "(I)Z"⟩
abbrev cX6_rightLength : ByteArray := prog_8_method_28_code
def yX6_rightLength : MethodName := ⟨RX6, "rightLength", "()I"⟩
abbrev cX6_firstError : ByteArray := prog_8_method_29_code
def yX6_firstError : MethodName := ⟨RX6, "firstError", "()I"⟩
abbrev cX6_runInput : ByteArray := prog_8_method_30_code
def yX6_runInput : MethodName := ⟨RX6, "runInput", "()I"⟩
abbrev cX6_cellOf : ByteArray := prog_8_method_31_code
def yX6_cellOf : MethodName := ⟨RX6, "cellOf", "(I)I"⟩
abbrev cX6_score : ByteArray := prog_8_method_32_code
def yX6_score : MethodName := ⟨RX6, "score", "(I)I"⟩
abbrev cX6_isBlocked : ByteArray := prog_8_method_33_code
def yX6_isBlocked : MethodName := ⟨RX6, "isBlocked", "(I)I"⟩
abbrev cX6_seenDestinations : ByteArray := prog_8_method_34_code
def yX6_seenDestinations : MethodName := ⟨RX6, "seenDestinations", "(I)J"⟩
abbrev cX6_blockedContacts : ByteArray := prog_8_method_35_code
def yX6_blockedContacts : MethodName := ⟨RX6, "blockedContacts", "(I)I"⟩
abbrev cX6_wronglyBlocked : ByteArray := prog_8_method_36_code
def yX6_wronglyBlocked : MethodName := ⟨RX6, "wronglyBlocked", "(I)I"⟩
abbrev cX6_attemptCount : ByteArray := prog_8_method_37_code
def yX6_attemptCount : MethodName := ⟨RX6, "attemptCount", "()I"⟩
abbrev cX6_described : ByteArray := prog_8_method_38_code
def yX6_described : MethodName := ⟨RX6, "described", "(I)I"⟩
abbrev cX6_describeAttempt : ByteArray := prog_8_method_39_code
def yX6_describeAttempt : MethodName := ⟨RX6, "describeAttempt", "(I)I"⟩
abbrev cX6_clock : ByteArray := prog_8_method_40_code
def yX6_clock : MethodName := ⟨RX6, "clock", "()I"⟩
abbrev cX6_verdictCount : ByteArray := prog_8_method_41_code
def yX6_verdictCount : MethodName := ⟨RX6, "verdictCount", "()I"⟩
abbrev cX6_describeVerdict : ByteArray := prog_8_method_42_code
def yX6_describeVerdict : MethodName := ⟨RX6, "describeVerdict", "(I)I"⟩
abbrev cX6_sequences : ByteArray := prog_8_method_43_code
def yX6_sequences : MethodName := ⟨RX6, "sequences", "(II)I"⟩
abbrev cX6_countSequences : ByteArray := prog_8_method_44_code
def yX6_countSequences : MethodName := ⟨RX6, "countSequences", "(II)I"⟩
abbrev cX6_step : ByteArray := prog_8_method_45_code
def yX6_step : MethodName := ⟨RX6, "step", "(DD)V"⟩
abbrev cX6_layChances : ByteArray := prog_8_method_46_code
def yX6_layChances : MethodName := ⟨RX6, "layChances", "(II)V"⟩
abbrev cX6_areRight : ByteArray := prog_8_method_47_code
def yX6_areRight : MethodName := ⟨RX6, "areRight", "(II)Z"⟩
abbrev cX6_scannedBits : ByteArray := prog_8_method_48_code
def yX6_scannedBits : MethodName := ⟨RX6, "scannedBits", "(II)J"⟩
abbrev cX6_awaitedBits : ByteArray := prog_8_method_49_code
def yX6_awaitedBits : MethodName := ⟨RX6, "awaitedBits", "(II)J"⟩
abbrev cX6_scannerProbability : ByteArray := prog_8_method_50_code
def yX6_scannerProbability : MethodName := ⟨RX6, "scannerProbability", "(II)J"⟩
abbrev cX6_expectedContacts : ByteArray := prog_8_method_51_code
def yX6_expectedContacts : MethodName := ⟨RX6, "expectedContacts", "(II)J"⟩
abbrev cX6_mix : ByteArray := prog_8_method_52_code
def yX6_mix : MethodName := ⟨RX6, "mix", "(J)V"⟩
abbrev cX6_digest : ByteArray := prog_8_method_53_code
def yX6_digest : MethodName := ⟨RX6, "digest", "()J"⟩
def RJx145de : String := "java/io/Serializable"
def TJx145de : u_T := fun k => match k with
  | _ => ("", "", "", false)
def tyJx145de : Nat → FieldType := fun k => match k with
  | _ => .int
theorem nmJx145de : ∀ a, a < 0 → ∀ b, b < 0 → a ≠ b → (TJx145de a).2.1 ≠ (TJx145de b).2.1 := by decide +kernel
theorem tyJx145de_ok : ∀ k, k < 0 → parseFieldDescriptor (TJx145de k).2.2.1 = some (tyJx145de k) := by decide +kernel
def RJxb160c : String := "java/lang/Comparable"
def TJxb160c : u_T := fun k => match k with
  | _ => ("", "", "", false)
def tyJxb160c : Nat → FieldType := fun k => match k with
  | _ => .int
theorem nmJxb160c : ∀ a, a < 0 → ∀ b, b < 0 → a ≠ b → (TJxb160c a).2.1 ≠ (TJxb160c b).2.1 := by decide +kernel
theorem tyJxb160c_ok : ∀ k, k < 0 → parseFieldDescriptor (TJxb160c k).2.2.1 = some (tyJxb160c k) := by decide +kernel
def RJxe99ae : String := "java/lang/Double"
def TJxe99ae : u_T := fun k => match k with
  | _ => ("", "", "", false)
def tyJxe99ae : Nat → FieldType := fun k => match k with
  | _ => .int
theorem nmJxe99ae : ∀ a, a < 0 → ∀ b, b < 0 → a ≠ b → (TJxe99ae a).2.1 ≠ (TJxe99ae b).2.1 := by decide +kernel
theorem tyJxe99ae_ok : ∀ k, k < 0 → parseFieldDescriptor (TJxe99ae k).2.2.1 = some (tyJxe99ae k) := by decide +kernel
abbrev cJxe99ae_isNaN_b9ae7 : ByteArray := prog_9_method_6_code
def yJxe99ae_isNaN_b9ae7 : MethodName := ⟨RJxe99ae, "isNaN", "(D)Z"⟩
abbrev cJxe99ae_doubleToLongBits_ccdee : ByteArray := prog_9_method_23_code
def yJxe99ae_doubleToLongBits_ccdee : MethodName := ⟨RJxe99ae, "doubleToLongBits", "(D)J"⟩
def RJ9 : String := "java/lang/Math"
def TJ9 : u_T := fun k => match k with
  | _ => ("", "", "", false)
def tyJ9 : Nat → FieldType := fun k => match k with
  | _ => .int
theorem nmJ9 : ∀ a, a < 0 → ∀ b, b < 0 → a ≠ b → (TJ9 a).2.1 ≠ (TJ9 b).2.1 := by decide +kernel
theorem tyJ9_ok : ∀ k, k < 0 → parseFieldDescriptor (TJ9 k).2.2.1 = some (tyJ9 k) := by decide +kernel
abbrev cJ9_floorMod_7cf53 : ByteArray := prog_10_method_50_code
def yJ9_floorMod_7cf53 : MethodName := ⟨RJ9, "floorMod", "(II)I"⟩
abbrev cJ9_max_7cf53 : ByteArray := prog_10_method_65_code
def yJ9_max_7cf53 : MethodName := ⟨RJ9, "max", "(II)I"⟩
abbrev cJ9_min_7cf53 : ByteArray := prog_10_method_69_code
def yJ9_min_7cf53 : MethodName := ⟨RJ9, "min", "(II)I"⟩
def RJxd2413 : String := "java/lang/Number"
def TJxd2413 : u_T := fun k => match k with
  | _ => ("", "", "", false)
def tyJxd2413 : Nat → FieldType := fun k => match k with
  | _ => .int
theorem nmJxd2413 : ∀ a, a < 0 → ∀ b, b < 0 → a ≠ b → (TJxd2413 a).2.1 ≠ (TJxd2413 b).2.1 := by decide +kernel
theorem tyJxd2413_ok : ∀ k, k < 0 → parseFieldDescriptor (TJxd2413 k).2.2.1 = some (tyJxd2413 k) := by decide +kernel
def RJxfd54e : String := "java/lang/constant/Constable"
def TJxfd54e : u_T := fun k => match k with
  | _ => ("", "", "", false)
def tyJxfd54e : Nat → FieldType := fun k => match k with
  | _ => .int
theorem nmJxfd54e : ∀ a, a < 0 → ∀ b, b < 0 → a ≠ b → (TJxfd54e a).2.1 ≠ (TJxfd54e b).2.1 := by decide +kernel
theorem tyJxfd54e_ok : ∀ k, k < 0 → parseFieldDescriptor (TJxfd54e k).2.2.1 = some (tyJxfd54e k) := by decide +kernel
def RJx3cf43 : String := "java/lang/constant/ConstantDesc"
def TJx3cf43 : u_T := fun k => match k with
  | _ => ("", "", "", false)
def tyJx3cf43 : Nat → FieldType := fun k => match k with
  | _ => .int
theorem nmJx3cf43 : ∀ a, a < 0 → ∀ b, b < 0 → a ≠ b → (TJx3cf43 a).2.1 ≠ (TJx3cf43 b).2.1 := by decide +kernel
theorem tyJx3cf43_ok : ∀ k, k < 0 → parseFieldDescriptor (TJx3cf43 k).2.2.1 = some (tyJx3cf43 k) := by decide +kernel
def RJ7 : String := "java/util/Arrays"
def TJ7 : u_T := fun k => match k with
  | _ => ("", "", "", false)
def tyJ7 : Nat → FieldType := fun k => match k with
  | _ => .int
theorem nmJ7 : ∀ a, a < 0 → ∀ b, b < 0 → a ≠ b → (TJ7 a).2.1 ≠ (TJ7 b).2.1 := by decide +kernel
theorem tyJ7_ok : ∀ k, k < 0 → parseFieldDescriptor (TJ7 k).2.2.1 = some (tyJ7 k) := by decide +kernel
abbrev cJ7_fill_53178 : ByteArray := prog_12_method_103_code
def yJ7_fill_53178 : MethodName := ⟨RJ7, "fill", "([II)V"⟩
abbrev cJ7_fill_7f8df : ByteArray := prog_12_method_113_code
def yJ7_fill_7f8df : MethodName := ⟨RJ7, "fill", "([DD)V"⟩
def RL : String := "ScanDetectorLaw"
abbrev cL_law : ByteArray := code
def yL_law : MethodName := ⟨RL, "law", "([I)Z"⟩
abbrev vwCl : List vw_C := [(RX0, TX0, 5), (RX1, TX1, 2), (RX2, TX2, 4), (RX3, TX3, 2), (RX4, TX4, 9), (RX5, TX5, 8), (RX6, TX6, 27)]
end
section
theorem dX0_init_0 : decode cX0_init 0 = .ok (.aload_n 0, 1) := by decide +kernel
theorem dX0_init_1 : decode cX0_init 1 = .ok (.invokespecial 1, 3) := by decide +kernel
theorem dX0_init_4 : decode cX0_init 4 = .ok (.return_, 1) := by decide +kernel
theorem dX0_reset_0 : decode cX0_reset 0 = .ok (.aload_n 0, 1) := by decide +kernel
theorem dX0_reset_1 : decode cX0_reset 1 = .ok (.invokevirtual 7, 3) := by decide +kernel
theorem dX0_reset_4 : decode cX0_reset 4 = .ok (.aload_n 0, 1) := by decide +kernel
theorem dX0_reset_5 : decode cX0_reset 5 = .ok (.iconst 0, 1) := by decide +kernel
theorem dX0_reset_6 : decode cX0_reset 6 = .ok (.putfield 12, 3) := by decide +kernel
theorem dX0_reset_9 : decode cX0_reset 9 = .ok (.aload_n 0, 1) := by decide +kernel
theorem dX0_reset_10 : decode cX0_reset 10 = .ok (.iconst 0, 1) := by decide +kernel
theorem dX0_reset_11 : decode cX0_reset 11 = .ok (.putfield 16, 3) := by decide +kernel
theorem dX0_reset_14 : decode cX0_reset 14 = .ok (.aload_n 0, 1) := by decide +kernel
theorem dX0_reset_15 : decode cX0_reset 15 = .ok (.iconst 0, 1) := by decide +kernel
theorem dX0_reset_16 : decode cX0_reset 16 = .ok (.putfield 20, 3) := by decide +kernel
theorem dX0_reset_19 : decode cX0_reset 19 = .ok (.return_, 1) := by decide +kernel
theorem dX0_forget_0 : decode cX0_forget 0 = .ok (.aload_n 0, 1) := by decide +kernel
theorem dX0_forget_1 : decode cX0_forget 1 = .ok (.iconst 0, 1) := by decide +kernel
theorem dX0_forget_2 : decode cX0_forget 2 = .ok (.putfield 23, 3) := by decide +kernel
theorem dX0_forget_5 : decode cX0_forget 5 = .ok (.aload_n 0, 1) := by decide +kernel
theorem dX0_forget_6 : decode cX0_forget 6 = .ok (.lconst 0, 1) := by decide +kernel
theorem dX0_forget_7 : decode cX0_forget 7 = .ok (.putfield 26, 3) := by decide +kernel
theorem dX0_forget_10 : decode cX0_forget 10 = .ok (.return_, 1) := by decide +kernel
theorem dX0_hasSeen_0 : decode cX0_hasSeen 0 = .ok (.aload_n 0, 1) := by decide +kernel
theorem dX0_hasSeen_1 : decode cX0_hasSeen 1 = .ok (.getfield 26, 3) := by decide +kernel
theorem dX0_hasSeen_4 : decode cX0_hasSeen 4 = .ok (.iload_n 1, 1) := by decide +kernel
theorem dX0_hasSeen_5 : decode cX0_hasSeen 5 = .ok (.lshr, 1) := by decide +kernel
theorem dX0_hasSeen_6 : decode cX0_hasSeen 6 = .ok (.lconst 1, 1) := by decide +kernel
theorem dX0_hasSeen_7 : decode cX0_hasSeen 7 = .ok (.land, 1) := by decide +kernel
theorem dX0_hasSeen_8 : decode cX0_hasSeen 8 = .ok (.lconst 0, 1) := by decide +kernel
theorem dX0_hasSeen_9 : decode cX0_hasSeen 9 = .ok (.lcmp, 1) := by decide +kernel
theorem dX0_hasSeen_10 : decode cX0_hasSeen 10 = .ok (.ifCond .eq 7, 3) := by decide +kernel
theorem dX0_hasSeen_13 : decode cX0_hasSeen 13 = .ok (.iconst 1, 1) := by decide +kernel
theorem dX0_hasSeen_14 : decode cX0_hasSeen 14 = .ok (.goto 4, 3) := by decide +kernel
theorem dX0_hasSeen_17 : decode cX0_hasSeen 17 = .ok (.iconst 0, 1) := by decide +kernel
theorem dX0_hasSeen_18 : decode cX0_hasSeen 18 = .ok (.ireturn, 1) := by decide +kernel
theorem dX0_see_0 : decode cX0_see 0 = .ok (.aload_n 0, 1) := by decide +kernel
theorem dX0_see_1 : decode cX0_see 1 = .ok (.aload_n 0, 1) := by decide +kernel
theorem dX0_see_2 : decode cX0_see 2 = .ok (.getfield 26, 3) := by decide +kernel
theorem dX0_see_5 : decode cX0_see 5 = .ok (.lconst 1, 1) := by decide +kernel
theorem dX0_see_6 : decode cX0_see 6 = .ok (.iload_n 1, 1) := by decide +kernel
theorem dX0_see_7 : decode cX0_see 7 = .ok (.lshl, 1) := by decide +kernel
theorem dX0_see_8 : decode cX0_see 8 = .ok (.lor, 1) := by decide +kernel
theorem dX0_see_9 : decode cX0_see 9 = .ok (.putfield 26, 3) := by decide +kernel
theorem dX0_see_12 : decode cX0_see 12 = .ok (.return_, 1) := by decide +kernel
theorem dX0_stopAttempt_0 : decode cX0_stopAttempt 0 = .ok (.aload_n 0, 1) := by decide +kernel
theorem dX0_stopAttempt_1 : decode cX0_stopAttempt 1 = .ok (.dup, 1) := by decide +kernel
theorem dX0_stopAttempt_2 : decode cX0_stopAttempt 2 = .ok (.getfield 16, 3) := by decide +kernel
theorem dX0_stopAttempt_5 : decode cX0_stopAttempt 5 = .ok (.iconst 1, 1) := by decide +kernel
theorem dX0_stopAttempt_6 : decode cX0_stopAttempt 6 = .ok (.iadd, 1) := by decide +kernel
theorem dX0_stopAttempt_7 : decode cX0_stopAttempt 7 = .ok (.putfield 16, 3) := by decide +kernel
theorem dX0_stopAttempt_10 : decode cX0_stopAttempt 10 = .ok (.return_, 1) := by decide +kernel
theorem dX0_stopConnect_0 : decode cX0_stopConnect 0 = .ok (.aload_n 0, 1) := by decide +kernel
theorem dX0_stopConnect_1 : decode cX0_stopConnect 1 = .ok (.dup, 1) := by decide +kernel
theorem dX0_stopConnect_2 : decode cX0_stopConnect 2 = .ok (.getfield 16, 3) := by decide +kernel
theorem dX0_stopConnect_5 : decode cX0_stopConnect 5 = .ok (.iconst 1, 1) := by decide +kernel
theorem dX0_stopConnect_6 : decode cX0_stopConnect 6 = .ok (.iadd, 1) := by decide +kernel
theorem dX0_stopConnect_7 : decode cX0_stopConnect 7 = .ok (.putfield 16, 3) := by decide +kernel
theorem dX0_stopConnect_10 : decode cX0_stopConnect 10 = .ok (.iload_n 1, 1) := by decide +kernel
theorem dX0_stopConnect_11 : decode cX0_stopConnect 11 = .ok (.ifCond .eq 13, 3) := by decide +kernel
theorem dX0_stopConnect_14 : decode cX0_stopConnect 14 = .ok (.aload_n 0, 1) := by decide +kernel
theorem dX0_stopConnect_15 : decode cX0_stopConnect 15 = .ok (.dup, 1) := by decide +kernel
theorem dX0_stopConnect_16 : decode cX0_stopConnect 16 = .ok (.getfield 20, 3) := by decide +kernel
theorem dX0_stopConnect_19 : decode cX0_stopConnect 19 = .ok (.iconst 1, 1) := by decide +kernel
theorem dX0_stopConnect_20 : decode cX0_stopConnect 20 = .ok (.iadd, 1) := by decide +kernel
theorem dX0_stopConnect_21 : decode cX0_stopConnect 21 = .ok (.putfield 20, 3) := by decide +kernel
theorem dX0_stopConnect_24 : decode cX0_stopConnect 24 = .ok (.return_, 1) := by decide +kernel
theorem dX1_init_0 : decode cX1_init 0 = .ok (.aload_n 0, 1) := by decide +kernel
theorem dX1_init_1 : decode cX1_init 1 = .ok (.invokespecial 3, 3) := by decide +kernel
theorem dX1_init_4 : decode cX1_init 4 = .ok (.aload_n 0, 1) := by decide +kernel
theorem dX1_init_5 : decode cX1_init 5 = .ok (.bipush 59, 2) := by decide +kernel
theorem dX1_init_7 : decode cX1_init 7 = .ok (.newarray .int, 2) := by decide +kernel
theorem dX1_init_9 : decode cX1_init 9 = .ok (.putfield 9, 3) := by decide +kernel
theorem dX1_init_12 : decode cX1_init 12 = .ok (.aload_n 0, 1) := by decide +kernel
theorem dX1_init_13 : decode cX1_init 13 = .ok (.iconst 0, 1) := by decide +kernel
theorem dX1_init_14 : decode cX1_init 14 = .ok (.putfield 15, 3) := by decide +kernel
theorem dX1_init_17 : decode cX1_init 17 = .ok (.return_, 1) := by decide +kernel
theorem dX1_put_0 : decode cX1_put 0 = .ok (.aload_n 0, 1) := by decide +kernel
theorem dX1_put_1 : decode cX1_put 1 = .ok (.getfield 15, 3) := by decide +kernel
theorem dX1_put_4 : decode cX1_put 4 = .ok (.bipush 59, 2) := by decide +kernel
theorem dX1_put_6 : decode cX1_put 6 = .ok (.if_icmp .lt 5, 3) := by decide +kernel
theorem dX1_put_9 : decode cX1_put 9 = .ok (.iconst 0, 1) := by decide +kernel
theorem dX1_put_10 : decode cX1_put 10 = .ok (.ireturn, 1) := by decide +kernel
theorem dX1_put_11 : decode cX1_put 11 = .ok (.aload_n 0, 1) := by decide +kernel
theorem dX1_put_12 : decode cX1_put 12 = .ok (.getfield 9, 3) := by decide +kernel
theorem dX1_put_15 : decode cX1_put 15 = .ok (.aload_n 0, 1) := by decide +kernel
theorem dX1_put_16 : decode cX1_put 16 = .ok (.getfield 15, 3) := by decide +kernel
theorem dX1_put_19 : decode cX1_put 19 = .ok (.iload_n 1, 1) := by decide +kernel
theorem dX1_put_20 : decode cX1_put 20 = .ok (.iastore, 1) := by decide +kernel
theorem dX1_put_21 : decode cX1_put 21 = .ok (.aload_n 0, 1) := by decide +kernel
theorem dX1_put_22 : decode cX1_put 22 = .ok (.dup, 1) := by decide +kernel
theorem dX1_put_23 : decode cX1_put 23 = .ok (.getfield 15, 3) := by decide +kernel
theorem dX1_put_26 : decode cX1_put 26 = .ok (.iconst 1, 1) := by decide +kernel
theorem dX1_put_27 : decode cX1_put 27 = .ok (.iadd, 1) := by decide +kernel
theorem dX1_put_28 : decode cX1_put 28 = .ok (.putfield 15, 3) := by decide +kernel
theorem dX1_put_31 : decode cX1_put 31 = .ok (.iconst 1, 1) := by decide +kernel
theorem dX1_put_32 : decode cX1_put 32 = .ok (.ireturn, 1) := by decide +kernel
theorem dX1_findError_0 : decode cX1_findError 0 = .ok (.iconst 0, 1) := by decide +kernel
theorem dX1_findError_1 : decode cX1_findError 1 = .ok (.istore_n 1, 1) := by decide +kernel
theorem dX1_findError_2 : decode cX1_findError 2 = .ok (.iload_n 1, 1) := by decide +kernel
theorem dX1_findError_3 : decode cX1_findError 3 = .ok (.aload_n 0, 1) := by decide +kernel
theorem dX1_findError_4 : decode cX1_findError 4 = .ok (.getfield 15, 3) := by decide +kernel
theorem dX1_findError_7 : decode cX1_findError 7 = .ok (.if_icmp .ge 19, 3) := by decide +kernel
theorem dX1_findError_10 : decode cX1_findError 10 = .ok (.aload_n 0, 1) := by decide +kernel
theorem dX1_findError_11 : decode cX1_findError 11 = .ok (.iload_n 1, 1) := by decide +kernel
theorem dX1_findError_12 : decode cX1_findError 12 = .ok (.invokevirtual 19, 3) := by decide +kernel
theorem dX1_findError_15 : decode cX1_findError 15 = .ok (.ifCond .ne 5, 3) := by decide +kernel
theorem dX1_findError_18 : decode cX1_findError 18 = .ok (.iload_n 1, 1) := by decide +kernel
theorem dX1_findError_19 : decode cX1_findError 19 = .ok (.ireturn, 1) := by decide +kernel
theorem dX1_findError_20 : decode cX1_findError 20 = .ok (.iinc 1 1, 3) := by decide +kernel
theorem dX1_findError_23 : decode cX1_findError 23 = .ok (.goto (-21), 3) := by decide +kernel
theorem dX1_findError_26 : decode cX1_findError 26 = .ok (.aload_n 0, 1) := by decide +kernel
theorem dX1_findError_27 : decode cX1_findError 27 = .ok (.getfield 15, 3) := by decide +kernel
theorem dX1_findError_30 : decode cX1_findError 30 = .ok (.ireturn, 1) := by decide +kernel
theorem dX1_fits_0 : decode cX1_fits 0 = .ok (.aload_n 0, 1) := by decide +kernel
theorem dX1_fits_1 : decode cX1_fits 1 = .ok (.getfield 9, 3) := by decide +kernel
theorem dX1_fits_4 : decode cX1_fits 4 = .ok (.iload_n 1, 1) := by decide +kernel
theorem dX1_fits_5 : decode cX1_fits 5 = .ok (.iaload, 1) := by decide +kernel
theorem dX1_fits_6 : decode cX1_fits 6 = .ok (.istore_n 2, 1) := by decide +kernel
theorem dX1_fits_7 : decode cX1_fits 7 = .ok (.iload_n 1, 1) := by decide +kernel
theorem dX1_fits_8 : decode cX1_fits 8 = .ok (.bipush 6, 2) := by decide +kernel
theorem dX1_fits_10 : decode cX1_fits 10 = .ok (.irem, 1) := by decide +kernel
theorem dX1_fits_11 : decode cX1_fits 11 = .ok (.tableswitch 95 0 4 #[33, 42, 54, 63, 90], 33) := by decide +kernel
theorem dX1_fits_44 : decode cX1_fits 44 = .ok (.iload_n 2, 1) := by decide +kernel
theorem dX1_fits_45 : decode cX1_fits 45 = .ok (.bipush 48, 2) := by decide +kernel
theorem dX1_fits_47 : decode cX1_fits 47 = .ok (.bipush 55, 2) := by decide +kernel
theorem dX1_fits_49 : decode cX1_fits 49 = .ok (.invokestatic 23, 3) := by decide +kernel
theorem dX1_fits_52 : decode cX1_fits 52 = .ok (.ireturn, 1) := by decide +kernel
theorem dX1_fits_53 : decode cX1_fits 53 = .ok (.iload_n 2, 1) := by decide +kernel
theorem dX1_fits_54 : decode cX1_fits 54 = .ok (.bipush 62, 2) := by decide +kernel
theorem dX1_fits_56 : decode cX1_fits 56 = .ok (.if_icmp .ne 7, 3) := by decide +kernel
theorem dX1_fits_59 : decode cX1_fits 59 = .ok (.iconst 1, 1) := by decide +kernel
theorem dX1_fits_60 : decode cX1_fits 60 = .ok (.goto 4, 3) := by decide +kernel
theorem dX1_fits_63 : decode cX1_fits 63 = .ok (.iconst 0, 1) := by decide +kernel
theorem dX1_fits_64 : decode cX1_fits 64 = .ok (.ireturn, 1) := by decide +kernel
theorem dX1_fits_65 : decode cX1_fits 65 = .ok (.iload_n 2, 1) := by decide +kernel
theorem dX1_fits_66 : decode cX1_fits 66 = .ok (.bipush 48, 2) := by decide +kernel
theorem dX1_fits_68 : decode cX1_fits 68 = .ok (.bipush 51, 2) := by decide +kernel
theorem dX1_fits_70 : decode cX1_fits 70 = .ok (.invokestatic 23, 3) := by decide +kernel
theorem dX1_fits_73 : decode cX1_fits 73 = .ok (.ireturn, 1) := by decide +kernel
theorem dX1_fits_74 : decode cX1_fits 74 = .ok (.iload_n 2, 1) := by decide +kernel
theorem dX1_fits_75 : decode cX1_fits 75 = .ok (.bipush 48, 2) := by decide +kernel
theorem dX1_fits_77 : decode cX1_fits 77 = .ok (.aload_n 0, 1) := by decide +kernel
theorem dX1_fits_78 : decode cX1_fits 78 = .ok (.getfield 9, 3) := by decide +kernel
theorem dX1_fits_81 : decode cX1_fits 81 = .ok (.iload_n 1, 1) := by decide +kernel
theorem dX1_fits_82 : decode cX1_fits 82 = .ok (.iconst 1, 1) := by decide +kernel
theorem dX1_fits_83 : decode cX1_fits 83 = .ok (.isub, 1) := by decide +kernel
theorem dX1_fits_84 : decode cX1_fits 84 = .ok (.iaload, 1) := by decide +kernel
theorem dX1_fits_85 : decode cX1_fits 85 = .ok (.bipush 51, 2) := by decide +kernel
theorem dX1_fits_87 : decode cX1_fits 87 = .ok (.if_icmp .ne 8, 3) := by decide +kernel
theorem dX1_fits_90 : decode cX1_fits 90 = .ok (.bipush 49, 2) := by decide +kernel
theorem dX1_fits_92 : decode cX1_fits 92 = .ok (.goto 5, 3) := by decide +kernel
theorem dX1_fits_95 : decode cX1_fits 95 = .ok (.bipush 57, 2) := by decide +kernel
theorem dX1_fits_97 : decode cX1_fits 97 = .ok (.invokestatic 23, 3) := by decide +kernel
theorem dX1_fits_100 : decode cX1_fits 100 = .ok (.ireturn, 1) := by decide +kernel
theorem dX1_fits_101 : decode cX1_fits 101 = .ok (.iload_n 2, 1) := by decide +kernel
theorem dX1_fits_102 : decode cX1_fits 102 = .ok (.invokestatic 27, 3) := by decide +kernel
theorem dX1_fits_105 : decode cX1_fits 105 = .ok (.ireturn, 1) := by decide +kernel
theorem dX1_fits_106 : decode cX1_fits 106 = .ok (.iload_n 2, 1) := by decide +kernel
theorem dX1_fits_107 : decode cX1_fits 107 = .ok (.bipush 44, 2) := by decide +kernel
theorem dX1_fits_109 : decode cX1_fits 109 = .ok (.if_icmp .ne 7, 3) := by decide +kernel
theorem dX1_fits_112 : decode cX1_fits 112 = .ok (.iconst 1, 1) := by decide +kernel
theorem dX1_fits_113 : decode cX1_fits 113 = .ok (.goto 4, 3) := by decide +kernel
theorem dX1_fits_116 : decode cX1_fits 116 = .ok (.iconst 0, 1) := by decide +kernel
theorem dX1_fits_117 : decode cX1_fits 117 = .ok (.ireturn, 1) := by decide +kernel
theorem dX1_isOutcome_0 : decode cX1_isOutcome 0 = .ok (.iload_n 0, 1) := by decide +kernel
theorem dX1_isOutcome_1 : decode cX1_isOutcome 1 = .ok (.bipush 43, 2) := by decide +kernel
theorem dX1_isOutcome_3 : decode cX1_isOutcome 3 = .ok (.if_icmp .eq 9, 3) := by decide +kernel
theorem dX1_isOutcome_6 : decode cX1_isOutcome 6 = .ok (.iload_n 0, 1) := by decide +kernel
theorem dX1_isOutcome_7 : decode cX1_isOutcome 7 = .ok (.bipush 45, 2) := by decide +kernel
theorem dX1_isOutcome_9 : decode cX1_isOutcome 9 = .ok (.if_icmp .ne 7, 3) := by decide +kernel
theorem dX1_isOutcome_12 : decode cX1_isOutcome 12 = .ok (.iconst 1, 1) := by decide +kernel
theorem dX1_isOutcome_13 : decode cX1_isOutcome 13 = .ok (.goto 4, 3) := by decide +kernel
theorem dX1_isOutcome_16 : decode cX1_isOutcome 16 = .ok (.iconst 0, 1) := by decide +kernel
theorem dX1_isOutcome_17 : decode cX1_isOutcome 17 = .ok (.ireturn, 1) := by decide +kernel
theorem dX1_isComplete_0 : decode cX1_isComplete 0 = .ok (.aload_n 0, 1) := by decide +kernel
theorem dX1_isComplete_1 : decode cX1_isComplete 1 = .ok (.getfield 15, 3) := by decide +kernel
theorem dX1_isComplete_4 : decode cX1_isComplete 4 = .ok (.ifCond .le 35, 3) := by decide +kernel
theorem dX1_isComplete_7 : decode cX1_isComplete 7 = .ok (.aload_n 0, 1) := by decide +kernel
theorem dX1_isComplete_8 : decode cX1_isComplete 8 = .ok (.getfield 9, 3) := by decide +kernel
theorem dX1_isComplete_11 : decode cX1_isComplete 11 = .ok (.aload_n 0, 1) := by decide +kernel
theorem dX1_isComplete_12 : decode cX1_isComplete 12 = .ok (.getfield 15, 3) := by decide +kernel
theorem dX1_isComplete_15 : decode cX1_isComplete 15 = .ok (.iconst 1, 1) := by decide +kernel
theorem dX1_isComplete_16 : decode cX1_isComplete 16 = .ok (.isub, 1) := by decide +kernel
theorem dX1_isComplete_17 : decode cX1_isComplete 17 = .ok (.iaload, 1) := by decide +kernel
theorem dX1_isComplete_18 : decode cX1_isComplete 18 = .ok (.invokestatic 27, 3) := by decide +kernel
theorem dX1_isComplete_21 : decode cX1_isComplete 21 = .ok (.ifCond .eq 18, 3) := by decide +kernel
theorem dX1_isComplete_24 : decode cX1_isComplete 24 = .ok (.aload_n 0, 1) := by decide +kernel
theorem dX1_isComplete_25 : decode cX1_isComplete 25 = .ok (.invokevirtual 30, 3) := by decide +kernel
theorem dX1_isComplete_28 : decode cX1_isComplete 28 = .ok (.aload_n 0, 1) := by decide +kernel
theorem dX1_isComplete_29 : decode cX1_isComplete 29 = .ok (.getfield 15, 3) := by decide +kernel
theorem dX1_isComplete_32 : decode cX1_isComplete 32 = .ok (.if_icmp .ne 7, 3) := by decide +kernel
theorem dX1_isComplete_35 : decode cX1_isComplete 35 = .ok (.iconst 1, 1) := by decide +kernel
theorem dX1_isComplete_36 : decode cX1_isComplete 36 = .ok (.goto 4, 3) := by decide +kernel
theorem dX1_isComplete_39 : decode cX1_isComplete 39 = .ok (.iconst 0, 1) := by decide +kernel
theorem dX1_isComplete_40 : decode cX1_isComplete 40 = .ok (.ireturn, 1) := by decide +kernel
theorem dX1_sourceAt_0 : decode cX1_sourceAt 0 = .ok (.aload_n 0, 1) := by decide +kernel
theorem dX1_sourceAt_1 : decode cX1_sourceAt 1 = .ok (.getfield 9, 3) := by decide +kernel
theorem dX1_sourceAt_4 : decode cX1_sourceAt 4 = .ok (.iload_n 1, 1) := by decide +kernel
theorem dX1_sourceAt_5 : decode cX1_sourceAt 5 = .ok (.iaload, 1) := by decide +kernel
theorem dX1_sourceAt_6 : decode cX1_sourceAt 6 = .ok (.bipush 48, 2) := by decide +kernel
theorem dX1_sourceAt_8 : decode cX1_sourceAt 8 = .ok (.isub, 1) := by decide +kernel
theorem dX1_sourceAt_9 : decode cX1_sourceAt 9 = .ok (.ireturn, 1) := by decide +kernel
theorem dX1_destinationAt_0 : decode cX1_destinationAt 0 = .ok (.bipush 10, 2) := by decide +kernel
theorem dX1_destinationAt_2 : decode cX1_destinationAt 2 = .ok (.aload_n 0, 1) := by decide +kernel
theorem dX1_destinationAt_3 : decode cX1_destinationAt 3 = .ok (.getfield 9, 3) := by decide +kernel
theorem dX1_destinationAt_6 : decode cX1_destinationAt 6 = .ok (.iload_n 1, 1) := by decide +kernel
theorem dX1_destinationAt_7 : decode cX1_destinationAt 7 = .ok (.iconst 2, 1) := by decide +kernel
theorem dX1_destinationAt_8 : decode cX1_destinationAt 8 = .ok (.iadd, 1) := by decide +kernel
theorem dX1_destinationAt_9 : decode cX1_destinationAt 9 = .ok (.iaload, 1) := by decide +kernel
theorem dX1_destinationAt_10 : decode cX1_destinationAt 10 = .ok (.bipush 48, 2) := by decide +kernel
theorem dX1_destinationAt_12 : decode cX1_destinationAt 12 = .ok (.isub, 1) := by decide +kernel
theorem dX1_destinationAt_13 : decode cX1_destinationAt 13 = .ok (.imul, 1) := by decide +kernel
theorem dX1_destinationAt_14 : decode cX1_destinationAt 14 = .ok (.aload_n 0, 1) := by decide +kernel
theorem dX1_destinationAt_15 : decode cX1_destinationAt 15 = .ok (.getfield 9, 3) := by decide +kernel
theorem dX1_destinationAt_18 : decode cX1_destinationAt 18 = .ok (.iload_n 1, 1) := by decide +kernel
theorem dX1_destinationAt_19 : decode cX1_destinationAt 19 = .ok (.iconst 3, 1) := by decide +kernel
theorem dX1_destinationAt_20 : decode cX1_destinationAt 20 = .ok (.iadd, 1) := by decide +kernel
theorem dX1_destinationAt_21 : decode cX1_destinationAt 21 = .ok (.iaload, 1) := by decide +kernel
theorem dX1_destinationAt_22 : decode cX1_destinationAt 22 = .ok (.iadd, 1) := by decide +kernel
theorem dX1_destinationAt_23 : decode cX1_destinationAt 23 = .ok (.bipush 48, 2) := by decide +kernel
theorem dX1_destinationAt_25 : decode cX1_destinationAt 25 = .ok (.isub, 1) := by decide +kernel
theorem dX1_destinationAt_26 : decode cX1_destinationAt 26 = .ok (.ireturn, 1) := by decide +kernel
theorem dX1_successAt_0 : decode cX1_successAt 0 = .ok (.aload_n 0, 1) := by decide +kernel
theorem dX1_successAt_1 : decode cX1_successAt 1 = .ok (.getfield 9, 3) := by decide +kernel
theorem dX1_successAt_4 : decode cX1_successAt 4 = .ok (.iload_n 1, 1) := by decide +kernel
theorem dX1_successAt_5 : decode cX1_successAt 5 = .ok (.iconst 4, 1) := by decide +kernel
theorem dX1_successAt_6 : decode cX1_successAt 6 = .ok (.iadd, 1) := by decide +kernel
theorem dX1_successAt_7 : decode cX1_successAt 7 = .ok (.iaload, 1) := by decide +kernel
theorem dX1_successAt_8 : decode cX1_successAt 8 = .ok (.bipush 43, 2) := by decide +kernel
theorem dX1_successAt_10 : decode cX1_successAt 10 = .ok (.if_icmp .ne 7, 3) := by decide +kernel
theorem dX1_successAt_13 : decode cX1_successAt 13 = .ok (.iconst 1, 1) := by decide +kernel
theorem dX1_successAt_14 : decode cX1_successAt 14 = .ok (.goto 4, 3) := by decide +kernel
theorem dX1_successAt_17 : decode cX1_successAt 17 = .ok (.iconst 0, 1) := by decide +kernel
theorem dX1_successAt_18 : decode cX1_successAt 18 = .ok (.ireturn, 1) := by decide +kernel
theorem dX2_init_0 : decode cX2_init 0 = .ok (.aload_n 0, 1) := by decide +kernel
theorem dX2_init_1 : decode cX2_init 1 = .ok (.invokespecial 3, 3) := by decide +kernel
theorem dX2_init_4 : decode cX2_init 4 = .ok (.aload_n 0, 1) := by decide +kernel
theorem dX2_init_5 : decode cX2_init 5 = .ok (.bipush 12, 2) := by decide +kernel
theorem dX2_init_7 : decode cX2_init 7 = .ok (.newarray .int, 2) := by decide +kernel
theorem dX2_init_9 : decode cX2_init 9 = .ok (.putfield 9, 3) := by decide +kernel
theorem dX2_init_12 : decode cX2_init 12 = .ok (.aload_n 0, 1) := by decide +kernel
theorem dX2_init_13 : decode cX2_init 13 = .ok (.bipush 12, 2) := by decide +kernel
theorem dX2_init_15 : decode cX2_init 15 = .ok (.newarray .int, 2) := by decide +kernel
theorem dX2_init_17 : decode cX2_init 17 = .ok (.putfield 15, 3) := by decide +kernel
theorem dX2_init_20 : decode cX2_init 20 = .ok (.aload_n 0, 1) := by decide +kernel
theorem dX2_init_21 : decode cX2_init 21 = .ok (.bipush 12, 2) := by decide +kernel
theorem dX2_init_23 : decode cX2_init 23 = .ok (.newarray .int, 2) := by decide +kernel
theorem dX2_init_25 : decode cX2_init 25 = .ok (.putfield 18, 3) := by decide +kernel
theorem dX2_init_28 : decode cX2_init 28 = .ok (.aload_n 0, 1) := by decide +kernel
theorem dX2_init_29 : decode cX2_init 29 = .ok (.iconst 0, 1) := by decide +kernel
theorem dX2_init_30 : decode cX2_init 30 = .ok (.putfield 21, 3) := by decide +kernel
theorem dX2_init_33 : decode cX2_init 33 = .ok (.return_, 1) := by decide +kernel
theorem dX2_put_0 : decode cX2_put 0 = .ok (.aload_n 0, 1) := by decide +kernel
theorem dX2_put_1 : decode cX2_put 1 = .ok (.getfield 21, 3) := by decide +kernel
theorem dX2_put_4 : decode cX2_put 4 = .ok (.bipush 12, 2) := by decide +kernel
theorem dX2_put_6 : decode cX2_put 6 = .ok (.if_icmp .lt 5, 3) := by decide +kernel
theorem dX2_put_9 : decode cX2_put 9 = .ok (.iconst 0, 1) := by decide +kernel
theorem dX2_put_10 : decode cX2_put 10 = .ok (.ireturn, 1) := by decide +kernel
theorem dX2_put_11 : decode cX2_put 11 = .ok (.aload_n 0, 1) := by decide +kernel
theorem dX2_put_12 : decode cX2_put 12 = .ok (.getfield 9, 3) := by decide +kernel
theorem dX2_put_15 : decode cX2_put 15 = .ok (.aload_n 0, 1) := by decide +kernel
theorem dX2_put_16 : decode cX2_put 16 = .ok (.getfield 21, 3) := by decide +kernel
theorem dX2_put_19 : decode cX2_put 19 = .ok (.iload_n 1, 1) := by decide +kernel
theorem dX2_put_20 : decode cX2_put 20 = .ok (.iastore, 1) := by decide +kernel
theorem dX2_put_21 : decode cX2_put 21 = .ok (.aload_n 0, 1) := by decide +kernel
theorem dX2_put_22 : decode cX2_put 22 = .ok (.getfield 15, 3) := by decide +kernel
theorem dX2_put_25 : decode cX2_put 25 = .ok (.aload_n 0, 1) := by decide +kernel
theorem dX2_put_26 : decode cX2_put 26 = .ok (.getfield 21, 3) := by decide +kernel
theorem dX2_put_29 : decode cX2_put 29 = .ok (.iload_n 2, 1) := by decide +kernel
theorem dX2_put_30 : decode cX2_put 30 = .ok (.iastore, 1) := by decide +kernel
theorem dX2_put_31 : decode cX2_put 31 = .ok (.aload_n 0, 1) := by decide +kernel
theorem dX2_put_32 : decode cX2_put 32 = .ok (.getfield 18, 3) := by decide +kernel
theorem dX2_put_35 : decode cX2_put 35 = .ok (.aload_n 0, 1) := by decide +kernel
theorem dX2_put_36 : decode cX2_put 36 = .ok (.getfield 21, 3) := by decide +kernel
theorem dX2_put_39 : decode cX2_put 39 = .ok (.iload_n 3, 1) := by decide +kernel
theorem dX2_put_40 : decode cX2_put 40 = .ok (.iastore, 1) := by decide +kernel
theorem dX2_put_41 : decode cX2_put 41 = .ok (.aload_n 0, 1) := by decide +kernel
theorem dX2_put_42 : decode cX2_put 42 = .ok (.dup, 1) := by decide +kernel
theorem dX2_put_43 : decode cX2_put 43 = .ok (.getfield 21, 3) := by decide +kernel
theorem dX2_put_46 : decode cX2_put 46 = .ok (.iconst 1, 1) := by decide +kernel
theorem dX2_put_47 : decode cX2_put 47 = .ok (.iadd, 1) := by decide +kernel
theorem dX2_put_48 : decode cX2_put 48 = .ok (.putfield 21, 3) := by decide +kernel
theorem dX2_put_51 : decode cX2_put 51 = .ok (.iconst 1, 1) := by decide +kernel
theorem dX2_put_52 : decode cX2_put 52 = .ok (.ireturn, 1) := by decide +kernel
theorem dX2_find_0 : decode cX2_find 0 = .ok (.iconst 0, 1) := by decide +kernel
theorem dX2_find_1 : decode cX2_find 1 = .ok (.istore_n 3, 1) := by decide +kernel
theorem dX2_find_2 : decode cX2_find 2 = .ok (.iload_n 3, 1) := by decide +kernel
theorem dX2_find_3 : decode cX2_find 3 = .ok (.aload_n 0, 1) := by decide +kernel
theorem dX2_find_4 : decode cX2_find 4 = .ok (.getfield 21, 3) := by decide +kernel
theorem dX2_find_7 : decode cX2_find 7 = .ok (.if_icmp .ge 31, 3) := by decide +kernel
theorem dX2_find_10 : decode cX2_find 10 = .ok (.aload_n 0, 1) := by decide +kernel
theorem dX2_find_11 : decode cX2_find 11 = .ok (.getfield 9, 3) := by decide +kernel
theorem dX2_find_14 : decode cX2_find 14 = .ok (.iload_n 3, 1) := by decide +kernel
theorem dX2_find_15 : decode cX2_find 15 = .ok (.iaload, 1) := by decide +kernel
theorem dX2_find_16 : decode cX2_find 16 = .ok (.iload_n 1, 1) := by decide +kernel
theorem dX2_find_17 : decode cX2_find 17 = .ok (.if_icmp .ne 15, 3) := by decide +kernel
theorem dX2_find_20 : decode cX2_find 20 = .ok (.aload_n 0, 1) := by decide +kernel
theorem dX2_find_21 : decode cX2_find 21 = .ok (.getfield 15, 3) := by decide +kernel
theorem dX2_find_24 : decode cX2_find 24 = .ok (.iload_n 3, 1) := by decide +kernel
theorem dX2_find_25 : decode cX2_find 25 = .ok (.iaload, 1) := by decide +kernel
theorem dX2_find_26 : decode cX2_find 26 = .ok (.iload_n 2, 1) := by decide +kernel
theorem dX2_find_27 : decode cX2_find 27 = .ok (.if_icmp .ne 5, 3) := by decide +kernel
theorem dX2_find_30 : decode cX2_find 30 = .ok (.iload_n 3, 1) := by decide +kernel
theorem dX2_find_31 : decode cX2_find 31 = .ok (.ireturn, 1) := by decide +kernel
theorem dX2_find_32 : decode cX2_find 32 = .ok (.iinc 3 1, 3) := by decide +kernel
theorem dX2_find_35 : decode cX2_find 35 = .ok (.goto (-33), 3) := by decide +kernel
theorem dX2_find_38 : decode cX2_find 38 = .ok (.iconst (-1), 1) := by decide +kernel
theorem dX2_find_39 : decode cX2_find 39 = .ok (.ireturn, 1) := by decide +kernel
theorem dX2_firstDue_0 : decode cX2_firstDue 0 = .ok (.iconst 0, 1) := by decide +kernel
theorem dX2_firstDue_1 : decode cX2_firstDue 1 = .ok (.istore_n 2, 1) := by decide +kernel
theorem dX2_firstDue_2 : decode cX2_firstDue 2 = .ok (.iload_n 2, 1) := by decide +kernel
theorem dX2_firstDue_3 : decode cX2_firstDue 3 = .ok (.aload_n 0, 1) := by decide +kernel
theorem dX2_firstDue_4 : decode cX2_firstDue 4 = .ok (.getfield 21, 3) := by decide +kernel
theorem dX2_firstDue_7 : decode cX2_firstDue 7 = .ok (.if_icmp .ge 21, 3) := by decide +kernel
theorem dX2_firstDue_10 : decode cX2_firstDue 10 = .ok (.aload_n 0, 1) := by decide +kernel
theorem dX2_firstDue_11 : decode cX2_firstDue 11 = .ok (.getfield 18, 3) := by decide +kernel
theorem dX2_firstDue_14 : decode cX2_firstDue 14 = .ok (.iload_n 2, 1) := by decide +kernel
theorem dX2_firstDue_15 : decode cX2_firstDue 15 = .ok (.iaload, 1) := by decide +kernel
theorem dX2_firstDue_16 : decode cX2_firstDue 16 = .ok (.iload_n 1, 1) := by decide +kernel
theorem dX2_firstDue_17 : decode cX2_firstDue 17 = .ok (.if_icmp .ne 5, 3) := by decide +kernel
theorem dX2_firstDue_20 : decode cX2_firstDue 20 = .ok (.iload_n 2, 1) := by decide +kernel
theorem dX2_firstDue_21 : decode cX2_firstDue 21 = .ok (.ireturn, 1) := by decide +kernel
theorem dX2_firstDue_22 : decode cX2_firstDue 22 = .ok (.iinc 2 1, 3) := by decide +kernel
theorem dX2_firstDue_25 : decode cX2_firstDue 25 = .ok (.goto (-23), 3) := by decide +kernel
theorem dX2_firstDue_28 : decode cX2_firstDue 28 = .ok (.iconst (-1), 1) := by decide +kernel
theorem dX2_firstDue_29 : decode cX2_firstDue 29 = .ok (.ireturn, 1) := by decide +kernel
theorem dX2_drop_0 : decode cX2_drop 0 = .ok (.iload_n 1, 1) := by decide +kernel
theorem dX2_drop_1 : decode cX2_drop 1 = .ok (.ifCond .lt 11, 3) := by decide +kernel
theorem dX2_drop_4 : decode cX2_drop 4 = .ok (.iload_n 1, 1) := by decide +kernel
theorem dX2_drop_5 : decode cX2_drop 5 = .ok (.aload_n 0, 1) := by decide +kernel
theorem dX2_drop_6 : decode cX2_drop 6 = .ok (.getfield 21, 3) := by decide +kernel
theorem dX2_drop_9 : decode cX2_drop 9 = .ok (.if_icmp .lt 4, 3) := by decide +kernel
theorem dX2_drop_12 : decode cX2_drop 12 = .ok (.return_, 1) := by decide +kernel
theorem dX2_drop_13 : decode cX2_drop 13 = .ok (.aload_n 0, 1) := by decide +kernel
theorem dX2_drop_14 : decode cX2_drop 14 = .ok (.dup, 1) := by decide +kernel
theorem dX2_drop_15 : decode cX2_drop 15 = .ok (.getfield 21, 3) := by decide +kernel
theorem dX2_drop_18 : decode cX2_drop 18 = .ok (.iconst 1, 1) := by decide +kernel
theorem dX2_drop_19 : decode cX2_drop 19 = .ok (.isub, 1) := by decide +kernel
theorem dX2_drop_20 : decode cX2_drop 20 = .ok (.putfield 21, 3) := by decide +kernel
theorem dX2_drop_23 : decode cX2_drop 23 = .ok (.iload_n 1, 1) := by decide +kernel
theorem dX2_drop_24 : decode cX2_drop 24 = .ok (.istore_n 2, 1) := by decide +kernel
theorem dX2_drop_25 : decode cX2_drop 25 = .ok (.iload_n 2, 1) := by decide +kernel
theorem dX2_drop_26 : decode cX2_drop 26 = .ok (.aload_n 0, 1) := by decide +kernel
theorem dX2_drop_27 : decode cX2_drop 27 = .ok (.getfield 21, 3) := by decide +kernel
theorem dX2_drop_30 : decode cX2_drop 30 = .ok (.if_icmp .ge 51, 3) := by decide +kernel
theorem dX2_drop_33 : decode cX2_drop 33 = .ok (.aload_n 0, 1) := by decide +kernel
theorem dX2_drop_34 : decode cX2_drop 34 = .ok (.getfield 9, 3) := by decide +kernel
theorem dX2_drop_37 : decode cX2_drop 37 = .ok (.iload_n 2, 1) := by decide +kernel
theorem dX2_drop_38 : decode cX2_drop 38 = .ok (.aload_n 0, 1) := by decide +kernel
theorem dX2_drop_39 : decode cX2_drop 39 = .ok (.getfield 9, 3) := by decide +kernel
theorem dX2_drop_42 : decode cX2_drop 42 = .ok (.iload_n 2, 1) := by decide +kernel
theorem dX2_drop_43 : decode cX2_drop 43 = .ok (.iconst 1, 1) := by decide +kernel
theorem dX2_drop_44 : decode cX2_drop 44 = .ok (.iadd, 1) := by decide +kernel
theorem dX2_drop_45 : decode cX2_drop 45 = .ok (.iaload, 1) := by decide +kernel
theorem dX2_drop_46 : decode cX2_drop 46 = .ok (.iastore, 1) := by decide +kernel
theorem dX2_drop_47 : decode cX2_drop 47 = .ok (.aload_n 0, 1) := by decide +kernel
theorem dX2_drop_48 : decode cX2_drop 48 = .ok (.getfield 15, 3) := by decide +kernel
theorem dX2_drop_51 : decode cX2_drop 51 = .ok (.iload_n 2, 1) := by decide +kernel
theorem dX2_drop_52 : decode cX2_drop 52 = .ok (.aload_n 0, 1) := by decide +kernel
theorem dX2_drop_53 : decode cX2_drop 53 = .ok (.getfield 15, 3) := by decide +kernel
theorem dX2_drop_56 : decode cX2_drop 56 = .ok (.iload_n 2, 1) := by decide +kernel
theorem dX2_drop_57 : decode cX2_drop 57 = .ok (.iconst 1, 1) := by decide +kernel
theorem dX2_drop_58 : decode cX2_drop 58 = .ok (.iadd, 1) := by decide +kernel
theorem dX2_drop_59 : decode cX2_drop 59 = .ok (.iaload, 1) := by decide +kernel
theorem dX2_drop_60 : decode cX2_drop 60 = .ok (.iastore, 1) := by decide +kernel
theorem dX2_drop_61 : decode cX2_drop 61 = .ok (.aload_n 0, 1) := by decide +kernel
theorem dX2_drop_62 : decode cX2_drop 62 = .ok (.getfield 18, 3) := by decide +kernel
theorem dX2_drop_65 : decode cX2_drop 65 = .ok (.iload_n 2, 1) := by decide +kernel
theorem dX2_drop_66 : decode cX2_drop 66 = .ok (.aload_n 0, 1) := by decide +kernel
theorem dX2_drop_67 : decode cX2_drop 67 = .ok (.getfield 18, 3) := by decide +kernel
theorem dX2_drop_70 : decode cX2_drop 70 = .ok (.iload_n 2, 1) := by decide +kernel
theorem dX2_drop_71 : decode cX2_drop 71 = .ok (.iconst 1, 1) := by decide +kernel
theorem dX2_drop_72 : decode cX2_drop 72 = .ok (.iadd, 1) := by decide +kernel
theorem dX2_drop_73 : decode cX2_drop 73 = .ok (.iaload, 1) := by decide +kernel
theorem dX2_drop_74 : decode cX2_drop 74 = .ok (.iastore, 1) := by decide +kernel
theorem dX2_drop_75 : decode cX2_drop 75 = .ok (.iinc 2 1, 3) := by decide +kernel
theorem dX2_drop_78 : decode cX2_drop 78 = .ok (.goto (-53), 3) := by decide +kernel
theorem dX2_drop_81 : decode cX2_drop 81 = .ok (.return_, 1) := by decide +kernel
theorem dX3_init_0 : decode cX3_init 0 = .ok (.aload_n 0, 1) := by decide +kernel
theorem dX3_init_1 : decode cX3_init 1 = .ok (.invokespecial 3, 3) := by decide +kernel
theorem dX3_init_4 : decode cX3_init 4 = .ok (.aload_n 0, 1) := by decide +kernel
theorem dX3_init_5 : decode cX3_init 5 = .ok (.bipush 16, 2) := by decide +kernel
theorem dX3_init_7 : decode cX3_init 7 = .ok (.newarray .int, 2) := by decide +kernel
theorem dX3_init_9 : decode cX3_init 9 = .ok (.putfield 9, 3) := by decide +kernel
theorem dX3_init_12 : decode cX3_init 12 = .ok (.aload_n 0, 1) := by decide +kernel
theorem dX3_init_13 : decode cX3_init 13 = .ok (.iconst 0, 1) := by decide +kernel
theorem dX3_init_14 : decode cX3_init 14 = .ok (.putfield 15, 3) := by decide +kernel
theorem dX3_init_17 : decode cX3_init 17 = .ok (.return_, 1) := by decide +kernel
theorem dX3_note_0 : decode cX3_note 0 = .ok (.aload_n 0, 1) := by decide +kernel
theorem dX3_note_1 : decode cX3_note 1 = .ok (.getfield 9, 3) := by decide +kernel
theorem dX3_note_4 : decode cX3_note 4 = .ok (.aload_n 0, 1) := by decide +kernel
theorem dX3_note_5 : decode cX3_note 5 = .ok (.getfield 15, 3) := by decide +kernel
theorem dX3_note_8 : decode cX3_note 8 = .ok (.bipush 16, 2) := by decide +kernel
theorem dX3_note_10 : decode cX3_note 10 = .ok (.invokestatic 19, 3) := by decide +kernel
theorem dX3_note_13 : decode cX3_note 13 = .ok (.iload_n 1, 1) := by decide +kernel
theorem dX3_note_14 : decode cX3_note 14 = .ok (.iastore, 1) := by decide +kernel
theorem dX3_note_15 : decode cX3_note 15 = .ok (.aload_n 0, 1) := by decide +kernel
theorem dX3_note_16 : decode cX3_note 16 = .ok (.dup, 1) := by decide +kernel
theorem dX3_note_17 : decode cX3_note 17 = .ok (.getfield 15, 3) := by decide +kernel
theorem dX3_note_20 : decode cX3_note 20 = .ok (.iconst 1, 1) := by decide +kernel
theorem dX3_note_21 : decode cX3_note 21 = .ok (.iadd, 1) := by decide +kernel
theorem dX3_note_22 : decode cX3_note 22 = .ok (.putfield 15, 3) := by decide +kernel
theorem dX3_note_25 : decode cX3_note 25 = .ok (.return_, 1) := by decide +kernel
theorem dX3_kept_0 : decode cX3_kept 0 = .ok (.aload_n 0, 1) := by decide +kernel
theorem dX3_kept_1 : decode cX3_kept 1 = .ok (.getfield 15, 3) := by decide +kernel
theorem dX3_kept_4 : decode cX3_kept 4 = .ok (.bipush 16, 2) := by decide +kernel
theorem dX3_kept_6 : decode cX3_kept 6 = .ok (.if_icmp .ge 10, 3) := by decide +kernel
theorem dX3_kept_9 : decode cX3_kept 9 = .ok (.aload_n 0, 1) := by decide +kernel
theorem dX3_kept_10 : decode cX3_kept 10 = .ok (.getfield 15, 3) := by decide +kernel
theorem dX3_kept_13 : decode cX3_kept 13 = .ok (.goto 5, 3) := by decide +kernel
theorem dX3_kept_16 : decode cX3_kept 16 = .ok (.bipush 16, 2) := by decide +kernel
theorem dX3_kept_18 : decode cX3_kept 18 = .ok (.ireturn, 1) := by decide +kernel
theorem dX3_recall_0 : decode cX3_recall 0 = .ok (.aload_n 0, 1) := by decide +kernel
theorem dX3_recall_1 : decode cX3_recall 1 = .ok (.getfield 9, 3) := by decide +kernel
theorem dX3_recall_4 : decode cX3_recall 4 = .ok (.aload_n 0, 1) := by decide +kernel
theorem dX3_recall_5 : decode cX3_recall 5 = .ok (.getfield 15, 3) := by decide +kernel
theorem dX3_recall_8 : decode cX3_recall 8 = .ok (.iconst 1, 1) := by decide +kernel
theorem dX3_recall_9 : decode cX3_recall 9 = .ok (.isub, 1) := by decide +kernel
theorem dX3_recall_10 : decode cX3_recall 10 = .ok (.iload_n 1, 1) := by decide +kernel
theorem dX3_recall_11 : decode cX3_recall 11 = .ok (.isub, 1) := by decide +kernel
theorem dX3_recall_12 : decode cX3_recall 12 = .ok (.bipush 16, 2) := by decide +kernel
theorem dX3_recall_14 : decode cX3_recall 14 = .ok (.invokestatic 19, 3) := by decide +kernel
theorem dX3_recall_17 : decode cX3_recall 17 = .ok (.iaload, 1) := by decide +kernel
theorem dX3_recall_18 : decode cX3_recall 18 = .ok (.ireturn, 1) := by decide +kernel
theorem dX4_init_0 : decode cX4_init 0 = .ok (.aload_n 0, 1) := by decide +kernel
theorem dX4_init_1 : decode cX4_init 1 = .ok (.invokespecial 3, 3) := by decide +kernel
theorem dX4_init_4 : decode cX4_init 4 = .ok (.aload_n 0, 1) := by decide +kernel
theorem dX4_init_5 : decode cX4_init 5 = .ok (.bipush 119, 2) := by decide +kernel
theorem dX4_init_7 : decode cX4_init 7 = .ok (.newarray .int, 2) := by decide +kernel
theorem dX4_init_9 : decode cX4_init 9 = .ok (.putfield 11, 3) := by decide +kernel
theorem dX4_init_12 : decode cX4_init 12 = .ok (.aload_n 0, 1) := by decide +kernel
theorem dX4_init_13 : decode cX4_init 13 = .ok (.bipush 119, 2) := by decide +kernel
theorem dX4_init_15 : decode cX4_init 15 = .ok (.newarray .int, 2) := by decide +kernel
theorem dX4_init_17 : decode cX4_init 17 = .ok (.putfield 15, 3) := by decide +kernel
theorem dX4_init_20 : decode cX4_init 20 = .ok (.aload_n 0, 1) := by decide +kernel
theorem dX4_init_21 : decode cX4_init 21 = .ok (.bipush 119, 2) := by decide +kernel
theorem dX4_init_23 : decode cX4_init 23 = .ok (.newarray .double, 2) := by decide +kernel
theorem dX4_init_25 : decode cX4_init 25 = .ok (.putfield 18, 3) := by decide +kernel
theorem dX4_init_28 : decode cX4_init 28 = .ok (.aload_n 0, 1) := by decide +kernel
theorem dX4_init_29 : decode cX4_init 29 = .ok (.bipush 119, 2) := by decide +kernel
theorem dX4_init_31 : decode cX4_init 31 = .ok (.newarray .double, 2) := by decide +kernel
theorem dX4_init_33 : decode cX4_init 33 = .ok (.putfield 22, 3) := by decide +kernel
theorem dX4_init_36 : decode cX4_init 36 = .ok (.aload_n 0, 1) := by decide +kernel
theorem dX4_init_37 : decode cX4_init 37 = .ok (.iconst 3, 1) := by decide +kernel
theorem dX4_init_38 : decode cX4_init 38 = .ok (.iconst 2, 1) := by decide +kernel
theorem dX4_init_39 : decode cX4_init 39 = .ok (.bipush 12, 2) := by decide +kernel
theorem dX4_init_41 : decode cX4_init 41 = .ok (.bipush (-8), 2) := by decide +kernel
theorem dX4_init_43 : decode cX4_init 43 = .ok (.invokevirtual 25, 3) := by decide +kernel
theorem dX4_init_46 : decode cX4_init 46 = .ok (.return_, 1) := by decide +kernel
theorem dX4_setParameters_0 : decode cX4_setParameters 0 = .ok (.aload_n 0, 1) := by decide +kernel
theorem dX4_setParameters_1 : decode cX4_setParameters 1 = .ok (.iload_n 1, 1) := by decide +kernel
theorem dX4_setParameters_2 : decode cX4_setParameters 2 = .ok (.putfield 29, 3) := by decide +kernel
theorem dX4_setParameters_5 : decode cX4_setParameters 5 = .ok (.aload_n 0, 1) := by decide +kernel
theorem dX4_setParameters_6 : decode cX4_setParameters 6 = .ok (.iload_n 2, 1) := by decide +kernel
theorem dX4_setParameters_7 : decode cX4_setParameters 7 = .ok (.putfield 33, 3) := by decide +kernel
theorem dX4_setParameters_10 : decode cX4_setParameters 10 = .ok (.aload_n 0, 1) := by decide +kernel
theorem dX4_setParameters_11 : decode cX4_setParameters 11 = .ok (.iload_n 3, 1) := by decide +kernel
theorem dX4_setParameters_12 : decode cX4_setParameters 12 = .ok (.putfield 36, 3) := by decide +kernel
theorem dX4_setParameters_15 : decode cX4_setParameters 15 = .ok (.aload_n 0, 1) := by decide +kernel
theorem dX4_setParameters_16 : decode cX4_setParameters 16 = .ok (.iload 4, 2) := by decide +kernel
theorem dX4_setParameters_18 : decode cX4_setParameters 18 = .ok (.putfield 39, 3) := by decide +kernel
theorem dX4_setParameters_21 : decode cX4_setParameters 21 = .ok (.aload_n 0, 1) := by decide +kernel
theorem dX4_setParameters_22 : decode cX4_setParameters 22 = .ok (.iload_n 3, 1) := by decide +kernel
theorem dX4_setParameters_23 : decode cX4_setParameters 23 = .ok (.iload 4, 2) := by decide +kernel
theorem dX4_setParameters_25 : decode cX4_setParameters 25 = .ok (.isub, 1) := by decide +kernel
theorem dX4_setParameters_26 : decode cX4_setParameters 26 = .ok (.iconst 1, 1) := by decide +kernel
theorem dX4_setParameters_27 : decode cX4_setParameters 27 = .ok (.isub, 1) := by decide +kernel
theorem dX4_setParameters_28 : decode cX4_setParameters 28 = .ok (.putfield 42, 3) := by decide +kernel
theorem dX4_setParameters_31 : decode cX4_setParameters 31 = .ok (.return_, 1) := by decide +kernel
theorem dX4_after_0 : decode cX4_after 0 = .ok (.iload_n 2, 1) := by decide +kernel
theorem dX4_after_1 : decode cX4_after 1 = .ok (.ifCond .eq 12, 3) := by decide +kernel
theorem dX4_after_4 : decode cX4_after 4 = .ok (.iload_n 1, 1) := by decide +kernel
theorem dX4_after_5 : decode cX4_after 5 = .ok (.aload_n 0, 1) := by decide +kernel
theorem dX4_after_6 : decode cX4_after 6 = .ok (.getfield 33, 3) := by decide +kernel
theorem dX4_after_9 : decode cX4_after 9 = .ok (.isub, 1) := by decide +kernel
theorem dX4_after_10 : decode cX4_after 10 = .ok (.goto 9, 3) := by decide +kernel
theorem dX4_after_13 : decode cX4_after 13 = .ok (.iload_n 1, 1) := by decide +kernel
theorem dX4_after_14 : decode cX4_after 14 = .ok (.aload_n 0, 1) := by decide +kernel
theorem dX4_after_15 : decode cX4_after 15 = .ok (.getfield 29, 3) := by decide +kernel
theorem dX4_after_18 : decode cX4_after 18 = .ok (.iadd, 1) := by decide +kernel
theorem dX4_after_19 : decode cX4_after 19 = .ok (.ireturn, 1) := by decide +kernel
theorem dX4_verdictAt_0 : decode cX4_verdictAt 0 = .ok (.iload_n 1, 1) := by decide +kernel
theorem dX4_verdictAt_1 : decode cX4_verdictAt 1 = .ok (.aload_n 0, 1) := by decide +kernel
theorem dX4_verdictAt_2 : decode cX4_verdictAt 2 = .ok (.getfield 36, 3) := by decide +kernel
theorem dX4_verdictAt_5 : decode cX4_verdictAt 5 = .ok (.if_icmp .lt 5, 3) := by decide +kernel
theorem dX4_verdictAt_8 : decode cX4_verdictAt 8 = .ok (.iconst 1, 1) := by decide +kernel
theorem dX4_verdictAt_9 : decode cX4_verdictAt 9 = .ok (.ireturn, 1) := by decide +kernel
theorem dX4_verdictAt_10 : decode cX4_verdictAt 10 = .ok (.iload_n 1, 1) := by decide +kernel
theorem dX4_verdictAt_11 : decode cX4_verdictAt 11 = .ok (.aload_n 0, 1) := by decide +kernel
theorem dX4_verdictAt_12 : decode cX4_verdictAt 12 = .ok (.getfield 39, 3) := by decide +kernel
theorem dX4_verdictAt_15 : decode cX4_verdictAt 15 = .ok (.if_icmp .gt 7, 3) := by decide +kernel
theorem dX4_verdictAt_18 : decode cX4_verdictAt 18 = .ok (.iconst 2, 1) := by decide +kernel
theorem dX4_verdictAt_19 : decode cX4_verdictAt 19 = .ok (.goto 4, 3) := by decide +kernel
theorem dX4_verdictAt_22 : decode cX4_verdictAt 22 = .ok (.iconst 0, 1) := by decide +kernel
theorem dX4_verdictAt_23 : decode cX4_verdictAt 23 = .ok (.ireturn, 1) := by decide +kernel
theorem dX4_indexOfZero_0 : decode cX4_indexOfZero 0 = .ok (.aload_n 0, 1) := by decide +kernel
theorem dX4_indexOfZero_1 : decode cX4_indexOfZero 1 = .ok (.getfield 39, 3) := by decide +kernel
theorem dX4_indexOfZero_4 : decode cX4_indexOfZero 4 = .ok (.ineg, 1) := by decide +kernel
theorem dX4_indexOfZero_5 : decode cX4_indexOfZero 5 = .ok (.iconst 1, 1) := by decide +kernel
theorem dX4_indexOfZero_6 : decode cX4_indexOfZero 6 = .ok (.isub, 1) := by decide +kernel
theorem dX4_indexOfZero_7 : decode cX4_indexOfZero 7 = .ok (.ireturn, 1) := by decide +kernel
theorem dX4_sequencesWith_0 : decode cX4_sequencesWith 0 = .ok (.aload_n 0, 1) := by decide +kernel
theorem dX4_sequencesWith_1 : decode cX4_sequencesWith 1 = .ok (.getfield 11, 3) := by decide +kernel
theorem dX4_sequencesWith_4 : decode cX4_sequencesWith 4 = .ok (.iconst 0, 1) := by decide +kernel
theorem dX4_sequencesWith_5 : decode cX4_sequencesWith 5 = .ok (.invokestatic 45, 3) := by decide +kernel
theorem dX4_sequencesWith_8 : decode cX4_sequencesWith 8 = .ok (.aload_n 0, 1) := by decide +kernel
theorem dX4_sequencesWith_9 : decode cX4_sequencesWith 9 = .ok (.getfield 11, 3) := by decide +kernel
theorem dX4_sequencesWith_12 : decode cX4_sequencesWith 12 = .ok (.aload_n 0, 1) := by decide +kernel
theorem dX4_sequencesWith_13 : decode cX4_sequencesWith 13 = .ok (.invokevirtual 51, 3) := by decide +kernel
theorem dX4_sequencesWith_16 : decode cX4_sequencesWith 16 = .ok (.iconst 1, 1) := by decide +kernel
theorem dX4_sequencesWith_17 : decode cX4_sequencesWith 17 = .ok (.iastore, 1) := by decide +kernel
theorem dX4_sequencesWith_18 : decode cX4_sequencesWith 18 = .ok (.iconst 0, 1) := by decide +kernel
theorem dX4_sequencesWith_19 : decode cX4_sequencesWith 19 = .ok (.istore_n 3, 1) := by decide +kernel
theorem dX4_sequencesWith_20 : decode cX4_sequencesWith 20 = .ok (.iconst 0, 1) := by decide +kernel
theorem dX4_sequencesWith_21 : decode cX4_sequencesWith 21 = .ok (.istore 4, 2) := by decide +kernel
theorem dX4_sequencesWith_23 : decode cX4_sequencesWith 23 = .ok (.iconst 0, 1) := by decide +kernel
theorem dX4_sequencesWith_24 : decode cX4_sequencesWith 24 = .ok (.istore 5, 2) := by decide +kernel
theorem dX4_sequencesWith_26 : decode cX4_sequencesWith 26 = .ok (.iload 5, 2) := by decide +kernel
theorem dX4_sequencesWith_28 : decode cX4_sequencesWith 28 = .ok (.iload_n 1, 1) := by decide +kernel
theorem dX4_sequencesWith_29 : decode cX4_sequencesWith 29 = .ok (.if_icmp .ge 51, 3) := by decide +kernel
theorem dX4_sequencesWith_32 : decode cX4_sequencesWith 32 = .ok (.iconst 2, 1) := by decide +kernel
theorem dX4_sequencesWith_33 : decode cX4_sequencesWith 33 = .ok (.iload_n 3, 1) := by decide +kernel
theorem dX4_sequencesWith_34 : decode cX4_sequencesWith 34 = .ok (.imul, 1) := by decide +kernel
theorem dX4_sequencesWith_35 : decode cX4_sequencesWith 35 = .ok (.aload_n 0, 1) := by decide +kernel
theorem dX4_sequencesWith_36 : decode cX4_sequencesWith 36 = .ok (.aload_n 0, 1) := by decide +kernel
theorem dX4_sequencesWith_37 : decode cX4_sequencesWith 37 = .ok (.getfield 42, 3) := by decide +kernel
theorem dX4_sequencesWith_40 : decode cX4_sequencesWith 40 = .ok (.aload_n 0, 1) := by decide +kernel
theorem dX4_sequencesWith_41 : decode cX4_sequencesWith 41 = .ok (.getfield 29, 3) := by decide +kernel
theorem dX4_sequencesWith_44 : decode cX4_sequencesWith 44 = .ok (.isub, 1) := by decide +kernel
theorem dX4_sequencesWith_45 : decode cX4_sequencesWith 45 = .ok (.aload_n 0, 1) := by decide +kernel
theorem dX4_sequencesWith_46 : decode cX4_sequencesWith 46 = .ok (.getfield 42, 3) := by decide +kernel
theorem dX4_sequencesWith_49 : decode cX4_sequencesWith 49 = .ok (.invokevirtual 55, 3) := by decide +kernel
theorem dX4_sequencesWith_52 : decode cX4_sequencesWith 52 = .ok (.iadd, 1) := by decide +kernel
theorem dX4_sequencesWith_53 : decode cX4_sequencesWith 53 = .ok (.istore_n 3, 1) := by decide +kernel
theorem dX4_sequencesWith_54 : decode cX4_sequencesWith 54 = .ok (.iconst 2, 1) := by decide +kernel
theorem dX4_sequencesWith_55 : decode cX4_sequencesWith 55 = .ok (.iload 4, 2) := by decide +kernel
theorem dX4_sequencesWith_57 : decode cX4_sequencesWith 57 = .ok (.imul, 1) := by decide +kernel
theorem dX4_sequencesWith_58 : decode cX4_sequencesWith 58 = .ok (.aload_n 0, 1) := by decide +kernel
theorem dX4_sequencesWith_59 : decode cX4_sequencesWith 59 = .ok (.iconst 0, 1) := by decide +kernel
theorem dX4_sequencesWith_60 : decode cX4_sequencesWith 60 = .ok (.aload_n 0, 1) := by decide +kernel
theorem dX4_sequencesWith_61 : decode cX4_sequencesWith 61 = .ok (.getfield 33, 3) := by decide +kernel
theorem dX4_sequencesWith_64 : decode cX4_sequencesWith 64 = .ok (.invokevirtual 55, 3) := by decide +kernel
theorem dX4_sequencesWith_67 : decode cX4_sequencesWith 67 = .ok (.iadd, 1) := by decide +kernel
theorem dX4_sequencesWith_68 : decode cX4_sequencesWith 68 = .ok (.istore 4, 2) := by decide +kernel
theorem dX4_sequencesWith_70 : decode cX4_sequencesWith 70 = .ok (.aload_n 0, 1) := by decide +kernel
theorem dX4_sequencesWith_71 : decode cX4_sequencesWith 71 = .ok (.invokevirtual 59, 3) := by decide +kernel
theorem dX4_sequencesWith_74 : decode cX4_sequencesWith 74 = .ok (.iinc 5 1, 3) := by decide +kernel
theorem dX4_sequencesWith_77 : decode cX4_sequencesWith 77 = .ok (.goto (-51), 3) := by decide +kernel
theorem dX4_sequencesWith_80 : decode cX4_sequencesWith 80 = .ok (.iload_n 2, 1) := by decide +kernel
theorem dX4_sequencesWith_81 : decode cX4_sequencesWith 81 = .ok (.iconst 1, 1) := by decide +kernel
theorem dX4_sequencesWith_82 : decode cX4_sequencesWith 82 = .ok (.if_icmp .ne 5, 3) := by decide +kernel
theorem dX4_sequencesWith_85 : decode cX4_sequencesWith 85 = .ok (.iload_n 3, 1) := by decide +kernel
theorem dX4_sequencesWith_86 : decode cX4_sequencesWith 86 = .ok (.ireturn, 1) := by decide +kernel
theorem dX4_sequencesWith_87 : decode cX4_sequencesWith 87 = .ok (.iload_n 2, 1) := by decide +kernel
theorem dX4_sequencesWith_88 : decode cX4_sequencesWith 88 = .ok (.iconst 2, 1) := by decide +kernel
theorem dX4_sequencesWith_89 : decode cX4_sequencesWith 89 = .ok (.if_icmp .ne 8, 3) := by decide +kernel
theorem dX4_sequencesWith_92 : decode cX4_sequencesWith 92 = .ok (.iload 4, 2) := by decide +kernel
theorem dX4_sequencesWith_94 : decode cX4_sequencesWith 94 = .ok (.goto 12, 3) := by decide +kernel
theorem dX4_sequencesWith_97 : decode cX4_sequencesWith 97 = .ok (.aload_n 0, 1) := by decide +kernel
theorem dX4_sequencesWith_98 : decode cX4_sequencesWith 98 = .ok (.iconst 0, 1) := by decide +kernel
theorem dX4_sequencesWith_99 : decode cX4_sequencesWith 99 = .ok (.aload_n 0, 1) := by decide +kernel
theorem dX4_sequencesWith_100 : decode cX4_sequencesWith 100 = .ok (.getfield 42, 3) := by decide +kernel
theorem dX4_sequencesWith_103 : decode cX4_sequencesWith 103 = .ok (.invokevirtual 55, 3) := by decide +kernel
theorem dX4_sequencesWith_106 : decode cX4_sequencesWith 106 = .ok (.ireturn, 1) := by decide +kernel
theorem dX4_sumOfCounts_0 : decode cX4_sumOfCounts 0 = .ok (.iconst 0, 1) := by decide +kernel
theorem dX4_sumOfCounts_1 : decode cX4_sumOfCounts 1 = .ok (.istore_n 3, 1) := by decide +kernel
theorem dX4_sumOfCounts_2 : decode cX4_sumOfCounts 2 = .ok (.iload_n 1, 1) := by decide +kernel
theorem dX4_sumOfCounts_3 : decode cX4_sumOfCounts 3 = .ok (.iconst 0, 1) := by decide +kernel
theorem dX4_sumOfCounts_4 : decode cX4_sumOfCounts 4 = .ok (.invokestatic 62, 3) := by decide +kernel
theorem dX4_sumOfCounts_7 : decode cX4_sumOfCounts 7 = .ok (.istore 4, 2) := by decide +kernel
theorem dX4_sumOfCounts_9 : decode cX4_sumOfCounts 9 = .ok (.iload 4, 2) := by decide +kernel
theorem dX4_sumOfCounts_11 : decode cX4_sumOfCounts 11 = .ok (.iload_n 2, 1) := by decide +kernel
theorem dX4_sumOfCounts_12 : decode cX4_sumOfCounts 12 = .ok (.aload_n 0, 1) := by decide +kernel
theorem dX4_sumOfCounts_13 : decode cX4_sumOfCounts 13 = .ok (.getfield 42, 3) := by decide +kernel
theorem dX4_sumOfCounts_16 : decode cX4_sumOfCounts 16 = .ok (.invokestatic 67, 3) := by decide +kernel
theorem dX4_sumOfCounts_19 : decode cX4_sumOfCounts 19 = .ok (.if_icmp .ge 19, 3) := by decide +kernel
theorem dX4_sumOfCounts_22 : decode cX4_sumOfCounts 22 = .ok (.iload_n 3, 1) := by decide +kernel
theorem dX4_sumOfCounts_23 : decode cX4_sumOfCounts 23 = .ok (.aload_n 0, 1) := by decide +kernel
theorem dX4_sumOfCounts_24 : decode cX4_sumOfCounts 24 = .ok (.getfield 11, 3) := by decide +kernel
theorem dX4_sumOfCounts_27 : decode cX4_sumOfCounts 27 = .ok (.iload 4, 2) := by decide +kernel
theorem dX4_sumOfCounts_29 : decode cX4_sumOfCounts 29 = .ok (.iaload, 1) := by decide +kernel
theorem dX4_sumOfCounts_30 : decode cX4_sumOfCounts 30 = .ok (.iadd, 1) := by decide +kernel
theorem dX4_sumOfCounts_31 : decode cX4_sumOfCounts 31 = .ok (.istore_n 3, 1) := by decide +kernel
theorem dX4_sumOfCounts_32 : decode cX4_sumOfCounts 32 = .ok (.iinc 4 1, 3) := by decide +kernel
theorem dX4_sumOfCounts_35 : decode cX4_sumOfCounts 35 = .ok (.goto (-26), 3) := by decide +kernel
theorem dX4_sumOfCounts_38 : decode cX4_sumOfCounts 38 = .ok (.iload_n 3, 1) := by decide +kernel
theorem dX4_sumOfCounts_39 : decode cX4_sumOfCounts 39 = .ok (.ireturn, 1) := by decide +kernel
theorem dX4_stepCounts_0 : decode cX4_stepCounts 0 = .ok (.aload_n 0, 1) := by decide +kernel
theorem dX4_stepCounts_1 : decode cX4_stepCounts 1 = .ok (.getfield 15, 3) := by decide +kernel
theorem dX4_stepCounts_4 : decode cX4_stepCounts 4 = .ok (.astore_n 1, 1) := by decide +kernel
theorem dX4_stepCounts_5 : decode cX4_stepCounts 5 = .ok (.aload_n 1, 1) := by decide +kernel
theorem dX4_stepCounts_6 : decode cX4_stepCounts 6 = .ok (.iconst 0, 1) := by decide +kernel
theorem dX4_stepCounts_7 : decode cX4_stepCounts 7 = .ok (.invokestatic 45, 3) := by decide +kernel
theorem dX4_stepCounts_10 : decode cX4_stepCounts 10 = .ok (.iconst 0, 1) := by decide +kernel
theorem dX4_stepCounts_11 : decode cX4_stepCounts 11 = .ok (.istore_n 2, 1) := by decide +kernel
theorem dX4_stepCounts_12 : decode cX4_stepCounts 12 = .ok (.iload_n 2, 1) := by decide +kernel
theorem dX4_stepCounts_13 : decode cX4_stepCounts 13 = .ok (.aload_n 0, 1) := by decide +kernel
theorem dX4_stepCounts_14 : decode cX4_stepCounts 14 = .ok (.getfield 42, 3) := by decide +kernel
theorem dX4_stepCounts_17 : decode cX4_stepCounts 17 = .ok (.if_icmp .ge 65, 3) := by decide +kernel
theorem dX4_stepCounts_20 : decode cX4_stepCounts 20 = .ok (.iload_n 2, 1) := by decide +kernel
theorem dX4_stepCounts_21 : decode cX4_stepCounts 21 = .ok (.aload_n 0, 1) := by decide +kernel
theorem dX4_stepCounts_22 : decode cX4_stepCounts 22 = .ok (.getfield 29, 3) := by decide +kernel
theorem dX4_stepCounts_25 : decode cX4_stepCounts 25 = .ok (.iadd, 1) := by decide +kernel
theorem dX4_stepCounts_26 : decode cX4_stepCounts 26 = .ok (.aload_n 0, 1) := by decide +kernel
theorem dX4_stepCounts_27 : decode cX4_stepCounts 27 = .ok (.getfield 42, 3) := by decide +kernel
theorem dX4_stepCounts_30 : decode cX4_stepCounts 30 = .ok (.if_icmp .ge 20, 3) := by decide +kernel
theorem dX4_stepCounts_33 : decode cX4_stepCounts 33 = .ok (.aload_n 1, 1) := by decide +kernel
theorem dX4_stepCounts_34 : decode cX4_stepCounts 34 = .ok (.iload_n 2, 1) := by decide +kernel
theorem dX4_stepCounts_35 : decode cX4_stepCounts 35 = .ok (.aload_n 0, 1) := by decide +kernel
theorem dX4_stepCounts_36 : decode cX4_stepCounts 36 = .ok (.getfield 29, 3) := by decide +kernel
theorem dX4_stepCounts_39 : decode cX4_stepCounts 39 = .ok (.iadd, 1) := by decide +kernel
theorem dX4_stepCounts_40 : decode cX4_stepCounts 40 = .ok (.dup2, 1) := by decide +kernel
theorem dX4_stepCounts_41 : decode cX4_stepCounts 41 = .ok (.iaload, 1) := by decide +kernel
theorem dX4_stepCounts_42 : decode cX4_stepCounts 42 = .ok (.aload_n 0, 1) := by decide +kernel
theorem dX4_stepCounts_43 : decode cX4_stepCounts 43 = .ok (.getfield 11, 3) := by decide +kernel
theorem dX4_stepCounts_46 : decode cX4_stepCounts 46 = .ok (.iload_n 2, 1) := by decide +kernel
theorem dX4_stepCounts_47 : decode cX4_stepCounts 47 = .ok (.iaload, 1) := by decide +kernel
theorem dX4_stepCounts_48 : decode cX4_stepCounts 48 = .ok (.iadd, 1) := by decide +kernel
theorem dX4_stepCounts_49 : decode cX4_stepCounts 49 = .ok (.iastore, 1) := by decide +kernel
theorem dX4_stepCounts_50 : decode cX4_stepCounts 50 = .ok (.iload_n 2, 1) := by decide +kernel
theorem dX4_stepCounts_51 : decode cX4_stepCounts 51 = .ok (.aload_n 0, 1) := by decide +kernel
theorem dX4_stepCounts_52 : decode cX4_stepCounts 52 = .ok (.getfield 33, 3) := by decide +kernel
theorem dX4_stepCounts_55 : decode cX4_stepCounts 55 = .ok (.isub, 1) := by decide +kernel
theorem dX4_stepCounts_56 : decode cX4_stepCounts 56 = .ok (.ifCond .lt 20, 3) := by decide +kernel
theorem dX4_stepCounts_59 : decode cX4_stepCounts 59 = .ok (.aload_n 1, 1) := by decide +kernel
theorem dX4_stepCounts_60 : decode cX4_stepCounts 60 = .ok (.iload_n 2, 1) := by decide +kernel
theorem dX4_stepCounts_61 : decode cX4_stepCounts 61 = .ok (.aload_n 0, 1) := by decide +kernel
theorem dX4_stepCounts_62 : decode cX4_stepCounts 62 = .ok (.getfield 33, 3) := by decide +kernel
theorem dX4_stepCounts_65 : decode cX4_stepCounts 65 = .ok (.isub, 1) := by decide +kernel
theorem dX4_stepCounts_66 : decode cX4_stepCounts 66 = .ok (.dup2, 1) := by decide +kernel
theorem dX4_stepCounts_67 : decode cX4_stepCounts 67 = .ok (.iaload, 1) := by decide +kernel
theorem dX4_stepCounts_68 : decode cX4_stepCounts 68 = .ok (.aload_n 0, 1) := by decide +kernel
theorem dX4_stepCounts_69 : decode cX4_stepCounts 69 = .ok (.getfield 11, 3) := by decide +kernel
theorem dX4_stepCounts_72 : decode cX4_stepCounts 72 = .ok (.iload_n 2, 1) := by decide +kernel
theorem dX4_stepCounts_73 : decode cX4_stepCounts 73 = .ok (.iaload, 1) := by decide +kernel
theorem dX4_stepCounts_74 : decode cX4_stepCounts 74 = .ok (.iadd, 1) := by decide +kernel
theorem dX4_stepCounts_75 : decode cX4_stepCounts 75 = .ok (.iastore, 1) := by decide +kernel
theorem dX4_stepCounts_76 : decode cX4_stepCounts 76 = .ok (.iinc 2 1, 3) := by decide +kernel
theorem dX4_stepCounts_79 : decode cX4_stepCounts 79 = .ok (.goto (-67), 3) := by decide +kernel
theorem dX4_stepCounts_82 : decode cX4_stepCounts 82 = .ok (.aload_n 0, 1) := by decide +kernel
theorem dX4_stepCounts_83 : decode cX4_stepCounts 83 = .ok (.aload_n 0, 1) := by decide +kernel
theorem dX4_stepCounts_84 : decode cX4_stepCounts 84 = .ok (.getfield 11, 3) := by decide +kernel
theorem dX4_stepCounts_87 : decode cX4_stepCounts 87 = .ok (.putfield 15, 3) := by decide +kernel
theorem dX4_stepCounts_90 : decode cX4_stepCounts 90 = .ok (.aload_n 0, 1) := by decide +kernel
theorem dX4_stepCounts_91 : decode cX4_stepCounts 91 = .ok (.aload_n 1, 1) := by decide +kernel
theorem dX4_stepCounts_92 : decode cX4_stepCounts 92 = .ok (.putfield 11, 3) := by decide +kernel
theorem dX4_stepCounts_95 : decode cX4_stepCounts 95 = .ok (.return_, 1) := by decide +kernel
theorem dX4_chanceOfScanner_0 : decode cX4_chanceOfScanner 0 = .ok (.aload_n 0, 1) := by decide +kernel
theorem dX4_chanceOfScanner_1 : decode cX4_chanceOfScanner 1 = .ok (.invokevirtual 70, 3) := by decide +kernel
theorem dX4_chanceOfScanner_4 : decode cX4_chanceOfScanner 4 = .ok (.dconst 0, 1) := by decide +kernel
theorem dX4_chanceOfScanner_5 : decode cX4_chanceOfScanner 5 = .ok (.dstore 4, 2) := by decide +kernel
theorem dX4_chanceOfScanner_7 : decode cX4_chanceOfScanner 7 = .ok (.iconst 0, 1) := by decide +kernel
theorem dX4_chanceOfScanner_8 : decode cX4_chanceOfScanner 8 = .ok (.istore 6, 2) := by decide +kernel
theorem dX4_chanceOfScanner_10 : decode cX4_chanceOfScanner 10 = .ok (.iload 6, 2) := by decide +kernel
theorem dX4_chanceOfScanner_12 : decode cX4_chanceOfScanner 12 = .ok (.iload_n 3, 1) := by decide +kernel
theorem dX4_chanceOfScanner_13 : decode cX4_chanceOfScanner 13 = .ok (.if_icmp .ge 18, 3) := by decide +kernel
theorem dX4_chanceOfScanner_16 : decode cX4_chanceOfScanner 16 = .ok (.aload_n 0, 1) := by decide +kernel
theorem dX4_chanceOfScanner_17 : decode cX4_chanceOfScanner 17 = .ok (.dload_n 1, 1) := by decide +kernel
theorem dX4_chanceOfScanner_18 : decode cX4_chanceOfScanner 18 = .ok (.dload 4, 2) := by decide +kernel
theorem dX4_chanceOfScanner_20 : decode cX4_chanceOfScanner 20 = .ok (.invokevirtual 73, 3) := by decide +kernel
theorem dX4_chanceOfScanner_23 : decode cX4_chanceOfScanner 23 = .ok (.dstore 4, 2) := by decide +kernel
theorem dX4_chanceOfScanner_25 : decode cX4_chanceOfScanner 25 = .ok (.iinc 6 1, 3) := by decide +kernel
theorem dX4_chanceOfScanner_28 : decode cX4_chanceOfScanner 28 = .ok (.goto (-18), 3) := by decide +kernel
theorem dX4_chanceOfScanner_31 : decode cX4_chanceOfScanner 31 = .ok (.dload 4, 2) := by decide +kernel
theorem dX4_chanceOfScanner_33 : decode cX4_chanceOfScanner 33 = .ok (.dreturn, 1) := by decide +kernel
theorem dX4_meanContacts_0 : decode cX4_meanContacts 0 = .ok (.aload_n 0, 1) := by decide +kernel
theorem dX4_meanContacts_1 : decode cX4_meanContacts 1 = .ok (.invokevirtual 70, 3) := by decide +kernel
theorem dX4_meanContacts_4 : decode cX4_meanContacts 4 = .ok (.dconst 0, 1) := by decide +kernel
theorem dX4_meanContacts_5 : decode cX4_meanContacts 5 = .ok (.dstore 4, 2) := by decide +kernel
theorem dX4_meanContacts_7 : decode cX4_meanContacts 7 = .ok (.iconst 0, 1) := by decide +kernel
theorem dX4_meanContacts_8 : decode cX4_meanContacts 8 = .ok (.istore 6, 2) := by decide +kernel
theorem dX4_meanContacts_10 : decode cX4_meanContacts 10 = .ok (.iload 6, 2) := by decide +kernel
theorem dX4_meanContacts_12 : decode cX4_meanContacts 12 = .ok (.iload_n 3, 1) := by decide +kernel
theorem dX4_meanContacts_13 : decode cX4_meanContacts 13 = .ok (.if_icmp .ge 25, 3) := by decide +kernel
theorem dX4_meanContacts_16 : decode cX4_meanContacts 16 = .ok (.dload 4, 2) := by decide +kernel
theorem dX4_meanContacts_18 : decode cX4_meanContacts 18 = .ok (.aload_n 0, 1) := by decide +kernel
theorem dX4_meanContacts_19 : decode cX4_meanContacts 19 = .ok (.invokevirtual 77, 3) := by decide +kernel
theorem dX4_meanContacts_22 : decode cX4_meanContacts 22 = .ok (.dadd, 1) := by decide +kernel
theorem dX4_meanContacts_23 : decode cX4_meanContacts 23 = .ok (.dstore 4, 2) := by decide +kernel
theorem dX4_meanContacts_25 : decode cX4_meanContacts 25 = .ok (.aload_n 0, 1) := by decide +kernel
theorem dX4_meanContacts_26 : decode cX4_meanContacts 26 = .ok (.dload_n 1, 1) := by decide +kernel
theorem dX4_meanContacts_27 : decode cX4_meanContacts 27 = .ok (.dconst 0, 1) := by decide +kernel
theorem dX4_meanContacts_28 : decode cX4_meanContacts 28 = .ok (.invokevirtual 73, 3) := by decide +kernel
theorem dX4_meanContacts_31 : decode cX4_meanContacts 31 = .ok (.pop2, 1) := by decide +kernel
theorem dX4_meanContacts_32 : decode cX4_meanContacts 32 = .ok (.iinc 6 1, 3) := by decide +kernel
theorem dX4_meanContacts_35 : decode cX4_meanContacts 35 = .ok (.goto (-25), 3) := by decide +kernel
theorem dX4_meanContacts_38 : decode cX4_meanContacts 38 = .ok (.dload 4, 2) := by decide +kernel
theorem dX4_meanContacts_40 : decode cX4_meanContacts 40 = .ok (.dreturn, 1) := by decide +kernel
theorem dX4_startChances_0 : decode cX4_startChances 0 = .ok (.aload_n 0, 1) := by decide +kernel
theorem dX4_startChances_1 : decode cX4_startChances 1 = .ok (.getfield 18, 3) := by decide +kernel
theorem dX4_startChances_4 : decode cX4_startChances 4 = .ok (.dconst 0, 1) := by decide +kernel
theorem dX4_startChances_5 : decode cX4_startChances 5 = .ok (.invokestatic 81, 3) := by decide +kernel
theorem dX4_startChances_8 : decode cX4_startChances 8 = .ok (.aload_n 0, 1) := by decide +kernel
theorem dX4_startChances_9 : decode cX4_startChances 9 = .ok (.getfield 18, 3) := by decide +kernel
theorem dX4_startChances_12 : decode cX4_startChances 12 = .ok (.aload_n 0, 1) := by decide +kernel
theorem dX4_startChances_13 : decode cX4_startChances 13 = .ok (.invokevirtual 51, 3) := by decide +kernel
theorem dX4_startChances_16 : decode cX4_startChances 16 = .ok (.dconst 1, 1) := by decide +kernel
theorem dX4_startChances_17 : decode cX4_startChances 17 = .ok (.dastore, 1) := by decide +kernel
theorem dX4_startChances_18 : decode cX4_startChances 18 = .ok (.return_, 1) := by decide +kernel
theorem dX4_sumOfChances_0 : decode cX4_sumOfChances 0 = .ok (.dconst 0, 1) := by decide +kernel
theorem dX4_sumOfChances_1 : decode cX4_sumOfChances 1 = .ok (.dstore_n 1, 1) := by decide +kernel
theorem dX4_sumOfChances_2 : decode cX4_sumOfChances 2 = .ok (.iconst 0, 1) := by decide +kernel
theorem dX4_sumOfChances_3 : decode cX4_sumOfChances 3 = .ok (.istore_n 3, 1) := by decide +kernel
theorem dX4_sumOfChances_4 : decode cX4_sumOfChances 4 = .ok (.iload_n 3, 1) := by decide +kernel
theorem dX4_sumOfChances_5 : decode cX4_sumOfChances 5 = .ok (.aload_n 0, 1) := by decide +kernel
theorem dX4_sumOfChances_6 : decode cX4_sumOfChances 6 = .ok (.getfield 42, 3) := by decide +kernel
theorem dX4_sumOfChances_9 : decode cX4_sumOfChances 9 = .ok (.if_icmp .ge 18, 3) := by decide +kernel
theorem dX4_sumOfChances_12 : decode cX4_sumOfChances 12 = .ok (.dload_n 1, 1) := by decide +kernel
theorem dX4_sumOfChances_13 : decode cX4_sumOfChances 13 = .ok (.aload_n 0, 1) := by decide +kernel
theorem dX4_sumOfChances_14 : decode cX4_sumOfChances 14 = .ok (.getfield 18, 3) := by decide +kernel
theorem dX4_sumOfChances_17 : decode cX4_sumOfChances 17 = .ok (.iload_n 3, 1) := by decide +kernel
theorem dX4_sumOfChances_18 : decode cX4_sumOfChances 18 = .ok (.daload, 1) := by decide +kernel
theorem dX4_sumOfChances_19 : decode cX4_sumOfChances 19 = .ok (.dadd, 1) := by decide +kernel
theorem dX4_sumOfChances_20 : decode cX4_sumOfChances 20 = .ok (.dstore_n 1, 1) := by decide +kernel
theorem dX4_sumOfChances_21 : decode cX4_sumOfChances 21 = .ok (.iinc 3 1, 3) := by decide +kernel
theorem dX4_sumOfChances_24 : decode cX4_sumOfChances 24 = .ok (.goto (-20), 3) := by decide +kernel
theorem dX4_sumOfChances_27 : decode cX4_sumOfChances 27 = .ok (.dload_n 1, 1) := by decide +kernel
theorem dX4_sumOfChances_28 : decode cX4_sumOfChances 28 = .ok (.dreturn, 1) := by decide +kernel
theorem dX4_stepChances_0 : decode cX4_stepChances 0 = .ok (.dconst 1, 1) := by decide +kernel
theorem dX4_stepChances_1 : decode cX4_stepChances 1 = .ok (.dload_n 1, 1) := by decide +kernel
theorem dX4_stepChances_2 : decode cX4_stepChances 2 = .ok (.dsub, 1) := by decide +kernel
theorem dX4_stepChances_3 : decode cX4_stepChances 3 = .ok (.dstore 5, 2) := by decide +kernel
theorem dX4_stepChances_5 : decode cX4_stepChances 5 = .ok (.dload_n 3, 1) := by decide +kernel
theorem dX4_stepChances_6 : decode cX4_stepChances 6 = .ok (.dstore 7, 2) := by decide +kernel
theorem dX4_stepChances_8 : decode cX4_stepChances 8 = .ok (.aload_n 0, 1) := by decide +kernel
theorem dX4_stepChances_9 : decode cX4_stepChances 9 = .ok (.getfield 22, 3) := by decide +kernel
theorem dX4_stepChances_12 : decode cX4_stepChances 12 = .ok (.astore 9, 2) := by decide +kernel
theorem dX4_stepChances_14 : decode cX4_stepChances 14 = .ok (.aload 9, 2) := by decide +kernel
theorem dX4_stepChances_16 : decode cX4_stepChances 16 = .ok (.dconst 0, 1) := by decide +kernel
theorem dX4_stepChances_17 : decode cX4_stepChances 17 = .ok (.invokestatic 81, 3) := by decide +kernel
theorem dX4_stepChances_20 : decode cX4_stepChances 20 = .ok (.iconst 0, 1) := by decide +kernel
theorem dX4_stepChances_21 : decode cX4_stepChances 21 = .ok (.istore 10, 2) := by decide +kernel
theorem dX4_stepChances_23 : decode cX4_stepChances 23 = .ok (.iload 10, 2) := by decide +kernel
theorem dX4_stepChances_25 : decode cX4_stepChances 25 = .ok (.aload_n 0, 1) := by decide +kernel
theorem dX4_stepChances_26 : decode cX4_stepChances 26 = .ok (.getfield 42, 3) := by decide +kernel
theorem dX4_stepChances_29 : decode cX4_stepChances 29 = .ok (.if_icmp .ge 96, 3) := by decide +kernel
theorem dX4_stepChances_32 : decode cX4_stepChances 32 = .ok (.iload 10, 2) := by decide +kernel
theorem dX4_stepChances_34 : decode cX4_stepChances 34 = .ok (.aload_n 0, 1) := by decide +kernel
theorem dX4_stepChances_35 : decode cX4_stepChances 35 = .ok (.getfield 29, 3) := by decide +kernel
theorem dX4_stepChances_38 : decode cX4_stepChances 38 = .ok (.iadd, 1) := by decide +kernel
theorem dX4_stepChances_39 : decode cX4_stepChances 39 = .ok (.aload_n 0, 1) := by decide +kernel
theorem dX4_stepChances_40 : decode cX4_stepChances 40 = .ok (.getfield 42, 3) := by decide +kernel
theorem dX4_stepChances_43 : decode cX4_stepChances 43 = .ok (.if_icmp .lt 21, 3) := by decide +kernel
theorem dX4_stepChances_46 : decode cX4_stepChances 46 = .ok (.dload 7, 2) := by decide +kernel
theorem dX4_stepChances_48 : decode cX4_stepChances 48 = .ok (.aload_n 0, 1) := by decide +kernel
theorem dX4_stepChances_49 : decode cX4_stepChances 49 = .ok (.getfield 18, 3) := by decide +kernel
theorem dX4_stepChances_52 : decode cX4_stepChances 52 = .ok (.iload 10, 2) := by decide +kernel
theorem dX4_stepChances_54 : decode cX4_stepChances 54 = .ok (.daload, 1) := by decide +kernel
theorem dX4_stepChances_55 : decode cX4_stepChances 55 = .ok (.dload 5, 2) := by decide +kernel
theorem dX4_stepChances_57 : decode cX4_stepChances 57 = .ok (.dmul, 1) := by decide +kernel
theorem dX4_stepChances_58 : decode cX4_stepChances 58 = .ok (.dadd, 1) := by decide +kernel
theorem dX4_stepChances_59 : decode cX4_stepChances 59 = .ok (.dstore 7, 2) := by decide +kernel
theorem dX4_stepChances_61 : decode cX4_stepChances 61 = .ok (.goto 26, 3) := by decide +kernel
theorem dX4_stepChances_64 : decode cX4_stepChances 64 = .ok (.aload 9, 2) := by decide +kernel
theorem dX4_stepChances_66 : decode cX4_stepChances 66 = .ok (.iload 10, 2) := by decide +kernel
theorem dX4_stepChances_68 : decode cX4_stepChances 68 = .ok (.aload_n 0, 1) := by decide +kernel
theorem dX4_stepChances_69 : decode cX4_stepChances 69 = .ok (.getfield 29, 3) := by decide +kernel
theorem dX4_stepChances_72 : decode cX4_stepChances 72 = .ok (.iadd, 1) := by decide +kernel
theorem dX4_stepChances_73 : decode cX4_stepChances 73 = .ok (.dup2, 1) := by decide +kernel
theorem dX4_stepChances_74 : decode cX4_stepChances 74 = .ok (.daload, 1) := by decide +kernel
theorem dX4_stepChances_75 : decode cX4_stepChances 75 = .ok (.aload_n 0, 1) := by decide +kernel
theorem dX4_stepChances_76 : decode cX4_stepChances 76 = .ok (.getfield 18, 3) := by decide +kernel
theorem dX4_stepChances_79 : decode cX4_stepChances 79 = .ok (.iload 10, 2) := by decide +kernel
theorem dX4_stepChances_81 : decode cX4_stepChances 81 = .ok (.daload, 1) := by decide +kernel
theorem dX4_stepChances_82 : decode cX4_stepChances 82 = .ok (.dload 5, 2) := by decide +kernel
theorem dX4_stepChances_84 : decode cX4_stepChances 84 = .ok (.dmul, 1) := by decide +kernel
theorem dX4_stepChances_85 : decode cX4_stepChances 85 = .ok (.dadd, 1) := by decide +kernel
theorem dX4_stepChances_86 : decode cX4_stepChances 86 = .ok (.dastore, 1) := by decide +kernel
theorem dX4_stepChances_87 : decode cX4_stepChances 87 = .ok (.iload 10, 2) := by decide +kernel
theorem dX4_stepChances_89 : decode cX4_stepChances 89 = .ok (.aload_n 0, 1) := by decide +kernel
theorem dX4_stepChances_90 : decode cX4_stepChances 90 = .ok (.getfield 33, 3) := by decide +kernel
theorem dX4_stepChances_93 : decode cX4_stepChances 93 = .ok (.isub, 1) := by decide +kernel
theorem dX4_stepChances_94 : decode cX4_stepChances 94 = .ok (.ifCond .lt 25, 3) := by decide +kernel
theorem dX4_stepChances_97 : decode cX4_stepChances 97 = .ok (.aload 9, 2) := by decide +kernel
theorem dX4_stepChances_99 : decode cX4_stepChances 99 = .ok (.iload 10, 2) := by decide +kernel
theorem dX4_stepChances_101 : decode cX4_stepChances 101 = .ok (.aload_n 0, 1) := by decide +kernel
theorem dX4_stepChances_102 : decode cX4_stepChances 102 = .ok (.getfield 33, 3) := by decide +kernel
theorem dX4_stepChances_105 : decode cX4_stepChances 105 = .ok (.isub, 1) := by decide +kernel
theorem dX4_stepChances_106 : decode cX4_stepChances 106 = .ok (.dup2, 1) := by decide +kernel
theorem dX4_stepChances_107 : decode cX4_stepChances 107 = .ok (.daload, 1) := by decide +kernel
theorem dX4_stepChances_108 : decode cX4_stepChances 108 = .ok (.aload_n 0, 1) := by decide +kernel
theorem dX4_stepChances_109 : decode cX4_stepChances 109 = .ok (.getfield 18, 3) := by decide +kernel
theorem dX4_stepChances_112 : decode cX4_stepChances 112 = .ok (.iload 10, 2) := by decide +kernel
theorem dX4_stepChances_114 : decode cX4_stepChances 114 = .ok (.daload, 1) := by decide +kernel
theorem dX4_stepChances_115 : decode cX4_stepChances 115 = .ok (.dload_n 1, 1) := by decide +kernel
theorem dX4_stepChances_116 : decode cX4_stepChances 116 = .ok (.dmul, 1) := by decide +kernel
theorem dX4_stepChances_117 : decode cX4_stepChances 117 = .ok (.dadd, 1) := by decide +kernel
theorem dX4_stepChances_118 : decode cX4_stepChances 118 = .ok (.dastore, 1) := by decide +kernel
theorem dX4_stepChances_119 : decode cX4_stepChances 119 = .ok (.iinc 10 1, 3) := by decide +kernel
theorem dX4_stepChances_122 : decode cX4_stepChances 122 = .ok (.goto (-99), 3) := by decide +kernel
theorem dX4_stepChances_125 : decode cX4_stepChances 125 = .ok (.aload_n 0, 1) := by decide +kernel
theorem dX4_stepChances_126 : decode cX4_stepChances 126 = .ok (.aload_n 0, 1) := by decide +kernel
theorem dX4_stepChances_127 : decode cX4_stepChances 127 = .ok (.getfield 18, 3) := by decide +kernel
theorem dX4_stepChances_130 : decode cX4_stepChances 130 = .ok (.putfield 22, 3) := by decide +kernel
theorem dX4_stepChances_133 : decode cX4_stepChances 133 = .ok (.aload_n 0, 1) := by decide +kernel
theorem dX4_stepChances_134 : decode cX4_stepChances 134 = .ok (.aload 9, 2) := by decide +kernel
theorem dX4_stepChances_136 : decode cX4_stepChances 136 = .ok (.putfield 18, 3) := by decide +kernel
theorem dX4_stepChances_139 : decode cX4_stepChances 139 = .ok (.dload 7, 2) := by decide +kernel
theorem dX4_stepChances_141 : decode cX4_stepChances 141 = .ok (.dreturn, 1) := by decide +kernel
theorem dX5_init_0 : decode cX5_init 0 = .ok (.aload_n 0, 1) := by decide +kernel
theorem dX5_init_1 : decode cX5_init 1 = .ok (.invokespecial 1, 3) := by decide +kernel
theorem dX5_init_4 : decode cX5_init 4 = .ok (.aload_n 0, 1) := by decide +kernel
theorem dX5_init_5 : decode cX5_init 5 = .ok (.bipush 8, 2) := by decide +kernel
theorem dX5_init_7 : decode cX5_init 7 = .ok (.anewarray 9, 3) := by decide +kernel
theorem dX5_init_10 : decode cX5_init 10 = .ok (.putfield 11, 3) := by decide +kernel
theorem dX5_init_13 : decode cX5_init 13 = .ok (.iconst 0, 1) := by decide +kernel
theorem dX5_init_14 : decode cX5_init 14 = .ok (.istore_n 1, 1) := by decide +kernel
theorem dX5_init_15 : decode cX5_init 15 = .ok (.iload_n 1, 1) := by decide +kernel
theorem dX5_init_16 : decode cX5_init 16 = .ok (.aload_n 0, 1) := by decide +kernel
theorem dX5_init_17 : decode cX5_init 17 = .ok (.getfield 11, 3) := by decide +kernel
theorem dX5_init_20 : decode cX5_init 20 = .ok (.arraylength, 1) := by decide +kernel
theorem dX5_init_21 : decode cX5_init 21 = .ok (.if_icmp .ge 22, 3) := by decide +kernel
theorem dX5_init_24 : decode cX5_init 24 = .ok (.aload_n 0, 1) := by decide +kernel
theorem dX5_init_25 : decode cX5_init 25 = .ok (.getfield 11, 3) := by decide +kernel
theorem dX5_init_28 : decode cX5_init 28 = .ok (.iload_n 1, 1) := by decide +kernel
theorem dX5_init_29 : decode cX5_init 29 = .ok (.new 9, 3) := by decide +kernel
theorem dX5_init_32 : decode cX5_init 32 = .ok (.dup, 1) := by decide +kernel
theorem dX5_init_33 : decode cX5_init 33 = .ok (.invokespecial 15, 3) := by decide +kernel
theorem dX5_init_36 : decode cX5_init 36 = .ok (.aastore, 1) := by decide +kernel
theorem dX5_init_37 : decode cX5_init 37 = .ok (.iinc 1 1, 3) := by decide +kernel
theorem dX5_init_40 : decode cX5_init 40 = .ok (.goto (-25), 3) := by decide +kernel
theorem dX5_init_43 : decode cX5_init 43 = .ok (.aload_n 0, 1) := by decide +kernel
theorem dX5_init_44 : decode cX5_init 44 = .ok (.new 16, 3) := by decide +kernel
theorem dX5_init_47 : decode cX5_init 47 = .ok (.dup, 1) := by decide +kernel
theorem dX5_init_48 : decode cX5_init 48 = .ok (.invokespecial 18, 3) := by decide +kernel
theorem dX5_init_51 : decode cX5_init 51 = .ok (.putfield 19, 3) := by decide +kernel
theorem dX5_init_54 : decode cX5_init 54 = .ok (.aload_n 0, 1) := by decide +kernel
theorem dX5_init_55 : decode cX5_init 55 = .ok (.new 23, 3) := by decide +kernel
theorem dX5_init_58 : decode cX5_init 58 = .ok (.dup, 1) := by decide +kernel
theorem dX5_init_59 : decode cX5_init 59 = .ok (.invokespecial 25, 3) := by decide +kernel
theorem dX5_init_62 : decode cX5_init 62 = .ok (.putfield 26, 3) := by decide +kernel
theorem dX5_init_65 : decode cX5_init 65 = .ok (.aload_n 0, 1) := by decide +kernel
theorem dX5_init_66 : decode cX5_init 66 = .ok (.new 30, 3) := by decide +kernel
theorem dX5_init_69 : decode cX5_init 69 = .ok (.dup, 1) := by decide +kernel
theorem dX5_init_70 : decode cX5_init 70 = .ok (.invokespecial 32, 3) := by decide +kernel
theorem dX5_init_73 : decode cX5_init 73 = .ok (.putfield 33, 3) := by decide +kernel
theorem dX5_init_76 : decode cX5_init 76 = .ok (.aload_n 0, 1) := by decide +kernel
theorem dX5_init_77 : decode cX5_init 77 = .ok (.new 37, 3) := by decide +kernel
theorem dX5_init_80 : decode cX5_init 80 = .ok (.dup, 1) := by decide +kernel
theorem dX5_init_81 : decode cX5_init 81 = .ok (.invokespecial 39, 3) := by decide +kernel
theorem dX5_init_84 : decode cX5_init 84 = .ok (.putfield 40, 3) := by decide +kernel
theorem dX5_init_87 : decode cX5_init 87 = .ok (.aload_n 0, 1) := by decide +kernel
theorem dX5_init_88 : decode cX5_init 88 = .ok (.bipush 8, 2) := by decide +kernel
theorem dX5_init_90 : decode cX5_init 90 = .ok (.putfield 44, 3) := by decide +kernel
theorem dX5_init_93 : decode cX5_init 93 = .ok (.aload_n 0, 1) := by decide +kernel
theorem dX5_init_94 : decode cX5_init 94 = .ok (.iconst 3, 1) := by decide +kernel
theorem dX5_init_95 : decode cX5_init 95 = .ok (.putfield 48, 3) := by decide +kernel
theorem dX5_init_98 : decode cX5_init 98 = .ok (.aload_n 0, 1) := by decide +kernel
theorem dX5_init_99 : decode cX5_init 99 = .ok (.iconst 0, 1) := by decide +kernel
theorem dX5_init_100 : decode cX5_init 100 = .ok (.putfield 51, 3) := by decide +kernel
theorem dX5_init_103 : decode cX5_init 103 = .ok (.return_, 1) := by decide +kernel
theorem dX5_configure_0 : decode cX5_configure 0 = .ok (.iload_n 1, 1) := by decide +kernel
theorem dX5_configure_1 : decode cX5_configure 1 = .ok (.iconst 1, 1) := by decide +kernel
theorem dX5_configure_2 : decode cX5_configure 2 = .ok (.bipush 9, 2) := by decide +kernel
theorem dX5_configure_4 : decode cX5_configure 4 = .ok (.invokestatic 54, 3) := by decide +kernel
theorem dX5_configure_7 : decode cX5_configure 7 = .ok (.ifCond .eq 13, 3) := by decide +kernel
theorem dX5_configure_10 : decode cX5_configure 10 = .ok (.iload_n 2, 1) := by decide +kernel
theorem dX5_configure_11 : decode cX5_configure 11 = .ok (.iconst 1, 1) := by decide +kernel
theorem dX5_configure_12 : decode cX5_configure 12 = .ok (.bipush 9, 2) := by decide +kernel
theorem dX5_configure_14 : decode cX5_configure 14 = .ok (.invokestatic 54, 3) := by decide +kernel
theorem dX5_configure_17 : decode cX5_configure 17 = .ok (.ifCond .ne 6, 3) := by decide +kernel
theorem dX5_configure_20 : decode cX5_configure 20 = .ok (.bipush (-104), 2) := by decide +kernel
theorem dX5_configure_22 : decode cX5_configure 22 = .ok (.ireturn, 1) := by decide +kernel
theorem dX5_configure_23 : decode cX5_configure 23 = .ok (.iload_n 3, 1) := by decide +kernel
theorem dX5_configure_24 : decode cX5_configure 24 = .ok (.iconst 1, 1) := by decide +kernel
theorem dX5_configure_25 : decode cX5_configure 25 = .ok (.bipush 60, 2) := by decide +kernel
theorem dX5_configure_27 : decode cX5_configure 27 = .ok (.invokestatic 54, 3) := by decide +kernel
theorem dX5_configure_30 : decode cX5_configure 30 = .ok (.ifCond .eq 14, 3) := by decide +kernel
theorem dX5_configure_33 : decode cX5_configure 33 = .ok (.iload 4, 2) := by decide +kernel
theorem dX5_configure_35 : decode cX5_configure 35 = .ok (.bipush (-60), 2) := by decide +kernel
theorem dX5_configure_37 : decode cX5_configure 37 = .ok (.iconst (-1), 1) := by decide +kernel
theorem dX5_configure_38 : decode cX5_configure 38 = .ok (.invokestatic 54, 3) := by decide +kernel
theorem dX5_configure_41 : decode cX5_configure 41 = .ok (.ifCond .ne 6, 3) := by decide +kernel
theorem dX5_configure_44 : decode cX5_configure 44 = .ok (.bipush (-104), 2) := by decide +kernel
theorem dX5_configure_46 : decode cX5_configure 46 = .ok (.ireturn, 1) := by decide +kernel
theorem dX5_configure_47 : decode cX5_configure 47 = .ok (.aload_n 0, 1) := by decide +kernel
theorem dX5_configure_48 : decode cX5_configure 48 = .ok (.getfield 19, 3) := by decide +kernel
theorem dX5_configure_51 : decode cX5_configure 51 = .ok (.iload_n 1, 1) := by decide +kernel
theorem dX5_configure_52 : decode cX5_configure 52 = .ok (.iload_n 2, 1) := by decide +kernel
theorem dX5_configure_53 : decode cX5_configure 53 = .ok (.iload_n 3, 1) := by decide +kernel
theorem dX5_configure_54 : decode cX5_configure 54 = .ok (.iload 4, 2) := by decide +kernel
theorem dX5_configure_56 : decode cX5_configure 56 = .ok (.invokevirtual 58, 3) := by decide +kernel
theorem dX5_configure_59 : decode cX5_configure 59 = .ok (.aload_n 0, 1) := by decide +kernel
theorem dX5_configure_60 : decode cX5_configure 60 = .ok (.invokevirtual 62, 3) := by decide +kernel
theorem dX5_configure_63 : decode cX5_configure 63 = .ok (.aload_n 0, 1) := by decide +kernel
theorem dX5_configure_64 : decode cX5_configure 64 = .ok (.getfield 44, 3) := by decide +kernel
theorem dX5_configure_67 : decode cX5_configure 67 = .ok (.ireturn, 1) := by decide +kernel
theorem dX5_setCells_0 : decode cX5_setCells 0 = .ok (.iload_n 1, 1) := by decide +kernel
theorem dX5_setCells_1 : decode cX5_setCells 1 = .ok (.iconst 1, 1) := by decide +kernel
theorem dX5_setCells_2 : decode cX5_setCells 2 = .ok (.bipush 8, 2) := by decide +kernel
theorem dX5_setCells_4 : decode cX5_setCells 4 = .ok (.invokestatic 54, 3) := by decide +kernel
theorem dX5_setCells_7 : decode cX5_setCells 7 = .ok (.ifCond .ne 6, 3) := by decide +kernel
theorem dX5_setCells_10 : decode cX5_setCells 10 = .ok (.bipush (-104), 2) := by decide +kernel
theorem dX5_setCells_12 : decode cX5_setCells 12 = .ok (.ireturn, 1) := by decide +kernel
theorem dX5_setCells_13 : decode cX5_setCells 13 = .ok (.aload_n 0, 1) := by decide +kernel
theorem dX5_setCells_14 : decode cX5_setCells 14 = .ok (.getfield 44, 3) := by decide +kernel
theorem dX5_setCells_17 : decode cX5_setCells 17 = .ok (.istore_n 2, 1) := by decide +kernel
theorem dX5_setCells_18 : decode cX5_setCells 18 = .ok (.aload_n 0, 1) := by decide +kernel
theorem dX5_setCells_19 : decode cX5_setCells 19 = .ok (.iload_n 1, 1) := by decide +kernel
theorem dX5_setCells_20 : decode cX5_setCells 20 = .ok (.putfield 44, 3) := by decide +kernel
theorem dX5_setCells_23 : decode cX5_setCells 23 = .ok (.aload_n 0, 1) := by decide +kernel
theorem dX5_setCells_24 : decode cX5_setCells 24 = .ok (.invokevirtual 62, 3) := by decide +kernel
theorem dX5_setCells_27 : decode cX5_setCells 27 = .ok (.iload_n 2, 1) := by decide +kernel
theorem dX5_setCells_28 : decode cX5_setCells 28 = .ok (.ireturn, 1) := by decide +kernel
theorem dX5_setTimeout_0 : decode cX5_setTimeout 0 = .ok (.iload_n 1, 1) := by decide +kernel
theorem dX5_setTimeout_1 : decode cX5_setTimeout 1 = .ok (.iconst 1, 1) := by decide +kernel
theorem dX5_setTimeout_2 : decode cX5_setTimeout 2 = .ok (.bipush 20, 2) := by decide +kernel
theorem dX5_setTimeout_4 : decode cX5_setTimeout 4 = .ok (.invokestatic 54, 3) := by decide +kernel
theorem dX5_setTimeout_7 : decode cX5_setTimeout 7 = .ok (.ifCond .ne 6, 3) := by decide +kernel
theorem dX5_setTimeout_10 : decode cX5_setTimeout 10 = .ok (.bipush (-104), 2) := by decide +kernel
theorem dX5_setTimeout_12 : decode cX5_setTimeout 12 = .ok (.ireturn, 1) := by decide +kernel
theorem dX5_setTimeout_13 : decode cX5_setTimeout 13 = .ok (.aload_n 0, 1) := by decide +kernel
theorem dX5_setTimeout_14 : decode cX5_setTimeout 14 = .ok (.getfield 48, 3) := by decide +kernel
theorem dX5_setTimeout_17 : decode cX5_setTimeout 17 = .ok (.istore_n 2, 1) := by decide +kernel
theorem dX5_setTimeout_18 : decode cX5_setTimeout 18 = .ok (.aload_n 0, 1) := by decide +kernel
theorem dX5_setTimeout_19 : decode cX5_setTimeout 19 = .ok (.iload_n 1, 1) := by decide +kernel
theorem dX5_setTimeout_20 : decode cX5_setTimeout 20 = .ok (.putfield 48, 3) := by decide +kernel
theorem dX5_setTimeout_23 : decode cX5_setTimeout 23 = .ok (.iload_n 2, 1) := by decide +kernel
theorem dX5_setTimeout_24 : decode cX5_setTimeout 24 = .ok (.ireturn, 1) := by decide +kernel
theorem dX5_reset_0 : decode cX5_reset 0 = .ok (.iconst 0, 1) := by decide +kernel
theorem dX5_reset_1 : decode cX5_reset 1 = .ok (.istore_n 1, 1) := by decide +kernel
theorem dX5_reset_2 : decode cX5_reset 2 = .ok (.iload_n 1, 1) := by decide +kernel
theorem dX5_reset_3 : decode cX5_reset 3 = .ok (.aload_n 0, 1) := by decide +kernel
theorem dX5_reset_4 : decode cX5_reset 4 = .ok (.getfield 11, 3) := by decide +kernel
theorem dX5_reset_7 : decode cX5_reset 7 = .ok (.arraylength, 1) := by decide +kernel
theorem dX5_reset_8 : decode cX5_reset 8 = .ok (.if_icmp .ge 18, 3) := by decide +kernel
theorem dX5_reset_11 : decode cX5_reset 11 = .ok (.aload_n 0, 1) := by decide +kernel
theorem dX5_reset_12 : decode cX5_reset 12 = .ok (.getfield 11, 3) := by decide +kernel
theorem dX5_reset_15 : decode cX5_reset 15 = .ok (.iload_n 1, 1) := by decide +kernel
theorem dX5_reset_16 : decode cX5_reset 16 = .ok (.aaload, 1) := by decide +kernel
theorem dX5_reset_17 : decode cX5_reset 17 = .ok (.invokevirtual 65, 3) := by decide +kernel
theorem dX5_reset_20 : decode cX5_reset 20 = .ok (.iinc 1 1, 3) := by decide +kernel
theorem dX5_reset_23 : decode cX5_reset 23 = .ok (.goto (-21), 3) := by decide +kernel
theorem dX5_reset_26 : decode cX5_reset 26 = .ok (.aload_n 0, 1) := by decide +kernel
theorem dX5_reset_27 : decode cX5_reset 27 = .ok (.getfield 26, 3) := by decide +kernel
theorem dX5_reset_30 : decode cX5_reset 30 = .ok (.iconst 0, 1) := by decide +kernel
theorem dX5_reset_31 : decode cX5_reset 31 = .ok (.putfield 66, 3) := by decide +kernel
theorem dX5_reset_34 : decode cX5_reset 34 = .ok (.aload_n 0, 1) := by decide +kernel
theorem dX5_reset_35 : decode cX5_reset 35 = .ok (.getfield 33, 3) := by decide +kernel
theorem dX5_reset_38 : decode cX5_reset 38 = .ok (.iconst 0, 1) := by decide +kernel
theorem dX5_reset_39 : decode cX5_reset 39 = .ok (.putfield 69, 3) := by decide +kernel
theorem dX5_reset_42 : decode cX5_reset 42 = .ok (.aload_n 0, 1) := by decide +kernel
theorem dX5_reset_43 : decode cX5_reset 43 = .ok (.iconst 0, 1) := by decide +kernel
theorem dX5_reset_44 : decode cX5_reset 44 = .ok (.putfield 51, 3) := by decide +kernel
theorem dX5_reset_47 : decode cX5_reset 47 = .ok (.return_, 1) := by decide +kernel
theorem dX5_connect_0 : decode cX5_connect 0 = .ok (.iload_n 1, 1) := by decide +kernel
theorem dX5_connect_1 : decode cX5_connect 1 = .ok (.invokestatic 70, 3) := by decide +kernel
theorem dX5_connect_4 : decode cX5_connect 4 = .ok (.ifCond .ne 6, 3) := by decide +kernel
theorem dX5_connect_7 : decode cX5_connect 7 = .ok (.bipush (-105), 2) := by decide +kernel
theorem dX5_connect_9 : decode cX5_connect 9 = .ok (.ireturn, 1) := by decide +kernel
theorem dX5_connect_10 : decode cX5_connect 10 = .ok (.iload_n 2, 1) := by decide +kernel
theorem dX5_connect_11 : decode cX5_connect 11 = .ok (.invokestatic 74, 3) := by decide +kernel
theorem dX5_connect_14 : decode cX5_connect 14 = .ok (.ifCond .ne 6, 3) := by decide +kernel
theorem dX5_connect_17 : decode cX5_connect 17 = .ok (.bipush (-106), 2) := by decide +kernel
theorem dX5_connect_19 : decode cX5_connect 19 = .ok (.ireturn, 1) := by decide +kernel
theorem dX5_connect_20 : decode cX5_connect 20 = .ok (.aload_n 0, 1) := by decide +kernel
theorem dX5_connect_21 : decode cX5_connect 21 = .ok (.iload_n 1, 1) := by decide +kernel
theorem dX5_connect_22 : decode cX5_connect 22 = .ok (.invokevirtual 77, 3) := by decide +kernel
theorem dX5_connect_25 : decode cX5_connect 25 = .ok (.istore 4, 2) := by decide +kernel
theorem dX5_connect_27 : decode cX5_connect 27 = .ok (.aload_n 0, 1) := by decide +kernel
theorem dX5_connect_28 : decode cX5_connect 28 = .ok (.getfield 11, 3) := by decide +kernel
theorem dX5_connect_31 : decode cX5_connect 31 = .ok (.iload 4, 2) := by decide +kernel
theorem dX5_connect_33 : decode cX5_connect 33 = .ok (.aaload, 1) := by decide +kernel
theorem dX5_connect_34 : decode cX5_connect 34 = .ok (.astore 5, 2) := by decide +kernel
theorem dX5_connect_36 : decode cX5_connect 36 = .ok (.aload 5, 2) := by decide +kernel
theorem dX5_connect_38 : decode cX5_connect 38 = .ok (.getfield 81, 3) := by decide +kernel
theorem dX5_connect_41 : decode cX5_connect 41 = .ok (.ifCond .eq 11, 3) := by decide +kernel
theorem dX5_connect_44 : decode cX5_connect 44 = .ok (.aload 5, 2) := by decide +kernel
theorem dX5_connect_46 : decode cX5_connect 46 = .ok (.iload_n 3, 1) := by decide +kernel
theorem dX5_connect_47 : decode cX5_connect 47 = .ok (.invokevirtual 85, 3) := by decide +kernel
theorem dX5_connect_50 : decode cX5_connect 50 = .ok (.iconst 3, 1) := by decide +kernel
theorem dX5_connect_51 : decode cX5_connect 51 = .ok (.ireturn, 1) := by decide +kernel
theorem dX5_connect_52 : decode cX5_connect 52 = .ok (.aload 5, 2) := by decide +kernel
theorem dX5_connect_54 : decode cX5_connect 54 = .ok (.iload_n 2, 1) := by decide +kernel
theorem dX5_connect_55 : decode cX5_connect 55 = .ok (.invokevirtual 89, 3) := by decide +kernel
theorem dX5_connect_58 : decode cX5_connect 58 = .ok (.ifCond .eq 5, 3) := by decide +kernel
theorem dX5_connect_61 : decode cX5_connect 61 = .ok (.iconst 4, 1) := by decide +kernel
theorem dX5_connect_62 : decode cX5_connect 62 = .ok (.ireturn, 1) := by decide +kernel
theorem dX5_connect_63 : decode cX5_connect 63 = .ok (.aload 5, 2) := by decide +kernel
theorem dX5_connect_65 : decode cX5_connect 65 = .ok (.iload_n 2, 1) := by decide +kernel
theorem dX5_connect_66 : decode cX5_connect 66 = .ok (.invokevirtual 92, 3) := by decide +kernel
theorem dX5_connect_69 : decode cX5_connect 69 = .ok (.aload_n 0, 1) := by decide +kernel
theorem dX5_connect_70 : decode cX5_connect 70 = .ok (.iload 4, 2) := by decide +kernel
theorem dX5_connect_72 : decode cX5_connect 72 = .ok (.iload_n 3, 1) := by decide +kernel
theorem dX5_connect_73 : decode cX5_connect 73 = .ok (.invokevirtual 96, 3) := by decide +kernel
theorem dX5_connect_76 : decode cX5_connect 76 = .ok (.ireturn, 1) := by decide +kernel
theorem dX5_attempt_0 : decode cX5_attempt 0 = .ok (.iload_n 1, 1) := by decide +kernel
theorem dX5_attempt_1 : decode cX5_attempt 1 = .ok (.invokestatic 70, 3) := by decide +kernel
theorem dX5_attempt_4 : decode cX5_attempt 4 = .ok (.ifCond .ne 6, 3) := by decide +kernel
theorem dX5_attempt_7 : decode cX5_attempt 7 = .ok (.bipush (-105), 2) := by decide +kernel
theorem dX5_attempt_9 : decode cX5_attempt 9 = .ok (.ireturn, 1) := by decide +kernel
theorem dX5_attempt_10 : decode cX5_attempt 10 = .ok (.iload_n 2, 1) := by decide +kernel
theorem dX5_attempt_11 : decode cX5_attempt 11 = .ok (.invokestatic 74, 3) := by decide +kernel
theorem dX5_attempt_14 : decode cX5_attempt 14 = .ok (.ifCond .ne 6, 3) := by decide +kernel
theorem dX5_attempt_17 : decode cX5_attempt 17 = .ok (.bipush (-106), 2) := by decide +kernel
theorem dX5_attempt_19 : decode cX5_attempt 19 = .ok (.ireturn, 1) := by decide +kernel
theorem dX5_attempt_20 : decode cX5_attempt 20 = .ok (.aload_n 0, 1) := by decide +kernel
theorem dX5_attempt_21 : decode cX5_attempt 21 = .ok (.getfield 11, 3) := by decide +kernel
theorem dX5_attempt_24 : decode cX5_attempt 24 = .ok (.aload_n 0, 1) := by decide +kernel
theorem dX5_attempt_25 : decode cX5_attempt 25 = .ok (.iload_n 1, 1) := by decide +kernel
theorem dX5_attempt_26 : decode cX5_attempt 26 = .ok (.invokevirtual 77, 3) := by decide +kernel
theorem dX5_attempt_29 : decode cX5_attempt 29 = .ok (.aaload, 1) := by decide +kernel
theorem dX5_attempt_30 : decode cX5_attempt 30 = .ok (.astore_n 3, 1) := by decide +kernel
theorem dX5_attempt_31 : decode cX5_attempt 31 = .ok (.aload_n 3, 1) := by decide +kernel
theorem dX5_attempt_32 : decode cX5_attempt 32 = .ok (.getfield 81, 3) := by decide +kernel
theorem dX5_attempt_35 : decode cX5_attempt 35 = .ok (.ifCond .eq 9, 3) := by decide +kernel
theorem dX5_attempt_38 : decode cX5_attempt 38 = .ok (.aload_n 3, 1) := by decide +kernel
theorem dX5_attempt_39 : decode cX5_attempt 39 = .ok (.invokevirtual 100, 3) := by decide +kernel
theorem dX5_attempt_42 : decode cX5_attempt 42 = .ok (.iconst 3, 1) := by decide +kernel
theorem dX5_attempt_43 : decode cX5_attempt 43 = .ok (.ireturn, 1) := by decide +kernel
theorem dX5_attempt_44 : decode cX5_attempt 44 = .ok (.aload_n 3, 1) := by decide +kernel
theorem dX5_attempt_45 : decode cX5_attempt 45 = .ok (.iload_n 2, 1) := by decide +kernel
theorem dX5_attempt_46 : decode cX5_attempt 46 = .ok (.invokevirtual 89, 3) := by decide +kernel
theorem dX5_attempt_49 : decode cX5_attempt 49 = .ok (.ifCond .eq 5, 3) := by decide +kernel
theorem dX5_attempt_52 : decode cX5_attempt 52 = .ok (.iconst 4, 1) := by decide +kernel
theorem dX5_attempt_53 : decode cX5_attempt 53 = .ok (.ireturn, 1) := by decide +kernel
theorem dX5_attempt_54 : decode cX5_attempt 54 = .ok (.aload_n 0, 1) := by decide +kernel
theorem dX5_attempt_55 : decode cX5_attempt 55 = .ok (.getfield 26, 3) := by decide +kernel
theorem dX5_attempt_58 : decode cX5_attempt 58 = .ok (.iload_n 1, 1) := by decide +kernel
theorem dX5_attempt_59 : decode cX5_attempt 59 = .ok (.iload_n 2, 1) := by decide +kernel
theorem dX5_attempt_60 : decode cX5_attempt 60 = .ok (.aload_n 0, 1) := by decide +kernel
theorem dX5_attempt_61 : decode cX5_attempt 61 = .ok (.getfield 51, 3) := by decide +kernel
theorem dX5_attempt_64 : decode cX5_attempt 64 = .ok (.aload_n 0, 1) := by decide +kernel
theorem dX5_attempt_65 : decode cX5_attempt 65 = .ok (.getfield 48, 3) := by decide +kernel
theorem dX5_attempt_68 : decode cX5_attempt 68 = .ok (.iadd, 1) := by decide +kernel
theorem dX5_attempt_69 : decode cX5_attempt 69 = .ok (.invokevirtual 103, 3) := by decide +kernel
theorem dX5_attempt_72 : decode cX5_attempt 72 = .ok (.ifCond .ne 6, 3) := by decide +kernel
theorem dX5_attempt_75 : decode cX5_attempt 75 = .ok (.bipush (-110), 2) := by decide +kernel
theorem dX5_attempt_77 : decode cX5_attempt 77 = .ok (.ireturn, 1) := by decide +kernel
theorem dX5_attempt_78 : decode cX5_attempt 78 = .ok (.aload_n 3, 1) := by decide +kernel
theorem dX5_attempt_79 : decode cX5_attempt 79 = .ok (.iload_n 2, 1) := by decide +kernel
theorem dX5_attempt_80 : decode cX5_attempt 80 = .ok (.invokevirtual 92, 3) := by decide +kernel
theorem dX5_attempt_83 : decode cX5_attempt 83 = .ok (.iconst 0, 1) := by decide +kernel
theorem dX5_attempt_84 : decode cX5_attempt 84 = .ok (.ireturn, 1) := by decide +kernel
theorem dX5_answer_0 : decode cX5_answer 0 = .ok (.aload_n 0, 1) := by decide +kernel
theorem dX5_answer_1 : decode cX5_answer 1 = .ok (.getfield 26, 3) := by decide +kernel
theorem dX5_answer_4 : decode cX5_answer 4 = .ok (.iload_n 1, 1) := by decide +kernel
theorem dX5_answer_5 : decode cX5_answer 5 = .ok (.iload_n 2, 1) := by decide +kernel
theorem dX5_answer_6 : decode cX5_answer 6 = .ok (.invokevirtual 106, 3) := by decide +kernel
theorem dX5_answer_9 : decode cX5_answer 9 = .ok (.istore_n 3, 1) := by decide +kernel
theorem dX5_answer_10 : decode cX5_answer 10 = .ok (.iload_n 3, 1) := by decide +kernel
theorem dX5_answer_11 : decode cX5_answer 11 = .ok (.iconst (-1), 1) := by decide +kernel
theorem dX5_answer_12 : decode cX5_answer 12 = .ok (.if_icmp .ne 6, 3) := by decide +kernel
theorem dX5_answer_15 : decode cX5_answer 15 = .ok (.bipush (-108), 2) := by decide +kernel
theorem dX5_answer_17 : decode cX5_answer 17 = .ok (.ireturn, 1) := by decide +kernel
theorem dX5_answer_18 : decode cX5_answer 18 = .ok (.aload_n 0, 1) := by decide +kernel
theorem dX5_answer_19 : decode cX5_answer 19 = .ok (.getfield 26, 3) := by decide +kernel
theorem dX5_answer_22 : decode cX5_answer 22 = .ok (.iload_n 3, 1) := by decide +kernel
theorem dX5_answer_23 : decode cX5_answer 23 = .ok (.invokevirtual 110, 3) := by decide +kernel
theorem dX5_answer_26 : decode cX5_answer 26 = .ok (.aload_n 0, 1) := by decide +kernel
theorem dX5_answer_27 : decode cX5_answer 27 = .ok (.aload_n 0, 1) := by decide +kernel
theorem dX5_answer_28 : decode cX5_answer 28 = .ok (.iload_n 1, 1) := by decide +kernel
theorem dX5_answer_29 : decode cX5_answer 29 = .ok (.invokevirtual 77, 3) := by decide +kernel
theorem dX5_answer_32 : decode cX5_answer 32 = .ok (.iconst 1, 1) := by decide +kernel
theorem dX5_answer_33 : decode cX5_answer 33 = .ok (.invokevirtual 96, 3) := by decide +kernel
theorem dX5_answer_36 : decode cX5_answer 36 = .ok (.ireturn, 1) := by decide +kernel
theorem dX5_advance_0 : decode cX5_advance 0 = .ok (.iload_n 1, 1) := by decide +kernel
theorem dX5_advance_1 : decode cX5_advance 1 = .ok (.iconst 1, 1) := by decide +kernel
theorem dX5_advance_2 : decode cX5_advance 2 = .ok (.bipush 50, 2) := by decide +kernel
theorem dX5_advance_4 : decode cX5_advance 4 = .ok (.invokestatic 54, 3) := by decide +kernel
theorem dX5_advance_7 : decode cX5_advance 7 = .ok (.ifCond .ne 6, 3) := by decide +kernel
theorem dX5_advance_10 : decode cX5_advance 10 = .ok (.bipush (-104), 2) := by decide +kernel
theorem dX5_advance_12 : decode cX5_advance 12 = .ok (.ireturn, 1) := by decide +kernel
theorem dX5_advance_13 : decode cX5_advance 13 = .ok (.iconst 0, 1) := by decide +kernel
theorem dX5_advance_14 : decode cX5_advance 14 = .ok (.istore_n 2, 1) := by decide +kernel
theorem dX5_advance_15 : decode cX5_advance 15 = .ok (.iconst 0, 1) := by decide +kernel
theorem dX5_advance_16 : decode cX5_advance 16 = .ok (.istore_n 3, 1) := by decide +kernel
theorem dX5_advance_17 : decode cX5_advance 17 = .ok (.iload_n 3, 1) := by decide +kernel
theorem dX5_advance_18 : decode cX5_advance 18 = .ok (.iload_n 1, 1) := by decide +kernel
theorem dX5_advance_19 : decode cX5_advance 19 = .ok (.if_icmp .ge 26, 3) := by decide +kernel
theorem dX5_advance_22 : decode cX5_advance 22 = .ok (.aload_n 0, 1) := by decide +kernel
theorem dX5_advance_23 : decode cX5_advance 23 = .ok (.dup, 1) := by decide +kernel
theorem dX5_advance_24 : decode cX5_advance 24 = .ok (.getfield 51, 3) := by decide +kernel
theorem dX5_advance_27 : decode cX5_advance 27 = .ok (.iconst 1, 1) := by decide +kernel
theorem dX5_advance_28 : decode cX5_advance 28 = .ok (.iadd, 1) := by decide +kernel
theorem dX5_advance_29 : decode cX5_advance 29 = .ok (.putfield 51, 3) := by decide +kernel
theorem dX5_advance_32 : decode cX5_advance 32 = .ok (.iload_n 2, 1) := by decide +kernel
theorem dX5_advance_33 : decode cX5_advance 33 = .ok (.aload_n 0, 1) := by decide +kernel
theorem dX5_advance_34 : decode cX5_advance 34 = .ok (.invokevirtual 113, 3) := by decide +kernel
theorem dX5_advance_37 : decode cX5_advance 37 = .ok (.iadd, 1) := by decide +kernel
theorem dX5_advance_38 : decode cX5_advance 38 = .ok (.istore_n 2, 1) := by decide +kernel
theorem dX5_advance_39 : decode cX5_advance 39 = .ok (.iinc 3 1, 3) := by decide +kernel
theorem dX5_advance_42 : decode cX5_advance 42 = .ok (.goto (-25), 3) := by decide +kernel
theorem dX5_advance_45 : decode cX5_advance 45 = .ok (.iload_n 2, 1) := by decide +kernel
theorem dX5_advance_46 : decode cX5_advance 46 = .ok (.ireturn, 1) := by decide +kernel
theorem dX5_failDueAttempts_0 : decode cX5_failDueAttempts 0 = .ok (.iconst 0, 1) := by decide +kernel
theorem dX5_failDueAttempts_1 : decode cX5_failDueAttempts 1 = .ok (.istore_n 1, 1) := by decide +kernel
theorem dX5_failDueAttempts_2 : decode cX5_failDueAttempts 2 = .ok (.iconst 0, 1) := by decide +kernel
theorem dX5_failDueAttempts_3 : decode cX5_failDueAttempts 3 = .ok (.istore_n 2, 1) := by decide +kernel
theorem dX5_failDueAttempts_4 : decode cX5_failDueAttempts 4 = .ok (.iload_n 2, 1) := by decide +kernel
theorem dX5_failDueAttempts_5 : decode cX5_failDueAttempts 5 = .ok (.bipush 12, 2) := by decide +kernel
theorem dX5_failDueAttempts_7 : decode cX5_failDueAttempts 7 = .ok (.if_icmp .ge 63, 3) := by decide +kernel
theorem dX5_failDueAttempts_10 : decode cX5_failDueAttempts 10 = .ok (.aload_n 0, 1) := by decide +kernel
theorem dX5_failDueAttempts_11 : decode cX5_failDueAttempts 11 = .ok (.getfield 26, 3) := by decide +kernel
theorem dX5_failDueAttempts_14 : decode cX5_failDueAttempts 14 = .ok (.aload_n 0, 1) := by decide +kernel
theorem dX5_failDueAttempts_15 : decode cX5_failDueAttempts 15 = .ok (.getfield 51, 3) := by decide +kernel
theorem dX5_failDueAttempts_18 : decode cX5_failDueAttempts 18 = .ok (.invokevirtual 117, 3) := by decide +kernel
theorem dX5_failDueAttempts_21 : decode cX5_failDueAttempts 21 = .ok (.istore_n 3, 1) := by decide +kernel
theorem dX5_failDueAttempts_22 : decode cX5_failDueAttempts 22 = .ok (.iload_n 3, 1) := by decide +kernel
theorem dX5_failDueAttempts_23 : decode cX5_failDueAttempts 23 = .ok (.iconst (-1), 1) := by decide +kernel
theorem dX5_failDueAttempts_24 : decode cX5_failDueAttempts 24 = .ok (.if_icmp .ne 6, 3) := by decide +kernel
theorem dX5_failDueAttempts_27 : decode cX5_failDueAttempts 27 = .ok (.goto 43, 3) := by decide +kernel
theorem dX5_failDueAttempts_30 : decode cX5_failDueAttempts 30 = .ok (.aload_n 0, 1) := by decide +kernel
theorem dX5_failDueAttempts_31 : decode cX5_failDueAttempts 31 = .ok (.getfield 26, 3) := by decide +kernel
theorem dX5_failDueAttempts_34 : decode cX5_failDueAttempts 34 = .ok (.getfield 120, 3) := by decide +kernel
theorem dX5_failDueAttempts_37 : decode cX5_failDueAttempts 37 = .ok (.iload_n 3, 1) := by decide +kernel
theorem dX5_failDueAttempts_38 : decode cX5_failDueAttempts 38 = .ok (.iaload, 1) := by decide +kernel
theorem dX5_failDueAttempts_39 : decode cX5_failDueAttempts 39 = .ok (.istore 4, 2) := by decide +kernel
theorem dX5_failDueAttempts_41 : decode cX5_failDueAttempts 41 = .ok (.aload_n 0, 1) := by decide +kernel
theorem dX5_failDueAttempts_42 : decode cX5_failDueAttempts 42 = .ok (.getfield 26, 3) := by decide +kernel
theorem dX5_failDueAttempts_45 : decode cX5_failDueAttempts 45 = .ok (.iload_n 3, 1) := by decide +kernel
theorem dX5_failDueAttempts_46 : decode cX5_failDueAttempts 46 = .ok (.invokevirtual 110, 3) := by decide +kernel
theorem dX5_failDueAttempts_49 : decode cX5_failDueAttempts 49 = .ok (.aload_n 0, 1) := by decide +kernel
theorem dX5_failDueAttempts_50 : decode cX5_failDueAttempts 50 = .ok (.aload_n 0, 1) := by decide +kernel
theorem dX5_failDueAttempts_51 : decode cX5_failDueAttempts 51 = .ok (.iload 4, 2) := by decide +kernel
theorem dX5_failDueAttempts_53 : decode cX5_failDueAttempts 53 = .ok (.invokevirtual 77, 3) := by decide +kernel
theorem dX5_failDueAttempts_56 : decode cX5_failDueAttempts 56 = .ok (.iconst 0, 1) := by decide +kernel
theorem dX5_failDueAttempts_57 : decode cX5_failDueAttempts 57 = .ok (.invokevirtual 96, 3) := by decide +kernel
theorem dX5_failDueAttempts_60 : decode cX5_failDueAttempts 60 = .ok (.pop, 1) := by decide +kernel
theorem dX5_failDueAttempts_61 : decode cX5_failDueAttempts 61 = .ok (.iinc 1 1, 3) := by decide +kernel
theorem dX5_failDueAttempts_64 : decode cX5_failDueAttempts 64 = .ok (.iinc 2 1, 3) := by decide +kernel
theorem dX5_failDueAttempts_67 : decode cX5_failDueAttempts 67 = .ok (.goto (-63), 3) := by decide +kernel
theorem dX5_failDueAttempts_70 : decode cX5_failDueAttempts 70 = .ok (.iload_n 1, 1) := by decide +kernel
theorem dX5_failDueAttempts_71 : decode cX5_failDueAttempts 71 = .ok (.ireturn, 1) := by decide +kernel
theorem dX5_unblock_0 : decode cX5_unblock 0 = .ok (.aload_n 0, 1) := by decide +kernel
theorem dX5_unblock_1 : decode cX5_unblock 1 = .ok (.iload_n 1, 1) := by decide +kernel
theorem dX5_unblock_2 : decode cX5_unblock 2 = .ok (.invokevirtual 124, 3) := by decide +kernel
theorem dX5_unblock_5 : decode cX5_unblock 5 = .ok (.ifCond .ne 6, 3) := by decide +kernel
theorem dX5_unblock_8 : decode cX5_unblock 8 = .ok (.bipush (-107), 2) := by decide +kernel
theorem dX5_unblock_10 : decode cX5_unblock 10 = .ok (.ireturn, 1) := by decide +kernel
theorem dX5_unblock_11 : decode cX5_unblock 11 = .ok (.aload_n 0, 1) := by decide +kernel
theorem dX5_unblock_12 : decode cX5_unblock 12 = .ok (.getfield 11, 3) := by decide +kernel
theorem dX5_unblock_15 : decode cX5_unblock 15 = .ok (.iload_n 1, 1) := by decide +kernel
theorem dX5_unblock_16 : decode cX5_unblock 16 = .ok (.aaload, 1) := by decide +kernel
theorem dX5_unblock_17 : decode cX5_unblock 17 = .ok (.astore_n 2, 1) := by decide +kernel
theorem dX5_unblock_18 : decode cX5_unblock 18 = .ok (.aload_n 2, 1) := by decide +kernel
theorem dX5_unblock_19 : decode cX5_unblock 19 = .ok (.getfield 81, 3) := by decide +kernel
theorem dX5_unblock_22 : decode cX5_unblock 22 = .ok (.ifCond .ne 6, 3) := by decide +kernel
theorem dX5_unblock_25 : decode cX5_unblock 25 = .ok (.bipush (-111), 2) := by decide +kernel
theorem dX5_unblock_27 : decode cX5_unblock 27 = .ok (.ireturn, 1) := by decide +kernel
theorem dX5_unblock_28 : decode cX5_unblock 28 = .ok (.aload_n 2, 1) := by decide +kernel
theorem dX5_unblock_29 : decode cX5_unblock 29 = .ok (.getfield 127, 3) := by decide +kernel
theorem dX5_unblock_32 : decode cX5_unblock 32 = .ok (.istore_n 3, 1) := by decide +kernel
theorem dX5_unblock_33 : decode cX5_unblock 33 = .ok (.aload_n 2, 1) := by decide +kernel
theorem dX5_unblock_34 : decode cX5_unblock 34 = .ok (.iconst 0, 1) := by decide +kernel
theorem dX5_unblock_35 : decode cX5_unblock 35 = .ok (.putfield 81, 3) := by decide +kernel
theorem dX5_unblock_38 : decode cX5_unblock 38 = .ok (.aload_n 2, 1) := by decide +kernel
theorem dX5_unblock_39 : decode cX5_unblock 39 = .ok (.invokevirtual 130, 3) := by decide +kernel
theorem dX5_unblock_42 : decode cX5_unblock 42 = .ok (.iload_n 3, 1) := by decide +kernel
theorem dX5_unblock_43 : decode cX5_unblock 43 = .ok (.ireturn, 1) := by decide +kernel
theorem dX5_settle_0 : decode cX5_settle 0 = .ok (.aload_n 0, 1) := by decide +kernel
theorem dX5_settle_1 : decode cX5_settle 1 = .ok (.getfield 11, 3) := by decide +kernel
theorem dX5_settle_4 : decode cX5_settle 4 = .ok (.iload_n 1, 1) := by decide +kernel
theorem dX5_settle_5 : decode cX5_settle 5 = .ok (.aaload, 1) := by decide +kernel
theorem dX5_settle_6 : decode cX5_settle 6 = .ok (.astore_n 3, 1) := by decide +kernel
theorem dX5_settle_7 : decode cX5_settle 7 = .ok (.aload_n 3, 1) := by decide +kernel
theorem dX5_settle_8 : decode cX5_settle 8 = .ok (.aload_n 0, 1) := by decide +kernel
theorem dX5_settle_9 : decode cX5_settle 9 = .ok (.getfield 19, 3) := by decide +kernel
theorem dX5_settle_12 : decode cX5_settle 12 = .ok (.aload_n 3, 1) := by decide +kernel
theorem dX5_settle_13 : decode cX5_settle 13 = .ok (.getfield 127, 3) := by decide +kernel
theorem dX5_settle_16 : decode cX5_settle 16 = .ok (.iload_n 2, 1) := by decide +kernel
theorem dX5_settle_17 : decode cX5_settle 17 = .ok (.invokevirtual 133, 3) := by decide +kernel
theorem dX5_settle_20 : decode cX5_settle 20 = .ok (.putfield 127, 3) := by decide +kernel
theorem dX5_settle_23 : decode cX5_settle 23 = .ok (.aload_n 0, 1) := by decide +kernel
theorem dX5_settle_24 : decode cX5_settle 24 = .ok (.getfield 19, 3) := by decide +kernel
theorem dX5_settle_27 : decode cX5_settle 27 = .ok (.aload_n 3, 1) := by decide +kernel
theorem dX5_settle_28 : decode cX5_settle 28 = .ok (.getfield 127, 3) := by decide +kernel
theorem dX5_settle_31 : decode cX5_settle 31 = .ok (.invokevirtual 136, 3) := by decide +kernel
theorem dX5_settle_34 : decode cX5_settle 34 = .ok (.istore 4, 2) := by decide +kernel
theorem dX5_settle_36 : decode cX5_settle 36 = .ok (.iload 4, 2) := by decide +kernel
theorem dX5_settle_38 : decode cX5_settle 38 = .ok (.ifCond .ne 6, 3) := by decide +kernel
theorem dX5_settle_41 : decode cX5_settle 41 = .ok (.iload 4, 2) := by decide +kernel
theorem dX5_settle_43 : decode cX5_settle 43 = .ok (.ireturn, 1) := by decide +kernel
theorem dX5_settle_44 : decode cX5_settle 44 = .ok (.iload 4, 2) := by decide +kernel
theorem dX5_settle_46 : decode cX5_settle 46 = .ok (.iconst 1, 1) := by decide +kernel
theorem dX5_settle_47 : decode cX5_settle 47 = .ok (.if_icmp .ne 16, 3) := by decide +kernel
theorem dX5_settle_50 : decode cX5_settle 50 = .ok (.aload_n 3, 1) := by decide +kernel
theorem dX5_settle_51 : decode cX5_settle 51 = .ok (.iconst 1, 1) := by decide +kernel
theorem dX5_settle_52 : decode cX5_settle 52 = .ok (.putfield 81, 3) := by decide +kernel
theorem dX5_settle_55 : decode cX5_settle 55 = .ok (.aload_n 0, 1) := by decide +kernel
theorem dX5_settle_56 : decode cX5_settle 56 = .ok (.iload_n 1, 1) := by decide +kernel
theorem dX5_settle_57 : decode cX5_settle 57 = .ok (.invokevirtual 139, 3) := by decide +kernel
theorem dX5_settle_60 : decode cX5_settle 60 = .ok (.goto 7, 3) := by decide +kernel
theorem dX5_settle_63 : decode cX5_settle 63 = .ok (.aload_n 3, 1) := by decide +kernel
theorem dX5_settle_64 : decode cX5_settle 64 = .ok (.invokevirtual 130, 3) := by decide +kernel
theorem dX5_settle_67 : decode cX5_settle 67 = .ok (.aload_n 0, 1) := by decide +kernel
theorem dX5_settle_68 : decode cX5_settle 68 = .ok (.getfield 33, 3) := by decide +kernel
theorem dX5_settle_71 : decode cX5_settle 71 = .ok (.bipush 10, 2) := by decide +kernel
theorem dX5_settle_73 : decode cX5_settle 73 = .ok (.iload_n 1, 1) := by decide +kernel
theorem dX5_settle_74 : decode cX5_settle 74 = .ok (.imul, 1) := by decide +kernel
theorem dX5_settle_75 : decode cX5_settle 75 = .ok (.iload 4, 2) := by decide +kernel
theorem dX5_settle_77 : decode cX5_settle 77 = .ok (.iadd, 1) := by decide +kernel
theorem dX5_settle_78 : decode cX5_settle 78 = .ok (.invokevirtual 142, 3) := by decide +kernel
theorem dX5_settle_81 : decode cX5_settle 81 = .ok (.iload 4, 2) := by decide +kernel
theorem dX5_settle_83 : decode cX5_settle 83 = .ok (.ireturn, 1) := by decide +kernel
theorem dX5_discardAttempts_0 : decode cX5_discardAttempts 0 = .ok (.aload_n 0, 1) := by decide +kernel
theorem dX5_discardAttempts_1 : decode cX5_discardAttempts 1 = .ok (.getfield 26, 3) := by decide +kernel
theorem dX5_discardAttempts_4 : decode cX5_discardAttempts 4 = .ok (.getfield 66, 3) := by decide +kernel
theorem dX5_discardAttempts_7 : decode cX5_discardAttempts 7 = .ok (.iconst 1, 1) := by decide +kernel
theorem dX5_discardAttempts_8 : decode cX5_discardAttempts 8 = .ok (.isub, 1) := by decide +kernel
theorem dX5_discardAttempts_9 : decode cX5_discardAttempts 9 = .ok (.istore_n 2, 1) := by decide +kernel
theorem dX5_discardAttempts_10 : decode cX5_discardAttempts 10 = .ok (.iload_n 2, 1) := by decide +kernel
theorem dX5_discardAttempts_11 : decode cX5_discardAttempts 11 = .ok (.ifCond .lt 34, 3) := by decide +kernel
theorem dX5_discardAttempts_14 : decode cX5_discardAttempts 14 = .ok (.aload_n 0, 1) := by decide +kernel
theorem dX5_discardAttempts_15 : decode cX5_discardAttempts 15 = .ok (.aload_n 0, 1) := by decide +kernel
theorem dX5_discardAttempts_16 : decode cX5_discardAttempts 16 = .ok (.getfield 26, 3) := by decide +kernel
theorem dX5_discardAttempts_19 : decode cX5_discardAttempts 19 = .ok (.getfield 120, 3) := by decide +kernel
theorem dX5_discardAttempts_22 : decode cX5_discardAttempts 22 = .ok (.iload_n 2, 1) := by decide +kernel
theorem dX5_discardAttempts_23 : decode cX5_discardAttempts 23 = .ok (.iaload, 1) := by decide +kernel
theorem dX5_discardAttempts_24 : decode cX5_discardAttempts 24 = .ok (.invokevirtual 77, 3) := by decide +kernel
theorem dX5_discardAttempts_27 : decode cX5_discardAttempts 27 = .ok (.iload_n 1, 1) := by decide +kernel
theorem dX5_discardAttempts_28 : decode cX5_discardAttempts 28 = .ok (.if_icmp .ne 11, 3) := by decide +kernel
theorem dX5_discardAttempts_31 : decode cX5_discardAttempts 31 = .ok (.aload_n 0, 1) := by decide +kernel
theorem dX5_discardAttempts_32 : decode cX5_discardAttempts 32 = .ok (.getfield 26, 3) := by decide +kernel
theorem dX5_discardAttempts_35 : decode cX5_discardAttempts 35 = .ok (.iload_n 2, 1) := by decide +kernel
theorem dX5_discardAttempts_36 : decode cX5_discardAttempts 36 = .ok (.invokevirtual 110, 3) := by decide +kernel
theorem dX5_discardAttempts_39 : decode cX5_discardAttempts 39 = .ok (.iinc 2 (-1), 3) := by decide +kernel
theorem dX5_discardAttempts_42 : decode cX5_discardAttempts 42 = .ok (.goto (-32), 3) := by decide +kernel
theorem dX5_discardAttempts_45 : decode cX5_discardAttempts 45 = .ok (.return_, 1) := by decide +kernel
theorem dX5_append_0 : decode cX5_append 0 = .ok (.iload_n 1, 1) := by decide +kernel
theorem dX5_append_1 : decode cX5_append 1 = .ok (.bipush 32, 2) := by decide +kernel
theorem dX5_append_3 : decode cX5_append 3 = .ok (.bipush 126, 2) := by decide +kernel
theorem dX5_append_5 : decode cX5_append 5 = .ok (.invokestatic 54, 3) := by decide +kernel
theorem dX5_append_8 : decode cX5_append 8 = .ok (.ifCond .ne 6, 3) := by decide +kernel
theorem dX5_append_11 : decode cX5_append 11 = .ok (.bipush (-101), 2) := by decide +kernel
theorem dX5_append_13 : decode cX5_append 13 = .ok (.ireturn, 1) := by decide +kernel
theorem dX5_append_14 : decode cX5_append 14 = .ok (.aload_n 0, 1) := by decide +kernel
theorem dX5_append_15 : decode cX5_append 15 = .ok (.getfield 40, 3) := by decide +kernel
theorem dX5_append_18 : decode cX5_append 18 = .ok (.iload_n 1, 1) := by decide +kernel
theorem dX5_append_19 : decode cX5_append 19 = .ok (.invokevirtual 145, 3) := by decide +kernel
theorem dX5_append_22 : decode cX5_append 22 = .ok (.ifCond .ne 6, 3) := by decide +kernel
theorem dX5_append_25 : decode cX5_append 25 = .ok (.bipush (-102), 2) := by decide +kernel
theorem dX5_append_27 : decode cX5_append 27 = .ok (.ireturn, 1) := by decide +kernel
theorem dX5_append_28 : decode cX5_append 28 = .ok (.aload_n 0, 1) := by decide +kernel
theorem dX5_append_29 : decode cX5_append 29 = .ok (.getfield 40, 3) := by decide +kernel
theorem dX5_append_32 : decode cX5_append 32 = .ok (.getfield 147, 3) := by decide +kernel
theorem dX5_append_35 : decode cX5_append 35 = .ok (.ireturn, 1) := by decide +kernel
theorem dX5_clearInput_0 : decode cX5_clearInput 0 = .ok (.aload_n 0, 1) := by decide +kernel
theorem dX5_clearInput_1 : decode cX5_clearInput 1 = .ok (.getfield 40, 3) := by decide +kernel
theorem dX5_clearInput_4 : decode cX5_clearInput 4 = .ok (.getfield 147, 3) := by decide +kernel
theorem dX5_clearInput_7 : decode cX5_clearInput 7 = .ok (.istore_n 1, 1) := by decide +kernel
theorem dX5_clearInput_8 : decode cX5_clearInput 8 = .ok (.aload_n 0, 1) := by decide +kernel
theorem dX5_clearInput_9 : decode cX5_clearInput 9 = .ok (.getfield 40, 3) := by decide +kernel
theorem dX5_clearInput_12 : decode cX5_clearInput 12 = .ok (.iconst 0, 1) := by decide +kernel
theorem dX5_clearInput_13 : decode cX5_clearInput 13 = .ok (.putfield 147, 3) := by decide +kernel
theorem dX5_clearInput_16 : decode cX5_clearInput 16 = .ok (.iload_n 1, 1) := by decide +kernel
theorem dX5_clearInput_17 : decode cX5_clearInput 17 = .ok (.ireturn, 1) := by decide +kernel
theorem dX5_firstError_0 : decode cX5_firstError 0 = .ok (.aload_n 0, 1) := by decide +kernel
theorem dX5_firstError_1 : decode cX5_firstError 1 = .ok (.getfield 40, 3) := by decide +kernel
theorem dX5_firstError_4 : decode cX5_firstError 4 = .ok (.invokevirtual 150, 3) := by decide +kernel
theorem dX5_firstError_7 : decode cX5_firstError 7 = .ok (.ireturn, 1) := by decide +kernel
theorem dX5_runInput_0 : decode cX5_runInput 0 = .ok (.aload_n 0, 1) := by decide +kernel
theorem dX5_runInput_1 : decode cX5_runInput 1 = .ok (.getfield 40, 3) := by decide +kernel
theorem dX5_runInput_4 : decode cX5_runInput 4 = .ok (.invokevirtual 153, 3) := by decide +kernel
theorem dX5_runInput_7 : decode cX5_runInput 7 = .ok (.ifCond .ne 6, 3) := by decide +kernel
theorem dX5_runInput_10 : decode cX5_runInput 10 = .ok (.bipush (-103), 2) := by decide +kernel
theorem dX5_runInput_12 : decode cX5_runInput 12 = .ok (.ireturn, 1) := by decide +kernel
theorem dX5_runInput_13 : decode cX5_runInput 13 = .ok (.iconst 0, 1) := by decide +kernel
theorem dX5_runInput_14 : decode cX5_runInput 14 = .ok (.istore_n 1, 1) := by decide +kernel
theorem dX5_runInput_15 : decode cX5_runInput 15 = .ok (.iconst 0, 1) := by decide +kernel
theorem dX5_runInput_16 : decode cX5_runInput 16 = .ok (.istore_n 2, 1) := by decide +kernel
theorem dX5_runInput_17 : decode cX5_runInput 17 = .ok (.iload_n 2, 1) := by decide +kernel
theorem dX5_runInput_18 : decode cX5_runInput 18 = .ok (.bipush 6, 2) := by decide +kernel
theorem dX5_runInput_20 : decode cX5_runInput 20 = .ok (.iadd, 1) := by decide +kernel
theorem dX5_runInput_21 : decode cX5_runInput 21 = .ok (.iconst 1, 1) := by decide +kernel
theorem dX5_runInput_22 : decode cX5_runInput 22 = .ok (.isub, 1) := by decide +kernel
theorem dX5_runInput_23 : decode cX5_runInput 23 = .ok (.aload_n 0, 1) := by decide +kernel
theorem dX5_runInput_24 : decode cX5_runInput 24 = .ok (.getfield 40, 3) := by decide +kernel
theorem dX5_runInput_27 : decode cX5_runInput 27 = .ok (.getfield 147, 3) := by decide +kernel
theorem dX5_runInput_30 : decode cX5_runInput 30 = .ok (.if_icmp .gt 51, 3) := by decide +kernel
theorem dX5_runInput_33 : decode cX5_runInput 33 = .ok (.aload_n 0, 1) := by decide +kernel
theorem dX5_runInput_34 : decode cX5_runInput 34 = .ok (.aload_n 0, 1) := by decide +kernel
theorem dX5_runInput_35 : decode cX5_runInput 35 = .ok (.getfield 40, 3) := by decide +kernel
theorem dX5_runInput_38 : decode cX5_runInput 38 = .ok (.iload_n 2, 1) := by decide +kernel
theorem dX5_runInput_39 : decode cX5_runInput 39 = .ok (.invokevirtual 157, 3) := by decide +kernel
theorem dX5_runInput_42 : decode cX5_runInput 42 = .ok (.aload_n 0, 1) := by decide +kernel
theorem dX5_runInput_43 : decode cX5_runInput 43 = .ok (.getfield 40, 3) := by decide +kernel
theorem dX5_runInput_46 : decode cX5_runInput 46 = .ok (.iload_n 2, 1) := by decide +kernel
theorem dX5_runInput_47 : decode cX5_runInput 47 = .ok (.invokevirtual 160, 3) := by decide +kernel
theorem dX5_runInput_50 : decode cX5_runInput 50 = .ok (.aload_n 0, 1) := by decide +kernel
theorem dX5_runInput_51 : decode cX5_runInput 51 = .ok (.getfield 40, 3) := by decide +kernel
theorem dX5_runInput_54 : decode cX5_runInput 54 = .ok (.iload_n 2, 1) := by decide +kernel
theorem dX5_runInput_55 : decode cX5_runInput 55 = .ok (.invokevirtual 163, 3) := by decide +kernel
theorem dX5_runInput_58 : decode cX5_runInput 58 = .ok (.invokevirtual 166, 3) := by decide +kernel
theorem dX5_runInput_61 : decode cX5_runInput 61 = .ok (.istore_n 3, 1) := by decide +kernel
theorem dX5_runInput_62 : decode cX5_runInput 62 = .ok (.iload_n 3, 1) := by decide +kernel
theorem dX5_runInput_63 : decode cX5_runInput 63 = .ok (.iconst 3, 1) := by decide +kernel
theorem dX5_runInput_64 : decode cX5_runInput 64 = .ok (.if_icmp .eq 11, 3) := by decide +kernel
theorem dX5_runInput_67 : decode cX5_runInput 67 = .ok (.iload_n 3, 1) := by decide +kernel
theorem dX5_runInput_68 : decode cX5_runInput 68 = .ok (.iconst 4, 1) := by decide +kernel
theorem dX5_runInput_69 : decode cX5_runInput 69 = .ok (.if_icmp .eq 6, 3) := by decide +kernel
theorem dX5_runInput_72 : decode cX5_runInput 72 = .ok (.iinc 1 1, 3) := by decide +kernel
theorem dX5_runInput_75 : decode cX5_runInput 75 = .ok (.iinc 2 6, 3) := by decide +kernel
theorem dX5_runInput_78 : decode cX5_runInput 78 = .ok (.goto (-61), 3) := by decide +kernel
theorem dX5_runInput_81 : decode cX5_runInput 81 = .ok (.aload_n 0, 1) := by decide +kernel
theorem dX5_runInput_82 : decode cX5_runInput 82 = .ok (.getfield 40, 3) := by decide +kernel
theorem dX5_runInput_85 : decode cX5_runInput 85 = .ok (.iconst 0, 1) := by decide +kernel
theorem dX5_runInput_86 : decode cX5_runInput 86 = .ok (.putfield 147, 3) := by decide +kernel
theorem dX5_runInput_89 : decode cX5_runInput 89 = .ok (.iload_n 1, 1) := by decide +kernel
theorem dX5_runInput_90 : decode cX5_runInput 90 = .ok (.ireturn, 1) := by decide +kernel
theorem dX5_cellOf_0 : decode cX5_cellOf 0 = .ok (.iload_n 1, 1) := by decide +kernel
theorem dX5_cellOf_1 : decode cX5_cellOf 1 = .ok (.invokestatic 70, 3) := by decide +kernel
theorem dX5_cellOf_4 : decode cX5_cellOf 4 = .ok (.ifCond .eq 11, 3) := by decide +kernel
theorem dX5_cellOf_7 : decode cX5_cellOf 7 = .ok (.aload_n 0, 1) := by decide +kernel
theorem dX5_cellOf_8 : decode cX5_cellOf 8 = .ok (.iload_n 1, 1) := by decide +kernel
theorem dX5_cellOf_9 : decode cX5_cellOf 9 = .ok (.invokevirtual 77, 3) := by decide +kernel
theorem dX5_cellOf_12 : decode cX5_cellOf 12 = .ok (.goto 5, 3) := by decide +kernel
theorem dX5_cellOf_15 : decode cX5_cellOf 15 = .ok (.bipush (-105), 2) := by decide +kernel
theorem dX5_cellOf_17 : decode cX5_cellOf 17 = .ok (.ireturn, 1) := by decide +kernel
theorem dX5_score_0 : decode cX5_score 0 = .ok (.aload_n 0, 1) := by decide +kernel
theorem dX5_score_1 : decode cX5_score 1 = .ok (.iload_n 1, 1) := by decide +kernel
theorem dX5_score_2 : decode cX5_score 2 = .ok (.invokevirtual 124, 3) := by decide +kernel
theorem dX5_score_5 : decode cX5_score 5 = .ok (.ifCond .eq 15, 3) := by decide +kernel
theorem dX5_score_8 : decode cX5_score 8 = .ok (.aload_n 0, 1) := by decide +kernel
theorem dX5_score_9 : decode cX5_score 9 = .ok (.getfield 11, 3) := by decide +kernel
theorem dX5_score_12 : decode cX5_score 12 = .ok (.iload_n 1, 1) := by decide +kernel
theorem dX5_score_13 : decode cX5_score 13 = .ok (.aaload, 1) := by decide +kernel
theorem dX5_score_14 : decode cX5_score 14 = .ok (.getfield 127, 3) := by decide +kernel
theorem dX5_score_17 : decode cX5_score 17 = .ok (.goto 5, 3) := by decide +kernel
theorem dX5_score_20 : decode cX5_score 20 = .ok (.bipush (-107), 2) := by decide +kernel
theorem dX5_score_22 : decode cX5_score 22 = .ok (.ireturn, 1) := by decide +kernel
theorem dX5_isBlocked_0 : decode cX5_isBlocked 0 = .ok (.aload_n 0, 1) := by decide +kernel
theorem dX5_isBlocked_1 : decode cX5_isBlocked 1 = .ok (.iload_n 1, 1) := by decide +kernel
theorem dX5_isBlocked_2 : decode cX5_isBlocked 2 = .ok (.invokevirtual 124, 3) := by decide +kernel
theorem dX5_isBlocked_5 : decode cX5_isBlocked 5 = .ok (.ifCond .ne 6, 3) := by decide +kernel
theorem dX5_isBlocked_8 : decode cX5_isBlocked 8 = .ok (.bipush (-107), 2) := by decide +kernel
theorem dX5_isBlocked_10 : decode cX5_isBlocked 10 = .ok (.ireturn, 1) := by decide +kernel
theorem dX5_isBlocked_11 : decode cX5_isBlocked 11 = .ok (.aload_n 0, 1) := by decide +kernel
theorem dX5_isBlocked_12 : decode cX5_isBlocked 12 = .ok (.getfield 11, 3) := by decide +kernel
theorem dX5_isBlocked_15 : decode cX5_isBlocked 15 = .ok (.iload_n 1, 1) := by decide +kernel
theorem dX5_isBlocked_16 : decode cX5_isBlocked 16 = .ok (.aaload, 1) := by decide +kernel
theorem dX5_isBlocked_17 : decode cX5_isBlocked 17 = .ok (.getfield 81, 3) := by decide +kernel
theorem dX5_isBlocked_20 : decode cX5_isBlocked 20 = .ok (.ifCond .eq 7, 3) := by decide +kernel
theorem dX5_isBlocked_23 : decode cX5_isBlocked 23 = .ok (.iconst 1, 1) := by decide +kernel
theorem dX5_isBlocked_24 : decode cX5_isBlocked 24 = .ok (.goto 4, 3) := by decide +kernel
theorem dX5_isBlocked_27 : decode cX5_isBlocked 27 = .ok (.iconst 0, 1) := by decide +kernel
theorem dX5_isBlocked_28 : decode cX5_isBlocked 28 = .ok (.ireturn, 1) := by decide +kernel
theorem dX5_seenDestinations_0 : decode cX5_seenDestinations 0 = .ok (.aload_n 0, 1) := by decide +kernel
theorem dX5_seenDestinations_1 : decode cX5_seenDestinations 1 = .ok (.iload_n 1, 1) := by decide +kernel
theorem dX5_seenDestinations_2 : decode cX5_seenDestinations 2 = .ok (.invokevirtual 124, 3) := by decide +kernel
theorem dX5_seenDestinations_5 : decode cX5_seenDestinations 5 = .ok (.ifCond .eq 15, 3) := by decide +kernel
theorem dX5_seenDestinations_8 : decode cX5_seenDestinations 8 = .ok (.aload_n 0, 1) := by decide +kernel
theorem dX5_seenDestinations_9 : decode cX5_seenDestinations 9 = .ok (.getfield 11, 3) := by decide +kernel
theorem dX5_seenDestinations_12 : decode cX5_seenDestinations 12 = .ok (.iload_n 1, 1) := by decide +kernel
theorem dX5_seenDestinations_13 : decode cX5_seenDestinations 13 = .ok (.aaload, 1) := by decide +kernel
theorem dX5_seenDestinations_14 : decode cX5_seenDestinations 14 = .ok (.getfield 170, 3) := by decide +kernel
theorem dX5_seenDestinations_17 : decode cX5_seenDestinations 17 = .ok (.goto 6, 3) := by decide +kernel
theorem dX5_seenDestinations_20 : decode cX5_seenDestinations 20 = .ok (.ldc2_w 174, 3) := by decide +kernel
theorem dX5_seenDestinations_23 : decode cX5_seenDestinations 23 = .ok (.lreturn, 1) := by decide +kernel
theorem dX5_blockedContacts_0 : decode cX5_blockedContacts 0 = .ok (.aload_n 0, 1) := by decide +kernel
theorem dX5_blockedContacts_1 : decode cX5_blockedContacts 1 = .ok (.iload_n 1, 1) := by decide +kernel
theorem dX5_blockedContacts_2 : decode cX5_blockedContacts 2 = .ok (.invokevirtual 124, 3) := by decide +kernel
theorem dX5_blockedContacts_5 : decode cX5_blockedContacts 5 = .ok (.ifCond .eq 15, 3) := by decide +kernel
theorem dX5_blockedContacts_8 : decode cX5_blockedContacts 8 = .ok (.aload_n 0, 1) := by decide +kernel
theorem dX5_blockedContacts_9 : decode cX5_blockedContacts 9 = .ok (.getfield 11, 3) := by decide +kernel
theorem dX5_blockedContacts_12 : decode cX5_blockedContacts 12 = .ok (.iload_n 1, 1) := by decide +kernel
theorem dX5_blockedContacts_13 : decode cX5_blockedContacts 13 = .ok (.aaload, 1) := by decide +kernel
theorem dX5_blockedContacts_14 : decode cX5_blockedContacts 14 = .ok (.getfield 176, 3) := by decide +kernel
theorem dX5_blockedContacts_17 : decode cX5_blockedContacts 17 = .ok (.goto 5, 3) := by decide +kernel
theorem dX5_blockedContacts_20 : decode cX5_blockedContacts 20 = .ok (.bipush (-107), 2) := by decide +kernel
theorem dX5_blockedContacts_22 : decode cX5_blockedContacts 22 = .ok (.ireturn, 1) := by decide +kernel
theorem dX5_wronglyBlocked_0 : decode cX5_wronglyBlocked 0 = .ok (.aload_n 0, 1) := by decide +kernel
theorem dX5_wronglyBlocked_1 : decode cX5_wronglyBlocked 1 = .ok (.iload_n 1, 1) := by decide +kernel
theorem dX5_wronglyBlocked_2 : decode cX5_wronglyBlocked 2 = .ok (.invokevirtual 124, 3) := by decide +kernel
theorem dX5_wronglyBlocked_5 : decode cX5_wronglyBlocked 5 = .ok (.ifCond .eq 15, 3) := by decide +kernel
theorem dX5_wronglyBlocked_8 : decode cX5_wronglyBlocked 8 = .ok (.aload_n 0, 1) := by decide +kernel
theorem dX5_wronglyBlocked_9 : decode cX5_wronglyBlocked 9 = .ok (.getfield 11, 3) := by decide +kernel
theorem dX5_wronglyBlocked_12 : decode cX5_wronglyBlocked 12 = .ok (.iload_n 1, 1) := by decide +kernel
theorem dX5_wronglyBlocked_13 : decode cX5_wronglyBlocked 13 = .ok (.aaload, 1) := by decide +kernel
theorem dX5_wronglyBlocked_14 : decode cX5_wronglyBlocked 14 = .ok (.getfield 179, 3) := by decide +kernel
theorem dX5_wronglyBlocked_17 : decode cX5_wronglyBlocked 17 = .ok (.goto 5, 3) := by decide +kernel
theorem dX5_wronglyBlocked_20 : decode cX5_wronglyBlocked 20 = .ok (.bipush (-107), 2) := by decide +kernel
theorem dX5_wronglyBlocked_22 : decode cX5_wronglyBlocked 22 = .ok (.ireturn, 1) := by decide +kernel
theorem dX5_cellExists_0 : decode cX5_cellExists 0 = .ok (.iload_n 1, 1) := by decide +kernel
theorem dX5_cellExists_1 : decode cX5_cellExists 1 = .ok (.iconst 0, 1) := by decide +kernel
theorem dX5_cellExists_2 : decode cX5_cellExists 2 = .ok (.aload_n 0, 1) := by decide +kernel
theorem dX5_cellExists_3 : decode cX5_cellExists 3 = .ok (.getfield 44, 3) := by decide +kernel
theorem dX5_cellExists_6 : decode cX5_cellExists 6 = .ok (.iconst 1, 1) := by decide +kernel
theorem dX5_cellExists_7 : decode cX5_cellExists 7 = .ok (.isub, 1) := by decide +kernel
theorem dX5_cellExists_8 : decode cX5_cellExists 8 = .ok (.invokestatic 54, 3) := by decide +kernel
theorem dX5_cellExists_11 : decode cX5_cellExists 11 = .ok (.ireturn, 1) := by decide +kernel
theorem dX5_sourceExists_0 : decode cX5_sourceExists 0 = .ok (.iload_n 0, 1) := by decide +kernel
theorem dX5_sourceExists_1 : decode cX5_sourceExists 1 = .ok (.iconst 0, 1) := by decide +kernel
theorem dX5_sourceExists_2 : decode cX5_sourceExists 2 = .ok (.bipush 7, 2) := by decide +kernel
theorem dX5_sourceExists_4 : decode cX5_sourceExists 4 = .ok (.invokestatic 54, 3) := by decide +kernel
theorem dX5_sourceExists_7 : decode cX5_sourceExists 7 = .ok (.ireturn, 1) := by decide +kernel
theorem dX5_destinationExists_0 : decode cX5_destinationExists 0 = .ok (.iload_n 0, 1) := by decide +kernel
theorem dX5_destinationExists_1 : decode cX5_destinationExists 1 = .ok (.iconst 0, 1) := by decide +kernel
theorem dX5_destinationExists_2 : decode cX5_destinationExists 2 = .ok (.bipush 31, 2) := by decide +kernel
theorem dX5_destinationExists_4 : decode cX5_destinationExists 4 = .ok (.invokestatic 54, 3) := by decide +kernel
theorem dX5_destinationExists_7 : decode cX5_destinationExists 7 = .ok (.ireturn, 1) := by decide +kernel
theorem dX5_within_0 : decode cX5_within 0 = .ok (.iload_n 0, 1) := by decide +kernel
theorem dX5_within_1 : decode cX5_within 1 = .ok (.iload_n 1, 1) := by decide +kernel
theorem dX5_within_2 : decode cX5_within 2 = .ok (.if_icmp .lt 12, 3) := by decide +kernel
theorem dX5_within_5 : decode cX5_within 5 = .ok (.iload_n 0, 1) := by decide +kernel
theorem dX5_within_6 : decode cX5_within 6 = .ok (.iload_n 2, 1) := by decide +kernel
theorem dX5_within_7 : decode cX5_within 7 = .ok (.if_icmp .gt 7, 3) := by decide +kernel
theorem dX5_within_10 : decode cX5_within 10 = .ok (.iconst 1, 1) := by decide +kernel
theorem dX5_within_11 : decode cX5_within 11 = .ok (.goto 4, 3) := by decide +kernel
theorem dX5_within_14 : decode cX5_within 14 = .ok (.iconst 0, 1) := by decide +kernel
theorem dX5_within_15 : decode cX5_within 15 = .ok (.ireturn, 1) := by decide +kernel
theorem dX5_cellIndex_0 : decode cX5_cellIndex 0 = .ok (.aload_n 0, 1) := by decide +kernel
theorem dX5_cellIndex_1 : decode cX5_cellIndex 1 = .ok (.getfield 44, 3) := by decide +kernel
theorem dX5_cellIndex_4 : decode cX5_cellIndex 4 = .ok (.ifCond .le 12, 3) := by decide +kernel
theorem dX5_cellIndex_7 : decode cX5_cellIndex 7 = .ok (.iload_n 1, 1) := by decide +kernel
theorem dX5_cellIndex_8 : decode cX5_cellIndex 8 = .ok (.aload_n 0, 1) := by decide +kernel
theorem dX5_cellIndex_9 : decode cX5_cellIndex 9 = .ok (.getfield 44, 3) := by decide +kernel
theorem dX5_cellIndex_12 : decode cX5_cellIndex 12 = .ok (.irem, 1) := by decide +kernel
theorem dX5_cellIndex_13 : decode cX5_cellIndex 13 = .ok (.goto 4, 3) := by decide +kernel
theorem dX5_cellIndex_16 : decode cX5_cellIndex 16 = .ok (.iconst 0, 1) := by decide +kernel
theorem dX5_cellIndex_17 : decode cX5_cellIndex 17 = .ok (.ireturn, 1) := by decide +kernel
theorem dX5_attemptCount_0 : decode cX5_attemptCount 0 = .ok (.aload_n 0, 1) := by decide +kernel
theorem dX5_attemptCount_1 : decode cX5_attemptCount 1 = .ok (.getfield 26, 3) := by decide +kernel
theorem dX5_attemptCount_4 : decode cX5_attemptCount 4 = .ok (.getfield 66, 3) := by decide +kernel
theorem dX5_attemptCount_7 : decode cX5_attemptCount 7 = .ok (.ireturn, 1) := by decide +kernel
theorem dX5_describeAttempt_0 : decode cX5_describeAttempt 0 = .ok (.iload_n 1, 1) := by decide +kernel
theorem dX5_describeAttempt_1 : decode cX5_describeAttempt 1 = .ok (.iconst 0, 1) := by decide +kernel
theorem dX5_describeAttempt_2 : decode cX5_describeAttempt 2 = .ok (.aload_n 0, 1) := by decide +kernel
theorem dX5_describeAttempt_3 : decode cX5_describeAttempt 3 = .ok (.getfield 26, 3) := by decide +kernel
theorem dX5_describeAttempt_6 : decode cX5_describeAttempt 6 = .ok (.getfield 66, 3) := by decide +kernel
theorem dX5_describeAttempt_9 : decode cX5_describeAttempt 9 = .ok (.iconst 1, 1) := by decide +kernel
theorem dX5_describeAttempt_10 : decode cX5_describeAttempt 10 = .ok (.isub, 1) := by decide +kernel
theorem dX5_describeAttempt_11 : decode cX5_describeAttempt 11 = .ok (.invokestatic 54, 3) := by decide +kernel
theorem dX5_describeAttempt_14 : decode cX5_describeAttempt 14 = .ok (.ifCond .ne 6, 3) := by decide +kernel
theorem dX5_describeAttempt_17 : decode cX5_describeAttempt 17 = .ok (.bipush (-108), 2) := by decide +kernel
theorem dX5_describeAttempt_19 : decode cX5_describeAttempt 19 = .ok (.ireturn, 1) := by decide +kernel
theorem dX5_describeAttempt_20 : decode cX5_describeAttempt 20 = .ok (.aload_n 0, 1) := by decide +kernel
theorem dX5_describeAttempt_21 : decode cX5_describeAttempt 21 = .ok (.getfield 26, 3) := by decide +kernel
theorem dX5_describeAttempt_24 : decode cX5_describeAttempt 24 = .ok (.getfield 182, 3) := by decide +kernel
theorem dX5_describeAttempt_27 : decode cX5_describeAttempt 27 = .ok (.iload_n 1, 1) := by decide +kernel
theorem dX5_describeAttempt_28 : decode cX5_describeAttempt 28 = .ok (.iaload, 1) := by decide +kernel
theorem dX5_describeAttempt_29 : decode cX5_describeAttempt 29 = .ok (.aload_n 0, 1) := by decide +kernel
theorem dX5_describeAttempt_30 : decode cX5_describeAttempt 30 = .ok (.getfield 51, 3) := by decide +kernel
theorem dX5_describeAttempt_33 : decode cX5_describeAttempt 33 = .ok (.isub, 1) := by decide +kernel
theorem dX5_describeAttempt_34 : decode cX5_describeAttempt 34 = .ok (.istore_n 2, 1) := by decide +kernel
theorem dX5_describeAttempt_35 : decode cX5_describeAttempt 35 = .ok (.sipush 1000, 3) := by decide +kernel
theorem dX5_describeAttempt_38 : decode cX5_describeAttempt 38 = .ok (.iload_n 2, 1) := by decide +kernel
theorem dX5_describeAttempt_39 : decode cX5_describeAttempt 39 = .ok (.imul, 1) := by decide +kernel
theorem dX5_describeAttempt_40 : decode cX5_describeAttempt 40 = .ok (.bipush 100, 2) := by decide +kernel
theorem dX5_describeAttempt_42 : decode cX5_describeAttempt 42 = .ok (.aload_n 0, 1) := by decide +kernel
theorem dX5_describeAttempt_43 : decode cX5_describeAttempt 43 = .ok (.getfield 26, 3) := by decide +kernel
theorem dX5_describeAttempt_46 : decode cX5_describeAttempt 46 = .ok (.getfield 120, 3) := by decide +kernel
theorem dX5_describeAttempt_49 : decode cX5_describeAttempt 49 = .ok (.iload_n 1, 1) := by decide +kernel
theorem dX5_describeAttempt_50 : decode cX5_describeAttempt 50 = .ok (.iaload, 1) := by decide +kernel
theorem dX5_describeAttempt_51 : decode cX5_describeAttempt 51 = .ok (.imul, 1) := by decide +kernel
theorem dX5_describeAttempt_52 : decode cX5_describeAttempt 52 = .ok (.iadd, 1) := by decide +kernel
theorem dX5_describeAttempt_53 : decode cX5_describeAttempt 53 = .ok (.aload_n 0, 1) := by decide +kernel
theorem dX5_describeAttempt_54 : decode cX5_describeAttempt 54 = .ok (.getfield 26, 3) := by decide +kernel
theorem dX5_describeAttempt_57 : decode cX5_describeAttempt 57 = .ok (.getfield 185, 3) := by decide +kernel
theorem dX5_describeAttempt_60 : decode cX5_describeAttempt 60 = .ok (.iload_n 1, 1) := by decide +kernel
theorem dX5_describeAttempt_61 : decode cX5_describeAttempt 61 = .ok (.iaload, 1) := by decide +kernel
theorem dX5_describeAttempt_62 : decode cX5_describeAttempt 62 = .ok (.iadd, 1) := by decide +kernel
theorem dX5_describeAttempt_63 : decode cX5_describeAttempt 63 = .ok (.ireturn, 1) := by decide +kernel
theorem dX5_clock_0 : decode cX5_clock 0 = .ok (.aload_n 0, 1) := by decide +kernel
theorem dX5_clock_1 : decode cX5_clock 1 = .ok (.getfield 51, 3) := by decide +kernel
theorem dX5_clock_4 : decode cX5_clock 4 = .ok (.ireturn, 1) := by decide +kernel
theorem dX5_verdictCount_0 : decode cX5_verdictCount 0 = .ok (.aload_n 0, 1) := by decide +kernel
theorem dX5_verdictCount_1 : decode cX5_verdictCount 1 = .ok (.getfield 33, 3) := by decide +kernel
theorem dX5_verdictCount_4 : decode cX5_verdictCount 4 = .ok (.getfield 69, 3) := by decide +kernel
theorem dX5_verdictCount_7 : decode cX5_verdictCount 7 = .ok (.ireturn, 1) := by decide +kernel
theorem dX5_describeVerdict_0 : decode cX5_describeVerdict 0 = .ok (.iload_n 1, 1) := by decide +kernel
theorem dX5_describeVerdict_1 : decode cX5_describeVerdict 1 = .ok (.iconst 0, 1) := by decide +kernel
theorem dX5_describeVerdict_2 : decode cX5_describeVerdict 2 = .ok (.aload_n 0, 1) := by decide +kernel
theorem dX5_describeVerdict_3 : decode cX5_describeVerdict 3 = .ok (.getfield 33, 3) := by decide +kernel
theorem dX5_describeVerdict_6 : decode cX5_describeVerdict 6 = .ok (.invokevirtual 188, 3) := by decide +kernel
theorem dX5_describeVerdict_9 : decode cX5_describeVerdict 9 = .ok (.iconst 1, 1) := by decide +kernel
theorem dX5_describeVerdict_10 : decode cX5_describeVerdict 10 = .ok (.isub, 1) := by decide +kernel
theorem dX5_describeVerdict_11 : decode cX5_describeVerdict 11 = .ok (.invokestatic 54, 3) := by decide +kernel
theorem dX5_describeVerdict_14 : decode cX5_describeVerdict 14 = .ok (.ifCond .ne 6, 3) := by decide +kernel
theorem dX5_describeVerdict_17 : decode cX5_describeVerdict 17 = .ok (.bipush (-109), 2) := by decide +kernel
theorem dX5_describeVerdict_19 : decode cX5_describeVerdict 19 = .ok (.ireturn, 1) := by decide +kernel
theorem dX5_describeVerdict_20 : decode cX5_describeVerdict 20 = .ok (.aload_n 0, 1) := by decide +kernel
theorem dX5_describeVerdict_21 : decode cX5_describeVerdict 21 = .ok (.getfield 33, 3) := by decide +kernel
theorem dX5_describeVerdict_24 : decode cX5_describeVerdict 24 = .ok (.iload_n 1, 1) := by decide +kernel
theorem dX5_describeVerdict_25 : decode cX5_describeVerdict 25 = .ok (.invokevirtual 191, 3) := by decide +kernel
theorem dX5_describeVerdict_28 : decode cX5_describeVerdict 28 = .ok (.ireturn, 1) := by decide +kernel
theorem dX5_countSequences_0 : decode cX5_countSequences 0 = .ok (.iload_n 1, 1) := by decide +kernel
theorem dX5_countSequences_1 : decode cX5_countSequences 1 = .ok (.iconst 0, 1) := by decide +kernel
theorem dX5_countSequences_2 : decode cX5_countSequences 2 = .ok (.bipush 20, 2) := by decide +kernel
theorem dX5_countSequences_4 : decode cX5_countSequences 4 = .ok (.invokestatic 54, 3) := by decide +kernel
theorem dX5_countSequences_7 : decode cX5_countSequences 7 = .ok (.ifCond .eq 12, 3) := by decide +kernel
theorem dX5_countSequences_10 : decode cX5_countSequences 10 = .ok (.iload_n 2, 1) := by decide +kernel
theorem dX5_countSequences_11 : decode cX5_countSequences 11 = .ok (.iconst 0, 1) := by decide +kernel
theorem dX5_countSequences_12 : decode cX5_countSequences 12 = .ok (.iconst 2, 1) := by decide +kernel
theorem dX5_countSequences_13 : decode cX5_countSequences 13 = .ok (.invokestatic 54, 3) := by decide +kernel
theorem dX5_countSequences_16 : decode cX5_countSequences 16 = .ok (.ifCond .ne 6, 3) := by decide +kernel
theorem dX5_countSequences_19 : decode cX5_countSequences 19 = .ok (.bipush (-104), 2) := by decide +kernel
theorem dX5_countSequences_21 : decode cX5_countSequences 21 = .ok (.ireturn, 1) := by decide +kernel
theorem dX5_countSequences_22 : decode cX5_countSequences 22 = .ok (.aload_n 0, 1) := by decide +kernel
theorem dX5_countSequences_23 : decode cX5_countSequences 23 = .ok (.getfield 19, 3) := by decide +kernel
theorem dX5_countSequences_26 : decode cX5_countSequences 26 = .ok (.iload_n 1, 1) := by decide +kernel
theorem dX5_countSequences_27 : decode cX5_countSequences 27 = .ok (.iload_n 2, 1) := by decide +kernel
theorem dX5_countSequences_28 : decode cX5_countSequences 28 = .ok (.invokevirtual 194, 3) := by decide +kernel
theorem dX5_countSequences_31 : decode cX5_countSequences 31 = .ok (.ireturn, 1) := by decide +kernel
theorem dX5_scannerProbability_0 : decode cX5_scannerProbability 0 = .ok (.iload_n 1, 1) := by decide +kernel
theorem dX5_scannerProbability_1 : decode cX5_scannerProbability 1 = .ok (.iconst 0, 1) := by decide +kernel
theorem dX5_scannerProbability_2 : decode cX5_scannerProbability 2 = .ok (.bipush 100, 2) := by decide +kernel
theorem dX5_scannerProbability_4 : decode cX5_scannerProbability 4 = .ok (.invokestatic 54, 3) := by decide +kernel
theorem dX5_scannerProbability_7 : decode cX5_scannerProbability 7 = .ok (.ifCond .eq 13, 3) := by decide +kernel
theorem dX5_scannerProbability_10 : decode cX5_scannerProbability 10 = .ok (.iload_n 2, 1) := by decide +kernel
theorem dX5_scannerProbability_11 : decode cX5_scannerProbability 11 = .ok (.iconst 0, 1) := by decide +kernel
theorem dX5_scannerProbability_12 : decode cX5_scannerProbability 12 = .ok (.bipush 60, 2) := by decide +kernel
theorem dX5_scannerProbability_14 : decode cX5_scannerProbability 14 = .ok (.invokestatic 54, 3) := by decide +kernel
theorem dX5_scannerProbability_17 : decode cX5_scannerProbability 17 = .ok (.ifCond .ne 7, 3) := by decide +kernel
theorem dX5_scannerProbability_20 : decode cX5_scannerProbability 20 = .ok (.ldc2_w 197, 3) := by decide +kernel
theorem dX5_scannerProbability_23 : decode cX5_scannerProbability 23 = .ok (.lreturn, 1) := by decide +kernel
theorem dX5_scannerProbability_24 : decode cX5_scannerProbability 24 = .ok (.aload_n 0, 1) := by decide +kernel
theorem dX5_scannerProbability_25 : decode cX5_scannerProbability 25 = .ok (.getfield 19, 3) := by decide +kernel
theorem dX5_scannerProbability_28 : decode cX5_scannerProbability 28 = .ok (.iload_n 1, 1) := by decide +kernel
theorem dX5_scannerProbability_29 : decode cX5_scannerProbability 29 = .ok (.i2d, 1) := by decide +kernel
theorem dX5_scannerProbability_30 : decode cX5_scannerProbability 30 = .ok (.ldc2_w 199, 3) := by decide +kernel
theorem dX5_scannerProbability_33 : decode cX5_scannerProbability 33 = .ok (.ddiv, 1) := by decide +kernel
theorem dX5_scannerProbability_34 : decode cX5_scannerProbability 34 = .ok (.iload_n 2, 1) := by decide +kernel
theorem dX5_scannerProbability_35 : decode cX5_scannerProbability 35 = .ok (.invokevirtual 201, 3) := by decide +kernel
theorem dX5_scannerProbability_38 : decode cX5_scannerProbability 38 = .ok (.invokestatic 205, 3) := by decide +kernel
theorem dX5_scannerProbability_41 : decode cX5_scannerProbability 41 = .ok (.lreturn, 1) := by decide +kernel
theorem dX5_expectedContacts_0 : decode cX5_expectedContacts 0 = .ok (.iload_n 1, 1) := by decide +kernel
theorem dX5_expectedContacts_1 : decode cX5_expectedContacts 1 = .ok (.iconst 0, 1) := by decide +kernel
theorem dX5_expectedContacts_2 : decode cX5_expectedContacts 2 = .ok (.bipush 100, 2) := by decide +kernel
theorem dX5_expectedContacts_4 : decode cX5_expectedContacts 4 = .ok (.invokestatic 54, 3) := by decide +kernel
theorem dX5_expectedContacts_7 : decode cX5_expectedContacts 7 = .ok (.ifCond .eq 13, 3) := by decide +kernel
theorem dX5_expectedContacts_10 : decode cX5_expectedContacts 10 = .ok (.iload_n 2, 1) := by decide +kernel
theorem dX5_expectedContacts_11 : decode cX5_expectedContacts 11 = .ok (.iconst 0, 1) := by decide +kernel
theorem dX5_expectedContacts_12 : decode cX5_expectedContacts 12 = .ok (.bipush 60, 2) := by decide +kernel
theorem dX5_expectedContacts_14 : decode cX5_expectedContacts 14 = .ok (.invokestatic 54, 3) := by decide +kernel
theorem dX5_expectedContacts_17 : decode cX5_expectedContacts 17 = .ok (.ifCond .ne 7, 3) := by decide +kernel
theorem dX5_expectedContacts_20 : decode cX5_expectedContacts 20 = .ok (.ldc2_w 197, 3) := by decide +kernel
theorem dX5_expectedContacts_23 : decode cX5_expectedContacts 23 = .ok (.lreturn, 1) := by decide +kernel
theorem dX5_expectedContacts_24 : decode cX5_expectedContacts 24 = .ok (.aload_n 0, 1) := by decide +kernel
theorem dX5_expectedContacts_25 : decode cX5_expectedContacts 25 = .ok (.getfield 19, 3) := by decide +kernel
theorem dX5_expectedContacts_28 : decode cX5_expectedContacts 28 = .ok (.iload_n 1, 1) := by decide +kernel
theorem dX5_expectedContacts_29 : decode cX5_expectedContacts 29 = .ok (.i2d, 1) := by decide +kernel
theorem dX5_expectedContacts_30 : decode cX5_expectedContacts 30 = .ok (.ldc2_w 199, 3) := by decide +kernel
theorem dX5_expectedContacts_33 : decode cX5_expectedContacts 33 = .ok (.ddiv, 1) := by decide +kernel
theorem dX5_expectedContacts_34 : decode cX5_expectedContacts 34 = .ok (.iload_n 2, 1) := by decide +kernel
theorem dX5_expectedContacts_35 : decode cX5_expectedContacts 35 = .ok (.invokevirtual 209, 3) := by decide +kernel
theorem dX5_expectedContacts_38 : decode cX5_expectedContacts 38 = .ok (.invokestatic 205, 3) := by decide +kernel
theorem dX5_expectedContacts_41 : decode cX5_expectedContacts 41 = .ok (.lreturn, 1) := by decide +kernel
theorem dX5_bitsOf_0 : decode cX5_bitsOf 0 = .ok (.dload_n 0, 1) := by decide +kernel
theorem dX5_bitsOf_1 : decode cX5_bitsOf 1 = .ok (.dconst 0, 1) := by decide +kernel
theorem dX5_bitsOf_2 : decode cX5_bitsOf 2 = .ok (.dcmp .l, 1) := by decide +kernel
theorem dX5_bitsOf_3 : decode cX5_bitsOf 3 = .ok (.ifCond .gt 5, 3) := by decide +kernel
theorem dX5_bitsOf_6 : decode cX5_bitsOf 6 = .ok (.lconst 0, 1) := by decide +kernel
theorem dX5_bitsOf_7 : decode cX5_bitsOf 7 = .ok (.lreturn, 1) := by decide +kernel
theorem dX5_bitsOf_8 : decode cX5_bitsOf 8 = .ok (.dload_n 0, 1) := by decide +kernel
theorem dX5_bitsOf_9 : decode cX5_bitsOf 9 = .ok (.dstore_n 2, 1) := by decide +kernel
theorem dX5_bitsOf_10 : decode cX5_bitsOf 10 = .ok (.ldc2_w 212, 3) := by decide +kernel
theorem dX5_bitsOf_13 : decode cX5_bitsOf 13 = .ok (.lstore 4, 2) := by decide +kernel
theorem dX5_bitsOf_15 : decode cX5_bitsOf 15 = .ok (.iconst 0, 1) := by decide +kernel
theorem dX5_bitsOf_16 : decode cX5_bitsOf 16 = .ok (.istore 6, 2) := by decide +kernel
theorem dX5_bitsOf_18 : decode cX5_bitsOf 18 = .ok (.iload 6, 2) := by decide +kernel
theorem dX5_bitsOf_20 : decode cX5_bitsOf 20 = .ok (.sipush 1100, 3) := by decide +kernel
theorem dX5_bitsOf_23 : decode cX5_bitsOf 23 = .ok (.if_icmp .ge 29, 3) := by decide +kernel
theorem dX5_bitsOf_26 : decode cX5_bitsOf 26 = .ok (.dload_n 2, 1) := by decide +kernel
theorem dX5_bitsOf_27 : decode cX5_bitsOf 27 = .ok (.ldc2_w 214, 3) := by decide +kernel
theorem dX5_bitsOf_30 : decode cX5_bitsOf 30 = .ok (.dcmp .l, 1) := by decide +kernel
theorem dX5_bitsOf_31 : decode cX5_bitsOf 31 = .ok (.ifCond .lt 21, 3) := by decide +kernel
theorem dX5_bitsOf_34 : decode cX5_bitsOf 34 = .ok (.dload_n 2, 1) := by decide +kernel
theorem dX5_bitsOf_35 : decode cX5_bitsOf 35 = .ok (.ldc2_w 216, 3) := by decide +kernel
theorem dX5_bitsOf_38 : decode cX5_bitsOf 38 = .ok (.dmul, 1) := by decide +kernel
theorem dX5_bitsOf_39 : decode cX5_bitsOf 39 = .ok (.dstore_n 2, 1) := by decide +kernel
theorem dX5_bitsOf_40 : decode cX5_bitsOf 40 = .ok (.lload 4, 2) := by decide +kernel
theorem dX5_bitsOf_42 : decode cX5_bitsOf 42 = .ok (.lconst 1, 1) := by decide +kernel
theorem dX5_bitsOf_43 : decode cX5_bitsOf 43 = .ok (.ladd, 1) := by decide +kernel
theorem dX5_bitsOf_44 : decode cX5_bitsOf 44 = .ok (.lstore 4, 2) := by decide +kernel
theorem dX5_bitsOf_46 : decode cX5_bitsOf 46 = .ok (.iinc 6 1, 3) := by decide +kernel
theorem dX5_bitsOf_49 : decode cX5_bitsOf 49 = .ok (.goto (-31), 3) := by decide +kernel
theorem dX5_bitsOf_52 : decode cX5_bitsOf 52 = .ok (.iconst 0, 1) := by decide +kernel
theorem dX5_bitsOf_53 : decode cX5_bitsOf 53 = .ok (.istore 6, 2) := by decide +kernel
theorem dX5_bitsOf_55 : decode cX5_bitsOf 55 = .ok (.iload 6, 2) := by decide +kernel
theorem dX5_bitsOf_57 : decode cX5_bitsOf 57 = .ok (.sipush 1100, 3) := by decide +kernel
theorem dX5_bitsOf_60 : decode cX5_bitsOf 60 = .ok (.if_icmp .ge 27, 3) := by decide +kernel
theorem dX5_bitsOf_63 : decode cX5_bitsOf 63 = .ok (.dload_n 2, 1) := by decide +kernel
theorem dX5_bitsOf_64 : decode cX5_bitsOf 64 = .ok (.dconst 1, 1) := by decide +kernel
theorem dX5_bitsOf_65 : decode cX5_bitsOf 65 = .ok (.dcmp .g, 1) := by decide +kernel
theorem dX5_bitsOf_66 : decode cX5_bitsOf 66 = .ok (.ifCond .ge 21, 3) := by decide +kernel
theorem dX5_bitsOf_69 : decode cX5_bitsOf 69 = .ok (.dload_n 2, 1) := by decide +kernel
theorem dX5_bitsOf_70 : decode cX5_bitsOf 70 = .ok (.ldc2_w 214, 3) := by decide +kernel
theorem dX5_bitsOf_73 : decode cX5_bitsOf 73 = .ok (.dmul, 1) := by decide +kernel
theorem dX5_bitsOf_74 : decode cX5_bitsOf 74 = .ok (.dstore_n 2, 1) := by decide +kernel
theorem dX5_bitsOf_75 : decode cX5_bitsOf 75 = .ok (.lload 4, 2) := by decide +kernel
theorem dX5_bitsOf_77 : decode cX5_bitsOf 77 = .ok (.lconst 1, 1) := by decide +kernel
theorem dX5_bitsOf_78 : decode cX5_bitsOf 78 = .ok (.lsub, 1) := by decide +kernel
theorem dX5_bitsOf_79 : decode cX5_bitsOf 79 = .ok (.lstore 4, 2) := by decide +kernel
theorem dX5_bitsOf_81 : decode cX5_bitsOf 81 = .ok (.iinc 6 1, 3) := by decide +kernel
theorem dX5_bitsOf_84 : decode cX5_bitsOf 84 = .ok (.goto (-29), 3) := by decide +kernel
theorem dX5_bitsOf_87 : decode cX5_bitsOf 87 = .ok (.dload_n 2, 1) := by decide +kernel
theorem dX5_bitsOf_88 : decode cX5_bitsOf 88 = .ok (.dconst 1, 1) := by decide +kernel
theorem dX5_bitsOf_89 : decode cX5_bitsOf 89 = .ok (.dsub, 1) := by decide +kernel
theorem dX5_bitsOf_90 : decode cX5_bitsOf 90 = .ok (.ldc2_w 218, 3) := by decide +kernel
theorem dX5_bitsOf_93 : decode cX5_bitsOf 93 = .ok (.dmul, 1) := by decide +kernel
theorem dX5_bitsOf_94 : decode cX5_bitsOf 94 = .ok (.d2l, 1) := by decide +kernel
theorem dX5_bitsOf_95 : decode cX5_bitsOf 95 = .ok (.lstore 6, 2) := by decide +kernel
theorem dX5_bitsOf_97 : decode cX5_bitsOf 97 = .ok (.lload 4, 2) := by decide +kernel
theorem dX5_bitsOf_99 : decode cX5_bitsOf 99 = .ok (.bipush 52, 2) := by decide +kernel
theorem dX5_bitsOf_101 : decode cX5_bitsOf 101 = .ok (.lshl, 1) := by decide +kernel
theorem dX5_bitsOf_102 : decode cX5_bitsOf 102 = .ok (.lload 6, 2) := by decide +kernel
theorem dX5_bitsOf_104 : decode cX5_bitsOf 104 = .ok (.ladd, 1) := by decide +kernel
theorem dX5_bitsOf_105 : decode cX5_bitsOf 105 = .ok (.lreturn, 1) := by decide +kernel
theorem dX5_digest_0 : decode cX5_digest 0 = .ok (.ldc2_w 220, 3) := by decide +kernel
theorem dX5_digest_3 : decode cX5_digest 3 = .ok (.lstore_n 1, 1) := by decide +kernel
theorem dX5_digest_4 : decode cX5_digest 4 = .ok (.aload_n 0, 1) := by decide +kernel
theorem dX5_digest_5 : decode cX5_digest 5 = .ok (.lload_n 1, 1) := by decide +kernel
theorem dX5_digest_6 : decode cX5_digest 6 = .ok (.invokevirtual 222, 3) := by decide +kernel
theorem dX5_digest_9 : decode cX5_digest 9 = .ok (.lstore_n 1, 1) := by decide +kernel
theorem dX5_digest_10 : decode cX5_digest 10 = .ok (.aload_n 0, 1) := by decide +kernel
theorem dX5_digest_11 : decode cX5_digest 11 = .ok (.lload_n 1, 1) := by decide +kernel
theorem dX5_digest_12 : decode cX5_digest 12 = .ok (.invokevirtual 226, 3) := by decide +kernel
theorem dX5_digest_15 : decode cX5_digest 15 = .ok (.lstore_n 1, 1) := by decide +kernel
theorem dX5_digest_16 : decode cX5_digest 16 = .ok (.aload_n 0, 1) := by decide +kernel
theorem dX5_digest_17 : decode cX5_digest 17 = .ok (.lload_n 1, 1) := by decide +kernel
theorem dX5_digest_18 : decode cX5_digest 18 = .ok (.invokevirtual 229, 3) := by decide +kernel
theorem dX5_digest_21 : decode cX5_digest 21 = .ok (.lstore_n 1, 1) := by decide +kernel
theorem dX5_digest_22 : decode cX5_digest 22 = .ok (.aload_n 0, 1) := by decide +kernel
theorem dX5_digest_23 : decode cX5_digest 23 = .ok (.lload_n 1, 1) := by decide +kernel
theorem dX5_digest_24 : decode cX5_digest 24 = .ok (.invokevirtual 232, 3) := by decide +kernel
theorem dX5_digest_27 : decode cX5_digest 27 = .ok (.lstore_n 1, 1) := by decide +kernel
theorem dX5_digest_28 : decode cX5_digest 28 = .ok (.aload_n 0, 1) := by decide +kernel
theorem dX5_digest_29 : decode cX5_digest 29 = .ok (.lload_n 1, 1) := by decide +kernel
theorem dX5_digest_30 : decode cX5_digest 30 = .ok (.invokevirtual 235, 3) := by decide +kernel
theorem dX5_digest_33 : decode cX5_digest 33 = .ok (.lstore_n 1, 1) := by decide +kernel
theorem dX5_digest_34 : decode cX5_digest 34 = .ok (.aload_n 0, 1) := by decide +kernel
theorem dX5_digest_35 : decode cX5_digest 35 = .ok (.lload_n 1, 1) := by decide +kernel
theorem dX5_digest_36 : decode cX5_digest 36 = .ok (.invokevirtual 238, 3) := by decide +kernel
theorem dX5_digest_39 : decode cX5_digest 39 = .ok (.lreturn, 1) := by decide +kernel
theorem dX5_mix_0 : decode cX5_mix 0 = .ok (.ldc2_w 241, 3) := by decide +kernel
theorem dX5_mix_3 : decode cX5_mix 3 = .ok (.lload_n 0, 1) := by decide +kernel
theorem dX5_mix_4 : decode cX5_mix 4 = .ok (.lmul, 1) := by decide +kernel
theorem dX5_mix_5 : decode cX5_mix 5 = .ok (.lload_n 2, 1) := by decide +kernel
theorem dX5_mix_6 : decode cX5_mix 6 = .ok (.ladd, 1) := by decide +kernel
theorem dX5_mix_7 : decode cX5_mix 7 = .ok (.lreturn, 1) := by decide +kernel
theorem dX5_hashSettings_0 : decode cX5_hashSettings 0 = .ok (.lload_n 1, 1) := by decide +kernel
theorem dX5_hashSettings_1 : decode cX5_hashSettings 1 = .ok (.aload_n 0, 1) := by decide +kernel
theorem dX5_hashSettings_2 : decode cX5_hashSettings 2 = .ok (.getfield 44, 3) := by decide +kernel
theorem dX5_hashSettings_5 : decode cX5_hashSettings 5 = .ok (.i2l, 1) := by decide +kernel
theorem dX5_hashSettings_6 : decode cX5_hashSettings 6 = .ok (.invokestatic 243, 3) := by decide +kernel
theorem dX5_hashSettings_9 : decode cX5_hashSettings 9 = .ok (.lstore_n 3, 1) := by decide +kernel
theorem dX5_hashSettings_10 : decode cX5_hashSettings 10 = .ok (.lload_n 3, 1) := by decide +kernel
theorem dX5_hashSettings_11 : decode cX5_hashSettings 11 = .ok (.aload_n 0, 1) := by decide +kernel
theorem dX5_hashSettings_12 : decode cX5_hashSettings 12 = .ok (.getfield 19, 3) := by decide +kernel
theorem dX5_hashSettings_15 : decode cX5_hashSettings 15 = .ok (.getfield 247, 3) := by decide +kernel
theorem dX5_hashSettings_18 : decode cX5_hashSettings 18 = .ok (.i2l, 1) := by decide +kernel
theorem dX5_hashSettings_19 : decode cX5_hashSettings 19 = .ok (.invokestatic 243, 3) := by decide +kernel
theorem dX5_hashSettings_22 : decode cX5_hashSettings 22 = .ok (.lstore_n 3, 1) := by decide +kernel
theorem dX5_hashSettings_23 : decode cX5_hashSettings 23 = .ok (.lload_n 3, 1) := by decide +kernel
theorem dX5_hashSettings_24 : decode cX5_hashSettings 24 = .ok (.aload_n 0, 1) := by decide +kernel
theorem dX5_hashSettings_25 : decode cX5_hashSettings 25 = .ok (.getfield 19, 3) := by decide +kernel
theorem dX5_hashSettings_28 : decode cX5_hashSettings 28 = .ok (.getfield 250, 3) := by decide +kernel
theorem dX5_hashSettings_31 : decode cX5_hashSettings 31 = .ok (.i2l, 1) := by decide +kernel
theorem dX5_hashSettings_32 : decode cX5_hashSettings 32 = .ok (.invokestatic 243, 3) := by decide +kernel
theorem dX5_hashSettings_35 : decode cX5_hashSettings 35 = .ok (.lstore_n 3, 1) := by decide +kernel
theorem dX5_hashSettings_36 : decode cX5_hashSettings 36 = .ok (.lload_n 3, 1) := by decide +kernel
theorem dX5_hashSettings_37 : decode cX5_hashSettings 37 = .ok (.aload_n 0, 1) := by decide +kernel
theorem dX5_hashSettings_38 : decode cX5_hashSettings 38 = .ok (.getfield 19, 3) := by decide +kernel
theorem dX5_hashSettings_41 : decode cX5_hashSettings 41 = .ok (.getfield 253, 3) := by decide +kernel
theorem dX5_hashSettings_44 : decode cX5_hashSettings 44 = .ok (.i2l, 1) := by decide +kernel
theorem dX5_hashSettings_45 : decode cX5_hashSettings 45 = .ok (.invokestatic 243, 3) := by decide +kernel
theorem dX5_hashSettings_48 : decode cX5_hashSettings 48 = .ok (.lstore_n 3, 1) := by decide +kernel
theorem dX5_hashSettings_49 : decode cX5_hashSettings 49 = .ok (.lload_n 3, 1) := by decide +kernel
theorem dX5_hashSettings_50 : decode cX5_hashSettings 50 = .ok (.aload_n 0, 1) := by decide +kernel
theorem dX5_hashSettings_51 : decode cX5_hashSettings 51 = .ok (.getfield 19, 3) := by decide +kernel
theorem dX5_hashSettings_54 : decode cX5_hashSettings 54 = .ok (.getfield 256, 3) := by decide +kernel
theorem dX5_hashSettings_57 : decode cX5_hashSettings 57 = .ok (.i2l, 1) := by decide +kernel
theorem dX5_hashSettings_58 : decode cX5_hashSettings 58 = .ok (.invokestatic 243, 3) := by decide +kernel
theorem dX5_hashSettings_61 : decode cX5_hashSettings 61 = .ok (.lstore_n 3, 1) := by decide +kernel
theorem dX5_hashSettings_62 : decode cX5_hashSettings 62 = .ok (.lload_n 3, 1) := by decide +kernel
theorem dX5_hashSettings_63 : decode cX5_hashSettings 63 = .ok (.aload_n 0, 1) := by decide +kernel
theorem dX5_hashSettings_64 : decode cX5_hashSettings 64 = .ok (.getfield 48, 3) := by decide +kernel
theorem dX5_hashSettings_67 : decode cX5_hashSettings 67 = .ok (.i2l, 1) := by decide +kernel
theorem dX5_hashSettings_68 : decode cX5_hashSettings 68 = .ok (.invokestatic 243, 3) := by decide +kernel
theorem dX5_hashSettings_71 : decode cX5_hashSettings 71 = .ok (.lstore_n 3, 1) := by decide +kernel
theorem dX5_hashSettings_72 : decode cX5_hashSettings 72 = .ok (.lload_n 3, 1) := by decide +kernel
theorem dX5_hashSettings_73 : decode cX5_hashSettings 73 = .ok (.aload_n 0, 1) := by decide +kernel
theorem dX5_hashSettings_74 : decode cX5_hashSettings 74 = .ok (.getfield 51, 3) := by decide +kernel
theorem dX5_hashSettings_77 : decode cX5_hashSettings 77 = .ok (.i2l, 1) := by decide +kernel
theorem dX5_hashSettings_78 : decode cX5_hashSettings 78 = .ok (.invokestatic 243, 3) := by decide +kernel
theorem dX5_hashSettings_81 : decode cX5_hashSettings 81 = .ok (.lreturn, 1) := by decide +kernel
theorem dX5_hashCells_0 : decode cX5_hashCells 0 = .ok (.lload_n 1, 1) := by decide +kernel
theorem dX5_hashCells_1 : decode cX5_hashCells 1 = .ok (.lstore_n 3, 1) := by decide +kernel
theorem dX5_hashCells_2 : decode cX5_hashCells 2 = .ok (.iconst 0, 1) := by decide +kernel
theorem dX5_hashCells_3 : decode cX5_hashCells 3 = .ok (.istore 5, 2) := by decide +kernel
theorem dX5_hashCells_5 : decode cX5_hashCells 5 = .ok (.iload 5, 2) := by decide +kernel
theorem dX5_hashCells_7 : decode cX5_hashCells 7 = .ok (.aload_n 0, 1) := by decide +kernel
theorem dX5_hashCells_8 : decode cX5_hashCells 8 = .ok (.getfield 44, 3) := by decide +kernel
theorem dX5_hashCells_11 : decode cX5_hashCells 11 = .ok (.if_icmp .ge 68, 3) := by decide +kernel
theorem dX5_hashCells_14 : decode cX5_hashCells 14 = .ok (.lload_n 3, 1) := by decide +kernel
theorem dX5_hashCells_15 : decode cX5_hashCells 15 = .ok (.aload_n 0, 1) := by decide +kernel
theorem dX5_hashCells_16 : decode cX5_hashCells 16 = .ok (.iload 5, 2) := by decide +kernel
theorem dX5_hashCells_18 : decode cX5_hashCells 18 = .ok (.invokevirtual 259, 3) := by decide +kernel
theorem dX5_hashCells_21 : decode cX5_hashCells 21 = .ok (.i2l, 1) := by decide +kernel
theorem dX5_hashCells_22 : decode cX5_hashCells 22 = .ok (.invokestatic 243, 3) := by decide +kernel
theorem dX5_hashCells_25 : decode cX5_hashCells 25 = .ok (.lstore_n 3, 1) := by decide +kernel
theorem dX5_hashCells_26 : decode cX5_hashCells 26 = .ok (.lload_n 3, 1) := by decide +kernel
theorem dX5_hashCells_27 : decode cX5_hashCells 27 = .ok (.aload_n 0, 1) := by decide +kernel
theorem dX5_hashCells_28 : decode cX5_hashCells 28 = .ok (.iload 5, 2) := by decide +kernel
theorem dX5_hashCells_30 : decode cX5_hashCells 30 = .ok (.invokevirtual 261, 3) := by decide +kernel
theorem dX5_hashCells_33 : decode cX5_hashCells 33 = .ok (.i2l, 1) := by decide +kernel
theorem dX5_hashCells_34 : decode cX5_hashCells 34 = .ok (.invokestatic 243, 3) := by decide +kernel
theorem dX5_hashCells_37 : decode cX5_hashCells 37 = .ok (.lstore_n 3, 1) := by decide +kernel
theorem dX5_hashCells_38 : decode cX5_hashCells 38 = .ok (.lload_n 3, 1) := by decide +kernel
theorem dX5_hashCells_39 : decode cX5_hashCells 39 = .ok (.aload_n 0, 1) := by decide +kernel
theorem dX5_hashCells_40 : decode cX5_hashCells 40 = .ok (.iload 5, 2) := by decide +kernel
theorem dX5_hashCells_42 : decode cX5_hashCells 42 = .ok (.invokevirtual 264, 3) := by decide +kernel
theorem dX5_hashCells_45 : decode cX5_hashCells 45 = .ok (.invokestatic 243, 3) := by decide +kernel
theorem dX5_hashCells_48 : decode cX5_hashCells 48 = .ok (.lstore_n 3, 1) := by decide +kernel
theorem dX5_hashCells_49 : decode cX5_hashCells 49 = .ok (.lload_n 3, 1) := by decide +kernel
theorem dX5_hashCells_50 : decode cX5_hashCells 50 = .ok (.aload_n 0, 1) := by decide +kernel
theorem dX5_hashCells_51 : decode cX5_hashCells 51 = .ok (.iload 5, 2) := by decide +kernel
theorem dX5_hashCells_53 : decode cX5_hashCells 53 = .ok (.invokevirtual 268, 3) := by decide +kernel
theorem dX5_hashCells_56 : decode cX5_hashCells 56 = .ok (.i2l, 1) := by decide +kernel
theorem dX5_hashCells_57 : decode cX5_hashCells 57 = .ok (.invokestatic 243, 3) := by decide +kernel
theorem dX5_hashCells_60 : decode cX5_hashCells 60 = .ok (.lstore_n 3, 1) := by decide +kernel
theorem dX5_hashCells_61 : decode cX5_hashCells 61 = .ok (.lload_n 3, 1) := by decide +kernel
theorem dX5_hashCells_62 : decode cX5_hashCells 62 = .ok (.aload_n 0, 1) := by decide +kernel
theorem dX5_hashCells_63 : decode cX5_hashCells 63 = .ok (.iload 5, 2) := by decide +kernel
theorem dX5_hashCells_65 : decode cX5_hashCells 65 = .ok (.invokevirtual 271, 3) := by decide +kernel
theorem dX5_hashCells_68 : decode cX5_hashCells 68 = .ok (.i2l, 1) := by decide +kernel
theorem dX5_hashCells_69 : decode cX5_hashCells 69 = .ok (.invokestatic 243, 3) := by decide +kernel
theorem dX5_hashCells_72 : decode cX5_hashCells 72 = .ok (.lstore_n 3, 1) := by decide +kernel
theorem dX5_hashCells_73 : decode cX5_hashCells 73 = .ok (.iinc 5 1, 3) := by decide +kernel
theorem dX5_hashCells_76 : decode cX5_hashCells 76 = .ok (.goto (-71), 3) := by decide +kernel
theorem dX5_hashCells_79 : decode cX5_hashCells 79 = .ok (.lload_n 3, 1) := by decide +kernel
theorem dX5_hashCells_80 : decode cX5_hashCells 80 = .ok (.lreturn, 1) := by decide +kernel
theorem dX5_hashAttempts_0 : decode cX5_hashAttempts 0 = .ok (.lload_n 1, 1) := by decide +kernel
theorem dX5_hashAttempts_1 : decode cX5_hashAttempts 1 = .ok (.aload_n 0, 1) := by decide +kernel
theorem dX5_hashAttempts_2 : decode cX5_hashAttempts 2 = .ok (.getfield 26, 3) := by decide +kernel
theorem dX5_hashAttempts_5 : decode cX5_hashAttempts 5 = .ok (.getfield 66, 3) := by decide +kernel
theorem dX5_hashAttempts_8 : decode cX5_hashAttempts 8 = .ok (.i2l, 1) := by decide +kernel
theorem dX5_hashAttempts_9 : decode cX5_hashAttempts 9 = .ok (.invokestatic 243, 3) := by decide +kernel
theorem dX5_hashAttempts_12 : decode cX5_hashAttempts 12 = .ok (.lstore_n 3, 1) := by decide +kernel
theorem dX5_hashAttempts_13 : decode cX5_hashAttempts 13 = .ok (.iconst 0, 1) := by decide +kernel
theorem dX5_hashAttempts_14 : decode cX5_hashAttempts 14 = .ok (.istore 5, 2) := by decide +kernel
theorem dX5_hashAttempts_16 : decode cX5_hashAttempts 16 = .ok (.iload 5, 2) := by decide +kernel
theorem dX5_hashAttempts_18 : decode cX5_hashAttempts 18 = .ok (.aload_n 0, 1) := by decide +kernel
theorem dX5_hashAttempts_19 : decode cX5_hashAttempts 19 = .ok (.getfield 26, 3) := by decide +kernel
theorem dX5_hashAttempts_22 : decode cX5_hashAttempts 22 = .ok (.getfield 66, 3) := by decide +kernel
theorem dX5_hashAttempts_25 : decode cX5_hashAttempts 25 = .ok (.if_icmp .ge 21, 3) := by decide +kernel
theorem dX5_hashAttempts_28 : decode cX5_hashAttempts 28 = .ok (.lload_n 3, 1) := by decide +kernel
theorem dX5_hashAttempts_29 : decode cX5_hashAttempts 29 = .ok (.aload_n 0, 1) := by decide +kernel
theorem dX5_hashAttempts_30 : decode cX5_hashAttempts 30 = .ok (.iload 5, 2) := by decide +kernel
theorem dX5_hashAttempts_32 : decode cX5_hashAttempts 32 = .ok (.invokevirtual 274, 3) := by decide +kernel
theorem dX5_hashAttempts_35 : decode cX5_hashAttempts 35 = .ok (.i2l, 1) := by decide +kernel
theorem dX5_hashAttempts_36 : decode cX5_hashAttempts 36 = .ok (.invokestatic 243, 3) := by decide +kernel
theorem dX5_hashAttempts_39 : decode cX5_hashAttempts 39 = .ok (.lstore_n 3, 1) := by decide +kernel
theorem dX5_hashAttempts_40 : decode cX5_hashAttempts 40 = .ok (.iinc 5 1, 3) := by decide +kernel
theorem dX5_hashAttempts_43 : decode cX5_hashAttempts 43 = .ok (.goto (-27), 3) := by decide +kernel
theorem dX5_hashAttempts_46 : decode cX5_hashAttempts 46 = .ok (.lload_n 3, 1) := by decide +kernel
theorem dX5_hashAttempts_47 : decode cX5_hashAttempts 47 = .ok (.lreturn, 1) := by decide +kernel
theorem dX5_hashVerdicts_0 : decode cX5_hashVerdicts 0 = .ok (.lload_n 1, 1) := by decide +kernel
theorem dX5_hashVerdicts_1 : decode cX5_hashVerdicts 1 = .ok (.aload_n 0, 1) := by decide +kernel
theorem dX5_hashVerdicts_2 : decode cX5_hashVerdicts 2 = .ok (.getfield 33, 3) := by decide +kernel
theorem dX5_hashVerdicts_5 : decode cX5_hashVerdicts 5 = .ok (.getfield 69, 3) := by decide +kernel
theorem dX5_hashVerdicts_8 : decode cX5_hashVerdicts 8 = .ok (.i2l, 1) := by decide +kernel
theorem dX5_hashVerdicts_9 : decode cX5_hashVerdicts 9 = .ok (.invokestatic 243, 3) := by decide +kernel
theorem dX5_hashVerdicts_12 : decode cX5_hashVerdicts 12 = .ok (.lstore_n 3, 1) := by decide +kernel
theorem dX5_hashVerdicts_13 : decode cX5_hashVerdicts 13 = .ok (.iconst 0, 1) := by decide +kernel
theorem dX5_hashVerdicts_14 : decode cX5_hashVerdicts 14 = .ok (.istore 5, 2) := by decide +kernel
theorem dX5_hashVerdicts_16 : decode cX5_hashVerdicts 16 = .ok (.iload 5, 2) := by decide +kernel
theorem dX5_hashVerdicts_18 : decode cX5_hashVerdicts 18 = .ok (.aload_n 0, 1) := by decide +kernel
theorem dX5_hashVerdicts_19 : decode cX5_hashVerdicts 19 = .ok (.getfield 33, 3) := by decide +kernel
theorem dX5_hashVerdicts_22 : decode cX5_hashVerdicts 22 = .ok (.invokevirtual 188, 3) := by decide +kernel
theorem dX5_hashVerdicts_25 : decode cX5_hashVerdicts 25 = .ok (.if_icmp .ge 21, 3) := by decide +kernel
theorem dX5_hashVerdicts_28 : decode cX5_hashVerdicts 28 = .ok (.lload_n 3, 1) := by decide +kernel
theorem dX5_hashVerdicts_29 : decode cX5_hashVerdicts 29 = .ok (.aload_n 0, 1) := by decide +kernel
theorem dX5_hashVerdicts_30 : decode cX5_hashVerdicts 30 = .ok (.iload 5, 2) := by decide +kernel
theorem dX5_hashVerdicts_32 : decode cX5_hashVerdicts 32 = .ok (.invokevirtual 277, 3) := by decide +kernel
theorem dX5_hashVerdicts_35 : decode cX5_hashVerdicts 35 = .ok (.i2l, 1) := by decide +kernel
theorem dX5_hashVerdicts_36 : decode cX5_hashVerdicts 36 = .ok (.invokestatic 243, 3) := by decide +kernel
theorem dX5_hashVerdicts_39 : decode cX5_hashVerdicts 39 = .ok (.lstore_n 3, 1) := by decide +kernel
theorem dX5_hashVerdicts_40 : decode cX5_hashVerdicts 40 = .ok (.iinc 5 1, 3) := by decide +kernel
theorem dX5_hashVerdicts_43 : decode cX5_hashVerdicts 43 = .ok (.goto (-27), 3) := by decide +kernel
theorem dX5_hashVerdicts_46 : decode cX5_hashVerdicts 46 = .ok (.lload_n 3, 1) := by decide +kernel
theorem dX5_hashVerdicts_47 : decode cX5_hashVerdicts 47 = .ok (.lreturn, 1) := by decide +kernel
theorem dX5_hashAnalysis_0 : decode cX5_hashAnalysis 0 = .ok (.lload_n 1, 1) := by decide +kernel
theorem dX5_hashAnalysis_1 : decode cX5_hashAnalysis 1 = .ok (.aload_n 0, 1) := by decide +kernel
theorem dX5_hashAnalysis_2 : decode cX5_hashAnalysis 2 = .ok (.bipush 10, 2) := by decide +kernel
theorem dX5_hashAnalysis_4 : decode cX5_hashAnalysis 4 = .ok (.iconst 1, 1) := by decide +kernel
theorem dX5_hashAnalysis_5 : decode cX5_hashAnalysis 5 = .ok (.invokevirtual 280, 3) := by decide +kernel
theorem dX5_hashAnalysis_8 : decode cX5_hashAnalysis 8 = .ok (.i2l, 1) := by decide +kernel
theorem dX5_hashAnalysis_9 : decode cX5_hashAnalysis 9 = .ok (.invokestatic 243, 3) := by decide +kernel
theorem dX5_hashAnalysis_12 : decode cX5_hashAnalysis 12 = .ok (.lstore_n 3, 1) := by decide +kernel
theorem dX5_hashAnalysis_13 : decode cX5_hashAnalysis 13 = .ok (.lload_n 3, 1) := by decide +kernel
theorem dX5_hashAnalysis_14 : decode cX5_hashAnalysis 14 = .ok (.aload_n 0, 1) := by decide +kernel
theorem dX5_hashAnalysis_15 : decode cX5_hashAnalysis 15 = .ok (.bipush 10, 2) := by decide +kernel
theorem dX5_hashAnalysis_17 : decode cX5_hashAnalysis 17 = .ok (.iconst 2, 1) := by decide +kernel
theorem dX5_hashAnalysis_18 : decode cX5_hashAnalysis 18 = .ok (.invokevirtual 280, 3) := by decide +kernel
theorem dX5_hashAnalysis_21 : decode cX5_hashAnalysis 21 = .ok (.i2l, 1) := by decide +kernel
theorem dX5_hashAnalysis_22 : decode cX5_hashAnalysis 22 = .ok (.invokestatic 243, 3) := by decide +kernel
theorem dX5_hashAnalysis_25 : decode cX5_hashAnalysis 25 = .ok (.lstore_n 3, 1) := by decide +kernel
theorem dX5_hashAnalysis_26 : decode cX5_hashAnalysis 26 = .ok (.lload_n 3, 1) := by decide +kernel
theorem dX5_hashAnalysis_27 : decode cX5_hashAnalysis 27 = .ok (.aload_n 0, 1) := by decide +kernel
theorem dX5_hashAnalysis_28 : decode cX5_hashAnalysis 28 = .ok (.bipush 20, 2) := by decide +kernel
theorem dX5_hashAnalysis_30 : decode cX5_hashAnalysis 30 = .ok (.bipush 12, 2) := by decide +kernel
theorem dX5_hashAnalysis_32 : decode cX5_hashAnalysis 32 = .ok (.invokevirtual 283, 3) := by decide +kernel
theorem dX5_hashAnalysis_35 : decode cX5_hashAnalysis 35 = .ok (.invokestatic 243, 3) := by decide +kernel
theorem dX5_hashAnalysis_38 : decode cX5_hashAnalysis 38 = .ok (.lstore_n 3, 1) := by decide +kernel
theorem dX5_hashAnalysis_39 : decode cX5_hashAnalysis 39 = .ok (.lload_n 3, 1) := by decide +kernel
theorem dX5_hashAnalysis_40 : decode cX5_hashAnalysis 40 = .ok (.aload_n 0, 1) := by decide +kernel
theorem dX5_hashAnalysis_41 : decode cX5_hashAnalysis 41 = .ok (.bipush 20, 2) := by decide +kernel
theorem dX5_hashAnalysis_43 : decode cX5_hashAnalysis 43 = .ok (.bipush 12, 2) := by decide +kernel
theorem dX5_hashAnalysis_45 : decode cX5_hashAnalysis 45 = .ok (.invokevirtual 287, 3) := by decide +kernel
theorem dX5_hashAnalysis_48 : decode cX5_hashAnalysis 48 = .ok (.invokestatic 243, 3) := by decide +kernel
theorem dX5_hashAnalysis_51 : decode cX5_hashAnalysis 51 = .ok (.lreturn, 1) := by decide +kernel
theorem dX5_hashInput_0 : decode cX5_hashInput 0 = .ok (.lload_n 1, 1) := by decide +kernel
theorem dX5_hashInput_1 : decode cX5_hashInput 1 = .ok (.aload_n 0, 1) := by decide +kernel
theorem dX5_hashInput_2 : decode cX5_hashInput 2 = .ok (.getfield 40, 3) := by decide +kernel
theorem dX5_hashInput_5 : decode cX5_hashInput 5 = .ok (.getfield 147, 3) := by decide +kernel
theorem dX5_hashInput_8 : decode cX5_hashInput 8 = .ok (.i2l, 1) := by decide +kernel
theorem dX5_hashInput_9 : decode cX5_hashInput 9 = .ok (.invokestatic 243, 3) := by decide +kernel
theorem dX5_hashInput_12 : decode cX5_hashInput 12 = .ok (.lstore_n 3, 1) := by decide +kernel
theorem dX5_hashInput_13 : decode cX5_hashInput 13 = .ok (.iconst 0, 1) := by decide +kernel
theorem dX5_hashInput_14 : decode cX5_hashInput 14 = .ok (.istore 5, 2) := by decide +kernel
theorem dX5_hashInput_16 : decode cX5_hashInput 16 = .ok (.iload 5, 2) := by decide +kernel
theorem dX5_hashInput_18 : decode cX5_hashInput 18 = .ok (.aload_n 0, 1) := by decide +kernel
theorem dX5_hashInput_19 : decode cX5_hashInput 19 = .ok (.getfield 40, 3) := by decide +kernel
theorem dX5_hashInput_22 : decode cX5_hashInput 22 = .ok (.getfield 147, 3) := by decide +kernel
theorem dX5_hashInput_25 : decode cX5_hashInput 25 = .ok (.if_icmp .ge 25, 3) := by decide +kernel
theorem dX5_hashInput_28 : decode cX5_hashInput 28 = .ok (.lload_n 3, 1) := by decide +kernel
theorem dX5_hashInput_29 : decode cX5_hashInput 29 = .ok (.aload_n 0, 1) := by decide +kernel
theorem dX5_hashInput_30 : decode cX5_hashInput 30 = .ok (.getfield 40, 3) := by decide +kernel
theorem dX5_hashInput_33 : decode cX5_hashInput 33 = .ok (.getfield 290, 3) := by decide +kernel
theorem dX5_hashInput_36 : decode cX5_hashInput 36 = .ok (.iload 5, 2) := by decide +kernel
theorem dX5_hashInput_38 : decode cX5_hashInput 38 = .ok (.iaload, 1) := by decide +kernel
theorem dX5_hashInput_39 : decode cX5_hashInput 39 = .ok (.i2l, 1) := by decide +kernel
theorem dX5_hashInput_40 : decode cX5_hashInput 40 = .ok (.invokestatic 243, 3) := by decide +kernel
theorem dX5_hashInput_43 : decode cX5_hashInput 43 = .ok (.lstore_n 3, 1) := by decide +kernel
theorem dX5_hashInput_44 : decode cX5_hashInput 44 = .ok (.iinc 5 1, 3) := by decide +kernel
theorem dX5_hashInput_47 : decode cX5_hashInput 47 = .ok (.goto (-31), 3) := by decide +kernel
theorem dX5_hashInput_50 : decode cX5_hashInput 50 = .ok (.lload_n 3, 1) := by decide +kernel
theorem dX5_hashInput_51 : decode cX5_hashInput 51 = .ok (.lreturn, 1) := by decide +kernel
theorem dJxe99ae_isNaN_b9ae7_0 : decode cJxe99ae_isNaN_b9ae7 0 = .ok (.dload_n 0, 1) := by decide +kernel
theorem dJxe99ae_isNaN_b9ae7_1 : decode cJxe99ae_isNaN_b9ae7 1 = .ok (.dload_n 0, 1) := by decide +kernel
theorem dJxe99ae_isNaN_b9ae7_2 : decode cJxe99ae_isNaN_b9ae7 2 = .ok (.dcmp .l, 1) := by decide +kernel
theorem dJxe99ae_isNaN_b9ae7_3 : decode cJxe99ae_isNaN_b9ae7 3 = .ok (.ifCond .eq 7, 3) := by decide +kernel
theorem dJxe99ae_isNaN_b9ae7_6 : decode cJxe99ae_isNaN_b9ae7 6 = .ok (.iconst 1, 1) := by decide +kernel
theorem dJxe99ae_isNaN_b9ae7_7 : decode cJxe99ae_isNaN_b9ae7 7 = .ok (.goto 4, 3) := by decide +kernel
theorem dJxe99ae_isNaN_b9ae7_10 : decode cJxe99ae_isNaN_b9ae7 10 = .ok (.iconst 0, 1) := by decide +kernel
theorem dJxe99ae_isNaN_b9ae7_11 : decode cJxe99ae_isNaN_b9ae7 11 = .ok (.ireturn, 1) := by decide +kernel
theorem dJxe99ae_doubleToLongBits_ccdee_0 : decode cJxe99ae_doubleToLongBits_ccdee 0 = .ok (.dload_n 0, 1) := by decide +kernel
theorem dJxe99ae_doubleToLongBits_ccdee_1 : decode cJxe99ae_doubleToLongBits_ccdee 1 = .ok (.invokestatic 122, 3) := by decide +kernel
theorem dJxe99ae_doubleToLongBits_ccdee_4 : decode cJxe99ae_doubleToLongBits_ccdee 4 = .ok (.ifCond .ne 8, 3) := by decide +kernel
theorem dJxe99ae_doubleToLongBits_ccdee_7 : decode cJxe99ae_doubleToLongBits_ccdee 7 = .ok (.dload_n 0, 1) := by decide +kernel
theorem dJxe99ae_doubleToLongBits_ccdee_8 : decode cJxe99ae_doubleToLongBits_ccdee 8 = .ok (.invokestatic 134, 3) := by decide +kernel
theorem dJxe99ae_doubleToLongBits_ccdee_11 : decode cJxe99ae_doubleToLongBits_ccdee 11 = .ok (.lreturn, 1) := by decide +kernel
theorem dJxe99ae_doubleToLongBits_ccdee_12 : decode cJxe99ae_doubleToLongBits_ccdee 12 = .ok (.ldc2_w 137, 3) := by decide +kernel
theorem dJxe99ae_doubleToLongBits_ccdee_15 : decode cJxe99ae_doubleToLongBits_ccdee 15 = .ok (.lreturn, 1) := by decide +kernel
theorem dJ9_floorMod_7cf53_0 : decode cJ9_floorMod_7cf53 0 = .ok (.iload_n 0, 1) := by decide +kernel
theorem dJ9_floorMod_7cf53_1 : decode cJ9_floorMod_7cf53 1 = .ok (.iload_n 1, 1) := by decide +kernel
theorem dJ9_floorMod_7cf53_2 : decode cJ9_floorMod_7cf53 2 = .ok (.irem, 1) := by decide +kernel
theorem dJ9_floorMod_7cf53_3 : decode cJ9_floorMod_7cf53 3 = .ok (.istore_n 2, 1) := by decide +kernel
theorem dJ9_floorMod_7cf53_4 : decode cJ9_floorMod_7cf53 4 = .ok (.iload_n 0, 1) := by decide +kernel
theorem dJ9_floorMod_7cf53_5 : decode cJ9_floorMod_7cf53 5 = .ok (.iload_n 1, 1) := by decide +kernel
theorem dJ9_floorMod_7cf53_6 : decode cJ9_floorMod_7cf53 6 = .ok (.ixor, 1) := by decide +kernel
theorem dJ9_floorMod_7cf53_7 : decode cJ9_floorMod_7cf53 7 = .ok (.ifCond .ge 11, 3) := by decide +kernel
theorem dJ9_floorMod_7cf53_10 : decode cJ9_floorMod_7cf53 10 = .ok (.iload_n 2, 1) := by decide +kernel
theorem dJ9_floorMod_7cf53_11 : decode cJ9_floorMod_7cf53 11 = .ok (.ifCond .eq 7, 3) := by decide +kernel
theorem dJ9_floorMod_7cf53_14 : decode cJ9_floorMod_7cf53 14 = .ok (.iload_n 2, 1) := by decide +kernel
theorem dJ9_floorMod_7cf53_15 : decode cJ9_floorMod_7cf53 15 = .ok (.iload_n 1, 1) := by decide +kernel
theorem dJ9_floorMod_7cf53_16 : decode cJ9_floorMod_7cf53 16 = .ok (.iadd, 1) := by decide +kernel
theorem dJ9_floorMod_7cf53_17 : decode cJ9_floorMod_7cf53 17 = .ok (.ireturn, 1) := by decide +kernel
theorem dJ9_floorMod_7cf53_18 : decode cJ9_floorMod_7cf53 18 = .ok (.iload_n 2, 1) := by decide +kernel
theorem dJ9_floorMod_7cf53_19 : decode cJ9_floorMod_7cf53 19 = .ok (.ireturn, 1) := by decide +kernel
theorem dJ9_max_7cf53_0 : decode cJ9_max_7cf53 0 = .ok (.iload_n 0, 1) := by decide +kernel
theorem dJ9_max_7cf53_1 : decode cJ9_max_7cf53 1 = .ok (.iload_n 1, 1) := by decide +kernel
theorem dJ9_max_7cf53_2 : decode cJ9_max_7cf53 2 = .ok (.if_icmp .lt 7, 3) := by decide +kernel
theorem dJ9_max_7cf53_5 : decode cJ9_max_7cf53 5 = .ok (.iload_n 0, 1) := by decide +kernel
theorem dJ9_max_7cf53_6 : decode cJ9_max_7cf53 6 = .ok (.goto 4, 3) := by decide +kernel
theorem dJ9_max_7cf53_9 : decode cJ9_max_7cf53 9 = .ok (.iload_n 1, 1) := by decide +kernel
theorem dJ9_max_7cf53_10 : decode cJ9_max_7cf53 10 = .ok (.ireturn, 1) := by decide +kernel
theorem dJ9_min_7cf53_0 : decode cJ9_min_7cf53 0 = .ok (.iload_n 0, 1) := by decide +kernel
theorem dJ9_min_7cf53_1 : decode cJ9_min_7cf53 1 = .ok (.iload_n 1, 1) := by decide +kernel
theorem dJ9_min_7cf53_2 : decode cJ9_min_7cf53 2 = .ok (.if_icmp .gt 7, 3) := by decide +kernel
theorem dJ9_min_7cf53_5 : decode cJ9_min_7cf53 5 = .ok (.iload_n 0, 1) := by decide +kernel
theorem dJ9_min_7cf53_6 : decode cJ9_min_7cf53 6 = .ok (.goto 4, 3) := by decide +kernel
theorem dJ9_min_7cf53_9 : decode cJ9_min_7cf53 9 = .ok (.iload_n 1, 1) := by decide +kernel
theorem dJ9_min_7cf53_10 : decode cJ9_min_7cf53 10 = .ok (.ireturn, 1) := by decide +kernel
theorem dJ7_fill_53178_0 : decode cJ7_fill_53178 0 = .ok (.iconst 0, 1) := by decide +kernel
theorem dJ7_fill_53178_1 : decode cJ7_fill_53178 1 = .ok (.istore_n 2, 1) := by decide +kernel
theorem dJ7_fill_53178_2 : decode cJ7_fill_53178 2 = .ok (.aload_n 0, 1) := by decide +kernel
theorem dJ7_fill_53178_3 : decode cJ7_fill_53178 3 = .ok (.arraylength, 1) := by decide +kernel
theorem dJ7_fill_53178_4 : decode cJ7_fill_53178 4 = .ok (.istore_n 3, 1) := by decide +kernel
theorem dJ7_fill_53178_5 : decode cJ7_fill_53178 5 = .ok (.iload_n 2, 1) := by decide +kernel
theorem dJ7_fill_53178_6 : decode cJ7_fill_53178 6 = .ok (.iload_n 3, 1) := by decide +kernel
theorem dJ7_fill_53178_7 : decode cJ7_fill_53178 7 = .ok (.if_icmp .ge 13, 3) := by decide +kernel
theorem dJ7_fill_53178_10 : decode cJ7_fill_53178 10 = .ok (.aload_n 0, 1) := by decide +kernel
theorem dJ7_fill_53178_11 : decode cJ7_fill_53178 11 = .ok (.iload_n 2, 1) := by decide +kernel
theorem dJ7_fill_53178_12 : decode cJ7_fill_53178 12 = .ok (.iload_n 1, 1) := by decide +kernel
theorem dJ7_fill_53178_13 : decode cJ7_fill_53178 13 = .ok (.iastore, 1) := by decide +kernel
theorem dJ7_fill_53178_14 : decode cJ7_fill_53178 14 = .ok (.iinc 2 1, 3) := by decide +kernel
theorem dJ7_fill_53178_17 : decode cJ7_fill_53178 17 = .ok (.goto (-12), 3) := by decide +kernel
theorem dJ7_fill_53178_20 : decode cJ7_fill_53178 20 = .ok (.return_, 1) := by decide +kernel
theorem dJ7_fill_7f8df_0 : decode cJ7_fill_7f8df 0 = .ok (.iconst 0, 1) := by decide +kernel
theorem dJ7_fill_7f8df_1 : decode cJ7_fill_7f8df 1 = .ok (.istore_n 3, 1) := by decide +kernel
theorem dJ7_fill_7f8df_2 : decode cJ7_fill_7f8df 2 = .ok (.aload_n 0, 1) := by decide +kernel
theorem dJ7_fill_7f8df_3 : decode cJ7_fill_7f8df 3 = .ok (.arraylength, 1) := by decide +kernel
theorem dJ7_fill_7f8df_4 : decode cJ7_fill_7f8df 4 = .ok (.istore 4, 2) := by decide +kernel
theorem dJ7_fill_7f8df_6 : decode cJ7_fill_7f8df 6 = .ok (.iload_n 3, 1) := by decide +kernel
theorem dJ7_fill_7f8df_7 : decode cJ7_fill_7f8df 7 = .ok (.iload 4, 2) := by decide +kernel
theorem dJ7_fill_7f8df_9 : decode cJ7_fill_7f8df 9 = .ok (.if_icmp .ge 13, 3) := by decide +kernel
theorem dJ7_fill_7f8df_12 : decode cJ7_fill_7f8df 12 = .ok (.aload_n 0, 1) := by decide +kernel
theorem dJ7_fill_7f8df_13 : decode cJ7_fill_7f8df 13 = .ok (.iload_n 3, 1) := by decide +kernel
theorem dJ7_fill_7f8df_14 : decode cJ7_fill_7f8df 14 = .ok (.dload_n 1, 1) := by decide +kernel
theorem dJ7_fill_7f8df_15 : decode cJ7_fill_7f8df 15 = .ok (.dastore, 1) := by decide +kernel
theorem dJ7_fill_7f8df_16 : decode cJ7_fill_7f8df 16 = .ok (.iinc 3 1, 3) := by decide +kernel
theorem dJ7_fill_7f8df_19 : decode cJ7_fill_7f8df 19 = .ok (.goto (-13), 3) := by decide +kernel
theorem dJ7_fill_7f8df_22 : decode cJ7_fill_7f8df 22 = .ok (.return_, 1) := by decide +kernel
end
section
theorem dX6_init_0 : decode cX6_init 0 = .ok (.aload_n 0, 1) := by decide +kernel
theorem dX6_init_1 : decode cX6_init 1 = .ok (.invokespecial 1, 3) := by decide +kernel
theorem dX6_init_4 : decode cX6_init 4 = .ok (.aload_n 0, 1) := by decide +kernel
theorem dX6_init_5 : decode cX6_init 5 = .ok (.bipush 8, 2) := by decide +kernel
theorem dX6_init_7 : decode cX6_init 7 = .ok (.putfield 7, 3) := by decide +kernel
theorem dX6_init_10 : decode cX6_init 10 = .ok (.aload_n 0, 1) := by decide +kernel
theorem dX6_init_11 : decode cX6_init 11 = .ok (.iconst 3, 1) := by decide +kernel
theorem dX6_init_12 : decode cX6_init 12 = .ok (.putfield 13, 3) := by decide +kernel
theorem dX6_init_15 : decode cX6_init 15 = .ok (.aload_n 0, 1) := by decide +kernel
theorem dX6_init_16 : decode cX6_init 16 = .ok (.iconst 2, 1) := by decide +kernel
theorem dX6_init_17 : decode cX6_init 17 = .ok (.putfield 16, 3) := by decide +kernel
theorem dX6_init_20 : decode cX6_init 20 = .ok (.aload_n 0, 1) := by decide +kernel
theorem dX6_init_21 : decode cX6_init 21 = .ok (.bipush 12, 2) := by decide +kernel
theorem dX6_init_23 : decode cX6_init 23 = .ok (.putfield 19, 3) := by decide +kernel
theorem dX6_init_26 : decode cX6_init 26 = .ok (.aload_n 0, 1) := by decide +kernel
theorem dX6_init_27 : decode cX6_init 27 = .ok (.bipush (-8), 2) := by decide +kernel
theorem dX6_init_29 : decode cX6_init 29 = .ok (.putfield 22, 3) := by decide +kernel
theorem dX6_init_32 : decode cX6_init 32 = .ok (.aload_n 0, 1) := by decide +kernel
theorem dX6_init_33 : decode cX6_init 33 = .ok (.iconst 3, 1) := by decide +kernel
theorem dX6_init_34 : decode cX6_init 34 = .ok (.putfield 25, 3) := by decide +kernel
theorem dX6_init_37 : decode cX6_init 37 = .ok (.aload_n 0, 1) := by decide +kernel
theorem dX6_init_38 : decode cX6_init 38 = .ok (.bipush 8, 2) := by decide +kernel
theorem dX6_init_40 : decode cX6_init 40 = .ok (.newarray .int, 2) := by decide +kernel
theorem dX6_init_42 : decode cX6_init 42 = .ok (.putfield 28, 3) := by decide +kernel
theorem dX6_init_45 : decode cX6_init 45 = .ok (.aload_n 0, 1) := by decide +kernel
theorem dX6_init_46 : decode cX6_init 46 = .ok (.bipush 8, 2) := by decide +kernel
theorem dX6_init_48 : decode cX6_init 48 = .ok (.newarray .boolean, 2) := by decide +kernel
theorem dX6_init_50 : decode cX6_init 50 = .ok (.putfield 32, 3) := by decide +kernel
theorem dX6_init_53 : decode cX6_init 53 = .ok (.aload_n 0, 1) := by decide +kernel
theorem dX6_init_54 : decode cX6_init 54 = .ok (.bipush 8, 2) := by decide +kernel
theorem dX6_init_56 : decode cX6_init 56 = .ok (.newarray .long, 2) := by decide +kernel
theorem dX6_init_58 : decode cX6_init 58 = .ok (.putfield 36, 3) := by decide +kernel
theorem dX6_init_61 : decode cX6_init 61 = .ok (.aload_n 0, 1) := by decide +kernel
theorem dX6_init_62 : decode cX6_init 62 = .ok (.bipush 8, 2) := by decide +kernel
theorem dX6_init_64 : decode cX6_init 64 = .ok (.newarray .int, 2) := by decide +kernel
theorem dX6_init_66 : decode cX6_init 66 = .ok (.putfield 40, 3) := by decide +kernel
theorem dX6_init_69 : decode cX6_init 69 = .ok (.aload_n 0, 1) := by decide +kernel
theorem dX6_init_70 : decode cX6_init 70 = .ok (.bipush 8, 2) := by decide +kernel
theorem dX6_init_72 : decode cX6_init 72 = .ok (.newarray .int, 2) := by decide +kernel
theorem dX6_init_74 : decode cX6_init 74 = .ok (.putfield 43, 3) := by decide +kernel
theorem dX6_init_77 : decode cX6_init 77 = .ok (.aload_n 0, 1) := by decide +kernel
theorem dX6_init_78 : decode cX6_init 78 = .ok (.bipush 12, 2) := by decide +kernel
theorem dX6_init_80 : decode cX6_init 80 = .ok (.newarray .int, 2) := by decide +kernel
theorem dX6_init_82 : decode cX6_init 82 = .ok (.putfield 46, 3) := by decide +kernel
theorem dX6_init_85 : decode cX6_init 85 = .ok (.aload_n 0, 1) := by decide +kernel
theorem dX6_init_86 : decode cX6_init 86 = .ok (.bipush 12, 2) := by decide +kernel
theorem dX6_init_88 : decode cX6_init 88 = .ok (.newarray .int, 2) := by decide +kernel
theorem dX6_init_90 : decode cX6_init 90 = .ok (.putfield 49, 3) := by decide +kernel
theorem dX6_init_93 : decode cX6_init 93 = .ok (.aload_n 0, 1) := by decide +kernel
theorem dX6_init_94 : decode cX6_init 94 = .ok (.bipush 12, 2) := by decide +kernel
theorem dX6_init_96 : decode cX6_init 96 = .ok (.newarray .int, 2) := by decide +kernel
theorem dX6_init_98 : decode cX6_init 98 = .ok (.putfield 52, 3) := by decide +kernel
theorem dX6_init_101 : decode cX6_init 101 = .ok (.aload_n 0, 1) := by decide +kernel
theorem dX6_init_102 : decode cX6_init 102 = .ok (.bipush 16, 2) := by decide +kernel
theorem dX6_init_104 : decode cX6_init 104 = .ok (.newarray .int, 2) := by decide +kernel
theorem dX6_init_106 : decode cX6_init 106 = .ok (.putfield 55, 3) := by decide +kernel
theorem dX6_init_109 : decode cX6_init 109 = .ok (.aload_n 0, 1) := by decide +kernel
theorem dX6_init_110 : decode cX6_init 110 = .ok (.bipush 59, 2) := by decide +kernel
theorem dX6_init_112 : decode cX6_init 112 = .ok (.newarray .int, 2) := by decide +kernel
theorem dX6_init_114 : decode cX6_init 114 = .ok (.putfield 58, 3) := by decide +kernel
theorem dX6_init_117 : decode cX6_init 117 = .ok (.aload_n 0, 1) := by decide +kernel
theorem dX6_init_118 : decode cX6_init 118 = .ok (.bipush 121, 2) := by decide +kernel
theorem dX6_init_120 : decode cX6_init 120 = .ok (.newarray .int, 2) := by decide +kernel
theorem dX6_init_122 : decode cX6_init 122 = .ok (.putfield 61, 3) := by decide +kernel
theorem dX6_init_125 : decode cX6_init 125 = .ok (.aload_n 0, 1) := by decide +kernel
theorem dX6_init_126 : decode cX6_init 126 = .ok (.bipush 121, 2) := by decide +kernel
theorem dX6_init_128 : decode cX6_init 128 = .ok (.newarray .int, 2) := by decide +kernel
theorem dX6_init_130 : decode cX6_init 130 = .ok (.putfield 64, 3) := by decide +kernel
theorem dX6_init_133 : decode cX6_init 133 = .ok (.aload_n 0, 1) := by decide +kernel
theorem dX6_init_134 : decode cX6_init 134 = .ok (.bipush 121, 2) := by decide +kernel
theorem dX6_init_136 : decode cX6_init 136 = .ok (.newarray .double, 2) := by decide +kernel
theorem dX6_init_138 : decode cX6_init 138 = .ok (.putfield 67, 3) := by decide +kernel
theorem dX6_init_141 : decode cX6_init 141 = .ok (.aload_n 0, 1) := by decide +kernel
theorem dX6_init_142 : decode cX6_init 142 = .ok (.bipush 121, 2) := by decide +kernel
theorem dX6_init_144 : decode cX6_init 144 = .ok (.newarray .double, 2) := by decide +kernel
theorem dX6_init_146 : decode cX6_init 146 = .ok (.putfield 71, 3) := by decide +kernel
theorem dX6_init_149 : decode cX6_init 149 = .ok (.return_, 1) := by decide +kernel
theorem dX6_within_0 : decode cX6_within 0 = .ok (.iload_n 0, 1) := by decide +kernel
theorem dX6_within_1 : decode cX6_within 1 = .ok (.iload_n 1, 1) := by decide +kernel
theorem dX6_within_2 : decode cX6_within 2 = .ok (.if_icmp .lt 12, 3) := by decide +kernel
theorem dX6_within_5 : decode cX6_within 5 = .ok (.iload_n 0, 1) := by decide +kernel
theorem dX6_within_6 : decode cX6_within 6 = .ok (.iload_n 2, 1) := by decide +kernel
theorem dX6_within_7 : decode cX6_within 7 = .ok (.if_icmp .gt 7, 3) := by decide +kernel
theorem dX6_within_10 : decode cX6_within 10 = .ok (.iconst 1, 1) := by decide +kernel
theorem dX6_within_11 : decode cX6_within 11 = .ok (.goto 4, 3) := by decide +kernel
theorem dX6_within_14 : decode cX6_within 14 = .ok (.iconst 0, 1) := by decide +kernel
theorem dX6_within_15 : decode cX6_within 15 = .ok (.ireturn, 1) := by decide +kernel
theorem dX6_reset_0 : decode cX6_reset 0 = .ok (.iconst 0, 1) := by decide +kernel
theorem dX6_reset_1 : decode cX6_reset 1 = .ok (.istore_n 1, 1) := by decide +kernel
theorem dX6_reset_2 : decode cX6_reset 2 = .ok (.iload_n 1, 1) := by decide +kernel
theorem dX6_reset_3 : decode cX6_reset 3 = .ok (.bipush 8, 2) := by decide +kernel
theorem dX6_reset_5 : decode cX6_reset 5 = .ok (.if_icmp .ge 44, 3) := by decide +kernel
theorem dX6_reset_8 : decode cX6_reset 8 = .ok (.aload_n 0, 1) := by decide +kernel
theorem dX6_reset_9 : decode cX6_reset 9 = .ok (.getfield 28, 3) := by decide +kernel
theorem dX6_reset_12 : decode cX6_reset 12 = .ok (.iload_n 1, 1) := by decide +kernel
theorem dX6_reset_13 : decode cX6_reset 13 = .ok (.iconst 0, 1) := by decide +kernel
theorem dX6_reset_14 : decode cX6_reset 14 = .ok (.iastore, 1) := by decide +kernel
theorem dX6_reset_15 : decode cX6_reset 15 = .ok (.aload_n 0, 1) := by decide +kernel
theorem dX6_reset_16 : decode cX6_reset 16 = .ok (.getfield 32, 3) := by decide +kernel
theorem dX6_reset_19 : decode cX6_reset 19 = .ok (.iload_n 1, 1) := by decide +kernel
theorem dX6_reset_20 : decode cX6_reset 20 = .ok (.iconst 0, 1) := by decide +kernel
theorem dX6_reset_21 : decode cX6_reset 21 = .ok (.bastore, 1) := by decide +kernel
theorem dX6_reset_22 : decode cX6_reset 22 = .ok (.aload_n 0, 1) := by decide +kernel
theorem dX6_reset_23 : decode cX6_reset 23 = .ok (.getfield 36, 3) := by decide +kernel
theorem dX6_reset_26 : decode cX6_reset 26 = .ok (.iload_n 1, 1) := by decide +kernel
theorem dX6_reset_27 : decode cX6_reset 27 = .ok (.lconst 0, 1) := by decide +kernel
theorem dX6_reset_28 : decode cX6_reset 28 = .ok (.lastore, 1) := by decide +kernel
theorem dX6_reset_29 : decode cX6_reset 29 = .ok (.aload_n 0, 1) := by decide +kernel
theorem dX6_reset_30 : decode cX6_reset 30 = .ok (.getfield 40, 3) := by decide +kernel
theorem dX6_reset_33 : decode cX6_reset 33 = .ok (.iload_n 1, 1) := by decide +kernel
theorem dX6_reset_34 : decode cX6_reset 34 = .ok (.iconst 0, 1) := by decide +kernel
theorem dX6_reset_35 : decode cX6_reset 35 = .ok (.iastore, 1) := by decide +kernel
theorem dX6_reset_36 : decode cX6_reset 36 = .ok (.aload_n 0, 1) := by decide +kernel
theorem dX6_reset_37 : decode cX6_reset 37 = .ok (.getfield 43, 3) := by decide +kernel
theorem dX6_reset_40 : decode cX6_reset 40 = .ok (.iload_n 1, 1) := by decide +kernel
theorem dX6_reset_41 : decode cX6_reset 41 = .ok (.iconst 0, 1) := by decide +kernel
theorem dX6_reset_42 : decode cX6_reset 42 = .ok (.iastore, 1) := by decide +kernel
theorem dX6_reset_43 : decode cX6_reset 43 = .ok (.iinc 1 1, 3) := by decide +kernel
theorem dX6_reset_46 : decode cX6_reset 46 = .ok (.goto (-44), 3) := by decide +kernel
theorem dX6_reset_49 : decode cX6_reset 49 = .ok (.aload_n 0, 1) := by decide +kernel
theorem dX6_reset_50 : decode cX6_reset 50 = .ok (.iconst 0, 1) := by decide +kernel
theorem dX6_reset_51 : decode cX6_reset 51 = .ok (.putfield 74, 3) := by decide +kernel
theorem dX6_reset_54 : decode cX6_reset 54 = .ok (.aload_n 0, 1) := by decide +kernel
theorem dX6_reset_55 : decode cX6_reset 55 = .ok (.iconst 0, 1) := by decide +kernel
theorem dX6_reset_56 : decode cX6_reset 56 = .ok (.putfield 77, 3) := by decide +kernel
theorem dX6_reset_59 : decode cX6_reset 59 = .ok (.aload_n 0, 1) := by decide +kernel
theorem dX6_reset_60 : decode cX6_reset 60 = .ok (.iconst 0, 1) := by decide +kernel
theorem dX6_reset_61 : decode cX6_reset 61 = .ok (.putfield 80, 3) := by decide +kernel
theorem dX6_reset_64 : decode cX6_reset 64 = .ok (.return_, 1) := by decide +kernel
theorem dX6_configure_0 : decode cX6_configure 0 = .ok (.iload_n 1, 1) := by decide +kernel
theorem dX6_configure_1 : decode cX6_configure 1 = .ok (.iconst 1, 1) := by decide +kernel
theorem dX6_configure_2 : decode cX6_configure 2 = .ok (.bipush 9, 2) := by decide +kernel
theorem dX6_configure_4 : decode cX6_configure 4 = .ok (.invokestatic 83, 3) := by decide +kernel
theorem dX6_configure_7 : decode cX6_configure 7 = .ok (.ifCond .eq 34, 3) := by decide +kernel
theorem dX6_configure_10 : decode cX6_configure 10 = .ok (.iload_n 2, 1) := by decide +kernel
theorem dX6_configure_11 : decode cX6_configure 11 = .ok (.iconst 1, 1) := by decide +kernel
theorem dX6_configure_12 : decode cX6_configure 12 = .ok (.bipush 9, 2) := by decide +kernel
theorem dX6_configure_14 : decode cX6_configure 14 = .ok (.invokestatic 83, 3) := by decide +kernel
theorem dX6_configure_17 : decode cX6_configure 17 = .ok (.ifCond .eq 24, 3) := by decide +kernel
theorem dX6_configure_20 : decode cX6_configure 20 = .ok (.iload_n 3, 1) := by decide +kernel
theorem dX6_configure_21 : decode cX6_configure 21 = .ok (.iconst 1, 1) := by decide +kernel
theorem dX6_configure_22 : decode cX6_configure 22 = .ok (.bipush 60, 2) := by decide +kernel
theorem dX6_configure_24 : decode cX6_configure 24 = .ok (.invokestatic 83, 3) := by decide +kernel
theorem dX6_configure_27 : decode cX6_configure 27 = .ok (.ifCond .eq 14, 3) := by decide +kernel
theorem dX6_configure_30 : decode cX6_configure 30 = .ok (.iload 4, 2) := by decide +kernel
theorem dX6_configure_32 : decode cX6_configure 32 = .ok (.bipush (-60), 2) := by decide +kernel
theorem dX6_configure_34 : decode cX6_configure 34 = .ok (.iconst (-1), 1) := by decide +kernel
theorem dX6_configure_35 : decode cX6_configure 35 = .ok (.invokestatic 83, 3) := by decide +kernel
theorem dX6_configure_38 : decode cX6_configure 38 = .ok (.ifCond .ne 6, 3) := by decide +kernel
theorem dX6_configure_41 : decode cX6_configure 41 = .ok (.bipush (-104), 2) := by decide +kernel
theorem dX6_configure_43 : decode cX6_configure 43 = .ok (.ireturn, 1) := by decide +kernel
theorem dX6_configure_44 : decode cX6_configure 44 = .ok (.aload_n 0, 1) := by decide +kernel
theorem dX6_configure_45 : decode cX6_configure 45 = .ok (.iload_n 1, 1) := by decide +kernel
theorem dX6_configure_46 : decode cX6_configure 46 = .ok (.putfield 13, 3) := by decide +kernel
theorem dX6_configure_49 : decode cX6_configure 49 = .ok (.aload_n 0, 1) := by decide +kernel
theorem dX6_configure_50 : decode cX6_configure 50 = .ok (.iload_n 2, 1) := by decide +kernel
theorem dX6_configure_51 : decode cX6_configure 51 = .ok (.putfield 16, 3) := by decide +kernel
theorem dX6_configure_54 : decode cX6_configure 54 = .ok (.aload_n 0, 1) := by decide +kernel
theorem dX6_configure_55 : decode cX6_configure 55 = .ok (.iload_n 3, 1) := by decide +kernel
theorem dX6_configure_56 : decode cX6_configure 56 = .ok (.putfield 19, 3) := by decide +kernel
theorem dX6_configure_59 : decode cX6_configure 59 = .ok (.aload_n 0, 1) := by decide +kernel
theorem dX6_configure_60 : decode cX6_configure 60 = .ok (.iload 4, 2) := by decide +kernel
theorem dX6_configure_62 : decode cX6_configure 62 = .ok (.putfield 22, 3) := by decide +kernel
theorem dX6_configure_65 : decode cX6_configure 65 = .ok (.aload_n 0, 1) := by decide +kernel
theorem dX6_configure_66 : decode cX6_configure 66 = .ok (.invokevirtual 87, 3) := by decide +kernel
theorem dX6_configure_69 : decode cX6_configure 69 = .ok (.aload_n 0, 1) := by decide +kernel
theorem dX6_configure_70 : decode cX6_configure 70 = .ok (.getfield 7, 3) := by decide +kernel
theorem dX6_configure_73 : decode cX6_configure 73 = .ok (.ireturn, 1) := by decide +kernel
theorem dX6_setCells_0 : decode cX6_setCells 0 = .ok (.iload_n 1, 1) := by decide +kernel
theorem dX6_setCells_1 : decode cX6_setCells 1 = .ok (.iconst 1, 1) := by decide +kernel
theorem dX6_setCells_2 : decode cX6_setCells 2 = .ok (.bipush 8, 2) := by decide +kernel
theorem dX6_setCells_4 : decode cX6_setCells 4 = .ok (.invokestatic 83, 3) := by decide +kernel
theorem dX6_setCells_7 : decode cX6_setCells 7 = .ok (.ifCond .ne 6, 3) := by decide +kernel
theorem dX6_setCells_10 : decode cX6_setCells 10 = .ok (.bipush (-104), 2) := by decide +kernel
theorem dX6_setCells_12 : decode cX6_setCells 12 = .ok (.ireturn, 1) := by decide +kernel
theorem dX6_setCells_13 : decode cX6_setCells 13 = .ok (.aload_n 0, 1) := by decide +kernel
theorem dX6_setCells_14 : decode cX6_setCells 14 = .ok (.getfield 7, 3) := by decide +kernel
theorem dX6_setCells_17 : decode cX6_setCells 17 = .ok (.istore_n 2, 1) := by decide +kernel
theorem dX6_setCells_18 : decode cX6_setCells 18 = .ok (.aload_n 0, 1) := by decide +kernel
theorem dX6_setCells_19 : decode cX6_setCells 19 = .ok (.iload_n 1, 1) := by decide +kernel
theorem dX6_setCells_20 : decode cX6_setCells 20 = .ok (.putfield 7, 3) := by decide +kernel
theorem dX6_setCells_23 : decode cX6_setCells 23 = .ok (.aload_n 0, 1) := by decide +kernel
theorem dX6_setCells_24 : decode cX6_setCells 24 = .ok (.invokevirtual 87, 3) := by decide +kernel
theorem dX6_setCells_27 : decode cX6_setCells 27 = .ok (.iload_n 2, 1) := by decide +kernel
theorem dX6_setCells_28 : decode cX6_setCells 28 = .ok (.ireturn, 1) := by decide +kernel
theorem dX6_setTimeout_0 : decode cX6_setTimeout 0 = .ok (.iload_n 1, 1) := by decide +kernel
theorem dX6_setTimeout_1 : decode cX6_setTimeout 1 = .ok (.iconst 1, 1) := by decide +kernel
theorem dX6_setTimeout_2 : decode cX6_setTimeout 2 = .ok (.bipush 20, 2) := by decide +kernel
theorem dX6_setTimeout_4 : decode cX6_setTimeout 4 = .ok (.invokestatic 83, 3) := by decide +kernel
theorem dX6_setTimeout_7 : decode cX6_setTimeout 7 = .ok (.ifCond .ne 6, 3) := by decide +kernel
theorem dX6_setTimeout_10 : decode cX6_setTimeout 10 = .ok (.bipush (-104), 2) := by decide +kernel
theorem dX6_setTimeout_12 : decode cX6_setTimeout 12 = .ok (.ireturn, 1) := by decide +kernel
theorem dX6_setTimeout_13 : decode cX6_setTimeout 13 = .ok (.aload_n 0, 1) := by decide +kernel
theorem dX6_setTimeout_14 : decode cX6_setTimeout 14 = .ok (.getfield 25, 3) := by decide +kernel
theorem dX6_setTimeout_17 : decode cX6_setTimeout 17 = .ok (.istore_n 2, 1) := by decide +kernel
theorem dX6_setTimeout_18 : decode cX6_setTimeout 18 = .ok (.aload_n 0, 1) := by decide +kernel
theorem dX6_setTimeout_19 : decode cX6_setTimeout 19 = .ok (.iload_n 1, 1) := by decide +kernel
theorem dX6_setTimeout_20 : decode cX6_setTimeout 20 = .ok (.putfield 25, 3) := by decide +kernel
theorem dX6_setTimeout_23 : decode cX6_setTimeout 23 = .ok (.iload_n 2, 1) := by decide +kernel
theorem dX6_setTimeout_24 : decode cX6_setTimeout 24 = .ok (.ireturn, 1) := by decide +kernel
theorem dX6_isSource_0 : decode cX6_isSource 0 = .ok (.iload_n 0, 1) := by decide +kernel
theorem dX6_isSource_1 : decode cX6_isSource 1 = .ok (.iconst 0, 1) := by decide +kernel
theorem dX6_isSource_2 : decode cX6_isSource 2 = .ok (.bipush 7, 2) := by decide +kernel
theorem dX6_isSource_4 : decode cX6_isSource 4 = .ok (.invokestatic 83, 3) := by decide +kernel
theorem dX6_isSource_7 : decode cX6_isSource 7 = .ok (.ireturn, 1) := by decide +kernel
theorem dX6_isDestination_0 : decode cX6_isDestination 0 = .ok (.iload_n 0, 1) := by decide +kernel
theorem dX6_isDestination_1 : decode cX6_isDestination 1 = .ok (.iconst 0, 1) := by decide +kernel
theorem dX6_isDestination_2 : decode cX6_isDestination 2 = .ok (.bipush 31, 2) := by decide +kernel
theorem dX6_isDestination_4 : decode cX6_isDestination 4 = .ok (.invokestatic 83, 3) := by decide +kernel
theorem dX6_isDestination_7 : decode cX6_isDestination 7 = .ok (.ireturn, 1) := by decide +kernel
theorem dX6_drop_0 : decode cX6_drop 0 = .ok (.aload_n 0, 1) := by decide +kernel
theorem dX6_drop_1 : decode cX6_drop 1 = .ok (.dup, 1) := by decide +kernel
theorem dX6_drop_2 : decode cX6_drop 2 = .ok (.getfield 74, 3) := by decide +kernel
theorem dX6_drop_5 : decode cX6_drop 5 = .ok (.iconst 1, 1) := by decide +kernel
theorem dX6_drop_6 : decode cX6_drop 6 = .ok (.isub, 1) := by decide +kernel
theorem dX6_drop_7 : decode cX6_drop 7 = .ok (.putfield 74, 3) := by decide +kernel
theorem dX6_drop_10 : decode cX6_drop 10 = .ok (.iload_n 1, 1) := by decide +kernel
theorem dX6_drop_11 : decode cX6_drop 11 = .ok (.istore_n 2, 1) := by decide +kernel
theorem dX6_drop_12 : decode cX6_drop 12 = .ok (.iload_n 2, 1) := by decide +kernel
theorem dX6_drop_13 : decode cX6_drop 13 = .ok (.aload_n 0, 1) := by decide +kernel
theorem dX6_drop_14 : decode cX6_drop 14 = .ok (.getfield 74, 3) := by decide +kernel
theorem dX6_drop_17 : decode cX6_drop 17 = .ok (.if_icmp .ge 51, 3) := by decide +kernel
theorem dX6_drop_20 : decode cX6_drop 20 = .ok (.aload_n 0, 1) := by decide +kernel
theorem dX6_drop_21 : decode cX6_drop 21 = .ok (.getfield 46, 3) := by decide +kernel
theorem dX6_drop_24 : decode cX6_drop 24 = .ok (.iload_n 2, 1) := by decide +kernel
theorem dX6_drop_25 : decode cX6_drop 25 = .ok (.aload_n 0, 1) := by decide +kernel
theorem dX6_drop_26 : decode cX6_drop 26 = .ok (.getfield 46, 3) := by decide +kernel
theorem dX6_drop_29 : decode cX6_drop 29 = .ok (.iload_n 2, 1) := by decide +kernel
theorem dX6_drop_30 : decode cX6_drop 30 = .ok (.iconst 1, 1) := by decide +kernel
theorem dX6_drop_31 : decode cX6_drop 31 = .ok (.iadd, 1) := by decide +kernel
theorem dX6_drop_32 : decode cX6_drop 32 = .ok (.iaload, 1) := by decide +kernel
theorem dX6_drop_33 : decode cX6_drop 33 = .ok (.iastore, 1) := by decide +kernel
theorem dX6_drop_34 : decode cX6_drop 34 = .ok (.aload_n 0, 1) := by decide +kernel
theorem dX6_drop_35 : decode cX6_drop 35 = .ok (.getfield 49, 3) := by decide +kernel
theorem dX6_drop_38 : decode cX6_drop 38 = .ok (.iload_n 2, 1) := by decide +kernel
theorem dX6_drop_39 : decode cX6_drop 39 = .ok (.aload_n 0, 1) := by decide +kernel
theorem dX6_drop_40 : decode cX6_drop 40 = .ok (.getfield 49, 3) := by decide +kernel
theorem dX6_drop_43 : decode cX6_drop 43 = .ok (.iload_n 2, 1) := by decide +kernel
theorem dX6_drop_44 : decode cX6_drop 44 = .ok (.iconst 1, 1) := by decide +kernel
theorem dX6_drop_45 : decode cX6_drop 45 = .ok (.iadd, 1) := by decide +kernel
theorem dX6_drop_46 : decode cX6_drop 46 = .ok (.iaload, 1) := by decide +kernel
theorem dX6_drop_47 : decode cX6_drop 47 = .ok (.iastore, 1) := by decide +kernel
theorem dX6_drop_48 : decode cX6_drop 48 = .ok (.aload_n 0, 1) := by decide +kernel
theorem dX6_drop_49 : decode cX6_drop 49 = .ok (.getfield 52, 3) := by decide +kernel
theorem dX6_drop_52 : decode cX6_drop 52 = .ok (.iload_n 2, 1) := by decide +kernel
theorem dX6_drop_53 : decode cX6_drop 53 = .ok (.aload_n 0, 1) := by decide +kernel
theorem dX6_drop_54 : decode cX6_drop 54 = .ok (.getfield 52, 3) := by decide +kernel
theorem dX6_drop_57 : decode cX6_drop 57 = .ok (.iload_n 2, 1) := by decide +kernel
theorem dX6_drop_58 : decode cX6_drop 58 = .ok (.iconst 1, 1) := by decide +kernel
theorem dX6_drop_59 : decode cX6_drop 59 = .ok (.iadd, 1) := by decide +kernel
theorem dX6_drop_60 : decode cX6_drop 60 = .ok (.iaload, 1) := by decide +kernel
theorem dX6_drop_61 : decode cX6_drop 61 = .ok (.iastore, 1) := by decide +kernel
theorem dX6_drop_62 : decode cX6_drop 62 = .ok (.iinc 2 1, 3) := by decide +kernel
theorem dX6_drop_65 : decode cX6_drop 65 = .ok (.goto (-53), 3) := by decide +kernel
theorem dX6_drop_68 : decode cX6_drop 68 = .ok (.return_, 1) := by decide +kernel
theorem dX6_dropAllOf_0 : decode cX6_dropAllOf 0 = .ok (.aload_n 0, 1) := by decide +kernel
theorem dX6_dropAllOf_1 : decode cX6_dropAllOf 1 = .ok (.getfield 74, 3) := by decide +kernel
theorem dX6_dropAllOf_4 : decode cX6_dropAllOf 4 = .ok (.iconst 1, 1) := by decide +kernel
theorem dX6_dropAllOf_5 : decode cX6_dropAllOf 5 = .ok (.isub, 1) := by decide +kernel
theorem dX6_dropAllOf_6 : decode cX6_dropAllOf 6 = .ok (.istore_n 2, 1) := by decide +kernel
theorem dX6_dropAllOf_7 : decode cX6_dropAllOf 7 = .ok (.iload_n 2, 1) := by decide +kernel
theorem dX6_dropAllOf_8 : decode cX6_dropAllOf 8 = .ok (.ifCond .lt 29, 3) := by decide +kernel
theorem dX6_dropAllOf_11 : decode cX6_dropAllOf 11 = .ok (.aload_n 0, 1) := by decide +kernel
theorem dX6_dropAllOf_12 : decode cX6_dropAllOf 12 = .ok (.getfield 46, 3) := by decide +kernel
theorem dX6_dropAllOf_15 : decode cX6_dropAllOf 15 = .ok (.iload_n 2, 1) := by decide +kernel
theorem dX6_dropAllOf_16 : decode cX6_dropAllOf 16 = .ok (.iaload, 1) := by decide +kernel
theorem dX6_dropAllOf_17 : decode cX6_dropAllOf 17 = .ok (.aload_n 0, 1) := by decide +kernel
theorem dX6_dropAllOf_18 : decode cX6_dropAllOf 18 = .ok (.getfield 7, 3) := by decide +kernel
theorem dX6_dropAllOf_21 : decode cX6_dropAllOf 21 = .ok (.irem, 1) := by decide +kernel
theorem dX6_dropAllOf_22 : decode cX6_dropAllOf 22 = .ok (.iload_n 1, 1) := by decide +kernel
theorem dX6_dropAllOf_23 : decode cX6_dropAllOf 23 = .ok (.if_icmp .ne 8, 3) := by decide +kernel
theorem dX6_dropAllOf_26 : decode cX6_dropAllOf 26 = .ok (.aload_n 0, 1) := by decide +kernel
theorem dX6_dropAllOf_27 : decode cX6_dropAllOf 27 = .ok (.iload_n 2, 1) := by decide +kernel
theorem dX6_dropAllOf_28 : decode cX6_dropAllOf 28 = .ok (.invokevirtual 90, 3) := by decide +kernel
theorem dX6_dropAllOf_31 : decode cX6_dropAllOf 31 = .ok (.iinc 2 (-1), 3) := by decide +kernel
theorem dX6_dropAllOf_34 : decode cX6_dropAllOf 34 = .ok (.goto (-27), 3) := by decide +kernel
theorem dX6_dropAllOf_37 : decode cX6_dropAllOf 37 = .ok (.return_, 1) := by decide +kernel
theorem dX6_decide_0 : decode cX6_decide 0 = .ok (.bipush 15, 2) := by decide +kernel
theorem dX6_decide_2 : decode cX6_decide 2 = .ok (.istore_n 3, 1) := by decide +kernel
theorem dX6_decide_3 : decode cX6_decide 3 = .ok (.iload_n 3, 1) := by decide +kernel
theorem dX6_decide_4 : decode cX6_decide 4 = .ok (.ifCond .le 23, 3) := by decide +kernel
theorem dX6_decide_7 : decode cX6_decide 7 = .ok (.aload_n 0, 1) := by decide +kernel
theorem dX6_decide_8 : decode cX6_decide 8 = .ok (.getfield 55, 3) := by decide +kernel
theorem dX6_decide_11 : decode cX6_decide 11 = .ok (.iload_n 3, 1) := by decide +kernel
theorem dX6_decide_12 : decode cX6_decide 12 = .ok (.aload_n 0, 1) := by decide +kernel
theorem dX6_decide_13 : decode cX6_decide 13 = .ok (.getfield 55, 3) := by decide +kernel
theorem dX6_decide_16 : decode cX6_decide 16 = .ok (.iload_n 3, 1) := by decide +kernel
theorem dX6_decide_17 : decode cX6_decide 17 = .ok (.iconst 1, 1) := by decide +kernel
theorem dX6_decide_18 : decode cX6_decide 18 = .ok (.isub, 1) := by decide +kernel
theorem dX6_decide_19 : decode cX6_decide 19 = .ok (.iaload, 1) := by decide +kernel
theorem dX6_decide_20 : decode cX6_decide 20 = .ok (.iastore, 1) := by decide +kernel
theorem dX6_decide_21 : decode cX6_decide 21 = .ok (.iinc 3 (-1), 3) := by decide +kernel
theorem dX6_decide_24 : decode cX6_decide 24 = .ok (.goto (-21), 3) := by decide +kernel
theorem dX6_decide_27 : decode cX6_decide 27 = .ok (.aload_n 0, 1) := by decide +kernel
theorem dX6_decide_28 : decode cX6_decide 28 = .ok (.getfield 55, 3) := by decide +kernel
theorem dX6_decide_31 : decode cX6_decide 31 = .ok (.iconst 0, 1) := by decide +kernel
theorem dX6_decide_32 : decode cX6_decide 32 = .ok (.bipush 10, 2) := by decide +kernel
theorem dX6_decide_34 : decode cX6_decide 34 = .ok (.iload_n 1, 1) := by decide +kernel
theorem dX6_decide_35 : decode cX6_decide 35 = .ok (.imul, 1) := by decide +kernel
theorem dX6_decide_36 : decode cX6_decide 36 = .ok (.iload_n 2, 1) := by decide +kernel
theorem dX6_decide_37 : decode cX6_decide 37 = .ok (.iadd, 1) := by decide +kernel
theorem dX6_decide_38 : decode cX6_decide 38 = .ok (.iastore, 1) := by decide +kernel
theorem dX6_decide_39 : decode cX6_decide 39 = .ok (.aload_n 0, 1) := by decide +kernel
theorem dX6_decide_40 : decode cX6_decide 40 = .ok (.dup, 1) := by decide +kernel
theorem dX6_decide_41 : decode cX6_decide 41 = .ok (.getfield 77, 3) := by decide +kernel
theorem dX6_decide_44 : decode cX6_decide 44 = .ok (.iconst 1, 1) := by decide +kernel
theorem dX6_decide_45 : decode cX6_decide 45 = .ok (.iadd, 1) := by decide +kernel
theorem dX6_decide_46 : decode cX6_decide 46 = .ok (.putfield 77, 3) := by decide +kernel
theorem dX6_decide_49 : decode cX6_decide 49 = .ok (.iload_n 2, 1) := by decide +kernel
theorem dX6_decide_50 : decode cX6_decide 50 = .ok (.ireturn, 1) := by decide +kernel
theorem dX6_count_0 : decode cX6_count 0 = .ok (.aload_n 0, 1) := by decide +kernel
theorem dX6_count_1 : decode cX6_count 1 = .ok (.getfield 28, 3) := by decide +kernel
theorem dX6_count_4 : decode cX6_count 4 = .ok (.iload_n 1, 1) := by decide +kernel
theorem dX6_count_5 : decode cX6_count 5 = .ok (.dup2, 1) := by decide +kernel
theorem dX6_count_6 : decode cX6_count 6 = .ok (.iaload, 1) := by decide +kernel
theorem dX6_count_7 : decode cX6_count 7 = .ok (.iload_n 2, 1) := by decide +kernel
theorem dX6_count_8 : decode cX6_count 8 = .ok (.ifCond .eq 11, 3) := by decide +kernel
theorem dX6_count_11 : decode cX6_count 11 = .ok (.aload_n 0, 1) := by decide +kernel
theorem dX6_count_12 : decode cX6_count 12 = .ok (.getfield 16, 3) := by decide +kernel
theorem dX6_count_15 : decode cX6_count 15 = .ok (.ineg, 1) := by decide +kernel
theorem dX6_count_16 : decode cX6_count 16 = .ok (.goto 7, 3) := by decide +kernel
theorem dX6_count_19 : decode cX6_count 19 = .ok (.aload_n 0, 1) := by decide +kernel
theorem dX6_count_20 : decode cX6_count 20 = .ok (.getfield 13, 3) := by decide +kernel
theorem dX6_count_23 : decode cX6_count 23 = .ok (.iadd, 1) := by decide +kernel
theorem dX6_count_24 : decode cX6_count 24 = .ok (.iastore, 1) := by decide +kernel
theorem dX6_count_25 : decode cX6_count 25 = .ok (.aload_n 0, 1) := by decide +kernel
theorem dX6_count_26 : decode cX6_count 26 = .ok (.getfield 28, 3) := by decide +kernel
theorem dX6_count_29 : decode cX6_count 29 = .ok (.iload_n 1, 1) := by decide +kernel
theorem dX6_count_30 : decode cX6_count 30 = .ok (.iaload, 1) := by decide +kernel
theorem dX6_count_31 : decode cX6_count 31 = .ok (.aload_n 0, 1) := by decide +kernel
theorem dX6_count_32 : decode cX6_count 32 = .ok (.getfield 19, 3) := by decide +kernel
theorem dX6_count_35 : decode cX6_count 35 = .ok (.if_icmp .lt 22, 3) := by decide +kernel
theorem dX6_count_38 : decode cX6_count 38 = .ok (.aload_n 0, 1) := by decide +kernel
theorem dX6_count_39 : decode cX6_count 39 = .ok (.getfield 32, 3) := by decide +kernel
theorem dX6_count_42 : decode cX6_count 42 = .ok (.iload_n 1, 1) := by decide +kernel
theorem dX6_count_43 : decode cX6_count 43 = .ok (.iconst 1, 1) := by decide +kernel
theorem dX6_count_44 : decode cX6_count 44 = .ok (.bastore, 1) := by decide +kernel
theorem dX6_count_45 : decode cX6_count 45 = .ok (.aload_n 0, 1) := by decide +kernel
theorem dX6_count_46 : decode cX6_count 46 = .ok (.iload_n 1, 1) := by decide +kernel
theorem dX6_count_47 : decode cX6_count 47 = .ok (.invokevirtual 94, 3) := by decide +kernel
theorem dX6_count_50 : decode cX6_count 50 = .ok (.aload_n 0, 1) := by decide +kernel
theorem dX6_count_51 : decode cX6_count 51 = .ok (.iload_n 1, 1) := by decide +kernel
theorem dX6_count_52 : decode cX6_count 52 = .ok (.iconst 1, 1) := by decide +kernel
theorem dX6_count_53 : decode cX6_count 53 = .ok (.invokevirtual 97, 3) := by decide +kernel
theorem dX6_count_56 : decode cX6_count 56 = .ok (.ireturn, 1) := by decide +kernel
theorem dX6_count_57 : decode cX6_count 57 = .ok (.aload_n 0, 1) := by decide +kernel
theorem dX6_count_58 : decode cX6_count 58 = .ok (.getfield 28, 3) := by decide +kernel
theorem dX6_count_61 : decode cX6_count 61 = .ok (.iload_n 1, 1) := by decide +kernel
theorem dX6_count_62 : decode cX6_count 62 = .ok (.iaload, 1) := by decide +kernel
theorem dX6_count_63 : decode cX6_count 63 = .ok (.aload_n 0, 1) := by decide +kernel
theorem dX6_count_64 : decode cX6_count 64 = .ok (.getfield 22, 3) := by decide +kernel
theorem dX6_count_67 : decode cX6_count 67 = .ok (.if_icmp .gt 24, 3) := by decide +kernel
theorem dX6_count_70 : decode cX6_count 70 = .ok (.aload_n 0, 1) := by decide +kernel
theorem dX6_count_71 : decode cX6_count 71 = .ok (.getfield 28, 3) := by decide +kernel
theorem dX6_count_74 : decode cX6_count 74 = .ok (.iload_n 1, 1) := by decide +kernel
theorem dX6_count_75 : decode cX6_count 75 = .ok (.iconst 0, 1) := by decide +kernel
theorem dX6_count_76 : decode cX6_count 76 = .ok (.iastore, 1) := by decide +kernel
theorem dX6_count_77 : decode cX6_count 77 = .ok (.aload_n 0, 1) := by decide +kernel
theorem dX6_count_78 : decode cX6_count 78 = .ok (.getfield 36, 3) := by decide +kernel
theorem dX6_count_81 : decode cX6_count 81 = .ok (.iload_n 1, 1) := by decide +kernel
theorem dX6_count_82 : decode cX6_count 82 = .ok (.lconst 0, 1) := by decide +kernel
theorem dX6_count_83 : decode cX6_count 83 = .ok (.lastore, 1) := by decide +kernel
theorem dX6_count_84 : decode cX6_count 84 = .ok (.aload_n 0, 1) := by decide +kernel
theorem dX6_count_85 : decode cX6_count 85 = .ok (.iload_n 1, 1) := by decide +kernel
theorem dX6_count_86 : decode cX6_count 86 = .ok (.iconst 2, 1) := by decide +kernel
theorem dX6_count_87 : decode cX6_count 87 = .ok (.invokevirtual 97, 3) := by decide +kernel
theorem dX6_count_90 : decode cX6_count 90 = .ok (.ireturn, 1) := by decide +kernel
theorem dX6_count_91 : decode cX6_count 91 = .ok (.iconst 0, 1) := by decide +kernel
theorem dX6_count_92 : decode cX6_count 92 = .ok (.ireturn, 1) := by decide +kernel
theorem dX6_isSeen_0 : decode cX6_isSeen 0 = .ok (.aload_n 0, 1) := by decide +kernel
theorem dX6_isSeen_1 : decode cX6_isSeen 1 = .ok (.getfield 36, 3) := by decide +kernel
theorem dX6_isSeen_4 : decode cX6_isSeen 4 = .ok (.iload_n 1, 1) := by decide +kernel
theorem dX6_isSeen_5 : decode cX6_isSeen 5 = .ok (.laload, 1) := by decide +kernel
theorem dX6_isSeen_6 : decode cX6_isSeen 6 = .ok (.iload_n 2, 1) := by decide +kernel
theorem dX6_isSeen_7 : decode cX6_isSeen 7 = .ok (.lshr, 1) := by decide +kernel
theorem dX6_isSeen_8 : decode cX6_isSeen 8 = .ok (.lconst 1, 1) := by decide +kernel
theorem dX6_isSeen_9 : decode cX6_isSeen 9 = .ok (.land, 1) := by decide +kernel
theorem dX6_isSeen_10 : decode cX6_isSeen 10 = .ok (.lconst 1, 1) := by decide +kernel
theorem dX6_isSeen_11 : decode cX6_isSeen 11 = .ok (.lcmp, 1) := by decide +kernel
theorem dX6_isSeen_12 : decode cX6_isSeen 12 = .ok (.ifCond .ne 7, 3) := by decide +kernel
theorem dX6_isSeen_15 : decode cX6_isSeen 15 = .ok (.iconst 1, 1) := by decide +kernel
theorem dX6_isSeen_16 : decode cX6_isSeen 16 = .ok (.goto 4, 3) := by decide +kernel
theorem dX6_isSeen_19 : decode cX6_isSeen 19 = .ok (.iconst 0, 1) := by decide +kernel
theorem dX6_isSeen_20 : decode cX6_isSeen 20 = .ok (.ireturn, 1) := by decide +kernel
theorem dX6_connectNow_0 : decode cX6_connectNow 0 = .ok (.iload_n 1, 1) := by decide +kernel
theorem dX6_connectNow_1 : decode cX6_connectNow 1 = .ok (.aload_n 0, 1) := by decide +kernel
theorem dX6_connectNow_2 : decode cX6_connectNow 2 = .ok (.getfield 7, 3) := by decide +kernel
theorem dX6_connectNow_5 : decode cX6_connectNow 5 = .ok (.irem, 1) := by decide +kernel
theorem dX6_connectNow_6 : decode cX6_connectNow 6 = .ok (.istore 4, 2) := by decide +kernel
theorem dX6_connectNow_8 : decode cX6_connectNow 8 = .ok (.aload_n 0, 1) := by decide +kernel
theorem dX6_connectNow_9 : decode cX6_connectNow 9 = .ok (.getfield 32, 3) := by decide +kernel
theorem dX6_connectNow_12 : decode cX6_connectNow 12 = .ok (.iload 4, 2) := by decide +kernel
theorem dX6_connectNow_14 : decode cX6_connectNow 14 = .ok (.baload, 1) := by decide +kernel
theorem dX6_connectNow_15 : decode cX6_connectNow 15 = .ok (.ifCond .eq 35, 3) := by decide +kernel
theorem dX6_connectNow_18 : decode cX6_connectNow 18 = .ok (.aload_n 0, 1) := by decide +kernel
theorem dX6_connectNow_19 : decode cX6_connectNow 19 = .ok (.getfield 40, 3) := by decide +kernel
theorem dX6_connectNow_22 : decode cX6_connectNow 22 = .ok (.iload 4, 2) := by decide +kernel
theorem dX6_connectNow_24 : decode cX6_connectNow 24 = .ok (.dup2, 1) := by decide +kernel
theorem dX6_connectNow_25 : decode cX6_connectNow 25 = .ok (.iaload, 1) := by decide +kernel
theorem dX6_connectNow_26 : decode cX6_connectNow 26 = .ok (.iconst 1, 1) := by decide +kernel
theorem dX6_connectNow_27 : decode cX6_connectNow 27 = .ok (.iadd, 1) := by decide +kernel
theorem dX6_connectNow_28 : decode cX6_connectNow 28 = .ok (.iastore, 1) := by decide +kernel
theorem dX6_connectNow_29 : decode cX6_connectNow 29 = .ok (.aload_n 0, 1) := by decide +kernel
theorem dX6_connectNow_30 : decode cX6_connectNow 30 = .ok (.getfield 43, 3) := by decide +kernel
theorem dX6_connectNow_33 : decode cX6_connectNow 33 = .ok (.iload 4, 2) := by decide +kernel
theorem dX6_connectNow_35 : decode cX6_connectNow 35 = .ok (.dup2, 1) := by decide +kernel
theorem dX6_connectNow_36 : decode cX6_connectNow 36 = .ok (.iaload, 1) := by decide +kernel
theorem dX6_connectNow_37 : decode cX6_connectNow 37 = .ok (.iload_n 3, 1) := by decide +kernel
theorem dX6_connectNow_38 : decode cX6_connectNow 38 = .ok (.ifCond .eq 7, 3) := by decide +kernel
theorem dX6_connectNow_41 : decode cX6_connectNow 41 = .ok (.iconst 1, 1) := by decide +kernel
theorem dX6_connectNow_42 : decode cX6_connectNow 42 = .ok (.goto 4, 3) := by decide +kernel
theorem dX6_connectNow_45 : decode cX6_connectNow 45 = .ok (.iconst 0, 1) := by decide +kernel
theorem dX6_connectNow_46 : decode cX6_connectNow 46 = .ok (.iadd, 1) := by decide +kernel
theorem dX6_connectNow_47 : decode cX6_connectNow 47 = .ok (.iastore, 1) := by decide +kernel
theorem dX6_connectNow_48 : decode cX6_connectNow 48 = .ok (.iconst 3, 1) := by decide +kernel
theorem dX6_connectNow_49 : decode cX6_connectNow 49 = .ok (.ireturn, 1) := by decide +kernel
theorem dX6_connectNow_50 : decode cX6_connectNow 50 = .ok (.aload_n 0, 1) := by decide +kernel
theorem dX6_connectNow_51 : decode cX6_connectNow 51 = .ok (.iload 4, 2) := by decide +kernel
theorem dX6_connectNow_53 : decode cX6_connectNow 53 = .ok (.iload_n 2, 1) := by decide +kernel
theorem dX6_connectNow_54 : decode cX6_connectNow 54 = .ok (.invokevirtual 101, 3) := by decide +kernel
theorem dX6_connectNow_57 : decode cX6_connectNow 57 = .ok (.ifCond .eq 5, 3) := by decide +kernel
theorem dX6_connectNow_60 : decode cX6_connectNow 60 = .ok (.iconst 4, 1) := by decide +kernel
theorem dX6_connectNow_61 : decode cX6_connectNow 61 = .ok (.ireturn, 1) := by decide +kernel
theorem dX6_connectNow_62 : decode cX6_connectNow 62 = .ok (.aload_n 0, 1) := by decide +kernel
theorem dX6_connectNow_63 : decode cX6_connectNow 63 = .ok (.getfield 36, 3) := by decide +kernel
theorem dX6_connectNow_66 : decode cX6_connectNow 66 = .ok (.iload 4, 2) := by decide +kernel
theorem dX6_connectNow_68 : decode cX6_connectNow 68 = .ok (.dup2, 1) := by decide +kernel
theorem dX6_connectNow_69 : decode cX6_connectNow 69 = .ok (.laload, 1) := by decide +kernel
theorem dX6_connectNow_70 : decode cX6_connectNow 70 = .ok (.lconst 1, 1) := by decide +kernel
theorem dX6_connectNow_71 : decode cX6_connectNow 71 = .ok (.iload_n 2, 1) := by decide +kernel
theorem dX6_connectNow_72 : decode cX6_connectNow 72 = .ok (.lshl, 1) := by decide +kernel
theorem dX6_connectNow_73 : decode cX6_connectNow 73 = .ok (.lor, 1) := by decide +kernel
theorem dX6_connectNow_74 : decode cX6_connectNow 74 = .ok (.lastore, 1) := by decide +kernel
theorem dX6_connectNow_75 : decode cX6_connectNow 75 = .ok (.aload_n 0, 1) := by decide +kernel
theorem dX6_connectNow_76 : decode cX6_connectNow 76 = .ok (.iload 4, 2) := by decide +kernel
theorem dX6_connectNow_78 : decode cX6_connectNow 78 = .ok (.iload_n 3, 1) := by decide +kernel
theorem dX6_connectNow_79 : decode cX6_connectNow 79 = .ok (.invokevirtual 105, 3) := by decide +kernel
theorem dX6_connectNow_82 : decode cX6_connectNow 82 = .ok (.ireturn, 1) := by decide +kernel
theorem dX6_connect_0 : decode cX6_connect 0 = .ok (.iload_n 1, 1) := by decide +kernel
theorem dX6_connect_1 : decode cX6_connect 1 = .ok (.invokestatic 109, 3) := by decide +kernel
theorem dX6_connect_4 : decode cX6_connect 4 = .ok (.ifCond .ne 6, 3) := by decide +kernel
theorem dX6_connect_7 : decode cX6_connect 7 = .ok (.bipush (-105), 2) := by decide +kernel
theorem dX6_connect_9 : decode cX6_connect 9 = .ok (.ireturn, 1) := by decide +kernel
theorem dX6_connect_10 : decode cX6_connect 10 = .ok (.iload_n 2, 1) := by decide +kernel
theorem dX6_connect_11 : decode cX6_connect 11 = .ok (.invokestatic 113, 3) := by decide +kernel
theorem dX6_connect_14 : decode cX6_connect 14 = .ok (.ifCond .eq 13, 3) := by decide +kernel
theorem dX6_connect_17 : decode cX6_connect 17 = .ok (.aload_n 0, 1) := by decide +kernel
theorem dX6_connect_18 : decode cX6_connect 18 = .ok (.iload_n 1, 1) := by decide +kernel
theorem dX6_connect_19 : decode cX6_connect 19 = .ok (.iload_n 2, 1) := by decide +kernel
theorem dX6_connect_20 : decode cX6_connect 20 = .ok (.iload_n 3, 1) := by decide +kernel
theorem dX6_connect_21 : decode cX6_connect 21 = .ok (.invokevirtual 116, 3) := by decide +kernel
theorem dX6_connect_24 : decode cX6_connect 24 = .ok (.goto 5, 3) := by decide +kernel
theorem dX6_connect_27 : decode cX6_connect 27 = .ok (.bipush (-106), 2) := by decide +kernel
theorem dX6_connect_29 : decode cX6_connect 29 = .ok (.ireturn, 1) := by decide +kernel
theorem dX6_attemptNow_0 : decode cX6_attemptNow 0 = .ok (.iload_n 1, 1) := by decide +kernel
theorem dX6_attemptNow_1 : decode cX6_attemptNow 1 = .ok (.aload_n 0, 1) := by decide +kernel
theorem dX6_attemptNow_2 : decode cX6_attemptNow 2 = .ok (.getfield 7, 3) := by decide +kernel
theorem dX6_attemptNow_5 : decode cX6_attemptNow 5 = .ok (.irem, 1) := by decide +kernel
theorem dX6_attemptNow_6 : decode cX6_attemptNow 6 = .ok (.istore_n 3, 1) := by decide +kernel
theorem dX6_attemptNow_7 : decode cX6_attemptNow 7 = .ok (.aload_n 0, 1) := by decide +kernel
theorem dX6_attemptNow_8 : decode cX6_attemptNow 8 = .ok (.getfield 32, 3) := by decide +kernel
theorem dX6_attemptNow_11 : decode cX6_attemptNow 11 = .ok (.iload_n 3, 1) := by decide +kernel
theorem dX6_attemptNow_12 : decode cX6_attemptNow 12 = .ok (.baload, 1) := by decide +kernel
theorem dX6_attemptNow_13 : decode cX6_attemptNow 13 = .ok (.ifCond .eq 15, 3) := by decide +kernel
theorem dX6_attemptNow_16 : decode cX6_attemptNow 16 = .ok (.aload_n 0, 1) := by decide +kernel
theorem dX6_attemptNow_17 : decode cX6_attemptNow 17 = .ok (.getfield 40, 3) := by decide +kernel
theorem dX6_attemptNow_20 : decode cX6_attemptNow 20 = .ok (.iload_n 3, 1) := by decide +kernel
theorem dX6_attemptNow_21 : decode cX6_attemptNow 21 = .ok (.dup2, 1) := by decide +kernel
theorem dX6_attemptNow_22 : decode cX6_attemptNow 22 = .ok (.iaload, 1) := by decide +kernel
theorem dX6_attemptNow_23 : decode cX6_attemptNow 23 = .ok (.iconst 1, 1) := by decide +kernel
theorem dX6_attemptNow_24 : decode cX6_attemptNow 24 = .ok (.iadd, 1) := by decide +kernel
theorem dX6_attemptNow_25 : decode cX6_attemptNow 25 = .ok (.iastore, 1) := by decide +kernel
theorem dX6_attemptNow_26 : decode cX6_attemptNow 26 = .ok (.iconst 3, 1) := by decide +kernel
theorem dX6_attemptNow_27 : decode cX6_attemptNow 27 = .ok (.ireturn, 1) := by decide +kernel
theorem dX6_attemptNow_28 : decode cX6_attemptNow 28 = .ok (.aload_n 0, 1) := by decide +kernel
theorem dX6_attemptNow_29 : decode cX6_attemptNow 29 = .ok (.iload_n 3, 1) := by decide +kernel
theorem dX6_attemptNow_30 : decode cX6_attemptNow 30 = .ok (.iload_n 2, 1) := by decide +kernel
theorem dX6_attemptNow_31 : decode cX6_attemptNow 31 = .ok (.invokevirtual 101, 3) := by decide +kernel
theorem dX6_attemptNow_34 : decode cX6_attemptNow 34 = .ok (.ifCond .eq 5, 3) := by decide +kernel
theorem dX6_attemptNow_37 : decode cX6_attemptNow 37 = .ok (.iconst 4, 1) := by decide +kernel
theorem dX6_attemptNow_38 : decode cX6_attemptNow 38 = .ok (.ireturn, 1) := by decide +kernel
theorem dX6_attemptNow_39 : decode cX6_attemptNow 39 = .ok (.aload_n 0, 1) := by decide +kernel
theorem dX6_attemptNow_40 : decode cX6_attemptNow 40 = .ok (.getfield 74, 3) := by decide +kernel
theorem dX6_attemptNow_43 : decode cX6_attemptNow 43 = .ok (.bipush 12, 2) := by decide +kernel
theorem dX6_attemptNow_45 : decode cX6_attemptNow 45 = .ok (.if_icmp .ne 6, 3) := by decide +kernel
theorem dX6_attemptNow_48 : decode cX6_attemptNow 48 = .ok (.bipush (-110), 2) := by decide +kernel
theorem dX6_attemptNow_50 : decode cX6_attemptNow 50 = .ok (.ireturn, 1) := by decide +kernel
theorem dX6_attemptNow_51 : decode cX6_attemptNow 51 = .ok (.aload_n 0, 1) := by decide +kernel
theorem dX6_attemptNow_52 : decode cX6_attemptNow 52 = .ok (.getfield 36, 3) := by decide +kernel
theorem dX6_attemptNow_55 : decode cX6_attemptNow 55 = .ok (.iload_n 3, 1) := by decide +kernel
theorem dX6_attemptNow_56 : decode cX6_attemptNow 56 = .ok (.dup2, 1) := by decide +kernel
theorem dX6_attemptNow_57 : decode cX6_attemptNow 57 = .ok (.laload, 1) := by decide +kernel
theorem dX6_attemptNow_58 : decode cX6_attemptNow 58 = .ok (.lconst 1, 1) := by decide +kernel
theorem dX6_attemptNow_59 : decode cX6_attemptNow 59 = .ok (.iload_n 2, 1) := by decide +kernel
theorem dX6_attemptNow_60 : decode cX6_attemptNow 60 = .ok (.lshl, 1) := by decide +kernel
theorem dX6_attemptNow_61 : decode cX6_attemptNow 61 = .ok (.lor, 1) := by decide +kernel
theorem dX6_attemptNow_62 : decode cX6_attemptNow 62 = .ok (.lastore, 1) := by decide +kernel
theorem dX6_attemptNow_63 : decode cX6_attemptNow 63 = .ok (.aload_n 0, 1) := by decide +kernel
theorem dX6_attemptNow_64 : decode cX6_attemptNow 64 = .ok (.getfield 46, 3) := by decide +kernel
theorem dX6_attemptNow_67 : decode cX6_attemptNow 67 = .ok (.aload_n 0, 1) := by decide +kernel
theorem dX6_attemptNow_68 : decode cX6_attemptNow 68 = .ok (.getfield 74, 3) := by decide +kernel
theorem dX6_attemptNow_71 : decode cX6_attemptNow 71 = .ok (.iload_n 1, 1) := by decide +kernel
theorem dX6_attemptNow_72 : decode cX6_attemptNow 72 = .ok (.iastore, 1) := by decide +kernel
theorem dX6_attemptNow_73 : decode cX6_attemptNow 73 = .ok (.aload_n 0, 1) := by decide +kernel
theorem dX6_attemptNow_74 : decode cX6_attemptNow 74 = .ok (.getfield 49, 3) := by decide +kernel
theorem dX6_attemptNow_77 : decode cX6_attemptNow 77 = .ok (.aload_n 0, 1) := by decide +kernel
theorem dX6_attemptNow_78 : decode cX6_attemptNow 78 = .ok (.getfield 74, 3) := by decide +kernel
theorem dX6_attemptNow_81 : decode cX6_attemptNow 81 = .ok (.iload_n 2, 1) := by decide +kernel
theorem dX6_attemptNow_82 : decode cX6_attemptNow 82 = .ok (.iastore, 1) := by decide +kernel
theorem dX6_attemptNow_83 : decode cX6_attemptNow 83 = .ok (.aload_n 0, 1) := by decide +kernel
theorem dX6_attemptNow_84 : decode cX6_attemptNow 84 = .ok (.getfield 52, 3) := by decide +kernel
theorem dX6_attemptNow_87 : decode cX6_attemptNow 87 = .ok (.aload_n 0, 1) := by decide +kernel
theorem dX6_attemptNow_88 : decode cX6_attemptNow 88 = .ok (.getfield 74, 3) := by decide +kernel
theorem dX6_attemptNow_91 : decode cX6_attemptNow 91 = .ok (.aload_n 0, 1) := by decide +kernel
theorem dX6_attemptNow_92 : decode cX6_attemptNow 92 = .ok (.getfield 80, 3) := by decide +kernel
theorem dX6_attemptNow_95 : decode cX6_attemptNow 95 = .ok (.aload_n 0, 1) := by decide +kernel
theorem dX6_attemptNow_96 : decode cX6_attemptNow 96 = .ok (.getfield 25, 3) := by decide +kernel
theorem dX6_attemptNow_99 : decode cX6_attemptNow 99 = .ok (.iadd, 1) := by decide +kernel
theorem dX6_attemptNow_100 : decode cX6_attemptNow 100 = .ok (.iastore, 1) := by decide +kernel
theorem dX6_attemptNow_101 : decode cX6_attemptNow 101 = .ok (.aload_n 0, 1) := by decide +kernel
theorem dX6_attemptNow_102 : decode cX6_attemptNow 102 = .ok (.dup, 1) := by decide +kernel
theorem dX6_attemptNow_103 : decode cX6_attemptNow 103 = .ok (.getfield 74, 3) := by decide +kernel
theorem dX6_attemptNow_106 : decode cX6_attemptNow 106 = .ok (.iconst 1, 1) := by decide +kernel
theorem dX6_attemptNow_107 : decode cX6_attemptNow 107 = .ok (.iadd, 1) := by decide +kernel
theorem dX6_attemptNow_108 : decode cX6_attemptNow 108 = .ok (.putfield 74, 3) := by decide +kernel
theorem dX6_attemptNow_111 : decode cX6_attemptNow 111 = .ok (.iconst 0, 1) := by decide +kernel
theorem dX6_attemptNow_112 : decode cX6_attemptNow 112 = .ok (.ireturn, 1) := by decide +kernel
theorem dX6_attempt_0 : decode cX6_attempt 0 = .ok (.iload_n 1, 1) := by decide +kernel
theorem dX6_attempt_1 : decode cX6_attempt 1 = .ok (.invokestatic 109, 3) := by decide +kernel
theorem dX6_attempt_4 : decode cX6_attempt 4 = .ok (.ifCond .ne 6, 3) := by decide +kernel
theorem dX6_attempt_7 : decode cX6_attempt 7 = .ok (.bipush (-105), 2) := by decide +kernel
theorem dX6_attempt_9 : decode cX6_attempt 9 = .ok (.ireturn, 1) := by decide +kernel
theorem dX6_attempt_10 : decode cX6_attempt 10 = .ok (.iload_n 2, 1) := by decide +kernel
theorem dX6_attempt_11 : decode cX6_attempt 11 = .ok (.invokestatic 113, 3) := by decide +kernel
theorem dX6_attempt_14 : decode cX6_attempt 14 = .ok (.ifCond .eq 12, 3) := by decide +kernel
theorem dX6_attempt_17 : decode cX6_attempt 17 = .ok (.aload_n 0, 1) := by decide +kernel
theorem dX6_attempt_18 : decode cX6_attempt 18 = .ok (.iload_n 1, 1) := by decide +kernel
theorem dX6_attempt_19 : decode cX6_attempt 19 = .ok (.iload_n 2, 1) := by decide +kernel
theorem dX6_attempt_20 : decode cX6_attempt 20 = .ok (.invokevirtual 120, 3) := by decide +kernel
theorem dX6_attempt_23 : decode cX6_attempt 23 = .ok (.goto 5, 3) := by decide +kernel
theorem dX6_attempt_26 : decode cX6_attempt 26 = .ok (.bipush (-106), 2) := by decide +kernel
theorem dX6_attempt_28 : decode cX6_attempt 28 = .ok (.ireturn, 1) := by decide +kernel
theorem dX6_answer_0 : decode cX6_answer 0 = .ok (.iconst 0, 1) := by decide +kernel
theorem dX6_answer_1 : decode cX6_answer 1 = .ok (.istore_n 3, 1) := by decide +kernel
theorem dX6_answer_2 : decode cX6_answer 2 = .ok (.iload_n 3, 1) := by decide +kernel
theorem dX6_answer_3 : decode cX6_answer 3 = .ok (.aload_n 0, 1) := by decide +kernel
theorem dX6_answer_4 : decode cX6_answer 4 = .ok (.getfield 74, 3) := by decide +kernel
theorem dX6_answer_7 : decode cX6_answer 7 = .ok (.if_icmp .ge 46, 3) := by decide +kernel
theorem dX6_answer_10 : decode cX6_answer 10 = .ok (.aload_n 0, 1) := by decide +kernel
theorem dX6_answer_11 : decode cX6_answer 11 = .ok (.getfield 46, 3) := by decide +kernel
theorem dX6_answer_14 : decode cX6_answer 14 = .ok (.iload_n 3, 1) := by decide +kernel
theorem dX6_answer_15 : decode cX6_answer 15 = .ok (.iaload, 1) := by decide +kernel
theorem dX6_answer_16 : decode cX6_answer 16 = .ok (.iload_n 1, 1) := by decide +kernel
theorem dX6_answer_17 : decode cX6_answer 17 = .ok (.if_icmp .ne 30, 3) := by decide +kernel
theorem dX6_answer_20 : decode cX6_answer 20 = .ok (.aload_n 0, 1) := by decide +kernel
theorem dX6_answer_21 : decode cX6_answer 21 = .ok (.getfield 49, 3) := by decide +kernel
theorem dX6_answer_24 : decode cX6_answer 24 = .ok (.iload_n 3, 1) := by decide +kernel
theorem dX6_answer_25 : decode cX6_answer 25 = .ok (.iaload, 1) := by decide +kernel
theorem dX6_answer_26 : decode cX6_answer 26 = .ok (.iload_n 2, 1) := by decide +kernel
theorem dX6_answer_27 : decode cX6_answer 27 = .ok (.if_icmp .ne 20, 3) := by decide +kernel
theorem dX6_answer_30 : decode cX6_answer 30 = .ok (.aload_n 0, 1) := by decide +kernel
theorem dX6_answer_31 : decode cX6_answer 31 = .ok (.iload_n 3, 1) := by decide +kernel
theorem dX6_answer_32 : decode cX6_answer 32 = .ok (.invokevirtual 90, 3) := by decide +kernel
theorem dX6_answer_35 : decode cX6_answer 35 = .ok (.aload_n 0, 1) := by decide +kernel
theorem dX6_answer_36 : decode cX6_answer 36 = .ok (.iload_n 1, 1) := by decide +kernel
theorem dX6_answer_37 : decode cX6_answer 37 = .ok (.aload_n 0, 1) := by decide +kernel
theorem dX6_answer_38 : decode cX6_answer 38 = .ok (.getfield 7, 3) := by decide +kernel
theorem dX6_answer_41 : decode cX6_answer 41 = .ok (.irem, 1) := by decide +kernel
theorem dX6_answer_42 : decode cX6_answer 42 = .ok (.iconst 1, 1) := by decide +kernel
theorem dX6_answer_43 : decode cX6_answer 43 = .ok (.invokevirtual 105, 3) := by decide +kernel
theorem dX6_answer_46 : decode cX6_answer 46 = .ok (.ireturn, 1) := by decide +kernel
theorem dX6_answer_47 : decode cX6_answer 47 = .ok (.iinc 3 1, 3) := by decide +kernel
theorem dX6_answer_50 : decode cX6_answer 50 = .ok (.goto (-48), 3) := by decide +kernel
theorem dX6_answer_53 : decode cX6_answer 53 = .ok (.bipush (-108), 2) := by decide +kernel
theorem dX6_answer_55 : decode cX6_answer 55 = .ok (.ireturn, 1) := by decide +kernel
theorem dX6_due_0 : decode cX6_due 0 = .ok (.iconst 0, 1) := by decide +kernel
theorem dX6_due_1 : decode cX6_due 1 = .ok (.istore_n 1, 1) := by decide +kernel
theorem dX6_due_2 : decode cX6_due 2 = .ok (.iload_n 1, 1) := by decide +kernel
theorem dX6_due_3 : decode cX6_due 3 = .ok (.aload_n 0, 1) := by decide +kernel
theorem dX6_due_4 : decode cX6_due 4 = .ok (.getfield 74, 3) := by decide +kernel
theorem dX6_due_7 : decode cX6_due 7 = .ok (.if_icmp .ge 24, 3) := by decide +kernel
theorem dX6_due_10 : decode cX6_due 10 = .ok (.aload_n 0, 1) := by decide +kernel
theorem dX6_due_11 : decode cX6_due 11 = .ok (.getfield 52, 3) := by decide +kernel
theorem dX6_due_14 : decode cX6_due 14 = .ok (.iload_n 1, 1) := by decide +kernel
theorem dX6_due_15 : decode cX6_due 15 = .ok (.iaload, 1) := by decide +kernel
theorem dX6_due_16 : decode cX6_due 16 = .ok (.aload_n 0, 1) := by decide +kernel
theorem dX6_due_17 : decode cX6_due 17 = .ok (.getfield 80, 3) := by decide +kernel
theorem dX6_due_20 : decode cX6_due 20 = .ok (.if_icmp .ne 5, 3) := by decide +kernel
theorem dX6_due_23 : decode cX6_due 23 = .ok (.iload_n 1, 1) := by decide +kernel
theorem dX6_due_24 : decode cX6_due 24 = .ok (.ireturn, 1) := by decide +kernel
theorem dX6_due_25 : decode cX6_due 25 = .ok (.iinc 1 1, 3) := by decide +kernel
theorem dX6_due_28 : decode cX6_due 28 = .ok (.goto (-26), 3) := by decide +kernel
theorem dX6_due_31 : decode cX6_due 31 = .ok (.iconst (-1), 1) := by decide +kernel
theorem dX6_due_32 : decode cX6_due 32 = .ok (.ireturn, 1) := by decide +kernel
theorem dX6_tick_0 : decode cX6_tick 0 = .ok (.aload_n 0, 1) := by decide +kernel
theorem dX6_tick_1 : decode cX6_tick 1 = .ok (.dup, 1) := by decide +kernel
theorem dX6_tick_2 : decode cX6_tick 2 = .ok (.getfield 80, 3) := by decide +kernel
theorem dX6_tick_5 : decode cX6_tick 5 = .ok (.iconst 1, 1) := by decide +kernel
theorem dX6_tick_6 : decode cX6_tick 6 = .ok (.iadd, 1) := by decide +kernel
theorem dX6_tick_7 : decode cX6_tick 7 = .ok (.putfield 80, 3) := by decide +kernel
theorem dX6_tick_10 : decode cX6_tick 10 = .ok (.iconst 0, 1) := by decide +kernel
theorem dX6_tick_11 : decode cX6_tick 11 = .ok (.istore_n 1, 1) := by decide +kernel
theorem dX6_tick_12 : decode cX6_tick 12 = .ok (.aload_n 0, 1) := by decide +kernel
theorem dX6_tick_13 : decode cX6_tick 13 = .ok (.invokevirtual 123, 3) := by decide +kernel
theorem dX6_tick_16 : decode cX6_tick 16 = .ok (.istore_n 2, 1) := by decide +kernel
theorem dX6_tick_17 : decode cX6_tick 17 = .ok (.iload_n 2, 1) := by decide +kernel
theorem dX6_tick_18 : decode cX6_tick 18 = .ok (.ifCond .lt 38, 3) := by decide +kernel
theorem dX6_tick_21 : decode cX6_tick 21 = .ok (.aload_n 0, 1) := by decide +kernel
theorem dX6_tick_22 : decode cX6_tick 22 = .ok (.getfield 46, 3) := by decide +kernel
theorem dX6_tick_25 : decode cX6_tick 25 = .ok (.iload_n 2, 1) := by decide +kernel
theorem dX6_tick_26 : decode cX6_tick 26 = .ok (.iaload, 1) := by decide +kernel
theorem dX6_tick_27 : decode cX6_tick 27 = .ok (.aload_n 0, 1) := by decide +kernel
theorem dX6_tick_28 : decode cX6_tick 28 = .ok (.getfield 7, 3) := by decide +kernel
theorem dX6_tick_31 : decode cX6_tick 31 = .ok (.irem, 1) := by decide +kernel
theorem dX6_tick_32 : decode cX6_tick 32 = .ok (.istore_n 3, 1) := by decide +kernel
theorem dX6_tick_33 : decode cX6_tick 33 = .ok (.aload_n 0, 1) := by decide +kernel
theorem dX6_tick_34 : decode cX6_tick 34 = .ok (.iload_n 2, 1) := by decide +kernel
theorem dX6_tick_35 : decode cX6_tick 35 = .ok (.invokevirtual 90, 3) := by decide +kernel
theorem dX6_tick_38 : decode cX6_tick 38 = .ok (.aload_n 0, 1) := by decide +kernel
theorem dX6_tick_39 : decode cX6_tick 39 = .ok (.iload_n 3, 1) := by decide +kernel
theorem dX6_tick_40 : decode cX6_tick 40 = .ok (.iconst 0, 1) := by decide +kernel
theorem dX6_tick_41 : decode cX6_tick 41 = .ok (.invokevirtual 105, 3) := by decide +kernel
theorem dX6_tick_44 : decode cX6_tick 44 = .ok (.pop, 1) := by decide +kernel
theorem dX6_tick_45 : decode cX6_tick 45 = .ok (.iinc 1 1, 3) := by decide +kernel
theorem dX6_tick_48 : decode cX6_tick 48 = .ok (.aload_n 0, 1) := by decide +kernel
theorem dX6_tick_49 : decode cX6_tick 49 = .ok (.invokevirtual 123, 3) := by decide +kernel
theorem dX6_tick_52 : decode cX6_tick 52 = .ok (.istore_n 2, 1) := by decide +kernel
theorem dX6_tick_53 : decode cX6_tick 53 = .ok (.goto (-36), 3) := by decide +kernel
theorem dX6_tick_56 : decode cX6_tick 56 = .ok (.iload_n 1, 1) := by decide +kernel
theorem dX6_tick_57 : decode cX6_tick 57 = .ok (.ireturn, 1) := by decide +kernel
theorem dX6_advance_0 : decode cX6_advance 0 = .ok (.iload_n 1, 1) := by decide +kernel
theorem dX6_advance_1 : decode cX6_advance 1 = .ok (.iconst 1, 1) := by decide +kernel
theorem dX6_advance_2 : decode cX6_advance 2 = .ok (.bipush 50, 2) := by decide +kernel
theorem dX6_advance_4 : decode cX6_advance 4 = .ok (.invokestatic 83, 3) := by decide +kernel
theorem dX6_advance_7 : decode cX6_advance 7 = .ok (.ifCond .ne 6, 3) := by decide +kernel
theorem dX6_advance_10 : decode cX6_advance 10 = .ok (.bipush (-104), 2) := by decide +kernel
theorem dX6_advance_12 : decode cX6_advance 12 = .ok (.ireturn, 1) := by decide +kernel
theorem dX6_advance_13 : decode cX6_advance 13 = .ok (.iconst 0, 1) := by decide +kernel
theorem dX6_advance_14 : decode cX6_advance 14 = .ok (.istore_n 2, 1) := by decide +kernel
theorem dX6_advance_15 : decode cX6_advance 15 = .ok (.iconst 0, 1) := by decide +kernel
theorem dX6_advance_16 : decode cX6_advance 16 = .ok (.istore_n 3, 1) := by decide +kernel
theorem dX6_advance_17 : decode cX6_advance 17 = .ok (.iload_n 3, 1) := by decide +kernel
theorem dX6_advance_18 : decode cX6_advance 18 = .ok (.iload_n 1, 1) := by decide +kernel
theorem dX6_advance_19 : decode cX6_advance 19 = .ok (.if_icmp .ge 16, 3) := by decide +kernel
theorem dX6_advance_22 : decode cX6_advance 22 = .ok (.iload_n 2, 1) := by decide +kernel
theorem dX6_advance_23 : decode cX6_advance 23 = .ok (.aload_n 0, 1) := by decide +kernel
theorem dX6_advance_24 : decode cX6_advance 24 = .ok (.invokevirtual 127, 3) := by decide +kernel
theorem dX6_advance_27 : decode cX6_advance 27 = .ok (.iadd, 1) := by decide +kernel
theorem dX6_advance_28 : decode cX6_advance 28 = .ok (.istore_n 2, 1) := by decide +kernel
theorem dX6_advance_29 : decode cX6_advance 29 = .ok (.iinc 3 1, 3) := by decide +kernel
theorem dX6_advance_32 : decode cX6_advance 32 = .ok (.goto (-15), 3) := by decide +kernel
theorem dX6_advance_35 : decode cX6_advance 35 = .ok (.iload_n 2, 1) := by decide +kernel
theorem dX6_advance_36 : decode cX6_advance 36 = .ok (.ireturn, 1) := by decide +kernel
theorem dX6_isCell_0 : decode cX6_isCell 0 = .ok (.iload_n 1, 1) := by decide +kernel
theorem dX6_isCell_1 : decode cX6_isCell 1 = .ok (.iconst 0, 1) := by decide +kernel
theorem dX6_isCell_2 : decode cX6_isCell 2 = .ok (.aload_n 0, 1) := by decide +kernel
theorem dX6_isCell_3 : decode cX6_isCell 3 = .ok (.getfield 7, 3) := by decide +kernel
theorem dX6_isCell_6 : decode cX6_isCell 6 = .ok (.iconst 1, 1) := by decide +kernel
theorem dX6_isCell_7 : decode cX6_isCell 7 = .ok (.isub, 1) := by decide +kernel
theorem dX6_isCell_8 : decode cX6_isCell 8 = .ok (.invokestatic 83, 3) := by decide +kernel
theorem dX6_isCell_11 : decode cX6_isCell 11 = .ok (.ireturn, 1) := by decide +kernel
theorem dX6_unblock_0 : decode cX6_unblock 0 = .ok (.aload_n 0, 1) := by decide +kernel
theorem dX6_unblock_1 : decode cX6_unblock 1 = .ok (.iload_n 1, 1) := by decide +kernel
theorem dX6_unblock_2 : decode cX6_unblock 2 = .ok (.invokevirtual 130, 3) := by decide +kernel
theorem dX6_unblock_5 : decode cX6_unblock 5 = .ok (.ifCond .ne 6, 3) := by decide +kernel
theorem dX6_unblock_8 : decode cX6_unblock 8 = .ok (.bipush (-107), 2) := by decide +kernel
theorem dX6_unblock_10 : decode cX6_unblock 10 = .ok (.ireturn, 1) := by decide +kernel
theorem dX6_unblock_11 : decode cX6_unblock 11 = .ok (.aload_n 0, 1) := by decide +kernel
theorem dX6_unblock_12 : decode cX6_unblock 12 = .ok (.getfield 32, 3) := by decide +kernel
theorem dX6_unblock_15 : decode cX6_unblock 15 = .ok (.iload_n 1, 1) := by decide +kernel
theorem dX6_unblock_16 : decode cX6_unblock 16 = .ok (.baload, 1) := by decide +kernel
theorem dX6_unblock_17 : decode cX6_unblock 17 = .ok (.ifCond .ne 6, 3) := by decide +kernel
theorem dX6_unblock_20 : decode cX6_unblock 20 = .ok (.bipush (-111), 2) := by decide +kernel
theorem dX6_unblock_22 : decode cX6_unblock 22 = .ok (.ireturn, 1) := by decide +kernel
theorem dX6_unblock_23 : decode cX6_unblock 23 = .ok (.aload_n 0, 1) := by decide +kernel
theorem dX6_unblock_24 : decode cX6_unblock 24 = .ok (.getfield 28, 3) := by decide +kernel
theorem dX6_unblock_27 : decode cX6_unblock 27 = .ok (.iload_n 1, 1) := by decide +kernel
theorem dX6_unblock_28 : decode cX6_unblock 28 = .ok (.iaload, 1) := by decide +kernel
theorem dX6_unblock_29 : decode cX6_unblock 29 = .ok (.istore_n 2, 1) := by decide +kernel
theorem dX6_unblock_30 : decode cX6_unblock 30 = .ok (.aload_n 0, 1) := by decide +kernel
theorem dX6_unblock_31 : decode cX6_unblock 31 = .ok (.getfield 28, 3) := by decide +kernel
theorem dX6_unblock_34 : decode cX6_unblock 34 = .ok (.iload_n 1, 1) := by decide +kernel
theorem dX6_unblock_35 : decode cX6_unblock 35 = .ok (.iconst 0, 1) := by decide +kernel
theorem dX6_unblock_36 : decode cX6_unblock 36 = .ok (.iastore, 1) := by decide +kernel
theorem dX6_unblock_37 : decode cX6_unblock 37 = .ok (.aload_n 0, 1) := by decide +kernel
theorem dX6_unblock_38 : decode cX6_unblock 38 = .ok (.getfield 36, 3) := by decide +kernel
theorem dX6_unblock_41 : decode cX6_unblock 41 = .ok (.iload_n 1, 1) := by decide +kernel
theorem dX6_unblock_42 : decode cX6_unblock 42 = .ok (.lconst 0, 1) := by decide +kernel
theorem dX6_unblock_43 : decode cX6_unblock 43 = .ok (.lastore, 1) := by decide +kernel
theorem dX6_unblock_44 : decode cX6_unblock 44 = .ok (.aload_n 0, 1) := by decide +kernel
theorem dX6_unblock_45 : decode cX6_unblock 45 = .ok (.getfield 32, 3) := by decide +kernel
theorem dX6_unblock_48 : decode cX6_unblock 48 = .ok (.iload_n 1, 1) := by decide +kernel
theorem dX6_unblock_49 : decode cX6_unblock 49 = .ok (.iconst 0, 1) := by decide +kernel
theorem dX6_unblock_50 : decode cX6_unblock 50 = .ok (.bastore, 1) := by decide +kernel
theorem dX6_unblock_51 : decode cX6_unblock 51 = .ok (.iload_n 2, 1) := by decide +kernel
theorem dX6_unblock_52 : decode cX6_unblock 52 = .ok (.ireturn, 1) := by decide +kernel
theorem dX6_append_0 : decode cX6_append 0 = .ok (.iload_n 1, 1) := by decide +kernel
theorem dX6_append_1 : decode cX6_append 1 = .ok (.bipush 32, 2) := by decide +kernel
theorem dX6_append_3 : decode cX6_append 3 = .ok (.bipush 126, 2) := by decide +kernel
theorem dX6_append_5 : decode cX6_append 5 = .ok (.invokestatic 83, 3) := by decide +kernel
theorem dX6_append_8 : decode cX6_append 8 = .ok (.ifCond .ne 6, 3) := by decide +kernel
theorem dX6_append_11 : decode cX6_append 11 = .ok (.bipush (-101), 2) := by decide +kernel
theorem dX6_append_13 : decode cX6_append 13 = .ok (.ireturn, 1) := by decide +kernel
theorem dX6_append_14 : decode cX6_append 14 = .ok (.aload_n 0, 1) := by decide +kernel
theorem dX6_append_15 : decode cX6_append 15 = .ok (.getfield 133, 3) := by decide +kernel
theorem dX6_append_18 : decode cX6_append 18 = .ok (.bipush 59, 2) := by decide +kernel
theorem dX6_append_20 : decode cX6_append 20 = .ok (.if_icmp .ne 6, 3) := by decide +kernel
theorem dX6_append_23 : decode cX6_append 23 = .ok (.bipush (-102), 2) := by decide +kernel
theorem dX6_append_25 : decode cX6_append 25 = .ok (.ireturn, 1) := by decide +kernel
theorem dX6_append_26 : decode cX6_append 26 = .ok (.aload_n 0, 1) := by decide +kernel
theorem dX6_append_27 : decode cX6_append 27 = .ok (.getfield 58, 3) := by decide +kernel
theorem dX6_append_30 : decode cX6_append 30 = .ok (.aload_n 0, 1) := by decide +kernel
theorem dX6_append_31 : decode cX6_append 31 = .ok (.getfield 133, 3) := by decide +kernel
theorem dX6_append_34 : decode cX6_append 34 = .ok (.iload_n 1, 1) := by decide +kernel
theorem dX6_append_35 : decode cX6_append 35 = .ok (.iastore, 1) := by decide +kernel
theorem dX6_append_36 : decode cX6_append 36 = .ok (.aload_n 0, 1) := by decide +kernel
theorem dX6_append_37 : decode cX6_append 37 = .ok (.dup, 1) := by decide +kernel
theorem dX6_append_38 : decode cX6_append 38 = .ok (.getfield 133, 3) := by decide +kernel
theorem dX6_append_41 : decode cX6_append 41 = .ok (.iconst 1, 1) := by decide +kernel
theorem dX6_append_42 : decode cX6_append 42 = .ok (.iadd, 1) := by decide +kernel
theorem dX6_append_43 : decode cX6_append 43 = .ok (.putfield 133, 3) := by decide +kernel
theorem dX6_append_46 : decode cX6_append 46 = .ok (.aload_n 0, 1) := by decide +kernel
theorem dX6_append_47 : decode cX6_append 47 = .ok (.getfield 133, 3) := by decide +kernel
theorem dX6_append_50 : decode cX6_append 50 = .ok (.ireturn, 1) := by decide +kernel
theorem dX6_clearInput_0 : decode cX6_clearInput 0 = .ok (.aload_n 0, 1) := by decide +kernel
theorem dX6_clearInput_1 : decode cX6_clearInput 1 = .ok (.getfield 133, 3) := by decide +kernel
theorem dX6_clearInput_4 : decode cX6_clearInput 4 = .ok (.istore_n 1, 1) := by decide +kernel
theorem dX6_clearInput_5 : decode cX6_clearInput 5 = .ok (.aload_n 0, 1) := by decide +kernel
theorem dX6_clearInput_6 : decode cX6_clearInput 6 = .ok (.iconst 0, 1) := by decide +kernel
theorem dX6_clearInput_7 : decode cX6_clearInput 7 = .ok (.putfield 133, 3) := by decide +kernel
theorem dX6_clearInput_10 : decode cX6_clearInput 10 = .ok (.iload_n 1, 1) := by decide +kernel
theorem dX6_clearInput_11 : decode cX6_clearInput 11 = .ok (.ireturn, 1) := by decide +kernel
theorem dX6_isRight_0 : decode cX6_isRight 0 = .ok (.aload_n 0, 1) := by decide +kernel
theorem dX6_isRight_1 : decode cX6_isRight 1 = .ok (.getfield 58, 3) := by decide +kernel
theorem dX6_isRight_4 : decode cX6_isRight 4 = .ok (.iload_n 1, 1) := by decide +kernel
theorem dX6_isRight_5 : decode cX6_isRight 5 = .ok (.iaload, 1) := by decide +kernel
theorem dX6_isRight_6 : decode cX6_isRight 6 = .ok (.istore_n 2, 1) := by decide +kernel
theorem dX6_isRight_7 : decode cX6_isRight 7 = .ok (.iload_n 1, 1) := by decide +kernel
theorem dX6_isRight_8 : decode cX6_isRight 8 = .ok (.bipush 6, 2) := by decide +kernel
theorem dX6_isRight_10 : decode cX6_isRight 10 = .ok (.irem, 1) := by decide +kernel
theorem dX6_isRight_11 : decode cX6_isRight 11 = .ok (.tableswitch 108 0 4 #[33, 42, 54, 63, 90], 33) := by decide +kernel
theorem dX6_isRight_44 : decode cX6_isRight 44 = .ok (.iload_n 2, 1) := by decide +kernel
theorem dX6_isRight_45 : decode cX6_isRight 45 = .ok (.bipush 48, 2) := by decide +kernel
theorem dX6_isRight_47 : decode cX6_isRight 47 = .ok (.bipush 55, 2) := by decide +kernel
theorem dX6_isRight_49 : decode cX6_isRight 49 = .ok (.invokestatic 83, 3) := by decide +kernel
theorem dX6_isRight_52 : decode cX6_isRight 52 = .ok (.ireturn, 1) := by decide +kernel
theorem dX6_isRight_53 : decode cX6_isRight 53 = .ok (.iload_n 2, 1) := by decide +kernel
theorem dX6_isRight_54 : decode cX6_isRight 54 = .ok (.bipush 62, 2) := by decide +kernel
theorem dX6_isRight_56 : decode cX6_isRight 56 = .ok (.if_icmp .ne 7, 3) := by decide +kernel
theorem dX6_isRight_59 : decode cX6_isRight 59 = .ok (.iconst 1, 1) := by decide +kernel
theorem dX6_isRight_60 : decode cX6_isRight 60 = .ok (.goto 4, 3) := by decide +kernel
theorem dX6_isRight_63 : decode cX6_isRight 63 = .ok (.iconst 0, 1) := by decide +kernel
theorem dX6_isRight_64 : decode cX6_isRight 64 = .ok (.ireturn, 1) := by decide +kernel
theorem dX6_isRight_65 : decode cX6_isRight 65 = .ok (.iload_n 2, 1) := by decide +kernel
theorem dX6_isRight_66 : decode cX6_isRight 66 = .ok (.bipush 48, 2) := by decide +kernel
theorem dX6_isRight_68 : decode cX6_isRight 68 = .ok (.bipush 51, 2) := by decide +kernel
theorem dX6_isRight_70 : decode cX6_isRight 70 = .ok (.invokestatic 83, 3) := by decide +kernel
theorem dX6_isRight_73 : decode cX6_isRight 73 = .ok (.ireturn, 1) := by decide +kernel
theorem dX6_isRight_74 : decode cX6_isRight 74 = .ok (.iload_n 2, 1) := by decide +kernel
theorem dX6_isRight_75 : decode cX6_isRight 75 = .ok (.bipush 48, 2) := by decide +kernel
theorem dX6_isRight_77 : decode cX6_isRight 77 = .ok (.aload_n 0, 1) := by decide +kernel
theorem dX6_isRight_78 : decode cX6_isRight 78 = .ok (.getfield 58, 3) := by decide +kernel
theorem dX6_isRight_81 : decode cX6_isRight 81 = .ok (.iload_n 1, 1) := by decide +kernel
theorem dX6_isRight_82 : decode cX6_isRight 82 = .ok (.iconst 1, 1) := by decide +kernel
theorem dX6_isRight_83 : decode cX6_isRight 83 = .ok (.isub, 1) := by decide +kernel
theorem dX6_isRight_84 : decode cX6_isRight 84 = .ok (.iaload, 1) := by decide +kernel
theorem dX6_isRight_85 : decode cX6_isRight 85 = .ok (.bipush 51, 2) := by decide +kernel
theorem dX6_isRight_87 : decode cX6_isRight 87 = .ok (.if_icmp .ne 8, 3) := by decide +kernel
theorem dX6_isRight_90 : decode cX6_isRight 90 = .ok (.bipush 49, 2) := by decide +kernel
theorem dX6_isRight_92 : decode cX6_isRight 92 = .ok (.goto 5, 3) := by decide +kernel
theorem dX6_isRight_95 : decode cX6_isRight 95 = .ok (.bipush 57, 2) := by decide +kernel
theorem dX6_isRight_97 : decode cX6_isRight 97 = .ok (.invokestatic 83, 3) := by decide +kernel
theorem dX6_isRight_100 : decode cX6_isRight 100 = .ok (.ireturn, 1) := by decide +kernel
theorem dX6_isRight_101 : decode cX6_isRight 101 = .ok (.iload_n 2, 1) := by decide +kernel
theorem dX6_isRight_102 : decode cX6_isRight 102 = .ok (.bipush 43, 2) := by decide +kernel
theorem dX6_isRight_104 : decode cX6_isRight 104 = .ok (.if_icmp .eq 9, 3) := by decide +kernel
theorem dX6_isRight_107 : decode cX6_isRight 107 = .ok (.iload_n 2, 1) := by decide +kernel
theorem dX6_isRight_108 : decode cX6_isRight 108 = .ok (.bipush 45, 2) := by decide +kernel
theorem dX6_isRight_110 : decode cX6_isRight 110 = .ok (.if_icmp .ne 7, 3) := by decide +kernel
theorem dX6_isRight_113 : decode cX6_isRight 113 = .ok (.iconst 1, 1) := by decide +kernel
theorem dX6_isRight_114 : decode cX6_isRight 114 = .ok (.goto 4, 3) := by decide +kernel
theorem dX6_isRight_117 : decode cX6_isRight 117 = .ok (.iconst 0, 1) := by decide +kernel
theorem dX6_isRight_118 : decode cX6_isRight 118 = .ok (.ireturn, 1) := by decide +kernel
theorem dX6_isRight_119 : decode cX6_isRight 119 = .ok (.iload_n 2, 1) := by decide +kernel
theorem dX6_isRight_120 : decode cX6_isRight 120 = .ok (.bipush 44, 2) := by decide +kernel
theorem dX6_isRight_122 : decode cX6_isRight 122 = .ok (.if_icmp .ne 7, 3) := by decide +kernel
theorem dX6_isRight_125 : decode cX6_isRight 125 = .ok (.iconst 1, 1) := by decide +kernel
theorem dX6_isRight_126 : decode cX6_isRight 126 = .ok (.goto 4, 3) := by decide +kernel
theorem dX6_isRight_129 : decode cX6_isRight 129 = .ok (.iconst 0, 1) := by decide +kernel
theorem dX6_isRight_130 : decode cX6_isRight 130 = .ok (.ireturn, 1) := by decide +kernel
theorem dX6_rightLength_0 : decode cX6_rightLength 0 = .ok (.iconst 0, 1) := by decide +kernel
theorem dX6_rightLength_1 : decode cX6_rightLength 1 = .ok (.istore_n 1, 1) := by decide +kernel
theorem dX6_rightLength_2 : decode cX6_rightLength 2 = .ok (.iload_n 1, 1) := by decide +kernel
theorem dX6_rightLength_3 : decode cX6_rightLength 3 = .ok (.aload_n 0, 1) := by decide +kernel
theorem dX6_rightLength_4 : decode cX6_rightLength 4 = .ok (.getfield 133, 3) := by decide +kernel
theorem dX6_rightLength_7 : decode cX6_rightLength 7 = .ok (.if_icmp .ge 17, 3) := by decide +kernel
theorem dX6_rightLength_10 : decode cX6_rightLength 10 = .ok (.aload_n 0, 1) := by decide +kernel
theorem dX6_rightLength_11 : decode cX6_rightLength 11 = .ok (.iload_n 1, 1) := by decide +kernel
theorem dX6_rightLength_12 : decode cX6_rightLength 12 = .ok (.invokevirtual 136, 3) := by decide +kernel
theorem dX6_rightLength_15 : decode cX6_rightLength 15 = .ok (.ifCond .eq 9, 3) := by decide +kernel
theorem dX6_rightLength_18 : decode cX6_rightLength 18 = .ok (.iinc 1 1, 3) := by decide +kernel
theorem dX6_rightLength_21 : decode cX6_rightLength 21 = .ok (.goto (-19), 3) := by decide +kernel
theorem dX6_rightLength_24 : decode cX6_rightLength 24 = .ok (.iload_n 1, 1) := by decide +kernel
theorem dX6_rightLength_25 : decode cX6_rightLength 25 = .ok (.ireturn, 1) := by decide +kernel
theorem dX6_firstError_0 : decode cX6_firstError 0 = .ok (.aload_n 0, 1) := by decide +kernel
theorem dX6_firstError_1 : decode cX6_firstError 1 = .ok (.invokevirtual 139, 3) := by decide +kernel
theorem dX6_firstError_4 : decode cX6_firstError 4 = .ok (.ireturn, 1) := by decide +kernel
theorem dX6_runInput_0 : decode cX6_runInput 0 = .ok (.aload_n 0, 1) := by decide +kernel
theorem dX6_runInput_1 : decode cX6_runInput 1 = .ok (.getfield 133, 3) := by decide +kernel
theorem dX6_runInput_4 : decode cX6_runInput 4 = .ok (.bipush 6, 2) := by decide +kernel
theorem dX6_runInput_6 : decode cX6_runInput 6 = .ok (.irem, 1) := by decide +kernel
theorem dX6_runInput_7 : decode cX6_runInput 7 = .ok (.iconst 5, 1) := by decide +kernel
theorem dX6_runInput_8 : decode cX6_runInput 8 = .ok (.if_icmp .ne 14, 3) := by decide +kernel
theorem dX6_runInput_11 : decode cX6_runInput 11 = .ok (.aload_n 0, 1) := by decide +kernel
theorem dX6_runInput_12 : decode cX6_runInput 12 = .ok (.invokevirtual 139, 3) := by decide +kernel
theorem dX6_runInput_15 : decode cX6_runInput 15 = .ok (.aload_n 0, 1) := by decide +kernel
theorem dX6_runInput_16 : decode cX6_runInput 16 = .ok (.getfield 133, 3) := by decide +kernel
theorem dX6_runInput_19 : decode cX6_runInput 19 = .ok (.if_icmp .ge 6, 3) := by decide +kernel
theorem dX6_runInput_22 : decode cX6_runInput 22 = .ok (.bipush (-103), 2) := by decide +kernel
theorem dX6_runInput_24 : decode cX6_runInput 24 = .ok (.ireturn, 1) := by decide +kernel
theorem dX6_runInput_25 : decode cX6_runInput 25 = .ok (.iconst 0, 1) := by decide +kernel
theorem dX6_runInput_26 : decode cX6_runInput 26 = .ok (.istore_n 1, 1) := by decide +kernel
theorem dX6_runInput_27 : decode cX6_runInput 27 = .ok (.iconst 0, 1) := by decide +kernel
theorem dX6_runInput_28 : decode cX6_runInput 28 = .ok (.istore_n 2, 1) := by decide +kernel
theorem dX6_runInput_29 : decode cX6_runInput 29 = .ok (.iload_n 2, 1) := by decide +kernel
theorem dX6_runInput_30 : decode cX6_runInput 30 = .ok (.aload_n 0, 1) := by decide +kernel
theorem dX6_runInput_31 : decode cX6_runInput 31 = .ok (.getfield 133, 3) := by decide +kernel
theorem dX6_runInput_34 : decode cX6_runInput 34 = .ok (.if_icmp .ge 84, 3) := by decide +kernel
theorem dX6_runInput_37 : decode cX6_runInput 37 = .ok (.bipush 10, 2) := by decide +kernel
theorem dX6_runInput_39 : decode cX6_runInput 39 = .ok (.aload_n 0, 1) := by decide +kernel
theorem dX6_runInput_40 : decode cX6_runInput 40 = .ok (.getfield 58, 3) := by decide +kernel
theorem dX6_runInput_43 : decode cX6_runInput 43 = .ok (.iload_n 2, 1) := by decide +kernel
theorem dX6_runInput_44 : decode cX6_runInput 44 = .ok (.iconst 2, 1) := by decide +kernel
theorem dX6_runInput_45 : decode cX6_runInput 45 = .ok (.iadd, 1) := by decide +kernel
theorem dX6_runInput_46 : decode cX6_runInput 46 = .ok (.iaload, 1) := by decide +kernel
theorem dX6_runInput_47 : decode cX6_runInput 47 = .ok (.bipush 48, 2) := by decide +kernel
theorem dX6_runInput_49 : decode cX6_runInput 49 = .ok (.isub, 1) := by decide +kernel
theorem dX6_runInput_50 : decode cX6_runInput 50 = .ok (.imul, 1) := by decide +kernel
theorem dX6_runInput_51 : decode cX6_runInput 51 = .ok (.aload_n 0, 1) := by decide +kernel
theorem dX6_runInput_52 : decode cX6_runInput 52 = .ok (.getfield 58, 3) := by decide +kernel
theorem dX6_runInput_55 : decode cX6_runInput 55 = .ok (.iload_n 2, 1) := by decide +kernel
theorem dX6_runInput_56 : decode cX6_runInput 56 = .ok (.iconst 3, 1) := by decide +kernel
theorem dX6_runInput_57 : decode cX6_runInput 57 = .ok (.iadd, 1) := by decide +kernel
theorem dX6_runInput_58 : decode cX6_runInput 58 = .ok (.iaload, 1) := by decide +kernel
theorem dX6_runInput_59 : decode cX6_runInput 59 = .ok (.iadd, 1) := by decide +kernel
theorem dX6_runInput_60 : decode cX6_runInput 60 = .ok (.bipush 48, 2) := by decide +kernel
theorem dX6_runInput_62 : decode cX6_runInput 62 = .ok (.isub, 1) := by decide +kernel
theorem dX6_runInput_63 : decode cX6_runInput 63 = .ok (.istore_n 3, 1) := by decide +kernel
theorem dX6_runInput_64 : decode cX6_runInput 64 = .ok (.aload_n 0, 1) := by decide +kernel
theorem dX6_runInput_65 : decode cX6_runInput 65 = .ok (.aload_n 0, 1) := by decide +kernel
theorem dX6_runInput_66 : decode cX6_runInput 66 = .ok (.getfield 58, 3) := by decide +kernel
theorem dX6_runInput_69 : decode cX6_runInput 69 = .ok (.iload_n 2, 1) := by decide +kernel
theorem dX6_runInput_70 : decode cX6_runInput 70 = .ok (.iaload, 1) := by decide +kernel
theorem dX6_runInput_71 : decode cX6_runInput 71 = .ok (.bipush 48, 2) := by decide +kernel
theorem dX6_runInput_73 : decode cX6_runInput 73 = .ok (.isub, 1) := by decide +kernel
theorem dX6_runInput_74 : decode cX6_runInput 74 = .ok (.iload_n 3, 1) := by decide +kernel
theorem dX6_runInput_75 : decode cX6_runInput 75 = .ok (.aload_n 0, 1) := by decide +kernel
theorem dX6_runInput_76 : decode cX6_runInput 76 = .ok (.getfield 58, 3) := by decide +kernel
theorem dX6_runInput_79 : decode cX6_runInput 79 = .ok (.iload_n 2, 1) := by decide +kernel
theorem dX6_runInput_80 : decode cX6_runInput 80 = .ok (.iconst 4, 1) := by decide +kernel
theorem dX6_runInput_81 : decode cX6_runInput 81 = .ok (.iadd, 1) := by decide +kernel
theorem dX6_runInput_82 : decode cX6_runInput 82 = .ok (.iaload, 1) := by decide +kernel
theorem dX6_runInput_83 : decode cX6_runInput 83 = .ok (.bipush 43, 2) := by decide +kernel
theorem dX6_runInput_85 : decode cX6_runInput 85 = .ok (.if_icmp .ne 7, 3) := by decide +kernel
theorem dX6_runInput_88 : decode cX6_runInput 88 = .ok (.iconst 1, 1) := by decide +kernel
theorem dX6_runInput_89 : decode cX6_runInput 89 = .ok (.goto 4, 3) := by decide +kernel
theorem dX6_runInput_92 : decode cX6_runInput 92 = .ok (.iconst 0, 1) := by decide +kernel
theorem dX6_runInput_93 : decode cX6_runInput 93 = .ok (.invokevirtual 116, 3) := by decide +kernel
theorem dX6_runInput_96 : decode cX6_runInput 96 = .ok (.istore 4, 2) := by decide +kernel
theorem dX6_runInput_98 : decode cX6_runInput 98 = .ok (.iload_n 1, 1) := by decide +kernel
theorem dX6_runInput_99 : decode cX6_runInput 99 = .ok (.iload 4, 2) := by decide +kernel
theorem dX6_runInput_101 : decode cX6_runInput 101 = .ok (.iconst 3, 1) := by decide +kernel
theorem dX6_runInput_102 : decode cX6_runInput 102 = .ok (.if_icmp .ge 7, 3) := by decide +kernel
theorem dX6_runInput_105 : decode cX6_runInput 105 = .ok (.iconst 1, 1) := by decide +kernel
theorem dX6_runInput_106 : decode cX6_runInput 106 = .ok (.goto 4, 3) := by decide +kernel
theorem dX6_runInput_109 : decode cX6_runInput 109 = .ok (.iconst 0, 1) := by decide +kernel
theorem dX6_runInput_110 : decode cX6_runInput 110 = .ok (.iadd, 1) := by decide +kernel
theorem dX6_runInput_111 : decode cX6_runInput 111 = .ok (.istore_n 1, 1) := by decide +kernel
theorem dX6_runInput_112 : decode cX6_runInput 112 = .ok (.iinc 2 6, 3) := by decide +kernel
theorem dX6_runInput_115 : decode cX6_runInput 115 = .ok (.goto (-86), 3) := by decide +kernel
theorem dX6_runInput_118 : decode cX6_runInput 118 = .ok (.aload_n 0, 1) := by decide +kernel
theorem dX6_runInput_119 : decode cX6_runInput 119 = .ok (.iconst 0, 1) := by decide +kernel
theorem dX6_runInput_120 : decode cX6_runInput 120 = .ok (.putfield 133, 3) := by decide +kernel
theorem dX6_runInput_123 : decode cX6_runInput 123 = .ok (.iload_n 1, 1) := by decide +kernel
theorem dX6_runInput_124 : decode cX6_runInput 124 = .ok (.ireturn, 1) := by decide +kernel
theorem dX6_cellOf_0 : decode cX6_cellOf 0 = .ok (.iload_n 1, 1) := by decide +kernel
theorem dX6_cellOf_1 : decode cX6_cellOf 1 = .ok (.invokestatic 109, 3) := by decide +kernel
theorem dX6_cellOf_4 : decode cX6_cellOf 4 = .ok (.ifCond .eq 12, 3) := by decide +kernel
theorem dX6_cellOf_7 : decode cX6_cellOf 7 = .ok (.iload_n 1, 1) := by decide +kernel
theorem dX6_cellOf_8 : decode cX6_cellOf 8 = .ok (.aload_n 0, 1) := by decide +kernel
theorem dX6_cellOf_9 : decode cX6_cellOf 9 = .ok (.getfield 7, 3) := by decide +kernel
theorem dX6_cellOf_12 : decode cX6_cellOf 12 = .ok (.irem, 1) := by decide +kernel
theorem dX6_cellOf_13 : decode cX6_cellOf 13 = .ok (.goto 5, 3) := by decide +kernel
theorem dX6_cellOf_16 : decode cX6_cellOf 16 = .ok (.bipush (-105), 2) := by decide +kernel
theorem dX6_cellOf_18 : decode cX6_cellOf 18 = .ok (.ireturn, 1) := by decide +kernel
theorem dX6_score_0 : decode cX6_score 0 = .ok (.aload_n 0, 1) := by decide +kernel
theorem dX6_score_1 : decode cX6_score 1 = .ok (.iload_n 1, 1) := by decide +kernel
theorem dX6_score_2 : decode cX6_score 2 = .ok (.invokevirtual 130, 3) := by decide +kernel
theorem dX6_score_5 : decode cX6_score 5 = .ok (.ifCond .eq 12, 3) := by decide +kernel
theorem dX6_score_8 : decode cX6_score 8 = .ok (.aload_n 0, 1) := by decide +kernel
theorem dX6_score_9 : decode cX6_score 9 = .ok (.getfield 28, 3) := by decide +kernel
theorem dX6_score_12 : decode cX6_score 12 = .ok (.iload_n 1, 1) := by decide +kernel
theorem dX6_score_13 : decode cX6_score 13 = .ok (.iaload, 1) := by decide +kernel
theorem dX6_score_14 : decode cX6_score 14 = .ok (.goto 5, 3) := by decide +kernel
theorem dX6_score_17 : decode cX6_score 17 = .ok (.bipush (-107), 2) := by decide +kernel
theorem dX6_score_19 : decode cX6_score 19 = .ok (.ireturn, 1) := by decide +kernel
theorem dX6_isBlocked_0 : decode cX6_isBlocked 0 = .ok (.aload_n 0, 1) := by decide +kernel
theorem dX6_isBlocked_1 : decode cX6_isBlocked 1 = .ok (.iload_n 1, 1) := by decide +kernel
theorem dX6_isBlocked_2 : decode cX6_isBlocked 2 = .ok (.invokevirtual 130, 3) := by decide +kernel
theorem dX6_isBlocked_5 : decode cX6_isBlocked 5 = .ok (.ifCond .ne 8, 3) := by decide +kernel
theorem dX6_isBlocked_8 : decode cX6_isBlocked 8 = .ok (.bipush (-107), 2) := by decide +kernel
theorem dX6_isBlocked_10 : decode cX6_isBlocked 10 = .ok (.goto 17, 3) := by decide +kernel
theorem dX6_isBlocked_13 : decode cX6_isBlocked 13 = .ok (.aload_n 0, 1) := by decide +kernel
theorem dX6_isBlocked_14 : decode cX6_isBlocked 14 = .ok (.getfield 32, 3) := by decide +kernel
theorem dX6_isBlocked_17 : decode cX6_isBlocked 17 = .ok (.iload_n 1, 1) := by decide +kernel
theorem dX6_isBlocked_18 : decode cX6_isBlocked 18 = .ok (.baload, 1) := by decide +kernel
theorem dX6_isBlocked_19 : decode cX6_isBlocked 19 = .ok (.ifCond .eq 7, 3) := by decide +kernel
theorem dX6_isBlocked_22 : decode cX6_isBlocked 22 = .ok (.iconst 1, 1) := by decide +kernel
theorem dX6_isBlocked_23 : decode cX6_isBlocked 23 = .ok (.goto 4, 3) := by decide +kernel
theorem dX6_isBlocked_26 : decode cX6_isBlocked 26 = .ok (.iconst 0, 1) := by decide +kernel
theorem dX6_isBlocked_27 : decode cX6_isBlocked 27 = .ok (.ireturn, 1) := by decide +kernel
theorem dX6_seenDestinations_0 : decode cX6_seenDestinations 0 = .ok (.aload_n 0, 1) := by decide +kernel
theorem dX6_seenDestinations_1 : decode cX6_seenDestinations 1 = .ok (.iload_n 1, 1) := by decide +kernel
theorem dX6_seenDestinations_2 : decode cX6_seenDestinations 2 = .ok (.invokevirtual 130, 3) := by decide +kernel
theorem dX6_seenDestinations_5 : decode cX6_seenDestinations 5 = .ok (.ifCond .eq 12, 3) := by decide +kernel
theorem dX6_seenDestinations_8 : decode cX6_seenDestinations 8 = .ok (.aload_n 0, 1) := by decide +kernel
theorem dX6_seenDestinations_9 : decode cX6_seenDestinations 9 = .ok (.getfield 36, 3) := by decide +kernel
theorem dX6_seenDestinations_12 : decode cX6_seenDestinations 12 = .ok (.iload_n 1, 1) := by decide +kernel
theorem dX6_seenDestinations_13 : decode cX6_seenDestinations 13 = .ok (.laload, 1) := by decide +kernel
theorem dX6_seenDestinations_14 : decode cX6_seenDestinations 14 = .ok (.goto 6, 3) := by decide +kernel
theorem dX6_seenDestinations_17 : decode cX6_seenDestinations 17 = .ok (.ldc2_w 142, 3) := by decide +kernel
theorem dX6_seenDestinations_20 : decode cX6_seenDestinations 20 = .ok (.lreturn, 1) := by decide +kernel
theorem dX6_blockedContacts_0 : decode cX6_blockedContacts 0 = .ok (.aload_n 0, 1) := by decide +kernel
theorem dX6_blockedContacts_1 : decode cX6_blockedContacts 1 = .ok (.iload_n 1, 1) := by decide +kernel
theorem dX6_blockedContacts_2 : decode cX6_blockedContacts 2 = .ok (.invokevirtual 130, 3) := by decide +kernel
theorem dX6_blockedContacts_5 : decode cX6_blockedContacts 5 = .ok (.ifCond .eq 12, 3) := by decide +kernel
theorem dX6_blockedContacts_8 : decode cX6_blockedContacts 8 = .ok (.aload_n 0, 1) := by decide +kernel
theorem dX6_blockedContacts_9 : decode cX6_blockedContacts 9 = .ok (.getfield 40, 3) := by decide +kernel
theorem dX6_blockedContacts_12 : decode cX6_blockedContacts 12 = .ok (.iload_n 1, 1) := by decide +kernel
theorem dX6_blockedContacts_13 : decode cX6_blockedContacts 13 = .ok (.iaload, 1) := by decide +kernel
theorem dX6_blockedContacts_14 : decode cX6_blockedContacts 14 = .ok (.goto 5, 3) := by decide +kernel
theorem dX6_blockedContacts_17 : decode cX6_blockedContacts 17 = .ok (.bipush (-107), 2) := by decide +kernel
theorem dX6_blockedContacts_19 : decode cX6_blockedContacts 19 = .ok (.ireturn, 1) := by decide +kernel
theorem dX6_wronglyBlocked_0 : decode cX6_wronglyBlocked 0 = .ok (.aload_n 0, 1) := by decide +kernel
theorem dX6_wronglyBlocked_1 : decode cX6_wronglyBlocked 1 = .ok (.iload_n 1, 1) := by decide +kernel
theorem dX6_wronglyBlocked_2 : decode cX6_wronglyBlocked 2 = .ok (.invokevirtual 130, 3) := by decide +kernel
theorem dX6_wronglyBlocked_5 : decode cX6_wronglyBlocked 5 = .ok (.ifCond .eq 12, 3) := by decide +kernel
theorem dX6_wronglyBlocked_8 : decode cX6_wronglyBlocked 8 = .ok (.aload_n 0, 1) := by decide +kernel
theorem dX6_wronglyBlocked_9 : decode cX6_wronglyBlocked 9 = .ok (.getfield 43, 3) := by decide +kernel
theorem dX6_wronglyBlocked_12 : decode cX6_wronglyBlocked 12 = .ok (.iload_n 1, 1) := by decide +kernel
theorem dX6_wronglyBlocked_13 : decode cX6_wronglyBlocked 13 = .ok (.iaload, 1) := by decide +kernel
theorem dX6_wronglyBlocked_14 : decode cX6_wronglyBlocked 14 = .ok (.goto 5, 3) := by decide +kernel
theorem dX6_wronglyBlocked_17 : decode cX6_wronglyBlocked 17 = .ok (.bipush (-107), 2) := by decide +kernel
theorem dX6_wronglyBlocked_19 : decode cX6_wronglyBlocked 19 = .ok (.ireturn, 1) := by decide +kernel
theorem dX6_attemptCount_0 : decode cX6_attemptCount 0 = .ok (.aload_n 0, 1) := by decide +kernel
theorem dX6_attemptCount_1 : decode cX6_attemptCount 1 = .ok (.getfield 74, 3) := by decide +kernel
theorem dX6_attemptCount_4 : decode cX6_attemptCount 4 = .ok (.ireturn, 1) := by decide +kernel
theorem dX6_described_0 : decode cX6_described 0 = .ok (.sipush 1000, 3) := by decide +kernel
theorem dX6_described_3 : decode cX6_described 3 = .ok (.aload_n 0, 1) := by decide +kernel
theorem dX6_described_4 : decode cX6_described 4 = .ok (.getfield 52, 3) := by decide +kernel
theorem dX6_described_7 : decode cX6_described 7 = .ok (.iload_n 1, 1) := by decide +kernel
theorem dX6_described_8 : decode cX6_described 8 = .ok (.iaload, 1) := by decide +kernel
theorem dX6_described_9 : decode cX6_described 9 = .ok (.aload_n 0, 1) := by decide +kernel
theorem dX6_described_10 : decode cX6_described 10 = .ok (.getfield 80, 3) := by decide +kernel
theorem dX6_described_13 : decode cX6_described 13 = .ok (.isub, 1) := by decide +kernel
theorem dX6_described_14 : decode cX6_described 14 = .ok (.imul, 1) := by decide +kernel
theorem dX6_described_15 : decode cX6_described 15 = .ok (.bipush 100, 2) := by decide +kernel
theorem dX6_described_17 : decode cX6_described 17 = .ok (.aload_n 0, 1) := by decide +kernel
theorem dX6_described_18 : decode cX6_described 18 = .ok (.getfield 46, 3) := by decide +kernel
theorem dX6_described_21 : decode cX6_described 21 = .ok (.iload_n 1, 1) := by decide +kernel
theorem dX6_described_22 : decode cX6_described 22 = .ok (.iaload, 1) := by decide +kernel
theorem dX6_described_23 : decode cX6_described 23 = .ok (.imul, 1) := by decide +kernel
theorem dX6_described_24 : decode cX6_described 24 = .ok (.iadd, 1) := by decide +kernel
theorem dX6_described_25 : decode cX6_described 25 = .ok (.aload_n 0, 1) := by decide +kernel
theorem dX6_described_26 : decode cX6_described 26 = .ok (.getfield 49, 3) := by decide +kernel
theorem dX6_described_29 : decode cX6_described 29 = .ok (.iload_n 1, 1) := by decide +kernel
theorem dX6_described_30 : decode cX6_described 30 = .ok (.iaload, 1) := by decide +kernel
theorem dX6_described_31 : decode cX6_described 31 = .ok (.iadd, 1) := by decide +kernel
theorem dX6_described_32 : decode cX6_described 32 = .ok (.ireturn, 1) := by decide +kernel
theorem dX6_describeAttempt_0 : decode cX6_describeAttempt 0 = .ok (.iload_n 1, 1) := by decide +kernel
theorem dX6_describeAttempt_1 : decode cX6_describeAttempt 1 = .ok (.iconst 0, 1) := by decide +kernel
theorem dX6_describeAttempt_2 : decode cX6_describeAttempt 2 = .ok (.aload_n 0, 1) := by decide +kernel
theorem dX6_describeAttempt_3 : decode cX6_describeAttempt 3 = .ok (.getfield 74, 3) := by decide +kernel
theorem dX6_describeAttempt_6 : decode cX6_describeAttempt 6 = .ok (.iconst 1, 1) := by decide +kernel
theorem dX6_describeAttempt_7 : decode cX6_describeAttempt 7 = .ok (.isub, 1) := by decide +kernel
theorem dX6_describeAttempt_8 : decode cX6_describeAttempt 8 = .ok (.invokestatic 83, 3) := by decide +kernel
theorem dX6_describeAttempt_11 : decode cX6_describeAttempt 11 = .ok (.ifCond .eq 11, 3) := by decide +kernel
theorem dX6_describeAttempt_14 : decode cX6_describeAttempt 14 = .ok (.aload_n 0, 1) := by decide +kernel
theorem dX6_describeAttempt_15 : decode cX6_describeAttempt 15 = .ok (.iload_n 1, 1) := by decide +kernel
theorem dX6_describeAttempt_16 : decode cX6_describeAttempt 16 = .ok (.invokevirtual 144, 3) := by decide +kernel
theorem dX6_describeAttempt_19 : decode cX6_describeAttempt 19 = .ok (.goto 5, 3) := by decide +kernel
theorem dX6_describeAttempt_22 : decode cX6_describeAttempt 22 = .ok (.bipush (-108), 2) := by decide +kernel
theorem dX6_describeAttempt_24 : decode cX6_describeAttempt 24 = .ok (.ireturn, 1) := by decide +kernel
theorem dX6_clock_0 : decode cX6_clock 0 = .ok (.aload_n 0, 1) := by decide +kernel
theorem dX6_clock_1 : decode cX6_clock 1 = .ok (.getfield 80, 3) := by decide +kernel
theorem dX6_clock_4 : decode cX6_clock 4 = .ok (.ireturn, 1) := by decide +kernel
theorem dX6_verdictCount_0 : decode cX6_verdictCount 0 = .ok (.aload_n 0, 1) := by decide +kernel
theorem dX6_verdictCount_1 : decode cX6_verdictCount 1 = .ok (.getfield 77, 3) := by decide +kernel
theorem dX6_verdictCount_4 : decode cX6_verdictCount 4 = .ok (.ireturn, 1) := by decide +kernel
theorem dX6_describeVerdict_0 : decode cX6_describeVerdict 0 = .ok (.iload_n 1, 1) := by decide +kernel
theorem dX6_describeVerdict_1 : decode cX6_describeVerdict 1 = .ok (.iconst 0, 1) := by decide +kernel
theorem dX6_describeVerdict_2 : decode cX6_describeVerdict 2 = .ok (.bipush 15, 2) := by decide +kernel
theorem dX6_describeVerdict_4 : decode cX6_describeVerdict 4 = .ok (.invokestatic 83, 3) := by decide +kernel
theorem dX6_describeVerdict_7 : decode cX6_describeVerdict 7 = .ok (.ifCond .eq 20, 3) := by decide +kernel
theorem dX6_describeVerdict_10 : decode cX6_describeVerdict 10 = .ok (.iload_n 1, 1) := by decide +kernel
theorem dX6_describeVerdict_11 : decode cX6_describeVerdict 11 = .ok (.aload_n 0, 1) := by decide +kernel
theorem dX6_describeVerdict_12 : decode cX6_describeVerdict 12 = .ok (.getfield 77, 3) := by decide +kernel
theorem dX6_describeVerdict_15 : decode cX6_describeVerdict 15 = .ok (.if_icmp .ge 12, 3) := by decide +kernel
theorem dX6_describeVerdict_18 : decode cX6_describeVerdict 18 = .ok (.aload_n 0, 1) := by decide +kernel
theorem dX6_describeVerdict_19 : decode cX6_describeVerdict 19 = .ok (.getfield 55, 3) := by decide +kernel
theorem dX6_describeVerdict_22 : decode cX6_describeVerdict 22 = .ok (.iload_n 1, 1) := by decide +kernel
theorem dX6_describeVerdict_23 : decode cX6_describeVerdict 23 = .ok (.iaload, 1) := by decide +kernel
theorem dX6_describeVerdict_24 : decode cX6_describeVerdict 24 = .ok (.goto 5, 3) := by decide +kernel
theorem dX6_describeVerdict_27 : decode cX6_describeVerdict 27 = .ok (.bipush (-109), 2) := by decide +kernel
theorem dX6_describeVerdict_29 : decode cX6_describeVerdict 29 = .ok (.ireturn, 1) := by decide +kernel
theorem dX6_sequences_0 : decode cX6_sequences 0 = .ok (.iconst 0, 1) := by decide +kernel
theorem dX6_sequences_1 : decode cX6_sequences 1 = .ok (.istore_n 3, 1) := by decide +kernel
theorem dX6_sequences_2 : decode cX6_sequences 2 = .ok (.iload_n 3, 1) := by decide +kernel
theorem dX6_sequences_3 : decode cX6_sequences 3 = .ok (.bipush 121, 2) := by decide +kernel
theorem dX6_sequences_5 : decode cX6_sequences 5 = .ok (.if_icmp .ge 26, 3) := by decide +kernel
theorem dX6_sequences_8 : decode cX6_sequences 8 = .ok (.aload_n 0, 1) := by decide +kernel
theorem dX6_sequences_9 : decode cX6_sequences 9 = .ok (.getfield 61, 3) := by decide +kernel
theorem dX6_sequences_12 : decode cX6_sequences 12 = .ok (.iload_n 3, 1) := by decide +kernel
theorem dX6_sequences_13 : decode cX6_sequences 13 = .ok (.iload_n 3, 1) := by decide +kernel
theorem dX6_sequences_14 : decode cX6_sequences 14 = .ok (.bipush 60, 2) := by decide +kernel
theorem dX6_sequences_16 : decode cX6_sequences 16 = .ok (.if_icmp .ne 7, 3) := by decide +kernel
theorem dX6_sequences_19 : decode cX6_sequences 19 = .ok (.iconst 1, 1) := by decide +kernel
theorem dX6_sequences_20 : decode cX6_sequences 20 = .ok (.goto 4, 3) := by decide +kernel
theorem dX6_sequences_23 : decode cX6_sequences 23 = .ok (.iconst 0, 1) := by decide +kernel
theorem dX6_sequences_24 : decode cX6_sequences 24 = .ok (.iastore, 1) := by decide +kernel
theorem dX6_sequences_25 : decode cX6_sequences 25 = .ok (.iinc 3 1, 3) := by decide +kernel
theorem dX6_sequences_28 : decode cX6_sequences 28 = .ok (.goto (-26), 3) := by decide +kernel
theorem dX6_sequences_31 : decode cX6_sequences 31 = .ok (.iconst 0, 1) := by decide +kernel
theorem dX6_sequences_32 : decode cX6_sequences 32 = .ok (.istore_n 3, 1) := by decide +kernel
theorem dX6_sequences_33 : decode cX6_sequences 33 = .ok (.iconst 0, 1) := by decide +kernel
theorem dX6_sequences_34 : decode cX6_sequences 34 = .ok (.istore 4, 2) := by decide +kernel
theorem dX6_sequences_36 : decode cX6_sequences 36 = .ok (.iconst 0, 1) := by decide +kernel
theorem dX6_sequences_37 : decode cX6_sequences 37 = .ok (.istore 5, 2) := by decide +kernel
theorem dX6_sequences_39 : decode cX6_sequences 39 = .ok (.iload 5, 2) := by decide +kernel
theorem dX6_sequences_41 : decode cX6_sequences 41 = .ok (.iload_n 1, 1) := by decide +kernel
theorem dX6_sequences_42 : decode cX6_sequences 42 = .ok (.if_icmp .ge 194, 3) := by decide +kernel
theorem dX6_sequences_45 : decode cX6_sequences 45 = .ok (.iload_n 3, 1) := by decide +kernel
theorem dX6_sequences_46 : decode cX6_sequences 46 = .ok (.iconst 2, 1) := by decide +kernel
theorem dX6_sequences_47 : decode cX6_sequences 47 = .ok (.imul, 1) := by decide +kernel
theorem dX6_sequences_48 : decode cX6_sequences 48 = .ok (.istore_n 3, 1) := by decide +kernel
theorem dX6_sequences_49 : decode cX6_sequences 49 = .ok (.iload 4, 2) := by decide +kernel
theorem dX6_sequences_51 : decode cX6_sequences 51 = .ok (.iconst 2, 1) := by decide +kernel
theorem dX6_sequences_52 : decode cX6_sequences 52 = .ok (.imul, 1) := by decide +kernel
theorem dX6_sequences_53 : decode cX6_sequences 53 = .ok (.istore 4, 2) := by decide +kernel
theorem dX6_sequences_55 : decode cX6_sequences 55 = .ok (.iconst 0, 1) := by decide +kernel
theorem dX6_sequences_56 : decode cX6_sequences 56 = .ok (.istore 6, 2) := by decide +kernel
theorem dX6_sequences_58 : decode cX6_sequences 58 = .ok (.iload 6, 2) := by decide +kernel
theorem dX6_sequences_60 : decode cX6_sequences 60 = .ok (.bipush 121, 2) := by decide +kernel
theorem dX6_sequences_62 : decode cX6_sequences 62 = .ok (.if_icmp .ge 17, 3) := by decide +kernel
theorem dX6_sequences_65 : decode cX6_sequences 65 = .ok (.aload_n 0, 1) := by decide +kernel
theorem dX6_sequences_66 : decode cX6_sequences 66 = .ok (.getfield 64, 3) := by decide +kernel
theorem dX6_sequences_69 : decode cX6_sequences 69 = .ok (.iload 6, 2) := by decide +kernel
theorem dX6_sequences_71 : decode cX6_sequences 71 = .ok (.iconst 0, 1) := by decide +kernel
theorem dX6_sequences_72 : decode cX6_sequences 72 = .ok (.iastore, 1) := by decide +kernel
theorem dX6_sequences_73 : decode cX6_sequences 73 = .ok (.iinc 6 1, 3) := by decide +kernel
theorem dX6_sequences_76 : decode cX6_sequences 76 = .ok (.goto (-18), 3) := by decide +kernel
theorem dX6_sequences_79 : decode cX6_sequences 79 = .ok (.aload_n 0, 1) := by decide +kernel
theorem dX6_sequences_80 : decode cX6_sequences 80 = .ok (.getfield 22, 3) := by decide +kernel
theorem dX6_sequences_83 : decode cX6_sequences 83 = .ok (.iconst 1, 1) := by decide +kernel
theorem dX6_sequences_84 : decode cX6_sequences 84 = .ok (.iadd, 1) := by decide +kernel
theorem dX6_sequences_85 : decode cX6_sequences 85 = .ok (.istore 6, 2) := by decide +kernel
theorem dX6_sequences_87 : decode cX6_sequences 87 = .ok (.iload 6, 2) := by decide +kernel
theorem dX6_sequences_89 : decode cX6_sequences 89 = .ok (.aload_n 0, 1) := by decide +kernel
theorem dX6_sequences_90 : decode cX6_sequences 90 = .ok (.getfield 19, 3) := by decide +kernel
theorem dX6_sequences_93 : decode cX6_sequences 93 = .ok (.if_icmp .ge 107, 3) := by decide +kernel
theorem dX6_sequences_96 : decode cX6_sequences 96 = .ok (.aload_n 0, 1) := by decide +kernel
theorem dX6_sequences_97 : decode cX6_sequences 97 = .ok (.getfield 61, 3) := by decide +kernel
theorem dX6_sequences_100 : decode cX6_sequences 100 = .ok (.bipush 60, 2) := by decide +kernel
theorem dX6_sequences_102 : decode cX6_sequences 102 = .ok (.iload 6, 2) := by decide +kernel
theorem dX6_sequences_104 : decode cX6_sequences 104 = .ok (.iadd, 1) := by decide +kernel
theorem dX6_sequences_105 : decode cX6_sequences 105 = .ok (.iaload, 1) := by decide +kernel
theorem dX6_sequences_106 : decode cX6_sequences 106 = .ok (.istore 7, 2) := by decide +kernel
theorem dX6_sequences_108 : decode cX6_sequences 108 = .ok (.iload 6, 2) := by decide +kernel
theorem dX6_sequences_110 : decode cX6_sequences 110 = .ok (.aload_n 0, 1) := by decide +kernel
theorem dX6_sequences_111 : decode cX6_sequences 111 = .ok (.getfield 13, 3) := by decide +kernel
theorem dX6_sequences_114 : decode cX6_sequences 114 = .ok (.iadd, 1) := by decide +kernel
theorem dX6_sequences_115 : decode cX6_sequences 115 = .ok (.aload_n 0, 1) := by decide +kernel
theorem dX6_sequences_116 : decode cX6_sequences 116 = .ok (.getfield 19, 3) := by decide +kernel
theorem dX6_sequences_119 : decode cX6_sequences 119 = .ok (.if_icmp .lt 11, 3) := by decide +kernel
theorem dX6_sequences_122 : decode cX6_sequences 122 = .ok (.iload_n 3, 1) := by decide +kernel
theorem dX6_sequences_123 : decode cX6_sequences 123 = .ok (.iload 7, 2) := by decide +kernel
theorem dX6_sequences_125 : decode cX6_sequences 125 = .ok (.iadd, 1) := by decide +kernel
theorem dX6_sequences_126 : decode cX6_sequences 126 = .ok (.istore_n 3, 1) := by decide +kernel
theorem dX6_sequences_127 : decode cX6_sequences 127 = .ok (.goto 23, 3) := by decide +kernel
theorem dX6_sequences_130 : decode cX6_sequences 130 = .ok (.aload_n 0, 1) := by decide +kernel
theorem dX6_sequences_131 : decode cX6_sequences 131 = .ok (.getfield 64, 3) := by decide +kernel
theorem dX6_sequences_134 : decode cX6_sequences 134 = .ok (.bipush 60, 2) := by decide +kernel
theorem dX6_sequences_136 : decode cX6_sequences 136 = .ok (.iload 6, 2) := by decide +kernel
theorem dX6_sequences_138 : decode cX6_sequences 138 = .ok (.iadd, 1) := by decide +kernel
theorem dX6_sequences_139 : decode cX6_sequences 139 = .ok (.aload_n 0, 1) := by decide +kernel
theorem dX6_sequences_140 : decode cX6_sequences 140 = .ok (.getfield 13, 3) := by decide +kernel
theorem dX6_sequences_143 : decode cX6_sequences 143 = .ok (.iadd, 1) := by decide +kernel
theorem dX6_sequences_144 : decode cX6_sequences 144 = .ok (.dup2, 1) := by decide +kernel
theorem dX6_sequences_145 : decode cX6_sequences 145 = .ok (.iaload, 1) := by decide +kernel
theorem dX6_sequences_146 : decode cX6_sequences 146 = .ok (.iload 7, 2) := by decide +kernel
theorem dX6_sequences_148 : decode cX6_sequences 148 = .ok (.iadd, 1) := by decide +kernel
theorem dX6_sequences_149 : decode cX6_sequences 149 = .ok (.iastore, 1) := by decide +kernel
theorem dX6_sequences_150 : decode cX6_sequences 150 = .ok (.iload 6, 2) := by decide +kernel
theorem dX6_sequences_152 : decode cX6_sequences 152 = .ok (.aload_n 0, 1) := by decide +kernel
theorem dX6_sequences_153 : decode cX6_sequences 153 = .ok (.getfield 16, 3) := by decide +kernel
theorem dX6_sequences_156 : decode cX6_sequences 156 = .ok (.isub, 1) := by decide +kernel
theorem dX6_sequences_157 : decode cX6_sequences 157 = .ok (.aload_n 0, 1) := by decide +kernel
theorem dX6_sequences_158 : decode cX6_sequences 158 = .ok (.getfield 22, 3) := by decide +kernel
theorem dX6_sequences_161 : decode cX6_sequences 161 = .ok (.if_icmp .gt 13, 3) := by decide +kernel
theorem dX6_sequences_164 : decode cX6_sequences 164 = .ok (.iload 4, 2) := by decide +kernel
theorem dX6_sequences_166 : decode cX6_sequences 166 = .ok (.iload 7, 2) := by decide +kernel
theorem dX6_sequences_168 : decode cX6_sequences 168 = .ok (.iadd, 1) := by decide +kernel
theorem dX6_sequences_169 : decode cX6_sequences 169 = .ok (.istore 4, 2) := by decide +kernel
theorem dX6_sequences_171 : decode cX6_sequences 171 = .ok (.goto 23, 3) := by decide +kernel
theorem dX6_sequences_174 : decode cX6_sequences 174 = .ok (.aload_n 0, 1) := by decide +kernel
theorem dX6_sequences_175 : decode cX6_sequences 175 = .ok (.getfield 64, 3) := by decide +kernel
theorem dX6_sequences_178 : decode cX6_sequences 178 = .ok (.bipush 60, 2) := by decide +kernel
theorem dX6_sequences_180 : decode cX6_sequences 180 = .ok (.iload 6, 2) := by decide +kernel
theorem dX6_sequences_182 : decode cX6_sequences 182 = .ok (.iadd, 1) := by decide +kernel
theorem dX6_sequences_183 : decode cX6_sequences 183 = .ok (.aload_n 0, 1) := by decide +kernel
theorem dX6_sequences_184 : decode cX6_sequences 184 = .ok (.getfield 16, 3) := by decide +kernel
theorem dX6_sequences_187 : decode cX6_sequences 187 = .ok (.isub, 1) := by decide +kernel
theorem dX6_sequences_188 : decode cX6_sequences 188 = .ok (.dup2, 1) := by decide +kernel
theorem dX6_sequences_189 : decode cX6_sequences 189 = .ok (.iaload, 1) := by decide +kernel
theorem dX6_sequences_190 : decode cX6_sequences 190 = .ok (.iload 7, 2) := by decide +kernel
theorem dX6_sequences_192 : decode cX6_sequences 192 = .ok (.iadd, 1) := by decide +kernel
theorem dX6_sequences_193 : decode cX6_sequences 193 = .ok (.iastore, 1) := by decide +kernel
theorem dX6_sequences_194 : decode cX6_sequences 194 = .ok (.iinc 6 1, 3) := by decide +kernel
theorem dX6_sequences_197 : decode cX6_sequences 197 = .ok (.goto (-110), 3) := by decide +kernel
theorem dX6_sequences_200 : decode cX6_sequences 200 = .ok (.iconst 0, 1) := by decide +kernel
theorem dX6_sequences_201 : decode cX6_sequences 201 = .ok (.istore 6, 2) := by decide +kernel
theorem dX6_sequences_203 : decode cX6_sequences 203 = .ok (.iload 6, 2) := by decide +kernel
theorem dX6_sequences_205 : decode cX6_sequences 205 = .ok (.bipush 121, 2) := by decide +kernel
theorem dX6_sequences_207 : decode cX6_sequences 207 = .ok (.if_icmp .ge 23, 3) := by decide +kernel
theorem dX6_sequences_210 : decode cX6_sequences 210 = .ok (.aload_n 0, 1) := by decide +kernel
theorem dX6_sequences_211 : decode cX6_sequences 211 = .ok (.getfield 61, 3) := by decide +kernel
theorem dX6_sequences_214 : decode cX6_sequences 214 = .ok (.iload 6, 2) := by decide +kernel
theorem dX6_sequences_216 : decode cX6_sequences 216 = .ok (.aload_n 0, 1) := by decide +kernel
theorem dX6_sequences_217 : decode cX6_sequences 217 = .ok (.getfield 64, 3) := by decide +kernel
theorem dX6_sequences_220 : decode cX6_sequences 220 = .ok (.iload 6, 2) := by decide +kernel
theorem dX6_sequences_222 : decode cX6_sequences 222 = .ok (.iaload, 1) := by decide +kernel
theorem dX6_sequences_223 : decode cX6_sequences 223 = .ok (.iastore, 1) := by decide +kernel
theorem dX6_sequences_224 : decode cX6_sequences 224 = .ok (.iinc 6 1, 3) := by decide +kernel
theorem dX6_sequences_227 : decode cX6_sequences 227 = .ok (.goto (-24), 3) := by decide +kernel
theorem dX6_sequences_230 : decode cX6_sequences 230 = .ok (.iinc 5 1, 3) := by decide +kernel
theorem dX6_sequences_233 : decode cX6_sequences 233 = .ok (.goto (-194), 3) := by decide +kernel
theorem dX6_sequences_236 : decode cX6_sequences 236 = .ok (.iload_n 2, 1) := by decide +kernel
theorem dX6_sequences_237 : decode cX6_sequences 237 = .ok (.iconst 1, 1) := by decide +kernel
theorem dX6_sequences_238 : decode cX6_sequences 238 = .ok (.if_icmp .ne 7, 3) := by decide +kernel
theorem dX6_sequences_241 : decode cX6_sequences 241 = .ok (.iload_n 3, 1) := by decide +kernel
theorem dX6_sequences_242 : decode cX6_sequences 242 = .ok (.goto 21, 3) := by decide +kernel
theorem dX6_sequences_245 : decode cX6_sequences 245 = .ok (.iload_n 2, 1) := by decide +kernel
theorem dX6_sequences_246 : decode cX6_sequences 246 = .ok (.iconst 2, 1) := by decide +kernel
theorem dX6_sequences_247 : decode cX6_sequences 247 = .ok (.if_icmp .ne 8, 3) := by decide +kernel
theorem dX6_sequences_250 : decode cX6_sequences 250 = .ok (.iload 4, 2) := by decide +kernel
theorem dX6_sequences_252 : decode cX6_sequences 252 = .ok (.goto 11, 3) := by decide +kernel
theorem dX6_sequences_255 : decode cX6_sequences 255 = .ok (.iconst 1, 1) := by decide +kernel
theorem dX6_sequences_256 : decode cX6_sequences 256 = .ok (.iload_n 1, 1) := by decide +kernel
theorem dX6_sequences_257 : decode cX6_sequences 257 = .ok (.ishl, 1) := by decide +kernel
theorem dX6_sequences_258 : decode cX6_sequences 258 = .ok (.iload_n 3, 1) := by decide +kernel
theorem dX6_sequences_259 : decode cX6_sequences 259 = .ok (.isub, 1) := by decide +kernel
theorem dX6_sequences_260 : decode cX6_sequences 260 = .ok (.iload 4, 2) := by decide +kernel
theorem dX6_sequences_262 : decode cX6_sequences 262 = .ok (.isub, 1) := by decide +kernel
theorem dX6_sequences_263 : decode cX6_sequences 263 = .ok (.ireturn, 1) := by decide +kernel
theorem dX6_countSequences_0 : decode cX6_countSequences 0 = .ok (.iload_n 1, 1) := by decide +kernel
theorem dX6_countSequences_1 : decode cX6_countSequences 1 = .ok (.iconst 0, 1) := by decide +kernel
theorem dX6_countSequences_2 : decode cX6_countSequences 2 = .ok (.bipush 20, 2) := by decide +kernel
theorem dX6_countSequences_4 : decode cX6_countSequences 4 = .ok (.invokestatic 83, 3) := by decide +kernel
theorem dX6_countSequences_7 : decode cX6_countSequences 7 = .ok (.ifCond .eq 21, 3) := by decide +kernel
theorem dX6_countSequences_10 : decode cX6_countSequences 10 = .ok (.iload_n 2, 1) := by decide +kernel
theorem dX6_countSequences_11 : decode cX6_countSequences 11 = .ok (.iconst 0, 1) := by decide +kernel
theorem dX6_countSequences_12 : decode cX6_countSequences 12 = .ok (.iconst 2, 1) := by decide +kernel
theorem dX6_countSequences_13 : decode cX6_countSequences 13 = .ok (.invokestatic 83, 3) := by decide +kernel
theorem dX6_countSequences_16 : decode cX6_countSequences 16 = .ok (.ifCond .eq 12, 3) := by decide +kernel
theorem dX6_countSequences_19 : decode cX6_countSequences 19 = .ok (.aload_n 0, 1) := by decide +kernel
theorem dX6_countSequences_20 : decode cX6_countSequences 20 = .ok (.iload_n 1, 1) := by decide +kernel
theorem dX6_countSequences_21 : decode cX6_countSequences 21 = .ok (.iload_n 2, 1) := by decide +kernel
theorem dX6_countSequences_22 : decode cX6_countSequences 22 = .ok (.invokevirtual 148, 3) := by decide +kernel
theorem dX6_countSequences_25 : decode cX6_countSequences 25 = .ok (.goto 5, 3) := by decide +kernel
theorem dX6_countSequences_28 : decode cX6_countSequences 28 = .ok (.bipush (-104), 2) := by decide +kernel
theorem dX6_countSequences_30 : decode cX6_countSequences 30 = .ok (.ireturn, 1) := by decide +kernel
theorem dX6_step_0 : decode cX6_step 0 = .ok (.dconst 0, 1) := by decide +kernel
theorem dX6_step_1 : decode cX6_step 1 = .ok (.dstore 5, 2) := by decide +kernel
theorem dX6_step_3 : decode cX6_step 3 = .ok (.iconst 0, 1) := by decide +kernel
theorem dX6_step_4 : decode cX6_step 4 = .ok (.istore 7, 2) := by decide +kernel
theorem dX6_step_6 : decode cX6_step 6 = .ok (.iload 7, 2) := by decide +kernel
theorem dX6_step_8 : decode cX6_step 8 = .ok (.bipush 121, 2) := by decide +kernel
theorem dX6_step_10 : decode cX6_step 10 = .ok (.if_icmp .ge 17, 3) := by decide +kernel
theorem dX6_step_13 : decode cX6_step 13 = .ok (.aload_n 0, 1) := by decide +kernel
theorem dX6_step_14 : decode cX6_step 14 = .ok (.getfield 71, 3) := by decide +kernel
theorem dX6_step_17 : decode cX6_step 17 = .ok (.iload 7, 2) := by decide +kernel
theorem dX6_step_19 : decode cX6_step 19 = .ok (.dconst 0, 1) := by decide +kernel
theorem dX6_step_20 : decode cX6_step 20 = .ok (.dastore, 1) := by decide +kernel
theorem dX6_step_21 : decode cX6_step 21 = .ok (.iinc 7 1, 3) := by decide +kernel
theorem dX6_step_24 : decode cX6_step 24 = .ok (.goto (-18), 3) := by decide +kernel
theorem dX6_step_27 : decode cX6_step 27 = .ok (.aload_n 0, 1) := by decide +kernel
theorem dX6_step_28 : decode cX6_step 28 = .ok (.getfield 22, 3) := by decide +kernel
theorem dX6_step_31 : decode cX6_step 31 = .ok (.iconst 1, 1) := by decide +kernel
theorem dX6_step_32 : decode cX6_step 32 = .ok (.iadd, 1) := by decide +kernel
theorem dX6_step_33 : decode cX6_step 33 = .ok (.istore 7, 2) := by decide +kernel
theorem dX6_step_35 : decode cX6_step 35 = .ok (.iload 7, 2) := by decide +kernel
theorem dX6_step_37 : decode cX6_step 37 = .ok (.aload_n 0, 1) := by decide +kernel
theorem dX6_step_38 : decode cX6_step 38 = .ok (.getfield 19, 3) := by decide +kernel
theorem dX6_step_41 : decode cX6_step 41 = .ok (.if_icmp .ge 116, 3) := by decide +kernel
theorem dX6_step_44 : decode cX6_step 44 = .ok (.aload_n 0, 1) := by decide +kernel
theorem dX6_step_45 : decode cX6_step 45 = .ok (.getfield 67, 3) := by decide +kernel
theorem dX6_step_48 : decode cX6_step 48 = .ok (.bipush 60, 2) := by decide +kernel
theorem dX6_step_50 : decode cX6_step 50 = .ok (.iload 7, 2) := by decide +kernel
theorem dX6_step_52 : decode cX6_step 52 = .ok (.iadd, 1) := by decide +kernel
theorem dX6_step_53 : decode cX6_step 53 = .ok (.daload, 1) := by decide +kernel
theorem dX6_step_54 : decode cX6_step 54 = .ok (.dstore 8, 2) := by decide +kernel
theorem dX6_step_56 : decode cX6_step 56 = .ok (.dload 5, 2) := by decide +kernel
theorem dX6_step_58 : decode cX6_step 58 = .ok (.dload 8, 2) := by decide +kernel
theorem dX6_step_60 : decode cX6_step 60 = .ok (.dadd, 1) := by decide +kernel
theorem dX6_step_61 : decode cX6_step 61 = .ok (.dstore 5, 2) := by decide +kernel
theorem dX6_step_63 : decode cX6_step 63 = .ok (.iload 7, 2) := by decide +kernel
theorem dX6_step_65 : decode cX6_step 65 = .ok (.aload_n 0, 1) := by decide +kernel
theorem dX6_step_66 : decode cX6_step 66 = .ok (.getfield 13, 3) := by decide +kernel
theorem dX6_step_69 : decode cX6_step 69 = .ok (.iadd, 1) := by decide +kernel
theorem dX6_step_70 : decode cX6_step 70 = .ok (.aload_n 0, 1) := by decide +kernel
theorem dX6_step_71 : decode cX6_step 71 = .ok (.getfield 19, 3) := by decide +kernel
theorem dX6_step_74 : decode cX6_step 74 = .ok (.if_icmp .lt 19, 3) := by decide +kernel
theorem dX6_step_77 : decode cX6_step 77 = .ok (.aload_n 0, 1) := by decide +kernel
theorem dX6_step_78 : decode cX6_step 78 = .ok (.dup, 1) := by decide +kernel
theorem dX6_step_79 : decode cX6_step 79 = .ok (.getfield 151, 3) := by decide +kernel
theorem dX6_step_82 : decode cX6_step 82 = .ok (.dload 8, 2) := by decide +kernel
theorem dX6_step_84 : decode cX6_step 84 = .ok (.dload_n 3, 1) := by decide +kernel
theorem dX6_step_85 : decode cX6_step 85 = .ok (.dmul, 1) := by decide +kernel
theorem dX6_step_86 : decode cX6_step 86 = .ok (.dadd, 1) := by decide +kernel
theorem dX6_step_87 : decode cX6_step 87 = .ok (.putfield 151, 3) := by decide +kernel
theorem dX6_step_90 : decode cX6_step 90 = .ok (.goto 25, 3) := by decide +kernel
theorem dX6_step_93 : decode cX6_step 93 = .ok (.aload_n 0, 1) := by decide +kernel
theorem dX6_step_94 : decode cX6_step 94 = .ok (.getfield 71, 3) := by decide +kernel
theorem dX6_step_97 : decode cX6_step 97 = .ok (.bipush 60, 2) := by decide +kernel
theorem dX6_step_99 : decode cX6_step 99 = .ok (.iload 7, 2) := by decide +kernel
theorem dX6_step_101 : decode cX6_step 101 = .ok (.iadd, 1) := by decide +kernel
theorem dX6_step_102 : decode cX6_step 102 = .ok (.aload_n 0, 1) := by decide +kernel
theorem dX6_step_103 : decode cX6_step 103 = .ok (.getfield 13, 3) := by decide +kernel
theorem dX6_step_106 : decode cX6_step 106 = .ok (.iadd, 1) := by decide +kernel
theorem dX6_step_107 : decode cX6_step 107 = .ok (.dup2, 1) := by decide +kernel
theorem dX6_step_108 : decode cX6_step 108 = .ok (.daload, 1) := by decide +kernel
theorem dX6_step_109 : decode cX6_step 109 = .ok (.dload 8, 2) := by decide +kernel
theorem dX6_step_111 : decode cX6_step 111 = .ok (.dload_n 3, 1) := by decide +kernel
theorem dX6_step_112 : decode cX6_step 112 = .ok (.dmul, 1) := by decide +kernel
theorem dX6_step_113 : decode cX6_step 113 = .ok (.dadd, 1) := by decide +kernel
theorem dX6_step_114 : decode cX6_step 114 = .ok (.dastore, 1) := by decide +kernel
theorem dX6_step_115 : decode cX6_step 115 = .ok (.iload 7, 2) := by decide +kernel
theorem dX6_step_117 : decode cX6_step 117 = .ok (.aload_n 0, 1) := by decide +kernel
theorem dX6_step_118 : decode cX6_step 118 = .ok (.getfield 16, 3) := by decide +kernel
theorem dX6_step_121 : decode cX6_step 121 = .ok (.isub, 1) := by decide +kernel
theorem dX6_step_122 : decode cX6_step 122 = .ok (.aload_n 0, 1) := by decide +kernel
theorem dX6_step_123 : decode cX6_step 123 = .ok (.getfield 22, 3) := by decide +kernel
theorem dX6_step_126 : decode cX6_step 126 = .ok (.if_icmp .le 25, 3) := by decide +kernel
theorem dX6_step_129 : decode cX6_step 129 = .ok (.aload_n 0, 1) := by decide +kernel
theorem dX6_step_130 : decode cX6_step 130 = .ok (.getfield 71, 3) := by decide +kernel
theorem dX6_step_133 : decode cX6_step 133 = .ok (.bipush 60, 2) := by decide +kernel
theorem dX6_step_135 : decode cX6_step 135 = .ok (.iload 7, 2) := by decide +kernel
theorem dX6_step_137 : decode cX6_step 137 = .ok (.iadd, 1) := by decide +kernel
theorem dX6_step_138 : decode cX6_step 138 = .ok (.aload_n 0, 1) := by decide +kernel
theorem dX6_step_139 : decode cX6_step 139 = .ok (.getfield 16, 3) := by decide +kernel
theorem dX6_step_142 : decode cX6_step 142 = .ok (.isub, 1) := by decide +kernel
theorem dX6_step_143 : decode cX6_step 143 = .ok (.dup2, 1) := by decide +kernel
theorem dX6_step_144 : decode cX6_step 144 = .ok (.daload, 1) := by decide +kernel
theorem dX6_step_145 : decode cX6_step 145 = .ok (.dload 8, 2) := by decide +kernel
theorem dX6_step_147 : decode cX6_step 147 = .ok (.dload_n 1, 1) := by decide +kernel
theorem dX6_step_148 : decode cX6_step 148 = .ok (.dmul, 1) := by decide +kernel
theorem dX6_step_149 : decode cX6_step 149 = .ok (.dadd, 1) := by decide +kernel
theorem dX6_step_150 : decode cX6_step 150 = .ok (.dastore, 1) := by decide +kernel
theorem dX6_step_151 : decode cX6_step 151 = .ok (.iinc 7 1, 3) := by decide +kernel
theorem dX6_step_154 : decode cX6_step 154 = .ok (.goto (-119), 3) := by decide +kernel
theorem dX6_step_157 : decode cX6_step 157 = .ok (.aload_n 0, 1) := by decide +kernel
theorem dX6_step_158 : decode cX6_step 158 = .ok (.dup, 1) := by decide +kernel
theorem dX6_step_159 : decode cX6_step 159 = .ok (.getfield 155, 3) := by decide +kernel
theorem dX6_step_162 : decode cX6_step 162 = .ok (.dload 5, 2) := by decide +kernel
theorem dX6_step_164 : decode cX6_step 164 = .ok (.dadd, 1) := by decide +kernel
theorem dX6_step_165 : decode cX6_step 165 = .ok (.putfield 155, 3) := by decide +kernel
theorem dX6_step_168 : decode cX6_step 168 = .ok (.iconst 0, 1) := by decide +kernel
theorem dX6_step_169 : decode cX6_step 169 = .ok (.istore 7, 2) := by decide +kernel
theorem dX6_step_171 : decode cX6_step 171 = .ok (.iload 7, 2) := by decide +kernel
theorem dX6_step_173 : decode cX6_step 173 = .ok (.bipush 121, 2) := by decide +kernel
theorem dX6_step_175 : decode cX6_step 175 = .ok (.if_icmp .ge 23, 3) := by decide +kernel
theorem dX6_step_178 : decode cX6_step 178 = .ok (.aload_n 0, 1) := by decide +kernel
theorem dX6_step_179 : decode cX6_step 179 = .ok (.getfield 67, 3) := by decide +kernel
theorem dX6_step_182 : decode cX6_step 182 = .ok (.iload 7, 2) := by decide +kernel
theorem dX6_step_184 : decode cX6_step 184 = .ok (.aload_n 0, 1) := by decide +kernel
theorem dX6_step_185 : decode cX6_step 185 = .ok (.getfield 71, 3) := by decide +kernel
theorem dX6_step_188 : decode cX6_step 188 = .ok (.iload 7, 2) := by decide +kernel
theorem dX6_step_190 : decode cX6_step 190 = .ok (.daload, 1) := by decide +kernel
theorem dX6_step_191 : decode cX6_step 191 = .ok (.dastore, 1) := by decide +kernel
theorem dX6_step_192 : decode cX6_step 192 = .ok (.iinc 7 1, 3) := by decide +kernel
theorem dX6_step_195 : decode cX6_step 195 = .ok (.goto (-24), 3) := by decide +kernel
theorem dX6_step_198 : decode cX6_step 198 = .ok (.return_, 1) := by decide +kernel
theorem dX6_layChances_0 : decode cX6_layChances 0 = .ok (.iload_n 1, 1) := by decide +kernel
theorem dX6_layChances_1 : decode cX6_layChances 1 = .ok (.i2d, 1) := by decide +kernel
theorem dX6_layChances_2 : decode cX6_layChances 2 = .ok (.ldc2_w 158, 3) := by decide +kernel
theorem dX6_layChances_5 : decode cX6_layChances 5 = .ok (.ddiv, 1) := by decide +kernel
theorem dX6_layChances_6 : decode cX6_layChances 6 = .ok (.dstore_n 3, 1) := by decide +kernel
theorem dX6_layChances_7 : decode cX6_layChances 7 = .ok (.dconst 1, 1) := by decide +kernel
theorem dX6_layChances_8 : decode cX6_layChances 8 = .ok (.dload_n 3, 1) := by decide +kernel
theorem dX6_layChances_9 : decode cX6_layChances 9 = .ok (.dsub, 1) := by decide +kernel
theorem dX6_layChances_10 : decode cX6_layChances 10 = .ok (.dstore 5, 2) := by decide +kernel
theorem dX6_layChances_12 : decode cX6_layChances 12 = .ok (.iconst 0, 1) := by decide +kernel
theorem dX6_layChances_13 : decode cX6_layChances 13 = .ok (.istore 7, 2) := by decide +kernel
theorem dX6_layChances_15 : decode cX6_layChances 15 = .ok (.iload 7, 2) := by decide +kernel
theorem dX6_layChances_17 : decode cX6_layChances 17 = .ok (.bipush 121, 2) := by decide +kernel
theorem dX6_layChances_19 : decode cX6_layChances 19 = .ok (.if_icmp .ge 28, 3) := by decide +kernel
theorem dX6_layChances_22 : decode cX6_layChances 22 = .ok (.aload_n 0, 1) := by decide +kernel
theorem dX6_layChances_23 : decode cX6_layChances 23 = .ok (.getfield 67, 3) := by decide +kernel
theorem dX6_layChances_26 : decode cX6_layChances 26 = .ok (.iload 7, 2) := by decide +kernel
theorem dX6_layChances_28 : decode cX6_layChances 28 = .ok (.iload 7, 2) := by decide +kernel
theorem dX6_layChances_30 : decode cX6_layChances 30 = .ok (.bipush 60, 2) := by decide +kernel
theorem dX6_layChances_32 : decode cX6_layChances 32 = .ok (.if_icmp .ne 7, 3) := by decide +kernel
theorem dX6_layChances_35 : decode cX6_layChances 35 = .ok (.dconst 1, 1) := by decide +kernel
theorem dX6_layChances_36 : decode cX6_layChances 36 = .ok (.goto 4, 3) := by decide +kernel
theorem dX6_layChances_39 : decode cX6_layChances 39 = .ok (.dconst 0, 1) := by decide +kernel
theorem dX6_layChances_40 : decode cX6_layChances 40 = .ok (.dastore, 1) := by decide +kernel
theorem dX6_layChances_41 : decode cX6_layChances 41 = .ok (.iinc 7 1, 3) := by decide +kernel
theorem dX6_layChances_44 : decode cX6_layChances 44 = .ok (.goto (-29), 3) := by decide +kernel
theorem dX6_layChances_47 : decode cX6_layChances 47 = .ok (.aload_n 0, 1) := by decide +kernel
theorem dX6_layChances_48 : decode cX6_layChances 48 = .ok (.dconst 0, 1) := by decide +kernel
theorem dX6_layChances_49 : decode cX6_layChances 49 = .ok (.putfield 151, 3) := by decide +kernel
theorem dX6_layChances_52 : decode cX6_layChances 52 = .ok (.aload_n 0, 1) := by decide +kernel
theorem dX6_layChances_53 : decode cX6_layChances 53 = .ok (.dconst 0, 1) := by decide +kernel
theorem dX6_layChances_54 : decode cX6_layChances 54 = .ok (.putfield 155, 3) := by decide +kernel
theorem dX6_layChances_57 : decode cX6_layChances 57 = .ok (.iconst 0, 1) := by decide +kernel
theorem dX6_layChances_58 : decode cX6_layChances 58 = .ok (.istore 7, 2) := by decide +kernel
theorem dX6_layChances_60 : decode cX6_layChances 60 = .ok (.iload 7, 2) := by decide +kernel
theorem dX6_layChances_62 : decode cX6_layChances 62 = .ok (.iload_n 2, 1) := by decide +kernel
theorem dX6_layChances_63 : decode cX6_layChances 63 = .ok (.if_icmp .ge 16, 3) := by decide +kernel
theorem dX6_layChances_66 : decode cX6_layChances 66 = .ok (.aload_n 0, 1) := by decide +kernel
theorem dX6_layChances_67 : decode cX6_layChances 67 = .ok (.dload_n 3, 1) := by decide +kernel
theorem dX6_layChances_68 : decode cX6_layChances 68 = .ok (.dload 5, 2) := by decide +kernel
theorem dX6_layChances_70 : decode cX6_layChances 70 = .ok (.invokevirtual 160, 3) := by decide +kernel
theorem dX6_layChances_73 : decode cX6_layChances 73 = .ok (.iinc 7 1, 3) := by decide +kernel
theorem dX6_layChances_76 : decode cX6_layChances 76 = .ok (.goto (-16), 3) := by decide +kernel
theorem dX6_layChances_79 : decode cX6_layChances 79 = .ok (.return_, 1) := by decide +kernel
theorem dX6_areRight_0 : decode cX6_areRight 0 = .ok (.iload_n 0, 1) := by decide +kernel
theorem dX6_areRight_1 : decode cX6_areRight 1 = .ok (.iconst 0, 1) := by decide +kernel
theorem dX6_areRight_2 : decode cX6_areRight 2 = .ok (.bipush 100, 2) := by decide +kernel
theorem dX6_areRight_4 : decode cX6_areRight 4 = .ok (.invokestatic 83, 3) := by decide +kernel
theorem dX6_areRight_7 : decode cX6_areRight 7 = .ok (.ifCond .eq 17, 3) := by decide +kernel
theorem dX6_areRight_10 : decode cX6_areRight 10 = .ok (.iload_n 1, 1) := by decide +kernel
theorem dX6_areRight_11 : decode cX6_areRight 11 = .ok (.iconst 0, 1) := by decide +kernel
theorem dX6_areRight_12 : decode cX6_areRight 12 = .ok (.bipush 60, 2) := by decide +kernel
theorem dX6_areRight_14 : decode cX6_areRight 14 = .ok (.invokestatic 83, 3) := by decide +kernel
theorem dX6_areRight_17 : decode cX6_areRight 17 = .ok (.ifCond .eq 7, 3) := by decide +kernel
theorem dX6_areRight_20 : decode cX6_areRight 20 = .ok (.iconst 1, 1) := by decide +kernel
theorem dX6_areRight_21 : decode cX6_areRight 21 = .ok (.goto 4, 3) := by decide +kernel
theorem dX6_areRight_24 : decode cX6_areRight 24 = .ok (.iconst 0, 1) := by decide +kernel
theorem dX6_areRight_25 : decode cX6_areRight 25 = .ok (.ireturn, 1) := by decide +kernel
theorem dX6_scannedBits_0 : decode cX6_scannedBits 0 = .ok (.aload_n 0, 1) := by decide +kernel
theorem dX6_scannedBits_1 : decode cX6_scannedBits 1 = .ok (.iload_n 1, 1) := by decide +kernel
theorem dX6_scannedBits_2 : decode cX6_scannedBits 2 = .ok (.iload_n 2, 1) := by decide +kernel
theorem dX6_scannedBits_3 : decode cX6_scannedBits 3 = .ok (.invokevirtual 164, 3) := by decide +kernel
theorem dX6_scannedBits_6 : decode cX6_scannedBits 6 = .ok (.aload_n 0, 1) := by decide +kernel
theorem dX6_scannedBits_7 : decode cX6_scannedBits 7 = .ok (.getfield 151, 3) := by decide +kernel
theorem dX6_scannedBits_10 : decode cX6_scannedBits 10 = .ok (.invokestatic 168, 3) := by decide +kernel
theorem dX6_scannedBits_13 : decode cX6_scannedBits 13 = .ok (.lreturn, 1) := by decide +kernel
theorem dX6_awaitedBits_0 : decode cX6_awaitedBits 0 = .ok (.aload_n 0, 1) := by decide +kernel
theorem dX6_awaitedBits_1 : decode cX6_awaitedBits 1 = .ok (.iload_n 1, 1) := by decide +kernel
theorem dX6_awaitedBits_2 : decode cX6_awaitedBits 2 = .ok (.iload_n 2, 1) := by decide +kernel
theorem dX6_awaitedBits_3 : decode cX6_awaitedBits 3 = .ok (.invokevirtual 164, 3) := by decide +kernel
theorem dX6_awaitedBits_6 : decode cX6_awaitedBits 6 = .ok (.aload_n 0, 1) := by decide +kernel
theorem dX6_awaitedBits_7 : decode cX6_awaitedBits 7 = .ok (.getfield 155, 3) := by decide +kernel
theorem dX6_awaitedBits_10 : decode cX6_awaitedBits 10 = .ok (.invokestatic 168, 3) := by decide +kernel
theorem dX6_awaitedBits_13 : decode cX6_awaitedBits 13 = .ok (.lreturn, 1) := by decide +kernel
theorem dX6_scannerProbability_0 : decode cX6_scannerProbability 0 = .ok (.iload_n 1, 1) := by decide +kernel
theorem dX6_scannerProbability_1 : decode cX6_scannerProbability 1 = .ok (.iload_n 2, 1) := by decide +kernel
theorem dX6_scannerProbability_2 : decode cX6_scannerProbability 2 = .ok (.invokestatic 174, 3) := by decide +kernel
theorem dX6_scannerProbability_5 : decode cX6_scannerProbability 5 = .ok (.ifCond .eq 12, 3) := by decide +kernel
theorem dX6_scannerProbability_8 : decode cX6_scannerProbability 8 = .ok (.aload_n 0, 1) := by decide +kernel
theorem dX6_scannerProbability_9 : decode cX6_scannerProbability 9 = .ok (.iload_n 1, 1) := by decide +kernel
theorem dX6_scannerProbability_10 : decode cX6_scannerProbability 10 = .ok (.iload_n 2, 1) := by decide +kernel
theorem dX6_scannerProbability_11 : decode cX6_scannerProbability 11 = .ok (.invokevirtual 177, 3) := by decide +kernel
theorem dX6_scannerProbability_14 : decode cX6_scannerProbability 14 = .ok (.goto 6, 3) := by decide +kernel
theorem dX6_scannerProbability_17 : decode cX6_scannerProbability 17 = .ok (.ldc2_w 181, 3) := by decide +kernel
theorem dX6_scannerProbability_20 : decode cX6_scannerProbability 20 = .ok (.lreturn, 1) := by decide +kernel
theorem dX6_expectedContacts_0 : decode cX6_expectedContacts 0 = .ok (.iload_n 1, 1) := by decide +kernel
theorem dX6_expectedContacts_1 : decode cX6_expectedContacts 1 = .ok (.iload_n 2, 1) := by decide +kernel
theorem dX6_expectedContacts_2 : decode cX6_expectedContacts 2 = .ok (.invokestatic 174, 3) := by decide +kernel
theorem dX6_expectedContacts_5 : decode cX6_expectedContacts 5 = .ok (.ifCond .eq 12, 3) := by decide +kernel
theorem dX6_expectedContacts_8 : decode cX6_expectedContacts 8 = .ok (.aload_n 0, 1) := by decide +kernel
theorem dX6_expectedContacts_9 : decode cX6_expectedContacts 9 = .ok (.iload_n 1, 1) := by decide +kernel
theorem dX6_expectedContacts_10 : decode cX6_expectedContacts 10 = .ok (.iload_n 2, 1) := by decide +kernel
theorem dX6_expectedContacts_11 : decode cX6_expectedContacts 11 = .ok (.invokevirtual 183, 3) := by decide +kernel
theorem dX6_expectedContacts_14 : decode cX6_expectedContacts 14 = .ok (.goto 6, 3) := by decide +kernel
theorem dX6_expectedContacts_17 : decode cX6_expectedContacts 17 = .ok (.ldc2_w 181, 3) := by decide +kernel
theorem dX6_expectedContacts_20 : decode cX6_expectedContacts 20 = .ok (.lreturn, 1) := by decide +kernel
theorem dX6_mix_0 : decode cX6_mix 0 = .ok (.aload_n 0, 1) := by decide +kernel
theorem dX6_mix_1 : decode cX6_mix 1 = .ok (.ldc2_w 186, 3) := by decide +kernel
theorem dX6_mix_4 : decode cX6_mix 4 = .ok (.aload_n 0, 1) := by decide +kernel
theorem dX6_mix_5 : decode cX6_mix 5 = .ok (.getfield 188, 3) := by decide +kernel
theorem dX6_mix_8 : decode cX6_mix 8 = .ok (.lmul, 1) := by decide +kernel
theorem dX6_mix_9 : decode cX6_mix 9 = .ok (.lload_n 1, 1) := by decide +kernel
theorem dX6_mix_10 : decode cX6_mix 10 = .ok (.ladd, 1) := by decide +kernel
theorem dX6_mix_11 : decode cX6_mix 11 = .ok (.putfield 188, 3) := by decide +kernel
theorem dX6_mix_14 : decode cX6_mix 14 = .ok (.return_, 1) := by decide +kernel
theorem dX6_digest_0 : decode cX6_digest 0 = .ok (.aload_n 0, 1) := by decide +kernel
theorem dX6_digest_1 : decode cX6_digest 1 = .ok (.ldc2_w 192, 3) := by decide +kernel
theorem dX6_digest_4 : decode cX6_digest 4 = .ok (.putfield 188, 3) := by decide +kernel
theorem dX6_digest_7 : decode cX6_digest 7 = .ok (.aload_n 0, 1) := by decide +kernel
theorem dX6_digest_8 : decode cX6_digest 8 = .ok (.aload_n 0, 1) := by decide +kernel
theorem dX6_digest_9 : decode cX6_digest 9 = .ok (.getfield 7, 3) := by decide +kernel
theorem dX6_digest_12 : decode cX6_digest 12 = .ok (.i2l, 1) := by decide +kernel
theorem dX6_digest_13 : decode cX6_digest 13 = .ok (.invokevirtual 194, 3) := by decide +kernel
theorem dX6_digest_16 : decode cX6_digest 16 = .ok (.aload_n 0, 1) := by decide +kernel
theorem dX6_digest_17 : decode cX6_digest 17 = .ok (.aload_n 0, 1) := by decide +kernel
theorem dX6_digest_18 : decode cX6_digest 18 = .ok (.getfield 13, 3) := by decide +kernel
theorem dX6_digest_21 : decode cX6_digest 21 = .ok (.i2l, 1) := by decide +kernel
theorem dX6_digest_22 : decode cX6_digest 22 = .ok (.invokevirtual 194, 3) := by decide +kernel
theorem dX6_digest_25 : decode cX6_digest 25 = .ok (.aload_n 0, 1) := by decide +kernel
theorem dX6_digest_26 : decode cX6_digest 26 = .ok (.aload_n 0, 1) := by decide +kernel
theorem dX6_digest_27 : decode cX6_digest 27 = .ok (.getfield 16, 3) := by decide +kernel
theorem dX6_digest_30 : decode cX6_digest 30 = .ok (.i2l, 1) := by decide +kernel
theorem dX6_digest_31 : decode cX6_digest 31 = .ok (.invokevirtual 194, 3) := by decide +kernel
theorem dX6_digest_34 : decode cX6_digest 34 = .ok (.aload_n 0, 1) := by decide +kernel
theorem dX6_digest_35 : decode cX6_digest 35 = .ok (.aload_n 0, 1) := by decide +kernel
theorem dX6_digest_36 : decode cX6_digest 36 = .ok (.getfield 19, 3) := by decide +kernel
theorem dX6_digest_39 : decode cX6_digest 39 = .ok (.i2l, 1) := by decide +kernel
theorem dX6_digest_40 : decode cX6_digest 40 = .ok (.invokevirtual 194, 3) := by decide +kernel
theorem dX6_digest_43 : decode cX6_digest 43 = .ok (.aload_n 0, 1) := by decide +kernel
theorem dX6_digest_44 : decode cX6_digest 44 = .ok (.aload_n 0, 1) := by decide +kernel
theorem dX6_digest_45 : decode cX6_digest 45 = .ok (.getfield 22, 3) := by decide +kernel
theorem dX6_digest_48 : decode cX6_digest 48 = .ok (.i2l, 1) := by decide +kernel
theorem dX6_digest_49 : decode cX6_digest 49 = .ok (.invokevirtual 194, 3) := by decide +kernel
theorem dX6_digest_52 : decode cX6_digest 52 = .ok (.aload_n 0, 1) := by decide +kernel
theorem dX6_digest_53 : decode cX6_digest 53 = .ok (.aload_n 0, 1) := by decide +kernel
theorem dX6_digest_54 : decode cX6_digest 54 = .ok (.getfield 25, 3) := by decide +kernel
theorem dX6_digest_57 : decode cX6_digest 57 = .ok (.i2l, 1) := by decide +kernel
theorem dX6_digest_58 : decode cX6_digest 58 = .ok (.invokevirtual 194, 3) := by decide +kernel
theorem dX6_digest_61 : decode cX6_digest 61 = .ok (.aload_n 0, 1) := by decide +kernel
theorem dX6_digest_62 : decode cX6_digest 62 = .ok (.aload_n 0, 1) := by decide +kernel
theorem dX6_digest_63 : decode cX6_digest 63 = .ok (.getfield 80, 3) := by decide +kernel
theorem dX6_digest_66 : decode cX6_digest 66 = .ok (.i2l, 1) := by decide +kernel
theorem dX6_digest_67 : decode cX6_digest 67 = .ok (.invokevirtual 194, 3) := by decide +kernel
theorem dX6_digest_70 : decode cX6_digest 70 = .ok (.iconst 0, 1) := by decide +kernel
theorem dX6_digest_71 : decode cX6_digest 71 = .ok (.istore_n 1, 1) := by decide +kernel
theorem dX6_digest_72 : decode cX6_digest 72 = .ok (.iload_n 1, 1) := by decide +kernel
theorem dX6_digest_73 : decode cX6_digest 73 = .ok (.aload_n 0, 1) := by decide +kernel
theorem dX6_digest_74 : decode cX6_digest 74 = .ok (.getfield 7, 3) := by decide +kernel
theorem dX6_digest_77 : decode cX6_digest 77 = .ok (.if_icmp .ge 70, 3) := by decide +kernel
theorem dX6_digest_80 : decode cX6_digest 80 = .ok (.aload_n 0, 1) := by decide +kernel
theorem dX6_digest_81 : decode cX6_digest 81 = .ok (.aload_n 0, 1) := by decide +kernel
theorem dX6_digest_82 : decode cX6_digest 82 = .ok (.getfield 28, 3) := by decide +kernel
theorem dX6_digest_85 : decode cX6_digest 85 = .ok (.iload_n 1, 1) := by decide +kernel
theorem dX6_digest_86 : decode cX6_digest 86 = .ok (.iaload, 1) := by decide +kernel
theorem dX6_digest_87 : decode cX6_digest 87 = .ok (.i2l, 1) := by decide +kernel
theorem dX6_digest_88 : decode cX6_digest 88 = .ok (.invokevirtual 194, 3) := by decide +kernel
theorem dX6_digest_91 : decode cX6_digest 91 = .ok (.aload_n 0, 1) := by decide +kernel
theorem dX6_digest_92 : decode cX6_digest 92 = .ok (.aload_n 0, 1) := by decide +kernel
theorem dX6_digest_93 : decode cX6_digest 93 = .ok (.getfield 32, 3) := by decide +kernel
theorem dX6_digest_96 : decode cX6_digest 96 = .ok (.iload_n 1, 1) := by decide +kernel
theorem dX6_digest_97 : decode cX6_digest 97 = .ok (.baload, 1) := by decide +kernel
theorem dX6_digest_98 : decode cX6_digest 98 = .ok (.ifCond .eq 7, 3) := by decide +kernel
theorem dX6_digest_101 : decode cX6_digest 101 = .ok (.lconst 1, 1) := by decide +kernel
theorem dX6_digest_102 : decode cX6_digest 102 = .ok (.goto 4, 3) := by decide +kernel
theorem dX6_digest_105 : decode cX6_digest 105 = .ok (.lconst 0, 1) := by decide +kernel
theorem dX6_digest_106 : decode cX6_digest 106 = .ok (.invokevirtual 194, 3) := by decide +kernel
theorem dX6_digest_109 : decode cX6_digest 109 = .ok (.aload_n 0, 1) := by decide +kernel
theorem dX6_digest_110 : decode cX6_digest 110 = .ok (.aload_n 0, 1) := by decide +kernel
theorem dX6_digest_111 : decode cX6_digest 111 = .ok (.getfield 36, 3) := by decide +kernel
theorem dX6_digest_114 : decode cX6_digest 114 = .ok (.iload_n 1, 1) := by decide +kernel
theorem dX6_digest_115 : decode cX6_digest 115 = .ok (.laload, 1) := by decide +kernel
theorem dX6_digest_116 : decode cX6_digest 116 = .ok (.invokevirtual 194, 3) := by decide +kernel
theorem dX6_digest_119 : decode cX6_digest 119 = .ok (.aload_n 0, 1) := by decide +kernel
theorem dX6_digest_120 : decode cX6_digest 120 = .ok (.aload_n 0, 1) := by decide +kernel
theorem dX6_digest_121 : decode cX6_digest 121 = .ok (.getfield 40, 3) := by decide +kernel
theorem dX6_digest_124 : decode cX6_digest 124 = .ok (.iload_n 1, 1) := by decide +kernel
theorem dX6_digest_125 : decode cX6_digest 125 = .ok (.iaload, 1) := by decide +kernel
theorem dX6_digest_126 : decode cX6_digest 126 = .ok (.i2l, 1) := by decide +kernel
theorem dX6_digest_127 : decode cX6_digest 127 = .ok (.invokevirtual 194, 3) := by decide +kernel
theorem dX6_digest_130 : decode cX6_digest 130 = .ok (.aload_n 0, 1) := by decide +kernel
theorem dX6_digest_131 : decode cX6_digest 131 = .ok (.aload_n 0, 1) := by decide +kernel
theorem dX6_digest_132 : decode cX6_digest 132 = .ok (.getfield 43, 3) := by decide +kernel
theorem dX6_digest_135 : decode cX6_digest 135 = .ok (.iload_n 1, 1) := by decide +kernel
theorem dX6_digest_136 : decode cX6_digest 136 = .ok (.iaload, 1) := by decide +kernel
theorem dX6_digest_137 : decode cX6_digest 137 = .ok (.i2l, 1) := by decide +kernel
theorem dX6_digest_138 : decode cX6_digest 138 = .ok (.invokevirtual 194, 3) := by decide +kernel
theorem dX6_digest_141 : decode cX6_digest 141 = .ok (.iinc 1 1, 3) := by decide +kernel
theorem dX6_digest_144 : decode cX6_digest 144 = .ok (.goto (-72), 3) := by decide +kernel
theorem dX6_digest_147 : decode cX6_digest 147 = .ok (.aload_n 0, 1) := by decide +kernel
theorem dX6_digest_148 : decode cX6_digest 148 = .ok (.aload_n 0, 1) := by decide +kernel
theorem dX6_digest_149 : decode cX6_digest 149 = .ok (.getfield 74, 3) := by decide +kernel
theorem dX6_digest_152 : decode cX6_digest 152 = .ok (.i2l, 1) := by decide +kernel
theorem dX6_digest_153 : decode cX6_digest 153 = .ok (.invokevirtual 194, 3) := by decide +kernel
theorem dX6_digest_156 : decode cX6_digest 156 = .ok (.iconst 0, 1) := by decide +kernel
theorem dX6_digest_157 : decode cX6_digest 157 = .ok (.istore_n 1, 1) := by decide +kernel
theorem dX6_digest_158 : decode cX6_digest 158 = .ok (.iload_n 1, 1) := by decide +kernel
theorem dX6_digest_159 : decode cX6_digest 159 = .ok (.aload_n 0, 1) := by decide +kernel
theorem dX6_digest_160 : decode cX6_digest 160 = .ok (.getfield 74, 3) := by decide +kernel
theorem dX6_digest_163 : decode cX6_digest 163 = .ok (.if_icmp .ge 19, 3) := by decide +kernel
theorem dX6_digest_166 : decode cX6_digest 166 = .ok (.aload_n 0, 1) := by decide +kernel
theorem dX6_digest_167 : decode cX6_digest 167 = .ok (.aload_n 0, 1) := by decide +kernel
theorem dX6_digest_168 : decode cX6_digest 168 = .ok (.iload_n 1, 1) := by decide +kernel
theorem dX6_digest_169 : decode cX6_digest 169 = .ok (.invokevirtual 144, 3) := by decide +kernel
theorem dX6_digest_172 : decode cX6_digest 172 = .ok (.i2l, 1) := by decide +kernel
theorem dX6_digest_173 : decode cX6_digest 173 = .ok (.invokevirtual 194, 3) := by decide +kernel
theorem dX6_digest_176 : decode cX6_digest 176 = .ok (.iinc 1 1, 3) := by decide +kernel
theorem dX6_digest_179 : decode cX6_digest 179 = .ok (.goto (-21), 3) := by decide +kernel
theorem dX6_digest_182 : decode cX6_digest 182 = .ok (.aload_n 0, 1) := by decide +kernel
theorem dX6_digest_183 : decode cX6_digest 183 = .ok (.aload_n 0, 1) := by decide +kernel
theorem dX6_digest_184 : decode cX6_digest 184 = .ok (.getfield 77, 3) := by decide +kernel
theorem dX6_digest_187 : decode cX6_digest 187 = .ok (.i2l, 1) := by decide +kernel
theorem dX6_digest_188 : decode cX6_digest 188 = .ok (.invokevirtual 194, 3) := by decide +kernel
theorem dX6_digest_191 : decode cX6_digest 191 = .ok (.iconst 0, 1) := by decide +kernel
theorem dX6_digest_192 : decode cX6_digest 192 = .ok (.istore_n 1, 1) := by decide +kernel
theorem dX6_digest_193 : decode cX6_digest 193 = .ok (.iload_n 1, 1) := by decide +kernel
theorem dX6_digest_194 : decode cX6_digest 194 = .ok (.aload_n 0, 1) := by decide +kernel
theorem dX6_digest_195 : decode cX6_digest 195 = .ok (.getfield 77, 3) := by decide +kernel
theorem dX6_digest_198 : decode cX6_digest 198 = .ok (.if_icmp .ge 26, 3) := by decide +kernel
theorem dX6_digest_201 : decode cX6_digest 201 = .ok (.iload_n 1, 1) := by decide +kernel
theorem dX6_digest_202 : decode cX6_digest 202 = .ok (.bipush 16, 2) := by decide +kernel
theorem dX6_digest_204 : decode cX6_digest 204 = .ok (.if_icmp .ge 20, 3) := by decide +kernel
theorem dX6_digest_207 : decode cX6_digest 207 = .ok (.aload_n 0, 1) := by decide +kernel
theorem dX6_digest_208 : decode cX6_digest 208 = .ok (.aload_n 0, 1) := by decide +kernel
theorem dX6_digest_209 : decode cX6_digest 209 = .ok (.getfield 55, 3) := by decide +kernel
theorem dX6_digest_212 : decode cX6_digest 212 = .ok (.iload_n 1, 1) := by decide +kernel
theorem dX6_digest_213 : decode cX6_digest 213 = .ok (.iaload, 1) := by decide +kernel
theorem dX6_digest_214 : decode cX6_digest 214 = .ok (.i2l, 1) := by decide +kernel
theorem dX6_digest_215 : decode cX6_digest 215 = .ok (.invokevirtual 194, 3) := by decide +kernel
theorem dX6_digest_218 : decode cX6_digest 218 = .ok (.iinc 1 1, 3) := by decide +kernel
theorem dX6_digest_221 : decode cX6_digest 221 = .ok (.goto (-28), 3) := by decide +kernel
theorem dX6_digest_224 : decode cX6_digest 224 = .ok (.aload_n 0, 1) := by decide +kernel
theorem dX6_digest_225 : decode cX6_digest 225 = .ok (.aload_n 0, 1) := by decide +kernel
theorem dX6_digest_226 : decode cX6_digest 226 = .ok (.bipush 10, 2) := by decide +kernel
theorem dX6_digest_228 : decode cX6_digest 228 = .ok (.iconst 1, 1) := by decide +kernel
theorem dX6_digest_229 : decode cX6_digest 229 = .ok (.invokevirtual 148, 3) := by decide +kernel
theorem dX6_digest_232 : decode cX6_digest 232 = .ok (.i2l, 1) := by decide +kernel
theorem dX6_digest_233 : decode cX6_digest 233 = .ok (.invokevirtual 194, 3) := by decide +kernel
theorem dX6_digest_236 : decode cX6_digest 236 = .ok (.aload_n 0, 1) := by decide +kernel
theorem dX6_digest_237 : decode cX6_digest 237 = .ok (.aload_n 0, 1) := by decide +kernel
theorem dX6_digest_238 : decode cX6_digest 238 = .ok (.bipush 10, 2) := by decide +kernel
theorem dX6_digest_240 : decode cX6_digest 240 = .ok (.iconst 2, 1) := by decide +kernel
theorem dX6_digest_241 : decode cX6_digest 241 = .ok (.invokevirtual 148, 3) := by decide +kernel
theorem dX6_digest_244 : decode cX6_digest 244 = .ok (.i2l, 1) := by decide +kernel
theorem dX6_digest_245 : decode cX6_digest 245 = .ok (.invokevirtual 194, 3) := by decide +kernel
theorem dX6_digest_248 : decode cX6_digest 248 = .ok (.aload_n 0, 1) := by decide +kernel
theorem dX6_digest_249 : decode cX6_digest 249 = .ok (.aload_n 0, 1) := by decide +kernel
theorem dX6_digest_250 : decode cX6_digest 250 = .ok (.bipush 20, 2) := by decide +kernel
theorem dX6_digest_252 : decode cX6_digest 252 = .ok (.bipush 12, 2) := by decide +kernel
theorem dX6_digest_254 : decode cX6_digest 254 = .ok (.invokevirtual 177, 3) := by decide +kernel
theorem dX6_digest_257 : decode cX6_digest 257 = .ok (.invokevirtual 194, 3) := by decide +kernel
theorem dX6_digest_260 : decode cX6_digest 260 = .ok (.aload_n 0, 1) := by decide +kernel
theorem dX6_digest_261 : decode cX6_digest 261 = .ok (.aload_n 0, 1) := by decide +kernel
theorem dX6_digest_262 : decode cX6_digest 262 = .ok (.bipush 20, 2) := by decide +kernel
theorem dX6_digest_264 : decode cX6_digest 264 = .ok (.bipush 12, 2) := by decide +kernel
theorem dX6_digest_266 : decode cX6_digest 266 = .ok (.invokevirtual 183, 3) := by decide +kernel
theorem dX6_digest_269 : decode cX6_digest 269 = .ok (.invokevirtual 194, 3) := by decide +kernel
theorem dX6_digest_272 : decode cX6_digest 272 = .ok (.aload_n 0, 1) := by decide +kernel
theorem dX6_digest_273 : decode cX6_digest 273 = .ok (.aload_n 0, 1) := by decide +kernel
theorem dX6_digest_274 : decode cX6_digest 274 = .ok (.getfield 133, 3) := by decide +kernel
theorem dX6_digest_277 : decode cX6_digest 277 = .ok (.i2l, 1) := by decide +kernel
theorem dX6_digest_278 : decode cX6_digest 278 = .ok (.invokevirtual 194, 3) := by decide +kernel
theorem dX6_digest_281 : decode cX6_digest 281 = .ok (.iconst 0, 1) := by decide +kernel
theorem dX6_digest_282 : decode cX6_digest 282 = .ok (.istore_n 1, 1) := by decide +kernel
theorem dX6_digest_283 : decode cX6_digest 283 = .ok (.iload_n 1, 1) := by decide +kernel
theorem dX6_digest_284 : decode cX6_digest 284 = .ok (.aload_n 0, 1) := by decide +kernel
theorem dX6_digest_285 : decode cX6_digest 285 = .ok (.getfield 133, 3) := by decide +kernel
theorem dX6_digest_288 : decode cX6_digest 288 = .ok (.if_icmp .ge 20, 3) := by decide +kernel
theorem dX6_digest_291 : decode cX6_digest 291 = .ok (.aload_n 0, 1) := by decide +kernel
theorem dX6_digest_292 : decode cX6_digest 292 = .ok (.aload_n 0, 1) := by decide +kernel
theorem dX6_digest_293 : decode cX6_digest 293 = .ok (.getfield 58, 3) := by decide +kernel
theorem dX6_digest_296 : decode cX6_digest 296 = .ok (.iload_n 1, 1) := by decide +kernel
theorem dX6_digest_297 : decode cX6_digest 297 = .ok (.iaload, 1) := by decide +kernel
theorem dX6_digest_298 : decode cX6_digest 298 = .ok (.i2l, 1) := by decide +kernel
theorem dX6_digest_299 : decode cX6_digest 299 = .ok (.invokevirtual 194, 3) := by decide +kernel
theorem dX6_digest_302 : decode cX6_digest 302 = .ok (.iinc 1 1, 3) := by decide +kernel
theorem dX6_digest_305 : decode cX6_digest 305 = .ok (.goto (-22), 3) := by decide +kernel
theorem dX6_digest_308 : decode cX6_digest 308 = .ok (.aload_n 0, 1) := by decide +kernel
theorem dX6_digest_309 : decode cX6_digest 309 = .ok (.getfield 188, 3) := by decide +kernel
theorem dX6_digest_312 : decode cX6_digest 312 = .ok (.lreturn, 1) := by decide +kernel
end
section
theorem dL_law_0 : decode cL_law 0 = .ok (.new 7, 3) := by decide +kernel
theorem dL_law_3 : decode cL_law 3 = .ok (.dup, 1) := by decide +kernel
theorem dL_law_4 : decode cL_law 4 = .ok (.invokespecial 9, 3) := by decide +kernel
theorem dL_law_7 : decode cL_law 7 = .ok (.astore_n 1, 1) := by decide +kernel
theorem dL_law_8 : decode cL_law 8 = .ok (.new 10, 3) := by decide +kernel
theorem dL_law_11 : decode cL_law 11 = .ok (.dup, 1) := by decide +kernel
theorem dL_law_12 : decode cL_law 12 = .ok (.invokespecial 12, 3) := by decide +kernel
theorem dL_law_15 : decode cL_law 15 = .ok (.astore_n 2, 1) := by decide +kernel
theorem dL_law_16 : decode cL_law 16 = .ok (.iconst 0, 1) := by decide +kernel
theorem dL_law_17 : decode cL_law 17 = .ok (.istore_n 3, 1) := by decide +kernel
theorem dL_law_18 : decode cL_law 18 = .ok (.iload_n 3, 1) := by decide +kernel
theorem dL_law_19 : decode cL_law 19 = .ok (.aload_n 0, 1) := by decide +kernel
theorem dL_law_20 : decode cL_law 20 = .ok (.arraylength, 1) := by decide +kernel
theorem dL_law_21 : decode cL_law 21 = .ok (.iconst 5, 1) := by decide +kernel
theorem dL_law_22 : decode cL_law 22 = .ok (.isub, 1) := by decide +kernel
theorem dL_law_23 : decode cL_law 23 = .ok (.if_icmp .gt 810, 3) := by decide +kernel
theorem dL_law_26 : decode cL_law 26 = .ok (.aload_n 0, 1) := by decide +kernel
theorem dL_law_27 : decode cL_law 27 = .ok (.iload_n 3, 1) := by decide +kernel
theorem dL_law_28 : decode cL_law 28 = .ok (.iaload, 1) := by decide +kernel
theorem dL_law_29 : decode cL_law 29 = .ok (.bipush 31, 2) := by decide +kernel
theorem dL_law_31 : decode cL_law 31 = .ok (.iand, 1) := by decide +kernel
theorem dL_law_32 : decode cL_law 32 = .ok (.tableswitch 795 0 26 #[124, 177, 200, 223, 282, 315, 348, 371, 394, 417, 430, 443, 456, 479, 502, 525, 549, 572, 595, 608, 631, 644, 657, 680, 713, 747, 781], 124) := by decide +kernel
theorem dL_law_156 : decode cL_law 156 = .ok (.aload_n 1, 1) := by decide +kernel
theorem dL_law_157 : decode cL_law 157 = .ok (.aload_n 0, 1) := by decide +kernel
theorem dL_law_158 : decode cL_law 158 = .ok (.iload_n 3, 1) := by decide +kernel
theorem dL_law_159 : decode cL_law 159 = .ok (.iconst 1, 1) := by decide +kernel
theorem dL_law_160 : decode cL_law 160 = .ok (.iadd, 1) := by decide +kernel
theorem dL_law_161 : decode cL_law 161 = .ok (.iaload, 1) := by decide +kernel
theorem dL_law_162 : decode cL_law 162 = .ok (.aload_n 0, 1) := by decide +kernel
theorem dL_law_163 : decode cL_law 163 = .ok (.iload_n 3, 1) := by decide +kernel
theorem dL_law_164 : decode cL_law 164 = .ok (.iconst 2, 1) := by decide +kernel
theorem dL_law_165 : decode cL_law 165 = .ok (.iadd, 1) := by decide +kernel
theorem dL_law_166 : decode cL_law 166 = .ok (.iaload, 1) := by decide +kernel
theorem dL_law_167 : decode cL_law 167 = .ok (.aload_n 0, 1) := by decide +kernel
theorem dL_law_168 : decode cL_law 168 = .ok (.iload_n 3, 1) := by decide +kernel
theorem dL_law_169 : decode cL_law 169 = .ok (.iconst 3, 1) := by decide +kernel
theorem dL_law_170 : decode cL_law 170 = .ok (.iadd, 1) := by decide +kernel
theorem dL_law_171 : decode cL_law 171 = .ok (.iaload, 1) := by decide +kernel
theorem dL_law_172 : decode cL_law 172 = .ok (.aload_n 0, 1) := by decide +kernel
theorem dL_law_173 : decode cL_law 173 = .ok (.iload_n 3, 1) := by decide +kernel
theorem dL_law_174 : decode cL_law 174 = .ok (.iconst 4, 1) := by decide +kernel
theorem dL_law_175 : decode cL_law 175 = .ok (.iadd, 1) := by decide +kernel
theorem dL_law_176 : decode cL_law 176 = .ok (.iaload, 1) := by decide +kernel
theorem dL_law_177 : decode cL_law 177 = .ok (.invokevirtual 13, 3) := by decide +kernel
theorem dL_law_180 : decode cL_law 180 = .ok (.aload_n 2, 1) := by decide +kernel
theorem dL_law_181 : decode cL_law 181 = .ok (.aload_n 0, 1) := by decide +kernel
theorem dL_law_182 : decode cL_law 182 = .ok (.iload_n 3, 1) := by decide +kernel
theorem dL_law_183 : decode cL_law 183 = .ok (.iconst 1, 1) := by decide +kernel
theorem dL_law_184 : decode cL_law 184 = .ok (.iadd, 1) := by decide +kernel
theorem dL_law_185 : decode cL_law 185 = .ok (.iaload, 1) := by decide +kernel
theorem dL_law_186 : decode cL_law 186 = .ok (.aload_n 0, 1) := by decide +kernel
theorem dL_law_187 : decode cL_law 187 = .ok (.iload_n 3, 1) := by decide +kernel
theorem dL_law_188 : decode cL_law 188 = .ok (.iconst 2, 1) := by decide +kernel
theorem dL_law_189 : decode cL_law 189 = .ok (.iadd, 1) := by decide +kernel
theorem dL_law_190 : decode cL_law 190 = .ok (.iaload, 1) := by decide +kernel
theorem dL_law_191 : decode cL_law 191 = .ok (.aload_n 0, 1) := by decide +kernel
theorem dL_law_192 : decode cL_law 192 = .ok (.iload_n 3, 1) := by decide +kernel
theorem dL_law_193 : decode cL_law 193 = .ok (.iconst 3, 1) := by decide +kernel
theorem dL_law_194 : decode cL_law 194 = .ok (.iadd, 1) := by decide +kernel
theorem dL_law_195 : decode cL_law 195 = .ok (.iaload, 1) := by decide +kernel
theorem dL_law_196 : decode cL_law 196 = .ok (.aload_n 0, 1) := by decide +kernel
theorem dL_law_197 : decode cL_law 197 = .ok (.iload_n 3, 1) := by decide +kernel
theorem dL_law_198 : decode cL_law 198 = .ok (.iconst 4, 1) := by decide +kernel
theorem dL_law_199 : decode cL_law 199 = .ok (.iadd, 1) := by decide +kernel
theorem dL_law_200 : decode cL_law 200 = .ok (.iaload, 1) := by decide +kernel
theorem dL_law_201 : decode cL_law 201 = .ok (.invokevirtual 17, 3) := by decide +kernel
theorem dL_law_204 : decode cL_law 204 = .ok (.if_icmp .eq 623, 3) := by decide +kernel
theorem dL_law_207 : decode cL_law 207 = .ok (.iconst 0, 1) := by decide +kernel
theorem dL_law_208 : decode cL_law 208 = .ok (.ireturn, 1) := by decide +kernel
theorem dL_law_209 : decode cL_law 209 = .ok (.aload_n 1, 1) := by decide +kernel
theorem dL_law_210 : decode cL_law 210 = .ok (.aload_n 0, 1) := by decide +kernel
theorem dL_law_211 : decode cL_law 211 = .ok (.iload_n 3, 1) := by decide +kernel
theorem dL_law_212 : decode cL_law 212 = .ok (.iconst 1, 1) := by decide +kernel
theorem dL_law_213 : decode cL_law 213 = .ok (.iadd, 1) := by decide +kernel
theorem dL_law_214 : decode cL_law 214 = .ok (.iaload, 1) := by decide +kernel
theorem dL_law_215 : decode cL_law 215 = .ok (.invokevirtual 18, 3) := by decide +kernel
theorem dL_law_218 : decode cL_law 218 = .ok (.aload_n 2, 1) := by decide +kernel
theorem dL_law_219 : decode cL_law 219 = .ok (.aload_n 0, 1) := by decide +kernel
theorem dL_law_220 : decode cL_law 220 = .ok (.iload_n 3, 1) := by decide +kernel
theorem dL_law_221 : decode cL_law 221 = .ok (.iconst 1, 1) := by decide +kernel
theorem dL_law_222 : decode cL_law 222 = .ok (.iadd, 1) := by decide +kernel
theorem dL_law_223 : decode cL_law 223 = .ok (.iaload, 1) := by decide +kernel
theorem dL_law_224 : decode cL_law 224 = .ok (.invokevirtual 22, 3) := by decide +kernel
theorem dL_law_227 : decode cL_law 227 = .ok (.if_icmp .eq 600, 3) := by decide +kernel
theorem dL_law_230 : decode cL_law 230 = .ok (.iconst 0, 1) := by decide +kernel
theorem dL_law_231 : decode cL_law 231 = .ok (.ireturn, 1) := by decide +kernel
theorem dL_law_232 : decode cL_law 232 = .ok (.aload_n 1, 1) := by decide +kernel
theorem dL_law_233 : decode cL_law 233 = .ok (.aload_n 0, 1) := by decide +kernel
theorem dL_law_234 : decode cL_law 234 = .ok (.iload_n 3, 1) := by decide +kernel
theorem dL_law_235 : decode cL_law 235 = .ok (.iconst 1, 1) := by decide +kernel
theorem dL_law_236 : decode cL_law 236 = .ok (.iadd, 1) := by decide +kernel
theorem dL_law_237 : decode cL_law 237 = .ok (.iaload, 1) := by decide +kernel
theorem dL_law_238 : decode cL_law 238 = .ok (.invokevirtual 23, 3) := by decide +kernel
theorem dL_law_241 : decode cL_law 241 = .ok (.aload_n 2, 1) := by decide +kernel
theorem dL_law_242 : decode cL_law 242 = .ok (.aload_n 0, 1) := by decide +kernel
theorem dL_law_243 : decode cL_law 243 = .ok (.iload_n 3, 1) := by decide +kernel
theorem dL_law_244 : decode cL_law 244 = .ok (.iconst 1, 1) := by decide +kernel
theorem dL_law_245 : decode cL_law 245 = .ok (.iadd, 1) := by decide +kernel
theorem dL_law_246 : decode cL_law 246 = .ok (.iaload, 1) := by decide +kernel
theorem dL_law_247 : decode cL_law 247 = .ok (.invokevirtual 26, 3) := by decide +kernel
theorem dL_law_250 : decode cL_law 250 = .ok (.if_icmp .eq 577, 3) := by decide +kernel
theorem dL_law_253 : decode cL_law 253 = .ok (.iconst 0, 1) := by decide +kernel
theorem dL_law_254 : decode cL_law 254 = .ok (.ireturn, 1) := by decide +kernel
theorem dL_law_255 : decode cL_law 255 = .ok (.aload_n 1, 1) := by decide +kernel
theorem dL_law_256 : decode cL_law 256 = .ok (.aload_n 0, 1) := by decide +kernel
theorem dL_law_257 : decode cL_law 257 = .ok (.iload_n 3, 1) := by decide +kernel
theorem dL_law_258 : decode cL_law 258 = .ok (.iconst 1, 1) := by decide +kernel
theorem dL_law_259 : decode cL_law 259 = .ok (.iadd, 1) := by decide +kernel
theorem dL_law_260 : decode cL_law 260 = .ok (.iaload, 1) := by decide +kernel
theorem dL_law_261 : decode cL_law 261 = .ok (.aload_n 0, 1) := by decide +kernel
theorem dL_law_262 : decode cL_law 262 = .ok (.iload_n 3, 1) := by decide +kernel
theorem dL_law_263 : decode cL_law 263 = .ok (.iconst 2, 1) := by decide +kernel
theorem dL_law_264 : decode cL_law 264 = .ok (.iadd, 1) := by decide +kernel
theorem dL_law_265 : decode cL_law 265 = .ok (.iaload, 1) := by decide +kernel
theorem dL_law_266 : decode cL_law 266 = .ok (.aload_n 0, 1) := by decide +kernel
theorem dL_law_267 : decode cL_law 267 = .ok (.iload_n 3, 1) := by decide +kernel
theorem dL_law_268 : decode cL_law 268 = .ok (.iconst 3, 1) := by decide +kernel
theorem dL_law_269 : decode cL_law 269 = .ok (.iadd, 1) := by decide +kernel
theorem dL_law_270 : decode cL_law 270 = .ok (.iaload, 1) := by decide +kernel
theorem dL_law_271 : decode cL_law 271 = .ok (.ifCond .eq 7, 3) := by decide +kernel
theorem dL_law_274 : decode cL_law 274 = .ok (.iconst 1, 1) := by decide +kernel
theorem dL_law_275 : decode cL_law 275 = .ok (.goto 4, 3) := by decide +kernel
theorem dL_law_278 : decode cL_law 278 = .ok (.iconst 0, 1) := by decide +kernel
theorem dL_law_279 : decode cL_law 279 = .ok (.invokevirtual 27, 3) := by decide +kernel
theorem dL_law_282 : decode cL_law 282 = .ok (.aload_n 2, 1) := by decide +kernel
theorem dL_law_283 : decode cL_law 283 = .ok (.aload_n 0, 1) := by decide +kernel
theorem dL_law_284 : decode cL_law 284 = .ok (.iload_n 3, 1) := by decide +kernel
theorem dL_law_285 : decode cL_law 285 = .ok (.iconst 1, 1) := by decide +kernel
theorem dL_law_286 : decode cL_law 286 = .ok (.iadd, 1) := by decide +kernel
theorem dL_law_287 : decode cL_law 287 = .ok (.iaload, 1) := by decide +kernel
theorem dL_law_288 : decode cL_law 288 = .ok (.aload_n 0, 1) := by decide +kernel
theorem dL_law_289 : decode cL_law 289 = .ok (.iload_n 3, 1) := by decide +kernel
theorem dL_law_290 : decode cL_law 290 = .ok (.iconst 2, 1) := by decide +kernel
theorem dL_law_291 : decode cL_law 291 = .ok (.iadd, 1) := by decide +kernel
theorem dL_law_292 : decode cL_law 292 = .ok (.iaload, 1) := by decide +kernel
theorem dL_law_293 : decode cL_law 293 = .ok (.aload_n 0, 1) := by decide +kernel
theorem dL_law_294 : decode cL_law 294 = .ok (.iload_n 3, 1) := by decide +kernel
theorem dL_law_295 : decode cL_law 295 = .ok (.iconst 3, 1) := by decide +kernel
theorem dL_law_296 : decode cL_law 296 = .ok (.iadd, 1) := by decide +kernel
theorem dL_law_297 : decode cL_law 297 = .ok (.iaload, 1) := by decide +kernel
theorem dL_law_298 : decode cL_law 298 = .ok (.ifCond .eq 7, 3) := by decide +kernel
theorem dL_law_301 : decode cL_law 301 = .ok (.iconst 1, 1) := by decide +kernel
theorem dL_law_302 : decode cL_law 302 = .ok (.goto 4, 3) := by decide +kernel
theorem dL_law_305 : decode cL_law 305 = .ok (.iconst 0, 1) := by decide +kernel
theorem dL_law_306 : decode cL_law 306 = .ok (.invokevirtual 31, 3) := by decide +kernel
theorem dL_law_309 : decode cL_law 309 = .ok (.if_icmp .eq 518, 3) := by decide +kernel
theorem dL_law_312 : decode cL_law 312 = .ok (.iconst 0, 1) := by decide +kernel
theorem dL_law_313 : decode cL_law 313 = .ok (.ireturn, 1) := by decide +kernel
theorem dL_law_314 : decode cL_law 314 = .ok (.aload_n 1, 1) := by decide +kernel
theorem dL_law_315 : decode cL_law 315 = .ok (.aload_n 0, 1) := by decide +kernel
theorem dL_law_316 : decode cL_law 316 = .ok (.iload_n 3, 1) := by decide +kernel
theorem dL_law_317 : decode cL_law 317 = .ok (.iconst 1, 1) := by decide +kernel
theorem dL_law_318 : decode cL_law 318 = .ok (.iadd, 1) := by decide +kernel
theorem dL_law_319 : decode cL_law 319 = .ok (.iaload, 1) := by decide +kernel
theorem dL_law_320 : decode cL_law 320 = .ok (.aload_n 0, 1) := by decide +kernel
theorem dL_law_321 : decode cL_law 321 = .ok (.iload_n 3, 1) := by decide +kernel
theorem dL_law_322 : decode cL_law 322 = .ok (.iconst 2, 1) := by decide +kernel
theorem dL_law_323 : decode cL_law 323 = .ok (.iadd, 1) := by decide +kernel
theorem dL_law_324 : decode cL_law 324 = .ok (.iaload, 1) := by decide +kernel
theorem dL_law_325 : decode cL_law 325 = .ok (.invokevirtual 32, 3) := by decide +kernel
theorem dL_law_328 : decode cL_law 328 = .ok (.aload_n 2, 1) := by decide +kernel
theorem dL_law_329 : decode cL_law 329 = .ok (.aload_n 0, 1) := by decide +kernel
theorem dL_law_330 : decode cL_law 330 = .ok (.iload_n 3, 1) := by decide +kernel
theorem dL_law_331 : decode cL_law 331 = .ok (.iconst 1, 1) := by decide +kernel
theorem dL_law_332 : decode cL_law 332 = .ok (.iadd, 1) := by decide +kernel
theorem dL_law_333 : decode cL_law 333 = .ok (.iaload, 1) := by decide +kernel
theorem dL_law_334 : decode cL_law 334 = .ok (.aload_n 0, 1) := by decide +kernel
theorem dL_law_335 : decode cL_law 335 = .ok (.iload_n 3, 1) := by decide +kernel
theorem dL_law_336 : decode cL_law 336 = .ok (.iconst 2, 1) := by decide +kernel
theorem dL_law_337 : decode cL_law 337 = .ok (.iadd, 1) := by decide +kernel
theorem dL_law_338 : decode cL_law 338 = .ok (.iaload, 1) := by decide +kernel
theorem dL_law_339 : decode cL_law 339 = .ok (.invokevirtual 36, 3) := by decide +kernel
theorem dL_law_342 : decode cL_law 342 = .ok (.if_icmp .eq 485, 3) := by decide +kernel
theorem dL_law_345 : decode cL_law 345 = .ok (.iconst 0, 1) := by decide +kernel
theorem dL_law_346 : decode cL_law 346 = .ok (.ireturn, 1) := by decide +kernel
theorem dL_law_347 : decode cL_law 347 = .ok (.aload_n 1, 1) := by decide +kernel
theorem dL_law_348 : decode cL_law 348 = .ok (.aload_n 0, 1) := by decide +kernel
theorem dL_law_349 : decode cL_law 349 = .ok (.iload_n 3, 1) := by decide +kernel
theorem dL_law_350 : decode cL_law 350 = .ok (.iconst 1, 1) := by decide +kernel
theorem dL_law_351 : decode cL_law 351 = .ok (.iadd, 1) := by decide +kernel
theorem dL_law_352 : decode cL_law 352 = .ok (.iaload, 1) := by decide +kernel
theorem dL_law_353 : decode cL_law 353 = .ok (.aload_n 0, 1) := by decide +kernel
theorem dL_law_354 : decode cL_law 354 = .ok (.iload_n 3, 1) := by decide +kernel
theorem dL_law_355 : decode cL_law 355 = .ok (.iconst 2, 1) := by decide +kernel
theorem dL_law_356 : decode cL_law 356 = .ok (.iadd, 1) := by decide +kernel
theorem dL_law_357 : decode cL_law 357 = .ok (.iaload, 1) := by decide +kernel
theorem dL_law_358 : decode cL_law 358 = .ok (.invokevirtual 37, 3) := by decide +kernel
theorem dL_law_361 : decode cL_law 361 = .ok (.aload_n 2, 1) := by decide +kernel
theorem dL_law_362 : decode cL_law 362 = .ok (.aload_n 0, 1) := by decide +kernel
theorem dL_law_363 : decode cL_law 363 = .ok (.iload_n 3, 1) := by decide +kernel
theorem dL_law_364 : decode cL_law 364 = .ok (.iconst 1, 1) := by decide +kernel
theorem dL_law_365 : decode cL_law 365 = .ok (.iadd, 1) := by decide +kernel
theorem dL_law_366 : decode cL_law 366 = .ok (.iaload, 1) := by decide +kernel
theorem dL_law_367 : decode cL_law 367 = .ok (.aload_n 0, 1) := by decide +kernel
theorem dL_law_368 : decode cL_law 368 = .ok (.iload_n 3, 1) := by decide +kernel
theorem dL_law_369 : decode cL_law 369 = .ok (.iconst 2, 1) := by decide +kernel
theorem dL_law_370 : decode cL_law 370 = .ok (.iadd, 1) := by decide +kernel
theorem dL_law_371 : decode cL_law 371 = .ok (.iaload, 1) := by decide +kernel
theorem dL_law_372 : decode cL_law 372 = .ok (.invokevirtual 40, 3) := by decide +kernel
theorem dL_law_375 : decode cL_law 375 = .ok (.if_icmp .eq 452, 3) := by decide +kernel
theorem dL_law_378 : decode cL_law 378 = .ok (.iconst 0, 1) := by decide +kernel
theorem dL_law_379 : decode cL_law 379 = .ok (.ireturn, 1) := by decide +kernel
theorem dL_law_380 : decode cL_law 380 = .ok (.aload_n 1, 1) := by decide +kernel
theorem dL_law_381 : decode cL_law 381 = .ok (.aload_n 0, 1) := by decide +kernel
theorem dL_law_382 : decode cL_law 382 = .ok (.iload_n 3, 1) := by decide +kernel
theorem dL_law_383 : decode cL_law 383 = .ok (.iconst 1, 1) := by decide +kernel
theorem dL_law_384 : decode cL_law 384 = .ok (.iadd, 1) := by decide +kernel
theorem dL_law_385 : decode cL_law 385 = .ok (.iaload, 1) := by decide +kernel
theorem dL_law_386 : decode cL_law 386 = .ok (.invokevirtual 41, 3) := by decide +kernel
theorem dL_law_389 : decode cL_law 389 = .ok (.aload_n 2, 1) := by decide +kernel
theorem dL_law_390 : decode cL_law 390 = .ok (.aload_n 0, 1) := by decide +kernel
theorem dL_law_391 : decode cL_law 391 = .ok (.iload_n 3, 1) := by decide +kernel
theorem dL_law_392 : decode cL_law 392 = .ok (.iconst 1, 1) := by decide +kernel
theorem dL_law_393 : decode cL_law 393 = .ok (.iadd, 1) := by decide +kernel
theorem dL_law_394 : decode cL_law 394 = .ok (.iaload, 1) := by decide +kernel
theorem dL_law_395 : decode cL_law 395 = .ok (.invokevirtual 44, 3) := by decide +kernel
theorem dL_law_398 : decode cL_law 398 = .ok (.if_icmp .eq 429, 3) := by decide +kernel
theorem dL_law_401 : decode cL_law 401 = .ok (.iconst 0, 1) := by decide +kernel
theorem dL_law_402 : decode cL_law 402 = .ok (.ireturn, 1) := by decide +kernel
theorem dL_law_403 : decode cL_law 403 = .ok (.aload_n 1, 1) := by decide +kernel
theorem dL_law_404 : decode cL_law 404 = .ok (.aload_n 0, 1) := by decide +kernel
theorem dL_law_405 : decode cL_law 405 = .ok (.iload_n 3, 1) := by decide +kernel
theorem dL_law_406 : decode cL_law 406 = .ok (.iconst 1, 1) := by decide +kernel
theorem dL_law_407 : decode cL_law 407 = .ok (.iadd, 1) := by decide +kernel
theorem dL_law_408 : decode cL_law 408 = .ok (.iaload, 1) := by decide +kernel
theorem dL_law_409 : decode cL_law 409 = .ok (.invokevirtual 45, 3) := by decide +kernel
theorem dL_law_412 : decode cL_law 412 = .ok (.aload_n 2, 1) := by decide +kernel
theorem dL_law_413 : decode cL_law 413 = .ok (.aload_n 0, 1) := by decide +kernel
theorem dL_law_414 : decode cL_law 414 = .ok (.iload_n 3, 1) := by decide +kernel
theorem dL_law_415 : decode cL_law 415 = .ok (.iconst 1, 1) := by decide +kernel
theorem dL_law_416 : decode cL_law 416 = .ok (.iadd, 1) := by decide +kernel
theorem dL_law_417 : decode cL_law 417 = .ok (.iaload, 1) := by decide +kernel
theorem dL_law_418 : decode cL_law 418 = .ok (.invokevirtual 48, 3) := by decide +kernel
theorem dL_law_421 : decode cL_law 421 = .ok (.if_icmp .eq 406, 3) := by decide +kernel
theorem dL_law_424 : decode cL_law 424 = .ok (.iconst 0, 1) := by decide +kernel
theorem dL_law_425 : decode cL_law 425 = .ok (.ireturn, 1) := by decide +kernel
theorem dL_law_426 : decode cL_law 426 = .ok (.aload_n 1, 1) := by decide +kernel
theorem dL_law_427 : decode cL_law 427 = .ok (.aload_n 0, 1) := by decide +kernel
theorem dL_law_428 : decode cL_law 428 = .ok (.iload_n 3, 1) := by decide +kernel
theorem dL_law_429 : decode cL_law 429 = .ok (.iconst 1, 1) := by decide +kernel
theorem dL_law_430 : decode cL_law 430 = .ok (.iadd, 1) := by decide +kernel
theorem dL_law_431 : decode cL_law 431 = .ok (.iaload, 1) := by decide +kernel
theorem dL_law_432 : decode cL_law 432 = .ok (.invokevirtual 49, 3) := by decide +kernel
theorem dL_law_435 : decode cL_law 435 = .ok (.aload_n 2, 1) := by decide +kernel
theorem dL_law_436 : decode cL_law 436 = .ok (.aload_n 0, 1) := by decide +kernel
theorem dL_law_437 : decode cL_law 437 = .ok (.iload_n 3, 1) := by decide +kernel
theorem dL_law_438 : decode cL_law 438 = .ok (.iconst 1, 1) := by decide +kernel
theorem dL_law_439 : decode cL_law 439 = .ok (.iadd, 1) := by decide +kernel
theorem dL_law_440 : decode cL_law 440 = .ok (.iaload, 1) := by decide +kernel
theorem dL_law_441 : decode cL_law 441 = .ok (.invokevirtual 52, 3) := by decide +kernel
theorem dL_law_444 : decode cL_law 444 = .ok (.if_icmp .eq 383, 3) := by decide +kernel
theorem dL_law_447 : decode cL_law 447 = .ok (.iconst 0, 1) := by decide +kernel
theorem dL_law_448 : decode cL_law 448 = .ok (.ireturn, 1) := by decide +kernel
theorem dL_law_449 : decode cL_law 449 = .ok (.aload_n 1, 1) := by decide +kernel
theorem dL_law_450 : decode cL_law 450 = .ok (.invokevirtual 53, 3) := by decide +kernel
theorem dL_law_453 : decode cL_law 453 = .ok (.aload_n 2, 1) := by decide +kernel
theorem dL_law_454 : decode cL_law 454 = .ok (.invokevirtual 57, 3) := by decide +kernel
theorem dL_law_457 : decode cL_law 457 = .ok (.if_icmp .eq 370, 3) := by decide +kernel
theorem dL_law_460 : decode cL_law 460 = .ok (.iconst 0, 1) := by decide +kernel
theorem dL_law_461 : decode cL_law 461 = .ok (.ireturn, 1) := by decide +kernel
theorem dL_law_462 : decode cL_law 462 = .ok (.aload_n 1, 1) := by decide +kernel
theorem dL_law_463 : decode cL_law 463 = .ok (.invokevirtual 58, 3) := by decide +kernel
theorem dL_law_466 : decode cL_law 466 = .ok (.aload_n 2, 1) := by decide +kernel
theorem dL_law_467 : decode cL_law 467 = .ok (.invokevirtual 61, 3) := by decide +kernel
theorem dL_law_470 : decode cL_law 470 = .ok (.if_icmp .eq 357, 3) := by decide +kernel
theorem dL_law_473 : decode cL_law 473 = .ok (.iconst 0, 1) := by decide +kernel
theorem dL_law_474 : decode cL_law 474 = .ok (.ireturn, 1) := by decide +kernel
theorem dL_law_475 : decode cL_law 475 = .ok (.aload_n 1, 1) := by decide +kernel
theorem dL_law_476 : decode cL_law 476 = .ok (.invokevirtual 62, 3) := by decide +kernel
theorem dL_law_479 : decode cL_law 479 = .ok (.aload_n 2, 1) := by decide +kernel
theorem dL_law_480 : decode cL_law 480 = .ok (.invokevirtual 65, 3) := by decide +kernel
theorem dL_law_483 : decode cL_law 483 = .ok (.if_icmp .eq 344, 3) := by decide +kernel
theorem dL_law_486 : decode cL_law 486 = .ok (.iconst 0, 1) := by decide +kernel
theorem dL_law_487 : decode cL_law 487 = .ok (.ireturn, 1) := by decide +kernel
theorem dL_law_488 : decode cL_law 488 = .ok (.aload_n 1, 1) := by decide +kernel
theorem dL_law_489 : decode cL_law 489 = .ok (.aload_n 0, 1) := by decide +kernel
theorem dL_law_490 : decode cL_law 490 = .ok (.iload_n 3, 1) := by decide +kernel
theorem dL_law_491 : decode cL_law 491 = .ok (.iconst 1, 1) := by decide +kernel
theorem dL_law_492 : decode cL_law 492 = .ok (.iadd, 1) := by decide +kernel
theorem dL_law_493 : decode cL_law 493 = .ok (.iaload, 1) := by decide +kernel
theorem dL_law_494 : decode cL_law 494 = .ok (.invokevirtual 66, 3) := by decide +kernel
theorem dL_law_497 : decode cL_law 497 = .ok (.aload_n 2, 1) := by decide +kernel
theorem dL_law_498 : decode cL_law 498 = .ok (.aload_n 0, 1) := by decide +kernel
theorem dL_law_499 : decode cL_law 499 = .ok (.iload_n 3, 1) := by decide +kernel
theorem dL_law_500 : decode cL_law 500 = .ok (.iconst 1, 1) := by decide +kernel
theorem dL_law_501 : decode cL_law 501 = .ok (.iadd, 1) := by decide +kernel
theorem dL_law_502 : decode cL_law 502 = .ok (.iaload, 1) := by decide +kernel
theorem dL_law_503 : decode cL_law 503 = .ok (.invokevirtual 69, 3) := by decide +kernel
theorem dL_law_506 : decode cL_law 506 = .ok (.if_icmp .eq 321, 3) := by decide +kernel
theorem dL_law_509 : decode cL_law 509 = .ok (.iconst 0, 1) := by decide +kernel
theorem dL_law_510 : decode cL_law 510 = .ok (.ireturn, 1) := by decide +kernel
theorem dL_law_511 : decode cL_law 511 = .ok (.aload_n 1, 1) := by decide +kernel
theorem dL_law_512 : decode cL_law 512 = .ok (.aload_n 0, 1) := by decide +kernel
theorem dL_law_513 : decode cL_law 513 = .ok (.iload_n 3, 1) := by decide +kernel
theorem dL_law_514 : decode cL_law 514 = .ok (.iconst 1, 1) := by decide +kernel
theorem dL_law_515 : decode cL_law 515 = .ok (.iadd, 1) := by decide +kernel
theorem dL_law_516 : decode cL_law 516 = .ok (.iaload, 1) := by decide +kernel
theorem dL_law_517 : decode cL_law 517 = .ok (.invokevirtual 70, 3) := by decide +kernel
theorem dL_law_520 : decode cL_law 520 = .ok (.aload_n 2, 1) := by decide +kernel
theorem dL_law_521 : decode cL_law 521 = .ok (.aload_n 0, 1) := by decide +kernel
theorem dL_law_522 : decode cL_law 522 = .ok (.iload_n 3, 1) := by decide +kernel
theorem dL_law_523 : decode cL_law 523 = .ok (.iconst 1, 1) := by decide +kernel
theorem dL_law_524 : decode cL_law 524 = .ok (.iadd, 1) := by decide +kernel
theorem dL_law_525 : decode cL_law 525 = .ok (.iaload, 1) := by decide +kernel
theorem dL_law_526 : decode cL_law 526 = .ok (.invokevirtual 73, 3) := by decide +kernel
theorem dL_law_529 : decode cL_law 529 = .ok (.if_icmp .eq 298, 3) := by decide +kernel
theorem dL_law_532 : decode cL_law 532 = .ok (.iconst 0, 1) := by decide +kernel
theorem dL_law_533 : decode cL_law 533 = .ok (.ireturn, 1) := by decide +kernel
theorem dL_law_534 : decode cL_law 534 = .ok (.aload_n 1, 1) := by decide +kernel
theorem dL_law_535 : decode cL_law 535 = .ok (.aload_n 0, 1) := by decide +kernel
theorem dL_law_536 : decode cL_law 536 = .ok (.iload_n 3, 1) := by decide +kernel
theorem dL_law_537 : decode cL_law 537 = .ok (.iconst 1, 1) := by decide +kernel
theorem dL_law_538 : decode cL_law 538 = .ok (.iadd, 1) := by decide +kernel
theorem dL_law_539 : decode cL_law 539 = .ok (.iaload, 1) := by decide +kernel
theorem dL_law_540 : decode cL_law 540 = .ok (.invokevirtual 74, 3) := by decide +kernel
theorem dL_law_543 : decode cL_law 543 = .ok (.aload_n 2, 1) := by decide +kernel
theorem dL_law_544 : decode cL_law 544 = .ok (.aload_n 0, 1) := by decide +kernel
theorem dL_law_545 : decode cL_law 545 = .ok (.iload_n 3, 1) := by decide +kernel
theorem dL_law_546 : decode cL_law 546 = .ok (.iconst 1, 1) := by decide +kernel
theorem dL_law_547 : decode cL_law 547 = .ok (.iadd, 1) := by decide +kernel
theorem dL_law_548 : decode cL_law 548 = .ok (.iaload, 1) := by decide +kernel
theorem dL_law_549 : decode cL_law 549 = .ok (.invokevirtual 77, 3) := by decide +kernel
theorem dL_law_552 : decode cL_law 552 = .ok (.if_icmp .eq 275, 3) := by decide +kernel
theorem dL_law_555 : decode cL_law 555 = .ok (.iconst 0, 1) := by decide +kernel
theorem dL_law_556 : decode cL_law 556 = .ok (.ireturn, 1) := by decide +kernel
theorem dL_law_557 : decode cL_law 557 = .ok (.aload_n 1, 1) := by decide +kernel
theorem dL_law_558 : decode cL_law 558 = .ok (.aload_n 0, 1) := by decide +kernel
theorem dL_law_559 : decode cL_law 559 = .ok (.iload_n 3, 1) := by decide +kernel
theorem dL_law_560 : decode cL_law 560 = .ok (.iconst 1, 1) := by decide +kernel
theorem dL_law_561 : decode cL_law 561 = .ok (.iadd, 1) := by decide +kernel
theorem dL_law_562 : decode cL_law 562 = .ok (.iaload, 1) := by decide +kernel
theorem dL_law_563 : decode cL_law 563 = .ok (.invokevirtual 78, 3) := by decide +kernel
theorem dL_law_566 : decode cL_law 566 = .ok (.aload_n 2, 1) := by decide +kernel
theorem dL_law_567 : decode cL_law 567 = .ok (.aload_n 0, 1) := by decide +kernel
theorem dL_law_568 : decode cL_law 568 = .ok (.iload_n 3, 1) := by decide +kernel
theorem dL_law_569 : decode cL_law 569 = .ok (.iconst 1, 1) := by decide +kernel
theorem dL_law_570 : decode cL_law 570 = .ok (.iadd, 1) := by decide +kernel
theorem dL_law_571 : decode cL_law 571 = .ok (.iaload, 1) := by decide +kernel
theorem dL_law_572 : decode cL_law 572 = .ok (.invokevirtual 82, 3) := by decide +kernel
theorem dL_law_575 : decode cL_law 575 = .ok (.lcmp, 1) := by decide +kernel
theorem dL_law_576 : decode cL_law 576 = .ok (.ifCond .eq 251, 3) := by decide +kernel
theorem dL_law_579 : decode cL_law 579 = .ok (.iconst 0, 1) := by decide +kernel
theorem dL_law_580 : decode cL_law 580 = .ok (.ireturn, 1) := by decide +kernel
theorem dL_law_581 : decode cL_law 581 = .ok (.aload_n 1, 1) := by decide +kernel
theorem dL_law_582 : decode cL_law 582 = .ok (.aload_n 0, 1) := by decide +kernel
theorem dL_law_583 : decode cL_law 583 = .ok (.iload_n 3, 1) := by decide +kernel
theorem dL_law_584 : decode cL_law 584 = .ok (.iconst 1, 1) := by decide +kernel
theorem dL_law_585 : decode cL_law 585 = .ok (.iadd, 1) := by decide +kernel
theorem dL_law_586 : decode cL_law 586 = .ok (.iaload, 1) := by decide +kernel
theorem dL_law_587 : decode cL_law 587 = .ok (.invokevirtual 83, 3) := by decide +kernel
theorem dL_law_590 : decode cL_law 590 = .ok (.aload_n 2, 1) := by decide +kernel
theorem dL_law_591 : decode cL_law 591 = .ok (.aload_n 0, 1) := by decide +kernel
theorem dL_law_592 : decode cL_law 592 = .ok (.iload_n 3, 1) := by decide +kernel
theorem dL_law_593 : decode cL_law 593 = .ok (.iconst 1, 1) := by decide +kernel
theorem dL_law_594 : decode cL_law 594 = .ok (.iadd, 1) := by decide +kernel
theorem dL_law_595 : decode cL_law 595 = .ok (.iaload, 1) := by decide +kernel
theorem dL_law_596 : decode cL_law 596 = .ok (.invokevirtual 86, 3) := by decide +kernel
theorem dL_law_599 : decode cL_law 599 = .ok (.if_icmp .eq 228, 3) := by decide +kernel
theorem dL_law_602 : decode cL_law 602 = .ok (.iconst 0, 1) := by decide +kernel
theorem dL_law_603 : decode cL_law 603 = .ok (.ireturn, 1) := by decide +kernel
theorem dL_law_604 : decode cL_law 604 = .ok (.aload_n 1, 1) := by decide +kernel
theorem dL_law_605 : decode cL_law 605 = .ok (.aload_n 0, 1) := by decide +kernel
theorem dL_law_606 : decode cL_law 606 = .ok (.iload_n 3, 1) := by decide +kernel
theorem dL_law_607 : decode cL_law 607 = .ok (.iconst 1, 1) := by decide +kernel
theorem dL_law_608 : decode cL_law 608 = .ok (.iadd, 1) := by decide +kernel
theorem dL_law_609 : decode cL_law 609 = .ok (.iaload, 1) := by decide +kernel
theorem dL_law_610 : decode cL_law 610 = .ok (.invokevirtual 87, 3) := by decide +kernel
theorem dL_law_613 : decode cL_law 613 = .ok (.aload_n 2, 1) := by decide +kernel
theorem dL_law_614 : decode cL_law 614 = .ok (.aload_n 0, 1) := by decide +kernel
theorem dL_law_615 : decode cL_law 615 = .ok (.iload_n 3, 1) := by decide +kernel
theorem dL_law_616 : decode cL_law 616 = .ok (.iconst 1, 1) := by decide +kernel
theorem dL_law_617 : decode cL_law 617 = .ok (.iadd, 1) := by decide +kernel
theorem dL_law_618 : decode cL_law 618 = .ok (.iaload, 1) := by decide +kernel
theorem dL_law_619 : decode cL_law 619 = .ok (.invokevirtual 90, 3) := by decide +kernel
theorem dL_law_622 : decode cL_law 622 = .ok (.if_icmp .eq 205, 3) := by decide +kernel
theorem dL_law_625 : decode cL_law 625 = .ok (.iconst 0, 1) := by decide +kernel
theorem dL_law_626 : decode cL_law 626 = .ok (.ireturn, 1) := by decide +kernel
theorem dL_law_627 : decode cL_law 627 = .ok (.aload_n 1, 1) := by decide +kernel
theorem dL_law_628 : decode cL_law 628 = .ok (.invokevirtual 91, 3) := by decide +kernel
theorem dL_law_631 : decode cL_law 631 = .ok (.aload_n 2, 1) := by decide +kernel
theorem dL_law_632 : decode cL_law 632 = .ok (.invokevirtual 94, 3) := by decide +kernel
theorem dL_law_635 : decode cL_law 635 = .ok (.if_icmp .eq 192, 3) := by decide +kernel
theorem dL_law_638 : decode cL_law 638 = .ok (.iconst 0, 1) := by decide +kernel
theorem dL_law_639 : decode cL_law 639 = .ok (.ireturn, 1) := by decide +kernel
theorem dL_law_640 : decode cL_law 640 = .ok (.aload_n 1, 1) := by decide +kernel
theorem dL_law_641 : decode cL_law 641 = .ok (.aload_n 0, 1) := by decide +kernel
theorem dL_law_642 : decode cL_law 642 = .ok (.iload_n 3, 1) := by decide +kernel
theorem dL_law_643 : decode cL_law 643 = .ok (.iconst 1, 1) := by decide +kernel
theorem dL_law_644 : decode cL_law 644 = .ok (.iadd, 1) := by decide +kernel
theorem dL_law_645 : decode cL_law 645 = .ok (.iaload, 1) := by decide +kernel
theorem dL_law_646 : decode cL_law 646 = .ok (.invokevirtual 95, 3) := by decide +kernel
theorem dL_law_649 : decode cL_law 649 = .ok (.aload_n 2, 1) := by decide +kernel
theorem dL_law_650 : decode cL_law 650 = .ok (.aload_n 0, 1) := by decide +kernel
theorem dL_law_651 : decode cL_law 651 = .ok (.iload_n 3, 1) := by decide +kernel
theorem dL_law_652 : decode cL_law 652 = .ok (.iconst 1, 1) := by decide +kernel
theorem dL_law_653 : decode cL_law 653 = .ok (.iadd, 1) := by decide +kernel
theorem dL_law_654 : decode cL_law 654 = .ok (.iaload, 1) := by decide +kernel
theorem dL_law_655 : decode cL_law 655 = .ok (.invokevirtual 98, 3) := by decide +kernel
theorem dL_law_658 : decode cL_law 658 = .ok (.if_icmp .eq 169, 3) := by decide +kernel
theorem dL_law_661 : decode cL_law 661 = .ok (.iconst 0, 1) := by decide +kernel
theorem dL_law_662 : decode cL_law 662 = .ok (.ireturn, 1) := by decide +kernel
theorem dL_law_663 : decode cL_law 663 = .ok (.aload_n 1, 1) := by decide +kernel
theorem dL_law_664 : decode cL_law 664 = .ok (.invokevirtual 99, 3) := by decide +kernel
theorem dL_law_667 : decode cL_law 667 = .ok (.aload_n 2, 1) := by decide +kernel
theorem dL_law_668 : decode cL_law 668 = .ok (.invokevirtual 102, 3) := by decide +kernel
theorem dL_law_671 : decode cL_law 671 = .ok (.if_icmp .eq 156, 3) := by decide +kernel
theorem dL_law_674 : decode cL_law 674 = .ok (.iconst 0, 1) := by decide +kernel
theorem dL_law_675 : decode cL_law 675 = .ok (.ireturn, 1) := by decide +kernel
theorem dL_law_676 : decode cL_law 676 = .ok (.aload_n 1, 1) := by decide +kernel
theorem dL_law_677 : decode cL_law 677 = .ok (.invokevirtual 103, 3) := by decide +kernel
theorem dL_law_680 : decode cL_law 680 = .ok (.aload_n 2, 1) := by decide +kernel
theorem dL_law_681 : decode cL_law 681 = .ok (.invokevirtual 106, 3) := by decide +kernel
theorem dL_law_684 : decode cL_law 684 = .ok (.if_icmp .eq 143, 3) := by decide +kernel
theorem dL_law_687 : decode cL_law 687 = .ok (.iconst 0, 1) := by decide +kernel
theorem dL_law_688 : decode cL_law 688 = .ok (.ireturn, 1) := by decide +kernel
theorem dL_law_689 : decode cL_law 689 = .ok (.aload_n 1, 1) := by decide +kernel
theorem dL_law_690 : decode cL_law 690 = .ok (.aload_n 0, 1) := by decide +kernel
theorem dL_law_691 : decode cL_law 691 = .ok (.iload_n 3, 1) := by decide +kernel
theorem dL_law_692 : decode cL_law 692 = .ok (.iconst 1, 1) := by decide +kernel
theorem dL_law_693 : decode cL_law 693 = .ok (.iadd, 1) := by decide +kernel
theorem dL_law_694 : decode cL_law 694 = .ok (.iaload, 1) := by decide +kernel
theorem dL_law_695 : decode cL_law 695 = .ok (.invokevirtual 107, 3) := by decide +kernel
theorem dL_law_698 : decode cL_law 698 = .ok (.aload_n 2, 1) := by decide +kernel
theorem dL_law_699 : decode cL_law 699 = .ok (.aload_n 0, 1) := by decide +kernel
theorem dL_law_700 : decode cL_law 700 = .ok (.iload_n 3, 1) := by decide +kernel
theorem dL_law_701 : decode cL_law 701 = .ok (.iconst 1, 1) := by decide +kernel
theorem dL_law_702 : decode cL_law 702 = .ok (.iadd, 1) := by decide +kernel
theorem dL_law_703 : decode cL_law 703 = .ok (.iaload, 1) := by decide +kernel
theorem dL_law_704 : decode cL_law 704 = .ok (.invokevirtual 110, 3) := by decide +kernel
theorem dL_law_707 : decode cL_law 707 = .ok (.if_icmp .eq 120, 3) := by decide +kernel
theorem dL_law_710 : decode cL_law 710 = .ok (.iconst 0, 1) := by decide +kernel
theorem dL_law_711 : decode cL_law 711 = .ok (.ireturn, 1) := by decide +kernel
theorem dL_law_712 : decode cL_law 712 = .ok (.aload_n 1, 1) := by decide +kernel
theorem dL_law_713 : decode cL_law 713 = .ok (.aload_n 0, 1) := by decide +kernel
theorem dL_law_714 : decode cL_law 714 = .ok (.iload_n 3, 1) := by decide +kernel
theorem dL_law_715 : decode cL_law 715 = .ok (.iconst 1, 1) := by decide +kernel
theorem dL_law_716 : decode cL_law 716 = .ok (.iadd, 1) := by decide +kernel
theorem dL_law_717 : decode cL_law 717 = .ok (.iaload, 1) := by decide +kernel
theorem dL_law_718 : decode cL_law 718 = .ok (.aload_n 0, 1) := by decide +kernel
theorem dL_law_719 : decode cL_law 719 = .ok (.iload_n 3, 1) := by decide +kernel
theorem dL_law_720 : decode cL_law 720 = .ok (.iconst 2, 1) := by decide +kernel
theorem dL_law_721 : decode cL_law 721 = .ok (.iadd, 1) := by decide +kernel
theorem dL_law_722 : decode cL_law 722 = .ok (.iaload, 1) := by decide +kernel
theorem dL_law_723 : decode cL_law 723 = .ok (.invokevirtual 111, 3) := by decide +kernel
theorem dL_law_726 : decode cL_law 726 = .ok (.aload_n 2, 1) := by decide +kernel
theorem dL_law_727 : decode cL_law 727 = .ok (.aload_n 0, 1) := by decide +kernel
theorem dL_law_728 : decode cL_law 728 = .ok (.iload_n 3, 1) := by decide +kernel
theorem dL_law_729 : decode cL_law 729 = .ok (.iconst 1, 1) := by decide +kernel
theorem dL_law_730 : decode cL_law 730 = .ok (.iadd, 1) := by decide +kernel
theorem dL_law_731 : decode cL_law 731 = .ok (.iaload, 1) := by decide +kernel
theorem dL_law_732 : decode cL_law 732 = .ok (.aload_n 0, 1) := by decide +kernel
theorem dL_law_733 : decode cL_law 733 = .ok (.iload_n 3, 1) := by decide +kernel
theorem dL_law_734 : decode cL_law 734 = .ok (.iconst 2, 1) := by decide +kernel
theorem dL_law_735 : decode cL_law 735 = .ok (.iadd, 1) := by decide +kernel
theorem dL_law_736 : decode cL_law 736 = .ok (.iaload, 1) := by decide +kernel
theorem dL_law_737 : decode cL_law 737 = .ok (.invokevirtual 114, 3) := by decide +kernel
theorem dL_law_740 : decode cL_law 740 = .ok (.if_icmp .eq 87, 3) := by decide +kernel
theorem dL_law_743 : decode cL_law 743 = .ok (.iconst 0, 1) := by decide +kernel
theorem dL_law_744 : decode cL_law 744 = .ok (.ireturn, 1) := by decide +kernel
theorem dL_law_745 : decode cL_law 745 = .ok (.aload_n 1, 1) := by decide +kernel
theorem dL_law_746 : decode cL_law 746 = .ok (.aload_n 0, 1) := by decide +kernel
theorem dL_law_747 : decode cL_law 747 = .ok (.iload_n 3, 1) := by decide +kernel
theorem dL_law_748 : decode cL_law 748 = .ok (.iconst 1, 1) := by decide +kernel
theorem dL_law_749 : decode cL_law 749 = .ok (.iadd, 1) := by decide +kernel
theorem dL_law_750 : decode cL_law 750 = .ok (.iaload, 1) := by decide +kernel
theorem dL_law_751 : decode cL_law 751 = .ok (.aload_n 0, 1) := by decide +kernel
theorem dL_law_752 : decode cL_law 752 = .ok (.iload_n 3, 1) := by decide +kernel
theorem dL_law_753 : decode cL_law 753 = .ok (.iconst 2, 1) := by decide +kernel
theorem dL_law_754 : decode cL_law 754 = .ok (.iadd, 1) := by decide +kernel
theorem dL_law_755 : decode cL_law 755 = .ok (.iaload, 1) := by decide +kernel
theorem dL_law_756 : decode cL_law 756 = .ok (.invokevirtual 115, 3) := by decide +kernel
theorem dL_law_759 : decode cL_law 759 = .ok (.aload_n 2, 1) := by decide +kernel
theorem dL_law_760 : decode cL_law 760 = .ok (.aload_n 0, 1) := by decide +kernel
theorem dL_law_761 : decode cL_law 761 = .ok (.iload_n 3, 1) := by decide +kernel
theorem dL_law_762 : decode cL_law 762 = .ok (.iconst 1, 1) := by decide +kernel
theorem dL_law_763 : decode cL_law 763 = .ok (.iadd, 1) := by decide +kernel
theorem dL_law_764 : decode cL_law 764 = .ok (.iaload, 1) := by decide +kernel
theorem dL_law_765 : decode cL_law 765 = .ok (.aload_n 0, 1) := by decide +kernel
theorem dL_law_766 : decode cL_law 766 = .ok (.iload_n 3, 1) := by decide +kernel
theorem dL_law_767 : decode cL_law 767 = .ok (.iconst 2, 1) := by decide +kernel
theorem dL_law_768 : decode cL_law 768 = .ok (.iadd, 1) := by decide +kernel
theorem dL_law_769 : decode cL_law 769 = .ok (.iaload, 1) := by decide +kernel
theorem dL_law_770 : decode cL_law 770 = .ok (.invokevirtual 119, 3) := by decide +kernel
theorem dL_law_773 : decode cL_law 773 = .ok (.lcmp, 1) := by decide +kernel
theorem dL_law_774 : decode cL_law 774 = .ok (.ifCond .eq 53, 3) := by decide +kernel
theorem dL_law_777 : decode cL_law 777 = .ok (.iconst 0, 1) := by decide +kernel
theorem dL_law_778 : decode cL_law 778 = .ok (.ireturn, 1) := by decide +kernel
theorem dL_law_779 : decode cL_law 779 = .ok (.aload_n 1, 1) := by decide +kernel
theorem dL_law_780 : decode cL_law 780 = .ok (.aload_n 0, 1) := by decide +kernel
theorem dL_law_781 : decode cL_law 781 = .ok (.iload_n 3, 1) := by decide +kernel
theorem dL_law_782 : decode cL_law 782 = .ok (.iconst 1, 1) := by decide +kernel
theorem dL_law_783 : decode cL_law 783 = .ok (.iadd, 1) := by decide +kernel
theorem dL_law_784 : decode cL_law 784 = .ok (.iaload, 1) := by decide +kernel
theorem dL_law_785 : decode cL_law 785 = .ok (.aload_n 0, 1) := by decide +kernel
theorem dL_law_786 : decode cL_law 786 = .ok (.iload_n 3, 1) := by decide +kernel
theorem dL_law_787 : decode cL_law 787 = .ok (.iconst 2, 1) := by decide +kernel
theorem dL_law_788 : decode cL_law 788 = .ok (.iadd, 1) := by decide +kernel
theorem dL_law_789 : decode cL_law 789 = .ok (.iaload, 1) := by decide +kernel
theorem dL_law_790 : decode cL_law 790 = .ok (.invokevirtual 120, 3) := by decide +kernel
theorem dL_law_793 : decode cL_law 793 = .ok (.aload_n 2, 1) := by decide +kernel
theorem dL_law_794 : decode cL_law 794 = .ok (.aload_n 0, 1) := by decide +kernel
theorem dL_law_795 : decode cL_law 795 = .ok (.iload_n 3, 1) := by decide +kernel
theorem dL_law_796 : decode cL_law 796 = .ok (.iconst 1, 1) := by decide +kernel
theorem dL_law_797 : decode cL_law 797 = .ok (.iadd, 1) := by decide +kernel
theorem dL_law_798 : decode cL_law 798 = .ok (.iaload, 1) := by decide +kernel
theorem dL_law_799 : decode cL_law 799 = .ok (.aload_n 0, 1) := by decide +kernel
theorem dL_law_800 : decode cL_law 800 = .ok (.iload_n 3, 1) := by decide +kernel
theorem dL_law_801 : decode cL_law 801 = .ok (.iconst 2, 1) := by decide +kernel
theorem dL_law_802 : decode cL_law 802 = .ok (.iadd, 1) := by decide +kernel
theorem dL_law_803 : decode cL_law 803 = .ok (.iaload, 1) := by decide +kernel
theorem dL_law_804 : decode cL_law 804 = .ok (.invokevirtual 123, 3) := by decide +kernel
theorem dL_law_807 : decode cL_law 807 = .ok (.lcmp, 1) := by decide +kernel
theorem dL_law_808 : decode cL_law 808 = .ok (.ifCond .eq 19, 3) := by decide +kernel
theorem dL_law_811 : decode cL_law 811 = .ok (.iconst 0, 1) := by decide +kernel
theorem dL_law_812 : decode cL_law 812 = .ok (.ireturn, 1) := by decide +kernel
theorem dL_law_813 : decode cL_law 813 = .ok (.aload_n 1, 1) := by decide +kernel
theorem dL_law_814 : decode cL_law 814 = .ok (.invokevirtual 124, 3) := by decide +kernel
theorem dL_law_817 : decode cL_law 817 = .ok (.aload_n 2, 1) := by decide +kernel
theorem dL_law_818 : decode cL_law 818 = .ok (.invokevirtual 128, 3) := by decide +kernel
theorem dL_law_821 : decode cL_law 821 = .ok (.lcmp, 1) := by decide +kernel
theorem dL_law_822 : decode cL_law 822 = .ok (.ifCond .eq 5, 3) := by decide +kernel
theorem dL_law_825 : decode cL_law 825 = .ok (.iconst 0, 1) := by decide +kernel
theorem dL_law_826 : decode cL_law 826 = .ok (.ireturn, 1) := by decide +kernel
theorem dL_law_827 : decode cL_law 827 = .ok (.iinc 3 5, 3) := by decide +kernel
theorem dL_law_830 : decode cL_law 830 = .ok (.goto (-812), 3) := by decide +kernel
theorem dL_law_833 : decode cL_law 833 = .ok (.iconst 1, 1) := by decide +kernel
theorem dL_law_834 : decode cL_law 834 = .ok (.ireturn, 1) := by decide +kernel
end
section
def wsG : List Cond := lw_tbl.filter goodWord
def isNest : Cond → Bool
  | .fieldLinkNest .. => true
  | .methodLinkNest .. => true
  | _ => false
def nwL : List Cond := lw_tbl.filter isNest
theorem tb_p {w : Cond} (i : Nat) (h : (k2_sels lw_privs)[i]? = some w) : w ∈ lw_tbl := List.mem_append_left _ (List.mem_of_getElem? h)
theorem tb_1 {w : Cond} (i : Nat) (h : tables_1_1[i]? = some w) : w ∈ lw_tbl := List.mem_append_right _ (List.mem_append_left _ (List.mem_of_getElem? h))
theorem tb_2 {w : Cond} (i : Nat) (h : tables_1_2[i]? = some w) : w ∈ lw_tbl := List.mem_append_right _ (List.mem_append_right _ (List.mem_append_left _ (List.mem_of_getElem? h)))
theorem tb_3 {w : Cond} (i : Nat) (h : tables_1_3[i]? = some w) : w ∈ lw_tbl := List.mem_append_right _ (List.mem_append_right _ (List.mem_append_right _ (List.mem_append_left _ (List.mem_of_getElem? h))))
theorem tb_4 {w : Cond} (i : Nat) (h : tables_1_4[i]? = some w) : w ∈ lw_tbl := List.mem_append_right _ (List.mem_append_right _ (List.mem_append_right _ (List.mem_append_right _ (List.mem_of_getElem? h))))
theorem gw_of {w : Cond} (h : w ∈ lw_tbl) (hg : goodWord w = true) : w ∈ wsG := List.mem_filter.mpr ⟨h, hg⟩
theorem nw_of {w : Cond} (h : w ∈ lw_tbl) (hg : isNest w = true) : w ∈ nwL := List.mem_filter.mpr ⟨h, hg⟩
theorem gw_in {w : Cond} (h : w ∈ wsG) : w ∈ lw_tbl := (List.mem_filter.mp h).1
theorem gw_good {w : Cond} (h : w ∈ wsG) : (w.onTables && w.keeps) = true ∨ ∃ ty, w = .arrayClass ty := good_of_word (List.mem_filter.mp h).2
theorem gw_0 : (Cond.selects "ScanDetector$Walk" (MethodName.mk "ScanDetector$Walk" "setParameters" "(IIII)V") (MethodName.mk "ScanDetector$Walk" "setParameters" "(IIII)V")) ∈ wsG := gw_of (tb_p 0 rfl) rfl
theorem gw_1 : (Cond.selects "ScanDetector" (MethodName.mk "ScanDetector" "reset" "()V") (MethodName.mk "ScanDetector" "reset" "()V")) ∈ wsG := gw_of (tb_p 1 rfl) rfl
theorem gw_2 : (Cond.selects "ScanDetector$Cell" (MethodName.mk "ScanDetector$Cell" "reset" "()V") (MethodName.mk "ScanDetector$Cell" "reset" "()V")) ∈ wsG := gw_of (tb_p 2 rfl) rfl
theorem gw_3 : (Cond.selects "ScanDetector$Cell" (MethodName.mk "ScanDetector$Cell" "forget" "()V") (MethodName.mk "ScanDetector$Cell" "forget" "()V")) ∈ wsG := gw_of (tb_p 3 rfl) rfl
theorem gw_4 : (Cond.selects "ScanDetector" (MethodName.mk "ScanDetector" "cellIndex" "(I)I") (MethodName.mk "ScanDetector" "cellIndex" "(I)I")) ∈ wsG := gw_of (tb_p 4 rfl) rfl
theorem gw_5 : (Cond.selects "ScanDetector$Cell" (MethodName.mk "ScanDetector$Cell" "stopConnect" "(Z)V") (MethodName.mk "ScanDetector$Cell" "stopConnect" "(Z)V")) ∈ wsG := gw_of (tb_p 5 rfl) rfl
theorem gw_6 : (Cond.selects "ScanDetector$Cell" (MethodName.mk "ScanDetector$Cell" "hasSeen" "(I)Z") (MethodName.mk "ScanDetector$Cell" "hasSeen" "(I)Z")) ∈ wsG := gw_of (tb_p 6 rfl) rfl
theorem gw_7 : (Cond.selects "ScanDetector$Cell" (MethodName.mk "ScanDetector$Cell" "see" "(I)V") (MethodName.mk "ScanDetector$Cell" "see" "(I)V")) ∈ wsG := gw_of (tb_p 7 rfl) rfl
theorem gw_8 : (Cond.selects "ScanDetector" (MethodName.mk "ScanDetector" "settle" "(IZ)I") (MethodName.mk "ScanDetector" "settle" "(IZ)I")) ∈ wsG := gw_of (tb_p 8 rfl) rfl
theorem gw_9 : (Cond.selects "ScanDetector$Walk" (MethodName.mk "ScanDetector$Walk" "after" "(IZ)I") (MethodName.mk "ScanDetector$Walk" "after" "(IZ)I")) ∈ wsG := gw_of (tb_p 9 rfl) rfl
theorem gw_10 : (Cond.selects "ScanDetector$Walk" (MethodName.mk "ScanDetector$Walk" "verdictAt" "(I)I") (MethodName.mk "ScanDetector$Walk" "verdictAt" "(I)I")) ∈ wsG := gw_of (tb_p 10 rfl) rfl
theorem gw_11 : (Cond.selects "ScanDetector" (MethodName.mk "ScanDetector" "discardAttempts" "(I)V") (MethodName.mk "ScanDetector" "discardAttempts" "(I)V")) ∈ wsG := gw_of (tb_p 11 rfl) rfl
theorem gw_12 : (Cond.selects "ScanDetector$PendingAttempts" (MethodName.mk "ScanDetector$PendingAttempts" "drop" "(I)V") (MethodName.mk "ScanDetector$PendingAttempts" "drop" "(I)V")) ∈ wsG := gw_of (tb_p 12 rfl) rfl
theorem gw_13 : (Cond.selects "ScanDetector$VerdictLog" (MethodName.mk "ScanDetector$VerdictLog" "note" "(I)V") (MethodName.mk "ScanDetector$VerdictLog" "note" "(I)V")) ∈ wsG := gw_of (tb_p 13 rfl) rfl
theorem gw_14 : (Cond.selects "ScanDetector$Cell" (MethodName.mk "ScanDetector$Cell" "stopAttempt" "()V") (MethodName.mk "ScanDetector$Cell" "stopAttempt" "()V")) ∈ wsG := gw_of (tb_p 14 rfl) rfl
theorem gw_15 : (Cond.selects "ScanDetector$PendingAttempts" (MethodName.mk "ScanDetector$PendingAttempts" "put" "(III)Z") (MethodName.mk "ScanDetector$PendingAttempts" "put" "(III)Z")) ∈ wsG := gw_of (tb_p 15 rfl) rfl
theorem gw_16 : (Cond.selects "ScanDetector$PendingAttempts" (MethodName.mk "ScanDetector$PendingAttempts" "find" "(II)I") (MethodName.mk "ScanDetector$PendingAttempts" "find" "(II)I")) ∈ wsG := gw_of (tb_p 16 rfl) rfl
theorem gw_17 : (Cond.selects "ScanDetector" (MethodName.mk "ScanDetector" "failDueAttempts" "()I") (MethodName.mk "ScanDetector" "failDueAttempts" "()I")) ∈ wsG := gw_of (tb_p 17 rfl) rfl
theorem gw_18 : (Cond.selects "ScanDetector$PendingAttempts" (MethodName.mk "ScanDetector$PendingAttempts" "firstDue" "(I)I") (MethodName.mk "ScanDetector$PendingAttempts" "firstDue" "(I)I")) ∈ wsG := gw_of (tb_p 18 rfl) rfl
theorem gw_19 : (Cond.selects "ScanDetector" (MethodName.mk "ScanDetector" "cellExists" "(I)Z") (MethodName.mk "ScanDetector" "cellExists" "(I)Z")) ∈ wsG := gw_of (tb_p 19 rfl) rfl
theorem gw_20 : (Cond.selects "ScanDetector$InputText" (MethodName.mk "ScanDetector$InputText" "put" "(I)Z") (MethodName.mk "ScanDetector$InputText" "put" "(I)Z")) ∈ wsG := gw_of (tb_p 20 rfl) rfl
theorem gw_21 : (Cond.selects "ScanDetector$InputText" (MethodName.mk "ScanDetector$InputText" "findError" "()I") (MethodName.mk "ScanDetector$InputText" "findError" "()I")) ∈ wsG := gw_of (tb_p 21 rfl) rfl
theorem gw_22 : (Cond.selects "ScanDetector$InputText" (MethodName.mk "ScanDetector$InputText" "fits" "(I)Z") (MethodName.mk "ScanDetector$InputText" "fits" "(I)Z")) ∈ wsG := gw_of (tb_p 22 rfl) rfl
theorem gw_23 : (Cond.selects "ScanDetector$InputText" (MethodName.mk "ScanDetector$InputText" "isComplete" "()Z") (MethodName.mk "ScanDetector$InputText" "isComplete" "()Z")) ∈ wsG := gw_of (tb_p 23 rfl) rfl
theorem gw_24 : (Cond.selects "ScanDetector$InputText" (MethodName.mk "ScanDetector$InputText" "sourceAt" "(I)I") (MethodName.mk "ScanDetector$InputText" "sourceAt" "(I)I")) ∈ wsG := gw_of (tb_p 24 rfl) rfl
theorem gw_25 : (Cond.selects "ScanDetector$InputText" (MethodName.mk "ScanDetector$InputText" "destinationAt" "(I)I") (MethodName.mk "ScanDetector$InputText" "destinationAt" "(I)I")) ∈ wsG := gw_of (tb_p 25 rfl) rfl
theorem gw_26 : (Cond.selects "ScanDetector$InputText" (MethodName.mk "ScanDetector$InputText" "successAt" "(I)Z") (MethodName.mk "ScanDetector$InputText" "successAt" "(I)Z")) ∈ wsG := gw_of (tb_p 26 rfl) rfl
theorem gw_27 : (Cond.selects "ScanDetector$VerdictLog" (MethodName.mk "ScanDetector$VerdictLog" "kept" "()I") (MethodName.mk "ScanDetector$VerdictLog" "kept" "()I")) ∈ wsG := gw_of (tb_p 27 rfl) rfl
theorem gw_28 : (Cond.selects "ScanDetector$VerdictLog" (MethodName.mk "ScanDetector$VerdictLog" "recall" "(I)I") (MethodName.mk "ScanDetector$VerdictLog" "recall" "(I)I")) ∈ wsG := gw_of (tb_p 28 rfl) rfl
theorem gw_29 : (Cond.selects "ScanDetector$Walk" (MethodName.mk "ScanDetector$Walk" "sequencesWith" "(II)I") (MethodName.mk "ScanDetector$Walk" "sequencesWith" "(II)I")) ∈ wsG := gw_of (tb_p 29 rfl) rfl
theorem gw_30 : (Cond.selects "ScanDetector$Walk" (MethodName.mk "ScanDetector$Walk" "indexOfZero" "()I") (MethodName.mk "ScanDetector$Walk" "indexOfZero" "()I")) ∈ wsG := gw_of (tb_p 30 rfl) rfl
theorem gw_31 : (Cond.selects "ScanDetector$Walk" (MethodName.mk "ScanDetector$Walk" "sumOfCounts" "(II)I") (MethodName.mk "ScanDetector$Walk" "sumOfCounts" "(II)I")) ∈ wsG := gw_of (tb_p 31 rfl) rfl
theorem gw_32 : (Cond.selects "ScanDetector$Walk" (MethodName.mk "ScanDetector$Walk" "stepCounts" "()V") (MethodName.mk "ScanDetector$Walk" "stepCounts" "()V")) ∈ wsG := gw_of (tb_p 32 rfl) rfl
theorem gw_33 : (Cond.selects "ScanDetector$Walk" (MethodName.mk "ScanDetector$Walk" "chanceOfScanner" "(DI)D") (MethodName.mk "ScanDetector$Walk" "chanceOfScanner" "(DI)D")) ∈ wsG := gw_of (tb_p 33 rfl) rfl
theorem gw_34 : (Cond.selects "ScanDetector$Walk" (MethodName.mk "ScanDetector$Walk" "startChances" "()V") (MethodName.mk "ScanDetector$Walk" "startChances" "()V")) ∈ wsG := gw_of (tb_p 34 rfl) rfl
theorem gw_35 : (Cond.selects "ScanDetector$Walk" (MethodName.mk "ScanDetector$Walk" "stepChances" "(DD)D") (MethodName.mk "ScanDetector$Walk" "stepChances" "(DD)D")) ∈ wsG := gw_of (tb_p 35 rfl) rfl
theorem gw_36 : (Cond.selects "ScanDetector$Walk" (MethodName.mk "ScanDetector$Walk" "meanContacts" "(DI)D") (MethodName.mk "ScanDetector$Walk" "meanContacts" "(DI)D")) ∈ wsG := gw_of (tb_p 36 rfl) rfl
theorem gw_37 : (Cond.selects "ScanDetector$Walk" (MethodName.mk "ScanDetector$Walk" "sumOfChances" "()D") (MethodName.mk "ScanDetector$Walk" "sumOfChances" "()D")) ∈ wsG := gw_of (tb_p 37 rfl) rfl
theorem gw_38 : (Cond.selects "ScanDetector" (MethodName.mk "ScanDetector" "hashSettings" "(J)J") (MethodName.mk "ScanDetector" "hashSettings" "(J)J")) ∈ wsG := gw_of (tb_p 38 rfl) rfl
theorem gw_39 : (Cond.selects "ScanDetector" (MethodName.mk "ScanDetector" "hashCells" "(J)J") (MethodName.mk "ScanDetector" "hashCells" "(J)J")) ∈ wsG := gw_of (tb_p 39 rfl) rfl
theorem gw_40 : (Cond.selects "ScanDetector" (MethodName.mk "ScanDetector" "hashAttempts" "(J)J") (MethodName.mk "ScanDetector" "hashAttempts" "(J)J")) ∈ wsG := gw_of (tb_p 40 rfl) rfl
theorem gw_41 : (Cond.selects "ScanDetector" (MethodName.mk "ScanDetector" "hashVerdicts" "(J)J") (MethodName.mk "ScanDetector" "hashVerdicts" "(J)J")) ∈ wsG := gw_of (tb_p 41 rfl) rfl
theorem gw_42 : (Cond.selects "ScanDetector" (MethodName.mk "ScanDetector" "hashAnalysis" "(J)J") (MethodName.mk "ScanDetector" "hashAnalysis" "(J)J")) ∈ wsG := gw_of (tb_p 42 rfl) rfl
theorem gw_43 : (Cond.selects "ScanDetector" (MethodName.mk "ScanDetector" "hashInput" "(J)J") (MethodName.mk "ScanDetector" "hashInput" "(J)J")) ∈ wsG := gw_of (tb_p 43 rfl) rfl
theorem gw_44 : (Cond.selects "ScanDetectorModel" (MethodName.mk "ScanDetectorModel" "reset" "()V") (MethodName.mk "ScanDetectorModel" "reset" "()V")) ∈ wsG := gw_of (tb_p 44 rfl) rfl
theorem gw_45 : (Cond.selects "ScanDetectorModel" (MethodName.mk "ScanDetectorModel" "connectNow" "(IIZ)I") (MethodName.mk "ScanDetectorModel" "connectNow" "(IIZ)I")) ∈ wsG := gw_of (tb_p 45 rfl) rfl
theorem gw_46 : (Cond.selects "ScanDetectorModel" (MethodName.mk "ScanDetectorModel" "isSeen" "(II)Z") (MethodName.mk "ScanDetectorModel" "isSeen" "(II)Z")) ∈ wsG := gw_of (tb_p 46 rfl) rfl
theorem gw_47 : (Cond.selects "ScanDetectorModel" (MethodName.mk "ScanDetectorModel" "count" "(IZ)I") (MethodName.mk "ScanDetectorModel" "count" "(IZ)I")) ∈ wsG := gw_of (tb_p 47 rfl) rfl
theorem gw_48 : (Cond.selects "ScanDetectorModel" (MethodName.mk "ScanDetectorModel" "dropAllOf" "(I)V") (MethodName.mk "ScanDetectorModel" "dropAllOf" "(I)V")) ∈ wsG := gw_of (tb_p 48 rfl) rfl
theorem gw_49 : (Cond.selects "ScanDetectorModel" (MethodName.mk "ScanDetectorModel" "drop" "(I)V") (MethodName.mk "ScanDetectorModel" "drop" "(I)V")) ∈ wsG := gw_of (tb_p 49 rfl) rfl
theorem gw_50 : (Cond.selects "ScanDetectorModel" (MethodName.mk "ScanDetectorModel" "decide" "(II)I") (MethodName.mk "ScanDetectorModel" "decide" "(II)I")) ∈ wsG := gw_of (tb_p 50 rfl) rfl
theorem gw_51 : (Cond.selects "ScanDetectorModel" (MethodName.mk "ScanDetectorModel" "attemptNow" "(II)I") (MethodName.mk "ScanDetectorModel" "attemptNow" "(II)I")) ∈ wsG := gw_of (tb_p 51 rfl) rfl
theorem gw_52 : (Cond.selects "ScanDetectorModel" (MethodName.mk "ScanDetectorModel" "tick" "()I") (MethodName.mk "ScanDetectorModel" "tick" "()I")) ∈ wsG := gw_of (tb_p 52 rfl) rfl
theorem gw_53 : (Cond.selects "ScanDetectorModel" (MethodName.mk "ScanDetectorModel" "due" "()I") (MethodName.mk "ScanDetectorModel" "due" "()I")) ∈ wsG := gw_of (tb_p 53 rfl) rfl
theorem gw_54 : (Cond.selects "ScanDetectorModel" (MethodName.mk "ScanDetectorModel" "isCell" "(I)Z") (MethodName.mk "ScanDetectorModel" "isCell" "(I)Z")) ∈ wsG := gw_of (tb_p 54 rfl) rfl
theorem gw_55 : (Cond.selects "ScanDetectorModel" (MethodName.mk "ScanDetectorModel" "rightLength" "()I") (MethodName.mk "ScanDetectorModel" "rightLength" "()I")) ∈ wsG := gw_of (tb_p 55 rfl) rfl
theorem gw_56 : (Cond.selects "ScanDetectorModel" (MethodName.mk "ScanDetectorModel" "isRight" "(I)Z") (MethodName.mk "ScanDetectorModel" "isRight" "(I)Z")) ∈ wsG := gw_of (tb_p 56 rfl) rfl
theorem gw_57 : (Cond.selects "ScanDetectorModel" (MethodName.mk "ScanDetectorModel" "described" "(I)I") (MethodName.mk "ScanDetectorModel" "described" "(I)I")) ∈ wsG := gw_of (tb_p 57 rfl) rfl
theorem gw_58 : (Cond.selects "ScanDetectorModel" (MethodName.mk "ScanDetectorModel" "sequences" "(II)I") (MethodName.mk "ScanDetectorModel" "sequences" "(II)I")) ∈ wsG := gw_of (tb_p 58 rfl) rfl
theorem gw_59 : (Cond.selects "ScanDetectorModel" (MethodName.mk "ScanDetectorModel" "scannedBits" "(II)J") (MethodName.mk "ScanDetectorModel" "scannedBits" "(II)J")) ∈ wsG := gw_of (tb_p 59 rfl) rfl
theorem gw_60 : (Cond.selects "ScanDetectorModel" (MethodName.mk "ScanDetectorModel" "layChances" "(II)V") (MethodName.mk "ScanDetectorModel" "layChances" "(II)V")) ∈ wsG := gw_of (tb_p 60 rfl) rfl
theorem gw_61 : (Cond.selects "ScanDetectorModel" (MethodName.mk "ScanDetectorModel" "step" "(DD)V") (MethodName.mk "ScanDetectorModel" "step" "(DD)V")) ∈ wsG := gw_of (tb_p 61 rfl) rfl
theorem gw_62 : (Cond.selects "ScanDetectorModel" (MethodName.mk "ScanDetectorModel" "awaitedBits" "(II)J") (MethodName.mk "ScanDetectorModel" "awaitedBits" "(II)J")) ∈ wsG := gw_of (tb_p 62 rfl) rfl
theorem gw_63 : (Cond.selects "ScanDetectorModel" (MethodName.mk "ScanDetectorModel" "mix" "(J)V") (MethodName.mk "ScanDetectorModel" "mix" "(J)V")) ∈ wsG := gw_of (tb_p 63 rfl) rfl
theorem gw_64 : (Cond.initialized "ScanDetectorLaw") ∈ wsG := gw_of (tb_1 0 rfl) rfl
theorem gw_65 : (Cond.initialized "ScanDetector") ∈ wsG := gw_of (tb_1 1 rfl) rfl
theorem gw_66 : (Cond.initialized "ScanDetector$Cell") ∈ wsG := gw_of (tb_1 2 rfl) rfl
theorem gw_67 : (Cond.initialized "ScanDetector$Walk") ∈ wsG := gw_of (tb_1 3 rfl) rfl
theorem gw_68 : (Cond.initialized "ScanDetector$PendingAttempts") ∈ wsG := gw_of (tb_1 4 rfl) rfl
theorem gw_69 : (Cond.initialized "ScanDetector$VerdictLog") ∈ wsG := gw_of (tb_1 5 rfl) rfl
theorem gw_70 : (Cond.initialized "ScanDetector$InputText") ∈ wsG := gw_of (tb_1 6 rfl) rfl
theorem gw_71 : (Cond.initialized "ScanDetectorModel") ∈ wsG := gw_of (tb_1 7 rfl) rfl
theorem gw_72 : (Cond.initialized "java/lang/Math") ∈ wsG := gw_of (tb_1 8 rfl) rfl
theorem gw_73 : (Cond.initialized "java/util/Arrays") ∈ wsG := gw_of (tb_1 9 rfl) rfl
theorem gw_74 : (Cond.initialized "java/lang/Number") ∈ wsG := gw_of (tb_1 10 rfl) rfl
theorem gw_75 : (Cond.initialized "java/lang/Double") ∈ wsG := gw_of (tb_1 11 rfl) rfl
theorem gw_76 : (Cond.classLink "ScanDetectorLaw" 7 "ScanDetector") ∈ wsG := gw_of (tb_1 12 rfl) rfl
theorem gw_77 : (Cond.instantiable "ScanDetector" 8) ∈ wsG := gw_of (tb_1 13 rfl) rfl
theorem gw_78 : (Cond.methodLink "ScanDetectorLaw" 9 (MethodName.mk "ScanDetector" "<init>" "()V")) ∈ wsG := gw_of (tb_1 14 rfl) rfl
theorem gw_79 : (Cond.instanceMethod (MethodName.mk "ScanDetector" "<init>" "()V")) ∈ wsG := gw_of (tb_1 15 rfl) rfl
theorem gw_80 : (Cond.code (MethodName.mk "ScanDetector" "<init>" "()V") prog_1_method_1_code 2 none) ∈ wsG := gw_of (tb_1 16 rfl) rfl
theorem gw_81 : (Cond.methodLink "ScanDetector" 1 (MethodName.mk "java/lang/Object" "<init>" "()V")) ∈ wsG := gw_of (tb_1 17 rfl) rfl
theorem gw_82 : (Cond.instanceMethod (MethodName.mk "java/lang/Object" "<init>" "()V")) ∈ wsG := gw_of (tb_1 18 rfl) rfl
theorem gw_83 : (Cond.code (MethodName.mk "java/lang/Object" "<init>" "()V") object_method_1_code 1 none) ∈ wsG := gw_of (tb_1 19 rfl) rfl
theorem gw_84 : (Cond.classLink "ScanDetector" 9 "ScanDetector$Cell") ∈ wsG := gw_of (tb_1 20 rfl) rfl
theorem ow_85 : (Cond.arrayOver (FieldType.object "ScanDetector$Cell")) ∈ lw_tbl := (tb_1 21 rfl)
theorem gw_86 : (Cond.instantiable "ScanDetector$Cell" 5) ∈ wsG := gw_of (tb_1 22 rfl) rfl
theorem nw_87 : (Cond.methodLinkNest "ScanDetector" 15 (MethodName.mk "ScanDetector$Cell" "<init>" "()V") "ScanDetector") ∈ nwL := nw_of (tb_1 23 rfl) rfl
theorem gw_88 : (Cond.instanceMethod (MethodName.mk "ScanDetector$Cell" "<init>" "()V")) ∈ wsG := gw_of (tb_1 24 rfl) rfl
theorem gw_89 : (Cond.code (MethodName.mk "ScanDetector$Cell" "<init>" "()V") prog_2_method_1_code 1 none) ∈ wsG := gw_of (tb_1 25 rfl) rfl
theorem gw_90 : (Cond.methodLink "ScanDetector$Cell" 1 (MethodName.mk "java/lang/Object" "<init>" "()V")) ∈ wsG := gw_of (tb_1 26 rfl) rfl
theorem gw_91 : (Cond.fieldLink "ScanDetector$Cell" 23 "ScanDetector$Cell" "score" "I") ∈ wsG := gw_of (tb_1 27 rfl) rfl
theorem nw_92 : (Cond.fieldLinkNest "ScanDetector" 127 "ScanDetector$Cell" "score" "I" "ScanDetector") ∈ nwL := nw_of (tb_1 28 rfl) rfl
theorem gw_93 : (Cond.fieldLink "ScanDetector$Cell" 12 "ScanDetector$Cell" "blocked" "Z") ∈ wsG := gw_of (tb_1 29 rfl) rfl
theorem nw_94 : (Cond.fieldLinkNest "ScanDetector" 81 "ScanDetector$Cell" "blocked" "Z" "ScanDetector") ∈ nwL := nw_of (tb_1 30 rfl) rfl
theorem gw_95 : (Cond.fieldLink "ScanDetector$Cell" 26 "ScanDetector$Cell" "seen" "J") ∈ wsG := gw_of (tb_1 31 rfl) rfl
theorem nw_96 : (Cond.fieldLinkNest "ScanDetector" 170 "ScanDetector$Cell" "seen" "J" "ScanDetector") ∈ nwL := nw_of (tb_1 32 rfl) rfl
theorem gw_97 : (Cond.fieldLink "ScanDetector$Cell" 16 "ScanDetector$Cell" "stopped" "I") ∈ wsG := gw_of (tb_1 33 rfl) rfl
theorem nw_98 : (Cond.fieldLinkNest "ScanDetector" 176 "ScanDetector$Cell" "stopped" "I" "ScanDetector") ∈ nwL := nw_of (tb_1 34 rfl) rfl
theorem gw_99 : (Cond.fieldLink "ScanDetector$Cell" 20 "ScanDetector$Cell" "wronglyStopped" "I") ∈ wsG := gw_of (tb_1 35 rfl) rfl
theorem nw_100 : (Cond.fieldLinkNest "ScanDetector" 179 "ScanDetector$Cell" "wronglyStopped" "I" "ScanDetector") ∈ nwL := nw_of (tb_1 36 rfl) rfl
theorem gw_101 : (Cond.lays "ScanDetector$Cell" "ScanDetector$Cell" "score" "I") ∈ wsG := gw_of (tb_1 37 rfl) rfl
theorem gw_102 : (Cond.soleField "ScanDetector$Cell" "score") ∈ wsG := gw_of (tb_1 38 rfl) rfl
theorem gw_103 : (Cond.lays "ScanDetector$Cell" "ScanDetector$Cell" "blocked" "Z") ∈ wsG := gw_of (tb_1 39 rfl) rfl
theorem gw_104 : (Cond.soleField "ScanDetector$Cell" "blocked") ∈ wsG := gw_of (tb_1 40 rfl) rfl
theorem gw_105 : (Cond.lays "ScanDetector$Cell" "ScanDetector$Cell" "seen" "J") ∈ wsG := gw_of (tb_1 41 rfl) rfl
theorem gw_106 : (Cond.soleField "ScanDetector$Cell" "seen") ∈ wsG := gw_of (tb_1 42 rfl) rfl
theorem gw_107 : (Cond.lays "ScanDetector$Cell" "ScanDetector$Cell" "stopped" "I") ∈ wsG := gw_of (tb_1 43 rfl) rfl
theorem gw_108 : (Cond.soleField "ScanDetector$Cell" "stopped") ∈ wsG := gw_of (tb_1 44 rfl) rfl
theorem gw_109 : (Cond.lays "ScanDetector$Cell" "ScanDetector$Cell" "wronglyStopped" "I") ∈ wsG := gw_of (tb_1 45 rfl) rfl
theorem gw_110 : (Cond.soleField "ScanDetector$Cell" "wronglyStopped") ∈ wsG := gw_of (tb_1 46 rfl) rfl
theorem gw_111 : (Cond.superclass "ScanDetector$Cell" "java/lang/Object") ∈ wsG := gw_of (tb_1 47 rfl) rfl
theorem gw_112 : (Cond.classLink "ScanDetector" 16 "ScanDetector$Walk") ∈ wsG := gw_of (tb_1 48 rfl) rfl
theorem gw_113 : (Cond.instantiable "ScanDetector$Walk" 9) ∈ wsG := gw_of (tb_1 49 rfl) rfl
theorem nw_114 : (Cond.methodLinkNest "ScanDetector" 18 (MethodName.mk "ScanDetector$Walk" "<init>" "()V") "ScanDetector") ∈ nwL := nw_of (tb_1 50 rfl) rfl
theorem gw_115 : (Cond.instanceMethod (MethodName.mk "ScanDetector$Walk" "<init>" "()V")) ∈ wsG := gw_of (tb_1 51 rfl) rfl
theorem gw_116 : (Cond.code (MethodName.mk "ScanDetector$Walk" "<init>" "()V") prog_6_method_1_code 1 none) ∈ wsG := gw_of (tb_1 52 rfl) rfl
theorem gw_117 : (Cond.methodLink "ScanDetector$Walk" 3 (MethodName.mk "java/lang/Object" "<init>" "()V")) ∈ wsG := gw_of (tb_1 53 rfl) rfl
theorem gw_118 : (Cond.methodLink "ScanDetector$Walk" 25 (MethodName.mk "ScanDetector$Walk" "setParameters" "(IIII)V")) ∈ wsG := gw_of (tb_1 54 rfl) rfl
theorem gw_120 : (Cond.instanceMethod (MethodName.mk "ScanDetector$Walk" "setParameters" "(IIII)V")) ∈ wsG := gw_of (tb_1 56 rfl) rfl
theorem gw_121 : (Cond.code (MethodName.mk "ScanDetector$Walk" "setParameters" "(IIII)V") prog_6_method_2_code 5 none) ∈ wsG := gw_of (tb_1 57 rfl) rfl
theorem gw_122 : (Cond.fieldLink "ScanDetector$Walk" 29 "ScanDetector$Walk" "up" "I") ∈ wsG := gw_of (tb_1 58 rfl) rfl
theorem nw_123 : (Cond.fieldLinkNest "ScanDetector" 247 "ScanDetector$Walk" "up" "I" "ScanDetector") ∈ nwL := nw_of (tb_1 59 rfl) rfl
theorem gw_124 : (Cond.fieldLink "ScanDetector$Walk" 33 "ScanDetector$Walk" "down" "I") ∈ wsG := gw_of (tb_1 60 rfl) rfl
theorem nw_125 : (Cond.fieldLinkNest "ScanDetector" 250 "ScanDetector$Walk" "down" "I" "ScanDetector") ∈ nwL := nw_of (tb_1 61 rfl) rfl
theorem gw_126 : (Cond.fieldLink "ScanDetector$Walk" 36 "ScanDetector$Walk" "upper" "I") ∈ wsG := gw_of (tb_1 62 rfl) rfl
theorem nw_127 : (Cond.fieldLinkNest "ScanDetector" 253 "ScanDetector$Walk" "upper" "I" "ScanDetector") ∈ nwL := nw_of (tb_1 63 rfl) rfl
theorem gw_128 : (Cond.fieldLink "ScanDetector$Walk" 39 "ScanDetector$Walk" "lower" "I") ∈ wsG := gw_of (tb_1 64 rfl) rfl
theorem nw_129 : (Cond.fieldLinkNest "ScanDetector" 256 "ScanDetector$Walk" "lower" "I" "ScanDetector") ∈ nwL := nw_of (tb_1 65 rfl) rfl
theorem gw_130 : (Cond.fieldLink "ScanDetector$Walk" 42 "ScanDetector$Walk" "width" "I") ∈ wsG := gw_of (tb_1 66 rfl) rfl
theorem gw_131 : (Cond.fieldLink "ScanDetector$Walk" 11 "ScanDetector$Walk" "counts" "[I") ∈ wsG := gw_of (tb_1 67 rfl) rfl
theorem gw_132 : (Cond.fieldLink "ScanDetector$Walk" 15 "ScanDetector$Walk" "spareCounts" "[I") ∈ wsG := gw_of (tb_1 68 rfl) rfl
theorem gw_133 : (Cond.fieldLink "ScanDetector$Walk" 18 "ScanDetector$Walk" "chances" "[D") ∈ wsG := gw_of (tb_1 69 rfl) rfl
theorem gw_134 : (Cond.fieldLink "ScanDetector$Walk" 22 "ScanDetector$Walk" "spareChances" "[D") ∈ wsG := gw_of (tb_1 70 rfl) rfl
theorem gw_135 : (Cond.lays "ScanDetector$Walk" "ScanDetector$Walk" "up" "I") ∈ wsG := gw_of (tb_1 71 rfl) rfl
theorem gw_136 : (Cond.soleField "ScanDetector$Walk" "up") ∈ wsG := gw_of (tb_1 72 rfl) rfl
theorem gw_137 : (Cond.lays "ScanDetector$Walk" "ScanDetector$Walk" "down" "I") ∈ wsG := gw_of (tb_1 73 rfl) rfl
theorem gw_138 : (Cond.soleField "ScanDetector$Walk" "down") ∈ wsG := gw_of (tb_1 74 rfl) rfl
theorem gw_139 : (Cond.lays "ScanDetector$Walk" "ScanDetector$Walk" "upper" "I") ∈ wsG := gw_of (tb_1 75 rfl) rfl
theorem gw_140 : (Cond.soleField "ScanDetector$Walk" "upper") ∈ wsG := gw_of (tb_1 76 rfl) rfl
theorem gw_141 : (Cond.lays "ScanDetector$Walk" "ScanDetector$Walk" "lower" "I") ∈ wsG := gw_of (tb_1 77 rfl) rfl
theorem gw_142 : (Cond.soleField "ScanDetector$Walk" "lower") ∈ wsG := gw_of (tb_1 78 rfl) rfl
theorem gw_143 : (Cond.lays "ScanDetector$Walk" "ScanDetector$Walk" "width" "I") ∈ wsG := gw_of (tb_1 79 rfl) rfl
theorem gw_144 : (Cond.soleField "ScanDetector$Walk" "width") ∈ wsG := gw_of (tb_1 80 rfl) rfl
theorem gw_145 : (Cond.lays "ScanDetector$Walk" "ScanDetector$Walk" "counts" "[I") ∈ wsG := gw_of (tb_1 81 rfl) rfl
theorem gw_146 : (Cond.soleField "ScanDetector$Walk" "counts") ∈ wsG := gw_of (tb_1 82 rfl) rfl
theorem gw_147 : (Cond.lays "ScanDetector$Walk" "ScanDetector$Walk" "spareCounts" "[I") ∈ wsG := gw_of (tb_1 83 rfl) rfl
theorem gw_148 : (Cond.soleField "ScanDetector$Walk" "spareCounts") ∈ wsG := gw_of (tb_1 84 rfl) rfl
theorem gw_149 : (Cond.lays "ScanDetector$Walk" "ScanDetector$Walk" "chances" "[D") ∈ wsG := gw_of (tb_1 85 rfl) rfl
theorem gw_150 : (Cond.soleField "ScanDetector$Walk" "chances") ∈ wsG := gw_of (tb_1 86 rfl) rfl
theorem gw_151 : (Cond.lays "ScanDetector$Walk" "ScanDetector$Walk" "spareChances" "[D") ∈ wsG := gw_of (tb_1 87 rfl) rfl
theorem gw_152 : (Cond.soleField "ScanDetector$Walk" "spareChances") ∈ wsG := gw_of (tb_1 88 rfl) rfl
theorem gw_153 : (Cond.superclass "ScanDetector$Walk" "java/lang/Object") ∈ wsG := gw_of (tb_1 89 rfl) rfl
theorem gw_154 : (Cond.arrayClass FieldType.int) ∈ wsG := gw_of (tb_1 90 rfl) rfl
theorem gw_155 : (Cond.arrayClass FieldType.double) ∈ wsG := gw_of (tb_1 91 rfl) rfl
theorem gw_156 : (Cond.classLink "ScanDetector" 23 "ScanDetector$PendingAttempts") ∈ wsG := gw_of (tb_1 92 rfl) rfl
theorem gw_157 : (Cond.instantiable "ScanDetector$PendingAttempts" 4) ∈ wsG := gw_of (tb_1 93 rfl) rfl
theorem nw_158 : (Cond.methodLinkNest "ScanDetector" 25 (MethodName.mk "ScanDetector$PendingAttempts" "<init>" "()V") "ScanDetector") ∈ nwL := nw_of (tb_1 94 rfl) rfl
theorem gw_159 : (Cond.instanceMethod (MethodName.mk "ScanDetector$PendingAttempts" "<init>" "()V")) ∈ wsG := gw_of (tb_1 95 rfl) rfl
theorem gw_160 : (Cond.code (MethodName.mk "ScanDetector$PendingAttempts" "<init>" "()V") prog_4_method_1_code 1 none) ∈ wsG := gw_of (tb_1 96 rfl) rfl
theorem gw_161 : (Cond.methodLink "ScanDetector$PendingAttempts" 3 (MethodName.mk "java/lang/Object" "<init>" "()V")) ∈ wsG := gw_of (tb_1 97 rfl) rfl
theorem gw_162 : (Cond.fieldLink "ScanDetector$PendingAttempts" 9 "ScanDetector$PendingAttempts" "sources" "[I") ∈ wsG := gw_of (tb_1 98 rfl) rfl
theorem nw_163 : (Cond.fieldLinkNest "ScanDetector" 120 "ScanDetector$PendingAttempts" "sources" "[I" "ScanDetector") ∈ nwL := nw_of (tb_1 99 rfl) rfl
theorem gw_164 : (Cond.fieldLink "ScanDetector$PendingAttempts" 15 "ScanDetector$PendingAttempts" "destinations" "[I") ∈ wsG := gw_of (tb_1 100 rfl) rfl
theorem nw_165 : (Cond.fieldLinkNest "ScanDetector" 185 "ScanDetector$PendingAttempts" "destinations" "[I" "ScanDetector") ∈ nwL := nw_of (tb_1 101 rfl) rfl
theorem gw_166 : (Cond.fieldLink "ScanDetector$PendingAttempts" 18 "ScanDetector$PendingAttempts" "deadlines" "[I") ∈ wsG := gw_of (tb_1 102 rfl) rfl
theorem nw_167 : (Cond.fieldLinkNest "ScanDetector" 182 "ScanDetector$PendingAttempts" "deadlines" "[I" "ScanDetector") ∈ nwL := nw_of (tb_1 103 rfl) rfl
theorem gw_168 : (Cond.fieldLink "ScanDetector$PendingAttempts" 21 "ScanDetector$PendingAttempts" "count" "I") ∈ wsG := gw_of (tb_1 104 rfl) rfl
theorem nw_169 : (Cond.fieldLinkNest "ScanDetector" 66 "ScanDetector$PendingAttempts" "count" "I" "ScanDetector") ∈ nwL := nw_of (tb_1 105 rfl) rfl
theorem gw_170 : (Cond.laysFinal "ScanDetector$PendingAttempts" "ScanDetector$PendingAttempts" "sources" "[I") ∈ wsG := gw_of (tb_1 106 rfl) rfl
theorem gw_171 : (Cond.soleField "ScanDetector$PendingAttempts" "sources") ∈ wsG := gw_of (tb_1 107 rfl) rfl
theorem gw_172 : (Cond.laysFinal "ScanDetector$PendingAttempts" "ScanDetector$PendingAttempts" "destinations" "[I") ∈ wsG := gw_of (tb_1 108 rfl) rfl
theorem gw_173 : (Cond.soleField "ScanDetector$PendingAttempts" "destinations") ∈ wsG := gw_of (tb_1 109 rfl) rfl
theorem gw_174 : (Cond.laysFinal "ScanDetector$PendingAttempts" "ScanDetector$PendingAttempts" "deadlines" "[I") ∈ wsG := gw_of (tb_1 110 rfl) rfl
theorem gw_175 : (Cond.soleField "ScanDetector$PendingAttempts" "deadlines") ∈ wsG := gw_of (tb_1 111 rfl) rfl
theorem gw_176 : (Cond.lays "ScanDetector$PendingAttempts" "ScanDetector$PendingAttempts" "count" "I") ∈ wsG := gw_of (tb_1 112 rfl) rfl
theorem gw_177 : (Cond.soleField "ScanDetector$PendingAttempts" "count") ∈ wsG := gw_of (tb_1 113 rfl) rfl
theorem gw_178 : (Cond.superclass "ScanDetector$PendingAttempts" "java/lang/Object") ∈ wsG := gw_of (tb_1 114 rfl) rfl
theorem gw_179 : (Cond.classLink "ScanDetector" 30 "ScanDetector$VerdictLog") ∈ wsG := gw_of (tb_1 115 rfl) rfl
theorem gw_180 : (Cond.instantiable "ScanDetector$VerdictLog" 2) ∈ wsG := gw_of (tb_1 116 rfl) rfl
theorem nw_181 : (Cond.methodLinkNest "ScanDetector" 32 (MethodName.mk "ScanDetector$VerdictLog" "<init>" "()V") "ScanDetector") ∈ nwL := nw_of (tb_1 117 rfl) rfl
theorem gw_182 : (Cond.instanceMethod (MethodName.mk "ScanDetector$VerdictLog" "<init>" "()V")) ∈ wsG := gw_of (tb_1 118 rfl) rfl
theorem gw_183 : (Cond.code (MethodName.mk "ScanDetector$VerdictLog" "<init>" "()V") prog_5_method_1_code 1 none) ∈ wsG := gw_of (tb_1 119 rfl) rfl
theorem gw_184 : (Cond.methodLink "ScanDetector$VerdictLog" 3 (MethodName.mk "java/lang/Object" "<init>" "()V")) ∈ wsG := gw_of (tb_1 120 rfl) rfl
theorem gw_185 : (Cond.fieldLink "ScanDetector$VerdictLog" 9 "ScanDetector$VerdictLog" "latest" "[I") ∈ wsG := gw_of (tb_1 121 rfl) rfl
theorem gw_186 : (Cond.fieldLink "ScanDetector$VerdictLog" 15 "ScanDetector$VerdictLog" "count" "I") ∈ wsG := gw_of (tb_1 122 rfl) rfl
theorem nw_187 : (Cond.fieldLinkNest "ScanDetector" 69 "ScanDetector$VerdictLog" "count" "I" "ScanDetector") ∈ nwL := nw_of (tb_1 123 rfl) rfl
theorem gw_188 : (Cond.laysFinal "ScanDetector$VerdictLog" "ScanDetector$VerdictLog" "latest" "[I") ∈ wsG := gw_of (tb_1 124 rfl) rfl
theorem gw_189 : (Cond.soleField "ScanDetector$VerdictLog" "latest") ∈ wsG := gw_of (tb_1 125 rfl) rfl
theorem gw_190 : (Cond.lays "ScanDetector$VerdictLog" "ScanDetector$VerdictLog" "count" "I") ∈ wsG := gw_of (tb_1 126 rfl) rfl
theorem gw_191 : (Cond.soleField "ScanDetector$VerdictLog" "count") ∈ wsG := gw_of (tb_1 127 rfl) rfl
theorem gw_192 : (Cond.superclass "ScanDetector$VerdictLog" "java/lang/Object") ∈ wsG := gw_of (tb_1 128 rfl) rfl
theorem gw_193 : (Cond.classLink "ScanDetector" 37 "ScanDetector$InputText") ∈ wsG := gw_of (tb_1 129 rfl) rfl
theorem gw_194 : (Cond.instantiable "ScanDetector$InputText" 2) ∈ wsG := gw_of (tb_1 130 rfl) rfl
theorem nw_195 : (Cond.methodLinkNest "ScanDetector" 39 (MethodName.mk "ScanDetector$InputText" "<init>" "()V") "ScanDetector") ∈ nwL := nw_of (tb_1 131 rfl) rfl
theorem gw_196 : (Cond.instanceMethod (MethodName.mk "ScanDetector$InputText" "<init>" "()V")) ∈ wsG := gw_of (tb_1 132 rfl) rfl
theorem gw_197 : (Cond.code (MethodName.mk "ScanDetector$InputText" "<init>" "()V") prog_3_method_1_code 1 none) ∈ wsG := gw_of (tb_1 133 rfl) rfl
theorem gw_198 : (Cond.methodLink "ScanDetector$InputText" 3 (MethodName.mk "java/lang/Object" "<init>" "()V")) ∈ wsG := gw_of (tb_1 134 rfl) rfl
theorem gw_199 : (Cond.fieldLink "ScanDetector$InputText" 9 "ScanDetector$InputText" "codes" "[I") ∈ wsG := gw_of (tb_1 135 rfl) rfl
theorem nw_200 : (Cond.fieldLinkNest "ScanDetector" 290 "ScanDetector$InputText" "codes" "[I" "ScanDetector") ∈ nwL := nw_of (tb_1 136 rfl) rfl
theorem gw_201 : (Cond.fieldLink "ScanDetector$InputText" 15 "ScanDetector$InputText" "length" "I") ∈ wsG := gw_of (tb_1 137 rfl) rfl
theorem nw_202 : (Cond.fieldLinkNest "ScanDetector" 147 "ScanDetector$InputText" "length" "I" "ScanDetector") ∈ nwL := nw_of (tb_1 138 rfl) rfl
theorem gw_203 : (Cond.laysFinal "ScanDetector$InputText" "ScanDetector$InputText" "codes" "[I") ∈ wsG := gw_of (tb_1 139 rfl) rfl
theorem gw_204 : (Cond.soleField "ScanDetector$InputText" "codes") ∈ wsG := gw_of (tb_1 140 rfl) rfl
theorem gw_205 : (Cond.lays "ScanDetector$InputText" "ScanDetector$InputText" "length" "I") ∈ wsG := gw_of (tb_1 141 rfl) rfl
theorem gw_206 : (Cond.soleField "ScanDetector$InputText" "length") ∈ wsG := gw_of (tb_1 142 rfl) rfl
theorem gw_207 : (Cond.superclass "ScanDetector$InputText" "java/lang/Object") ∈ wsG := gw_of (tb_1 143 rfl) rfl
theorem gw_208 : (Cond.fieldLink "ScanDetector" 11 "ScanDetector" "cells" "[LScanDetector$Cell;") ∈ wsG := gw_of (tb_1 144 rfl) rfl
theorem gw_209 : (Cond.fieldLink "ScanDetector" 19 "ScanDetector" "walk" "LScanDetector$Walk;") ∈ wsG := gw_of (tb_1 145 rfl) rfl
theorem gw_210 : (Cond.fieldLink "ScanDetector" 26 "ScanDetector" "pending" "LScanDetector$PendingAttempts;") ∈ wsG := gw_of (tb_1 146 rfl) rfl
theorem gw_211 : (Cond.fieldLink "ScanDetector" 33 "ScanDetector" "verdicts" "LScanDetector$VerdictLog;") ∈ wsG := gw_of (tb_1 147 rfl) rfl
theorem gw_212 : (Cond.fieldLink "ScanDetector" 40 "ScanDetector" "input" "LScanDetector$InputText;") ∈ wsG := gw_of (tb_1 148 rfl) rfl
theorem gw_213 : (Cond.fieldLink "ScanDetector" 44 "ScanDetector" "cellCount" "I") ∈ wsG := gw_of (tb_1 149 rfl) rfl
theorem gw_214 : (Cond.fieldLink "ScanDetector" 48 "ScanDetector" "timeout" "I") ∈ wsG := gw_of (tb_1 150 rfl) rfl
theorem gw_215 : (Cond.fieldLink "ScanDetector" 51 "ScanDetector" "clock" "I") ∈ wsG := gw_of (tb_1 151 rfl) rfl
theorem gw_216 : (Cond.laysFinal "ScanDetector" "ScanDetector" "cells" "[LScanDetector$Cell;") ∈ wsG := gw_of (tb_1 152 rfl) rfl
theorem gw_217 : (Cond.soleField "ScanDetector" "cells") ∈ wsG := gw_of (tb_1 153 rfl) rfl
theorem gw_218 : (Cond.laysFinal "ScanDetector" "ScanDetector" "walk" "LScanDetector$Walk;") ∈ wsG := gw_of (tb_1 154 rfl) rfl
theorem gw_219 : (Cond.soleField "ScanDetector" "walk") ∈ wsG := gw_of (tb_1 155 rfl) rfl
theorem gw_220 : (Cond.laysFinal "ScanDetector" "ScanDetector" "pending" "LScanDetector$PendingAttempts;") ∈ wsG := gw_of (tb_1 156 rfl) rfl
theorem gw_221 : (Cond.soleField "ScanDetector" "pending") ∈ wsG := gw_of (tb_1 157 rfl) rfl
theorem gw_222 : (Cond.laysFinal "ScanDetector" "ScanDetector" "verdicts" "LScanDetector$VerdictLog;") ∈ wsG := gw_of (tb_1 158 rfl) rfl
theorem gw_223 : (Cond.soleField "ScanDetector" "verdicts") ∈ wsG := gw_of (tb_1 159 rfl) rfl
theorem gw_224 : (Cond.laysFinal "ScanDetector" "ScanDetector" "input" "LScanDetector$InputText;") ∈ wsG := gw_of (tb_1 160 rfl) rfl
theorem gw_225 : (Cond.soleField "ScanDetector" "input") ∈ wsG := gw_of (tb_1 161 rfl) rfl
theorem gw_226 : (Cond.lays "ScanDetector" "ScanDetector" "cellCount" "I") ∈ wsG := gw_of (tb_1 162 rfl) rfl
theorem gw_227 : (Cond.soleField "ScanDetector" "cellCount") ∈ wsG := gw_of (tb_1 163 rfl) rfl
theorem gw_228 : (Cond.lays "ScanDetector" "ScanDetector" "timeout" "I") ∈ wsG := gw_of (tb_1 164 rfl) rfl
theorem gw_229 : (Cond.soleField "ScanDetector" "timeout") ∈ wsG := gw_of (tb_1 165 rfl) rfl
theorem gw_230 : (Cond.lays "ScanDetector" "ScanDetector" "clock" "I") ∈ wsG := gw_of (tb_1 166 rfl) rfl
theorem gw_231 : (Cond.soleField "ScanDetector" "clock") ∈ wsG := gw_of (tb_1 167 rfl) rfl
theorem gw_232 : (Cond.superclass "ScanDetector" "java/lang/Object") ∈ wsG := gw_of (tb_1 168 rfl) rfl
theorem gw_233 : (Cond.methodLink "ScanDetectorLaw" 13 (MethodName.mk "ScanDetector" "configure" "(IIII)I")) ∈ wsG := gw_of (tb_1 169 rfl) rfl
theorem gw_234 : (Cond.instanceMethod (MethodName.mk "ScanDetector" "configure" "(IIII)I")) ∈ wsG := gw_of (tb_1 170 rfl) rfl
theorem gw_235 : (Cond.selects "ScanDetector" (MethodName.mk "ScanDetector" "configure" "(IIII)I") (MethodName.mk "ScanDetector" "configure" "(IIII)I")) ∈ wsG := gw_of (tb_1 171 rfl) rfl
theorem gw_236 : (Cond.code (MethodName.mk "ScanDetector" "configure" "(IIII)I") prog_1_method_2_code 5 (Option.some FieldType.int)) ∈ wsG := gw_of (tb_1 172 rfl) rfl
theorem gw_237 : (Cond.methodLink "ScanDetector" 54 (MethodName.mk "ScanDetector" "within" "(III)Z")) ∈ wsG := gw_of (tb_1 173 rfl) rfl
theorem gw_238 : (Cond.static (MethodName.mk "ScanDetector" "within" "(III)Z")) ∈ wsG := gw_of (tb_1 174 rfl) rfl
theorem gw_239 : (Cond.code (MethodName.mk "ScanDetector" "within" "(III)Z") prog_1_method_27_code 3 (Option.some FieldType.boolean)) ∈ wsG := gw_of (tb_1 175 rfl) rfl
theorem nw_240 : (Cond.methodLinkNest "ScanDetector" 58 (MethodName.mk "ScanDetector$Walk" "setParameters" "(IIII)V") "ScanDetector") ∈ nwL := nw_of (tb_1 176 rfl) rfl
theorem gw_241 : (Cond.methodLink "ScanDetector" 62 (MethodName.mk "ScanDetector" "reset" "()V")) ∈ wsG := gw_of (tb_1 177 rfl) rfl
theorem gw_243 : (Cond.instanceMethod (MethodName.mk "ScanDetector" "reset" "()V")) ∈ wsG := gw_of (tb_1 179 rfl) rfl
theorem gw_244 : (Cond.code (MethodName.mk "ScanDetector" "reset" "()V") prog_1_method_5_code 2 none) ∈ wsG := gw_of (tb_1 180 rfl) rfl
theorem nw_245 : (Cond.methodLinkNest "ScanDetector" 65 (MethodName.mk "ScanDetector$Cell" "reset" "()V") "ScanDetector") ∈ nwL := nw_of (tb_1 181 rfl) rfl
theorem gw_247 : (Cond.instanceMethod (MethodName.mk "ScanDetector$Cell" "reset" "()V")) ∈ wsG := gw_of (tb_1 183 rfl) rfl
theorem gw_248 : (Cond.code (MethodName.mk "ScanDetector$Cell" "reset" "()V") prog_2_method_2_code 1 none) ∈ wsG := gw_of (tb_1 184 rfl) rfl
theorem gw_249 : (Cond.methodLink "ScanDetector$Cell" 7 (MethodName.mk "ScanDetector$Cell" "forget" "()V")) ∈ wsG := gw_of (tb_1 185 rfl) rfl
theorem gw_251 : (Cond.instanceMethod (MethodName.mk "ScanDetector$Cell" "forget" "()V")) ∈ wsG := gw_of (tb_1 187 rfl) rfl
theorem gw_252 : (Cond.code (MethodName.mk "ScanDetector$Cell" "forget" "()V") prog_2_method_3_code 1 none) ∈ wsG := gw_of (tb_1 188 rfl) rfl
theorem gw_253 : (Cond.methodLink "ScanDetectorLaw" 18 (MethodName.mk "ScanDetector" "setCells" "(I)I")) ∈ wsG := gw_of (tb_1 189 rfl) rfl
theorem gw_254 : (Cond.instanceMethod (MethodName.mk "ScanDetector" "setCells" "(I)I")) ∈ wsG := gw_of (tb_1 190 rfl) rfl
theorem gw_255 : (Cond.selects "ScanDetector" (MethodName.mk "ScanDetector" "setCells" "(I)I") (MethodName.mk "ScanDetector" "setCells" "(I)I")) ∈ wsG := gw_of (tb_1 191 rfl) rfl
theorem gw_256 : (Cond.code (MethodName.mk "ScanDetector" "setCells" "(I)I") prog_1_method_3_code 3 (Option.some FieldType.int)) ∈ wsG := gw_of (tb_1 192 rfl) rfl
theorem gw_257 : (Cond.methodLink "ScanDetectorLaw" 23 (MethodName.mk "ScanDetector" "setTimeout" "(I)I")) ∈ wsG := gw_of (tb_1 193 rfl) rfl
theorem gw_258 : (Cond.instanceMethod (MethodName.mk "ScanDetector" "setTimeout" "(I)I")) ∈ wsG := gw_of (tb_1 194 rfl) rfl
theorem gw_259 : (Cond.selects "ScanDetector" (MethodName.mk "ScanDetector" "setTimeout" "(I)I") (MethodName.mk "ScanDetector" "setTimeout" "(I)I")) ∈ wsG := gw_of (tb_1 195 rfl) rfl
theorem gw_260 : (Cond.code (MethodName.mk "ScanDetector" "setTimeout" "(I)I") prog_1_method_4_code 3 (Option.some FieldType.int)) ∈ wsG := gw_of (tb_1 196 rfl) rfl
theorem gw_261 : (Cond.methodLink "ScanDetectorLaw" 27 (MethodName.mk "ScanDetector" "connect" "(IIZ)I")) ∈ wsG := gw_of (tb_1 197 rfl) rfl
theorem gw_262 : (Cond.instanceMethod (MethodName.mk "ScanDetector" "connect" "(IIZ)I")) ∈ wsG := gw_of (tb_1 198 rfl) rfl
theorem gw_263 : (Cond.selects "ScanDetector" (MethodName.mk "ScanDetector" "connect" "(IIZ)I") (MethodName.mk "ScanDetector" "connect" "(IIZ)I")) ∈ wsG := gw_of (tb_1 199 rfl) rfl
theorem gw_264 : (Cond.code (MethodName.mk "ScanDetector" "connect" "(IIZ)I") prog_1_method_6_code 6 (Option.some FieldType.int)) ∈ wsG := gw_of (tb_1 200 rfl) rfl
theorem gw_265 : (Cond.methodLink "ScanDetector" 70 (MethodName.mk "ScanDetector" "sourceExists" "(I)Z")) ∈ wsG := gw_of (tb_1 201 rfl) rfl
theorem gw_266 : (Cond.static (MethodName.mk "ScanDetector" "sourceExists" "(I)Z")) ∈ wsG := gw_of (tb_1 202 rfl) rfl
theorem gw_267 : (Cond.code (MethodName.mk "ScanDetector" "sourceExists" "(I)Z") prog_1_method_25_code 1 (Option.some FieldType.boolean)) ∈ wsG := gw_of (tb_1 203 rfl) rfl
theorem gw_268 : (Cond.methodLink "ScanDetector" 74 (MethodName.mk "ScanDetector" "destinationExists" "(I)Z")) ∈ wsG := gw_of (tb_1 204 rfl) rfl
theorem gw_269 : (Cond.static (MethodName.mk "ScanDetector" "destinationExists" "(I)Z")) ∈ wsG := gw_of (tb_1 205 rfl) rfl
theorem gw_270 : (Cond.code (MethodName.mk "ScanDetector" "destinationExists" "(I)Z") prog_1_method_26_code 1 (Option.some FieldType.boolean)) ∈ wsG := gw_of (tb_1 206 rfl) rfl
theorem gw_271 : (Cond.methodLink "ScanDetector" 77 (MethodName.mk "ScanDetector" "cellIndex" "(I)I")) ∈ wsG := gw_of (tb_1 207 rfl) rfl
theorem gw_273 : (Cond.instanceMethod (MethodName.mk "ScanDetector" "cellIndex" "(I)I")) ∈ wsG := gw_of (tb_1 209 rfl) rfl
theorem gw_274 : (Cond.code (MethodName.mk "ScanDetector" "cellIndex" "(I)I") prog_1_method_28_code 2 (Option.some FieldType.int)) ∈ wsG := gw_of (tb_1 210 rfl) rfl
theorem nw_275 : (Cond.methodLinkNest "ScanDetector" 85 (MethodName.mk "ScanDetector$Cell" "stopConnect" "(Z)V") "ScanDetector") ∈ nwL := nw_of (tb_1 211 rfl) rfl
theorem gw_277 : (Cond.instanceMethod (MethodName.mk "ScanDetector$Cell" "stopConnect" "(Z)V")) ∈ wsG := gw_of (tb_1 213 rfl) rfl
theorem gw_278 : (Cond.code (MethodName.mk "ScanDetector$Cell" "stopConnect" "(Z)V") prog_2_method_7_code 2 none) ∈ wsG := gw_of (tb_1 214 rfl) rfl
theorem nw_279 : (Cond.methodLinkNest "ScanDetector" 89 (MethodName.mk "ScanDetector$Cell" "hasSeen" "(I)Z") "ScanDetector") ∈ nwL := nw_of (tb_1 215 rfl) rfl
theorem gw_281 : (Cond.instanceMethod (MethodName.mk "ScanDetector$Cell" "hasSeen" "(I)Z")) ∈ wsG := gw_of (tb_1 217 rfl) rfl
theorem gw_282 : (Cond.code (MethodName.mk "ScanDetector$Cell" "hasSeen" "(I)Z") prog_2_method_4_code 2 (Option.some FieldType.boolean)) ∈ wsG := gw_of (tb_1 218 rfl) rfl
theorem nw_283 : (Cond.methodLinkNest "ScanDetector" 92 (MethodName.mk "ScanDetector$Cell" "see" "(I)V") "ScanDetector") ∈ nwL := nw_of (tb_1 219 rfl) rfl
theorem gw_285 : (Cond.instanceMethod (MethodName.mk "ScanDetector$Cell" "see" "(I)V")) ∈ wsG := gw_of (tb_1 221 rfl) rfl
theorem gw_286 : (Cond.code (MethodName.mk "ScanDetector$Cell" "see" "(I)V") prog_2_method_5_code 2 none) ∈ wsG := gw_of (tb_1 222 rfl) rfl
theorem gw_287 : (Cond.methodLink "ScanDetector" 96 (MethodName.mk "ScanDetector" "settle" "(IZ)I")) ∈ wsG := gw_of (tb_1 223 rfl) rfl
theorem gw_289 : (Cond.instanceMethod (MethodName.mk "ScanDetector" "settle" "(IZ)I")) ∈ wsG := gw_of (tb_1 225 rfl) rfl
theorem gw_290 : (Cond.code (MethodName.mk "ScanDetector" "settle" "(IZ)I") prog_1_method_12_code 5 (Option.some FieldType.int)) ∈ wsG := gw_of (tb_1 226 rfl) rfl
theorem nw_291 : (Cond.methodLinkNest "ScanDetector" 133 (MethodName.mk "ScanDetector$Walk" "after" "(IZ)I") "ScanDetector") ∈ nwL := nw_of (tb_1 227 rfl) rfl
theorem gw_293 : (Cond.instanceMethod (MethodName.mk "ScanDetector$Walk" "after" "(IZ)I")) ∈ wsG := gw_of (tb_1 229 rfl) rfl
theorem gw_294 : (Cond.code (MethodName.mk "ScanDetector$Walk" "after" "(IZ)I") prog_6_method_3_code 3 (Option.some FieldType.int)) ∈ wsG := gw_of (tb_1 230 rfl) rfl
theorem nw_295 : (Cond.methodLinkNest "ScanDetector" 136 (MethodName.mk "ScanDetector$Walk" "verdictAt" "(I)I") "ScanDetector") ∈ nwL := nw_of (tb_1 231 rfl) rfl
theorem gw_297 : (Cond.instanceMethod (MethodName.mk "ScanDetector$Walk" "verdictAt" "(I)I")) ∈ wsG := gw_of (tb_1 233 rfl) rfl
theorem gw_298 : (Cond.code (MethodName.mk "ScanDetector$Walk" "verdictAt" "(I)I") prog_6_method_4_code 2 (Option.some FieldType.int)) ∈ wsG := gw_of (tb_1 234 rfl) rfl
theorem gw_299 : (Cond.methodLink "ScanDetector" 139 (MethodName.mk "ScanDetector" "discardAttempts" "(I)V")) ∈ wsG := gw_of (tb_1 235 rfl) rfl
theorem gw_301 : (Cond.instanceMethod (MethodName.mk "ScanDetector" "discardAttempts" "(I)V")) ∈ wsG := gw_of (tb_1 237 rfl) rfl
theorem gw_302 : (Cond.code (MethodName.mk "ScanDetector" "discardAttempts" "(I)V") prog_1_method_13_code 3 none) ∈ wsG := gw_of (tb_1 238 rfl) rfl
theorem nw_303 : (Cond.methodLinkNest "ScanDetector" 110 (MethodName.mk "ScanDetector$PendingAttempts" "drop" "(I)V") "ScanDetector") ∈ nwL := nw_of (tb_1 239 rfl) rfl
theorem gw_305 : (Cond.instanceMethod (MethodName.mk "ScanDetector$PendingAttempts" "drop" "(I)V")) ∈ wsG := gw_of (tb_2 1 rfl) rfl
theorem gw_306 : (Cond.code (MethodName.mk "ScanDetector$PendingAttempts" "drop" "(I)V") prog_4_method_5_code 3 none) ∈ wsG := gw_of (tb_2 2 rfl) rfl
theorem nw_307 : (Cond.methodLinkNest "ScanDetector" 130 (MethodName.mk "ScanDetector$Cell" "forget" "()V") "ScanDetector") ∈ nwL := nw_of (tb_2 3 rfl) rfl
theorem nw_308 : (Cond.methodLinkNest "ScanDetector" 142 (MethodName.mk "ScanDetector$VerdictLog" "note" "(I)V") "ScanDetector") ∈ nwL := nw_of (tb_2 4 rfl) rfl
theorem gw_310 : (Cond.instanceMethod (MethodName.mk "ScanDetector$VerdictLog" "note" "(I)V")) ∈ wsG := gw_of (tb_2 6 rfl) rfl
theorem gw_311 : (Cond.code (MethodName.mk "ScanDetector$VerdictLog" "note" "(I)V") prog_5_method_2_code 2 none) ∈ wsG := gw_of (tb_2 7 rfl) rfl
theorem gw_312 : (Cond.methodLink "ScanDetector$VerdictLog" 19 (MethodName.mk "java/lang/Math" "floorMod" "(II)I")) ∈ wsG := gw_of (tb_2 8 rfl) rfl
theorem gw_313 : (Cond.static (MethodName.mk "java/lang/Math" "floorMod" "(II)I")) ∈ wsG := gw_of (tb_2 9 rfl) rfl
theorem gw_314 : (Cond.code (MethodName.mk "java/lang/Math" "floorMod" "(II)I") prog_10_method_50_code 3 (Option.some FieldType.int)) ∈ wsG := gw_of (tb_2 10 rfl) rfl
theorem gw_315 : (Cond.methodLink "ScanDetectorLaw" 32 (MethodName.mk "ScanDetector" "attempt" "(II)I")) ∈ wsG := gw_of (tb_2 11 rfl) rfl
theorem gw_316 : (Cond.instanceMethod (MethodName.mk "ScanDetector" "attempt" "(II)I")) ∈ wsG := gw_of (tb_2 12 rfl) rfl
theorem gw_317 : (Cond.selects "ScanDetector" (MethodName.mk "ScanDetector" "attempt" "(II)I") (MethodName.mk "ScanDetector" "attempt" "(II)I")) ∈ wsG := gw_of (tb_2 13 rfl) rfl
theorem gw_318 : (Cond.code (MethodName.mk "ScanDetector" "attempt" "(II)I") prog_1_method_7_code 4 (Option.some FieldType.int)) ∈ wsG := gw_of (tb_2 14 rfl) rfl
theorem nw_319 : (Cond.methodLinkNest "ScanDetector" 100 (MethodName.mk "ScanDetector$Cell" "stopAttempt" "()V") "ScanDetector") ∈ nwL := nw_of (tb_2 15 rfl) rfl
theorem gw_321 : (Cond.instanceMethod (MethodName.mk "ScanDetector$Cell" "stopAttempt" "()V")) ∈ wsG := gw_of (tb_2 17 rfl) rfl
theorem gw_322 : (Cond.code (MethodName.mk "ScanDetector$Cell" "stopAttempt" "()V") prog_2_method_6_code 1 none) ∈ wsG := gw_of (tb_2 18 rfl) rfl
theorem nw_323 : (Cond.methodLinkNest "ScanDetector" 103 (MethodName.mk "ScanDetector$PendingAttempts" "put" "(III)Z") "ScanDetector") ∈ nwL := nw_of (tb_2 19 rfl) rfl
theorem gw_325 : (Cond.instanceMethod (MethodName.mk "ScanDetector$PendingAttempts" "put" "(III)Z")) ∈ wsG := gw_of (tb_2 21 rfl) rfl
theorem gw_326 : (Cond.code (MethodName.mk "ScanDetector$PendingAttempts" "put" "(III)Z") prog_4_method_2_code 4 (Option.some FieldType.boolean)) ∈ wsG := gw_of (tb_2 22 rfl) rfl
theorem gw_327 : (Cond.methodLink "ScanDetectorLaw" 37 (MethodName.mk "ScanDetector" "answer" "(II)I")) ∈ wsG := gw_of (tb_2 23 rfl) rfl
theorem gw_328 : (Cond.instanceMethod (MethodName.mk "ScanDetector" "answer" "(II)I")) ∈ wsG := gw_of (tb_2 24 rfl) rfl
theorem gw_329 : (Cond.selects "ScanDetector" (MethodName.mk "ScanDetector" "answer" "(II)I") (MethodName.mk "ScanDetector" "answer" "(II)I")) ∈ wsG := gw_of (tb_2 25 rfl) rfl
theorem gw_330 : (Cond.code (MethodName.mk "ScanDetector" "answer" "(II)I") prog_1_method_8_code 4 (Option.some FieldType.int)) ∈ wsG := gw_of (tb_2 26 rfl) rfl
theorem nw_331 : (Cond.methodLinkNest "ScanDetector" 106 (MethodName.mk "ScanDetector$PendingAttempts" "find" "(II)I") "ScanDetector") ∈ nwL := nw_of (tb_2 27 rfl) rfl
theorem gw_333 : (Cond.instanceMethod (MethodName.mk "ScanDetector$PendingAttempts" "find" "(II)I")) ∈ wsG := gw_of (tb_2 29 rfl) rfl
theorem gw_334 : (Cond.code (MethodName.mk "ScanDetector$PendingAttempts" "find" "(II)I") prog_4_method_3_code 4 (Option.some FieldType.int)) ∈ wsG := gw_of (tb_2 30 rfl) rfl
theorem gw_335 : (Cond.methodLink "ScanDetectorLaw" 41 (MethodName.mk "ScanDetector" "advance" "(I)I")) ∈ wsG := gw_of (tb_2 31 rfl) rfl
theorem gw_336 : (Cond.instanceMethod (MethodName.mk "ScanDetector" "advance" "(I)I")) ∈ wsG := gw_of (tb_2 32 rfl) rfl
theorem gw_337 : (Cond.selects "ScanDetector" (MethodName.mk "ScanDetector" "advance" "(I)I") (MethodName.mk "ScanDetector" "advance" "(I)I")) ∈ wsG := gw_of (tb_2 33 rfl) rfl
theorem gw_338 : (Cond.code (MethodName.mk "ScanDetector" "advance" "(I)I") prog_1_method_9_code 4 (Option.some FieldType.int)) ∈ wsG := gw_of (tb_2 34 rfl) rfl
theorem gw_339 : (Cond.methodLink "ScanDetector" 113 (MethodName.mk "ScanDetector" "failDueAttempts" "()I")) ∈ wsG := gw_of (tb_2 35 rfl) rfl
theorem gw_341 : (Cond.instanceMethod (MethodName.mk "ScanDetector" "failDueAttempts" "()I")) ∈ wsG := gw_of (tb_2 37 rfl) rfl
theorem gw_342 : (Cond.code (MethodName.mk "ScanDetector" "failDueAttempts" "()I") prog_1_method_10_code 5 (Option.some FieldType.int)) ∈ wsG := gw_of (tb_2 38 rfl) rfl
theorem nw_343 : (Cond.methodLinkNest "ScanDetector" 117 (MethodName.mk "ScanDetector$PendingAttempts" "firstDue" "(I)I") "ScanDetector") ∈ nwL := nw_of (tb_2 39 rfl) rfl
theorem gw_345 : (Cond.instanceMethod (MethodName.mk "ScanDetector$PendingAttempts" "firstDue" "(I)I")) ∈ wsG := gw_of (tb_2 41 rfl) rfl
theorem gw_346 : (Cond.code (MethodName.mk "ScanDetector$PendingAttempts" "firstDue" "(I)I") prog_4_method_4_code 3 (Option.some FieldType.int)) ∈ wsG := gw_of (tb_2 42 rfl) rfl
theorem gw_347 : (Cond.methodLink "ScanDetectorLaw" 45 (MethodName.mk "ScanDetector" "unblock" "(I)I")) ∈ wsG := gw_of (tb_2 43 rfl) rfl
theorem gw_348 : (Cond.instanceMethod (MethodName.mk "ScanDetector" "unblock" "(I)I")) ∈ wsG := gw_of (tb_2 44 rfl) rfl
theorem gw_349 : (Cond.selects "ScanDetector" (MethodName.mk "ScanDetector" "unblock" "(I)I") (MethodName.mk "ScanDetector" "unblock" "(I)I")) ∈ wsG := gw_of (tb_2 45 rfl) rfl
theorem gw_350 : (Cond.code (MethodName.mk "ScanDetector" "unblock" "(I)I") prog_1_method_11_code 4 (Option.some FieldType.int)) ∈ wsG := gw_of (tb_2 46 rfl) rfl
theorem gw_351 : (Cond.methodLink "ScanDetector" 124 (MethodName.mk "ScanDetector" "cellExists" "(I)Z")) ∈ wsG := gw_of (tb_2 47 rfl) rfl
theorem gw_353 : (Cond.instanceMethod (MethodName.mk "ScanDetector" "cellExists" "(I)Z")) ∈ wsG := gw_of (tb_2 49 rfl) rfl
theorem gw_354 : (Cond.code (MethodName.mk "ScanDetector" "cellExists" "(I)Z") prog_1_method_24_code 2 (Option.some FieldType.boolean)) ∈ wsG := gw_of (tb_2 50 rfl) rfl
theorem gw_355 : (Cond.methodLink "ScanDetectorLaw" 49 (MethodName.mk "ScanDetector" "append" "(I)I")) ∈ wsG := gw_of (tb_2 51 rfl) rfl
theorem gw_356 : (Cond.instanceMethod (MethodName.mk "ScanDetector" "append" "(I)I")) ∈ wsG := gw_of (tb_2 52 rfl) rfl
theorem gw_357 : (Cond.selects "ScanDetector" (MethodName.mk "ScanDetector" "append" "(I)I") (MethodName.mk "ScanDetector" "append" "(I)I")) ∈ wsG := gw_of (tb_2 53 rfl) rfl
theorem gw_358 : (Cond.code (MethodName.mk "ScanDetector" "append" "(I)I") prog_1_method_14_code 2 (Option.some FieldType.int)) ∈ wsG := gw_of (tb_2 54 rfl) rfl
theorem nw_359 : (Cond.methodLinkNest "ScanDetector" 145 (MethodName.mk "ScanDetector$InputText" "put" "(I)Z") "ScanDetector") ∈ nwL := nw_of (tb_2 55 rfl) rfl
theorem gw_361 : (Cond.instanceMethod (MethodName.mk "ScanDetector$InputText" "put" "(I)Z")) ∈ wsG := gw_of (tb_2 57 rfl) rfl
theorem gw_362 : (Cond.code (MethodName.mk "ScanDetector$InputText" "put" "(I)Z") prog_3_method_2_code 2 (Option.some FieldType.boolean)) ∈ wsG := gw_of (tb_2 58 rfl) rfl
theorem gw_363 : (Cond.methodLink "ScanDetectorLaw" 53 (MethodName.mk "ScanDetector" "clearInput" "()I")) ∈ wsG := gw_of (tb_2 59 rfl) rfl
theorem gw_364 : (Cond.instanceMethod (MethodName.mk "ScanDetector" "clearInput" "()I")) ∈ wsG := gw_of (tb_2 60 rfl) rfl
theorem gw_365 : (Cond.selects "ScanDetector" (MethodName.mk "ScanDetector" "clearInput" "()I") (MethodName.mk "ScanDetector" "clearInput" "()I")) ∈ wsG := gw_of (tb_2 61 rfl) rfl
theorem gw_366 : (Cond.code (MethodName.mk "ScanDetector" "clearInput" "()I") prog_1_method_15_code 2 (Option.some FieldType.int)) ∈ wsG := gw_of (tb_2 62 rfl) rfl
theorem gw_367 : (Cond.methodLink "ScanDetectorLaw" 58 (MethodName.mk "ScanDetector" "firstError" "()I")) ∈ wsG := gw_of (tb_2 63 rfl) rfl
theorem gw_368 : (Cond.instanceMethod (MethodName.mk "ScanDetector" "firstError" "()I")) ∈ wsG := gw_of (tb_2 64 rfl) rfl
theorem gw_369 : (Cond.selects "ScanDetector" (MethodName.mk "ScanDetector" "firstError" "()I") (MethodName.mk "ScanDetector" "firstError" "()I")) ∈ wsG := gw_of (tb_2 65 rfl) rfl
theorem gw_370 : (Cond.code (MethodName.mk "ScanDetector" "firstError" "()I") prog_1_method_16_code 1 (Option.some FieldType.int)) ∈ wsG := gw_of (tb_2 66 rfl) rfl
theorem nw_371 : (Cond.methodLinkNest "ScanDetector" 150 (MethodName.mk "ScanDetector$InputText" "findError" "()I") "ScanDetector") ∈ nwL := nw_of (tb_2 67 rfl) rfl
theorem gw_373 : (Cond.instanceMethod (MethodName.mk "ScanDetector$InputText" "findError" "()I")) ∈ wsG := gw_of (tb_2 69 rfl) rfl
theorem gw_374 : (Cond.code (MethodName.mk "ScanDetector$InputText" "findError" "()I") prog_3_method_3_code 2 (Option.some FieldType.int)) ∈ wsG := gw_of (tb_2 70 rfl) rfl
theorem gw_375 : (Cond.methodLink "ScanDetector$InputText" 19 (MethodName.mk "ScanDetector$InputText" "fits" "(I)Z")) ∈ wsG := gw_of (tb_2 71 rfl) rfl
theorem gw_377 : (Cond.instanceMethod (MethodName.mk "ScanDetector$InputText" "fits" "(I)Z")) ∈ wsG := gw_of (tb_2 73 rfl) rfl
theorem gw_378 : (Cond.code (MethodName.mk "ScanDetector$InputText" "fits" "(I)Z") prog_3_method_4_code 3 (Option.some FieldType.boolean)) ∈ wsG := gw_of (tb_2 74 rfl) rfl
theorem nw_379 : (Cond.methodLinkNest "ScanDetector$InputText" 23 (MethodName.mk "ScanDetector" "within" "(III)Z") "ScanDetector") ∈ nwL := nw_of (tb_2 75 rfl) rfl
theorem gw_380 : (Cond.methodLink "ScanDetector$InputText" 27 (MethodName.mk "ScanDetector$InputText" "isOutcome" "(I)Z")) ∈ wsG := gw_of (tb_2 76 rfl) rfl
theorem gw_381 : (Cond.static (MethodName.mk "ScanDetector$InputText" "isOutcome" "(I)Z")) ∈ wsG := gw_of (tb_2 77 rfl) rfl
theorem gw_382 : (Cond.code (MethodName.mk "ScanDetector$InputText" "isOutcome" "(I)Z") prog_3_method_5_code 1 (Option.some FieldType.boolean)) ∈ wsG := gw_of (tb_2 78 rfl) rfl
theorem gw_383 : (Cond.methodLink "ScanDetectorLaw" 62 (MethodName.mk "ScanDetector" "runInput" "()I")) ∈ wsG := gw_of (tb_2 79 rfl) rfl
theorem gw_384 : (Cond.instanceMethod (MethodName.mk "ScanDetector" "runInput" "()I")) ∈ wsG := gw_of (tb_2 80 rfl) rfl
theorem gw_385 : (Cond.selects "ScanDetector" (MethodName.mk "ScanDetector" "runInput" "()I") (MethodName.mk "ScanDetector" "runInput" "()I")) ∈ wsG := gw_of (tb_2 81 rfl) rfl
theorem gw_386 : (Cond.code (MethodName.mk "ScanDetector" "runInput" "()I") prog_1_method_17_code 4 (Option.some FieldType.int)) ∈ wsG := gw_of (tb_2 82 rfl) rfl
theorem nw_387 : (Cond.methodLinkNest "ScanDetector" 153 (MethodName.mk "ScanDetector$InputText" "isComplete" "()Z") "ScanDetector") ∈ nwL := nw_of (tb_2 83 rfl) rfl
theorem gw_389 : (Cond.instanceMethod (MethodName.mk "ScanDetector$InputText" "isComplete" "()Z")) ∈ wsG := gw_of (tb_2 85 rfl) rfl
theorem gw_390 : (Cond.code (MethodName.mk "ScanDetector$InputText" "isComplete" "()Z") prog_3_method_6_code 1 (Option.some FieldType.boolean)) ∈ wsG := gw_of (tb_2 86 rfl) rfl
theorem gw_391 : (Cond.methodLink "ScanDetector$InputText" 30 (MethodName.mk "ScanDetector$InputText" "findError" "()I")) ∈ wsG := gw_of (tb_2 87 rfl) rfl
theorem nw_392 : (Cond.methodLinkNest "ScanDetector" 157 (MethodName.mk "ScanDetector$InputText" "sourceAt" "(I)I") "ScanDetector") ∈ nwL := nw_of (tb_2 88 rfl) rfl
theorem gw_394 : (Cond.instanceMethod (MethodName.mk "ScanDetector$InputText" "sourceAt" "(I)I")) ∈ wsG := gw_of (tb_2 90 rfl) rfl
theorem gw_395 : (Cond.code (MethodName.mk "ScanDetector$InputText" "sourceAt" "(I)I") prog_3_method_7_code 2 (Option.some FieldType.int)) ∈ wsG := gw_of (tb_2 91 rfl) rfl
theorem nw_396 : (Cond.methodLinkNest "ScanDetector" 160 (MethodName.mk "ScanDetector$InputText" "destinationAt" "(I)I") "ScanDetector") ∈ nwL := nw_of (tb_2 92 rfl) rfl
theorem gw_398 : (Cond.instanceMethod (MethodName.mk "ScanDetector$InputText" "destinationAt" "(I)I")) ∈ wsG := gw_of (tb_2 94 rfl) rfl
theorem gw_399 : (Cond.code (MethodName.mk "ScanDetector$InputText" "destinationAt" "(I)I") prog_3_method_8_code 2 (Option.some FieldType.int)) ∈ wsG := gw_of (tb_2 95 rfl) rfl
theorem nw_400 : (Cond.methodLinkNest "ScanDetector" 163 (MethodName.mk "ScanDetector$InputText" "successAt" "(I)Z") "ScanDetector") ∈ nwL := nw_of (tb_2 96 rfl) rfl
theorem gw_402 : (Cond.instanceMethod (MethodName.mk "ScanDetector$InputText" "successAt" "(I)Z")) ∈ wsG := gw_of (tb_2 98 rfl) rfl
theorem gw_403 : (Cond.code (MethodName.mk "ScanDetector$InputText" "successAt" "(I)Z") prog_3_method_9_code 2 (Option.some FieldType.boolean)) ∈ wsG := gw_of (tb_2 99 rfl) rfl
theorem gw_404 : (Cond.methodLink "ScanDetector" 166 (MethodName.mk "ScanDetector" "connect" "(IIZ)I")) ∈ wsG := gw_of (tb_2 100 rfl) rfl
theorem gw_405 : (Cond.methodLink "ScanDetectorLaw" 66 (MethodName.mk "ScanDetector" "cellOf" "(I)I")) ∈ wsG := gw_of (tb_2 101 rfl) rfl
theorem gw_406 : (Cond.instanceMethod (MethodName.mk "ScanDetector" "cellOf" "(I)I")) ∈ wsG := gw_of (tb_2 102 rfl) rfl
theorem gw_407 : (Cond.selects "ScanDetector" (MethodName.mk "ScanDetector" "cellOf" "(I)I") (MethodName.mk "ScanDetector" "cellOf" "(I)I")) ∈ wsG := gw_of (tb_2 103 rfl) rfl
theorem gw_408 : (Cond.code (MethodName.mk "ScanDetector" "cellOf" "(I)I") prog_1_method_18_code 2 (Option.some FieldType.int)) ∈ wsG := gw_of (tb_2 104 rfl) rfl
theorem gw_409 : (Cond.methodLink "ScanDetectorLaw" 70 (MethodName.mk "ScanDetector" "score" "(I)I")) ∈ wsG := gw_of (tb_2 105 rfl) rfl
theorem gw_410 : (Cond.instanceMethod (MethodName.mk "ScanDetector" "score" "(I)I")) ∈ wsG := gw_of (tb_2 106 rfl) rfl
theorem gw_411 : (Cond.selects "ScanDetector" (MethodName.mk "ScanDetector" "score" "(I)I") (MethodName.mk "ScanDetector" "score" "(I)I")) ∈ wsG := gw_of (tb_2 107 rfl) rfl
theorem gw_412 : (Cond.code (MethodName.mk "ScanDetector" "score" "(I)I") prog_1_method_19_code 2 (Option.some FieldType.int)) ∈ wsG := gw_of (tb_2 108 rfl) rfl
theorem gw_413 : (Cond.methodLink "ScanDetectorLaw" 74 (MethodName.mk "ScanDetector" "isBlocked" "(I)I")) ∈ wsG := gw_of (tb_2 109 rfl) rfl
theorem gw_414 : (Cond.instanceMethod (MethodName.mk "ScanDetector" "isBlocked" "(I)I")) ∈ wsG := gw_of (tb_2 110 rfl) rfl
theorem gw_415 : (Cond.selects "ScanDetector" (MethodName.mk "ScanDetector" "isBlocked" "(I)I") (MethodName.mk "ScanDetector" "isBlocked" "(I)I")) ∈ wsG := gw_of (tb_2 111 rfl) rfl
theorem gw_416 : (Cond.code (MethodName.mk "ScanDetector" "isBlocked" "(I)I") prog_1_method_20_code 2 (Option.some FieldType.int)) ∈ wsG := gw_of (tb_2 112 rfl) rfl
theorem gw_417 : (Cond.methodLink "ScanDetectorLaw" 78 (MethodName.mk "ScanDetector" "seenDestinations" "(I)J")) ∈ wsG := gw_of (tb_2 113 rfl) rfl
theorem gw_418 : (Cond.instanceMethod (MethodName.mk "ScanDetector" "seenDestinations" "(I)J")) ∈ wsG := gw_of (tb_2 114 rfl) rfl
theorem gw_419 : (Cond.selects "ScanDetector" (MethodName.mk "ScanDetector" "seenDestinations" "(I)J") (MethodName.mk "ScanDetector" "seenDestinations" "(I)J")) ∈ wsG := gw_of (tb_2 115 rfl) rfl
theorem gw_420 : (Cond.code (MethodName.mk "ScanDetector" "seenDestinations" "(I)J") prog_1_method_21_code 2 (Option.some FieldType.long)) ∈ wsG := gw_of (tb_2 116 rfl) rfl
theorem gw_421 : (Cond.constantLong "ScanDetector" 174 (-107 : Int64)) ∈ wsG := gw_of (tb_2 117 rfl) rfl
theorem gw_422 : (Cond.methodLink "ScanDetectorLaw" 83 (MethodName.mk "ScanDetector" "blockedContacts" "(I)I")) ∈ wsG := gw_of (tb_2 118 rfl) rfl
theorem gw_423 : (Cond.instanceMethod (MethodName.mk "ScanDetector" "blockedContacts" "(I)I")) ∈ wsG := gw_of (tb_2 119 rfl) rfl
theorem gw_424 : (Cond.selects "ScanDetector" (MethodName.mk "ScanDetector" "blockedContacts" "(I)I") (MethodName.mk "ScanDetector" "blockedContacts" "(I)I")) ∈ wsG := gw_of (tb_2 120 rfl) rfl
theorem gw_425 : (Cond.code (MethodName.mk "ScanDetector" "blockedContacts" "(I)I") prog_1_method_22_code 2 (Option.some FieldType.int)) ∈ wsG := gw_of (tb_2 121 rfl) rfl
theorem gw_426 : (Cond.methodLink "ScanDetectorLaw" 87 (MethodName.mk "ScanDetector" "wronglyBlocked" "(I)I")) ∈ wsG := gw_of (tb_2 122 rfl) rfl
theorem gw_427 : (Cond.instanceMethod (MethodName.mk "ScanDetector" "wronglyBlocked" "(I)I")) ∈ wsG := gw_of (tb_2 123 rfl) rfl
theorem gw_428 : (Cond.selects "ScanDetector" (MethodName.mk "ScanDetector" "wronglyBlocked" "(I)I") (MethodName.mk "ScanDetector" "wronglyBlocked" "(I)I")) ∈ wsG := gw_of (tb_2 124 rfl) rfl
theorem gw_429 : (Cond.code (MethodName.mk "ScanDetector" "wronglyBlocked" "(I)I") prog_1_method_23_code 2 (Option.some FieldType.int)) ∈ wsG := gw_of (tb_2 125 rfl) rfl
theorem gw_430 : (Cond.methodLink "ScanDetectorLaw" 91 (MethodName.mk "ScanDetector" "attemptCount" "()I")) ∈ wsG := gw_of (tb_2 126 rfl) rfl
theorem gw_431 : (Cond.instanceMethod (MethodName.mk "ScanDetector" "attemptCount" "()I")) ∈ wsG := gw_of (tb_2 127 rfl) rfl
theorem gw_432 : (Cond.selects "ScanDetector" (MethodName.mk "ScanDetector" "attemptCount" "()I") (MethodName.mk "ScanDetector" "attemptCount" "()I")) ∈ wsG := gw_of (tb_2 128 rfl) rfl
theorem gw_433 : (Cond.code (MethodName.mk "ScanDetector" "attemptCount" "()I") prog_1_method_29_code 1 (Option.some FieldType.int)) ∈ wsG := gw_of (tb_2 129 rfl) rfl
theorem gw_434 : (Cond.methodLink "ScanDetectorLaw" 95 (MethodName.mk "ScanDetector" "describeAttempt" "(I)I")) ∈ wsG := gw_of (tb_2 130 rfl) rfl
theorem gw_435 : (Cond.instanceMethod (MethodName.mk "ScanDetector" "describeAttempt" "(I)I")) ∈ wsG := gw_of (tb_2 131 rfl) rfl
theorem gw_436 : (Cond.selects "ScanDetector" (MethodName.mk "ScanDetector" "describeAttempt" "(I)I") (MethodName.mk "ScanDetector" "describeAttempt" "(I)I")) ∈ wsG := gw_of (tb_2 132 rfl) rfl
theorem gw_437 : (Cond.code (MethodName.mk "ScanDetector" "describeAttempt" "(I)I") prog_1_method_30_code 3 (Option.some FieldType.int)) ∈ wsG := gw_of (tb_2 133 rfl) rfl
theorem gw_438 : (Cond.methodLink "ScanDetectorLaw" 99 (MethodName.mk "ScanDetector" "clock" "()I")) ∈ wsG := gw_of (tb_2 134 rfl) rfl
theorem gw_439 : (Cond.instanceMethod (MethodName.mk "ScanDetector" "clock" "()I")) ∈ wsG := gw_of (tb_2 135 rfl) rfl
theorem gw_440 : (Cond.selects "ScanDetector" (MethodName.mk "ScanDetector" "clock" "()I") (MethodName.mk "ScanDetector" "clock" "()I")) ∈ wsG := gw_of (tb_2 136 rfl) rfl
theorem gw_441 : (Cond.code (MethodName.mk "ScanDetector" "clock" "()I") prog_1_method_31_code 1 (Option.some FieldType.int)) ∈ wsG := gw_of (tb_2 137 rfl) rfl
theorem gw_442 : (Cond.methodLink "ScanDetectorLaw" 103 (MethodName.mk "ScanDetector" "verdictCount" "()I")) ∈ wsG := gw_of (tb_2 138 rfl) rfl
theorem gw_443 : (Cond.instanceMethod (MethodName.mk "ScanDetector" "verdictCount" "()I")) ∈ wsG := gw_of (tb_2 139 rfl) rfl
theorem gw_444 : (Cond.selects "ScanDetector" (MethodName.mk "ScanDetector" "verdictCount" "()I") (MethodName.mk "ScanDetector" "verdictCount" "()I")) ∈ wsG := gw_of (tb_2 140 rfl) rfl
theorem gw_445 : (Cond.code (MethodName.mk "ScanDetector" "verdictCount" "()I") prog_1_method_32_code 1 (Option.some FieldType.int)) ∈ wsG := gw_of (tb_2 141 rfl) rfl
theorem gw_446 : (Cond.methodLink "ScanDetectorLaw" 107 (MethodName.mk "ScanDetector" "describeVerdict" "(I)I")) ∈ wsG := gw_of (tb_2 142 rfl) rfl
theorem gw_447 : (Cond.instanceMethod (MethodName.mk "ScanDetector" "describeVerdict" "(I)I")) ∈ wsG := gw_of (tb_2 143 rfl) rfl
theorem gw_448 : (Cond.selects "ScanDetector" (MethodName.mk "ScanDetector" "describeVerdict" "(I)I") (MethodName.mk "ScanDetector" "describeVerdict" "(I)I")) ∈ wsG := gw_of (tb_2 144 rfl) rfl
theorem gw_449 : (Cond.code (MethodName.mk "ScanDetector" "describeVerdict" "(I)I") prog_1_method_33_code 2 (Option.some FieldType.int)) ∈ wsG := gw_of (tb_2 145 rfl) rfl
theorem nw_450 : (Cond.methodLinkNest "ScanDetector" 188 (MethodName.mk "ScanDetector$VerdictLog" "kept" "()I") "ScanDetector") ∈ nwL := nw_of (tb_2 146 rfl) rfl
theorem gw_452 : (Cond.instanceMethod (MethodName.mk "ScanDetector$VerdictLog" "kept" "()I")) ∈ wsG := gw_of (tb_2 148 rfl) rfl
theorem gw_453 : (Cond.code (MethodName.mk "ScanDetector$VerdictLog" "kept" "()I") prog_5_method_3_code 1 (Option.some FieldType.int)) ∈ wsG := gw_of (tb_2 149 rfl) rfl
theorem nw_454 : (Cond.methodLinkNest "ScanDetector" 191 (MethodName.mk "ScanDetector$VerdictLog" "recall" "(I)I") "ScanDetector") ∈ nwL := nw_of (tb_2 150 rfl) rfl
theorem gw_456 : (Cond.instanceMethod (MethodName.mk "ScanDetector$VerdictLog" "recall" "(I)I")) ∈ wsG := gw_of (tb_2 152 rfl) rfl
theorem gw_457 : (Cond.code (MethodName.mk "ScanDetector$VerdictLog" "recall" "(I)I") prog_5_method_4_code 2 (Option.some FieldType.int)) ∈ wsG := gw_of (tb_2 153 rfl) rfl
theorem gw_458 : (Cond.methodLink "ScanDetectorLaw" 111 (MethodName.mk "ScanDetector" "countSequences" "(II)I")) ∈ wsG := gw_of (tb_2 154 rfl) rfl
theorem gw_459 : (Cond.instanceMethod (MethodName.mk "ScanDetector" "countSequences" "(II)I")) ∈ wsG := gw_of (tb_2 155 rfl) rfl
theorem gw_460 : (Cond.selects "ScanDetector" (MethodName.mk "ScanDetector" "countSequences" "(II)I") (MethodName.mk "ScanDetector" "countSequences" "(II)I")) ∈ wsG := gw_of (tb_2 156 rfl) rfl
theorem gw_461 : (Cond.code (MethodName.mk "ScanDetector" "countSequences" "(II)I") prog_1_method_34_code 3 (Option.some FieldType.int)) ∈ wsG := gw_of (tb_2 157 rfl) rfl
theorem nw_462 : (Cond.methodLinkNest "ScanDetector" 194 (MethodName.mk "ScanDetector$Walk" "sequencesWith" "(II)I") "ScanDetector") ∈ nwL := nw_of (tb_2 158 rfl) rfl
theorem gw_464 : (Cond.instanceMethod (MethodName.mk "ScanDetector$Walk" "sequencesWith" "(II)I")) ∈ wsG := gw_of (tb_2 160 rfl) rfl
theorem gw_465 : (Cond.code (MethodName.mk "ScanDetector$Walk" "sequencesWith" "(II)I") prog_6_method_6_code 6 (Option.some FieldType.int)) ∈ wsG := gw_of (tb_2 161 rfl) rfl
theorem gw_466 : (Cond.methodLink "ScanDetector$Walk" 45 (MethodName.mk "java/util/Arrays" "fill" "([II)V")) ∈ wsG := gw_of (tb_2 162 rfl) rfl
theorem gw_467 : (Cond.static (MethodName.mk "java/util/Arrays" "fill" "([II)V")) ∈ wsG := gw_of (tb_2 163 rfl) rfl
theorem gw_468 : (Cond.code (MethodName.mk "java/util/Arrays" "fill" "([II)V") prog_12_method_103_code 4 none) ∈ wsG := gw_of (tb_2 164 rfl) rfl
theorem gw_469 : (Cond.methodLink "ScanDetector$Walk" 51 (MethodName.mk "ScanDetector$Walk" "indexOfZero" "()I")) ∈ wsG := gw_of (tb_2 165 rfl) rfl
theorem gw_471 : (Cond.instanceMethod (MethodName.mk "ScanDetector$Walk" "indexOfZero" "()I")) ∈ wsG := gw_of (tb_2 167 rfl) rfl
theorem gw_472 : (Cond.code (MethodName.mk "ScanDetector$Walk" "indexOfZero" "()I") prog_6_method_5_code 1 (Option.some FieldType.int)) ∈ wsG := gw_of (tb_2 168 rfl) rfl
theorem gw_473 : (Cond.methodLink "ScanDetector$Walk" 55 (MethodName.mk "ScanDetector$Walk" "sumOfCounts" "(II)I")) ∈ wsG := gw_of (tb_2 169 rfl) rfl
theorem gw_475 : (Cond.instanceMethod (MethodName.mk "ScanDetector$Walk" "sumOfCounts" "(II)I")) ∈ wsG := gw_of (tb_2 171 rfl) rfl
theorem gw_476 : (Cond.code (MethodName.mk "ScanDetector$Walk" "sumOfCounts" "(II)I") prog_6_method_7_code 5 (Option.some FieldType.int)) ∈ wsG := gw_of (tb_2 172 rfl) rfl
theorem gw_477 : (Cond.methodLink "ScanDetector$Walk" 62 (MethodName.mk "java/lang/Math" "max" "(II)I")) ∈ wsG := gw_of (tb_2 173 rfl) rfl
theorem gw_478 : (Cond.static (MethodName.mk "java/lang/Math" "max" "(II)I")) ∈ wsG := gw_of (tb_2 174 rfl) rfl
theorem gw_479 : (Cond.code (MethodName.mk "java/lang/Math" "max" "(II)I") prog_10_method_65_code 2 (Option.some FieldType.int)) ∈ wsG := gw_of (tb_2 175 rfl) rfl
theorem gw_480 : (Cond.methodLink "ScanDetector$Walk" 67 (MethodName.mk "java/lang/Math" "min" "(II)I")) ∈ wsG := gw_of (tb_2 176 rfl) rfl
theorem gw_481 : (Cond.static (MethodName.mk "java/lang/Math" "min" "(II)I")) ∈ wsG := gw_of (tb_2 177 rfl) rfl
theorem gw_482 : (Cond.code (MethodName.mk "java/lang/Math" "min" "(II)I") prog_10_method_69_code 2 (Option.some FieldType.int)) ∈ wsG := gw_of (tb_2 178 rfl) rfl
theorem gw_483 : (Cond.methodLink "ScanDetector$Walk" 59 (MethodName.mk "ScanDetector$Walk" "stepCounts" "()V")) ∈ wsG := gw_of (tb_2 179 rfl) rfl
theorem gw_485 : (Cond.instanceMethod (MethodName.mk "ScanDetector$Walk" "stepCounts" "()V")) ∈ wsG := gw_of (tb_2 181 rfl) rfl
theorem gw_486 : (Cond.code (MethodName.mk "ScanDetector$Walk" "stepCounts" "()V") prog_6_method_8_code 3 none) ∈ wsG := gw_of (tb_2 182 rfl) rfl
theorem gw_487 : (Cond.methodLink "ScanDetectorLaw" 115 (MethodName.mk "ScanDetector" "scannerProbability" "(II)J")) ∈ wsG := gw_of (tb_2 183 rfl) rfl
theorem gw_488 : (Cond.instanceMethod (MethodName.mk "ScanDetector" "scannerProbability" "(II)J")) ∈ wsG := gw_of (tb_2 184 rfl) rfl
theorem gw_489 : (Cond.selects "ScanDetector" (MethodName.mk "ScanDetector" "scannerProbability" "(II)J") (MethodName.mk "ScanDetector" "scannerProbability" "(II)J")) ∈ wsG := gw_of (tb_2 185 rfl) rfl
theorem gw_490 : (Cond.code (MethodName.mk "ScanDetector" "scannerProbability" "(II)J") prog_1_method_35_code 3 (Option.some FieldType.long)) ∈ wsG := gw_of (tb_2 186 rfl) rfl
theorem gw_491 : (Cond.constantLong "ScanDetector" 197 (-104 : Int64)) ∈ wsG := gw_of (tb_2 187 rfl) rfl
theorem gw_492 : (Cond.constantDouble "ScanDetector" 199 (4636737291354636288 : UInt64)) ∈ wsG := gw_of (tb_2 188 rfl) rfl
theorem nw_493 : (Cond.methodLinkNest "ScanDetector" 201 (MethodName.mk "ScanDetector$Walk" "chanceOfScanner" "(DI)D") "ScanDetector") ∈ nwL := nw_of (tb_2 189 rfl) rfl
theorem gw_495 : (Cond.instanceMethod (MethodName.mk "ScanDetector$Walk" "chanceOfScanner" "(DI)D")) ∈ wsG := gw_of (tb_2 191 rfl) rfl
theorem gw_496 : (Cond.code (MethodName.mk "ScanDetector$Walk" "chanceOfScanner" "(DI)D") prog_6_method_9_code 7 (Option.some FieldType.double)) ∈ wsG := gw_of (tb_2 192 rfl) rfl
theorem gw_497 : (Cond.methodLink "ScanDetector$Walk" 70 (MethodName.mk "ScanDetector$Walk" "startChances" "()V")) ∈ wsG := gw_of (tb_2 193 rfl) rfl
theorem gw_499 : (Cond.instanceMethod (MethodName.mk "ScanDetector$Walk" "startChances" "()V")) ∈ wsG := gw_of (tb_2 195 rfl) rfl
theorem gw_500 : (Cond.code (MethodName.mk "ScanDetector$Walk" "startChances" "()V") prog_6_method_11_code 1 none) ∈ wsG := gw_of (tb_2 196 rfl) rfl
theorem gw_501 : (Cond.methodLink "ScanDetector$Walk" 81 (MethodName.mk "java/util/Arrays" "fill" "([DD)V")) ∈ wsG := gw_of (tb_2 197 rfl) rfl
theorem gw_502 : (Cond.static (MethodName.mk "java/util/Arrays" "fill" "([DD)V")) ∈ wsG := gw_of (tb_2 198 rfl) rfl
theorem gw_503 : (Cond.code (MethodName.mk "java/util/Arrays" "fill" "([DD)V") prog_12_method_113_code 5 none) ∈ wsG := gw_of (tb_2 199 rfl) rfl
theorem gw_504 : (Cond.methodLink "ScanDetector$Walk" 73 (MethodName.mk "ScanDetector$Walk" "stepChances" "(DD)D")) ∈ wsG := gw_of (tb_2 200 rfl) rfl
theorem gw_506 : (Cond.instanceMethod (MethodName.mk "ScanDetector$Walk" "stepChances" "(DD)D")) ∈ wsG := gw_of (tb_2 202 rfl) rfl
theorem gw_507 : (Cond.code (MethodName.mk "ScanDetector$Walk" "stepChances" "(DD)D") prog_6_method_13_code 11 (Option.some FieldType.double)) ∈ wsG := gw_of (tb_2 203 rfl) rfl
theorem gw_508 : (Cond.methodLink "ScanDetector" 205 (MethodName.mk "ScanDetector" "bitsOf" "(D)J")) ∈ wsG := gw_of (tb_2 204 rfl) rfl
theorem gw_509 : (Cond.static (MethodName.mk "ScanDetector" "bitsOf" "(D)J")) ∈ wsG := gw_of (tb_2 205 rfl) rfl
theorem gw_510 : (Cond.code (MethodName.mk "ScanDetector" "bitsOf" "(D)J") prog_1_method_37_code 8 (Option.some FieldType.long)) ∈ wsG := gw_of (tb_2 206 rfl) rfl
theorem gw_511 : (Cond.constantLong "ScanDetector" 212 (1023 : Int64)) ∈ wsG := gw_of (tb_2 207 rfl) rfl
theorem gw_512 : (Cond.constantDouble "ScanDetector" 214 (4611686018427387904 : UInt64)) ∈ wsG := gw_of (tb_2 208 rfl) rfl
theorem gw_513 : (Cond.constantDouble "ScanDetector" 216 (4602678819172646912 : UInt64)) ∈ wsG := gw_of (tb_2 209 rfl) rfl
theorem gw_514 : (Cond.constantDouble "ScanDetector" 218 (4841369599423283200 : UInt64)) ∈ wsG := gw_of (tb_2 210 rfl) rfl
theorem gw_515 : (Cond.methodLink "ScanDetectorLaw" 120 (MethodName.mk "ScanDetector" "expectedContacts" "(II)J")) ∈ wsG := gw_of (tb_2 211 rfl) rfl
theorem gw_516 : (Cond.instanceMethod (MethodName.mk "ScanDetector" "expectedContacts" "(II)J")) ∈ wsG := gw_of (tb_2 212 rfl) rfl
theorem gw_517 : (Cond.selects "ScanDetector" (MethodName.mk "ScanDetector" "expectedContacts" "(II)J") (MethodName.mk "ScanDetector" "expectedContacts" "(II)J")) ∈ wsG := gw_of (tb_2 213 rfl) rfl
theorem gw_518 : (Cond.code (MethodName.mk "ScanDetector" "expectedContacts" "(II)J") prog_1_method_36_code 3 (Option.some FieldType.long)) ∈ wsG := gw_of (tb_2 214 rfl) rfl
theorem nw_519 : (Cond.methodLinkNest "ScanDetector" 209 (MethodName.mk "ScanDetector$Walk" "meanContacts" "(DI)D") "ScanDetector") ∈ nwL := nw_of (tb_2 215 rfl) rfl
theorem gw_521 : (Cond.instanceMethod (MethodName.mk "ScanDetector$Walk" "meanContacts" "(DI)D")) ∈ wsG := gw_of (tb_2 217 rfl) rfl
theorem gw_522 : (Cond.code (MethodName.mk "ScanDetector$Walk" "meanContacts" "(DI)D") prog_6_method_10_code 7 (Option.some FieldType.double)) ∈ wsG := gw_of (tb_2 218 rfl) rfl
theorem gw_523 : (Cond.methodLink "ScanDetector$Walk" 77 (MethodName.mk "ScanDetector$Walk" "sumOfChances" "()D")) ∈ wsG := gw_of (tb_2 219 rfl) rfl
theorem gw_525 : (Cond.instanceMethod (MethodName.mk "ScanDetector$Walk" "sumOfChances" "()D")) ∈ wsG := gw_of (tb_2 221 rfl) rfl
theorem gw_526 : (Cond.code (MethodName.mk "ScanDetector$Walk" "sumOfChances" "()D") prog_6_method_12_code 4 (Option.some FieldType.double)) ∈ wsG := gw_of (tb_2 222 rfl) rfl
theorem gw_527 : (Cond.methodLink "ScanDetectorLaw" 124 (MethodName.mk "ScanDetector" "digest" "()J")) ∈ wsG := gw_of (tb_2 223 rfl) rfl
theorem gw_528 : (Cond.instanceMethod (MethodName.mk "ScanDetector" "digest" "()J")) ∈ wsG := gw_of (tb_2 224 rfl) rfl
theorem gw_529 : (Cond.selects "ScanDetector" (MethodName.mk "ScanDetector" "digest" "()J") (MethodName.mk "ScanDetector" "digest" "()J")) ∈ wsG := gw_of (tb_2 225 rfl) rfl
theorem gw_530 : (Cond.code (MethodName.mk "ScanDetector" "digest" "()J") prog_1_method_38_code 3 (Option.some FieldType.long)) ∈ wsG := gw_of (tb_2 226 rfl) rfl
theorem gw_531 : (Cond.constantLong "ScanDetector" 220 (1777 : Int64)) ∈ wsG := gw_of (tb_2 227 rfl) rfl
theorem gw_532 : (Cond.methodLink "ScanDetector" 222 (MethodName.mk "ScanDetector" "hashSettings" "(J)J")) ∈ wsG := gw_of (tb_2 228 rfl) rfl
theorem gw_534 : (Cond.instanceMethod (MethodName.mk "ScanDetector" "hashSettings" "(J)J")) ∈ wsG := gw_of (tb_2 230 rfl) rfl
theorem gw_535 : (Cond.code (MethodName.mk "ScanDetector" "hashSettings" "(J)J") prog_1_method_40_code 5 (Option.some FieldType.long)) ∈ wsG := gw_of (tb_2 231 rfl) rfl
theorem gw_536 : (Cond.methodLink "ScanDetector" 243 (MethodName.mk "ScanDetector" "mix" "(JJ)J")) ∈ wsG := gw_of (tb_2 232 rfl) rfl
theorem gw_537 : (Cond.static (MethodName.mk "ScanDetector" "mix" "(JJ)J")) ∈ wsG := gw_of (tb_2 233 rfl) rfl
theorem gw_538 : (Cond.code (MethodName.mk "ScanDetector" "mix" "(JJ)J") prog_1_method_39_code 4 (Option.some FieldType.long)) ∈ wsG := gw_of (tb_2 234 rfl) rfl
theorem gw_539 : (Cond.constantLong "ScanDetector" 241 (31 : Int64)) ∈ wsG := gw_of (tb_2 235 rfl) rfl
theorem gw_540 : (Cond.methodLink "ScanDetector" 226 (MethodName.mk "ScanDetector" "hashCells" "(J)J")) ∈ wsG := gw_of (tb_2 236 rfl) rfl
theorem gw_542 : (Cond.instanceMethod (MethodName.mk "ScanDetector" "hashCells" "(J)J")) ∈ wsG := gw_of (tb_2 238 rfl) rfl
theorem gw_543 : (Cond.code (MethodName.mk "ScanDetector" "hashCells" "(J)J") prog_1_method_41_code 6 (Option.some FieldType.long)) ∈ wsG := gw_of (tb_2 239 rfl) rfl
theorem gw_544 : (Cond.methodLink "ScanDetector" 259 (MethodName.mk "ScanDetector" "score" "(I)I")) ∈ wsG := gw_of (tb_3 0 rfl) rfl
theorem gw_545 : (Cond.methodLink "ScanDetector" 261 (MethodName.mk "ScanDetector" "isBlocked" "(I)I")) ∈ wsG := gw_of (tb_3 1 rfl) rfl
theorem gw_546 : (Cond.methodLink "ScanDetector" 264 (MethodName.mk "ScanDetector" "seenDestinations" "(I)J")) ∈ wsG := gw_of (tb_3 2 rfl) rfl
theorem gw_547 : (Cond.methodLink "ScanDetector" 268 (MethodName.mk "ScanDetector" "blockedContacts" "(I)I")) ∈ wsG := gw_of (tb_3 3 rfl) rfl
theorem gw_548 : (Cond.methodLink "ScanDetector" 271 (MethodName.mk "ScanDetector" "wronglyBlocked" "(I)I")) ∈ wsG := gw_of (tb_3 4 rfl) rfl
theorem gw_549 : (Cond.methodLink "ScanDetector" 229 (MethodName.mk "ScanDetector" "hashAttempts" "(J)J")) ∈ wsG := gw_of (tb_3 5 rfl) rfl
theorem gw_551 : (Cond.instanceMethod (MethodName.mk "ScanDetector" "hashAttempts" "(J)J")) ∈ wsG := gw_of (tb_3 7 rfl) rfl
theorem gw_552 : (Cond.code (MethodName.mk "ScanDetector" "hashAttempts" "(J)J") prog_1_method_42_code 6 (Option.some FieldType.long)) ∈ wsG := gw_of (tb_3 8 rfl) rfl
theorem gw_553 : (Cond.methodLink "ScanDetector" 274 (MethodName.mk "ScanDetector" "describeAttempt" "(I)I")) ∈ wsG := gw_of (tb_3 9 rfl) rfl
theorem gw_554 : (Cond.methodLink "ScanDetector" 232 (MethodName.mk "ScanDetector" "hashVerdicts" "(J)J")) ∈ wsG := gw_of (tb_3 10 rfl) rfl
theorem gw_556 : (Cond.instanceMethod (MethodName.mk "ScanDetector" "hashVerdicts" "(J)J")) ∈ wsG := gw_of (tb_3 12 rfl) rfl
theorem gw_557 : (Cond.code (MethodName.mk "ScanDetector" "hashVerdicts" "(J)J") prog_1_method_43_code 6 (Option.some FieldType.long)) ∈ wsG := gw_of (tb_3 13 rfl) rfl
theorem gw_558 : (Cond.methodLink "ScanDetector" 277 (MethodName.mk "ScanDetector" "describeVerdict" "(I)I")) ∈ wsG := gw_of (tb_3 14 rfl) rfl
theorem gw_559 : (Cond.methodLink "ScanDetector" 235 (MethodName.mk "ScanDetector" "hashAnalysis" "(J)J")) ∈ wsG := gw_of (tb_3 15 rfl) rfl
theorem gw_561 : (Cond.instanceMethod (MethodName.mk "ScanDetector" "hashAnalysis" "(J)J")) ∈ wsG := gw_of (tb_3 17 rfl) rfl
theorem gw_562 : (Cond.code (MethodName.mk "ScanDetector" "hashAnalysis" "(J)J") prog_1_method_44_code 5 (Option.some FieldType.long)) ∈ wsG := gw_of (tb_3 18 rfl) rfl
theorem gw_563 : (Cond.methodLink "ScanDetector" 280 (MethodName.mk "ScanDetector" "countSequences" "(II)I")) ∈ wsG := gw_of (tb_3 19 rfl) rfl
theorem gw_564 : (Cond.methodLink "ScanDetector" 283 (MethodName.mk "ScanDetector" "scannerProbability" "(II)J")) ∈ wsG := gw_of (tb_3 20 rfl) rfl
theorem gw_565 : (Cond.methodLink "ScanDetector" 287 (MethodName.mk "ScanDetector" "expectedContacts" "(II)J")) ∈ wsG := gw_of (tb_3 21 rfl) rfl
theorem gw_566 : (Cond.methodLink "ScanDetector" 238 (MethodName.mk "ScanDetector" "hashInput" "(J)J")) ∈ wsG := gw_of (tb_3 22 rfl) rfl
theorem gw_568 : (Cond.instanceMethod (MethodName.mk "ScanDetector" "hashInput" "(J)J")) ∈ wsG := gw_of (tb_3 24 rfl) rfl
theorem gw_569 : (Cond.code (MethodName.mk "ScanDetector" "hashInput" "(J)J") prog_1_method_45_code 6 (Option.some FieldType.long)) ∈ wsG := gw_of (tb_3 25 rfl) rfl
theorem gw_570 : (Cond.classLink "ScanDetectorLaw" 10 "ScanDetectorModel") ∈ wsG := gw_of (tb_3 26 rfl) rfl
theorem gw_571 : (Cond.instantiable "ScanDetectorModel" 27) ∈ wsG := gw_of (tb_3 27 rfl) rfl
theorem gw_572 : (Cond.methodLink "ScanDetectorLaw" 12 (MethodName.mk "ScanDetectorModel" "<init>" "()V")) ∈ wsG := gw_of (tb_3 28 rfl) rfl
theorem gw_573 : (Cond.instanceMethod (MethodName.mk "ScanDetectorModel" "<init>" "()V")) ∈ wsG := gw_of (tb_3 29 rfl) rfl
theorem gw_574 : (Cond.code (MethodName.mk "ScanDetectorModel" "<init>" "()V") prog_8_method_1_code 1 none) ∈ wsG := gw_of (tb_3 30 rfl) rfl
theorem gw_575 : (Cond.methodLink "ScanDetectorModel" 1 (MethodName.mk "java/lang/Object" "<init>" "()V")) ∈ wsG := gw_of (tb_3 31 rfl) rfl
theorem gw_576 : (Cond.fieldLink "ScanDetectorModel" 7 "ScanDetectorModel" "cells" "I") ∈ wsG := gw_of (tb_3 32 rfl) rfl
theorem gw_577 : (Cond.fieldLink "ScanDetectorModel" 13 "ScanDetectorModel" "up" "I") ∈ wsG := gw_of (tb_3 33 rfl) rfl
theorem gw_578 : (Cond.fieldLink "ScanDetectorModel" 16 "ScanDetectorModel" "down" "I") ∈ wsG := gw_of (tb_3 34 rfl) rfl
theorem gw_579 : (Cond.fieldLink "ScanDetectorModel" 19 "ScanDetectorModel" "upper" "I") ∈ wsG := gw_of (tb_3 35 rfl) rfl
theorem gw_580 : (Cond.fieldLink "ScanDetectorModel" 22 "ScanDetectorModel" "lower" "I") ∈ wsG := gw_of (tb_3 36 rfl) rfl
theorem gw_581 : (Cond.fieldLink "ScanDetectorModel" 25 "ScanDetectorModel" "timeout" "I") ∈ wsG := gw_of (tb_3 37 rfl) rfl
theorem gw_582 : (Cond.fieldLink "ScanDetectorModel" 80 "ScanDetectorModel" "time" "I") ∈ wsG := gw_of (tb_3 38 rfl) rfl
theorem gw_583 : (Cond.fieldLink "ScanDetectorModel" 28 "ScanDetectorModel" "scores" "[I") ∈ wsG := gw_of (tb_3 39 rfl) rfl
theorem gw_584 : (Cond.fieldLink "ScanDetectorModel" 32 "ScanDetectorModel" "blocked" "[Z") ∈ wsG := gw_of (tb_3 40 rfl) rfl
theorem gw_585 : (Cond.fieldLink "ScanDetectorModel" 36 "ScanDetectorModel" "seen" "[J") ∈ wsG := gw_of (tb_3 41 rfl) rfl
theorem gw_586 : (Cond.fieldLink "ScanDetectorModel" 40 "ScanDetectorModel" "stopped" "[I") ∈ wsG := gw_of (tb_3 42 rfl) rfl
theorem gw_587 : (Cond.fieldLink "ScanDetectorModel" 43 "ScanDetectorModel" "wrong" "[I") ∈ wsG := gw_of (tb_3 43 rfl) rfl
theorem gw_588 : (Cond.fieldLink "ScanDetectorModel" 74 "ScanDetectorModel" "attempts" "I") ∈ wsG := gw_of (tb_3 44 rfl) rfl
theorem gw_589 : (Cond.fieldLink "ScanDetectorModel" 46 "ScanDetectorModel" "sourceOf" "[I") ∈ wsG := gw_of (tb_3 45 rfl) rfl
theorem gw_590 : (Cond.fieldLink "ScanDetectorModel" 49 "ScanDetectorModel" "destinationOf" "[I") ∈ wsG := gw_of (tb_3 46 rfl) rfl
theorem gw_591 : (Cond.fieldLink "ScanDetectorModel" 52 "ScanDetectorModel" "deadlineOf" "[I") ∈ wsG := gw_of (tb_3 47 rfl) rfl
theorem gw_592 : (Cond.fieldLink "ScanDetectorModel" 77 "ScanDetectorModel" "verdicts" "I") ∈ wsG := gw_of (tb_3 48 rfl) rfl
theorem gw_593 : (Cond.fieldLink "ScanDetectorModel" 55 "ScanDetectorModel" "latest" "[I") ∈ wsG := gw_of (tb_3 49 rfl) rfl
theorem gw_594 : (Cond.fieldLink "ScanDetectorModel" 133 "ScanDetectorModel" "length" "I") ∈ wsG := gw_of (tb_3 50 rfl) rfl
theorem gw_595 : (Cond.fieldLink "ScanDetectorModel" 58 "ScanDetectorModel" "buffer" "[I") ∈ wsG := gw_of (tb_3 51 rfl) rfl
theorem gw_596 : (Cond.fieldLink "ScanDetectorModel" 61 "ScanDetectorModel" "walks" "[I") ∈ wsG := gw_of (tb_3 52 rfl) rfl
theorem gw_597 : (Cond.fieldLink "ScanDetectorModel" 64 "ScanDetectorModel" "walksThen" "[I") ∈ wsG := gw_of (tb_3 53 rfl) rfl
theorem gw_598 : (Cond.fieldLink "ScanDetectorModel" 67 "ScanDetectorModel" "chance" "[D") ∈ wsG := gw_of (tb_3 54 rfl) rfl
theorem gw_599 : (Cond.fieldLink "ScanDetectorModel" 71 "ScanDetectorModel" "chanceThen" "[D") ∈ wsG := gw_of (tb_3 55 rfl) rfl
theorem gw_600 : (Cond.fieldLink "ScanDetectorModel" 151 "ScanDetectorModel" "scanned" "D") ∈ wsG := gw_of (tb_3 56 rfl) rfl
theorem gw_601 : (Cond.fieldLink "ScanDetectorModel" 155 "ScanDetectorModel" "awaited" "D") ∈ wsG := gw_of (tb_3 57 rfl) rfl
theorem gw_602 : (Cond.fieldLink "ScanDetectorModel" 188 "ScanDetectorModel" "hash" "J") ∈ wsG := gw_of (tb_3 58 rfl) rfl
theorem gw_603 : (Cond.lays "ScanDetectorModel" "ScanDetectorModel" "cells" "I") ∈ wsG := gw_of (tb_3 59 rfl) rfl
theorem gw_604 : (Cond.soleField "ScanDetectorModel" "cells") ∈ wsG := gw_of (tb_3 60 rfl) rfl
theorem gw_605 : (Cond.lays "ScanDetectorModel" "ScanDetectorModel" "up" "I") ∈ wsG := gw_of (tb_3 61 rfl) rfl
theorem gw_606 : (Cond.soleField "ScanDetectorModel" "up") ∈ wsG := gw_of (tb_3 62 rfl) rfl
theorem gw_607 : (Cond.lays "ScanDetectorModel" "ScanDetectorModel" "down" "I") ∈ wsG := gw_of (tb_3 63 rfl) rfl
theorem gw_608 : (Cond.soleField "ScanDetectorModel" "down") ∈ wsG := gw_of (tb_3 64 rfl) rfl
theorem gw_609 : (Cond.lays "ScanDetectorModel" "ScanDetectorModel" "upper" "I") ∈ wsG := gw_of (tb_3 65 rfl) rfl
theorem gw_610 : (Cond.soleField "ScanDetectorModel" "upper") ∈ wsG := gw_of (tb_3 66 rfl) rfl
theorem gw_611 : (Cond.lays "ScanDetectorModel" "ScanDetectorModel" "lower" "I") ∈ wsG := gw_of (tb_3 67 rfl) rfl
theorem gw_612 : (Cond.soleField "ScanDetectorModel" "lower") ∈ wsG := gw_of (tb_3 68 rfl) rfl
theorem gw_613 : (Cond.lays "ScanDetectorModel" "ScanDetectorModel" "timeout" "I") ∈ wsG := gw_of (tb_3 69 rfl) rfl
theorem gw_614 : (Cond.soleField "ScanDetectorModel" "timeout") ∈ wsG := gw_of (tb_3 70 rfl) rfl
theorem gw_615 : (Cond.lays "ScanDetectorModel" "ScanDetectorModel" "time" "I") ∈ wsG := gw_of (tb_3 71 rfl) rfl
theorem gw_616 : (Cond.soleField "ScanDetectorModel" "time") ∈ wsG := gw_of (tb_3 72 rfl) rfl
theorem gw_617 : (Cond.laysFinal "ScanDetectorModel" "ScanDetectorModel" "scores" "[I") ∈ wsG := gw_of (tb_3 73 rfl) rfl
theorem gw_618 : (Cond.soleField "ScanDetectorModel" "scores") ∈ wsG := gw_of (tb_3 74 rfl) rfl
theorem gw_619 : (Cond.laysFinal "ScanDetectorModel" "ScanDetectorModel" "blocked" "[Z") ∈ wsG := gw_of (tb_3 75 rfl) rfl
theorem gw_620 : (Cond.soleField "ScanDetectorModel" "blocked") ∈ wsG := gw_of (tb_3 76 rfl) rfl
theorem gw_621 : (Cond.laysFinal "ScanDetectorModel" "ScanDetectorModel" "seen" "[J") ∈ wsG := gw_of (tb_3 77 rfl) rfl
theorem gw_622 : (Cond.soleField "ScanDetectorModel" "seen") ∈ wsG := gw_of (tb_3 78 rfl) rfl
theorem gw_623 : (Cond.laysFinal "ScanDetectorModel" "ScanDetectorModel" "stopped" "[I") ∈ wsG := gw_of (tb_3 79 rfl) rfl
theorem gw_624 : (Cond.soleField "ScanDetectorModel" "stopped") ∈ wsG := gw_of (tb_3 80 rfl) rfl
theorem gw_625 : (Cond.laysFinal "ScanDetectorModel" "ScanDetectorModel" "wrong" "[I") ∈ wsG := gw_of (tb_3 81 rfl) rfl
theorem gw_626 : (Cond.soleField "ScanDetectorModel" "wrong") ∈ wsG := gw_of (tb_3 82 rfl) rfl
theorem gw_627 : (Cond.lays "ScanDetectorModel" "ScanDetectorModel" "attempts" "I") ∈ wsG := gw_of (tb_3 83 rfl) rfl
theorem gw_628 : (Cond.soleField "ScanDetectorModel" "attempts") ∈ wsG := gw_of (tb_3 84 rfl) rfl
theorem gw_629 : (Cond.laysFinal "ScanDetectorModel" "ScanDetectorModel" "sourceOf" "[I") ∈ wsG := gw_of (tb_3 85 rfl) rfl
theorem gw_630 : (Cond.soleField "ScanDetectorModel" "sourceOf") ∈ wsG := gw_of (tb_3 86 rfl) rfl
theorem gw_631 : (Cond.laysFinal "ScanDetectorModel" "ScanDetectorModel" "destinationOf" "[I") ∈ wsG := gw_of (tb_3 87 rfl) rfl
theorem gw_632 : (Cond.soleField "ScanDetectorModel" "destinationOf") ∈ wsG := gw_of (tb_3 88 rfl) rfl
theorem gw_633 : (Cond.laysFinal "ScanDetectorModel" "ScanDetectorModel" "deadlineOf" "[I") ∈ wsG := gw_of (tb_3 89 rfl) rfl
theorem gw_634 : (Cond.soleField "ScanDetectorModel" "deadlineOf") ∈ wsG := gw_of (tb_3 90 rfl) rfl
theorem gw_635 : (Cond.lays "ScanDetectorModel" "ScanDetectorModel" "verdicts" "I") ∈ wsG := gw_of (tb_3 91 rfl) rfl
theorem gw_636 : (Cond.soleField "ScanDetectorModel" "verdicts") ∈ wsG := gw_of (tb_3 92 rfl) rfl
theorem gw_637 : (Cond.laysFinal "ScanDetectorModel" "ScanDetectorModel" "latest" "[I") ∈ wsG := gw_of (tb_3 93 rfl) rfl
theorem gw_638 : (Cond.soleField "ScanDetectorModel" "latest") ∈ wsG := gw_of (tb_3 94 rfl) rfl
theorem gw_639 : (Cond.lays "ScanDetectorModel" "ScanDetectorModel" "length" "I") ∈ wsG := gw_of (tb_3 95 rfl) rfl
theorem gw_640 : (Cond.soleField "ScanDetectorModel" "length") ∈ wsG := gw_of (tb_3 96 rfl) rfl
theorem gw_641 : (Cond.laysFinal "ScanDetectorModel" "ScanDetectorModel" "buffer" "[I") ∈ wsG := gw_of (tb_3 97 rfl) rfl
theorem gw_642 : (Cond.soleField "ScanDetectorModel" "buffer") ∈ wsG := gw_of (tb_3 98 rfl) rfl
theorem gw_643 : (Cond.laysFinal "ScanDetectorModel" "ScanDetectorModel" "walks" "[I") ∈ wsG := gw_of (tb_3 99 rfl) rfl
theorem gw_644 : (Cond.soleField "ScanDetectorModel" "walks") ∈ wsG := gw_of (tb_3 100 rfl) rfl
theorem gw_645 : (Cond.laysFinal "ScanDetectorModel" "ScanDetectorModel" "walksThen" "[I") ∈ wsG := gw_of (tb_3 101 rfl) rfl
theorem gw_646 : (Cond.soleField "ScanDetectorModel" "walksThen") ∈ wsG := gw_of (tb_3 102 rfl) rfl
theorem gw_647 : (Cond.laysFinal "ScanDetectorModel" "ScanDetectorModel" "chance" "[D") ∈ wsG := gw_of (tb_3 103 rfl) rfl
theorem gw_648 : (Cond.soleField "ScanDetectorModel" "chance") ∈ wsG := gw_of (tb_3 104 rfl) rfl
theorem gw_649 : (Cond.laysFinal "ScanDetectorModel" "ScanDetectorModel" "chanceThen" "[D") ∈ wsG := gw_of (tb_3 105 rfl) rfl
theorem gw_650 : (Cond.soleField "ScanDetectorModel" "chanceThen") ∈ wsG := gw_of (tb_3 106 rfl) rfl
theorem gw_651 : (Cond.lays "ScanDetectorModel" "ScanDetectorModel" "scanned" "D") ∈ wsG := gw_of (tb_3 107 rfl) rfl
theorem gw_652 : (Cond.soleField "ScanDetectorModel" "scanned") ∈ wsG := gw_of (tb_3 108 rfl) rfl
theorem gw_653 : (Cond.lays "ScanDetectorModel" "ScanDetectorModel" "awaited" "D") ∈ wsG := gw_of (tb_3 109 rfl) rfl
theorem gw_654 : (Cond.soleField "ScanDetectorModel" "awaited") ∈ wsG := gw_of (tb_3 110 rfl) rfl
theorem gw_655 : (Cond.lays "ScanDetectorModel" "ScanDetectorModel" "hash" "J") ∈ wsG := gw_of (tb_3 111 rfl) rfl
theorem gw_656 : (Cond.soleField "ScanDetectorModel" "hash") ∈ wsG := gw_of (tb_3 112 rfl) rfl
theorem gw_657 : (Cond.superclass "ScanDetectorModel" "java/lang/Object") ∈ wsG := gw_of (tb_3 113 rfl) rfl
theorem gw_658 : (Cond.arrayClass FieldType.boolean) ∈ wsG := gw_of (tb_3 114 rfl) rfl
theorem gw_659 : (Cond.arrayClass FieldType.long) ∈ wsG := gw_of (tb_3 115 rfl) rfl
theorem gw_660 : (Cond.methodLink "ScanDetectorLaw" 17 (MethodName.mk "ScanDetectorModel" "configure" "(IIII)I")) ∈ wsG := gw_of (tb_3 116 rfl) rfl
theorem gw_661 : (Cond.instanceMethod (MethodName.mk "ScanDetectorModel" "configure" "(IIII)I")) ∈ wsG := gw_of (tb_3 117 rfl) rfl
theorem gw_662 : (Cond.selects "ScanDetectorModel" (MethodName.mk "ScanDetectorModel" "configure" "(IIII)I") (MethodName.mk "ScanDetectorModel" "configure" "(IIII)I")) ∈ wsG := gw_of (tb_3 118 rfl) rfl
theorem gw_663 : (Cond.code (MethodName.mk "ScanDetectorModel" "configure" "(IIII)I") prog_8_method_5_code 5 (Option.some FieldType.int)) ∈ wsG := gw_of (tb_3 119 rfl) rfl
theorem gw_664 : (Cond.methodLink "ScanDetectorModel" 83 (MethodName.mk "ScanDetectorModel" "within" "(III)Z")) ∈ wsG := gw_of (tb_3 120 rfl) rfl
theorem gw_665 : (Cond.static (MethodName.mk "ScanDetectorModel" "within" "(III)Z")) ∈ wsG := gw_of (tb_3 121 rfl) rfl
theorem gw_666 : (Cond.code (MethodName.mk "ScanDetectorModel" "within" "(III)Z") prog_8_method_3_code 3 (Option.some FieldType.boolean)) ∈ wsG := gw_of (tb_3 122 rfl) rfl
theorem gw_667 : (Cond.methodLink "ScanDetectorModel" 87 (MethodName.mk "ScanDetectorModel" "reset" "()V")) ∈ wsG := gw_of (tb_3 123 rfl) rfl
theorem gw_669 : (Cond.instanceMethod (MethodName.mk "ScanDetectorModel" "reset" "()V")) ∈ wsG := gw_of (tb_3 125 rfl) rfl
theorem gw_670 : (Cond.code (MethodName.mk "ScanDetectorModel" "reset" "()V") prog_8_method_4_code 2 none) ∈ wsG := gw_of (tb_3 126 rfl) rfl
theorem gw_671 : (Cond.methodLink "ScanDetectorLaw" 22 (MethodName.mk "ScanDetectorModel" "setCells" "(I)I")) ∈ wsG := gw_of (tb_3 127 rfl) rfl
theorem gw_672 : (Cond.instanceMethod (MethodName.mk "ScanDetectorModel" "setCells" "(I)I")) ∈ wsG := gw_of (tb_3 128 rfl) rfl
theorem gw_673 : (Cond.selects "ScanDetectorModel" (MethodName.mk "ScanDetectorModel" "setCells" "(I)I") (MethodName.mk "ScanDetectorModel" "setCells" "(I)I")) ∈ wsG := gw_of (tb_3 129 rfl) rfl
theorem gw_674 : (Cond.code (MethodName.mk "ScanDetectorModel" "setCells" "(I)I") prog_8_method_6_code 3 (Option.some FieldType.int)) ∈ wsG := gw_of (tb_3 130 rfl) rfl
theorem gw_675 : (Cond.methodLink "ScanDetectorLaw" 26 (MethodName.mk "ScanDetectorModel" "setTimeout" "(I)I")) ∈ wsG := gw_of (tb_3 131 rfl) rfl
theorem gw_676 : (Cond.instanceMethod (MethodName.mk "ScanDetectorModel" "setTimeout" "(I)I")) ∈ wsG := gw_of (tb_3 132 rfl) rfl
theorem gw_677 : (Cond.selects "ScanDetectorModel" (MethodName.mk "ScanDetectorModel" "setTimeout" "(I)I") (MethodName.mk "ScanDetectorModel" "setTimeout" "(I)I")) ∈ wsG := gw_of (tb_3 133 rfl) rfl
theorem gw_678 : (Cond.code (MethodName.mk "ScanDetectorModel" "setTimeout" "(I)I") prog_8_method_7_code 3 (Option.some FieldType.int)) ∈ wsG := gw_of (tb_3 134 rfl) rfl
theorem gw_679 : (Cond.methodLink "ScanDetectorLaw" 31 (MethodName.mk "ScanDetectorModel" "connect" "(IIZ)I")) ∈ wsG := gw_of (tb_3 135 rfl) rfl
theorem gw_680 : (Cond.instanceMethod (MethodName.mk "ScanDetectorModel" "connect" "(IIZ)I")) ∈ wsG := gw_of (tb_3 136 rfl) rfl
theorem gw_681 : (Cond.selects "ScanDetectorModel" (MethodName.mk "ScanDetectorModel" "connect" "(IIZ)I") (MethodName.mk "ScanDetectorModel" "connect" "(IIZ)I")) ∈ wsG := gw_of (tb_3 137 rfl) rfl
theorem gw_682 : (Cond.code (MethodName.mk "ScanDetectorModel" "connect" "(IIZ)I") prog_8_method_16_code 4 (Option.some FieldType.int)) ∈ wsG := gw_of (tb_3 138 rfl) rfl
theorem gw_683 : (Cond.methodLink "ScanDetectorModel" 109 (MethodName.mk "ScanDetectorModel" "isSource" "(I)Z")) ∈ wsG := gw_of (tb_3 139 rfl) rfl
theorem gw_684 : (Cond.static (MethodName.mk "ScanDetectorModel" "isSource" "(I)Z")) ∈ wsG := gw_of (tb_3 140 rfl) rfl
theorem gw_685 : (Cond.code (MethodName.mk "ScanDetectorModel" "isSource" "(I)Z") prog_8_method_8_code 1 (Option.some FieldType.boolean)) ∈ wsG := gw_of (tb_3 141 rfl) rfl
theorem gw_686 : (Cond.methodLink "ScanDetectorModel" 113 (MethodName.mk "ScanDetectorModel" "isDestination" "(I)Z")) ∈ wsG := gw_of (tb_3 142 rfl) rfl
theorem gw_687 : (Cond.static (MethodName.mk "ScanDetectorModel" "isDestination" "(I)Z")) ∈ wsG := gw_of (tb_3 143 rfl) rfl
theorem gw_688 : (Cond.code (MethodName.mk "ScanDetectorModel" "isDestination" "(I)Z") prog_8_method_9_code 1 (Option.some FieldType.boolean)) ∈ wsG := gw_of (tb_3 144 rfl) rfl
theorem gw_689 : (Cond.methodLink "ScanDetectorModel" 116 (MethodName.mk "ScanDetectorModel" "connectNow" "(IIZ)I")) ∈ wsG := gw_of (tb_3 145 rfl) rfl
theorem gw_691 : (Cond.instanceMethod (MethodName.mk "ScanDetectorModel" "connectNow" "(IIZ)I")) ∈ wsG := gw_of (tb_3 147 rfl) rfl
theorem gw_692 : (Cond.code (MethodName.mk "ScanDetectorModel" "connectNow" "(IIZ)I") prog_8_method_15_code 5 (Option.some FieldType.int)) ∈ wsG := gw_of (tb_3 148 rfl) rfl
theorem gw_693 : (Cond.methodLink "ScanDetectorModel" 101 (MethodName.mk "ScanDetectorModel" "isSeen" "(II)Z")) ∈ wsG := gw_of (tb_3 149 rfl) rfl
theorem gw_695 : (Cond.instanceMethod (MethodName.mk "ScanDetectorModel" "isSeen" "(II)Z")) ∈ wsG := gw_of (tb_3 151 rfl) rfl
theorem gw_696 : (Cond.code (MethodName.mk "ScanDetectorModel" "isSeen" "(II)Z") prog_8_method_14_code 3 (Option.some FieldType.boolean)) ∈ wsG := gw_of (tb_3 152 rfl) rfl
theorem gw_697 : (Cond.methodLink "ScanDetectorModel" 105 (MethodName.mk "ScanDetectorModel" "count" "(IZ)I")) ∈ wsG := gw_of (tb_3 153 rfl) rfl
theorem gw_699 : (Cond.instanceMethod (MethodName.mk "ScanDetectorModel" "count" "(IZ)I")) ∈ wsG := gw_of (tb_3 155 rfl) rfl
theorem gw_700 : (Cond.code (MethodName.mk "ScanDetectorModel" "count" "(IZ)I") prog_8_method_13_code 3 (Option.some FieldType.int)) ∈ wsG := gw_of (tb_3 156 rfl) rfl
theorem gw_701 : (Cond.methodLink "ScanDetectorModel" 94 (MethodName.mk "ScanDetectorModel" "dropAllOf" "(I)V")) ∈ wsG := gw_of (tb_3 157 rfl) rfl
theorem gw_703 : (Cond.instanceMethod (MethodName.mk "ScanDetectorModel" "dropAllOf" "(I)V")) ∈ wsG := gw_of (tb_3 159 rfl) rfl
theorem gw_704 : (Cond.code (MethodName.mk "ScanDetectorModel" "dropAllOf" "(I)V") prog_8_method_11_code 3 none) ∈ wsG := gw_of (tb_3 160 rfl) rfl
theorem gw_705 : (Cond.methodLink "ScanDetectorModel" 90 (MethodName.mk "ScanDetectorModel" "drop" "(I)V")) ∈ wsG := gw_of (tb_3 161 rfl) rfl
theorem gw_707 : (Cond.instanceMethod (MethodName.mk "ScanDetectorModel" "drop" "(I)V")) ∈ wsG := gw_of (tb_3 163 rfl) rfl
theorem gw_708 : (Cond.code (MethodName.mk "ScanDetectorModel" "drop" "(I)V") prog_8_method_10_code 3 none) ∈ wsG := gw_of (tb_3 164 rfl) rfl
theorem gw_709 : (Cond.methodLink "ScanDetectorModel" 97 (MethodName.mk "ScanDetectorModel" "decide" "(II)I")) ∈ wsG := gw_of (tb_3 165 rfl) rfl
theorem gw_711 : (Cond.instanceMethod (MethodName.mk "ScanDetectorModel" "decide" "(II)I")) ∈ wsG := gw_of (tb_3 167 rfl) rfl
theorem gw_712 : (Cond.code (MethodName.mk "ScanDetectorModel" "decide" "(II)I") prog_8_method_12_code 4 (Option.some FieldType.int)) ∈ wsG := gw_of (tb_3 168 rfl) rfl
theorem gw_713 : (Cond.methodLink "ScanDetectorLaw" 36 (MethodName.mk "ScanDetectorModel" "attempt" "(II)I")) ∈ wsG := gw_of (tb_3 169 rfl) rfl
theorem gw_714 : (Cond.instanceMethod (MethodName.mk "ScanDetectorModel" "attempt" "(II)I")) ∈ wsG := gw_of (tb_3 170 rfl) rfl
theorem gw_715 : (Cond.selects "ScanDetectorModel" (MethodName.mk "ScanDetectorModel" "attempt" "(II)I") (MethodName.mk "ScanDetectorModel" "attempt" "(II)I")) ∈ wsG := gw_of (tb_3 171 rfl) rfl
theorem gw_716 : (Cond.code (MethodName.mk "ScanDetectorModel" "attempt" "(II)I") prog_8_method_18_code 3 (Option.some FieldType.int)) ∈ wsG := gw_of (tb_3 172 rfl) rfl
theorem gw_717 : (Cond.methodLink "ScanDetectorModel" 120 (MethodName.mk "ScanDetectorModel" "attemptNow" "(II)I")) ∈ wsG := gw_of (tb_3 173 rfl) rfl
theorem gw_719 : (Cond.instanceMethod (MethodName.mk "ScanDetectorModel" "attemptNow" "(II)I")) ∈ wsG := gw_of (tb_3 175 rfl) rfl
theorem gw_720 : (Cond.code (MethodName.mk "ScanDetectorModel" "attemptNow" "(II)I") prog_8_method_17_code 4 (Option.some FieldType.int)) ∈ wsG := gw_of (tb_3 176 rfl) rfl
theorem gw_721 : (Cond.methodLink "ScanDetectorLaw" 40 (MethodName.mk "ScanDetectorModel" "answer" "(II)I")) ∈ wsG := gw_of (tb_3 177 rfl) rfl
theorem gw_722 : (Cond.instanceMethod (MethodName.mk "ScanDetectorModel" "answer" "(II)I")) ∈ wsG := gw_of (tb_3 178 rfl) rfl
theorem gw_723 : (Cond.selects "ScanDetectorModel" (MethodName.mk "ScanDetectorModel" "answer" "(II)I") (MethodName.mk "ScanDetectorModel" "answer" "(II)I")) ∈ wsG := gw_of (tb_3 179 rfl) rfl
theorem gw_724 : (Cond.code (MethodName.mk "ScanDetectorModel" "answer" "(II)I") prog_8_method_19_code 4 (Option.some FieldType.int)) ∈ wsG := gw_of (tb_3 180 rfl) rfl
theorem gw_725 : (Cond.methodLink "ScanDetectorLaw" 44 (MethodName.mk "ScanDetectorModel" "advance" "(I)I")) ∈ wsG := gw_of (tb_3 181 rfl) rfl
theorem gw_726 : (Cond.instanceMethod (MethodName.mk "ScanDetectorModel" "advance" "(I)I")) ∈ wsG := gw_of (tb_3 182 rfl) rfl
theorem gw_727 : (Cond.selects "ScanDetectorModel" (MethodName.mk "ScanDetectorModel" "advance" "(I)I") (MethodName.mk "ScanDetectorModel" "advance" "(I)I")) ∈ wsG := gw_of (tb_3 183 rfl) rfl
theorem gw_728 : (Cond.code (MethodName.mk "ScanDetectorModel" "advance" "(I)I") prog_8_method_22_code 4 (Option.some FieldType.int)) ∈ wsG := gw_of (tb_3 184 rfl) rfl
theorem gw_729 : (Cond.methodLink "ScanDetectorModel" 127 (MethodName.mk "ScanDetectorModel" "tick" "()I")) ∈ wsG := gw_of (tb_3 185 rfl) rfl
theorem gw_731 : (Cond.instanceMethod (MethodName.mk "ScanDetectorModel" "tick" "()I")) ∈ wsG := gw_of (tb_3 187 rfl) rfl
theorem gw_732 : (Cond.code (MethodName.mk "ScanDetectorModel" "tick" "()I") prog_8_method_21_code 4 (Option.some FieldType.int)) ∈ wsG := gw_of (tb_3 188 rfl) rfl
theorem gw_733 : (Cond.methodLink "ScanDetectorModel" 123 (MethodName.mk "ScanDetectorModel" "due" "()I")) ∈ wsG := gw_of (tb_3 189 rfl) rfl
theorem gw_735 : (Cond.instanceMethod (MethodName.mk "ScanDetectorModel" "due" "()I")) ∈ wsG := gw_of (tb_3 191 rfl) rfl
theorem gw_736 : (Cond.code (MethodName.mk "ScanDetectorModel" "due" "()I") prog_8_method_20_code 2 (Option.some FieldType.int)) ∈ wsG := gw_of (tb_3 192 rfl) rfl
theorem gw_737 : (Cond.methodLink "ScanDetectorLaw" 48 (MethodName.mk "ScanDetectorModel" "unblock" "(I)I")) ∈ wsG := gw_of (tb_3 193 rfl) rfl
theorem gw_738 : (Cond.instanceMethod (MethodName.mk "ScanDetectorModel" "unblock" "(I)I")) ∈ wsG := gw_of (tb_3 194 rfl) rfl
theorem gw_739 : (Cond.selects "ScanDetectorModel" (MethodName.mk "ScanDetectorModel" "unblock" "(I)I") (MethodName.mk "ScanDetectorModel" "unblock" "(I)I")) ∈ wsG := gw_of (tb_3 195 rfl) rfl
theorem gw_740 : (Cond.code (MethodName.mk "ScanDetectorModel" "unblock" "(I)I") prog_8_method_24_code 3 (Option.some FieldType.int)) ∈ wsG := gw_of (tb_3 196 rfl) rfl
theorem gw_741 : (Cond.methodLink "ScanDetectorModel" 130 (MethodName.mk "ScanDetectorModel" "isCell" "(I)Z")) ∈ wsG := gw_of (tb_3 197 rfl) rfl
theorem gw_743 : (Cond.instanceMethod (MethodName.mk "ScanDetectorModel" "isCell" "(I)Z")) ∈ wsG := gw_of (tb_3 199 rfl) rfl
theorem gw_744 : (Cond.code (MethodName.mk "ScanDetectorModel" "isCell" "(I)Z") prog_8_method_23_code 2 (Option.some FieldType.boolean)) ∈ wsG := gw_of (tb_3 200 rfl) rfl
theorem gw_745 : (Cond.methodLink "ScanDetectorLaw" 52 (MethodName.mk "ScanDetectorModel" "append" "(I)I")) ∈ wsG := gw_of (tb_3 201 rfl) rfl
theorem gw_746 : (Cond.instanceMethod (MethodName.mk "ScanDetectorModel" "append" "(I)I")) ∈ wsG := gw_of (tb_3 202 rfl) rfl
theorem gw_747 : (Cond.selects "ScanDetectorModel" (MethodName.mk "ScanDetectorModel" "append" "(I)I") (MethodName.mk "ScanDetectorModel" "append" "(I)I")) ∈ wsG := gw_of (tb_3 203 rfl) rfl
theorem gw_748 : (Cond.code (MethodName.mk "ScanDetectorModel" "append" "(I)I") prog_8_method_25_code 2 (Option.some FieldType.int)) ∈ wsG := gw_of (tb_3 204 rfl) rfl
theorem gw_749 : (Cond.methodLink "ScanDetectorLaw" 57 (MethodName.mk "ScanDetectorModel" "clearInput" "()I")) ∈ wsG := gw_of (tb_3 205 rfl) rfl
theorem gw_750 : (Cond.instanceMethod (MethodName.mk "ScanDetectorModel" "clearInput" "()I")) ∈ wsG := gw_of (tb_3 206 rfl) rfl
theorem gw_751 : (Cond.selects "ScanDetectorModel" (MethodName.mk "ScanDetectorModel" "clearInput" "()I") (MethodName.mk "ScanDetectorModel" "clearInput" "()I")) ∈ wsG := gw_of (tb_3 207 rfl) rfl
theorem gw_752 : (Cond.code (MethodName.mk "ScanDetectorModel" "clearInput" "()I") prog_8_method_26_code 2 (Option.some FieldType.int)) ∈ wsG := gw_of (tb_3 208 rfl) rfl
theorem gw_753 : (Cond.methodLink "ScanDetectorLaw" 61 (MethodName.mk "ScanDetectorModel" "firstError" "()I")) ∈ wsG := gw_of (tb_3 209 rfl) rfl
theorem gw_754 : (Cond.instanceMethod (MethodName.mk "ScanDetectorModel" "firstError" "()I")) ∈ wsG := gw_of (tb_3 210 rfl) rfl
theorem gw_755 : (Cond.selects "ScanDetectorModel" (MethodName.mk "ScanDetectorModel" "firstError" "()I") (MethodName.mk "ScanDetectorModel" "firstError" "()I")) ∈ wsG := gw_of (tb_3 211 rfl) rfl
theorem gw_756 : (Cond.code (MethodName.mk "ScanDetectorModel" "firstError" "()I") prog_8_method_29_code 1 (Option.some FieldType.int)) ∈ wsG := gw_of (tb_3 212 rfl) rfl
theorem gw_757 : (Cond.methodLink "ScanDetectorModel" 139 (MethodName.mk "ScanDetectorModel" "rightLength" "()I")) ∈ wsG := gw_of (tb_3 213 rfl) rfl
theorem gw_759 : (Cond.instanceMethod (MethodName.mk "ScanDetectorModel" "rightLength" "()I")) ∈ wsG := gw_of (tb_3 215 rfl) rfl
theorem gw_760 : (Cond.code (MethodName.mk "ScanDetectorModel" "rightLength" "()I") prog_8_method_28_code 2 (Option.some FieldType.int)) ∈ wsG := gw_of (tb_3 216 rfl) rfl
theorem gw_761 : (Cond.methodLink "ScanDetectorModel" 136 (MethodName.mk "ScanDetectorModel" "isRight" "(I)Z")) ∈ wsG := gw_of (tb_3 217 rfl) rfl
theorem gw_763 : (Cond.instanceMethod (MethodName.mk "ScanDetectorModel" "isRight" "(I)Z")) ∈ wsG := gw_of (tb_3 219 rfl) rfl
theorem gw_764 : (Cond.code (MethodName.mk "ScanDetectorModel" "isRight" "(I)Z") prog_8_method_27_code 3 (Option.some FieldType.boolean)) ∈ wsG := gw_of (tb_3 220 rfl) rfl
theorem gw_765 : (Cond.methodLink "ScanDetectorLaw" 65 (MethodName.mk "ScanDetectorModel" "runInput" "()I")) ∈ wsG := gw_of (tb_3 221 rfl) rfl
theorem gw_766 : (Cond.instanceMethod (MethodName.mk "ScanDetectorModel" "runInput" "()I")) ∈ wsG := gw_of (tb_3 222 rfl) rfl
theorem gw_767 : (Cond.selects "ScanDetectorModel" (MethodName.mk "ScanDetectorModel" "runInput" "()I") (MethodName.mk "ScanDetectorModel" "runInput" "()I")) ∈ wsG := gw_of (tb_3 223 rfl) rfl
theorem gw_768 : (Cond.code (MethodName.mk "ScanDetectorModel" "runInput" "()I") prog_8_method_30_code 5 (Option.some FieldType.int)) ∈ wsG := gw_of (tb_3 224 rfl) rfl
theorem gw_769 : (Cond.methodLink "ScanDetectorLaw" 69 (MethodName.mk "ScanDetectorModel" "cellOf" "(I)I")) ∈ wsG := gw_of (tb_3 225 rfl) rfl
theorem gw_770 : (Cond.instanceMethod (MethodName.mk "ScanDetectorModel" "cellOf" "(I)I")) ∈ wsG := gw_of (tb_3 226 rfl) rfl
theorem gw_771 : (Cond.selects "ScanDetectorModel" (MethodName.mk "ScanDetectorModel" "cellOf" "(I)I") (MethodName.mk "ScanDetectorModel" "cellOf" "(I)I")) ∈ wsG := gw_of (tb_3 227 rfl) rfl
theorem gw_772 : (Cond.code (MethodName.mk "ScanDetectorModel" "cellOf" "(I)I") prog_8_method_31_code 2 (Option.some FieldType.int)) ∈ wsG := gw_of (tb_3 228 rfl) rfl
theorem gw_773 : (Cond.methodLink "ScanDetectorLaw" 73 (MethodName.mk "ScanDetectorModel" "score" "(I)I")) ∈ wsG := gw_of (tb_3 229 rfl) rfl
theorem gw_774 : (Cond.instanceMethod (MethodName.mk "ScanDetectorModel" "score" "(I)I")) ∈ wsG := gw_of (tb_3 230 rfl) rfl
theorem gw_775 : (Cond.selects "ScanDetectorModel" (MethodName.mk "ScanDetectorModel" "score" "(I)I") (MethodName.mk "ScanDetectorModel" "score" "(I)I")) ∈ wsG := gw_of (tb_3 231 rfl) rfl
theorem gw_776 : (Cond.code (MethodName.mk "ScanDetectorModel" "score" "(I)I") prog_8_method_32_code 2 (Option.some FieldType.int)) ∈ wsG := gw_of (tb_3 232 rfl) rfl
theorem gw_777 : (Cond.methodLink "ScanDetectorLaw" 77 (MethodName.mk "ScanDetectorModel" "isBlocked" "(I)I")) ∈ wsG := gw_of (tb_3 233 rfl) rfl
theorem gw_778 : (Cond.instanceMethod (MethodName.mk "ScanDetectorModel" "isBlocked" "(I)I")) ∈ wsG := gw_of (tb_3 234 rfl) rfl
theorem gw_779 : (Cond.selects "ScanDetectorModel" (MethodName.mk "ScanDetectorModel" "isBlocked" "(I)I") (MethodName.mk "ScanDetectorModel" "isBlocked" "(I)I")) ∈ wsG := gw_of (tb_3 235 rfl) rfl
theorem gw_780 : (Cond.code (MethodName.mk "ScanDetectorModel" "isBlocked" "(I)I") prog_8_method_33_code 2 (Option.some FieldType.int)) ∈ wsG := gw_of (tb_3 236 rfl) rfl
theorem gw_781 : (Cond.methodLink "ScanDetectorLaw" 82 (MethodName.mk "ScanDetectorModel" "seenDestinations" "(I)J")) ∈ wsG := gw_of (tb_3 237 rfl) rfl
theorem gw_782 : (Cond.instanceMethod (MethodName.mk "ScanDetectorModel" "seenDestinations" "(I)J")) ∈ wsG := gw_of (tb_3 238 rfl) rfl
theorem gw_783 : (Cond.selects "ScanDetectorModel" (MethodName.mk "ScanDetectorModel" "seenDestinations" "(I)J") (MethodName.mk "ScanDetectorModel" "seenDestinations" "(I)J")) ∈ wsG := gw_of (tb_3 239 rfl) rfl
theorem gw_784 : (Cond.code (MethodName.mk "ScanDetectorModel" "seenDestinations" "(I)J") prog_8_method_34_code 2 (Option.some FieldType.long)) ∈ wsG := gw_of (tb_4 0 rfl) rfl
theorem gw_785 : (Cond.constantLong "ScanDetectorModel" 142 (-107 : Int64)) ∈ wsG := gw_of (tb_4 1 rfl) rfl
theorem gw_786 : (Cond.methodLink "ScanDetectorLaw" 86 (MethodName.mk "ScanDetectorModel" "blockedContacts" "(I)I")) ∈ wsG := gw_of (tb_4 2 rfl) rfl
theorem gw_787 : (Cond.instanceMethod (MethodName.mk "ScanDetectorModel" "blockedContacts" "(I)I")) ∈ wsG := gw_of (tb_4 3 rfl) rfl
theorem gw_788 : (Cond.selects "ScanDetectorModel" (MethodName.mk "ScanDetectorModel" "blockedContacts" "(I)I") (MethodName.mk "ScanDetectorModel" "blockedContacts" "(I)I")) ∈ wsG := gw_of (tb_4 4 rfl) rfl
theorem gw_789 : (Cond.code (MethodName.mk "ScanDetectorModel" "blockedContacts" "(I)I") prog_8_method_35_code 2 (Option.some FieldType.int)) ∈ wsG := gw_of (tb_4 5 rfl) rfl
theorem gw_790 : (Cond.methodLink "ScanDetectorLaw" 90 (MethodName.mk "ScanDetectorModel" "wronglyBlocked" "(I)I")) ∈ wsG := gw_of (tb_4 6 rfl) rfl
theorem gw_791 : (Cond.instanceMethod (MethodName.mk "ScanDetectorModel" "wronglyBlocked" "(I)I")) ∈ wsG := gw_of (tb_4 7 rfl) rfl
theorem gw_792 : (Cond.selects "ScanDetectorModel" (MethodName.mk "ScanDetectorModel" "wronglyBlocked" "(I)I") (MethodName.mk "ScanDetectorModel" "wronglyBlocked" "(I)I")) ∈ wsG := gw_of (tb_4 8 rfl) rfl
theorem gw_793 : (Cond.code (MethodName.mk "ScanDetectorModel" "wronglyBlocked" "(I)I") prog_8_method_36_code 2 (Option.some FieldType.int)) ∈ wsG := gw_of (tb_4 9 rfl) rfl
theorem gw_794 : (Cond.methodLink "ScanDetectorLaw" 94 (MethodName.mk "ScanDetectorModel" "attemptCount" "()I")) ∈ wsG := gw_of (tb_4 10 rfl) rfl
theorem gw_795 : (Cond.instanceMethod (MethodName.mk "ScanDetectorModel" "attemptCount" "()I")) ∈ wsG := gw_of (tb_4 11 rfl) rfl
theorem gw_796 : (Cond.selects "ScanDetectorModel" (MethodName.mk "ScanDetectorModel" "attemptCount" "()I") (MethodName.mk "ScanDetectorModel" "attemptCount" "()I")) ∈ wsG := gw_of (tb_4 12 rfl) rfl
theorem gw_797 : (Cond.code (MethodName.mk "ScanDetectorModel" "attemptCount" "()I") prog_8_method_37_code 1 (Option.some FieldType.int)) ∈ wsG := gw_of (tb_4 13 rfl) rfl
theorem gw_798 : (Cond.methodLink "ScanDetectorLaw" 98 (MethodName.mk "ScanDetectorModel" "describeAttempt" "(I)I")) ∈ wsG := gw_of (tb_4 14 rfl) rfl
theorem gw_799 : (Cond.instanceMethod (MethodName.mk "ScanDetectorModel" "describeAttempt" "(I)I")) ∈ wsG := gw_of (tb_4 15 rfl) rfl
theorem gw_800 : (Cond.selects "ScanDetectorModel" (MethodName.mk "ScanDetectorModel" "describeAttempt" "(I)I") (MethodName.mk "ScanDetectorModel" "describeAttempt" "(I)I")) ∈ wsG := gw_of (tb_4 16 rfl) rfl
theorem gw_801 : (Cond.code (MethodName.mk "ScanDetectorModel" "describeAttempt" "(I)I") prog_8_method_39_code 2 (Option.some FieldType.int)) ∈ wsG := gw_of (tb_4 17 rfl) rfl
theorem gw_802 : (Cond.methodLink "ScanDetectorModel" 144 (MethodName.mk "ScanDetectorModel" "described" "(I)I")) ∈ wsG := gw_of (tb_4 18 rfl) rfl
theorem gw_804 : (Cond.instanceMethod (MethodName.mk "ScanDetectorModel" "described" "(I)I")) ∈ wsG := gw_of (tb_4 20 rfl) rfl
theorem gw_805 : (Cond.code (MethodName.mk "ScanDetectorModel" "described" "(I)I") prog_8_method_38_code 2 (Option.some FieldType.int)) ∈ wsG := gw_of (tb_4 21 rfl) rfl
theorem gw_806 : (Cond.methodLink "ScanDetectorLaw" 102 (MethodName.mk "ScanDetectorModel" "clock" "()I")) ∈ wsG := gw_of (tb_4 22 rfl) rfl
theorem gw_807 : (Cond.instanceMethod (MethodName.mk "ScanDetectorModel" "clock" "()I")) ∈ wsG := gw_of (tb_4 23 rfl) rfl
theorem gw_808 : (Cond.selects "ScanDetectorModel" (MethodName.mk "ScanDetectorModel" "clock" "()I") (MethodName.mk "ScanDetectorModel" "clock" "()I")) ∈ wsG := gw_of (tb_4 24 rfl) rfl
theorem gw_809 : (Cond.code (MethodName.mk "ScanDetectorModel" "clock" "()I") prog_8_method_40_code 1 (Option.some FieldType.int)) ∈ wsG := gw_of (tb_4 25 rfl) rfl
theorem gw_810 : (Cond.methodLink "ScanDetectorLaw" 106 (MethodName.mk "ScanDetectorModel" "verdictCount" "()I")) ∈ wsG := gw_of (tb_4 26 rfl) rfl
theorem gw_811 : (Cond.instanceMethod (MethodName.mk "ScanDetectorModel" "verdictCount" "()I")) ∈ wsG := gw_of (tb_4 27 rfl) rfl
theorem gw_812 : (Cond.selects "ScanDetectorModel" (MethodName.mk "ScanDetectorModel" "verdictCount" "()I") (MethodName.mk "ScanDetectorModel" "verdictCount" "()I")) ∈ wsG := gw_of (tb_4 28 rfl) rfl
theorem gw_813 : (Cond.code (MethodName.mk "ScanDetectorModel" "verdictCount" "()I") prog_8_method_41_code 1 (Option.some FieldType.int)) ∈ wsG := gw_of (tb_4 29 rfl) rfl
theorem gw_814 : (Cond.methodLink "ScanDetectorLaw" 110 (MethodName.mk "ScanDetectorModel" "describeVerdict" "(I)I")) ∈ wsG := gw_of (tb_4 30 rfl) rfl
theorem gw_815 : (Cond.instanceMethod (MethodName.mk "ScanDetectorModel" "describeVerdict" "(I)I")) ∈ wsG := gw_of (tb_4 31 rfl) rfl
theorem gw_816 : (Cond.selects "ScanDetectorModel" (MethodName.mk "ScanDetectorModel" "describeVerdict" "(I)I") (MethodName.mk "ScanDetectorModel" "describeVerdict" "(I)I")) ∈ wsG := gw_of (tb_4 32 rfl) rfl
theorem gw_817 : (Cond.code (MethodName.mk "ScanDetectorModel" "describeVerdict" "(I)I") prog_8_method_42_code 2 (Option.some FieldType.int)) ∈ wsG := gw_of (tb_4 33 rfl) rfl
theorem gw_818 : (Cond.methodLink "ScanDetectorLaw" 114 (MethodName.mk "ScanDetectorModel" "countSequences" "(II)I")) ∈ wsG := gw_of (tb_4 34 rfl) rfl
theorem gw_819 : (Cond.instanceMethod (MethodName.mk "ScanDetectorModel" "countSequences" "(II)I")) ∈ wsG := gw_of (tb_4 35 rfl) rfl
theorem gw_820 : (Cond.selects "ScanDetectorModel" (MethodName.mk "ScanDetectorModel" "countSequences" "(II)I") (MethodName.mk "ScanDetectorModel" "countSequences" "(II)I")) ∈ wsG := gw_of (tb_4 36 rfl) rfl
theorem gw_821 : (Cond.code (MethodName.mk "ScanDetectorModel" "countSequences" "(II)I") prog_8_method_44_code 3 (Option.some FieldType.int)) ∈ wsG := gw_of (tb_4 37 rfl) rfl
theorem gw_822 : (Cond.methodLink "ScanDetectorModel" 148 (MethodName.mk "ScanDetectorModel" "sequences" "(II)I")) ∈ wsG := gw_of (tb_4 38 rfl) rfl
theorem gw_824 : (Cond.instanceMethod (MethodName.mk "ScanDetectorModel" "sequences" "(II)I")) ∈ wsG := gw_of (tb_4 40 rfl) rfl
theorem gw_825 : (Cond.code (MethodName.mk "ScanDetectorModel" "sequences" "(II)I") prog_8_method_43_code 8 (Option.some FieldType.int)) ∈ wsG := gw_of (tb_4 41 rfl) rfl
theorem gw_826 : (Cond.methodLink "ScanDetectorLaw" 119 (MethodName.mk "ScanDetectorModel" "scannerProbability" "(II)J")) ∈ wsG := gw_of (tb_4 42 rfl) rfl
theorem gw_827 : (Cond.instanceMethod (MethodName.mk "ScanDetectorModel" "scannerProbability" "(II)J")) ∈ wsG := gw_of (tb_4 43 rfl) rfl
theorem gw_828 : (Cond.selects "ScanDetectorModel" (MethodName.mk "ScanDetectorModel" "scannerProbability" "(II)J") (MethodName.mk "ScanDetectorModel" "scannerProbability" "(II)J")) ∈ wsG := gw_of (tb_4 44 rfl) rfl
theorem gw_829 : (Cond.code (MethodName.mk "ScanDetectorModel" "scannerProbability" "(II)J") prog_8_method_50_code 3 (Option.some FieldType.long)) ∈ wsG := gw_of (tb_4 45 rfl) rfl
theorem gw_830 : (Cond.methodLink "ScanDetectorModel" 174 (MethodName.mk "ScanDetectorModel" "areRight" "(II)Z")) ∈ wsG := gw_of (tb_4 46 rfl) rfl
theorem gw_831 : (Cond.static (MethodName.mk "ScanDetectorModel" "areRight" "(II)Z")) ∈ wsG := gw_of (tb_4 47 rfl) rfl
theorem gw_832 : (Cond.code (MethodName.mk "ScanDetectorModel" "areRight" "(II)Z") prog_8_method_47_code 2 (Option.some FieldType.boolean)) ∈ wsG := gw_of (tb_4 48 rfl) rfl
theorem gw_833 : (Cond.methodLink "ScanDetectorModel" 177 (MethodName.mk "ScanDetectorModel" "scannedBits" "(II)J")) ∈ wsG := gw_of (tb_4 49 rfl) rfl
theorem gw_835 : (Cond.instanceMethod (MethodName.mk "ScanDetectorModel" "scannedBits" "(II)J")) ∈ wsG := gw_of (tb_4 51 rfl) rfl
theorem gw_836 : (Cond.code (MethodName.mk "ScanDetectorModel" "scannedBits" "(II)J") prog_8_method_48_code 3 (Option.some FieldType.long)) ∈ wsG := gw_of (tb_4 52 rfl) rfl
theorem gw_837 : (Cond.methodLink "ScanDetectorModel" 164 (MethodName.mk "ScanDetectorModel" "layChances" "(II)V")) ∈ wsG := gw_of (tb_4 53 rfl) rfl
theorem gw_839 : (Cond.instanceMethod (MethodName.mk "ScanDetectorModel" "layChances" "(II)V")) ∈ wsG := gw_of (tb_4 55 rfl) rfl
theorem gw_840 : (Cond.code (MethodName.mk "ScanDetectorModel" "layChances" "(II)V") prog_8_method_46_code 8 none) ∈ wsG := gw_of (tb_4 56 rfl) rfl
theorem gw_841 : (Cond.constantDouble "ScanDetectorModel" 158 (4636737291354636288 : UInt64)) ∈ wsG := gw_of (tb_4 57 rfl) rfl
theorem gw_842 : (Cond.methodLink "ScanDetectorModel" 160 (MethodName.mk "ScanDetectorModel" "step" "(DD)V")) ∈ wsG := gw_of (tb_4 58 rfl) rfl
theorem gw_844 : (Cond.instanceMethod (MethodName.mk "ScanDetectorModel" "step" "(DD)V")) ∈ wsG := gw_of (tb_4 60 rfl) rfl
theorem gw_845 : (Cond.code (MethodName.mk "ScanDetectorModel" "step" "(DD)V") prog_8_method_45_code 10 none) ∈ wsG := gw_of (tb_4 61 rfl) rfl
theorem gw_846 : (Cond.methodLink "ScanDetectorModel" 168 (MethodName.mk "java/lang/Double" "doubleToLongBits" "(D)J")) ∈ wsG := gw_of (tb_4 62 rfl) rfl
theorem gw_847 : (Cond.static (MethodName.mk "java/lang/Double" "doubleToLongBits" "(D)J")) ∈ wsG := gw_of (tb_4 63 rfl) rfl
theorem gw_848 : (Cond.code (MethodName.mk "java/lang/Double" "doubleToLongBits" "(D)J") prog_9_method_23_code 2 (Option.some FieldType.long)) ∈ wsG := gw_of (tb_4 64 rfl) rfl
theorem gw_849 : (Cond.methodLink "java/lang/Double" 122 (MethodName.mk "java/lang/Double" "isNaN" "(D)Z")) ∈ wsG := gw_of (tb_4 65 rfl) rfl
theorem gw_850 : (Cond.static (MethodName.mk "java/lang/Double" "isNaN" "(D)Z")) ∈ wsG := gw_of (tb_4 66 rfl) rfl
theorem gw_851 : (Cond.code (MethodName.mk "java/lang/Double" "isNaN" "(D)Z") prog_9_method_6_code 2 (Option.some FieldType.boolean)) ∈ wsG := gw_of (tb_4 67 rfl) rfl
theorem gw_852 : (Cond.methodLink "java/lang/Double" 134 (MethodName.mk "java/lang/Double" "doubleToRawLongBits" "(D)J")) ∈ wsG := gw_of (tb_4 68 rfl) rfl
theorem gw_853 : (Cond.static (MethodName.mk "java/lang/Double" "doubleToRawLongBits" "(D)J")) ∈ wsG := gw_of (tb_4 69 rfl) rfl
theorem gw_854 : (Cond.native (MethodName.mk "java/lang/Double" "doubleToRawLongBits" "(D)J")) ∈ wsG := gw_of (tb_4 70 rfl) rfl
theorem gw_855 : (Cond.constantLong "java/lang/Double" 137 (9221120237041090560 : Int64)) ∈ wsG := gw_of (tb_4 71 rfl) rfl
theorem gw_856 : (Cond.constantLong "ScanDetectorModel" 181 (-104 : Int64)) ∈ wsG := gw_of (tb_4 72 rfl) rfl
theorem gw_857 : (Cond.methodLink "ScanDetectorLaw" 123 (MethodName.mk "ScanDetectorModel" "expectedContacts" "(II)J")) ∈ wsG := gw_of (tb_4 73 rfl) rfl
theorem gw_858 : (Cond.instanceMethod (MethodName.mk "ScanDetectorModel" "expectedContacts" "(II)J")) ∈ wsG := gw_of (tb_4 74 rfl) rfl
theorem gw_859 : (Cond.selects "ScanDetectorModel" (MethodName.mk "ScanDetectorModel" "expectedContacts" "(II)J") (MethodName.mk "ScanDetectorModel" "expectedContacts" "(II)J")) ∈ wsG := gw_of (tb_4 75 rfl) rfl
theorem gw_860 : (Cond.code (MethodName.mk "ScanDetectorModel" "expectedContacts" "(II)J") prog_8_method_51_code 3 (Option.some FieldType.long)) ∈ wsG := gw_of (tb_4 76 rfl) rfl
theorem gw_861 : (Cond.methodLink "ScanDetectorModel" 183 (MethodName.mk "ScanDetectorModel" "awaitedBits" "(II)J")) ∈ wsG := gw_of (tb_4 77 rfl) rfl
theorem gw_863 : (Cond.instanceMethod (MethodName.mk "ScanDetectorModel" "awaitedBits" "(II)J")) ∈ wsG := gw_of (tb_4 79 rfl) rfl
theorem gw_864 : (Cond.code (MethodName.mk "ScanDetectorModel" "awaitedBits" "(II)J") prog_8_method_49_code 3 (Option.some FieldType.long)) ∈ wsG := gw_of (tb_4 80 rfl) rfl
theorem gw_865 : (Cond.methodLink "ScanDetectorLaw" 128 (MethodName.mk "ScanDetectorModel" "digest" "()J")) ∈ wsG := gw_of (tb_4 81 rfl) rfl
theorem gw_866 : (Cond.instanceMethod (MethodName.mk "ScanDetectorModel" "digest" "()J")) ∈ wsG := gw_of (tb_4 82 rfl) rfl
theorem gw_867 : (Cond.selects "ScanDetectorModel" (MethodName.mk "ScanDetectorModel" "digest" "()J") (MethodName.mk "ScanDetectorModel" "digest" "()J")) ∈ wsG := gw_of (tb_4 83 rfl) rfl
theorem gw_868 : (Cond.code (MethodName.mk "ScanDetectorModel" "digest" "()J") prog_8_method_53_code 2 (Option.some FieldType.long)) ∈ wsG := gw_of (tb_4 84 rfl) rfl
theorem gw_869 : (Cond.constantLong "ScanDetectorModel" 192 (1777 : Int64)) ∈ wsG := gw_of (tb_4 85 rfl) rfl
theorem gw_870 : (Cond.methodLink "ScanDetectorModel" 194 (MethodName.mk "ScanDetectorModel" "mix" "(J)V")) ∈ wsG := gw_of (tb_4 86 rfl) rfl
theorem gw_872 : (Cond.instanceMethod (MethodName.mk "ScanDetectorModel" "mix" "(J)V")) ∈ wsG := gw_of (tb_4 88 rfl) rfl
theorem gw_873 : (Cond.code (MethodName.mk "ScanDetectorModel" "mix" "(J)V") prog_8_method_52_code 3 none) ∈ wsG := gw_of (tb_4 89 rfl) rfl
theorem gw_874 : (Cond.constantLong "ScanDetectorModel" 186 (31 : Int64)) ∈ wsG := gw_of (tb_4 90 rfl) rfl
end
section
abbrev dTy (kA : Nat → ClassId) : List (ClassId × FieldType) := [(kA 0, .int), (kA 1, .boolean), (kA 2, .long), (kA 3, .double), (kA 4, .object "ScanDetector$Cell")]
/-- what every method takes as known of the tables beside its words -/
def KK (D : va_G) (kA : Nat → ClassId) (U : State) : Prop := va_K D vwCl (dTy kA) U ∧ (∀ w ∈ nwL, va_Nw w U) ∧ va_AO RX0 U
theorem nw_warm {w : Cond} (hw : isNest w = true) {s U : State} (hW : s.WarmedH U.vm) (h : va_Nw w s) : va_Nw w U := by
  cases w <;> first | exact va_Nw.warmF hW h | exact va_Nw.warmM hW h | cases hw
theorem nw_onT {w : Cond} (hw : isNest w = true) : w.onTables = true := by
  cases w <;> first | rfl | cases hw
theorem KK.warm {D : va_G} {kA : Nat → ClassId} {s U : State} (hW : s.WarmedH U.vm) (h : KK D kA s) : KK D kA U := ⟨va_K.moved hW.alike h.1, fun w hw => nw_warm (List.mem_filter.mp hw).2 hW (h.2.1 w hw), va_AO.moved hW.alike h.2.2⟩
theorem KK.call {D : va_G} {kA : Nat → ClassId} {U : State} {g : JFrame} {mk : MethodId} {a : Array Value} (h : KK D kA U) : KK D kA (U.calling g mk a) := ⟨va_K.moved (u := U) (U := U.calling g mk a) (Vm.Alike.refl U.vm) h.1, fun w hw => va_Nw.same (nw_onT (List.mem_filter.mp hw).2) (u := U) (U := U.calling g mk a) rfl (h.2.1 w hw), va_AO.moved (u := U) (U := U.calling g mk a) (Vm.Alike.refl U.vm) h.2.2⟩
theorem KK.nw {D : va_G} {kA : Nat → ClassId} {U : State} (h : KK D kA U) {w : Cond} (hw : w ∈ nwL) (A : Array Value) : w.before A U = true := va_Nw.use (nw_onT (List.mem_filter.mp hw).2) (h.2.1 w hw)
def cPre (D : va_G) (kA : Nat → ClassId) (sz : Nat) (wc : va_W) (U : State) : Prop := U.heap.size = sz ∧ va_P D vwCl wc U.heap ∧ KK D kA U ∧ va_D (fun _ => True) wc
def cB (D : va_G) (A : Nat → Prop) (u : va_W) (t : State) : Prop := va_P D vwCl u t.heap ∧ va_D A u
theorem cPre.blind {D : va_G} {kA : Nat → ClassId} {sz : Nat} {wc : va_W} {av : List Value} : FrameBlind (va_Pc av (cPre D kA sz wc)) := fun _ _ _ _ q => ⟨q.1, q.2.1, q.2.2.1, KK.call q.2.2.2.1, q.2.2.2.2⟩
abbrev mkWs (y : MethodName) (cc : ByteArray) (n : Nat) (ret : Option FieldType) : List Cond := Cond.code y cc n ret :: wsG
abbrev rmC (h mc ms : Nat) : Room := { frames := h, cells := mc, slots := ms, locals := 32 * h }
def CtI (l : Launch) (y : MethodName) (cc : ByteArray) (n : Nat) (ret : FieldType) (h : Nat) (D : va_G) (kA : Nat → ClassId) (sz : Nat) (wc : va_W) (av : List Value) (post : Int32 → va_W → Prop) : Prop := Met l y (mkWs y cc n (some ret)) (rmC h 0 0) (va_Pc av (cPre D kA sz wc)) (va_Qi post (cB D (va_A wc sz)) (va_A wc sz)) 0 0 (va_A wc sz)
def CtL (l : Launch) (y : MethodName) (cc : ByteArray) (n : Nat) (ret : FieldType) (h : Nat) (D : va_G) (kA : Nat → ClassId) (sz : Nat) (wc : va_W) (av : List Value) (post : Int64 → va_W → Prop) : Prop := Met l y (mkWs y cc n (some ret)) (rmC h 0 0) (va_Pc av (cPre D kA sz wc)) (va_Ql post (cB D (va_A wc sz)) (va_A wc sz)) 0 0 (va_A wc sz)
def CtD (l : Launch) (y : MethodName) (cc : ByteArray) (n : Nat) (ret : FieldType) (h : Nat) (D : va_G) (kA : Nat → ClassId) (sz : Nat) (wc : va_W) (av : List Value) (post : UInt64 → va_W → Prop) : Prop := Met l y (mkWs y cc n (some ret)) (rmC h 0 0) (va_Pc av (cPre D kA sz wc)) (va_Qd post (cB D (va_A wc sz)) (va_A wc sz)) 0 0 (va_A wc sz)
def CtV (l : Launch) (y : MethodName) (cc : ByteArray) (n : Nat) (h mc ms : Nat) (D : va_G) (kA : Nat → ClassId) (sz : Nat) (wc : va_W) (av : List Value) (post : va_W → Prop) : Prop := Met l y (mkWs y cc n none) (rmC h mc ms) (va_Pc av (cPre D kA sz wc)) (va_Qv post (cB D (va_A wc sz)) (va_A wc sz)) mc ms (va_A wc sz)
/-- the way into a method -/
theorem ct_in {l : Launch} {y : MethodName} {cc : ByteArray} {n : Nat} {ret : Option FieldType} {rm : Room} {D : va_G} {kA : Nat → ClassId} {sz : Nat} {wc : va_W} {av : List Value} {Qc : (Nat → Prop) → Array Value → State → Outcome → State → Prop} {mc ms : Nat} {own : String} (hy : plainName y.cls = true) (ho : y.cls = own) (hn : (lg_sl av).length ≤ n)
    (body : ∀ (p : Program) (e : Env) (s : State) (m : MethodId) (below : List Frame) (meth : Method) (c : Code) (A : Nat → Prop) (ls : Array Slot), CallFix p m c cc n s av.toArray wsG own → meth.sig.returnType = ret → meth.locks = false → meth.name = y.name → KK D kA s → (∀ q : Nat, s.heap.size ≤ q → A q) → va_P D vwCl wc s.heap → va_D A wc → va_S A s.heap s.heap [] → lv_has ls n (lv_args 0 av) → s.heap.size = sz →
      W p l e rm s m av.toArray below meth c s.heap [] 0 0 (MQ below (Qc A) av.toArray s mc ms A) (F0 m 0 ls [])) :
    Met l y (mkWs y cc n ret) rm (va_Pc av (cPre D kA sz wc)) (Qc (va_A wc sz)) mc ms (va_A wc sz) := by
  refine Met.ofW (cc := cc) (maxL := n) (ret := ret) hy rfl ?_
  intro p e s m args below meth c s₁ B hml hv
  obtain ⟨rfl, hsz, hP, hK, hD0⟩ := hv
  have hts := atoms_spec (ws := mkWs y cc n ret) B.pre
  have hown : s.vm.findClass own = some m.cls := by rw [← ho]; exact findClass_of_methodNamed B.named
  subst hsz
  have hD := hD0.self (sz := s.heap.size)
  have hl := lv_entry av (n := n) hn
  rw [lg_entry_eq]
  exact body p e s m below meth c _ _ ⟨B.exec, B.bytes, hml, hown, fun w h => hts w (List.mem_cons_of_mem _ h)⟩ B.returns B.notSynchronized (name_of_methodNamed B.named B.method).1 hK (fun q h => Or.inr h) hP hD va_S.rf hl rfl

section RT
variable {p : Program} {l : Launch} {e : Env} {R : Room} {s : State} {m : MethodId} {args : Array Value} {below : List Frame} {meth : Method} {c : Code} {H : Heap} {locs : List Loc} {cells slots : Nat} {cc : ByteArray} {pc : Nat} {ls : Array Slot} {D : va_G} {A : Nat → Prop}
theorem rt_i (hx : p.tables.exec = Jvm.exec) (hb : c.code = cc) (hr : meth.sig.returnType = some .int) (hlk : meth.locks = false) (u : va_W) {v : Int32} {post : Int32 → va_W → Prop} (hP : va_P D vwCl u H) (hD : va_D A u) (hS : va_S A s.heap H locs) (hdg : decode cc pc = .ok (.ireturn, 1)) (hq : post v u) : W p l e R s m args below meth c H locs cells slots (MQ below (va_Qi post (cB D A) A) args s cells slots A) (F0 m pc ls [.int v]) :=
  W.iret (v := v) hx hb hr (fun t ht _ => ⟨⟨v, u, rfl, hq, by rw [ht]; exact hP, hD⟩, hS.F ht⟩) hS.2.2 hdg hlk
theorem rt_z (hx : p.tables.exec = Jvm.exec) (hb : c.code = cc) (hr : meth.sig.returnType = some .boolean) (hlk : meth.locks = false) (u : va_W) {v : Int32} {post : Int32 → va_W → Prop} (hP : va_P D vwCl u H) (hD : va_D A u) (hS : va_S A s.heap H locs) (hdg : decode cc pc = .ok (.ireturn, 1)) (hn : narrow .boolean (.int v) = .int v) (hq : post v u) : W p l e R s m args below meth c H locs cells slots (MQ below (va_Qi post (cB D A) A) args s cells slots A) (F0 m pc ls [.int v]) :=
  W.zret (v := v) hx hb hr hn (fun t ht _ => ⟨⟨v, u, rfl, hq, by rw [ht]; exact hP, hD⟩, hS.F ht⟩) hS.2.2 hdg hlk
theorem rt_l (hx : p.tables.exec = Jvm.exec) (hb : c.code = cc) (hr : meth.sig.returnType = some .long) (hlk : meth.locks = false) (u : va_W) {v : Int64} {post : Int64 → va_W → Prop} (hP : va_P D vwCl u H) (hD : va_D A u) (hS : va_S A s.heap H locs) (hdg : decode cc pc = .ok (.lreturn, 1)) (hq : post v u) : W p l e R s m args below meth c H locs cells slots (MQ below (va_Ql post (cB D A) A) args s cells slots A) (F0 m pc ls [.long v]) :=
  W.lret (v := v) hx hb hr (fun t ht _ => ⟨⟨v, u, rfl, hq, by rw [ht]; exact hP, hD⟩, hS.F ht⟩) hS.2.2 hdg hlk
theorem rt_d (hx : p.tables.exec = Jvm.exec) (hb : c.code = cc) (hr : meth.sig.returnType = some .double) (hlk : meth.locks = false) (u : va_W) {v : UInt64} {post : UInt64 → va_W → Prop} (hP : va_P D vwCl u H) (hD : va_D A u) (hS : va_S A s.heap H locs) (hdg : decode cc pc = .ok (.dreturn, 1)) (hq : post v u) : W p l e R s m args below meth c H locs cells slots (MQ below (va_Qd post (cB D A) A) args s cells slots A) (F0 m pc ls [.double v]) :=
  W.dret (v := v) hx hb hr (fun t ht _ => ⟨⟨v, u, rfl, hq, by rw [ht]; exact hP, hD⟩, hS.F ht⟩) hS.2.2 hdg hlk
theorem rt_v (hx : p.tables.exec = Jvm.exec) (hb : c.code = cc) (hr : meth.sig.returnType = none) (hlk : meth.locks = false) (u : va_W) {post : va_W → Prop} (hP : va_P D vwCl u H) (hD : va_D A u) (hS : va_S A s.heap H locs) (hdg : decode cc pc = .ok (.return_, 1)) (hq : post u) : W p l e R s m args below meth c H locs cells slots (MQ below (va_Qv post (cB D A) A) args s cells slots A) (F0 m pc ls []) :=
  W.vret hx hb hr (fun t ht _ => ⟨⟨u, rfl, hq, by rw [ht]; exact hP, hD⟩, hS.F ht⟩) hS.2.2 hdg hlk
end RT
theorem P_iff {D : va_G} {cl : List vw_C} {ws : va_W} {H : Heap} : va_P D cl ws H ↔ ∀ q ∈ ws, va_at D cl q H := ⟨fun h q hq => by obtain ⟨i, hi⟩ := List.getElem?_of_mem hq; exact h i q hi, fun h k q hk => h q (List.mem_of_getElem? hk)⟩
theorem D_iff {A : Nat → Prop} {ws : va_W} : va_D A ws ↔ (ws.map Prod.fst).Nodup ∧ ∀ q ∈ ws, A q.1 := by
  constructor
  · intro h
    refine ⟨?_, fun q hq => by obtain ⟨i, hi⟩ := List.getElem?_of_mem hq; exact h.2 i q hi⟩
    refine List.pairwise_iff_getElem.mpr fun i j hi hj hij he => ?_
    rw [List.length_map] at hi hj
    rw [List.getElem_map, List.getElem_map] at he
    have := h.1 i j ws[i] ws[j] (List.getElem?_eq_getElem hi) (List.getElem?_eq_getElem hj) he
    omega
  · intro h
    refine ⟨fun i j p q hi hj he => ?_, fun k q hk => h.2 q (List.mem_of_getElem? hk)⟩
    obtain ⟨hi1, hi2⟩ := List.getElem?_eq_some_iff.mp hi
    obtain ⟨hj1, hj2⟩ := List.getElem?_eq_some_iff.mp hj
    have hn := List.pairwise_iff_getElem.mp h.1
    rcases Nat.lt_trichotomy i j with hij | hij | hij
    · exact absurd (by rw [List.getElem_map, List.getElem_map, hi2, hj2, he]) (hn i j (by rw [List.length_map]; exact hi1) (by rw [List.length_map]; exact hj1) hij)
    · exact hij
    · exact absurd (by rw [List.getElem_map, List.getElem_map, hi2, hj2, he]) (hn j i (by rw [List.length_map]; exact hj1) (by rw [List.length_map]; exact hi1) hij)
theorem va_A_iff {ws : va_W} {sz q : Nat} : va_A ws sz q ↔ q ∈ ws.map Prod.fst ∨ sz ≤ q := by
  constructor
  · rintro (⟨k, e, h⟩ | h)
    · exact Or.inl (List.mem_map.mpr ⟨(q, e), List.mem_of_getElem? h, rfl⟩)
    · exact Or.inr h
  · rintro (h | h)
    · obtain ⟨⟨a, e⟩, h1, rfl⟩ := List.mem_map.mp h
      obtain ⟨k, hk⟩ := List.getElem?_of_mem h1
      exact Or.inl ⟨k, e, hk⟩
    · exact Or.inr h
theorem P_mid {D : va_G} {cl : List vw_C} {l1 wc l2 : va_W} {H : Heap} (h : va_P D cl (l1 ++ (wc ++ l2)) H) : va_P D cl wc H := P_iff.mpr fun q hq => P_iff.mp h q (List.mem_append_right _ (List.mem_append_left _ hq))
theorem D_mid {A : Nat → Prop} {l1 wc l2 : va_W} (h : va_D A (l1 ++ (wc ++ l2))) : va_D A wc := by
  obtain ⟨h1, h2⟩ := D_iff.mp h
  refine D_iff.mpr ⟨?_, fun q hq => h2 q (List.mem_append_right _ (List.mem_append_left _ hq))⟩
  rw [List.map_append, List.map_append] at h1
  exact (List.nodup_append.mp (List.nodup_append.mp h1).2.1).1
theorem P_one {D : va_G} {cl : List vw_C} {ws : va_W} {H : Heap} (h : va_P D cl ws H) (k : Nat) {q : Nat × va_E} (hk : ws[k]? = some q) : va_P D cl [q] H := P_iff.mpr fun x hx => by rw [List.mem_singleton.mp hx]; exact h k q hk
theorem D_one {A : Nat → Prop} {ws : va_W} (h : va_D A ws) (k : Nat) {q : Nat × va_E} (hk : ws[k]? = some q) : va_D A [q] := D_iff.mpr ⟨List.pairwise_singleton _ _, fun x hx => by rw [List.mem_singleton.mp hx]; exact h.2 k q hk⟩
theorem P_nil {D : va_G} {cl : List vw_C} {H : Heap} : va_P D cl [] H := P_iff.mpr fun q hq => by cases hq
theorem D_nil {A : Nat → Prop} : va_D A [] := D_iff.mpr ⟨List.Pairwise.nil, fun q hq => by cases hq⟩
theorem fr_of {A : Nat → Prop} {wc : va_W} {H0 H : Heap} {locs : List Loc} (hDc : va_D A wc) (hS : va_S A H0 H locs) (hA : ∀ q, H0.size ≤ q → A q) : ∀ q, va_A wc H.size q → A q := by
  intro q h
  rcases va_A_iff.mp h with h | h
  · obtain ⟨x, h1, rfl⟩ := List.mem_map.mp h
    exact (D_iff.mp hDc).2 x h1
  · exact hA q (Nat.le_trans hS.1 h)
/-- behind a call on a part of the world that lies between l1 and l2 -/
theorem hp_seg {D : va_G} {cl : List vw_C} {A : Nat → Prop} {l1 wc l2 u : va_W} {H H1 : Heap} (hP : va_P D cl (l1 ++ (wc ++ l2)) H) (hD : va_D A (l1 ++ (wc ++ l2))) (hk : ∀ q : Nat, q < H.size → ¬ va_A wc H.size q → H1[q]? = H[q]?) (hF : ∀ q, va_A wc H.size q → A q) (hP1 : va_P D cl u H1) (hD1 : va_D (va_A wc H.size) u) : va_P D cl (l1 ++ (u ++ l2)) H1 ∧ va_D A (l1 ++ (u ++ l2)) := by
  obtain ⟨n0, a0⟩ := D_iff.mp hD
  obtain ⟨n1, a1⟩ := D_iff.mp hD1
  have hP' := P_iff.mp hP
  rw [List.map_append, List.map_append] at n0
  obtain ⟨m1, m2, m3⟩ := List.nodup_append.mp n0
  obtain ⟨m4, m5, m6⟩ := List.nodup_append.mp m2
  have out : ∀ q, (q ∈ l1 ∨ q ∈ l2) → q.1 < H.size ∧ ¬ va_A wc H.size q.1 := by
    intro q hq
    have hmem : q ∈ l1 ++ (wc ++ l2) := by
      rcases hq with h | h
      · exact List.mem_append_left _ h
      · exact List.mem_append_right _ (List.mem_append_right _ h)
    have hlt := (hP' q hmem).lt
    refine ⟨hlt, fun h => ?_⟩
    rcases va_A_iff.mp h with h | h
    · rcases hq with g | g
      · exact m3 q.1 (List.mem_map.mpr ⟨q, g, rfl⟩) q.1 (List.mem_append_left _ h) rfl
      · exact m6 q.1 h q.1 (List.mem_map.mpr ⟨q, g, rfl⟩) rfl
    · omega
  constructor
  · refine P_iff.mpr fun q hq => ?_
    rcases List.mem_append.mp hq with h | h
    · exact (hP' q (List.mem_append_left _ h)).kept (hk q.1 (out q (Or.inl h)).1 (out q (Or.inl h)).2)
    · rcases List.mem_append.mp h with h | h
      · exact P_iff.mp hP1 q h
      · exact (hP' q (List.mem_append_right _ (List.mem_append_right _ h))).kept (hk q.1 (out q (Or.inr h)).1 (out q (Or.inr h)).2)
  · refine D_iff.mpr ⟨?_, fun q hq => ?_⟩
    · rw [List.map_append, List.map_append]
      refine List.nodup_append.mpr ⟨m1, List.nodup_append.mpr ⟨n1, m5, fun a ha b hb hab => ?_⟩, fun a ha b hb hab => ?_⟩
      · obtain ⟨x, hx, rfl⟩ := List.mem_map.mp ha
        obtain ⟨z, hz, rfl⟩ := List.mem_map.mp hb
        exact (out z (Or.inr hz)).2 (hab ▸ a1 x hx)
      · obtain ⟨x, hx, rfl⟩ := List.mem_map.mp ha
        rcases List.mem_append.mp hb with hb | hb
        · obtain ⟨z, hz, rfl⟩ := List.mem_map.mp hb
          exact (out x (Or.inl hx)).2 (hab ▸ a1 z hz)
        · exact m3 x.1 (List.mem_map.mpr ⟨x, hx, rfl⟩) b (List.mem_append_right _ hb) hab
    · rcases List.mem_append.mp hq with h | h
      · exact a0 q (List.mem_append_left _ h)
      · rcases List.mem_append.mp h with h | h
        · exact hF q.1 (a1 q h)
        · exact a0 q (List.mem_append_right _ (List.mem_append_right _ h))
/-- behind a call on one cell of the world -/
theorem hp_set {D : va_G} {cl : List vw_C} {A : Nat → Prop} {ws : va_W} {a : Nat} {e0 e1 : va_E} {H H1 : Heap} (k : Nat) (hP : va_P D cl ws H) (hD : va_D A ws) (he : ws[k]? = some (a, e0)) (hk : ∀ q : Nat, q < H.size → ¬ va_A [(a, e0)] H.size q → H1[q]? = H[q]?) (hP1 : va_P D cl [(a, e1)] H1) : va_P D cl (ws.set k (a, e1)) H1 ∧ va_D A (ws.set k (a, e1)) := by
  have hl := (List.getElem?_eq_some_iff.mp he).1
  refine ⟨fun j q hj => ?_, hD.set he⟩
  by_cases hjk : j = k
  · subst hjk
    rw [List.getElem?_set_self hl] at hj
    cases hj
    exact hP1 0 _ rfl
  · rw [List.getElem?_set_ne (Ne.symm hjk)] at hj
    have hlt := (hP j q hj).lt
    refine (hP j q hj).kept (hk q.1 hlt fun h => ?_)
    rcases va_A_iff.mp h with h | h
    · rw [List.map_cons, List.map_nil] at h
      have h3 : q.1 = a := List.mem_singleton.mp h
      exact hjk (hD.1 j k q (a, e0) hj he h3)
    · omega
/-- behind a call that has no world -/
theorem hp_non {D : va_G} {cl : List vw_C} {ws : va_W} {H H1 : Heap} (hP : va_P D cl ws H) (hk : ∀ q : Nat, q < H.size → ¬ va_A [] H.size q → H1[q]? = H[q]?) : va_P D cl ws H1 := fun k q h => (hP k q h).kept (hk q.1 (hP k q h).lt fun g => by
  have hlt := (hP k q h).lt
  rcases va_A_iff.mp g with g | g
  · cases g
  · omega)

section CL
variable {p : Program} {l : Launch} {e : Env} {R : Room} {s : State} {m : MethodId} {args : Array Value} {below : List Frame} {meth : Method} {c : Code} {H H0 : Heap} {locs : List Loc} {cells slots : Nat} {Q : State → Prop} {cc bytes : ByteArray} {pc nL maxL index h : Nat} {ls : Array Slot} {D : va_G} {kA : Nat → ClassId} {A : Nat → Prop} {y : MethodName} {own C host : String} {ret : FieldType} {b : Nat} {As rest st0 : List Value} {wc : va_W}
theorem gd_all {r : Option FieldType} (w1 : Cond.code y bytes maxL r ∈ wsG) : GoodIn wsG (mkWs y bytes maxL r) := by
  intro w hw
  rcases List.mem_cons.mp hw with rfl | hw
  · exact ⟨w1, gw_good w1⟩
  · exact ⟨hw, gw_good hw⟩

theorem cl_V_i {post : Int32 → va_W → Prop} (F : CallFix p m c cc nL s args wsG own) (hK : KK D kA s) (hPc : va_P D vwCl wc H) (hDc : va_D A wc) (hS : va_S A H0 H locs) (hA : ∀ q, H0.size ≤ q → A q) (hM : CtI l y bytes maxL ret h D kA H.size wc (.ref b :: As) post) (w1 : Cond.code y bytes maxL (some ret) ∈ wsG) (w2 : Cond.initialized y.cls ∈ wsG) (w3 : Cond.methodLink own index y ∈ wsG) (w4 : Cond.instanceMethod y ∈ wsG) (w5 : Cond.selects C y y ∈ wsG) (hrv : ∃ cellB : Cell, H[b]? = some cellB ∧ cellB.vm.isStatics = false ∧ s.vm.findClass C = some cellB.cls) (hd : y.cls ≠ "java/lang/invoke/MethodHandle" ∧ y.cls ≠ "java/lang/invoke/VarHandle" ∧ (parseMethodDescriptor y.desc).map (fun d => d.parameters.length) = some As.length) (hR : h + 1 ≤ R.frames ∧ 8 + (maxL + 11) + 32 * h ≤ R.locals) (hsz : ls.size = nL) (hst : st0 = As.reverse ++ .ref b :: rest) (hsm : (rest.map fun v => v.category).sum ≤ 8) (hdg : decode cc pc = .ok (.invokevirtual index, 3)) (hf : cells ≤ R.cells ∧ slots ≤ R.slots) (kk : ∀ (r : Int32) (u : va_W) (H1 : Heap) (locs1 : List Loc), post r u → va_P D vwCl u H1 → va_D (va_A wc H.size) u → (∀ q : Nat, q < H.size → ¬ va_A wc H.size q → H1[q]? = H[q]?) → (∀ q, va_A wc H.size q → A q) → va_S A H0 H1 locs1 → W p l e R s m args below meth c H1 locs1 cells slots Q (F0 m (pc + 3) ls (.int r :: rest))) : W p l e R s m args below meth c H locs cells slots Q (F0 m pc ls st0) := by
  subst hst
  have hFc := fr_of hDc hS hA
  refine va_calli (va_runV (As := As) (rest := rest) F hM (⟨callB_of As.length F.2.2.2.2 (gd_all w1) rfl rfl rfl (F.2.2.2.2 _ w2) (F.2.2.2.2 _ w3) hd hR, F.2.2.2.2 _ w4, F.2.2.2.2 _ w5⟩) ⟨cPre.blind, hrv, fun U hU hW => ⟨rfl, by rw [hU], by rw [hU]; exact hPc, KK.warm hW hK, hDc.weaken (fun _ _ _ _ => trivial)⟩⟩ rfl rfl hsz rfl (lv_room hsm) hdg hf) hS (fun q _ h => hFc q h) hFc (fun r u t H1 locs1 ht hvm hw hB hz1 hk1 hS1 => ?_)
  exact kk r u H1 locs1 hw (by rw [← ht]; exact hB.1) hB.2 hk1 hFc hS1

theorem cl_V_l {post : Int64 → va_W → Prop} (F : CallFix p m c cc nL s args wsG own) (hK : KK D kA s) (hPc : va_P D vwCl wc H) (hDc : va_D A wc) (hS : va_S A H0 H locs) (hA : ∀ q, H0.size ≤ q → A q) (hM : CtL l y bytes maxL ret h D kA H.size wc (.ref b :: As) post) (w1 : Cond.code y bytes maxL (some ret) ∈ wsG) (w2 : Cond.initialized y.cls ∈ wsG) (w3 : Cond.methodLink own index y ∈ wsG) (w4 : Cond.instanceMethod y ∈ wsG) (w5 : Cond.selects C y y ∈ wsG) (hrv : ∃ cellB : Cell, H[b]? = some cellB ∧ cellB.vm.isStatics = false ∧ s.vm.findClass C = some cellB.cls) (hd : y.cls ≠ "java/lang/invoke/MethodHandle" ∧ y.cls ≠ "java/lang/invoke/VarHandle" ∧ (parseMethodDescriptor y.desc).map (fun d => d.parameters.length) = some As.length) (hR : h + 1 ≤ R.frames ∧ 8 + (maxL + 11) + 32 * h ≤ R.locals) (hsz : ls.size = nL) (hst : st0 = As.reverse ++ .ref b :: rest) (hsm : (rest.map fun v => v.category).sum ≤ 8) (hdg : decode cc pc = .ok (.invokevirtual index, 3)) (hf : cells ≤ R.cells ∧ slots ≤ R.slots) (kk : ∀ (r : Int64) (u : va_W) (H1 : Heap) (locs1 : List Loc), post r u → va_P D vwCl u H1 → va_D (va_A wc H.size) u → (∀ q : Nat, q < H.size → ¬ va_A wc H.size q → H1[q]? = H[q]?) → (∀ q, va_A wc H.size q → A q) → va_S A H0 H1 locs1 → W p l e R s m args below meth c H1 locs1 cells slots Q (F0 m (pc + 3) ls (.long r :: rest))) : W p l e R s m args below meth c H locs cells slots Q (F0 m pc ls st0) := by
  subst hst
  have hFc := fr_of hDc hS hA
  refine va_calll (va_runV (As := As) (rest := rest) F hM (⟨callB_of As.length F.2.2.2.2 (gd_all w1) rfl rfl rfl (F.2.2.2.2 _ w2) (F.2.2.2.2 _ w3) hd hR, F.2.2.2.2 _ w4, F.2.2.2.2 _ w5⟩) ⟨cPre.blind, hrv, fun U hU hW => ⟨rfl, by rw [hU], by rw [hU]; exact hPc, KK.warm hW hK, hDc.weaken (fun _ _ _ _ => trivial)⟩⟩ rfl rfl hsz rfl (lv_room hsm) hdg hf) hS (fun q _ h => hFc q h) hFc (fun r u t H1 locs1 ht hvm hw hB hz1 hk1 hS1 => ?_)
  exact kk r u H1 locs1 hw (by rw [← ht]; exact hB.1) hB.2 hk1 hFc hS1

theorem cl_V_d {post : UInt64 → va_W → Prop} (F : CallFix p m c cc nL s args wsG own) (hK : KK D kA s) (hPc : va_P D vwCl wc H) (hDc : va_D A wc) (hS : va_S A H0 H locs) (hA : ∀ q, H0.size ≤ q → A q) (hM : CtD l y bytes maxL ret h D kA H.size wc (.ref b :: As) post) (w1 : Cond.code y bytes maxL (some ret) ∈ wsG) (w2 : Cond.initialized y.cls ∈ wsG) (w3 : Cond.methodLink own index y ∈ wsG) (w4 : Cond.instanceMethod y ∈ wsG) (w5 : Cond.selects C y y ∈ wsG) (hrv : ∃ cellB : Cell, H[b]? = some cellB ∧ cellB.vm.isStatics = false ∧ s.vm.findClass C = some cellB.cls) (hd : y.cls ≠ "java/lang/invoke/MethodHandle" ∧ y.cls ≠ "java/lang/invoke/VarHandle" ∧ (parseMethodDescriptor y.desc).map (fun d => d.parameters.length) = some As.length) (hR : h + 1 ≤ R.frames ∧ 8 + (maxL + 11) + 32 * h ≤ R.locals) (hsz : ls.size = nL) (hst : st0 = As.reverse ++ .ref b :: rest) (hsm : (rest.map fun v => v.category).sum ≤ 8) (hdg : decode cc pc = .ok (.invokevirtual index, 3)) (hf : cells ≤ R.cells ∧ slots ≤ R.slots) (kk : ∀ (r : UInt64) (u : va_W) (H1 : Heap) (locs1 : List Loc), post r u → va_P D vwCl u H1 → va_D (va_A wc H.size) u → (∀ q : Nat, q < H.size → ¬ va_A wc H.size q → H1[q]? = H[q]?) → (∀ q, va_A wc H.size q → A q) → va_S A H0 H1 locs1 → W p l e R s m args below meth c H1 locs1 cells slots Q (F0 m (pc + 3) ls (.double r :: rest))) : W p l e R s m args below meth c H locs cells slots Q (F0 m pc ls st0) := by
  subst hst
  have hFc := fr_of hDc hS hA
  refine va_calld (va_runV (As := As) (rest := rest) F hM (⟨callB_of As.length F.2.2.2.2 (gd_all w1) rfl rfl rfl (F.2.2.2.2 _ w2) (F.2.2.2.2 _ w3) hd hR, F.2.2.2.2 _ w4, F.2.2.2.2 _ w5⟩) ⟨cPre.blind, hrv, fun U hU hW => ⟨rfl, by rw [hU], by rw [hU]; exact hPc, KK.warm hW hK, hDc.weaken (fun _ _ _ _ => trivial)⟩⟩ rfl rfl hsz rfl (lv_room hsm) hdg hf) hS (fun q _ h => hFc q h) hFc (fun r u t H1 locs1 ht hvm hw hB hz1 hk1 hS1 => ?_)
  exact kk r u H1 locs1 hw (by rw [← ht]; exact hB.1) hB.2 hk1 hFc hS1

theorem cl_V_v {post : va_W → Prop} {mc ms : Nat} (F : CallFix p m c cc nL s args wsG own) (hK : KK D kA s) (hPc : va_P D vwCl wc H) (hDc : va_D A wc) (hS : va_S A H0 H locs) (hA : ∀ q, H0.size ≤ q → A q) (hM : CtV l y bytes maxL h mc ms D kA H.size wc (.ref b :: As) post) (w1 : Cond.code y bytes maxL none ∈ wsG) (w2 : Cond.initialized y.cls ∈ wsG) (w3 : Cond.methodLink own index y ∈ wsG) (w4 : Cond.instanceMethod y ∈ wsG) (w5 : Cond.selects C y y ∈ wsG) (hrv : ∃ cellB : Cell, H[b]? = some cellB ∧ cellB.vm.isStatics = false ∧ s.vm.findClass C = some cellB.cls) (hd : y.cls ≠ "java/lang/invoke/MethodHandle" ∧ y.cls ≠ "java/lang/invoke/VarHandle" ∧ (parseMethodDescriptor y.desc).map (fun d => d.parameters.length) = some As.length) (hR : h + 1 ≤ R.frames ∧ 8 + (maxL + 11) + 32 * h ≤ R.locals) (hsz : ls.size = nL) (hst : st0 = As.reverse ++ .ref b :: rest) (hsm : (rest.map fun v => v.category).sum ≤ 8) (hdg : decode cc pc = .ok (.invokevirtual index, 3)) (hf : cells + mc ≤ R.cells ∧ slots + ms ≤ R.slots) (kk : ∀ (u : va_W) (H1 : Heap) (locs1 : List Loc), post u → va_P D vwCl u H1 → va_D (va_A wc H.size) u → (∀ q : Nat, q < H.size → ¬ va_A wc H.size q → H1[q]? = H[q]?) → (∀ q, va_A wc H.size q → A q) → va_S A H0 H1 locs1 → W p l e R s m args below meth c H1 locs1 (cells + mc) (slots + ms) Q (F0 m (pc + 3) ls rest)) : W p l e R s m args below meth c H locs cells slots Q (F0 m pc ls st0) := by
  subst hst
  have hFc := fr_of hDc hS hA
  refine va_callv (va_runV (As := As) (rest := rest) F hM (⟨callB_of As.length F.2.2.2.2 (gd_all w1) rfl rfl rfl (F.2.2.2.2 _ w2) (F.2.2.2.2 _ w3) hd hR, F.2.2.2.2 _ w4, F.2.2.2.2 _ w5⟩) ⟨cPre.blind, hrv, fun U hU hW => ⟨rfl, by rw [hU], by rw [hU]; exact hPc, KK.warm hW hK, hDc.weaken (fun _ _ _ _ => trivial)⟩⟩ rfl rfl hsz rfl (lv_room hsm) hdg hf) hS (fun q _ h => hFc q h) hFc (fun u t H1 locs1 ht hvm hw hB hz1 hk1 hS1 => ?_)
  exact kk u H1 locs1 hw (by rw [← ht]; exact hB.1) hB.2 hk1 hFc hS1

theorem cl_VN_i {post : Int32 → va_W → Prop} (F : CallFix p m c cc nL s args wsG own) (hK : KK D kA s) (hPc : va_P D vwCl wc H) (hDc : va_D A wc) (hS : va_S A H0 H locs) (hA : ∀ q, H0.size ≤ q → A q) (hM : CtI l y bytes maxL ret h D kA H.size wc (.ref b :: As) post) (w1 : Cond.code y bytes maxL (some ret) ∈ wsG) (w2 : Cond.initialized y.cls ∈ wsG) (w3 : Cond.methodLinkNest own index y host ∈ nwL) (w4 : Cond.instanceMethod y ∈ wsG) (w5 : Cond.selects C y y ∈ wsG) (hrv : ∃ cellB : Cell, H[b]? = some cellB ∧ cellB.vm.isStatics = false ∧ s.vm.findClass C = some cellB.cls) (hd : y.cls ≠ "java/lang/invoke/MethodHandle" ∧ y.cls ≠ "java/lang/invoke/VarHandle" ∧ (parseMethodDescriptor y.desc).map (fun d => d.parameters.length) = some As.length) (hR : h + 1 ≤ R.frames ∧ 8 + (maxL + 11) + 32 * h ≤ R.locals) (hsz : ls.size = nL) (hst : st0 = As.reverse ++ .ref b :: rest) (hsm : (rest.map fun v => v.category).sum ≤ 8) (hdg : decode cc pc = .ok (.invokevirtual index, 3)) (hf : cells ≤ R.cells ∧ slots ≤ R.slots) (kk : ∀ (r : Int32) (u : va_W) (H1 : Heap) (locs1 : List Loc), post r u → va_P D vwCl u H1 → va_D (va_A wc H.size) u → (∀ q : Nat, q < H.size → ¬ va_A wc H.size q → H1[q]? = H[q]?) → (∀ q, va_A wc H.size q → A q) → va_S A H0 H1 locs1 → W p l e R s m args below meth c H1 locs1 cells slots Q (F0 m (pc + 3) ls (.int r :: rest))) : W p l e R s m args below meth c H locs cells slots Q (F0 m pc ls st0) := by
  subst hst
  have hFc := fr_of hDc hS hA
  refine va_calli (va_runVN (As := As) (rest := rest) F hM (⟨va_cnB As.length F.2.2.2.2 (gd_all w1) rfl rfl rfl (hK.2.1 _ w3) (F.2.2.2.2 _ w2) hd hR, F.2.2.2.2 _ w4, F.2.2.2.2 _ w5⟩) ⟨cPre.blind, hrv, fun U hU hW => ⟨rfl, by rw [hU], by rw [hU]; exact hPc, KK.warm hW hK, hDc.weaken (fun _ _ _ _ => trivial)⟩⟩ rfl rfl hsz rfl (lv_room hsm) hdg hf) hS (fun q _ h => hFc q h) hFc (fun r u t H1 locs1 ht hvm hw hB hz1 hk1 hS1 => ?_)
  exact kk r u H1 locs1 hw (by rw [← ht]; exact hB.1) hB.2 hk1 hFc hS1

theorem cl_VN_l {post : Int64 → va_W → Prop} (F : CallFix p m c cc nL s args wsG own) (hK : KK D kA s) (hPc : va_P D vwCl wc H) (hDc : va_D A wc) (hS : va_S A H0 H locs) (hA : ∀ q, H0.size ≤ q → A q) (hM : CtL l y bytes maxL ret h D kA H.size wc (.ref b :: As) post) (w1 : Cond.code y bytes maxL (some ret) ∈ wsG) (w2 : Cond.initialized y.cls ∈ wsG) (w3 : Cond.methodLinkNest own index y host ∈ nwL) (w4 : Cond.instanceMethod y ∈ wsG) (w5 : Cond.selects C y y ∈ wsG) (hrv : ∃ cellB : Cell, H[b]? = some cellB ∧ cellB.vm.isStatics = false ∧ s.vm.findClass C = some cellB.cls) (hd : y.cls ≠ "java/lang/invoke/MethodHandle" ∧ y.cls ≠ "java/lang/invoke/VarHandle" ∧ (parseMethodDescriptor y.desc).map (fun d => d.parameters.length) = some As.length) (hR : h + 1 ≤ R.frames ∧ 8 + (maxL + 11) + 32 * h ≤ R.locals) (hsz : ls.size = nL) (hst : st0 = As.reverse ++ .ref b :: rest) (hsm : (rest.map fun v => v.category).sum ≤ 8) (hdg : decode cc pc = .ok (.invokevirtual index, 3)) (hf : cells ≤ R.cells ∧ slots ≤ R.slots) (kk : ∀ (r : Int64) (u : va_W) (H1 : Heap) (locs1 : List Loc), post r u → va_P D vwCl u H1 → va_D (va_A wc H.size) u → (∀ q : Nat, q < H.size → ¬ va_A wc H.size q → H1[q]? = H[q]?) → (∀ q, va_A wc H.size q → A q) → va_S A H0 H1 locs1 → W p l e R s m args below meth c H1 locs1 cells slots Q (F0 m (pc + 3) ls (.long r :: rest))) : W p l e R s m args below meth c H locs cells slots Q (F0 m pc ls st0) := by
  subst hst
  have hFc := fr_of hDc hS hA
  refine va_calll (va_runVN (As := As) (rest := rest) F hM (⟨va_cnB As.length F.2.2.2.2 (gd_all w1) rfl rfl rfl (hK.2.1 _ w3) (F.2.2.2.2 _ w2) hd hR, F.2.2.2.2 _ w4, F.2.2.2.2 _ w5⟩) ⟨cPre.blind, hrv, fun U hU hW => ⟨rfl, by rw [hU], by rw [hU]; exact hPc, KK.warm hW hK, hDc.weaken (fun _ _ _ _ => trivial)⟩⟩ rfl rfl hsz rfl (lv_room hsm) hdg hf) hS (fun q _ h => hFc q h) hFc (fun r u t H1 locs1 ht hvm hw hB hz1 hk1 hS1 => ?_)
  exact kk r u H1 locs1 hw (by rw [← ht]; exact hB.1) hB.2 hk1 hFc hS1

theorem cl_VN_d {post : UInt64 → va_W → Prop} (F : CallFix p m c cc nL s args wsG own) (hK : KK D kA s) (hPc : va_P D vwCl wc H) (hDc : va_D A wc) (hS : va_S A H0 H locs) (hA : ∀ q, H0.size ≤ q → A q) (hM : CtD l y bytes maxL ret h D kA H.size wc (.ref b :: As) post) (w1 : Cond.code y bytes maxL (some ret) ∈ wsG) (w2 : Cond.initialized y.cls ∈ wsG) (w3 : Cond.methodLinkNest own index y host ∈ nwL) (w4 : Cond.instanceMethod y ∈ wsG) (w5 : Cond.selects C y y ∈ wsG) (hrv : ∃ cellB : Cell, H[b]? = some cellB ∧ cellB.vm.isStatics = false ∧ s.vm.findClass C = some cellB.cls) (hd : y.cls ≠ "java/lang/invoke/MethodHandle" ∧ y.cls ≠ "java/lang/invoke/VarHandle" ∧ (parseMethodDescriptor y.desc).map (fun d => d.parameters.length) = some As.length) (hR : h + 1 ≤ R.frames ∧ 8 + (maxL + 11) + 32 * h ≤ R.locals) (hsz : ls.size = nL) (hst : st0 = As.reverse ++ .ref b :: rest) (hsm : (rest.map fun v => v.category).sum ≤ 8) (hdg : decode cc pc = .ok (.invokevirtual index, 3)) (hf : cells ≤ R.cells ∧ slots ≤ R.slots) (kk : ∀ (r : UInt64) (u : va_W) (H1 : Heap) (locs1 : List Loc), post r u → va_P D vwCl u H1 → va_D (va_A wc H.size) u → (∀ q : Nat, q < H.size → ¬ va_A wc H.size q → H1[q]? = H[q]?) → (∀ q, va_A wc H.size q → A q) → va_S A H0 H1 locs1 → W p l e R s m args below meth c H1 locs1 cells slots Q (F0 m (pc + 3) ls (.double r :: rest))) : W p l e R s m args below meth c H locs cells slots Q (F0 m pc ls st0) := by
  subst hst
  have hFc := fr_of hDc hS hA
  refine va_calld (va_runVN (As := As) (rest := rest) F hM (⟨va_cnB As.length F.2.2.2.2 (gd_all w1) rfl rfl rfl (hK.2.1 _ w3) (F.2.2.2.2 _ w2) hd hR, F.2.2.2.2 _ w4, F.2.2.2.2 _ w5⟩) ⟨cPre.blind, hrv, fun U hU hW => ⟨rfl, by rw [hU], by rw [hU]; exact hPc, KK.warm hW hK, hDc.weaken (fun _ _ _ _ => trivial)⟩⟩ rfl rfl hsz rfl (lv_room hsm) hdg hf) hS (fun q _ h => hFc q h) hFc (fun r u t H1 locs1 ht hvm hw hB hz1 hk1 hS1 => ?_)
  exact kk r u H1 locs1 hw (by rw [← ht]; exact hB.1) hB.2 hk1 hFc hS1

theorem cl_VN_v {post : va_W → Prop} {mc ms : Nat} (F : CallFix p m c cc nL s args wsG own) (hK : KK D kA s) (hPc : va_P D vwCl wc H) (hDc : va_D A wc) (hS : va_S A H0 H locs) (hA : ∀ q, H0.size ≤ q → A q) (hM : CtV l y bytes maxL h mc ms D kA H.size wc (.ref b :: As) post) (w1 : Cond.code y bytes maxL none ∈ wsG) (w2 : Cond.initialized y.cls ∈ wsG) (w3 : Cond.methodLinkNest own index y host ∈ nwL) (w4 : Cond.instanceMethod y ∈ wsG) (w5 : Cond.selects C y y ∈ wsG) (hrv : ∃ cellB : Cell, H[b]? = some cellB ∧ cellB.vm.isStatics = false ∧ s.vm.findClass C = some cellB.cls) (hd : y.cls ≠ "java/lang/invoke/MethodHandle" ∧ y.cls ≠ "java/lang/invoke/VarHandle" ∧ (parseMethodDescriptor y.desc).map (fun d => d.parameters.length) = some As.length) (hR : h + 1 ≤ R.frames ∧ 8 + (maxL + 11) + 32 * h ≤ R.locals) (hsz : ls.size = nL) (hst : st0 = As.reverse ++ .ref b :: rest) (hsm : (rest.map fun v => v.category).sum ≤ 8) (hdg : decode cc pc = .ok (.invokevirtual index, 3)) (hf : cells + mc ≤ R.cells ∧ slots + ms ≤ R.slots) (kk : ∀ (u : va_W) (H1 : Heap) (locs1 : List Loc), post u → va_P D vwCl u H1 → va_D (va_A wc H.size) u → (∀ q : Nat, q < H.size → ¬ va_A wc H.size q → H1[q]? = H[q]?) → (∀ q, va_A wc H.size q → A q) → va_S A H0 H1 locs1 → W p l e R s m args below meth c H1 locs1 (cells + mc) (slots + ms) Q (F0 m (pc + 3) ls rest)) : W p l e R s m args below meth c H locs cells slots Q (F0 m pc ls st0) := by
  subst hst
  have hFc := fr_of hDc hS hA
  refine va_callv (va_runVN (As := As) (rest := rest) F hM (⟨va_cnB As.length F.2.2.2.2 (gd_all w1) rfl rfl rfl (hK.2.1 _ w3) (F.2.2.2.2 _ w2) hd hR, F.2.2.2.2 _ w4, F.2.2.2.2 _ w5⟩) ⟨cPre.blind, hrv, fun U hU hW => ⟨rfl, by rw [hU], by rw [hU]; exact hPc, KK.warm hW hK, hDc.weaken (fun _ _ _ _ => trivial)⟩⟩ rfl rfl hsz rfl (lv_room hsm) hdg hf) hS (fun q _ h => hFc q h) hFc (fun u t H1 locs1 ht hvm hw hB hz1 hk1 hS1 => ?_)
  exact kk u H1 locs1 hw (by rw [← ht]; exact hB.1) hB.2 hk1 hFc hS1

theorem cl_S_i {post : Int32 → va_W → Prop} (F : CallFix p m c cc nL s args wsG own) (hK : KK D kA s) (hPc : va_P D vwCl wc H) (hDc : va_D A wc) (hS : va_S A H0 H locs) (hA : ∀ q, H0.size ≤ q → A q) (hM : CtI l y bytes maxL ret h D kA H.size wc As post) (w1 : Cond.code y bytes maxL (some ret) ∈ wsG) (w2 : Cond.initialized y.cls ∈ wsG) (w3 : Cond.methodLink own index y ∈ wsG) (w4 : Cond.static y ∈ wsG) (hd : y.cls ≠ "java/lang/invoke/MethodHandle" ∧ y.cls ≠ "java/lang/invoke/VarHandle" ∧ (parseMethodDescriptor y.desc).map (fun d => d.parameters.length) = some As.length) (hR : h + 1 ≤ R.frames ∧ 8 + (maxL + 11) + 32 * h ≤ R.locals) (hsz : ls.size = nL) (hst : st0 = As.reverse ++ rest) (hsm : (rest.map fun v => v.category).sum ≤ 8) (hdg : decode cc pc = .ok (.invokestatic index, 3)) (hf : cells ≤ R.cells ∧ slots ≤ R.slots) (kk : ∀ (r : Int32) (u : va_W) (H1 : Heap) (locs1 : List Loc), post r u → va_P D vwCl u H1 → va_D (va_A wc H.size) u → (∀ q : Nat, q < H.size → ¬ va_A wc H.size q → H1[q]? = H[q]?) → (∀ q, va_A wc H.size q → A q) → va_S A H0 H1 locs1 → W p l e R s m args below meth c H1 locs1 cells slots Q (F0 m (pc + 3) ls (.int r :: rest))) : W p l e R s m args below meth c H locs cells slots Q (F0 m pc ls st0) := by
  subst hst
  have hFc := fr_of hDc hS hA
  refine va_calli (va_runS (As := As) (rest := rest) F hM (⟨callB_of As.length F.2.2.2.2 (gd_all w1) rfl rfl rfl (F.2.2.2.2 _ w2) (F.2.2.2.2 _ w3) hd hR, F.2.2.2.2 _ w4⟩) ⟨cPre.blind, fun U hU hW => ⟨rfl, by rw [hU], by rw [hU]; exact hPc, KK.warm hW hK, hDc.weaken (fun _ _ _ _ => trivial)⟩⟩ rfl rfl hsz rfl (lv_room hsm) hdg hf) hS (fun q _ h => hFc q h) hFc (fun r u t H1 locs1 ht hvm hw hB hz1 hk1 hS1 => ?_)
  exact kk r u H1 locs1 hw (by rw [← ht]; exact hB.1) hB.2 hk1 hFc hS1

theorem cl_S_l {post : Int64 → va_W → Prop} (F : CallFix p m c cc nL s args wsG own) (hK : KK D kA s) (hPc : va_P D vwCl wc H) (hDc : va_D A wc) (hS : va_S A H0 H locs) (hA : ∀ q, H0.size ≤ q → A q) (hM : CtL l y bytes maxL ret h D kA H.size wc As post) (w1 : Cond.code y bytes maxL (some ret) ∈ wsG) (w2 : Cond.initialized y.cls ∈ wsG) (w3 : Cond.methodLink own index y ∈ wsG) (w4 : Cond.static y ∈ wsG) (hd : y.cls ≠ "java/lang/invoke/MethodHandle" ∧ y.cls ≠ "java/lang/invoke/VarHandle" ∧ (parseMethodDescriptor y.desc).map (fun d => d.parameters.length) = some As.length) (hR : h + 1 ≤ R.frames ∧ 8 + (maxL + 11) + 32 * h ≤ R.locals) (hsz : ls.size = nL) (hst : st0 = As.reverse ++ rest) (hsm : (rest.map fun v => v.category).sum ≤ 8) (hdg : decode cc pc = .ok (.invokestatic index, 3)) (hf : cells ≤ R.cells ∧ slots ≤ R.slots) (kk : ∀ (r : Int64) (u : va_W) (H1 : Heap) (locs1 : List Loc), post r u → va_P D vwCl u H1 → va_D (va_A wc H.size) u → (∀ q : Nat, q < H.size → ¬ va_A wc H.size q → H1[q]? = H[q]?) → (∀ q, va_A wc H.size q → A q) → va_S A H0 H1 locs1 → W p l e R s m args below meth c H1 locs1 cells slots Q (F0 m (pc + 3) ls (.long r :: rest))) : W p l e R s m args below meth c H locs cells slots Q (F0 m pc ls st0) := by
  subst hst
  have hFc := fr_of hDc hS hA
  refine va_calll (va_runS (As := As) (rest := rest) F hM (⟨callB_of As.length F.2.2.2.2 (gd_all w1) rfl rfl rfl (F.2.2.2.2 _ w2) (F.2.2.2.2 _ w3) hd hR, F.2.2.2.2 _ w4⟩) ⟨cPre.blind, fun U hU hW => ⟨rfl, by rw [hU], by rw [hU]; exact hPc, KK.warm hW hK, hDc.weaken (fun _ _ _ _ => trivial)⟩⟩ rfl rfl hsz rfl (lv_room hsm) hdg hf) hS (fun q _ h => hFc q h) hFc (fun r u t H1 locs1 ht hvm hw hB hz1 hk1 hS1 => ?_)
  exact kk r u H1 locs1 hw (by rw [← ht]; exact hB.1) hB.2 hk1 hFc hS1

theorem cl_S_d {post : UInt64 → va_W → Prop} (F : CallFix p m c cc nL s args wsG own) (hK : KK D kA s) (hPc : va_P D vwCl wc H) (hDc : va_D A wc) (hS : va_S A H0 H locs) (hA : ∀ q, H0.size ≤ q → A q) (hM : CtD l y bytes maxL ret h D kA H.size wc As post) (w1 : Cond.code y bytes maxL (some ret) ∈ wsG) (w2 : Cond.initialized y.cls ∈ wsG) (w3 : Cond.methodLink own index y ∈ wsG) (w4 : Cond.static y ∈ wsG) (hd : y.cls ≠ "java/lang/invoke/MethodHandle" ∧ y.cls ≠ "java/lang/invoke/VarHandle" ∧ (parseMethodDescriptor y.desc).map (fun d => d.parameters.length) = some As.length) (hR : h + 1 ≤ R.frames ∧ 8 + (maxL + 11) + 32 * h ≤ R.locals) (hsz : ls.size = nL) (hst : st0 = As.reverse ++ rest) (hsm : (rest.map fun v => v.category).sum ≤ 8) (hdg : decode cc pc = .ok (.invokestatic index, 3)) (hf : cells ≤ R.cells ∧ slots ≤ R.slots) (kk : ∀ (r : UInt64) (u : va_W) (H1 : Heap) (locs1 : List Loc), post r u → va_P D vwCl u H1 → va_D (va_A wc H.size) u → (∀ q : Nat, q < H.size → ¬ va_A wc H.size q → H1[q]? = H[q]?) → (∀ q, va_A wc H.size q → A q) → va_S A H0 H1 locs1 → W p l e R s m args below meth c H1 locs1 cells slots Q (F0 m (pc + 3) ls (.double r :: rest))) : W p l e R s m args below meth c H locs cells slots Q (F0 m pc ls st0) := by
  subst hst
  have hFc := fr_of hDc hS hA
  refine va_calld (va_runS (As := As) (rest := rest) F hM (⟨callB_of As.length F.2.2.2.2 (gd_all w1) rfl rfl rfl (F.2.2.2.2 _ w2) (F.2.2.2.2 _ w3) hd hR, F.2.2.2.2 _ w4⟩) ⟨cPre.blind, fun U hU hW => ⟨rfl, by rw [hU], by rw [hU]; exact hPc, KK.warm hW hK, hDc.weaken (fun _ _ _ _ => trivial)⟩⟩ rfl rfl hsz rfl (lv_room hsm) hdg hf) hS (fun q _ h => hFc q h) hFc (fun r u t H1 locs1 ht hvm hw hB hz1 hk1 hS1 => ?_)
  exact kk r u H1 locs1 hw (by rw [← ht]; exact hB.1) hB.2 hk1 hFc hS1

theorem cl_S_v {post : va_W → Prop} {mc ms : Nat} (F : CallFix p m c cc nL s args wsG own) (hK : KK D kA s) (hPc : va_P D vwCl wc H) (hDc : va_D A wc) (hS : va_S A H0 H locs) (hA : ∀ q, H0.size ≤ q → A q) (hM : CtV l y bytes maxL h mc ms D kA H.size wc As post) (w1 : Cond.code y bytes maxL none ∈ wsG) (w2 : Cond.initialized y.cls ∈ wsG) (w3 : Cond.methodLink own index y ∈ wsG) (w4 : Cond.static y ∈ wsG) (hd : y.cls ≠ "java/lang/invoke/MethodHandle" ∧ y.cls ≠ "java/lang/invoke/VarHandle" ∧ (parseMethodDescriptor y.desc).map (fun d => d.parameters.length) = some As.length) (hR : h + 1 ≤ R.frames ∧ 8 + (maxL + 11) + 32 * h ≤ R.locals) (hsz : ls.size = nL) (hst : st0 = As.reverse ++ rest) (hsm : (rest.map fun v => v.category).sum ≤ 8) (hdg : decode cc pc = .ok (.invokestatic index, 3)) (hf : cells + mc ≤ R.cells ∧ slots + ms ≤ R.slots) (kk : ∀ (u : va_W) (H1 : Heap) (locs1 : List Loc), post u → va_P D vwCl u H1 → va_D (va_A wc H.size) u → (∀ q : Nat, q < H.size → ¬ va_A wc H.size q → H1[q]? = H[q]?) → (∀ q, va_A wc H.size q → A q) → va_S A H0 H1 locs1 → W p l e R s m args below meth c H1 locs1 (cells + mc) (slots + ms) Q (F0 m (pc + 3) ls rest)) : W p l e R s m args below meth c H locs cells slots Q (F0 m pc ls st0) := by
  subst hst
  have hFc := fr_of hDc hS hA
  refine va_callv (va_runS (As := As) (rest := rest) F hM (⟨callB_of As.length F.2.2.2.2 (gd_all w1) rfl rfl rfl (F.2.2.2.2 _ w2) (F.2.2.2.2 _ w3) hd hR, F.2.2.2.2 _ w4⟩) ⟨cPre.blind, fun U hU hW => ⟨rfl, by rw [hU], by rw [hU]; exact hPc, KK.warm hW hK, hDc.weaken (fun _ _ _ _ => trivial)⟩⟩ rfl rfl hsz rfl (lv_room hsm) hdg hf) hS (fun q _ h => hFc q h) hFc (fun u t H1 locs1 ht hvm hw hB hz1 hk1 hS1 => ?_)
  exact kk u H1 locs1 hw (by rw [← ht]; exact hB.1) hB.2 hk1 hFc hS1

theorem cl_SN_i {post : Int32 → va_W → Prop} (F : CallFix p m c cc nL s args wsG own) (hK : KK D kA s) (hPc : va_P D vwCl wc H) (hDc : va_D A wc) (hS : va_S A H0 H locs) (hA : ∀ q, H0.size ≤ q → A q) (hM : CtI l y bytes maxL ret h D kA H.size wc As post) (w1 : Cond.code y bytes maxL (some ret) ∈ wsG) (w2 : Cond.initialized y.cls ∈ wsG) (w3 : Cond.methodLinkNest own index y host ∈ nwL) (w4 : Cond.static y ∈ wsG) (hd : y.cls ≠ "java/lang/invoke/MethodHandle" ∧ y.cls ≠ "java/lang/invoke/VarHandle" ∧ (parseMethodDescriptor y.desc).map (fun d => d.parameters.length) = some As.length) (hR : h + 1 ≤ R.frames ∧ 8 + (maxL + 11) + 32 * h ≤ R.locals) (hsz : ls.size = nL) (hst : st0 = As.reverse ++ rest) (hsm : (rest.map fun v => v.category).sum ≤ 8) (hdg : decode cc pc = .ok (.invokestatic index, 3)) (hf : cells ≤ R.cells ∧ slots ≤ R.slots) (kk : ∀ (r : Int32) (u : va_W) (H1 : Heap) (locs1 : List Loc), post r u → va_P D vwCl u H1 → va_D (va_A wc H.size) u → (∀ q : Nat, q < H.size → ¬ va_A wc H.size q → H1[q]? = H[q]?) → (∀ q, va_A wc H.size q → A q) → va_S A H0 H1 locs1 → W p l e R s m args below meth c H1 locs1 cells slots Q (F0 m (pc + 3) ls (.int r :: rest))) : W p l e R s m args below meth c H locs cells slots Q (F0 m pc ls st0) := by
  subst hst
  have hFc := fr_of hDc hS hA
  refine va_calli (va_runSN (As := As) (rest := rest) F hM (⟨va_cnB As.length F.2.2.2.2 (gd_all w1) rfl rfl rfl (hK.2.1 _ w3) (F.2.2.2.2 _ w2) hd hR, F.2.2.2.2 _ w4, trivial⟩) ⟨cPre.blind, fun U hU hW => ⟨rfl, by rw [hU], by rw [hU]; exact hPc, KK.warm hW hK, hDc.weaken (fun _ _ _ _ => trivial)⟩⟩ rfl rfl hsz rfl (lv_room hsm) hdg hf) hS (fun q _ h => hFc q h) hFc (fun r u t H1 locs1 ht hvm hw hB hz1 hk1 hS1 => ?_)
  exact kk r u H1 locs1 hw (by rw [← ht]; exact hB.1) hB.2 hk1 hFc hS1

theorem cl_SN_l {post : Int64 → va_W → Prop} (F : CallFix p m c cc nL s args wsG own) (hK : KK D kA s) (hPc : va_P D vwCl wc H) (hDc : va_D A wc) (hS : va_S A H0 H locs) (hA : ∀ q, H0.size ≤ q → A q) (hM : CtL l y bytes maxL ret h D kA H.size wc As post) (w1 : Cond.code y bytes maxL (some ret) ∈ wsG) (w2 : Cond.initialized y.cls ∈ wsG) (w3 : Cond.methodLinkNest own index y host ∈ nwL) (w4 : Cond.static y ∈ wsG) (hd : y.cls ≠ "java/lang/invoke/MethodHandle" ∧ y.cls ≠ "java/lang/invoke/VarHandle" ∧ (parseMethodDescriptor y.desc).map (fun d => d.parameters.length) = some As.length) (hR : h + 1 ≤ R.frames ∧ 8 + (maxL + 11) + 32 * h ≤ R.locals) (hsz : ls.size = nL) (hst : st0 = As.reverse ++ rest) (hsm : (rest.map fun v => v.category).sum ≤ 8) (hdg : decode cc pc = .ok (.invokestatic index, 3)) (hf : cells ≤ R.cells ∧ slots ≤ R.slots) (kk : ∀ (r : Int64) (u : va_W) (H1 : Heap) (locs1 : List Loc), post r u → va_P D vwCl u H1 → va_D (va_A wc H.size) u → (∀ q : Nat, q < H.size → ¬ va_A wc H.size q → H1[q]? = H[q]?) → (∀ q, va_A wc H.size q → A q) → va_S A H0 H1 locs1 → W p l e R s m args below meth c H1 locs1 cells slots Q (F0 m (pc + 3) ls (.long r :: rest))) : W p l e R s m args below meth c H locs cells slots Q (F0 m pc ls st0) := by
  subst hst
  have hFc := fr_of hDc hS hA
  refine va_calll (va_runSN (As := As) (rest := rest) F hM (⟨va_cnB As.length F.2.2.2.2 (gd_all w1) rfl rfl rfl (hK.2.1 _ w3) (F.2.2.2.2 _ w2) hd hR, F.2.2.2.2 _ w4, trivial⟩) ⟨cPre.blind, fun U hU hW => ⟨rfl, by rw [hU], by rw [hU]; exact hPc, KK.warm hW hK, hDc.weaken (fun _ _ _ _ => trivial)⟩⟩ rfl rfl hsz rfl (lv_room hsm) hdg hf) hS (fun q _ h => hFc q h) hFc (fun r u t H1 locs1 ht hvm hw hB hz1 hk1 hS1 => ?_)
  exact kk r u H1 locs1 hw (by rw [← ht]; exact hB.1) hB.2 hk1 hFc hS1

theorem cl_SN_d {post : UInt64 → va_W → Prop} (F : CallFix p m c cc nL s args wsG own) (hK : KK D kA s) (hPc : va_P D vwCl wc H) (hDc : va_D A wc) (hS : va_S A H0 H locs) (hA : ∀ q, H0.size ≤ q → A q) (hM : CtD l y bytes maxL ret h D kA H.size wc As post) (w1 : Cond.code y bytes maxL (some ret) ∈ wsG) (w2 : Cond.initialized y.cls ∈ wsG) (w3 : Cond.methodLinkNest own index y host ∈ nwL) (w4 : Cond.static y ∈ wsG) (hd : y.cls ≠ "java/lang/invoke/MethodHandle" ∧ y.cls ≠ "java/lang/invoke/VarHandle" ∧ (parseMethodDescriptor y.desc).map (fun d => d.parameters.length) = some As.length) (hR : h + 1 ≤ R.frames ∧ 8 + (maxL + 11) + 32 * h ≤ R.locals) (hsz : ls.size = nL) (hst : st0 = As.reverse ++ rest) (hsm : (rest.map fun v => v.category).sum ≤ 8) (hdg : decode cc pc = .ok (.invokestatic index, 3)) (hf : cells ≤ R.cells ∧ slots ≤ R.slots) (kk : ∀ (r : UInt64) (u : va_W) (H1 : Heap) (locs1 : List Loc), post r u → va_P D vwCl u H1 → va_D (va_A wc H.size) u → (∀ q : Nat, q < H.size → ¬ va_A wc H.size q → H1[q]? = H[q]?) → (∀ q, va_A wc H.size q → A q) → va_S A H0 H1 locs1 → W p l e R s m args below meth c H1 locs1 cells slots Q (F0 m (pc + 3) ls (.double r :: rest))) : W p l e R s m args below meth c H locs cells slots Q (F0 m pc ls st0) := by
  subst hst
  have hFc := fr_of hDc hS hA
  refine va_calld (va_runSN (As := As) (rest := rest) F hM (⟨va_cnB As.length F.2.2.2.2 (gd_all w1) rfl rfl rfl (hK.2.1 _ w3) (F.2.2.2.2 _ w2) hd hR, F.2.2.2.2 _ w4, trivial⟩) ⟨cPre.blind, fun U hU hW => ⟨rfl, by rw [hU], by rw [hU]; exact hPc, KK.warm hW hK, hDc.weaken (fun _ _ _ _ => trivial)⟩⟩ rfl rfl hsz rfl (lv_room hsm) hdg hf) hS (fun q _ h => hFc q h) hFc (fun r u t H1 locs1 ht hvm hw hB hz1 hk1 hS1 => ?_)
  exact kk r u H1 locs1 hw (by rw [← ht]; exact hB.1) hB.2 hk1 hFc hS1

theorem cl_SN_v {post : va_W → Prop} {mc ms : Nat} (F : CallFix p m c cc nL s args wsG own) (hK : KK D kA s) (hPc : va_P D vwCl wc H) (hDc : va_D A wc) (hS : va_S A H0 H locs) (hA : ∀ q, H0.size ≤ q → A q) (hM : CtV l y bytes maxL h mc ms D kA H.size wc As post) (w1 : Cond.code y bytes maxL none ∈ wsG) (w2 : Cond.initialized y.cls ∈ wsG) (w3 : Cond.methodLinkNest own index y host ∈ nwL) (w4 : Cond.static y ∈ wsG) (hd : y.cls ≠ "java/lang/invoke/MethodHandle" ∧ y.cls ≠ "java/lang/invoke/VarHandle" ∧ (parseMethodDescriptor y.desc).map (fun d => d.parameters.length) = some As.length) (hR : h + 1 ≤ R.frames ∧ 8 + (maxL + 11) + 32 * h ≤ R.locals) (hsz : ls.size = nL) (hst : st0 = As.reverse ++ rest) (hsm : (rest.map fun v => v.category).sum ≤ 8) (hdg : decode cc pc = .ok (.invokestatic index, 3)) (hf : cells + mc ≤ R.cells ∧ slots + ms ≤ R.slots) (kk : ∀ (u : va_W) (H1 : Heap) (locs1 : List Loc), post u → va_P D vwCl u H1 → va_D (va_A wc H.size) u → (∀ q : Nat, q < H.size → ¬ va_A wc H.size q → H1[q]? = H[q]?) → (∀ q, va_A wc H.size q → A q) → va_S A H0 H1 locs1 → W p l e R s m args below meth c H1 locs1 (cells + mc) (slots + ms) Q (F0 m (pc + 3) ls rest)) : W p l e R s m args below meth c H locs cells slots Q (F0 m pc ls st0) := by
  subst hst
  have hFc := fr_of hDc hS hA
  refine va_callv (va_runSN (As := As) (rest := rest) F hM (⟨va_cnB As.length F.2.2.2.2 (gd_all w1) rfl rfl rfl (hK.2.1 _ w3) (F.2.2.2.2 _ w2) hd hR, F.2.2.2.2 _ w4, trivial⟩) ⟨cPre.blind, fun U hU hW => ⟨rfl, by rw [hU], by rw [hU]; exact hPc, KK.warm hW hK, hDc.weaken (fun _ _ _ _ => trivial)⟩⟩ rfl rfl hsz rfl (lv_room hsm) hdg hf) hS (fun q _ h => hFc q h) hFc (fun u t H1 locs1 ht hvm hw hB hz1 hk1 hS1 => ?_)
  exact kk u H1 locs1 hw (by rw [← ht]; exact hB.1) hB.2 hk1 hFc hS1

theorem cl_I_v {post : va_W → Prop} {mc ms : Nat} (F : CallFix p m c cc nL s args wsG own) (hK : KK D kA s) (hPc : va_P D vwCl wc H) (hDc : va_D A wc) (hS : va_S A H0 H locs) (hA : ∀ q, H0.size ≤ q → A q) (hM : CtV l y bytes maxL h mc ms D kA H.size wc (.ref b :: As) post) (w1 : Cond.code y bytes maxL none ∈ wsG) (w2 : Cond.initialized y.cls ∈ wsG) (w3 : Cond.methodLink own index y ∈ wsG) (w4 : Cond.instanceMethod y ∈ wsG) (hyn : y.name = "<init>") (hd : y.cls ≠ "java/lang/invoke/MethodHandle" ∧ y.cls ≠ "java/lang/invoke/VarHandle" ∧ (parseMethodDescriptor y.desc).map (fun d => d.parameters.length) = some As.length) (hR : h + 1 ≤ R.frames ∧ 8 + (maxL + 11) + 32 * h ≤ R.locals) (hsz : ls.size = nL) (hst : st0 = As.reverse ++ .ref b :: rest) (hsm : (rest.map fun v => v.category).sum ≤ 8) (hdg : decode cc pc = .ok (.invokespecial index, 3)) (hf : cells + mc ≤ R.cells ∧ slots + ms ≤ R.slots) (kk : ∀ (u : va_W) (H1 : Heap) (locs1 : List Loc), post u → va_P D vwCl u H1 → va_D (va_A wc H.size) u → (∀ q : Nat, q < H.size → ¬ va_A wc H.size q → H1[q]? = H[q]?) → (∀ q, va_A wc H.size q → A q) → va_S A H0 H1 locs1 → W p l e R s m args below meth c H1 locs1 (cells + mc) (slots + ms) Q (F0 m (pc + 3) ls rest)) : W p l e R s m args below meth c H locs cells slots Q (F0 m pc ls st0) := by
  subst hst
  have hFc := fr_of hDc hS hA
  refine va_callv (va_runI (As := As) (rest := rest) F hM (⟨callB_of As.length F.2.2.2.2 (gd_all w1) rfl rfl rfl (F.2.2.2.2 _ w2) (F.2.2.2.2 _ w3) hd hR, hyn, F.2.2.2.2 _ w4⟩) ⟨cPre.blind, fun U hU hW => ⟨rfl, by rw [hU], by rw [hU]; exact hPc, KK.warm hW hK, hDc.weaken (fun _ _ _ _ => trivial)⟩⟩ rfl rfl hsz rfl (lv_room hsm) hdg hf) hS (fun q _ h => hFc q h) hFc (fun u t H1 locs1 ht hvm hw hB hz1 hk1 hS1 => ?_)
  exact kk u H1 locs1 hw (by rw [← ht]; exact hB.1) hB.2 hk1 hFc hS1

theorem cl_IN_v {post : va_W → Prop} {mc ms : Nat} (F : CallFix p m c cc nL s args wsG own) (hK : KK D kA s) (hPc : va_P D vwCl wc H) (hDc : va_D A wc) (hS : va_S A H0 H locs) (hA : ∀ q, H0.size ≤ q → A q) (hM : CtV l y bytes maxL h mc ms D kA H.size wc (.ref b :: As) post) (w1 : Cond.code y bytes maxL none ∈ wsG) (w2 : Cond.initialized y.cls ∈ wsG) (w3 : Cond.methodLinkNest own index y host ∈ nwL) (w4 : Cond.instanceMethod y ∈ wsG) (hyn : y.name = "<init>") (hd : y.cls ≠ "java/lang/invoke/MethodHandle" ∧ y.cls ≠ "java/lang/invoke/VarHandle" ∧ (parseMethodDescriptor y.desc).map (fun d => d.parameters.length) = some As.length) (hR : h + 1 ≤ R.frames ∧ 8 + (maxL + 11) + 32 * h ≤ R.locals) (hsz : ls.size = nL) (hst : st0 = As.reverse ++ .ref b :: rest) (hsm : (rest.map fun v => v.category).sum ≤ 8) (hdg : decode cc pc = .ok (.invokespecial index, 3)) (hf : cells + mc ≤ R.cells ∧ slots + ms ≤ R.slots) (kk : ∀ (u : va_W) (H1 : Heap) (locs1 : List Loc), post u → va_P D vwCl u H1 → va_D (va_A wc H.size) u → (∀ q : Nat, q < H.size → ¬ va_A wc H.size q → H1[q]? = H[q]?) → (∀ q, va_A wc H.size q → A q) → va_S A H0 H1 locs1 → W p l e R s m args below meth c H1 locs1 (cells + mc) (slots + ms) Q (F0 m (pc + 3) ls rest)) : W p l e R s m args below meth c H locs cells slots Q (F0 m pc ls st0) := by
  subst hst
  have hFc := fr_of hDc hS hA
  refine va_callv (va_runIN (As := As) (rest := rest) F hM (⟨va_cnB As.length F.2.2.2.2 (gd_all w1) rfl rfl rfl (hK.2.1 _ w3) (F.2.2.2.2 _ w2) hd hR, hyn, F.2.2.2.2 _ w4⟩) ⟨cPre.blind, fun U hU hW => ⟨rfl, by rw [hU], by rw [hU]; exact hPc, KK.warm hW hK, hDc.weaken (fun _ _ _ _ => trivial)⟩⟩ rfl rfl hsz rfl (lv_room hsm) hdg hf) hS (fun q _ h => hFc q h) hFc (fun u t H1 locs1 ht hvm hw hB hz1 hk1 hS1 => ?_)
  exact kk u H1 locs1 hw (by rw [← ht]; exact hB.1) hB.2 hk1 hFc hS1

end CL

section FA
variable {p : Program} {l : Launch} {e : Env} {R : Room} {s : State} {m : MethodId} {args : Array Value} {below : List Frame} {meth : Method} {c : Code} {H H0 : Heap} {locs : List Loc} {cells slots : Nat} {Q : State → Prop} {cc : ByteArray} {pc nL : Nat} {ls : Array Slot} {rest : List Value} {D : va_G} {kA : Nat → ClassId} {A : Nat → Prop} {a : Nat} {ws : va_W} {own C host : String} {T : u_T} {N ci index : Nat} {fs : List Value} {v : Value}
theorem g_get (F : CallFix p m c cc nL s args wsG own) (hK : KK D kA s) (hP : va_P D vwCl ws H) (hin : ∀ w ∈ u_ws C T N, w ∈ wsG) (q0 : Nat) (he : ws[q0]? = some (a, .inr (ci, fs))) (hc : vwCl[ci]? = some (C, T, N)) (k : Nat) (hk : k < N) (hl : Cond.fieldLink own index C (T k).2.1 (T k).2.2.1 ∈ wsG) (hs : (T k).1 = C) (hv : fs[k]? = some v) (hdg : decode cc pc = .ok (.getfield index, 3)) (kk : W p l e R s m args below meth c H locs cells slots Q (F0 m (pc + 3) ls (v :: rest))) : W p l e R s m args below meth c H locs cells slots Q (F0 m pc ls (.ref a :: rest)) :=
  va_get F.1 F.2.1 F.2.2.2.2 hin F.2.2.2.1 hK.1 hP q0 he hc k hk (F.2.2.2.2 _ hl) (fun x h => by rw [← hs]; exact h) hv hdg kk
theorem g_getN (F : CallFix p m c cc nL s args wsG own) (hK : KK D kA s) (hP : va_P D vwCl ws H) (hin : ∀ w ∈ u_ws C T N, w ∈ wsG) (q0 : Nat) (he : ws[q0]? = some (a, .inr (ci, fs))) (hc : vwCl[ci]? = some (C, T, N)) (k : Nat) (hk : k < N) (hl : Cond.fieldLinkNest own index C (T k).2.1 (T k).2.2.1 host ∈ nwL) (hs : (T k).1 = C) (hv : fs[k]? = some v) (hdg : decode cc pc = .ok (.getfield index, 3)) (kk : W p l e R s m args below meth c H locs cells slots Q (F0 m (pc + 3) ls (v :: rest))) : W p l e R s m args below meth c H locs cells slots Q (F0 m pc ls (.ref a :: rest)) :=
  va_getN F.1 F.2.1 F.2.2.2.2 hin F.2.2.2.1 hK.1 hP q0 he hc k hk (hK.nw hl _) (fun x h => by rw [← hs]; exact h) hv hdg kk
theorem g_put (F : CallFix p m c cc nL s args wsG own) (hK : KK D kA s) (hP : va_P D vwCl ws H) (hD : va_D A ws) (hS : va_S A H0 H locs) (hin : ∀ w ∈ u_ws C T N, w ∈ wsG) {ty0 : Nat → FieldType} (hty : ∀ k, k < N → parseFieldDescriptor (T k).2.2.1 = some (ty0 k)) (hnm : ∀ a, a < N → ∀ b, b < N → a ≠ b → (T a).2.1 ≠ (T b).2.1) (q0 : Nat) (he : ws[q0]? = some (a, .inr (ci, fs))) (hc : vwCl[ci]? = some (C, T, N)) (k : Nat) (hk : k < N) (hl : Cond.fieldLink own index C (T k).2.1 (T k).2.2.1 ∈ wsG) (hs : (T k).1 = C) (hfin : (T k).2.2.2 = false) (hn : narrow (ty0 k) v = v) (hfit : fits (ty0 k) v = true) (hlen : k < fs.length) (hdg : decode cc pc = .ok (.putfield index, 3))
    (kk : ∀ (H1 : Heap) (locs1 : List Loc), va_P D vwCl (ws.set q0 (a, .inr (ci, fs.set k v))) H1 → va_D A (ws.set q0 (a, .inr (ci, fs.set k v))) → va_S A H0 H1 locs1 → W p l e R s m args below meth c H1 locs1 cells slots Q (F0 m (pc + 3) ls rest)) : W p l e R s m args below meth c H locs cells slots Q (F0 m pc ls (v :: .ref a :: rest)) :=
  va_put F.1 F.2.1 F.2.2.2.2 hin ty0 hty hnm F.2.2.2.1 hK.1 hP hD hS q0 he hc k hk (F.2.2.2.2 _ hl) (fun x h => by rw [← hs]; exact h) hfin (hty k hk) hn hfit hlen hdg kk
theorem g_putN (F : CallFix p m c cc nL s args wsG own) (hK : KK D kA s) (hP : va_P D vwCl ws H) (hD : va_D A ws) (hS : va_S A H0 H locs) (hin : ∀ w ∈ u_ws C T N, w ∈ wsG) {ty0 : Nat → FieldType} (hty : ∀ k, k < N → parseFieldDescriptor (T k).2.2.1 = some (ty0 k)) (hnm : ∀ a, a < N → ∀ b, b < N → a ≠ b → (T a).2.1 ≠ (T b).2.1) (q0 : Nat) (he : ws[q0]? = some (a, .inr (ci, fs))) (hc : vwCl[ci]? = some (C, T, N)) (k : Nat) (hk : k < N) (hl : Cond.fieldLinkNest own index C (T k).2.1 (T k).2.2.1 host ∈ nwL) (hs : (T k).1 = C) (hfin : (T k).2.2.2 = false) (hn : narrow (ty0 k) v = v) (hfit : fits (ty0 k) v = true) (hlen : k < fs.length) (hdg : decode cc pc = .ok (.putfield index, 3))
    (kk : ∀ (H1 : Heap) (locs1 : List Loc), va_P D vwCl (ws.set q0 (a, .inr (ci, fs.set k v))) H1 → va_D A (ws.set q0 (a, .inr (ci, fs.set k v))) → va_S A H0 H1 locs1 → W p l e R s m args below meth c H1 locs1 cells slots Q (F0 m (pc + 3) ls rest)) : W p l e R s m args below meth c H locs cells slots Q (F0 m pc ls (v :: .ref a :: rest)) :=
  va_putN F.1 F.2.1 F.2.2.2.2 hin ty0 hty hnm F.2.2.2.1 hK.1 hP hD hS q0 he hc k hk (hK.nw hl _) (fun x h => by rw [← hs]; exact h) hfin (hty k hk) hn hfit hlen hdg kk
theorem g_putF (F : CallFix p m c cc nL s args wsG own) (hK : KK D kA s) (hP : va_P D vwCl ws H) (hD : va_D A ws) (hS : va_S A H0 H locs) (hin : ∀ w ∈ u_ws C T N, w ∈ wsG) {ty0 : Nat → FieldType} (hty : ∀ k, k < N → parseFieldDescriptor (T k).2.2.1 = some (ty0 k)) (hnm : ∀ a, a < N → ∀ b, b < N → a ≠ b → (T a).2.1 ≠ (T b).2.1) (q0 : Nat) (he : ws[q0]? = some (a, .inr (ci, fs))) (hc : vwCl[ci]? = some (C, T, N)) (k : Nat) (hk : k < N) (hl : Cond.fieldLink own index C (T k).2.1 (T k).2.2.1 ∈ wsG) (hs : (T k).1 = C) (hfin : (T k).2.2.2 = true) (hin2 : meth.name = "<init>") (ho : C = own) (hn : narrow (ty0 k) v = v) (hfit : fits (ty0 k) v = true) (hlen : k < fs.length) (hdg : decode cc pc = .ok (.putfield index, 3))
    (kk : ∀ (H1 : Heap) (locs1 : List Loc), va_P D vwCl (ws.set q0 (a, .inr (ci, fs.set k v))) H1 → va_D A (ws.set q0 (a, .inr (ci, fs.set k v))) → va_S A H0 H1 locs1 → W p l e R s m args below meth c H1 locs1 cells slots Q (F0 m (pc + 3) ls rest)) : W p l e R s m args below meth c H locs cells slots Q (F0 m pc ls (v :: .ref a :: rest)) :=
  va_putF F.1 F.2.1 F.2.2.2.2 hin ty0 hty hnm F.2.2.2.1 hK.1 hP hD hS q0 he hc k hk (F.2.2.2.2 _ hl) (fun x h => by rw [← hs]; exact h) hfin hin2 (hs.trans ho) (hty k hk) hn hfit hlen hdg kk
end FA

set_option maxRecDepth 20000 in
theorem inX0 : ∀ w ∈ u_ws RX0 TX0 5, w ∈ wsG := fun w h => List.mem_filter.mpr ⟨(show ∀ w ∈ u_ws RX0 TX0 5, w ∈ lw_tbl by decide +kernel) w h, (show ∀ w ∈ u_ws RX0 TX0 5, goodWord w = true by decide +kernel) w h⟩
set_option maxRecDepth 20000 in
theorem inX1 : ∀ w ∈ u_ws RX1 TX1 2, w ∈ wsG := fun w h => List.mem_filter.mpr ⟨(show ∀ w ∈ u_ws RX1 TX1 2, w ∈ lw_tbl by decide +kernel) w h, (show ∀ w ∈ u_ws RX1 TX1 2, goodWord w = true by decide +kernel) w h⟩
set_option maxRecDepth 20000 in
theorem inX2 : ∀ w ∈ u_ws RX2 TX2 4, w ∈ wsG := fun w h => List.mem_filter.mpr ⟨(show ∀ w ∈ u_ws RX2 TX2 4, w ∈ lw_tbl by decide +kernel) w h, (show ∀ w ∈ u_ws RX2 TX2 4, goodWord w = true by decide +kernel) w h⟩
set_option maxRecDepth 20000 in
theorem inX3 : ∀ w ∈ u_ws RX3 TX3 2, w ∈ wsG := fun w h => List.mem_filter.mpr ⟨(show ∀ w ∈ u_ws RX3 TX3 2, w ∈ lw_tbl by decide +kernel) w h, (show ∀ w ∈ u_ws RX3 TX3 2, goodWord w = true by decide +kernel) w h⟩
set_option maxRecDepth 20000 in
theorem inX4 : ∀ w ∈ u_ws RX4 TX4 9, w ∈ wsG := fun w h => List.mem_filter.mpr ⟨(show ∀ w ∈ u_ws RX4 TX4 9, w ∈ lw_tbl by decide +kernel) w h, (show ∀ w ∈ u_ws RX4 TX4 9, goodWord w = true by decide +kernel) w h⟩
set_option maxRecDepth 20000 in
theorem inX5 : ∀ w ∈ u_ws RX5 TX5 8, w ∈ wsG := fun w h => List.mem_filter.mpr ⟨(show ∀ w ∈ u_ws RX5 TX5 8, w ∈ lw_tbl by decide +kernel) w h, (show ∀ w ∈ u_ws RX5 TX5 8, goodWord w = true by decide +kernel) w h⟩
set_option maxRecDepth 20000 in
theorem inX6 : ∀ w ∈ u_ws RX6 TX6 27, w ∈ wsG := fun w h => List.mem_filter.mpr ⟨(show ∀ w ∈ u_ws RX6 TX6 27, w ∈ lw_tbl by decide +kernel) w h, (show ∀ w ∈ u_ws RX6 TX6 27, goodWord w = true by decide +kernel) w h⟩
end
section
theorem ct_i {l : Launch} {y : MethodName} {cc : ByteArray} {n h : Nat} {D : va_G} {kA : Nat → ClassId} {sz : Nat} {wc : va_W} {av : List Value} {own : String} {post : Int32 → va_W → Prop} (hy : plainName y.cls = true) (ho : y.cls = own) (hn : (lg_sl av).length ≤ n)
    (body : ∀ (p : Program) (e : Env) (s : State) (m : MethodId) (args : Array Value) (below : List Frame) (meth : Method) (c : Code) (A : Nat → Prop) (ls : Array Slot) (Q : State → Prop), CallFix p m c cc n s args wsG own → meth.name = y.name → KK D kA s → (∀ q : Nat, s.heap.size ≤ q → A q) → va_P D vwCl wc s.heap → va_D A wc → va_S A s.heap s.heap [] → lv_has ls n (lv_args 0 av) → s.heap.size = sz →
      (∀ (v : Int32) (u : va_W) (H : Heap) (locs : List Loc) (pc : Nat) (ls : Array Slot), va_P D vwCl u H → va_D A u → va_S A s.heap H locs → decode cc pc = .ok (.ireturn, 1) → post v u → W p l e (rmC h 0 0) s m args below meth c H locs 0 0 Q (F0 m pc ls [.int v])) → W p l e (rmC h 0 0) s m args below meth c s.heap [] 0 0 Q (F0 m 0 ls [])) : CtI l y cc n .int h D kA sz wc av post :=
  ct_in (Qc := fun A => va_Qi post (cB D A) A) hy ho hn (fun p e s m below meth c A ls F hr hlk hnm hK hA hP hD hS hl hsz => body p e s m _ below meth c A ls _ F hnm hK hA hP hD hS hl hsz (fun v u H locs pc ls hP hD hS hd hq => rt_i F.1 F.2.1 hr hlk u hP hD hS hd hq))
theorem ct_z {l : Launch} {y : MethodName} {cc : ByteArray} {n h : Nat} {D : va_G} {kA : Nat → ClassId} {sz : Nat} {wc : va_W} {av : List Value} {own : String} {post : Int32 → va_W → Prop} (hy : plainName y.cls = true) (ho : y.cls = own) (hn : (lg_sl av).length ≤ n)
    (body : ∀ (p : Program) (e : Env) (s : State) (m : MethodId) (args : Array Value) (below : List Frame) (meth : Method) (c : Code) (A : Nat → Prop) (ls : Array Slot) (Q : State → Prop), CallFix p m c cc n s args wsG own → meth.name = y.name → KK D kA s → (∀ q : Nat, s.heap.size ≤ q → A q) → va_P D vwCl wc s.heap → va_D A wc → va_S A s.heap s.heap [] → lv_has ls n (lv_args 0 av) → s.heap.size = sz →
      (∀ (v : Int32) (u : va_W) (H : Heap) (locs : List Loc) (pc : Nat) (ls : Array Slot), va_P D vwCl u H → va_D A u → va_S A s.heap H locs → decode cc pc = .ok (.ireturn, 1) → narrow .boolean (.int v) = .int v → post v u → W p l e (rmC h 0 0) s m args below meth c H locs 0 0 Q (F0 m pc ls [.int v])) → W p l e (rmC h 0 0) s m args below meth c s.heap [] 0 0 Q (F0 m 0 ls [])) : CtI l y cc n .boolean h D kA sz wc av post :=
  ct_in (Qc := fun A => va_Qi post (cB D A) A) hy ho hn (fun p e s m below meth c A ls F hr hlk hnm hK hA hP hD hS hl hsz => body p e s m _ below meth c A ls _ F hnm hK hA hP hD hS hl hsz (fun v u H locs pc ls hP hD hS hd hn hq => rt_z F.1 F.2.1 hr hlk u hP hD hS hd hn hq))
theorem ct_l {l : Launch} {y : MethodName} {cc : ByteArray} {n h : Nat} {D : va_G} {kA : Nat → ClassId} {sz : Nat} {wc : va_W} {av : List Value} {own : String} {post : Int64 → va_W → Prop} (hy : plainName y.cls = true) (ho : y.cls = own) (hn : (lg_sl av).length ≤ n)
    (body : ∀ (p : Program) (e : Env) (s : State) (m : MethodId) (args : Array Value) (below : List Frame) (meth : Method) (c : Code) (A : Nat → Prop) (ls : Array Slot) (Q : State → Prop), CallFix p m c cc n s args wsG own → meth.name = y.name → KK D kA s → (∀ q : Nat, s.heap.size ≤ q → A q) → va_P D vwCl wc s.heap → va_D A wc → va_S A s.heap s.heap [] → lv_has ls n (lv_args 0 av) → s.heap.size = sz →
      (∀ (v : Int64) (u : va_W) (H : Heap) (locs : List Loc) (pc : Nat) (ls : Array Slot), va_P D vwCl u H → va_D A u → va_S A s.heap H locs → decode cc pc = .ok (.lreturn, 1) → post v u → W p l e (rmC h 0 0) s m args below meth c H locs 0 0 Q (F0 m pc ls [.long v])) → W p l e (rmC h 0 0) s m args below meth c s.heap [] 0 0 Q (F0 m 0 ls [])) : CtL l y cc n .long h D kA sz wc av post :=
  ct_in (Qc := fun A => va_Ql post (cB D A) A) hy ho hn (fun p e s m below meth c A ls F hr hlk hnm hK hA hP hD hS hl hsz => body p e s m _ below meth c A ls _ F hnm hK hA hP hD hS hl hsz (fun v u H locs pc ls hP hD hS hd hq => rt_l F.1 F.2.1 hr hlk u hP hD hS hd hq))
theorem ct_d {l : Launch} {y : MethodName} {cc : ByteArray} {n h : Nat} {D : va_G} {kA : Nat → ClassId} {sz : Nat} {wc : va_W} {av : List Value} {own : String} {post : UInt64 → va_W → Prop} (hy : plainName y.cls = true) (ho : y.cls = own) (hn : (lg_sl av).length ≤ n)
    (body : ∀ (p : Program) (e : Env) (s : State) (m : MethodId) (args : Array Value) (below : List Frame) (meth : Method) (c : Code) (A : Nat → Prop) (ls : Array Slot) (Q : State → Prop), CallFix p m c cc n s args wsG own → meth.name = y.name → KK D kA s → (∀ q : Nat, s.heap.size ≤ q → A q) → va_P D vwCl wc s.heap → va_D A wc → va_S A s.heap s.heap [] → lv_has ls n (lv_args 0 av) → s.heap.size = sz →
      (∀ (v : UInt64) (u : va_W) (H : Heap) (locs : List Loc) (pc : Nat) (ls : Array Slot), va_P D vwCl u H → va_D A u → va_S A s.heap H locs → decode cc pc = .ok (.dreturn, 1) → post v u → W p l e (rmC h 0 0) s m args below meth c H locs 0 0 Q (F0 m pc ls [.double v])) → W p l e (rmC h 0 0) s m args below meth c s.heap [] 0 0 Q (F0 m 0 ls [])) : CtD l y cc n .double h D kA sz wc av post :=
  ct_in (Qc := fun A => va_Qd post (cB D A) A) hy ho hn (fun p e s m below meth c A ls F hr hlk hnm hK hA hP hD hS hl hsz => body p e s m _ below meth c A ls _ F hnm hK hA hP hD hS hl hsz (fun v u H locs pc ls hP hD hS hd hq => rt_d F.1 F.2.1 hr hlk u hP hD hS hd hq))
theorem ct_v {l : Launch} {y : MethodName} {cc : ByteArray} {n h mc ms : Nat} {D : va_G} {kA : Nat → ClassId} {sz : Nat} {wc : va_W} {av : List Value} {own : String} {post : va_W → Prop} (hy : plainName y.cls = true) (ho : y.cls = own) (hn : (lg_sl av).length ≤ n)
    (body : ∀ (p : Program) (e : Env) (s : State) (m : MethodId) (args : Array Value) (below : List Frame) (meth : Method) (c : Code) (A : Nat → Prop) (ls : Array Slot) (Q : State → Prop), CallFix p m c cc n s args wsG own → meth.name = y.name → KK D kA s → (∀ q : Nat, s.heap.size ≤ q → A q) → va_P D vwCl wc s.heap → va_D A wc → va_S A s.heap s.heap [] → lv_has ls n (lv_args 0 av) → s.heap.size = sz →
      (∀ (u : va_W) (H : Heap) (locs : List Loc) (pc : Nat) (ls : Array Slot), va_P D vwCl u H → va_D A u → va_S A s.heap H locs → decode cc pc = .ok (.return_, 1) → post u → W p l e (rmC h mc ms) s m args below meth c H locs mc ms Q (F0 m pc ls [])) → W p l e (rmC h mc ms) s m args below meth c s.heap [] 0 0 Q (F0 m 0 ls [])) : CtV l y cc n h mc ms D kA sz wc av post :=
  ct_in (Qc := fun A => va_Qv post (cB D A) A) hy ho hn (fun p e s m below meth c A ls F hr hlk hnm hK hA hP hD hS hl hsz => body p e s m _ below meth c A ls _ F hnm hK hA hP hD hS hl hsz (fun u H locs pc ls hP hD hS hd hq => rt_v F.1 F.2.1 hr hlk u hP hD hS hd hq))
section AR
variable {p : Program} {l : Launch} {e : Env} {R : Room} {s : State} {m : MethodId} {args : Array Value} {below : List Frame} {meth : Method} {c : Code} {H H0 : Heap} {locs : List Loc} {cells slots : Nat} {Q : State → Prop} {cc : ByteArray} {pc nL : Nat} {ls : Array Slot} {rest : List Value} {D : va_G} {kA : Nat → ClassId} {A : Nat → Prop} {a : Nat} {ws : va_W} {own : String} {n j : Nat}
theorem a_ild (F : CallFix p m c cc nL s args wsG own) (hK : KK D kA s) (hP : va_P D vwCl ws H) (q0 : Nat) {f : Nat → Int32} (ha : ws[q0]? = some (a, .inl (kA 0, n, .inl f))) (hj : j < n) (hn : n < 2 ^ 31) (hdg : decode cc pc = .ok (.iaload, 1)) (kk : W p l e R s m args below meth c H locs cells slots Q (F0 m (pc + 1) ls (.int (f j) :: rest))) : W p l e R s m args below meth c H locs cells slots Q (F0 m pc ls (.int (nI j) :: .ref a :: rest)) :=
  va_iald F.1 F.2.1 hK.1 hP q0 0 ha rfl (vp_in_nI hj hn) hdg (by rw [nI_clamp (Nat.lt_trans hj hn)]; exact kk)
theorem a_ist (F : CallFix p m c cc nL s args wsG own) (hK : KK D kA s) (hP : va_P D vwCl ws H) (hD : va_D A ws) (hS : va_S A H0 H locs) (q0 : Nat) {f : Nat → Int32} {x : Int32} (ha : ws[q0]? = some (a, .inl (kA 0, n, .inl f))) (hj : j < n) (hn : n < 2 ^ 31) (hdg : decode cc pc = .ok (.iastore, 1)) (kk : ∀ (H1 : Heap) (locs1 : List Loc), va_P D vwCl (ws.set q0 (a, .inl (kA 0, n, .inl (upd f j x)))) H1 → va_D A (ws.set q0 (a, .inl (kA 0, n, .inl (upd f j x)))) → va_S A H0 H1 locs1 → W p l e R s m args below meth c H1 locs1 cells slots Q (F0 m (pc + 1) ls rest)) : W p l e R s m args below meth c H locs cells slots Q (F0 m pc ls (.int x :: .int (nI j) :: .ref a :: rest)) :=
  va_iast F.1 F.2.1 hK.1 hP hD hS q0 0 ha rfl (vp_in_nI hj hn) hdg (by rw [nI_clamp (Nat.lt_trans hj hn)]; exact kk)
theorem a_zld (F : CallFix p m c cc nL s args wsG own) (hK : KK D kA s) (hP : va_P D vwCl ws H) (q0 : Nat) {f : Nat → Int32} (ha : ws[q0]? = some (a, .inl (kA 1, n, .inl f))) (hj : j < n) (hn : n < 2 ^ 31) (hdg : decode cc pc = .ok (.baload, 1)) (kk : W p l e R s m args below meth c H locs cells slots Q (F0 m (pc + 1) ls (.int (f j) :: rest))) : W p l e R s m args below meth c H locs cells slots Q (F0 m pc ls (.int (nI j) :: .ref a :: rest)) :=
  va_zald F.1 F.2.1 hK.1 hP q0 1 ha rfl (vp_in_nI hj hn) hdg (by rw [nI_clamp (Nat.lt_trans hj hn)]; exact kk)
theorem a_zst (F : CallFix p m c cc nL s args wsG own) (hK : KK D kA s) (hP : va_P D vwCl ws H) (hD : va_D A ws) (hS : va_S A H0 H locs) (q0 : Nat) {f : Nat → Int32} {x : Int32} (ha : ws[q0]? = some (a, .inl (kA 1, n, .inl f))) (hj : j < n) (hn : n < 2 ^ 31) (hdg : decode cc pc = .ok (.bastore, 1)) (kk : ∀ (H1 : Heap) (locs1 : List Loc), va_P D vwCl (ws.set q0 (a, .inl (kA 1, n, .inl (upd f j (vp_nar .boolean x))))) H1 → va_D A (ws.set q0 (a, .inl (kA 1, n, .inl (upd f j (vp_nar .boolean x))))) → va_S A H0 H1 locs1 → W p l e R s m args below meth c H1 locs1 cells slots Q (F0 m (pc + 1) ls rest)) : W p l e R s m args below meth c H locs cells slots Q (F0 m pc ls (.int x :: .int (nI j) :: .ref a :: rest)) :=
  va_zast F.1 F.2.1 hK.1 hP hD hS q0 1 ha rfl (vp_in_nI hj hn) hdg (by rw [nI_clamp (Nat.lt_trans hj hn)]; exact kk)
theorem a_lld (F : CallFix p m c cc nL s args wsG own) (hK : KK D kA s) (hP : va_P D vwCl ws H) (q0 : Nat) {f : Nat → Int64} (ha : ws[q0]? = some (a, .inl (kA 2, n, .inr (.inl f)))) (hj : j < n) (hn : n < 2 ^ 31) (hdg : decode cc pc = .ok (.laload, 1)) (kk : W p l e R s m args below meth c H locs cells slots Q (F0 m (pc + 1) ls (.long (f j) :: rest))) : W p l e R s m args below meth c H locs cells slots Q (F0 m pc ls (.int (nI j) :: .ref a :: rest)) :=
  va_lald F.1 F.2.1 hK.1 hP q0 2 ha rfl (vp_in_nI hj hn) hdg (by rw [nI_clamp (Nat.lt_trans hj hn)]; exact kk)
theorem a_lst (F : CallFix p m c cc nL s args wsG own) (hK : KK D kA s) (hP : va_P D vwCl ws H) (hD : va_D A ws) (hS : va_S A H0 H locs) (q0 : Nat) {f : Nat → Int64} {x : Int64} (ha : ws[q0]? = some (a, .inl (kA 2, n, .inr (.inl f)))) (hj : j < n) (hn : n < 2 ^ 31) (hdg : decode cc pc = .ok (.lastore, 1)) (kk : ∀ (H1 : Heap) (locs1 : List Loc), va_P D vwCl (ws.set q0 (a, .inl (kA 2, n, .inr (.inl (vp_updL f j x))))) H1 → va_D A (ws.set q0 (a, .inl (kA 2, n, .inr (.inl (vp_updL f j x))))) → va_S A H0 H1 locs1 → W p l e R s m args below meth c H1 locs1 cells slots Q (F0 m (pc + 1) ls rest)) : W p l e R s m args below meth c H locs cells slots Q (F0 m pc ls (.long x :: .int (nI j) :: .ref a :: rest)) :=
  va_last F.1 F.2.1 hK.1 hP hD hS q0 2 ha rfl (vp_in_nI hj hn) hdg (by rw [nI_clamp (Nat.lt_trans hj hn)]; exact kk)
theorem a_dld (F : CallFix p m c cc nL s args wsG own) (hK : KK D kA s) (hP : va_P D vwCl ws H) (q0 : Nat) {f : Nat → UInt64} (ha : ws[q0]? = some (a, .inl (kA 3, n, .inr (.inr (.inr (.inl f)))))) (hj : j < n) (hn : n < 2 ^ 31) (hdg : decode cc pc = .ok (.daload, 1)) (kk : W p l e R s m args below meth c H locs cells slots Q (F0 m (pc + 1) ls (.double (f j) :: rest))) : W p l e R s m args below meth c H locs cells slots Q (F0 m pc ls (.int (nI j) :: .ref a :: rest)) :=
  va_dald F.1 F.2.1 hK.1 hP q0 3 ha rfl (vp_in_nI hj hn) hdg (by rw [nI_clamp (Nat.lt_trans hj hn)]; exact kk)
theorem a_dst (F : CallFix p m c cc nL s args wsG own) (hK : KK D kA s) (hP : va_P D vwCl ws H) (hD : va_D A ws) (hS : va_S A H0 H locs) (q0 : Nat) {f : Nat → UInt64} {x : UInt64} (ha : ws[q0]? = some (a, .inl (kA 3, n, .inr (.inr (.inr (.inl f)))))) (hj : j < n) (hn : n < 2 ^ 31) (hdg : decode cc pc = .ok (.dastore, 1)) (kk : ∀ (H1 : Heap) (locs1 : List Loc), va_P D vwCl (ws.set q0 (a, .inl (kA 3, n, .inr (.inr (.inr (.inl (vf_upd f j x))))))) H1 → va_D A (ws.set q0 (a, .inl (kA 3, n, .inr (.inr (.inr (.inl (vf_upd f j x))))))) → va_S A H0 H1 locs1 → W p l e R s m args below meth c H1 locs1 cells slots Q (F0 m (pc + 1) ls rest)) : W p l e R s m args below meth c H locs cells slots Q (F0 m pc ls (.double x :: .int (nI j) :: .ref a :: rest)) :=
  va_dast F.1 F.2.1 hK.1 hP hD hS q0 3 ha rfl (vp_in_nI hj hn) hdg (by rw [nI_clamp (Nat.lt_trans hj hn)]; exact kk)
theorem a_qld (F : CallFix p m c cc nL s args wsG own) (hK : KK D kA s) (hP : va_P D vwCl ws H) (q0 : Nat) {f : Nat → Option Nat} (ha : ws[q0]? = some (a, .inl (kA 4, n, .inr (.inr (.inr (.inr f)))))) (hj : j < n) (hn : n < 2 ^ 31) {b : Nat} (hf : f j = some b) (hdg : decode cc pc = .ok (.aaload, 1)) (kk : W p l e R s m args below meth c H locs cells slots Q (F0 m (pc + 1) ls (.ref b :: rest))) : W p l e R s m args below meth c H locs cells slots Q (F0 m pc ls (.int (nI j) :: .ref a :: rest)) :=
  va_aldq F.1 F.2.1 hK.1 hP q0 4 ha rfl (vp_in_nI hj hn) hdg (by rw [nI_clamp (Nat.lt_trans hj hn), hf]; exact kk)
theorem a_len (F : CallFix p m c cc nL s args wsG own) (hK : KK D kA s) (hP : va_P D vwCl ws H) (q0 t0 : Nat) {cA : ClassId} {x : vp_A} {ty : FieldType} (ha : ws[q0]? = some (a, .inl (cA, x))) (ht : (dTy kA)[t0]? = some (cA, ty)) (hdg : decode cc pc = .ok (.arraylength, 1)) (kk : W p l e R s m args below meth c H locs cells slots Q (F0 m (pc + 1) ls (.int (nI x.1) :: rest))) : W p l e R s m args below meth c H locs cells slots Q (F0 m pc ls (.ref a :: rest)) :=
  va_alen F.1 F.2.1 hK.1 hP q0 t0 ha ht rfl hdg kk
theorem b_eq (F : CallFix p m c cc nL s args wsG own) {a b : Nat} {off : Int} {tgt : Nat} (hdg : decode cc pc = .ok (.if_icmp .eq off, 3)) (ht : (pc : Int) + off = (tgt : Int)) (ha : a < 2 ^ 31) (hb : b < 2 ^ 31) (kt : a = b → W p l e R s m args below meth c H locs cells slots Q (F0 m tgt ls rest)) (kf : ¬ a = b → W p l e R s m args below meth c H locs cells slots Q (F0 m (pc + 3) ls rest)) : W p l e R s m args below meth c H locs cells slots Q (F0 m pc ls (.int (nI b) :: .int (nI a) :: rest)) :=
  lv_icmp_eq F.1 F.2.1 hdg ht (fun h => kt ((nI_eq ha hb).mp h)) (fun h => kf (fun q => h ((nI_eq ha hb).mpr q)))
theorem b_ne (F : CallFix p m c cc nL s args wsG own) {a b : Nat} {off : Int} {tgt : Nat} (hdg : decode cc pc = .ok (.if_icmp .ne off, 3)) (ht : (pc : Int) + off = (tgt : Int)) (ha : a < 2 ^ 31) (hb : b < 2 ^ 31) (kt : ¬ a = b → W p l e R s m args below meth c H locs cells slots Q (F0 m tgt ls rest)) (kf : a = b → W p l e R s m args below meth c H locs cells slots Q (F0 m (pc + 3) ls rest)) : W p l e R s m args below meth c H locs cells slots Q (F0 m pc ls (.int (nI b) :: .int (nI a) :: rest)) :=
  lv_icmp_ne F.1 F.2.1 hdg ht (fun h => kt (fun q => h ((nI_eq ha hb).mpr q))) (fun h => kf ((nI_eq ha hb).mp h))
theorem b_lt (F : CallFix p m c cc nL s args wsG own) {a b : Nat} {off : Int} {tgt : Nat} (hdg : decode cc pc = .ok (.if_icmp .lt off, 3)) (ht : (pc : Int) + off = (tgt : Int)) (ha : a < 2 ^ 31) (hb : b < 2 ^ 31) (kt : a < b → W p l e R s m args below meth c H locs cells slots Q (F0 m tgt ls rest)) (kf : b ≤ a → W p l e R s m args below meth c H locs cells slots Q (F0 m (pc + 3) ls rest)) : W p l e R s m args below meth c H locs cells slots Q (F0 m pc ls (.int (nI b) :: .int (nI a) :: rest)) :=
  lv_icmp_lt F.1 F.2.1 hdg ht (fun h => kt ((nI_ltI ha hb).mp h)) (fun h => kf (Nat.le_of_not_lt (fun q => h ((nI_ltI ha hb).mpr q))))
theorem b_ge (F : CallFix p m c cc nL s args wsG own) {a b : Nat} {off : Int} {tgt : Nat} (hdg : decode cc pc = .ok (.if_icmp .ge off, 3)) (ht : (pc : Int) + off = (tgt : Int)) (ha : a < 2 ^ 31) (hb : b < 2 ^ 31) (kt : b ≤ a → W p l e R s m args below meth c H locs cells slots Q (F0 m tgt ls rest)) (kf : a < b → W p l e R s m args below meth c H locs cells slots Q (F0 m (pc + 3) ls rest)) : W p l e R s m args below meth c H locs cells slots Q (F0 m pc ls (.int (nI b) :: .int (nI a) :: rest)) :=
  lv_icmp_ge F.1 F.2.1 hdg ht (fun h => kt ((nI_leI hb ha).mp h)) (fun h => kf (Nat.lt_of_not_le (fun q => h ((nI_leI hb ha).mpr q))))
theorem b_gt (F : CallFix p m c cc nL s args wsG own) {a b : Nat} {off : Int} {tgt : Nat} (hdg : decode cc pc = .ok (.if_icmp .gt off, 3)) (ht : (pc : Int) + off = (tgt : Int)) (ha : a < 2 ^ 31) (hb : b < 2 ^ 31) (kt : b < a → W p l e R s m args below meth c H locs cells slots Q (F0 m tgt ls rest)) (kf : a ≤ b → W p l e R s m args below meth c H locs cells slots Q (F0 m (pc + 3) ls rest)) : W p l e R s m args below meth c H locs cells slots Q (F0 m pc ls (.int (nI b) :: .int (nI a) :: rest)) :=
  lv_icmp_gt F.1 F.2.1 hdg ht (fun h => kt ((nI_ltI hb ha).mp h)) (fun h => kf (Nat.le_of_not_lt (fun q => h ((nI_ltI hb ha).mpr q))))
theorem b_le (F : CallFix p m c cc nL s args wsG own) {a b : Nat} {off : Int} {tgt : Nat} (hdg : decode cc pc = .ok (.if_icmp .le off, 3)) (ht : (pc : Int) + off = (tgt : Int)) (ha : a < 2 ^ 31) (hb : b < 2 ^ 31) (kt : a ≤ b → W p l e R s m args below meth c H locs cells slots Q (F0 m tgt ls rest)) (kf : b < a → W p l e R s m args below meth c H locs cells slots Q (F0 m (pc + 3) ls rest)) : W p l e R s m args below meth c H locs cells slots Q (F0 m pc ls (.int (nI b) :: .int (nI a) :: rest)) :=
  lv_icmp_le F.1 F.2.1 hdg ht (fun h => kt ((nI_leI ha hb).mp h)) (fun h => kf (Nat.lt_of_not_le (fun q => h ((nI_leI ha hb).mpr q))))
theorem b_eq0 (F : CallFix p m c cc nL s args wsG own) {a : Nat} {off : Int} {tgt : Nat} (hdg : decode cc pc = .ok (.ifCond .eq off, 3)) (ht : (pc : Int) + off = (tgt : Int)) (ha : a < 2 ^ 31) (kt : a = 0 → W p l e R s m args below meth c H locs cells slots Q (F0 m tgt ls rest)) (kf : 0 < a → W p l e R s m args below meth c H locs cells slots Q (F0 m (pc + 3) ls rest)) : W p l e R s m args below meth c H locs cells slots Q (F0 m pc ls (.int (nI a) :: rest)) :=
  lv_if_eq F.1 F.2.1 hdg ht (fun h => kt ((nI_eq ha (by decide)).mp (h.trans nI_0.symm))) (fun h => kf (Nat.pos_of_ne_zero (fun q => h (by rw [q]; exact nI_0))))
theorem b_ne0 (F : CallFix p m c cc nL s args wsG own) {a : Nat} {off : Int} {tgt : Nat} (hdg : decode cc pc = .ok (.ifCond .ne off, 3)) (ht : (pc : Int) + off = (tgt : Int)) (ha : a < 2 ^ 31) (kt : 0 < a → W p l e R s m args below meth c H locs cells slots Q (F0 m tgt ls rest)) (kf : a = 0 → W p l e R s m args below meth c H locs cells slots Q (F0 m (pc + 3) ls rest)) : W p l e R s m args below meth c H locs cells slots Q (F0 m pc ls (.int (nI a) :: rest)) :=
  lv_if_ne F.1 F.2.1 hdg ht (fun h => kt (Nat.pos_of_ne_zero (fun q => h (by rw [q]; exact nI_0)))) (fun h => kf ((nI_eq ha (by decide)).mp (h.trans nI_0.symm)))
theorem b_le0 (F : CallFix p m c cc nL s args wsG own) {a : Nat} {off : Int} {tgt : Nat} (hdg : decode cc pc = .ok (.ifCond .le off, 3)) (ht : (pc : Int) + off = (tgt : Int)) (ha : a < 2 ^ 31) (kt : a = 0 → W p l e R s m args below meth c H locs cells slots Q (F0 m tgt ls rest)) (kf : 0 < a → W p l e R s m args below meth c H locs cells slots Q (F0 m (pc + 3) ls rest)) : W p l e R s m args below meth c H locs cells slots Q (F0 m pc ls (.int (nI a) :: rest)) :=
  lv_if_le F.1 F.2.1 hdg ht (fun h => kt (Nat.eq_zero_of_not_pos (fun q => nI_nle q ha h))) (fun h => kf (Nat.pos_of_ne_zero (fun q => h (by rw [q, nI_0]; exact Int32.le_refl 0))))
theorem b_lt0 (F : CallFix p m c cc nL s args wsG own) {a : Nat} {off : Int} (hdg : decode cc pc = .ok (.ifCond .lt off, 3)) (tgt : Nat) (ht : (pc : Int) + off = (tgt : Int)) (ha : a < 2 ^ 31) (kf : W p l e R s m args below meth c H locs cells slots Q (F0 m (pc + 3) ls rest)) : W p l e R s m args below meth c H locs cells slots Q (F0 m pc ls (.int (nI a) :: rest)) :=
  lv_if_lt F.1 F.2.1 hdg ht (fun h => absurd h (nI_pos ha)) (fun _ => kf)
theorem b_ge0 (F : CallFix p m c cc nL s args wsG own) {a : Nat} {off : Int} {tgt : Nat} (hdg : decode cc pc = .ok (.ifCond .ge off, 3)) (ht : (pc : Int) + off = (tgt : Int)) (ha : a < 2 ^ 31) (kt : W p l e R s m args below meth c H locs cells slots Q (F0 m tgt ls rest)) : W p l e R s m args below meth c H locs cells slots Q (F0 m pc ls (.int (nI a) :: rest)) :=
  lv_if_ge F.1 F.2.1 hdg ht (fun _ => kt) (fun h => absurd (nI_pos' ha) h)
theorem n_add (F : CallFix p m c cc nL s args wsG own) {a b : Nat} (hdg : decode cc pc = .ok (.iadd, 1)) (kk : W p l e R s m args below meth c H locs cells slots Q (F0 m (pc + 1) ls (.int (nI (a + b)) :: rest))) : W p l e R s m args below meth c H locs cells slots Q (F0 m pc ls (.int (nI b) :: .int (nI a) :: rest)) :=
  lv_iadd F.1 F.2.1 hdg (by rw [nI_add]; exact kk)
theorem n_sub (F : CallFix p m c cc nL s args wsG own) {a b : Nat} (hdg : decode cc pc = .ok (.isub, 1)) (h : b ≤ a) (kk : W p l e R s m args below meth c H locs cells slots Q (F0 m (pc + 1) ls (.int (nI (a - b)) :: rest))) : W p l e R s m args below meth c H locs cells slots Q (F0 m pc ls (.int (nI b) :: .int (nI a) :: rest)) :=
  lv_isub F.1 F.2.1 hdg (by rw [pk_sub h]; exact kk)
theorem n_mul (F : CallFix p m c cc nL s args wsG own) {a b : Nat} (hdg : decode cc pc = .ok (.imul, 1)) (kk : W p l e R s m args below meth c H locs cells slots Q (F0 m (pc + 1) ls (.int (nI (a * b)) :: rest))) : W p l e R s m args below meth c H locs cells slots Q (F0 m pc ls (.int (nI b) :: .int (nI a) :: rest)) :=
  lv_imul F.1 F.2.1 hdg (by rw [pk_mul]; exact kk)
theorem n_rem (F : CallFix p m c cc nL s args wsG own) {a b : Nat} (hdg : decode cc pc = .ok (.irem, 1)) (ha : a < 2 ^ 31) (h0 : 0 < b) (hb : b < 2 ^ 31) (kk : W p l e R s m args below meth c H locs cells slots Q (F0 m (pc + 1) ls (.int (nI (a % b)) :: rest))) : W p l e R s m args below meth c H locs cells slots Q (F0 m pc ls (.int (nI b) :: .int (nI a) :: rest)) :=
  lv_irem F.1 F.2.1 hdg (nI_ne0 h0 hb) (by rw [pk_rem ha h0 hb]; exact kk)
end AR
end
section
/-! the state that both sides hold, in one form: N counts (0 cells, 1 attempts, 2 length), I numbers (0 up, 1 down, 2 upper, 3 lower, 4 timeout, 5 time), R rows (0 scores, 1 blocked, 2 stopped, 3 wrong, 4 sources, 5 destinations, 6 deadlines, 7 buffer), E seen, V the verdicts, the newest first -/
abbrev Sg : Type := (Nat → Nat) × (Nat → Int32) × (Nat → Nat → Int32) × (Nat → Int64) × List Int32
def gN (g : Sg) : Nat → Nat := g.1
def gI (g : Sg) : Nat → Int32 := g.2.1
def gR (g : Sg) : Nat → Nat → Int32 := g.2.2.1
def gE (g : Sg) : Nat → Int64 := g.2.2.2.1
def gV (g : Sg) : List Int32 := g.2.2.2.2
def sN (g : Sg) (k v : Nat) : Sg := (vf_upd g.1 k v, g.2)
def sI (g : Sg) (k : Nat) (v : Int32) : Sg := (g.1, vf_upd g.2.1 k v, g.2.2)
def sR (g : Sg) (k : Nat) (f : Nat → Int32) : Sg := (g.1, g.2.1, vf_upd g.2.2.1 k f, g.2.2.2)
def sE (g : Sg) (f : Nat → Int64) : Sg := (g.1, g.2.1, g.2.2.1, f, g.2.2.2.2)
def sV (g : Sg) (v : List Int32) : Sg := (g.1, g.2.1, g.2.2.1, g.2.2.2.1, v)
theorem up_s {α : Type} (f : Nat → α) (k : Nat) (x : α) : vf_upd f k x k = x := by simp [vf_upd]
theorem up_n {α : Type} (f : Nat → α) {k j : Nat} (x : α) (h : j ≠ k) : vf_upd f k x j = f j := by simp [vf_upd, h]
/-! scratch of the reference: L latest, W walks, C chances, F the two doubles, H the hash -/
abbrev Zm : Type := (Nat → Int32) × (Nat → Nat → Int32) × (Nat → Nat → UInt64) × (Nat → UInt64) × Int64
def zL (z : Zm) : Nat → Int32 := z.1
def zW (z : Zm) : Nat → Nat → Int32 := z.2.1
def zC (z : Zm) : Nat → Nat → UInt64 := z.2.2.1
def zF (z : Zm) : Nat → UInt64 := z.2.2.2.1
def zH (z : Zm) : Int64 := z.2.2.2.2
def tL (z : Zm) (f : Nat → Int32) : Zm := (f, z.2)
def tW (z : Zm) (k : Nat) (f : Nat → Int32) : Zm := (z.1, vf_upd z.2.1 k f, z.2.2)
def tC (z : Zm) (k : Nat) (f : Nat → UInt64) : Zm := (z.1, z.2.1, vf_upd z.2.2.1 k f, z.2.2.2)
def tF (z : Zm) (k : Nat) (v : UInt64) : Zm := (z.1, z.2.1, z.2.2.1, vf_upd z.2.2.2.1 k v, z.2.2.2.2)
def tH (z : Zm) (v : Int64) : Zm := (z.1, z.2.1, z.2.2.1, z.2.2.2.1, v)
/-- the reference's cells -/
def mW (ad : Nat → Nat) (kA : Nat → ClassId) (g : Sg) (z : Zm) : va_W :=
  [(ad 0, .inr (6, [.int (nI (gN g 0)), .int (gI g 0), .int (gI g 1), .int (gI g 2), .int (gI g 3), .int (gI g 4), .int (gI g 5), .ref (ad 1), .ref (ad 2), .ref (ad 3), .ref (ad 4), .ref (ad 5), .int (nI (gN g 1)), .ref (ad 6), .ref (ad 7), .ref (ad 8), .int (nI (gV g).length), .ref (ad 9), .int (nI (gN g 2)), .ref (ad 10), .ref (ad 11), .ref (ad 12), .ref (ad 13), .ref (ad 14), .double (zF z 0), .double (zF z 1), .long (zH z)])),
   (ad 1, .inl (kA 0, 8, .inl (gR g 0))), (ad 2, .inl (kA 1, 8, .inl (gR g 1))), (ad 3, .inl (kA 2, 8, .inr (.inl (gE g)))), (ad 4, .inl (kA 0, 8, .inl (gR g 2))), (ad 5, .inl (kA 0, 8, .inl (gR g 3))),
   (ad 6, .inl (kA 0, 12, .inl (gR g 4))), (ad 7, .inl (kA 0, 12, .inl (gR g 5))), (ad 8, .inl (kA 0, 12, .inl (gR g 6))), (ad 9, .inl (kA 0, 16, .inl (zL z))), (ad 10, .inl (kA 0, 59, .inl (gR g 7))),
   (ad 11, .inl (kA 0, 121, .inl (zW z 0))), (ad 12, .inl (kA 0, 121, .inl (zW z 1))), (ad 13, .inl (kA 3, 121, .inr (.inr (.inr (.inl (zC z 0)))))), (ad 14, .inl (kA 3, 121, .inr (.inr (.inr (.inl (zC z 1))))))]
theorem nar_if (P : Prop) [Decidable P] : narrow .boolean (.int (if P then 1 else 0)) = .int (if P then 1 else 0) := by
  by_cases h : P
  · rw [if_pos h]; rfl
  · rw [if_neg h]; rfl
section BB
variable {p : Program} {l : Launch} {e : Env} {R : Room} {s : State} {m : MethodId} {args : Array Value} {below : List Frame} {meth : Method} {c : Code} {H H0 : Heap} {locs : List Loc} {cells slots : Nat} {Q : State → Prop} {cc : ByteArray} {pc nL : Nat} {ls : Array Slot} {rest : List Value} {own : String}
theorem b_beq (F : CallFix p m c cc nL s args wsG own) {P : Prop} {hd : Decidable P} {off : Int} {tgt : Nat} (hdg : decode cc pc = .ok (.ifCond .eq off, 3)) (ht : (pc : Int) + off = (tgt : Int)) (kt : ¬ P → W p l e R s m args below meth c H locs cells slots Q (F0 m tgt ls rest)) (kf : P → W p l e R s m args below meth c H locs cells slots Q (F0 m (pc + 3) ls rest)) : W p l e R s m args below meth c H locs cells slots Q (F0 m pc ls (.int (if P then 1 else 0) :: rest)) := by
  refine lv_if_eq F.1 F.2.1 hdg ht (fun h => ?_) (fun h => ?_)
  · exact kt (fun hp => by rw [if_pos hp] at h; exact absurd h (by decide))
  · by_cases hp : P
    · exact kf hp
    · rw [if_neg hp] at h; exact absurd rfl h
theorem b_bne (F : CallFix p m c cc nL s args wsG own) {P : Prop} {hd : Decidable P} {off : Int} {tgt : Nat} (hdg : decode cc pc = .ok (.ifCond .ne off, 3)) (ht : (pc : Int) + off = (tgt : Int)) (kt : P → W p l e R s m args below meth c H locs cells slots Q (F0 m tgt ls rest)) (kf : ¬ P → W p l e R s m args below meth c H locs cells slots Q (F0 m (pc + 3) ls rest)) : W p l e R s m args below meth c H locs cells slots Q (F0 m pc ls (.int (if P then 1 else 0) :: rest)) := by
  refine lv_if_ne F.1 F.2.1 hdg ht (fun h => ?_) (fun h => ?_)
  · by_cases hp : P
    · exact kt hp
    · rw [if_neg hp] at h; exact absurd rfl h
  · exact kf (fun hp => by rw [if_pos hp] at h; exact absurd h (by decide))
theorem b_lceq (F : CallFix p m c cc nL s args wsG own) {x y : Int64} {off : Int} {tgt : Nat} (hdg : decode cc pc = .ok (.ifCond .eq off, 3)) (ht : (pc : Int) + off = (tgt : Int)) (kt : x = y → W p l e R s m args below meth c H locs cells slots Q (F0 m tgt ls rest)) (kf : ¬ x = y → W p l e R s m args below meth c H locs cells slots Q (F0 m (pc + 3) ls rest)) : W p l e R s m args below meth c H locs cells slots Q (F0 m pc ls (.int (lg_cmp x y) :: rest)) :=
  lv_if_eq F.1 F.2.1 hdg ht (fun h => kt ((lg_cmp_eq x y).mp h)) (fun h => kf (fun q => h ((lg_cmp_eq x y).mpr q)))
theorem b_lcne (F : CallFix p m c cc nL s args wsG own) {x y : Int64} {off : Int} {tgt : Nat} (hdg : decode cc pc = .ok (.ifCond .ne off, 3)) (ht : (pc : Int) + off = (tgt : Int)) (kt : ¬ x = y → W p l e R s m args below meth c H locs cells slots Q (F0 m tgt ls rest)) (kf : x = y → W p l e R s m args below meth c H locs cells slots Q (F0 m (pc + 3) ls rest)) : W p l e R s m args below meth c H locs cells slots Q (F0 m pc ls (.int (lg_cmp x y) :: rest)) :=
  lv_if_ne F.1 F.2.1 hdg ht (fun h => kt (fun q => h ((lg_cmp_eq x y).mpr q))) (fun h => kf ((lg_cmp_eq x y).mp h))
end BB
theorem hdX0_init : yX0_init.cls ≠ "java/lang/invoke/MethodHandle" ∧ yX0_init.cls ≠ "java/lang/invoke/VarHandle" ∧ (parseMethodDescriptor yX0_init.desc).map (fun d => d.parameters.length) = some 0 := by decide +kernel
theorem hdX0_reset : yX0_reset.cls ≠ "java/lang/invoke/MethodHandle" ∧ yX0_reset.cls ≠ "java/lang/invoke/VarHandle" ∧ (parseMethodDescriptor yX0_reset.desc).map (fun d => d.parameters.length) = some 0 := by decide +kernel
theorem hdX0_forget : yX0_forget.cls ≠ "java/lang/invoke/MethodHandle" ∧ yX0_forget.cls ≠ "java/lang/invoke/VarHandle" ∧ (parseMethodDescriptor yX0_forget.desc).map (fun d => d.parameters.length) = some 0 := by decide +kernel
theorem hdX0_hasSeen : yX0_hasSeen.cls ≠ "java/lang/invoke/MethodHandle" ∧ yX0_hasSeen.cls ≠ "java/lang/invoke/VarHandle" ∧ (parseMethodDescriptor yX0_hasSeen.desc).map (fun d => d.parameters.length) = some 1 := by decide +kernel
theorem hdX0_see : yX0_see.cls ≠ "java/lang/invoke/MethodHandle" ∧ yX0_see.cls ≠ "java/lang/invoke/VarHandle" ∧ (parseMethodDescriptor yX0_see.desc).map (fun d => d.parameters.length) = some 1 := by decide +kernel
theorem hdX0_stopAttempt : yX0_stopAttempt.cls ≠ "java/lang/invoke/MethodHandle" ∧ yX0_stopAttempt.cls ≠ "java/lang/invoke/VarHandle" ∧ (parseMethodDescriptor yX0_stopAttempt.desc).map (fun d => d.parameters.length) = some 0 := by decide +kernel
theorem hdX0_stopConnect : yX0_stopConnect.cls ≠ "java/lang/invoke/MethodHandle" ∧ yX0_stopConnect.cls ≠ "java/lang/invoke/VarHandle" ∧ (parseMethodDescriptor yX0_stopConnect.desc).map (fun d => d.parameters.length) = some 1 := by decide +kernel
theorem hdX1_init : yX1_init.cls ≠ "java/lang/invoke/MethodHandle" ∧ yX1_init.cls ≠ "java/lang/invoke/VarHandle" ∧ (parseMethodDescriptor yX1_init.desc).map (fun d => d.parameters.length) = some 0 := by decide +kernel
theorem hdX1_put : yX1_put.cls ≠ "java/lang/invoke/MethodHandle" ∧ yX1_put.cls ≠ "java/lang/invoke/VarHandle" ∧ (parseMethodDescriptor yX1_put.desc).map (fun d => d.parameters.length) = some 1 := by decide +kernel
theorem hdX1_findError : yX1_findError.cls ≠ "java/lang/invoke/MethodHandle" ∧ yX1_findError.cls ≠ "java/lang/invoke/VarHandle" ∧ (parseMethodDescriptor yX1_findError.desc).map (fun d => d.parameters.length) = some 0 := by decide +kernel
theorem hdX1_fits : yX1_fits.cls ≠ "java/lang/invoke/MethodHandle" ∧ yX1_fits.cls ≠ "java/lang/invoke/VarHandle" ∧ (parseMethodDescriptor yX1_fits.desc).map (fun d => d.parameters.length) = some 1 := by decide +kernel
theorem hdX1_isOutcome : yX1_isOutcome.cls ≠ "java/lang/invoke/MethodHandle" ∧ yX1_isOutcome.cls ≠ "java/lang/invoke/VarHandle" ∧ (parseMethodDescriptor yX1_isOutcome.desc).map (fun d => d.parameters.length) = some 1 := by decide +kernel
theorem hdX1_isComplete : yX1_isComplete.cls ≠ "java/lang/invoke/MethodHandle" ∧ yX1_isComplete.cls ≠ "java/lang/invoke/VarHandle" ∧ (parseMethodDescriptor yX1_isComplete.desc).map (fun d => d.parameters.length) = some 0 := by decide +kernel
theorem hdX1_sourceAt : yX1_sourceAt.cls ≠ "java/lang/invoke/MethodHandle" ∧ yX1_sourceAt.cls ≠ "java/lang/invoke/VarHandle" ∧ (parseMethodDescriptor yX1_sourceAt.desc).map (fun d => d.parameters.length) = some 1 := by decide +kernel
theorem hdX1_destinationAt : yX1_destinationAt.cls ≠ "java/lang/invoke/MethodHandle" ∧ yX1_destinationAt.cls ≠ "java/lang/invoke/VarHandle" ∧ (parseMethodDescriptor yX1_destinationAt.desc).map (fun d => d.parameters.length) = some 1 := by decide +kernel
theorem hdX1_successAt : yX1_successAt.cls ≠ "java/lang/invoke/MethodHandle" ∧ yX1_successAt.cls ≠ "java/lang/invoke/VarHandle" ∧ (parseMethodDescriptor yX1_successAt.desc).map (fun d => d.parameters.length) = some 1 := by decide +kernel
theorem hdX2_init : yX2_init.cls ≠ "java/lang/invoke/MethodHandle" ∧ yX2_init.cls ≠ "java/lang/invoke/VarHandle" ∧ (parseMethodDescriptor yX2_init.desc).map (fun d => d.parameters.length) = some 0 := by decide +kernel
theorem hdX2_put : yX2_put.cls ≠ "java/lang/invoke/MethodHandle" ∧ yX2_put.cls ≠ "java/lang/invoke/VarHandle" ∧ (parseMethodDescriptor yX2_put.desc).map (fun d => d.parameters.length) = some 3 := by decide +kernel
theorem hdX2_find : yX2_find.cls ≠ "java/lang/invoke/MethodHandle" ∧ yX2_find.cls ≠ "java/lang/invoke/VarHandle" ∧ (parseMethodDescriptor yX2_find.desc).map (fun d => d.parameters.length) = some 2 := by decide +kernel
theorem hdX2_firstDue : yX2_firstDue.cls ≠ "java/lang/invoke/MethodHandle" ∧ yX2_firstDue.cls ≠ "java/lang/invoke/VarHandle" ∧ (parseMethodDescriptor yX2_firstDue.desc).map (fun d => d.parameters.length) = some 1 := by decide +kernel
theorem hdX2_drop : yX2_drop.cls ≠ "java/lang/invoke/MethodHandle" ∧ yX2_drop.cls ≠ "java/lang/invoke/VarHandle" ∧ (parseMethodDescriptor yX2_drop.desc).map (fun d => d.parameters.length) = some 1 := by decide +kernel
theorem hdX3_init : yX3_init.cls ≠ "java/lang/invoke/MethodHandle" ∧ yX3_init.cls ≠ "java/lang/invoke/VarHandle" ∧ (parseMethodDescriptor yX3_init.desc).map (fun d => d.parameters.length) = some 0 := by decide +kernel
theorem hdX3_note : yX3_note.cls ≠ "java/lang/invoke/MethodHandle" ∧ yX3_note.cls ≠ "java/lang/invoke/VarHandle" ∧ (parseMethodDescriptor yX3_note.desc).map (fun d => d.parameters.length) = some 1 := by decide +kernel
theorem hdX3_kept : yX3_kept.cls ≠ "java/lang/invoke/MethodHandle" ∧ yX3_kept.cls ≠ "java/lang/invoke/VarHandle" ∧ (parseMethodDescriptor yX3_kept.desc).map (fun d => d.parameters.length) = some 0 := by decide +kernel
theorem hdX3_recall : yX3_recall.cls ≠ "java/lang/invoke/MethodHandle" ∧ yX3_recall.cls ≠ "java/lang/invoke/VarHandle" ∧ (parseMethodDescriptor yX3_recall.desc).map (fun d => d.parameters.length) = some 1 := by decide +kernel
theorem hdX4_init : yX4_init.cls ≠ "java/lang/invoke/MethodHandle" ∧ yX4_init.cls ≠ "java/lang/invoke/VarHandle" ∧ (parseMethodDescriptor yX4_init.desc).map (fun d => d.parameters.length) = some 0 := by decide +kernel
theorem hdX4_setParameters : yX4_setParameters.cls ≠ "java/lang/invoke/MethodHandle" ∧ yX4_setParameters.cls ≠ "java/lang/invoke/VarHandle" ∧ (parseMethodDescriptor yX4_setParameters.desc).map (fun d => d.parameters.length) = some 4 := by decide +kernel
theorem hdX4_after : yX4_after.cls ≠ "java/lang/invoke/MethodHandle" ∧ yX4_after.cls ≠ "java/lang/invoke/VarHandle" ∧ (parseMethodDescriptor yX4_after.desc).map (fun d => d.parameters.length) = some 2 := by decide +kernel
theorem hdX4_verdictAt : yX4_verdictAt.cls ≠ "java/lang/invoke/MethodHandle" ∧ yX4_verdictAt.cls ≠ "java/lang/invoke/VarHandle" ∧ (parseMethodDescriptor yX4_verdictAt.desc).map (fun d => d.parameters.length) = some 1 := by decide +kernel
theorem hdX4_indexOfZero : yX4_indexOfZero.cls ≠ "java/lang/invoke/MethodHandle" ∧ yX4_indexOfZero.cls ≠ "java/lang/invoke/VarHandle" ∧ (parseMethodDescriptor yX4_indexOfZero.desc).map (fun d => d.parameters.length) = some 0 := by decide +kernel
theorem hdX4_sequencesWith : yX4_sequencesWith.cls ≠ "java/lang/invoke/MethodHandle" ∧ yX4_sequencesWith.cls ≠ "java/lang/invoke/VarHandle" ∧ (parseMethodDescriptor yX4_sequencesWith.desc).map (fun d => d.parameters.length) = some 2 := by decide +kernel
theorem hdX4_sumOfCounts : yX4_sumOfCounts.cls ≠ "java/lang/invoke/MethodHandle" ∧ yX4_sumOfCounts.cls ≠ "java/lang/invoke/VarHandle" ∧ (parseMethodDescriptor yX4_sumOfCounts.desc).map (fun d => d.parameters.length) = some 2 := by decide +kernel
theorem hdX4_stepCounts : yX4_stepCounts.cls ≠ "java/lang/invoke/MethodHandle" ∧ yX4_stepCounts.cls ≠ "java/lang/invoke/VarHandle" ∧ (parseMethodDescriptor yX4_stepCounts.desc).map (fun d => d.parameters.length) = some 0 := by decide +kernel
theorem hdX4_chanceOfScanner : yX4_chanceOfScanner.cls ≠ "java/lang/invoke/MethodHandle" ∧ yX4_chanceOfScanner.cls ≠ "java/lang/invoke/VarHandle" ∧ (parseMethodDescriptor yX4_chanceOfScanner.desc).map (fun d => d.parameters.length) = some 2 := by decide +kernel
theorem hdX4_meanContacts : yX4_meanContacts.cls ≠ "java/lang/invoke/MethodHandle" ∧ yX4_meanContacts.cls ≠ "java/lang/invoke/VarHandle" ∧ (parseMethodDescriptor yX4_meanContacts.desc).map (fun d => d.parameters.length) = some 2 := by decide +kernel
theorem hdX4_startChances : yX4_startChances.cls ≠ "java/lang/invoke/MethodHandle" ∧ yX4_startChances.cls ≠ "java/lang/invoke/VarHandle" ∧ (parseMethodDescriptor yX4_startChances.desc).map (fun d => d.parameters.length) = some 0 := by decide +kernel
theorem hdX4_sumOfChances : yX4_sumOfChances.cls ≠ "java/lang/invoke/MethodHandle" ∧ yX4_sumOfChances.cls ≠ "java/lang/invoke/VarHandle" ∧ (parseMethodDescriptor yX4_sumOfChances.desc).map (fun d => d.parameters.length) = some 0 := by decide +kernel
theorem hdX4_stepChances : yX4_stepChances.cls ≠ "java/lang/invoke/MethodHandle" ∧ yX4_stepChances.cls ≠ "java/lang/invoke/VarHandle" ∧ (parseMethodDescriptor yX4_stepChances.desc).map (fun d => d.parameters.length) = some 2 := by decide +kernel
theorem hdX5_init : yX5_init.cls ≠ "java/lang/invoke/MethodHandle" ∧ yX5_init.cls ≠ "java/lang/invoke/VarHandle" ∧ (parseMethodDescriptor yX5_init.desc).map (fun d => d.parameters.length) = some 0 := by decide +kernel
theorem hdX5_configure : yX5_configure.cls ≠ "java/lang/invoke/MethodHandle" ∧ yX5_configure.cls ≠ "java/lang/invoke/VarHandle" ∧ (parseMethodDescriptor yX5_configure.desc).map (fun d => d.parameters.length) = some 4 := by decide +kernel
theorem hdX5_setCells : yX5_setCells.cls ≠ "java/lang/invoke/MethodHandle" ∧ yX5_setCells.cls ≠ "java/lang/invoke/VarHandle" ∧ (parseMethodDescriptor yX5_setCells.desc).map (fun d => d.parameters.length) = some 1 := by decide +kernel
theorem hdX5_setTimeout : yX5_setTimeout.cls ≠ "java/lang/invoke/MethodHandle" ∧ yX5_setTimeout.cls ≠ "java/lang/invoke/VarHandle" ∧ (parseMethodDescriptor yX5_setTimeout.desc).map (fun d => d.parameters.length) = some 1 := by decide +kernel
theorem hdX5_reset : yX5_reset.cls ≠ "java/lang/invoke/MethodHandle" ∧ yX5_reset.cls ≠ "java/lang/invoke/VarHandle" ∧ (parseMethodDescriptor yX5_reset.desc).map (fun d => d.parameters.length) = some 0 := by decide +kernel
theorem hdX5_connect : yX5_connect.cls ≠ "java/lang/invoke/MethodHandle" ∧ yX5_connect.cls ≠ "java/lang/invoke/VarHandle" ∧ (parseMethodDescriptor yX5_connect.desc).map (fun d => d.parameters.length) = some 3 := by decide +kernel
theorem hdX5_attempt : yX5_attempt.cls ≠ "java/lang/invoke/MethodHandle" ∧ yX5_attempt.cls ≠ "java/lang/invoke/VarHandle" ∧ (parseMethodDescriptor yX5_attempt.desc).map (fun d => d.parameters.length) = some 2 := by decide +kernel
theorem hdX5_answer : yX5_answer.cls ≠ "java/lang/invoke/MethodHandle" ∧ yX5_answer.cls ≠ "java/lang/invoke/VarHandle" ∧ (parseMethodDescriptor yX5_answer.desc).map (fun d => d.parameters.length) = some 2 := by decide +kernel
theorem hdX5_advance : yX5_advance.cls ≠ "java/lang/invoke/MethodHandle" ∧ yX5_advance.cls ≠ "java/lang/invoke/VarHandle" ∧ (parseMethodDescriptor yX5_advance.desc).map (fun d => d.parameters.length) = some 1 := by decide +kernel
theorem hdX5_failDueAttempts : yX5_failDueAttempts.cls ≠ "java/lang/invoke/MethodHandle" ∧ yX5_failDueAttempts.cls ≠ "java/lang/invoke/VarHandle" ∧ (parseMethodDescriptor yX5_failDueAttempts.desc).map (fun d => d.parameters.length) = some 0 := by decide +kernel
theorem hdX5_unblock : yX5_unblock.cls ≠ "java/lang/invoke/MethodHandle" ∧ yX5_unblock.cls ≠ "java/lang/invoke/VarHandle" ∧ (parseMethodDescriptor yX5_unblock.desc).map (fun d => d.parameters.length) = some 1 := by decide +kernel
theorem hdX5_settle : yX5_settle.cls ≠ "java/lang/invoke/MethodHandle" ∧ yX5_settle.cls ≠ "java/lang/invoke/VarHandle" ∧ (parseMethodDescriptor yX5_settle.desc).map (fun d => d.parameters.length) = some 2 := by decide +kernel
theorem hdX5_discardAttempts : yX5_discardAttempts.cls ≠ "java/lang/invoke/MethodHandle" ∧ yX5_discardAttempts.cls ≠ "java/lang/invoke/VarHandle" ∧ (parseMethodDescriptor yX5_discardAttempts.desc).map (fun d => d.parameters.length) = some 1 := by decide +kernel
theorem hdX5_append : yX5_append.cls ≠ "java/lang/invoke/MethodHandle" ∧ yX5_append.cls ≠ "java/lang/invoke/VarHandle" ∧ (parseMethodDescriptor yX5_append.desc).map (fun d => d.parameters.length) = some 1 := by decide +kernel
theorem hdX5_clearInput : yX5_clearInput.cls ≠ "java/lang/invoke/MethodHandle" ∧ yX5_clearInput.cls ≠ "java/lang/invoke/VarHandle" ∧ (parseMethodDescriptor yX5_clearInput.desc).map (fun d => d.parameters.length) = some 0 := by decide +kernel
theorem hdX5_firstError : yX5_firstError.cls ≠ "java/lang/invoke/MethodHandle" ∧ yX5_firstError.cls ≠ "java/lang/invoke/VarHandle" ∧ (parseMethodDescriptor yX5_firstError.desc).map (fun d => d.parameters.length) = some 0 := by decide +kernel
theorem hdX5_runInput : yX5_runInput.cls ≠ "java/lang/invoke/MethodHandle" ∧ yX5_runInput.cls ≠ "java/lang/invoke/VarHandle" ∧ (parseMethodDescriptor yX5_runInput.desc).map (fun d => d.parameters.length) = some 0 := by decide +kernel
theorem hdX5_cellOf : yX5_cellOf.cls ≠ "java/lang/invoke/MethodHandle" ∧ yX5_cellOf.cls ≠ "java/lang/invoke/VarHandle" ∧ (parseMethodDescriptor yX5_cellOf.desc).map (fun d => d.parameters.length) = some 1 := by decide +kernel
theorem hdX5_score : yX5_score.cls ≠ "java/lang/invoke/MethodHandle" ∧ yX5_score.cls ≠ "java/lang/invoke/VarHandle" ∧ (parseMethodDescriptor yX5_score.desc).map (fun d => d.parameters.length) = some 1 := by decide +kernel
theorem hdX5_isBlocked : yX5_isBlocked.cls ≠ "java/lang/invoke/MethodHandle" ∧ yX5_isBlocked.cls ≠ "java/lang/invoke/VarHandle" ∧ (parseMethodDescriptor yX5_isBlocked.desc).map (fun d => d.parameters.length) = some 1 := by decide +kernel
theorem hdX5_seenDestinations : yX5_seenDestinations.cls ≠ "java/lang/invoke/MethodHandle" ∧ yX5_seenDestinations.cls ≠ "java/lang/invoke/VarHandle" ∧ (parseMethodDescriptor yX5_seenDestinations.desc).map (fun d => d.parameters.length) = some 1 := by decide +kernel
theorem hdX5_blockedContacts : yX5_blockedContacts.cls ≠ "java/lang/invoke/MethodHandle" ∧ yX5_blockedContacts.cls ≠ "java/lang/invoke/VarHandle" ∧ (parseMethodDescriptor yX5_blockedContacts.desc).map (fun d => d.parameters.length) = some 1 := by decide +kernel
theorem hdX5_wronglyBlocked : yX5_wronglyBlocked.cls ≠ "java/lang/invoke/MethodHandle" ∧ yX5_wronglyBlocked.cls ≠ "java/lang/invoke/VarHandle" ∧ (parseMethodDescriptor yX5_wronglyBlocked.desc).map (fun d => d.parameters.length) = some 1 := by decide +kernel
theorem hdX5_cellExists : yX5_cellExists.cls ≠ "java/lang/invoke/MethodHandle" ∧ yX5_cellExists.cls ≠ "java/lang/invoke/VarHandle" ∧ (parseMethodDescriptor yX5_cellExists.desc).map (fun d => d.parameters.length) = some 1 := by decide +kernel
theorem hdX5_sourceExists : yX5_sourceExists.cls ≠ "java/lang/invoke/MethodHandle" ∧ yX5_sourceExists.cls ≠ "java/lang/invoke/VarHandle" ∧ (parseMethodDescriptor yX5_sourceExists.desc).map (fun d => d.parameters.length) = some 1 := by decide +kernel
theorem hdX5_destinationExists : yX5_destinationExists.cls ≠ "java/lang/invoke/MethodHandle" ∧ yX5_destinationExists.cls ≠ "java/lang/invoke/VarHandle" ∧ (parseMethodDescriptor yX5_destinationExists.desc).map (fun d => d.parameters.length) = some 1 := by decide +kernel
theorem hdX5_within : yX5_within.cls ≠ "java/lang/invoke/MethodHandle" ∧ yX5_within.cls ≠ "java/lang/invoke/VarHandle" ∧ (parseMethodDescriptor yX5_within.desc).map (fun d => d.parameters.length) = some 3 := by decide +kernel
theorem hdX5_cellIndex : yX5_cellIndex.cls ≠ "java/lang/invoke/MethodHandle" ∧ yX5_cellIndex.cls ≠ "java/lang/invoke/VarHandle" ∧ (parseMethodDescriptor yX5_cellIndex.desc).map (fun d => d.parameters.length) = some 1 := by decide +kernel
theorem hdX5_attemptCount : yX5_attemptCount.cls ≠ "java/lang/invoke/MethodHandle" ∧ yX5_attemptCount.cls ≠ "java/lang/invoke/VarHandle" ∧ (parseMethodDescriptor yX5_attemptCount.desc).map (fun d => d.parameters.length) = some 0 := by decide +kernel
theorem hdX5_describeAttempt : yX5_describeAttempt.cls ≠ "java/lang/invoke/MethodHandle" ∧ yX5_describeAttempt.cls ≠ "java/lang/invoke/VarHandle" ∧ (parseMethodDescriptor yX5_describeAttempt.desc).map (fun d => d.parameters.length) = some 1 := by decide +kernel
theorem hdX5_clock : yX5_clock.cls ≠ "java/lang/invoke/MethodHandle" ∧ yX5_clock.cls ≠ "java/lang/invoke/VarHandle" ∧ (parseMethodDescriptor yX5_clock.desc).map (fun d => d.parameters.length) = some 0 := by decide +kernel
theorem hdX5_verdictCount : yX5_verdictCount.cls ≠ "java/lang/invoke/MethodHandle" ∧ yX5_verdictCount.cls ≠ "java/lang/invoke/VarHandle" ∧ (parseMethodDescriptor yX5_verdictCount.desc).map (fun d => d.parameters.length) = some 0 := by decide +kernel
theorem hdX5_describeVerdict : yX5_describeVerdict.cls ≠ "java/lang/invoke/MethodHandle" ∧ yX5_describeVerdict.cls ≠ "java/lang/invoke/VarHandle" ∧ (parseMethodDescriptor yX5_describeVerdict.desc).map (fun d => d.parameters.length) = some 1 := by decide +kernel
theorem hdX5_countSequences : yX5_countSequences.cls ≠ "java/lang/invoke/MethodHandle" ∧ yX5_countSequences.cls ≠ "java/lang/invoke/VarHandle" ∧ (parseMethodDescriptor yX5_countSequences.desc).map (fun d => d.parameters.length) = some 2 := by decide +kernel
theorem hdX5_scannerProbability : yX5_scannerProbability.cls ≠ "java/lang/invoke/MethodHandle" ∧ yX5_scannerProbability.cls ≠ "java/lang/invoke/VarHandle" ∧ (parseMethodDescriptor yX5_scannerProbability.desc).map (fun d => d.parameters.length) = some 2 := by decide +kernel
theorem hdX5_expectedContacts : yX5_expectedContacts.cls ≠ "java/lang/invoke/MethodHandle" ∧ yX5_expectedContacts.cls ≠ "java/lang/invoke/VarHandle" ∧ (parseMethodDescriptor yX5_expectedContacts.desc).map (fun d => d.parameters.length) = some 2 := by decide +kernel
theorem hdX5_bitsOf : yX5_bitsOf.cls ≠ "java/lang/invoke/MethodHandle" ∧ yX5_bitsOf.cls ≠ "java/lang/invoke/VarHandle" ∧ (parseMethodDescriptor yX5_bitsOf.desc).map (fun d => d.parameters.length) = some 1 := by decide +kernel
theorem hdX5_digest : yX5_digest.cls ≠ "java/lang/invoke/MethodHandle" ∧ yX5_digest.cls ≠ "java/lang/invoke/VarHandle" ∧ (parseMethodDescriptor yX5_digest.desc).map (fun d => d.parameters.length) = some 0 := by decide +kernel
theorem hdX5_mix : yX5_mix.cls ≠ "java/lang/invoke/MethodHandle" ∧ yX5_mix.cls ≠ "java/lang/invoke/VarHandle" ∧ (parseMethodDescriptor yX5_mix.desc).map (fun d => d.parameters.length) = some 2 := by decide +kernel
theorem hdX5_hashSettings : yX5_hashSettings.cls ≠ "java/lang/invoke/MethodHandle" ∧ yX5_hashSettings.cls ≠ "java/lang/invoke/VarHandle" ∧ (parseMethodDescriptor yX5_hashSettings.desc).map (fun d => d.parameters.length) = some 1 := by decide +kernel
theorem hdX5_hashCells : yX5_hashCells.cls ≠ "java/lang/invoke/MethodHandle" ∧ yX5_hashCells.cls ≠ "java/lang/invoke/VarHandle" ∧ (parseMethodDescriptor yX5_hashCells.desc).map (fun d => d.parameters.length) = some 1 := by decide +kernel
theorem hdX5_hashAttempts : yX5_hashAttempts.cls ≠ "java/lang/invoke/MethodHandle" ∧ yX5_hashAttempts.cls ≠ "java/lang/invoke/VarHandle" ∧ (parseMethodDescriptor yX5_hashAttempts.desc).map (fun d => d.parameters.length) = some 1 := by decide +kernel
theorem hdX5_hashVerdicts : yX5_hashVerdicts.cls ≠ "java/lang/invoke/MethodHandle" ∧ yX5_hashVerdicts.cls ≠ "java/lang/invoke/VarHandle" ∧ (parseMethodDescriptor yX5_hashVerdicts.desc).map (fun d => d.parameters.length) = some 1 := by decide +kernel
theorem hdX5_hashAnalysis : yX5_hashAnalysis.cls ≠ "java/lang/invoke/MethodHandle" ∧ yX5_hashAnalysis.cls ≠ "java/lang/invoke/VarHandle" ∧ (parseMethodDescriptor yX5_hashAnalysis.desc).map (fun d => d.parameters.length) = some 1 := by decide +kernel
theorem hdX5_hashInput : yX5_hashInput.cls ≠ "java/lang/invoke/MethodHandle" ∧ yX5_hashInput.cls ≠ "java/lang/invoke/VarHandle" ∧ (parseMethodDescriptor yX5_hashInput.desc).map (fun d => d.parameters.length) = some 1 := by decide +kernel
theorem hdX6_init : yX6_init.cls ≠ "java/lang/invoke/MethodHandle" ∧ yX6_init.cls ≠ "java/lang/invoke/VarHandle" ∧ (parseMethodDescriptor yX6_init.desc).map (fun d => d.parameters.length) = some 0 := by decide +kernel
theorem hdX6_within : yX6_within.cls ≠ "java/lang/invoke/MethodHandle" ∧ yX6_within.cls ≠ "java/lang/invoke/VarHandle" ∧ (parseMethodDescriptor yX6_within.desc).map (fun d => d.parameters.length) = some 3 := by decide +kernel
theorem hdX6_reset : yX6_reset.cls ≠ "java/lang/invoke/MethodHandle" ∧ yX6_reset.cls ≠ "java/lang/invoke/VarHandle" ∧ (parseMethodDescriptor yX6_reset.desc).map (fun d => d.parameters.length) = some 0 := by decide +kernel
theorem hdX6_configure : yX6_configure.cls ≠ "java/lang/invoke/MethodHandle" ∧ yX6_configure.cls ≠ "java/lang/invoke/VarHandle" ∧ (parseMethodDescriptor yX6_configure.desc).map (fun d => d.parameters.length) = some 4 := by decide +kernel
theorem hdX6_setCells : yX6_setCells.cls ≠ "java/lang/invoke/MethodHandle" ∧ yX6_setCells.cls ≠ "java/lang/invoke/VarHandle" ∧ (parseMethodDescriptor yX6_setCells.desc).map (fun d => d.parameters.length) = some 1 := by decide +kernel
theorem hdX6_setTimeout : yX6_setTimeout.cls ≠ "java/lang/invoke/MethodHandle" ∧ yX6_setTimeout.cls ≠ "java/lang/invoke/VarHandle" ∧ (parseMethodDescriptor yX6_setTimeout.desc).map (fun d => d.parameters.length) = some 1 := by decide +kernel
theorem hdX6_isSource : yX6_isSource.cls ≠ "java/lang/invoke/MethodHandle" ∧ yX6_isSource.cls ≠ "java/lang/invoke/VarHandle" ∧ (parseMethodDescriptor yX6_isSource.desc).map (fun d => d.parameters.length) = some 1 := by decide +kernel
theorem hdX6_isDestination : yX6_isDestination.cls ≠ "java/lang/invoke/MethodHandle" ∧ yX6_isDestination.cls ≠ "java/lang/invoke/VarHandle" ∧ (parseMethodDescriptor yX6_isDestination.desc).map (fun d => d.parameters.length) = some 1 := by decide +kernel
theorem hdX6_drop : yX6_drop.cls ≠ "java/lang/invoke/MethodHandle" ∧ yX6_drop.cls ≠ "java/lang/invoke/VarHandle" ∧ (parseMethodDescriptor yX6_drop.desc).map (fun d => d.parameters.length) = some 1 := by decide +kernel
theorem hdX6_dropAllOf : yX6_dropAllOf.cls ≠ "java/lang/invoke/MethodHandle" ∧ yX6_dropAllOf.cls ≠ "java/lang/invoke/VarHandle" ∧ (parseMethodDescriptor yX6_dropAllOf.desc).map (fun d => d.parameters.length) = some 1 := by decide +kernel
theorem hdX6_decide : yX6_decide.cls ≠ "java/lang/invoke/MethodHandle" ∧ yX6_decide.cls ≠ "java/lang/invoke/VarHandle" ∧ (parseMethodDescriptor yX6_decide.desc).map (fun d => d.parameters.length) = some 2 := by decide +kernel
theorem hdX6_count : yX6_count.cls ≠ "java/lang/invoke/MethodHandle" ∧ yX6_count.cls ≠ "java/lang/invoke/VarHandle" ∧ (parseMethodDescriptor yX6_count.desc).map (fun d => d.parameters.length) = some 2 := by decide +kernel
theorem hdX6_isSeen : yX6_isSeen.cls ≠ "java/lang/invoke/MethodHandle" ∧ yX6_isSeen.cls ≠ "java/lang/invoke/VarHandle" ∧ (parseMethodDescriptor yX6_isSeen.desc).map (fun d => d.parameters.length) = some 2 := by decide +kernel
theorem hdX6_connectNow : yX6_connectNow.cls ≠ "java/lang/invoke/MethodHandle" ∧ yX6_connectNow.cls ≠ "java/lang/invoke/VarHandle" ∧ (parseMethodDescriptor yX6_connectNow.desc).map (fun d => d.parameters.length) = some 3 := by decide +kernel
theorem hdX6_connect : yX6_connect.cls ≠ "java/lang/invoke/MethodHandle" ∧ yX6_connect.cls ≠ "java/lang/invoke/VarHandle" ∧ (parseMethodDescriptor yX6_connect.desc).map (fun d => d.parameters.length) = some 3 := by decide +kernel
theorem hdX6_attemptNow : yX6_attemptNow.cls ≠ "java/lang/invoke/MethodHandle" ∧ yX6_attemptNow.cls ≠ "java/lang/invoke/VarHandle" ∧ (parseMethodDescriptor yX6_attemptNow.desc).map (fun d => d.parameters.length) = some 2 := by decide +kernel
theorem hdX6_attempt : yX6_attempt.cls ≠ "java/lang/invoke/MethodHandle" ∧ yX6_attempt.cls ≠ "java/lang/invoke/VarHandle" ∧ (parseMethodDescriptor yX6_attempt.desc).map (fun d => d.parameters.length) = some 2 := by decide +kernel
theorem hdX6_answer : yX6_answer.cls ≠ "java/lang/invoke/MethodHandle" ∧ yX6_answer.cls ≠ "java/lang/invoke/VarHandle" ∧ (parseMethodDescriptor yX6_answer.desc).map (fun d => d.parameters.length) = some 2 := by decide +kernel
theorem hdX6_due : yX6_due.cls ≠ "java/lang/invoke/MethodHandle" ∧ yX6_due.cls ≠ "java/lang/invoke/VarHandle" ∧ (parseMethodDescriptor yX6_due.desc).map (fun d => d.parameters.length) = some 0 := by decide +kernel
theorem hdX6_tick : yX6_tick.cls ≠ "java/lang/invoke/MethodHandle" ∧ yX6_tick.cls ≠ "java/lang/invoke/VarHandle" ∧ (parseMethodDescriptor yX6_tick.desc).map (fun d => d.parameters.length) = some 0 := by decide +kernel
theorem hdX6_advance : yX6_advance.cls ≠ "java/lang/invoke/MethodHandle" ∧ yX6_advance.cls ≠ "java/lang/invoke/VarHandle" ∧ (parseMethodDescriptor yX6_advance.desc).map (fun d => d.parameters.length) = some 1 := by decide +kernel
theorem hdX6_isCell : yX6_isCell.cls ≠ "java/lang/invoke/MethodHandle" ∧ yX6_isCell.cls ≠ "java/lang/invoke/VarHandle" ∧ (parseMethodDescriptor yX6_isCell.desc).map (fun d => d.parameters.length) = some 1 := by decide +kernel
theorem hdX6_unblock : yX6_unblock.cls ≠ "java/lang/invoke/MethodHandle" ∧ yX6_unblock.cls ≠ "java/lang/invoke/VarHandle" ∧ (parseMethodDescriptor yX6_unblock.desc).map (fun d => d.parameters.length) = some 1 := by decide +kernel
theorem hdX6_append : yX6_append.cls ≠ "java/lang/invoke/MethodHandle" ∧ yX6_append.cls ≠ "java/lang/invoke/VarHandle" ∧ (parseMethodDescriptor yX6_append.desc).map (fun d => d.parameters.length) = some 1 := by decide +kernel
theorem hdX6_clearInput : yX6_clearInput.cls ≠ "java/lang/invoke/MethodHandle" ∧ yX6_clearInput.cls ≠ "java/lang/invoke/VarHandle" ∧ (parseMethodDescriptor yX6_clearInput.desc).map (fun d => d.parameters.length) = some 0 := by decide +kernel
theorem hdX6_isRight : yX6_isRight.cls ≠ "java/lang/invoke/MethodHandle" ∧ yX6_isRight.cls ≠ "java/lang/invoke/VarHandle" ∧ (parseMethodDescriptor yX6_isRight.desc).map (fun d => d.parameters.length) = some 1 := by decide +kernel
theorem hdX6_rightLength : yX6_rightLength.cls ≠ "java/lang/invoke/MethodHandle" ∧ yX6_rightLength.cls ≠ "java/lang/invoke/VarHandle" ∧ (parseMethodDescriptor yX6_rightLength.desc).map (fun d => d.parameters.length) = some 0 := by decide +kernel
theorem hdX6_firstError : yX6_firstError.cls ≠ "java/lang/invoke/MethodHandle" ∧ yX6_firstError.cls ≠ "java/lang/invoke/VarHandle" ∧ (parseMethodDescriptor yX6_firstError.desc).map (fun d => d.parameters.length) = some 0 := by decide +kernel
theorem hdX6_runInput : yX6_runInput.cls ≠ "java/lang/invoke/MethodHandle" ∧ yX6_runInput.cls ≠ "java/lang/invoke/VarHandle" ∧ (parseMethodDescriptor yX6_runInput.desc).map (fun d => d.parameters.length) = some 0 := by decide +kernel
theorem hdX6_cellOf : yX6_cellOf.cls ≠ "java/lang/invoke/MethodHandle" ∧ yX6_cellOf.cls ≠ "java/lang/invoke/VarHandle" ∧ (parseMethodDescriptor yX6_cellOf.desc).map (fun d => d.parameters.length) = some 1 := by decide +kernel
theorem hdX6_score : yX6_score.cls ≠ "java/lang/invoke/MethodHandle" ∧ yX6_score.cls ≠ "java/lang/invoke/VarHandle" ∧ (parseMethodDescriptor yX6_score.desc).map (fun d => d.parameters.length) = some 1 := by decide +kernel
theorem hdX6_isBlocked : yX6_isBlocked.cls ≠ "java/lang/invoke/MethodHandle" ∧ yX6_isBlocked.cls ≠ "java/lang/invoke/VarHandle" ∧ (parseMethodDescriptor yX6_isBlocked.desc).map (fun d => d.parameters.length) = some 1 := by decide +kernel
theorem hdX6_seenDestinations : yX6_seenDestinations.cls ≠ "java/lang/invoke/MethodHandle" ∧ yX6_seenDestinations.cls ≠ "java/lang/invoke/VarHandle" ∧ (parseMethodDescriptor yX6_seenDestinations.desc).map (fun d => d.parameters.length) = some 1 := by decide +kernel
theorem hdX6_blockedContacts : yX6_blockedContacts.cls ≠ "java/lang/invoke/MethodHandle" ∧ yX6_blockedContacts.cls ≠ "java/lang/invoke/VarHandle" ∧ (parseMethodDescriptor yX6_blockedContacts.desc).map (fun d => d.parameters.length) = some 1 := by decide +kernel
theorem hdX6_wronglyBlocked : yX6_wronglyBlocked.cls ≠ "java/lang/invoke/MethodHandle" ∧ yX6_wronglyBlocked.cls ≠ "java/lang/invoke/VarHandle" ∧ (parseMethodDescriptor yX6_wronglyBlocked.desc).map (fun d => d.parameters.length) = some 1 := by decide +kernel
theorem hdX6_attemptCount : yX6_attemptCount.cls ≠ "java/lang/invoke/MethodHandle" ∧ yX6_attemptCount.cls ≠ "java/lang/invoke/VarHandle" ∧ (parseMethodDescriptor yX6_attemptCount.desc).map (fun d => d.parameters.length) = some 0 := by decide +kernel
theorem hdX6_described : yX6_described.cls ≠ "java/lang/invoke/MethodHandle" ∧ yX6_described.cls ≠ "java/lang/invoke/VarHandle" ∧ (parseMethodDescriptor yX6_described.desc).map (fun d => d.parameters.length) = some 1 := by decide +kernel
theorem hdX6_describeAttempt : yX6_describeAttempt.cls ≠ "java/lang/invoke/MethodHandle" ∧ yX6_describeAttempt.cls ≠ "java/lang/invoke/VarHandle" ∧ (parseMethodDescriptor yX6_describeAttempt.desc).map (fun d => d.parameters.length) = some 1 := by decide +kernel
theorem hdX6_clock : yX6_clock.cls ≠ "java/lang/invoke/MethodHandle" ∧ yX6_clock.cls ≠ "java/lang/invoke/VarHandle" ∧ (parseMethodDescriptor yX6_clock.desc).map (fun d => d.parameters.length) = some 0 := by decide +kernel
theorem hdX6_verdictCount : yX6_verdictCount.cls ≠ "java/lang/invoke/MethodHandle" ∧ yX6_verdictCount.cls ≠ "java/lang/invoke/VarHandle" ∧ (parseMethodDescriptor yX6_verdictCount.desc).map (fun d => d.parameters.length) = some 0 := by decide +kernel
theorem hdX6_describeVerdict : yX6_describeVerdict.cls ≠ "java/lang/invoke/MethodHandle" ∧ yX6_describeVerdict.cls ≠ "java/lang/invoke/VarHandle" ∧ (parseMethodDescriptor yX6_describeVerdict.desc).map (fun d => d.parameters.length) = some 1 := by decide +kernel
theorem hdX6_sequences : yX6_sequences.cls ≠ "java/lang/invoke/MethodHandle" ∧ yX6_sequences.cls ≠ "java/lang/invoke/VarHandle" ∧ (parseMethodDescriptor yX6_sequences.desc).map (fun d => d.parameters.length) = some 2 := by decide +kernel
theorem hdX6_countSequences : yX6_countSequences.cls ≠ "java/lang/invoke/MethodHandle" ∧ yX6_countSequences.cls ≠ "java/lang/invoke/VarHandle" ∧ (parseMethodDescriptor yX6_countSequences.desc).map (fun d => d.parameters.length) = some 2 := by decide +kernel
theorem hdX6_step : yX6_step.cls ≠ "java/lang/invoke/MethodHandle" ∧ yX6_step.cls ≠ "java/lang/invoke/VarHandle" ∧ (parseMethodDescriptor yX6_step.desc).map (fun d => d.parameters.length) = some 2 := by decide +kernel
theorem hdX6_layChances : yX6_layChances.cls ≠ "java/lang/invoke/MethodHandle" ∧ yX6_layChances.cls ≠ "java/lang/invoke/VarHandle" ∧ (parseMethodDescriptor yX6_layChances.desc).map (fun d => d.parameters.length) = some 2 := by decide +kernel
theorem hdX6_areRight : yX6_areRight.cls ≠ "java/lang/invoke/MethodHandle" ∧ yX6_areRight.cls ≠ "java/lang/invoke/VarHandle" ∧ (parseMethodDescriptor yX6_areRight.desc).map (fun d => d.parameters.length) = some 2 := by decide +kernel
theorem hdX6_scannedBits : yX6_scannedBits.cls ≠ "java/lang/invoke/MethodHandle" ∧ yX6_scannedBits.cls ≠ "java/lang/invoke/VarHandle" ∧ (parseMethodDescriptor yX6_scannedBits.desc).map (fun d => d.parameters.length) = some 2 := by decide +kernel
theorem hdX6_awaitedBits : yX6_awaitedBits.cls ≠ "java/lang/invoke/MethodHandle" ∧ yX6_awaitedBits.cls ≠ "java/lang/invoke/VarHandle" ∧ (parseMethodDescriptor yX6_awaitedBits.desc).map (fun d => d.parameters.length) = some 2 := by decide +kernel
theorem hdX6_scannerProbability : yX6_scannerProbability.cls ≠ "java/lang/invoke/MethodHandle" ∧ yX6_scannerProbability.cls ≠ "java/lang/invoke/VarHandle" ∧ (parseMethodDescriptor yX6_scannerProbability.desc).map (fun d => d.parameters.length) = some 2 := by decide +kernel
theorem hdX6_expectedContacts : yX6_expectedContacts.cls ≠ "java/lang/invoke/MethodHandle" ∧ yX6_expectedContacts.cls ≠ "java/lang/invoke/VarHandle" ∧ (parseMethodDescriptor yX6_expectedContacts.desc).map (fun d => d.parameters.length) = some 2 := by decide +kernel
theorem hdX6_mix : yX6_mix.cls ≠ "java/lang/invoke/MethodHandle" ∧ yX6_mix.cls ≠ "java/lang/invoke/VarHandle" ∧ (parseMethodDescriptor yX6_mix.desc).map (fun d => d.parameters.length) = some 1 := by decide +kernel
theorem hdX6_digest : yX6_digest.cls ≠ "java/lang/invoke/MethodHandle" ∧ yX6_digest.cls ≠ "java/lang/invoke/VarHandle" ∧ (parseMethodDescriptor yX6_digest.desc).map (fun d => d.parameters.length) = some 0 := by decide +kernel
theorem hdJxe99ae_isNaN_b9ae7 : yJxe99ae_isNaN_b9ae7.cls ≠ "java/lang/invoke/MethodHandle" ∧ yJxe99ae_isNaN_b9ae7.cls ≠ "java/lang/invoke/VarHandle" ∧ (parseMethodDescriptor yJxe99ae_isNaN_b9ae7.desc).map (fun d => d.parameters.length) = some 1 := by decide +kernel
theorem hdJxe99ae_doubleToLongBits_ccdee : yJxe99ae_doubleToLongBits_ccdee.cls ≠ "java/lang/invoke/MethodHandle" ∧ yJxe99ae_doubleToLongBits_ccdee.cls ≠ "java/lang/invoke/VarHandle" ∧ (parseMethodDescriptor yJxe99ae_doubleToLongBits_ccdee.desc).map (fun d => d.parameters.length) = some 1 := by decide +kernel
theorem hdJ9_floorMod_7cf53 : yJ9_floorMod_7cf53.cls ≠ "java/lang/invoke/MethodHandle" ∧ yJ9_floorMod_7cf53.cls ≠ "java/lang/invoke/VarHandle" ∧ (parseMethodDescriptor yJ9_floorMod_7cf53.desc).map (fun d => d.parameters.length) = some 2 := by decide +kernel
theorem hdJ9_max_7cf53 : yJ9_max_7cf53.cls ≠ "java/lang/invoke/MethodHandle" ∧ yJ9_max_7cf53.cls ≠ "java/lang/invoke/VarHandle" ∧ (parseMethodDescriptor yJ9_max_7cf53.desc).map (fun d => d.parameters.length) = some 2 := by decide +kernel
theorem hdJ9_min_7cf53 : yJ9_min_7cf53.cls ≠ "java/lang/invoke/MethodHandle" ∧ yJ9_min_7cf53.cls ≠ "java/lang/invoke/VarHandle" ∧ (parseMethodDescriptor yJ9_min_7cf53.desc).map (fun d => d.parameters.length) = some 2 := by decide +kernel
theorem hdJ7_fill_53178 : yJ7_fill_53178.cls ≠ "java/lang/invoke/MethodHandle" ∧ yJ7_fill_53178.cls ≠ "java/lang/invoke/VarHandle" ∧ (parseMethodDescriptor yJ7_fill_53178.desc).map (fun d => d.parameters.length) = some 2 := by decide +kernel
theorem hdJ7_fill_7f8df : yJ7_fill_7f8df.cls ≠ "java/lang/invoke/MethodHandle" ∧ yJ7_fill_7f8df.cls ≠ "java/lang/invoke/VarHandle" ∧ (parseMethodDescriptor yJ7_fill_7f8df.desc).map (fun d => d.parameters.length) = some 2 := by decide +kernel
end
section
/-! what the calls do, for both sides: the settings and the reads -/
theorem wi_1 {x lo hi : Int32} (h1 : ¬ x < lo) (h2 : ¬ hi < x) : (1 : Int32) = if lo ≤ x ∧ x ≤ hi then 1 else 0 := (if_pos ⟨Int32.not_lt.mp h1, Int32.not_lt.mp h2⟩).symm
theorem wi_a {x lo hi : Int32} (h1 : x < lo) : (0 : Int32) = if lo ≤ x ∧ x ≤ hi then 1 else 0 := (if_neg (fun h => Int32.not_lt.mpr h.1 h1)).symm
theorem wi_b {x lo hi : Int32} (h1 : hi < x) : (0 : Int32) = if lo ≤ x ∧ x ≤ hi then 1 else 0 := (if_neg (fun h => Int32.not_lt.mpr h.2 h1)).symm
/-- a number between 0 and a small one is a natural number -/
theorem nat_of {x : Int32} {n : Nat} (hn : n < 2 ^ 31) (h0 : 0 ≤ x) (h1 : x ≤ nI n) : ∃ j : Nat, j ≤ n ∧ x = nI j := nI_of2 (M := nI n) (nI_toInt hn) (Int32.not_lt.mpr h0) h1
theorem nat_lt {x : Int32} {a : Nat} (ha : a < 2 ^ 30) (h0 : 0 ≤ x) (h1 : x ≤ nI a - 1) : ∃ j : Nat, j < a ∧ x = nI j := by
  obtain ⟨j, hj, rfl⟩ := nI_of (Int32.not_lt.mpr h0)
  cases a with
  | zero =>
    rw [nI_0] at h1
    exact absurd (Int32.le_trans h0 h1) (by decide)
  | succ a =>
    rw [nI_pred] at h1
    exact ⟨j, Nat.lt_succ_of_le ((nI_leI hj (by omega)).mp h1), rfl⟩
def zr (n : Nat) (f : Nat → Int32) : Nat → Int32 := fun k => if k < n then 0 else f k
def zrE (n : Nat) (f : Nat → Int64) : Nat → Int64 := fun k => if k < n then 0 else f k
theorem zr_0 (f : Nat → Int32) : zr 0 f = f := by funext k; simp [zr]
theorem zrE_0 (f : Nat → Int64) : zrE 0 f = f := by funext k; simp [zrE]
theorem zr_s (n : Nat) (f : Nat → Int32) : upd (zr n f) n 0 = zr (n + 1) f := by
  funext k
  by_cases h : k = n
  · subst h; simp [upd, zr]
  · by_cases h2 : k < n
    · simp [upd, zr, h, h2, Nat.lt_succ_of_lt h2]
    · simp [upd, zr, h, h2, show ¬ k < n + 1 by omega]
theorem zrE_s (n : Nat) (f : Nat → Int64) : vp_updL (zrE n f) n 0 = zrE (n + 1) f := by
  funext k
  by_cases h : k = n
  · subst h; simp [vp_updL, zrE]
  · by_cases h2 : k < n
    · simp [vp_updL, zrE, h, h2, Nat.lt_succ_of_lt h2]
    · simp [vp_updL, zrE, h, h2, show ¬ k < n + 1 by omega]
def rsG (k : Nat) (g : Sg) : Sg := (g.1, g.2.1, (fun j => if j < 4 then zr k (gR g j) else gR g j), zrE k (gE g), g.2.2.2.2)
theorem rsG_0 (g : Sg) : rsG 0 g = g := by
  obtain ⟨N, I, R, E, V⟩ := g
  simp only [rsG, gR, gE, zr_0, zrE_0, ite_self]
theorem rsG_s (k : Nat) (g : Sg) : sR (sR (sE (sR (sR (rsG k g) 0 (upd (gR (rsG k g) 0) k 0)) 1 (upd (gR (rsG k g) 1) k 0)) (vp_updL (gE (rsG k g)) k 0)) 2 (upd (gR (rsG k g) 2) k 0)) 3 (upd (gR (rsG k g) 3) k 0) = rsG (k + 1) g := by
  have e : ∀ j, j < 4 → gR (rsG k g) j = zr k (gR g j) := fun j hj => if_pos hj
  have e2 : gE (rsG k g) = zrE k (gE g) := rfl
  rw [e 0 (by decide), e 1 (by decide), e 2 (by decide), e 3 (by decide), e2]
  simp only [zr_s, zrE_s]
  refine Prod.ext rfl (Prod.ext rfl (Prod.ext ?_ rfl))
  funext j
  show vf_upd (vf_upd (vf_upd (vf_upd (fun j => if j < 4 then zr k (gR g j) else gR g j) 0 (zr (k + 1) (gR g 0))) 1 (zr (k + 1) (gR g 1))) 2 (zr (k + 1) (gR g 2))) 3 (zr (k + 1) (gR g 3)) j = if j < 4 then zr (k + 1) (gR g j) else gR g j
  by_cases h : j < 4
  · rcases (show j = 0 ∨ j = 1 ∨ j = 2 ∨ j = 3 by omega) with rfl | rfl | rfl | rfl <;> simp [vf_upd]
  · simp [vf_upd, h, show j ≠ 0 by omega, show j ≠ 1 by omega, show j ≠ 2 by omega, show j ≠ 3 by omega]
def sp_reset (g : Sg) : Sg := sI (sV (sN (rsG 8 g) 1 0) []) 5 0
abbrev okc (u d hi lo : Int32) : Prop := (1 ≤ u ∧ u ≤ 9) ∧ (1 ≤ d ∧ d ≤ 9) ∧ (1 ≤ hi ∧ hi ≤ 60) ∧ ((-60) ≤ lo ∧ lo ≤ (-1))
def sp_configure (u d hi lo : Int32) (g : Sg) : Int32 × Sg := if okc u d hi lo then (nI (gN g 0), sp_reset (sI (sI (sI (sI g 0 u) 1 d) 2 hi) 3 lo)) else (-104, g)
def sp_setCells (k : Int32) (g : Sg) : Int32 × Sg := if 1 ≤ k ∧ k ≤ 8 then (nI (gN g 0), sp_reset (sN g 0 k.toNatClampNeg)) else (-104, g)
def sp_setTimeout (k : Int32) (g : Sg) : Int32 × Sg := if 1 ≤ k ∧ k ≤ 20 then (gI g 4, sI g 4 k) else (-104, g)
def sp_cellOf (s : Int32) (g : Sg) : Int32 := if 0 ≤ s ∧ s ≤ 7 then nI (s.toNatClampNeg % gN g 0) else (-105)
/-- a read of a row at a cell -/
def sp_at (k : Nat) (i : Int32) (g : Sg) : Int32 := if 0 ≤ i ∧ i ≤ nI (gN g 0) - 1 then gR g k i.toNatClampNeg else (-107)
def sp_isB (i : Int32) (g : Sg) : Int32 := if 0 ≤ i ∧ i ≤ nI (gN g 0) - 1 then (if gR g 1 i.toNatClampNeg = 0 then 0 else 1) else (-107)
def sp_seen (i : Int32) (g : Sg) : Int64 := if 0 ≤ i ∧ i ≤ nI (gN g 0) - 1 then gE g i.toNatClampNeg else (-107)
def desA (k : Nat) (g : Sg) : Int32 := 1000 * (gR g 6 k - gI g 5) + 100 * gR g 4 k + gR g 5 k
def sp_desA (i : Int32) (g : Sg) : Int32 := if 0 ≤ i ∧ i ≤ nI (gN g 1) - 1 then desA i.toNatClampNeg g else (-108)
def sp_desV (b : Int32) (g : Sg) : Int32 := if (0 ≤ b ∧ b ≤ 15) ∧ b < nI (gV g).length then (gV g).getD b.toNatClampNeg 0 else (-109)
def sp_append (k : Int32) (g : Sg) : Int32 × Sg := if 32 ≤ k ∧ k ≤ 126 then (if gN g 2 = 59 then (-102, g) else (nI (gN g 2 + 1), sN (sR g 7 (upd (gR g 7) (gN g 2) k)) 2 (gN g 2 + 1))) else (-101, g)
def sp_clear (g : Sg) : Int32 × Sg := (nI (gN g 2), sN g 2 0)
/-- what holds of every state -/
def Inv (g : Sg) : Prop := (1 ≤ gN g 0 ∧ gN g 0 ≤ 8) ∧ gN g 1 ≤ 12 ∧ gN g 2 ≤ 59 ∧ (1 ≤ gI g 0 ∧ gI g 0 ≤ 9) ∧ (1 ≤ gI g 1 ∧ gI g 1 ≤ 9) ∧ (1 ≤ gI g 2 ∧ gI g 2 ≤ 60) ∧ ((-60) ≤ gI g 3 ∧ gI g 3 ≤ (-1)) ∧ (∀ k, k < gN g 1 → ∃ s, s < 8 ∧ gR g 4 k = nI s) ∧ (gV g).length < 2 ^ 30
def RgM (V : List Int32) (L : Nat → Int32) : Prop := ∀ b, b < 16 → b < V.length → L b = V.getD b 0
end
section
set_option maxRecDepth 100000 in
set_option maxHeartbeats 4000000 in
theorem kX6_within (l : Launch) (D : va_G) (kA : Nat → ClassId) (sz : Nat) (x lo hi : Int32)  : CtI l yX6_within cX6_within 3 .boolean 0 D kA sz ([]) [.int x, .int lo, .int hi] (fun r u => (r = if lo ≤ x ∧ x ≤ hi then 1 else 0) ∧ u = []) := by
  refine ct_z (own := RX6) (by decide) rfl (Nat.le_of_ble_eq_true rfl) ?_
  intro p_ e_ s_ m_ ar_ bw_ me_ co_ A ls Q F hnm hK hA hP hD hS hl hsz rt
  have hx := F.1
  have hb := F.2.1
  have hl : lv_has ls 3 [(0, .int x), (1, .int lo), (2, .int hi)] := hl
  have hP : va_P D vwCl ([]) s_.heap := hP
  refine lv_iload_n hx hb dX6_within_0 rfl (lv_at hl 0 rfl) ?_
  refine lv_iload_n hx hb dX6_within_1 rfl (lv_at hl 1 rfl) ?_
  refine lv_icmp_lt (tgt := 14) hx hb dX6_within_2 (by decide) (fun c_2 => ?_) (fun c_2 => ?_)
  · refine lv_iconst (v := 0) hx hb dX6_within_14 (by decide) ?_
    exact rt _ ([]) _ _ _ _ hP hD hS dX6_within_15 rfl (⟨wi_a c_2, rfl⟩)
  · refine lv_iload_n hx hb dX6_within_5 rfl (lv_at hl 0 rfl) ?_
    refine lv_iload_n hx hb dX6_within_6 rfl (lv_at hl 2 rfl) ?_
    refine lv_icmp_gt (tgt := 14) hx hb dX6_within_7 (by decide) (fun c_7 => ?_) (fun c_7 => ?_)
    · refine lv_iconst (v := 0) hx hb dX6_within_14 (by decide) ?_
      exact rt _ ([]) _ _ _ _ hP hD hS dX6_within_15 rfl (⟨wi_b c_7, rfl⟩)
    · refine lv_iconst (v := 1) hx hb dX6_within_10 (by decide) ?_
      refine lv_goto (tgt := 15) hx hb dX6_within_11 (by decide) ?_
      exact rt _ ([]) _ _ _ _ hP hD hS dX6_within_15 rfl (⟨wi_1 c_2 c_7, rfl⟩)

set_option maxRecDepth 100000 in
set_option maxHeartbeats 4000000 in
theorem kX6_reset (l : Launch) (D : va_G) (kA : Nat → ClassId) (sz : Nat) (ad : Nat → Nat) (g : Sg) (z : Zm)  : CtV l yX6_reset cX6_reset 2 1 0 0 D kA sz (mW ad kA g z) [.ref (ad 0)] (fun u => u = mW ad kA (sp_reset g) z) := by
  refine ct_v (own := RX6) (by decide) rfl (Nat.le_of_ble_eq_true rfl) ?_
  intro p_ e_ s_ m_ ar_ bw_ me_ co_ A ls Q F hnm hK hA hP hD hS hl hsz rt
  have hx := F.1
  have hb := F.2.1
  have hl : lv_has ls 2 [(0, .ref (ad 0))] := hl
  have hP : va_P D vwCl (mW ad kA g z) s_.heap := hP
  refine lv_iconst (v := 0) hx hb dX6_reset_0 (by decide) ?_
  refine lv_istore_n (lv' := [(1, .int 0), (0, .ref (ad 0))]) hx hb dX6_reset_1 rfl hl (by decide) rfl (fun ls hl => ?_)
  have lp_2 : ∀ (n_2 : Nat) (k : Nat) (g1 : Sg), (k ≤ 8) → (g1 = rsG k g) → (8 - k) < n_2 → ∀ (H : Heap) (locs : List Loc) (ls : Array Slot), va_P D vwCl (mW ad kA g1 z) H → va_D A (mW ad kA g1 z) → va_S A s_.heap H locs → lv_has ls 2 [(0, .ref (ad 0)), (1, .int (nI k))] → W p_ l e_ (rmC 1 0 0) s_ m_ ar_ bw_ me_ co_ H locs 0 0 Q (F0 m_ 2 ls []) := by
    intro n_2
    induction n_2 with
    | zero =>
      intro k g1 hk hg hm_2
      exact absurd hm_2 (Nat.not_lt_zero _)
    | succ n_2 ih_2 =>
      intro k g1 hk hg hm_2 H locs ls hP hD hS hl
      refine lv_iload_n hx hb dX6_reset_2 rfl (lv_at hl 1 rfl) ?_
      refine lv_bipush (v := 8) hx hb dX6_reset_3 (by decide) ?_
      refine b_ge F (a := k) (b := 8) (tgt := 49) dX6_reset_5 (by decide) (by omega) (by omega) (fun c_5 => ?_) (fun c_5 => ?_)
      · refine lv_aload_n hx hb dX6_reset_49 rfl (lv_at hl 0 rfl) ?_
        refine lv_iconst (v := 0) hx hb dX6_reset_50 (by decide) ?_
        refine g_put F hK hP hD hS inX6 tyX6_ok nmX6 0 rfl rfl 12 (by decide) gw_588 rfl rfl rfl rfl (Nat.le_of_ble_eq_true rfl) dX6_reset_51 (fun H locs hP hD hS => ?_)
        have hP : va_P D vwCl (mW ad kA (sN g1 1 0) z) H := hP
        have hD : va_D A (mW ad kA (sN g1 1 0) z) := hD
        refine lv_aload_n hx hb dX6_reset_54 rfl (lv_at hl 0 rfl) ?_
        refine lv_iconst (v := 0) hx hb dX6_reset_55 (by decide) ?_
        refine g_put F hK hP hD hS inX6 tyX6_ok nmX6 0 rfl rfl 16 (by decide) gw_592 rfl rfl rfl rfl (Nat.le_of_ble_eq_true rfl) dX6_reset_56 (fun H locs hP hD hS => ?_)
        have hP : va_P D vwCl (mW ad kA (sV (sN g1 1 0) ([])) z) H := hP
        have hD : va_D A (mW ad kA (sV (sN g1 1 0) ([])) z) := hD
        refine lv_aload_n hx hb dX6_reset_59 rfl (lv_at hl 0 rfl) ?_
        refine lv_iconst (v := 0) hx hb dX6_reset_60 (by decide) ?_
        refine g_put F hK hP hD hS inX6 tyX6_ok nmX6 0 rfl rfl 6 (by decide) gw_582 rfl rfl rfl rfl (Nat.le_of_ble_eq_true rfl) dX6_reset_61 (fun H locs hP hD hS => ?_)
        have hP : va_P D vwCl (mW ad kA (sI (sV (sN g1 1 0) ([])) 5 0) z) H := hP
        have hD : va_D A (mW ad kA (sI (sV (sN g1 1 0) ([])) 5 0) z) := hD
        exact rt (mW ad kA (sI (sV (sN g1 1 0) ([])) 5 0) z) _ _ _ _ hP hD hS dX6_reset_64 ((by rw [hg, show k = 8 by omega]; rfl))
      · refine lv_aload_n hx hb dX6_reset_8 rfl (lv_at hl 0 rfl) ?_
        refine g_get F hK hP inX6 0 rfl rfl 7 (by decide) gw_583 rfl (v := .ref (ad 1)) rfl dX6_reset_9 ?_
        refine lv_iload_n hx hb dX6_reset_12 rfl (lv_at hl 1 rfl) ?_
        refine lv_iconst (v := 0) hx hb dX6_reset_13 (by decide) ?_
        refine a_ist F hK hP hD hS 1 (f := gR g1 0) rfl (j := k) (by omega) (by decide) dX6_reset_14 (fun H locs hP hD hS => ?_)
        have hP : va_P D vwCl (mW ad kA (sR g1 0 (upd (gR g1 0) k 0)) z) H := hP
        have hD : va_D A (mW ad kA (sR g1 0 (upd (gR g1 0) k 0)) z) := hD
        refine lv_aload_n hx hb dX6_reset_15 rfl (lv_at hl 0 rfl) ?_
        refine g_get F hK hP inX6 0 rfl rfl 8 (by decide) gw_584 rfl (v := .ref (ad 2)) rfl dX6_reset_16 ?_
        refine lv_iload_n hx hb dX6_reset_19 rfl (lv_at hl 1 rfl) ?_
        refine lv_iconst (v := 0) hx hb dX6_reset_20 (by decide) ?_
        refine a_zst F hK hP hD hS 2 (f := gR g1 1) rfl (j := k) (by omega) (by decide) dX6_reset_21 (fun H locs hP hD hS => ?_)
        have hP : va_P D vwCl (mW ad kA (sR (sR g1 0 (upd (gR g1 0) k 0)) 1 (upd (gR g1 1) k 0)) z) H := hP
        have hD : va_D A (mW ad kA (sR (sR g1 0 (upd (gR g1 0) k 0)) 1 (upd (gR g1 1) k 0)) z) := hD
        refine lv_aload_n hx hb dX6_reset_22 rfl (lv_at hl 0 rfl) ?_
        refine g_get F hK hP inX6 0 rfl rfl 9 (by decide) gw_585 rfl (v := .ref (ad 3)) rfl dX6_reset_23 ?_
        refine lv_iload_n hx hb dX6_reset_26 rfl (lv_at hl 1 rfl) ?_
        refine lv_lconst (v := 0) hx hb dX6_reset_27 (by decide) ?_
        refine a_lst F hK hP hD hS 3 (f := gE g1) rfl (j := k) (by omega) (by decide) dX6_reset_28 (fun H locs hP hD hS => ?_)
        have hP : va_P D vwCl (mW ad kA (sE (sR (sR g1 0 (upd (gR g1 0) k 0)) 1 (upd (gR g1 1) k 0)) (vp_updL (gE g1) k 0)) z) H := hP
        have hD : va_D A (mW ad kA (sE (sR (sR g1 0 (upd (gR g1 0) k 0)) 1 (upd (gR g1 1) k 0)) (vp_updL (gE g1) k 0)) z) := hD
        refine lv_aload_n hx hb dX6_reset_29 rfl (lv_at hl 0 rfl) ?_
        refine g_get F hK hP inX6 0 rfl rfl 10 (by decide) gw_586 rfl (v := .ref (ad 4)) rfl dX6_reset_30 ?_
        refine lv_iload_n hx hb dX6_reset_33 rfl (lv_at hl 1 rfl) ?_
        refine lv_iconst (v := 0) hx hb dX6_reset_34 (by decide) ?_
        refine a_ist F hK hP hD hS 4 (f := gR g1 2) rfl (j := k) (by omega) (by decide) dX6_reset_35 (fun H locs hP hD hS => ?_)
        have hP : va_P D vwCl (mW ad kA (sR (sE (sR (sR g1 0 (upd (gR g1 0) k 0)) 1 (upd (gR g1 1) k 0)) (vp_updL (gE g1) k 0)) 2 (upd (gR g1 2) k 0)) z) H := hP
        have hD : va_D A (mW ad kA (sR (sE (sR (sR g1 0 (upd (gR g1 0) k 0)) 1 (upd (gR g1 1) k 0)) (vp_updL (gE g1) k 0)) 2 (upd (gR g1 2) k 0)) z) := hD
        refine lv_aload_n hx hb dX6_reset_36 rfl (lv_at hl 0 rfl) ?_
        refine g_get F hK hP inX6 0 rfl rfl 11 (by decide) gw_587 rfl (v := .ref (ad 5)) rfl dX6_reset_37 ?_
        refine lv_iload_n hx hb dX6_reset_40 rfl (lv_at hl 1 rfl) ?_
        refine lv_iconst (v := 0) hx hb dX6_reset_41 (by decide) ?_
        refine a_ist F hK hP hD hS 5 (f := gR g1 3) rfl (j := k) (by omega) (by decide) dX6_reset_42 (fun H locs hP hD hS => ?_)
        have hP : va_P D vwCl (mW ad kA (sR (sR (sE (sR (sR g1 0 (upd (gR g1 0) k 0)) 1 (upd (gR g1 1) k 0)) (vp_updL (gE g1) k 0)) 2 (upd (gR g1 2) k 0)) 3 (upd (gR g1 3) k 0)) z) H := hP
        have hD : va_D A (mW ad kA (sR (sR (sE (sR (sR g1 0 (upd (gR g1 0) k 0)) 1 (upd (gR g1 1) k 0)) (vp_updL (gE g1) k 0)) 2 (upd (gR g1 2) k 0)) 3 (upd (gR g1 3) k 0)) z) := hD
        refine lv_iinc (v := nI (k + 1)) (lv' := [(1, .int (nI (k + 1))), (0, .ref (ad 0))]) hx hb dX6_reset_43 hl (k := 1) rfl (nI_add k 1) (by decide) rfl (fun ls hl => ?_)
        refine lv_goto (tgt := 2) hx hb dX6_reset_46 (by decide) ?_
        exact ih_2  (k + 1) (sR (sR (sE (sR (sR g1 0 (upd (gR g1 0) k 0)) 1 (upd (gR g1 1) k 0)) (vp_updL (gE g1) k 0)) 2 (upd (gR g1 2) k 0)) 3 (upd (gR g1 3) k 0)) (by omega) (by rw [hg]; exact rsG_s k g) (by omega) _ _ _ hP hD hS (lv_sub hl [1, 0] rfl)
  exact lp_2 _ 0 g (by decide) (rsG_0 g).symm (Nat.lt_succ_self _) _ _ _ hP hD hS (lv_sub hl [1, 0] rfl)

set_option maxRecDepth 100000 in
set_option maxHeartbeats 4000000 in
theorem kX6_configure (l : Launch) (D : va_G) (kA : Nat → ClassId) (sz : Nat) (ad : Nat → Nat) (g : Sg) (z : Zm) (p1 p2 p3 p4 : Int32)  : CtI l yX6_configure cX6_configure 5 .int 2 D kA sz (mW ad kA g z) [.ref (ad 0), .int p1, .int p2, .int p3, .int p4] (fun r u => r = (sp_configure p1 p2 p3 p4 g).1 ∧ u = mW ad kA (sp_configure p1 p2 p3 p4 g).2 z) := by
  refine ct_i (own := RX6) (by decide) rfl (Nat.le_of_ble_eq_true rfl) ?_
  intro p_ e_ s_ m_ ar_ bw_ me_ co_ A ls Q F hnm hK hA hP hD hS hl hsz rt
  have hx := F.1
  have hb := F.2.1
  have hl : lv_has ls 5 [(0, .ref (ad 0)), (1, .int p1), (2, .int p2), (3, .int p3), (4, .int p4)] := hl
  have hP : va_P D vwCl (mW ad kA g z) s_.heap := hP
  refine lv_iload_n hx hb dX6_configure_0 rfl (lv_at hl 1 rfl) ?_
  refine lv_iconst (v := 1) hx hb dX6_configure_1 (by decide) ?_
  refine lv_bipush (v := 9) hx hb dX6_configure_2 (by decide) ?_
  refine cl_S_i (wc := []) (As := [.int p1, .int 1, .int 9]) (rest := []) F hK P_nil D_nil hS hA (kX6_within l D kA _ p1 1 9 ) gw_666 gw_71 gw_664 gw_665 hdX6_within ⟨Nat.le_of_ble_eq_true rfl, Nat.le_of_ble_eq_true rfl⟩ hl.1 rfl (Nat.le_of_ble_eq_true rfl) dX6_configure_4 ⟨Nat.le_of_ble_eq_true rfl, Nat.le_of_ble_eq_true rfl⟩ (fun r_4 u_4 H locs hw hP1 hD1 hk1 hFc hS => ?_)
  obtain ⟨rfl, rfl⟩ := hw
  have hP := hp_non hP hk1
  refine b_beq F (P := 1 ≤ p1 ∧ p1 ≤ 9) (tgt := 41) dX6_configure_7 (by decide) (fun c_7 => ?_) (fun c_7 => ?_)
  · refine lv_bipush (v := (-104)) hx hb dX6_configure_41 (by decide) ?_
    exact rt _ (mW ad kA g z) _ _ _ _ hP hD hS dX6_configure_43 (⟨by rw [sp_configure, if_neg (fun h => c_7 h.1)], by rw [sp_configure, if_neg (fun h => c_7 h.1)]⟩)
  · refine lv_iload_n hx hb dX6_configure_10 rfl (lv_at hl 2 rfl) ?_
    refine lv_iconst (v := 1) hx hb dX6_configure_11 (by decide) ?_
    refine lv_bipush (v := 9) hx hb dX6_configure_12 (by decide) ?_
    refine cl_S_i (wc := []) (As := [.int p2, .int 1, .int 9]) (rest := []) F hK P_nil D_nil hS hA (kX6_within l D kA _ p2 1 9 ) gw_666 gw_71 gw_664 gw_665 hdX6_within ⟨Nat.le_of_ble_eq_true rfl, Nat.le_of_ble_eq_true rfl⟩ hl.1 rfl (Nat.le_of_ble_eq_true rfl) dX6_configure_14 ⟨Nat.le_of_ble_eq_true rfl, Nat.le_of_ble_eq_true rfl⟩ (fun r_14 u_14 H locs hw hP1 hD1 hk1 hFc hS => ?_)
    obtain ⟨rfl, rfl⟩ := hw
    have hP := hp_non hP hk1
    refine b_beq F (P := 1 ≤ p2 ∧ p2 ≤ 9) (tgt := 41) dX6_configure_17 (by decide) (fun c_17 => ?_) (fun c_17 => ?_)
    · refine lv_bipush (v := (-104)) hx hb dX6_configure_41 (by decide) ?_
      exact rt _ (mW ad kA g z) _ _ _ _ hP hD hS dX6_configure_43 (⟨by rw [sp_configure, if_neg (fun h => c_17 h.2.1)], by rw [sp_configure, if_neg (fun h => c_17 h.2.1)]⟩)
    · refine lv_iload_n hx hb dX6_configure_20 rfl (lv_at hl 3 rfl) ?_
      refine lv_iconst (v := 1) hx hb dX6_configure_21 (by decide) ?_
      refine lv_bipush (v := 60) hx hb dX6_configure_22 (by decide) ?_
      refine cl_S_i (wc := []) (As := [.int p3, .int 1, .int 60]) (rest := []) F hK P_nil D_nil hS hA (kX6_within l D kA _ p3 1 60 ) gw_666 gw_71 gw_664 gw_665 hdX6_within ⟨Nat.le_of_ble_eq_true rfl, Nat.le_of_ble_eq_true rfl⟩ hl.1 rfl (Nat.le_of_ble_eq_true rfl) dX6_configure_24 ⟨Nat.le_of_ble_eq_true rfl, Nat.le_of_ble_eq_true rfl⟩ (fun r_24 u_24 H locs hw hP1 hD1 hk1 hFc hS => ?_)
      obtain ⟨rfl, rfl⟩ := hw
      have hP := hp_non hP hk1
      refine b_beq F (P := 1 ≤ p3 ∧ p3 ≤ 60) (tgt := 41) dX6_configure_27 (by decide) (fun c_27 => ?_) (fun c_27 => ?_)
      · refine lv_bipush (v := (-104)) hx hb dX6_configure_41 (by decide) ?_
        exact rt _ (mW ad kA g z) _ _ _ _ hP hD hS dX6_configure_43 (⟨by rw [sp_configure, if_neg (fun h => c_27 h.2.2.1)], by rw [sp_configure, if_neg (fun h => c_27 h.2.2.1)]⟩)
      · refine lv_iload hx hb dX6_configure_30 (lv_at hl 4 rfl) ?_
        refine lv_bipush (v := (-60)) hx hb dX6_configure_32 (by decide) ?_
        refine lv_iconst (v := (-1)) hx hb dX6_configure_34 (by decide) ?_
        refine cl_S_i (wc := []) (As := [.int p4, .int (-60), .int (-1)]) (rest := []) F hK P_nil D_nil hS hA (kX6_within l D kA _ p4 (-60) (-1) ) gw_666 gw_71 gw_664 gw_665 hdX6_within ⟨Nat.le_of_ble_eq_true rfl, Nat.le_of_ble_eq_true rfl⟩ hl.1 rfl (Nat.le_of_ble_eq_true rfl) dX6_configure_35 ⟨Nat.le_of_ble_eq_true rfl, Nat.le_of_ble_eq_true rfl⟩ (fun r_35 u_35 H locs hw hP1 hD1 hk1 hFc hS => ?_)
        obtain ⟨rfl, rfl⟩ := hw
        have hP := hp_non hP hk1
        refine b_bne F (P := (-60) ≤ p4 ∧ p4 ≤ (-1)) (tgt := 44) dX6_configure_38 (by decide) (fun c_38 => ?_) (fun c_38 => ?_)
        · refine lv_aload_n hx hb dX6_configure_44 rfl (lv_at hl 0 rfl) ?_
          refine lv_iload_n hx hb dX6_configure_45 rfl (lv_at hl 1 rfl) ?_
          refine g_put F hK hP hD hS inX6 tyX6_ok nmX6 0 rfl rfl 1 (by decide) gw_577 rfl rfl rfl rfl (Nat.le_of_ble_eq_true rfl) dX6_configure_46 (fun H locs hP hD hS => ?_)
          have hP : va_P D vwCl (mW ad kA (sI g 0 p1) z) H := hP
          have hD : va_D A (mW ad kA (sI g 0 p1) z) := hD
          refine lv_aload_n hx hb dX6_configure_49 rfl (lv_at hl 0 rfl) ?_
          refine lv_iload_n hx hb dX6_configure_50 rfl (lv_at hl 2 rfl) ?_
          refine g_put F hK hP hD hS inX6 tyX6_ok nmX6 0 rfl rfl 2 (by decide) gw_578 rfl rfl rfl rfl (Nat.le_of_ble_eq_true rfl) dX6_configure_51 (fun H locs hP hD hS => ?_)
          have hP : va_P D vwCl (mW ad kA (sI (sI g 0 p1) 1 p2) z) H := hP
          have hD : va_D A (mW ad kA (sI (sI g 0 p1) 1 p2) z) := hD
          refine lv_aload_n hx hb dX6_configure_54 rfl (lv_at hl 0 rfl) ?_
          refine lv_iload_n hx hb dX6_configure_55 rfl (lv_at hl 3 rfl) ?_
          refine g_put F hK hP hD hS inX6 tyX6_ok nmX6 0 rfl rfl 3 (by decide) gw_579 rfl rfl rfl rfl (Nat.le_of_ble_eq_true rfl) dX6_configure_56 (fun H locs hP hD hS => ?_)
          have hP : va_P D vwCl (mW ad kA (sI (sI (sI g 0 p1) 1 p2) 2 p3) z) H := hP
          have hD : va_D A (mW ad kA (sI (sI (sI g 0 p1) 1 p2) 2 p3) z) := hD
          refine lv_aload_n hx hb dX6_configure_59 rfl (lv_at hl 0 rfl) ?_
          refine lv_iload hx hb dX6_configure_60 (lv_at hl 4 rfl) ?_
          refine g_put F hK hP hD hS inX6 tyX6_ok nmX6 0 rfl rfl 4 (by decide) gw_580 rfl rfl rfl rfl (Nat.le_of_ble_eq_true rfl) dX6_configure_62 (fun H locs hP hD hS => ?_)
          have hP : va_P D vwCl (mW ad kA (sI (sI (sI (sI g 0 p1) 1 p2) 2 p3) 3 p4) z) H := hP
          have hD : va_D A (mW ad kA (sI (sI (sI (sI g 0 p1) 1 p2) 2 p3) 3 p4) z) := hD
          refine lv_aload_n hx hb dX6_configure_65 rfl (lv_at hl 0 rfl) ?_
          refine cl_V_v (wc := (mW ad kA (sI (sI (sI (sI g 0 p1) 1 p2) 2 p3) 3 p4) z)) (As := []) (rest := []) (b := (ad 0)) (C := RX6) F hK hP hD hS hA (kX6_reset l D kA _ ad (sI (sI (sI (sI g 0 p1) 1 p2) 2 p3) 3 p4) z  ) gw_670 gw_71 gw_667 gw_669 gw_44 (va_recv hK.1 hP (ci := 6) (q0 := 0) rfl rfl) hdX6_reset ⟨Nat.le_of_ble_eq_true rfl, Nat.le_of_ble_eq_true rfl⟩ hl.1 rfl (Nat.le_of_ble_eq_true rfl) dX6_configure_66 ⟨Nat.le_of_ble_eq_true rfl, Nat.le_of_ble_eq_true rfl⟩ (fun u_66 H locs hw hP1 hD1 hk1 hFc hS => ?_)
          obtain rfl := hw
          have hP : va_P D vwCl (mW ad kA (sp_reset (sI (sI (sI (sI g 0 p1) 1 p2) 2 p3) 3 p4)) z) H := hP1
          have hD : va_D A (mW ad kA (sp_reset (sI (sI (sI (sI g 0 p1) 1 p2) 2 p3) 3 p4)) z) := hD1.weaken (fun _ _ _ h => hFc _ h)
          refine lv_aload_n hx hb dX6_configure_69 rfl (lv_at hl 0 rfl) ?_
          refine g_get F hK hP inX6 0 rfl rfl 0 (by decide) gw_576 rfl (v := .int (nI (gN (sp_reset (sI (sI (sI (sI g 0 p1) 1 p2) 2 p3) 3 p4)) 0))) rfl dX6_configure_70 ?_
          exact rt _ (mW ad kA (sp_reset (sI (sI (sI (sI g 0 p1) 1 p2) 2 p3) 3 p4)) z) _ _ _ _ hP hD hS dX6_configure_73 (⟨by rw [sp_configure, if_pos ⟨c_7, c_17, c_27, c_38⟩]; rfl, by rw [sp_configure, if_pos ⟨c_7, c_17, c_27, c_38⟩]⟩)
        · refine lv_bipush (v := (-104)) hx hb dX6_configure_41 (by decide) ?_
          exact rt _ (mW ad kA g z) _ _ _ _ hP hD hS dX6_configure_43 (⟨by rw [sp_configure, if_neg (fun h => c_38 h.2.2.2)], by rw [sp_configure, if_neg (fun h => c_38 h.2.2.2)]⟩)

set_option maxRecDepth 100000 in
set_option maxHeartbeats 4000000 in
theorem kX6_setCells (l : Launch) (D : va_G) (kA : Nat → ClassId) (sz : Nat) (ad : Nat → Nat) (g : Sg) (z : Zm) (p1 : Int32)  : CtI l yX6_setCells cX6_setCells 3 .int 2 D kA sz (mW ad kA g z) [.ref (ad 0), .int p1] (fun r u => r = (sp_setCells p1 g).1 ∧ u = mW ad kA (sp_setCells p1 g).2 z) := by
  refine ct_i (own := RX6) (by decide) rfl (Nat.le_of_ble_eq_true rfl) ?_
  intro p_ e_ s_ m_ ar_ bw_ me_ co_ A ls Q F hnm hK hA hP hD hS hl hsz rt
  have hx := F.1
  have hb := F.2.1
  have hl : lv_has ls 3 [(0, .ref (ad 0)), (1, .int p1)] := hl
  have hP : va_P D vwCl (mW ad kA g z) s_.heap := hP
  refine lv_iload_n hx hb dX6_setCells_0 rfl (lv_at hl 1 rfl) ?_
  refine lv_iconst (v := 1) hx hb dX6_setCells_1 (by decide) ?_
  refine lv_bipush (v := 8) hx hb dX6_setCells_2 (by decide) ?_
  refine cl_S_i (wc := []) (As := [.int p1, .int 1, .int 8]) (rest := []) F hK P_nil D_nil hS hA (kX6_within l D kA _ p1 1 8 ) gw_666 gw_71 gw_664 gw_665 hdX6_within ⟨Nat.le_of_ble_eq_true rfl, Nat.le_of_ble_eq_true rfl⟩ hl.1 rfl (Nat.le_of_ble_eq_true rfl) dX6_setCells_4 ⟨Nat.le_of_ble_eq_true rfl, Nat.le_of_ble_eq_true rfl⟩ (fun r_4 u_4 H locs hw hP1 hD1 hk1 hFc hS => ?_)
  obtain ⟨rfl, rfl⟩ := hw
  have hP := hp_non hP hk1
  refine b_bne F (P := 1 ≤ p1 ∧ p1 ≤ 8) (tgt := 13) dX6_setCells_7 (by decide) (fun c_7 => ?_) (fun c_7 => ?_)
  · obtain ⟨j, hj, rfl⟩ := nat_of (n := 8) (by decide) (Int32.le_trans (by decide) c_7.1) c_7.2
    refine lv_aload_n hx hb dX6_setCells_13 rfl (lv_at hl 0 rfl) ?_
    refine g_get F hK hP inX6 0 rfl rfl 0 (by decide) gw_576 rfl (v := .int (nI (gN g 0))) rfl dX6_setCells_14 ?_
    refine lv_istore_n (lv' := [(2, .int (nI (gN g 0))), (0, .ref (ad 0)), (1, .int (nI j))]) hx hb dX6_setCells_17 rfl hl (by decide) rfl (fun ls hl => ?_)
    refine lv_aload_n hx hb dX6_setCells_18 rfl (lv_at hl 1 rfl) ?_
    refine lv_iload_n hx hb dX6_setCells_19 rfl (lv_at hl 2 rfl) ?_
    refine g_put F hK hP hD hS inX6 tyX6_ok nmX6 0 rfl rfl 0 (by decide) gw_576 rfl rfl rfl rfl (Nat.le_of_ble_eq_true rfl) dX6_setCells_20 (fun H locs hP hD hS => ?_)
    have hP : va_P D vwCl (mW ad kA (sN g 0 j) z) H := hP
    have hD : va_D A (mW ad kA (sN g 0 j) z) := hD
    refine lv_aload_n hx hb dX6_setCells_23 rfl (lv_at hl 1 rfl) ?_
    refine cl_V_v (wc := (mW ad kA (sN g 0 j) z)) (As := []) (rest := []) (b := (ad 0)) (C := RX6) F hK hP hD hS hA (kX6_reset l D kA _ ad (sN g 0 j) z  ) gw_670 gw_71 gw_667 gw_669 gw_44 (va_recv hK.1 hP (ci := 6) (q0 := 0) rfl rfl) hdX6_reset ⟨Nat.le_of_ble_eq_true rfl, Nat.le_of_ble_eq_true rfl⟩ hl.1 rfl (Nat.le_of_ble_eq_true rfl) dX6_setCells_24 ⟨Nat.le_of_ble_eq_true rfl, Nat.le_of_ble_eq_true rfl⟩ (fun u_24 H locs hw hP1 hD1 hk1 hFc hS => ?_)
    obtain rfl := hw
    have hP : va_P D vwCl (mW ad kA (sp_reset (sN g 0 j)) z) H := hP1
    have hD : va_D A (mW ad kA (sp_reset (sN g 0 j)) z) := hD1.weaken (fun _ _ _ h => hFc _ h)
    refine lv_iload_n hx hb dX6_setCells_27 rfl (lv_at hl 0 rfl) ?_
    exact rt _ (mW ad kA (sp_reset (sN g 0 j)) z) _ _ _ _ hP hD hS dX6_setCells_28 (⟨by rw [sp_setCells, if_pos c_7], by rw [sp_setCells, if_pos c_7, nI_clamp (by omega)]⟩)
  · refine lv_bipush (v := (-104)) hx hb dX6_setCells_10 (by decide) ?_
    exact rt _ (mW ad kA g z) _ _ _ _ hP hD hS dX6_setCells_12 (⟨by rw [sp_setCells, if_neg c_7], by rw [sp_setCells, if_neg c_7]⟩)

set_option maxRecDepth 100000 in
set_option maxHeartbeats 4000000 in
theorem kX6_setTimeout (l : Launch) (D : va_G) (kA : Nat → ClassId) (sz : Nat) (ad : Nat → Nat) (g : Sg) (z : Zm) (p1 : Int32)  : CtI l yX6_setTimeout cX6_setTimeout 3 .int 1 D kA sz (mW ad kA g z) [.ref (ad 0), .int p1] (fun r u => r = (sp_setTimeout p1 g).1 ∧ u = mW ad kA (sp_setTimeout p1 g).2 z) := by
  refine ct_i (own := RX6) (by decide) rfl (Nat.le_of_ble_eq_true rfl) ?_
  intro p_ e_ s_ m_ ar_ bw_ me_ co_ A ls Q F hnm hK hA hP hD hS hl hsz rt
  have hx := F.1
  have hb := F.2.1
  have hl : lv_has ls 3 [(0, .ref (ad 0)), (1, .int p1)] := hl
  have hP : va_P D vwCl (mW ad kA g z) s_.heap := hP
  refine lv_iload_n hx hb dX6_setTimeout_0 rfl (lv_at hl 1 rfl) ?_
  refine lv_iconst (v := 1) hx hb dX6_setTimeout_1 (by decide) ?_
  refine lv_bipush (v := 20) hx hb dX6_setTimeout_2 (by decide) ?_
  refine cl_S_i (wc := []) (As := [.int p1, .int 1, .int 20]) (rest := []) F hK P_nil D_nil hS hA (kX6_within l D kA _ p1 1 20 ) gw_666 gw_71 gw_664 gw_665 hdX6_within ⟨Nat.le_of_ble_eq_true rfl, Nat.le_of_ble_eq_true rfl⟩ hl.1 rfl (Nat.le_of_ble_eq_true rfl) dX6_setTimeout_4 ⟨Nat.le_of_ble_eq_true rfl, Nat.le_of_ble_eq_true rfl⟩ (fun r_4 u_4 H locs hw hP1 hD1 hk1 hFc hS => ?_)
  obtain ⟨rfl, rfl⟩ := hw
  have hP := hp_non hP hk1
  refine b_bne F (P := 1 ≤ p1 ∧ p1 ≤ 20) (tgt := 13) dX6_setTimeout_7 (by decide) (fun c_7 => ?_) (fun c_7 => ?_)
  · refine lv_aload_n hx hb dX6_setTimeout_13 rfl (lv_at hl 0 rfl) ?_
    refine g_get F hK hP inX6 0 rfl rfl 5 (by decide) gw_581 rfl (v := .int (gI g 4)) rfl dX6_setTimeout_14 ?_
    refine lv_istore_n (lv' := [(2, .int (gI g 4)), (0, .ref (ad 0)), (1, .int p1)]) hx hb dX6_setTimeout_17 rfl hl (by decide) rfl (fun ls hl => ?_)
    refine lv_aload_n hx hb dX6_setTimeout_18 rfl (lv_at hl 1 rfl) ?_
    refine lv_iload_n hx hb dX6_setTimeout_19 rfl (lv_at hl 2 rfl) ?_
    refine g_put F hK hP hD hS inX6 tyX6_ok nmX6 0 rfl rfl 5 (by decide) gw_581 rfl rfl rfl rfl (Nat.le_of_ble_eq_true rfl) dX6_setTimeout_20 (fun H locs hP hD hS => ?_)
    have hP : va_P D vwCl (mW ad kA (sI g 4 p1) z) H := hP
    have hD : va_D A (mW ad kA (sI g 4 p1) z) := hD
    refine lv_iload_n hx hb dX6_setTimeout_23 rfl (lv_at hl 0 rfl) ?_
    exact rt _ (mW ad kA (sI g 4 p1) z) _ _ _ _ hP hD hS dX6_setTimeout_24 (⟨by rw [sp_setTimeout, if_pos c_7], by rw [sp_setTimeout, if_pos c_7]⟩)
  · refine lv_bipush (v := (-104)) hx hb dX6_setTimeout_10 (by decide) ?_
    exact rt _ (mW ad kA g z) _ _ _ _ hP hD hS dX6_setTimeout_12 (⟨by rw [sp_setTimeout, if_neg c_7], by rw [sp_setTimeout, if_neg c_7]⟩)

set_option maxRecDepth 100000 in
set_option maxHeartbeats 4000000 in
theorem kX6_isSource (l : Launch) (D : va_G) (kA : Nat → ClassId) (sz : Nat) (x : Int32)  : CtI l yX6_isSource cX6_isSource 1 .boolean 1 D kA sz ([]) [.int x] (fun r u => (r = if 0 ≤ x ∧ x ≤ 7 then 1 else 0) ∧ u = []) := by
  refine ct_z (own := RX6) (by decide) rfl (Nat.le_of_ble_eq_true rfl) ?_
  intro p_ e_ s_ m_ ar_ bw_ me_ co_ A ls Q F hnm hK hA hP hD hS hl hsz rt
  have hx := F.1
  have hb := F.2.1
  have hl : lv_has ls 1 [(0, .int x)] := hl
  have hP : va_P D vwCl ([]) s_.heap := hP
  refine lv_iload_n hx hb dX6_isSource_0 rfl (lv_at hl 0 rfl) ?_
  refine lv_iconst (v := 0) hx hb dX6_isSource_1 (by decide) ?_
  refine lv_bipush (v := 7) hx hb dX6_isSource_2 (by decide) ?_
  refine cl_S_i (wc := []) (As := [.int x, .int 0, .int 7]) (rest := []) F hK P_nil D_nil hS hA (kX6_within l D kA _ x 0 7 ) gw_666 gw_71 gw_664 gw_665 hdX6_within ⟨Nat.le_of_ble_eq_true rfl, Nat.le_of_ble_eq_true rfl⟩ hl.1 rfl (Nat.le_of_ble_eq_true rfl) dX6_isSource_4 ⟨Nat.le_of_ble_eq_true rfl, Nat.le_of_ble_eq_true rfl⟩ (fun r_4 u_4 H locs hw hP1 hD1 hk1 hFc hS => ?_)
  obtain ⟨rfl, rfl⟩ := hw
  have hP := hp_non hP hk1
  exact rt _ ([]) _ _ _ _ hP hD hS dX6_isSource_7 (nar_if _) (⟨rfl, rfl⟩)

set_option maxRecDepth 100000 in
set_option maxHeartbeats 4000000 in
theorem kX6_isDestination (l : Launch) (D : va_G) (kA : Nat → ClassId) (sz : Nat) (x : Int32)  : CtI l yX6_isDestination cX6_isDestination 1 .boolean 1 D kA sz ([]) [.int x] (fun r u => (r = if 0 ≤ x ∧ x ≤ 31 then 1 else 0) ∧ u = []) := by
  refine ct_z (own := RX6) (by decide) rfl (Nat.le_of_ble_eq_true rfl) ?_
  intro p_ e_ s_ m_ ar_ bw_ me_ co_ A ls Q F hnm hK hA hP hD hS hl hsz rt
  have hx := F.1
  have hb := F.2.1
  have hl : lv_has ls 1 [(0, .int x)] := hl
  have hP : va_P D vwCl ([]) s_.heap := hP
  refine lv_iload_n hx hb dX6_isDestination_0 rfl (lv_at hl 0 rfl) ?_
  refine lv_iconst (v := 0) hx hb dX6_isDestination_1 (by decide) ?_
  refine lv_bipush (v := 31) hx hb dX6_isDestination_2 (by decide) ?_
  refine cl_S_i (wc := []) (As := [.int x, .int 0, .int 31]) (rest := []) F hK P_nil D_nil hS hA (kX6_within l D kA _ x 0 31 ) gw_666 gw_71 gw_664 gw_665 hdX6_within ⟨Nat.le_of_ble_eq_true rfl, Nat.le_of_ble_eq_true rfl⟩ hl.1 rfl (Nat.le_of_ble_eq_true rfl) dX6_isDestination_4 ⟨Nat.le_of_ble_eq_true rfl, Nat.le_of_ble_eq_true rfl⟩ (fun r_4 u_4 H locs hw hP1 hD1 hk1 hFc hS => ?_)
  obtain ⟨rfl, rfl⟩ := hw
  have hP := hp_non hP hk1
  exact rt _ ([]) _ _ _ _ hP hD hS dX6_isDestination_7 (nar_if _) (⟨rfl, rfl⟩)

set_option maxRecDepth 100000 in
set_option maxHeartbeats 4000000 in
theorem kX6_isCell (l : Launch) (D : va_G) (kA : Nat → ClassId) (sz : Nat) (ad : Nat → Nat) (g : Sg) (z : Zm) (x : Int32)  : CtI l yX6_isCell cX6_isCell 2 .boolean 1 D kA sz (mW ad kA g z) [.ref (ad 0), .int x] (fun r u => (r = if 0 ≤ x ∧ x ≤ nI (gN g 0) - 1 then 1 else 0) ∧ u = mW ad kA g z) := by
  refine ct_z (own := RX6) (by decide) rfl (Nat.le_of_ble_eq_true rfl) ?_
  intro p_ e_ s_ m_ ar_ bw_ me_ co_ A ls Q F hnm hK hA hP hD hS hl hsz rt
  have hx := F.1
  have hb := F.2.1
  have hl : lv_has ls 2 [(0, .ref (ad 0)), (1, .int x)] := hl
  have hP : va_P D vwCl (mW ad kA g z) s_.heap := hP
  refine lv_iload_n hx hb dX6_isCell_0 rfl (lv_at hl 1 rfl) ?_
  refine lv_iconst (v := 0) hx hb dX6_isCell_1 (by decide) ?_
  refine lv_aload_n hx hb dX6_isCell_2 rfl (lv_at hl 0 rfl) ?_
  refine g_get F hK hP inX6 0 rfl rfl 0 (by decide) gw_576 rfl (v := .int (nI (gN g 0))) rfl dX6_isCell_3 ?_
  refine lv_iconst (v := 1) hx hb dX6_isCell_6 (by decide) ?_
  refine lv_isub hx hb dX6_isCell_7 ?_
  refine cl_S_i (wc := []) (As := [.int x, .int 0, .int ((nI (gN g 0)) - 1)]) (rest := []) F hK P_nil D_nil hS hA (kX6_within l D kA _ x 0 ((nI (gN g 0)) - 1) ) gw_666 gw_71 gw_664 gw_665 hdX6_within ⟨Nat.le_of_ble_eq_true rfl, Nat.le_of_ble_eq_true rfl⟩ hl.1 rfl (Nat.le_of_ble_eq_true rfl) dX6_isCell_8 ⟨Nat.le_of_ble_eq_true rfl, Nat.le_of_ble_eq_true rfl⟩ (fun r_8 u_8 H locs hw hP1 hD1 hk1 hFc hS => ?_)
  obtain ⟨rfl, rfl⟩ := hw
  have hP := hp_non hP hk1
  exact rt _ (mW ad kA g z) _ _ _ _ hP hD hS dX6_isCell_11 (nar_if _) (⟨rfl, rfl⟩)

set_option maxRecDepth 100000 in
set_option maxHeartbeats 4000000 in
theorem kX6_areRight (l : Launch) (D : va_G) (kA : Nat → ClassId) (sz : Nat) (x y : Int32)  : CtI l yX6_areRight cX6_areRight 2 .boolean 1 D kA sz ([]) [.int x, .int y] (fun r u => (r = if (0 ≤ x ∧ x ≤ 100) ∧ (0 ≤ y ∧ y ≤ 60) then 1 else 0) ∧ u = []) := by
  refine ct_z (own := RX6) (by decide) rfl (Nat.le_of_ble_eq_true rfl) ?_
  intro p_ e_ s_ m_ ar_ bw_ me_ co_ A ls Q F hnm hK hA hP hD hS hl hsz rt
  have hx := F.1
  have hb := F.2.1
  have hl : lv_has ls 2 [(0, .int x), (1, .int y)] := hl
  have hP : va_P D vwCl ([]) s_.heap := hP
  refine lv_iload_n hx hb dX6_areRight_0 rfl (lv_at hl 0 rfl) ?_
  refine lv_iconst (v := 0) hx hb dX6_areRight_1 (by decide) ?_
  refine lv_bipush (v := 100) hx hb dX6_areRight_2 (by decide) ?_
  refine cl_S_i (wc := []) (As := [.int x, .int 0, .int 100]) (rest := []) F hK P_nil D_nil hS hA (kX6_within l D kA _ x 0 100 ) gw_666 gw_71 gw_664 gw_665 hdX6_within ⟨Nat.le_of_ble_eq_true rfl, Nat.le_of_ble_eq_true rfl⟩ hl.1 rfl (Nat.le_of_ble_eq_true rfl) dX6_areRight_4 ⟨Nat.le_of_ble_eq_true rfl, Nat.le_of_ble_eq_true rfl⟩ (fun r_4 u_4 H locs hw hP1 hD1 hk1 hFc hS => ?_)
  obtain ⟨rfl, rfl⟩ := hw
  have hP := hp_non hP hk1
  refine b_beq F (P := 0 ≤ x ∧ x ≤ 100) (tgt := 24) dX6_areRight_7 (by decide) (fun c_7 => ?_) (fun c_7 => ?_)
  · refine lv_iconst (v := 0) hx hb dX6_areRight_24 (by decide) ?_
    exact rt _ ([]) _ _ _ _ hP hD hS dX6_areRight_25 rfl (⟨(if_neg (fun h => c_7 h.1)).symm, rfl⟩)
  · refine lv_iload_n hx hb dX6_areRight_10 rfl (lv_at hl 1 rfl) ?_
    refine lv_iconst (v := 0) hx hb dX6_areRight_11 (by decide) ?_
    refine lv_bipush (v := 60) hx hb dX6_areRight_12 (by decide) ?_
    refine cl_S_i (wc := []) (As := [.int y, .int 0, .int 60]) (rest := []) F hK P_nil D_nil hS hA (kX6_within l D kA _ y 0 60 ) gw_666 gw_71 gw_664 gw_665 hdX6_within ⟨Nat.le_of_ble_eq_true rfl, Nat.le_of_ble_eq_true rfl⟩ hl.1 rfl (Nat.le_of_ble_eq_true rfl) dX6_areRight_14 ⟨Nat.le_of_ble_eq_true rfl, Nat.le_of_ble_eq_true rfl⟩ (fun r_14 u_14 H locs hw hP1 hD1 hk1 hFc hS => ?_)
    obtain ⟨rfl, rfl⟩ := hw
    have hP := hp_non hP hk1
    refine b_beq F (P := 0 ≤ y ∧ y ≤ 60) (tgt := 24) dX6_areRight_17 (by decide) (fun c_17 => ?_) (fun c_17 => ?_)
    · refine lv_iconst (v := 0) hx hb dX6_areRight_24 (by decide) ?_
      exact rt _ ([]) _ _ _ _ hP hD hS dX6_areRight_25 rfl (⟨(if_neg (fun h => c_17 h.2)).symm, rfl⟩)
    · refine lv_iconst (v := 1) hx hb dX6_areRight_20 (by decide) ?_
      refine lv_goto (tgt := 25) hx hb dX6_areRight_21 (by decide) ?_
      exact rt _ ([]) _ _ _ _ hP hD hS dX6_areRight_25 rfl (⟨(if_pos ⟨c_7, c_17⟩).symm, rfl⟩)

set_option maxRecDepth 100000 in
set_option maxHeartbeats 4000000 in
theorem kX6_cellOf (l : Launch) (D : va_G) (kA : Nat → ClassId) (sz : Nat) (ad : Nat → Nat) (g : Sg) (z : Zm) (p1 : Int32) (hI : Inv g) : CtI l yX6_cellOf cX6_cellOf 2 .int 2 D kA sz (mW ad kA g z) [.ref (ad 0), .int p1] (fun r u => r = sp_cellOf p1 g ∧ u = mW ad kA g z) := by
  refine ct_i (own := RX6) (by decide) rfl (Nat.le_of_ble_eq_true rfl) ?_
  intro p_ e_ s_ m_ ar_ bw_ me_ co_ A ls Q F hnm hK hA hP hD hS hl hsz rt
  have hx := F.1
  have hb := F.2.1
  have hl : lv_has ls 2 [(0, .ref (ad 0)), (1, .int p1)] := hl
  have hP : va_P D vwCl (mW ad kA g z) s_.heap := hP
  obtain ⟨⟨hc1, hc2⟩, ha, hn, hu, hd, hup, hlo, hso, hv⟩ := id hI
  refine lv_iload_n hx hb dX6_cellOf_0 rfl (lv_at hl 1 rfl) ?_
  refine cl_S_i (wc := []) (As := [.int p1]) (rest := []) F hK P_nil D_nil hS hA (kX6_isSource l D kA _ p1 ) gw_685 gw_71 gw_683 gw_684 hdX6_isSource ⟨Nat.le_of_ble_eq_true rfl, Nat.le_of_ble_eq_true rfl⟩ hl.1 rfl (Nat.le_of_ble_eq_true rfl) dX6_cellOf_1 ⟨Nat.le_of_ble_eq_true rfl, Nat.le_of_ble_eq_true rfl⟩ (fun r_1 u_1 H locs hw hP1 hD1 hk1 hFc hS => ?_)
  obtain ⟨rfl, rfl⟩ := hw
  have hP := hp_non hP hk1
  refine b_beq F (P := 0 ≤ p1 ∧ p1 ≤ 7) (tgt := 16) dX6_cellOf_4 (by decide) (fun c_4 => ?_) (fun c_4 => ?_)
  · refine lv_bipush (v := (-105)) hx hb dX6_cellOf_16 (by decide) ?_
    exact rt _ (mW ad kA g z) _ _ _ _ hP hD hS dX6_cellOf_18 (⟨by rw [sp_cellOf, if_neg c_4], rfl⟩)
  · obtain ⟨j, hj, rfl⟩ := nat_of (n := 7) (by decide) c_4.1 c_4.2
    refine lv_iload_n hx hb dX6_cellOf_7 rfl (lv_at hl 1 rfl) ?_
    refine lv_aload_n hx hb dX6_cellOf_8 rfl (lv_at hl 0 rfl) ?_
    refine g_get F hK hP inX6 0 rfl rfl 0 (by decide) gw_576 rfl (v := .int (nI (gN g 0))) rfl dX6_cellOf_9 ?_
    refine n_rem F (a := j) (b := gN g 0) dX6_cellOf_12 (by omega) (by omega) (by omega) ?_
    refine lv_goto (tgt := 18) hx hb dX6_cellOf_13 (by decide) ?_
    exact rt _ (mW ad kA g z) _ _ _ _ hP hD hS dX6_cellOf_18 (⟨by rw [sp_cellOf, if_pos c_4, nI_clamp (by omega)], rfl⟩)

set_option maxRecDepth 100000 in
set_option maxHeartbeats 4000000 in
theorem kX6_score (l : Launch) (D : va_G) (kA : Nat → ClassId) (sz : Nat) (ad : Nat → Nat) (g : Sg) (z : Zm) (p1 : Int32) (hI : Inv g) : CtI l yX6_score cX6_score 2 .int 2 D kA sz (mW ad kA g z) [.ref (ad 0), .int p1] (fun r u => r = sp_at 0 p1 g ∧ u = mW ad kA g z) := by
  refine ct_i (own := RX6) (by decide) rfl (Nat.le_of_ble_eq_true rfl) ?_
  intro p_ e_ s_ m_ ar_ bw_ me_ co_ A ls Q F hnm hK hA hP hD hS hl hsz rt
  have hx := F.1
  have hb := F.2.1
  have hl : lv_has ls 2 [(0, .ref (ad 0)), (1, .int p1)] := hl
  have hP : va_P D vwCl (mW ad kA g z) s_.heap := hP
  obtain ⟨⟨hc1, hc2⟩, ha, hn, hu, hd, hup, hlo, hso, hv⟩ := id hI
  refine lv_aload_n hx hb dX6_score_0 rfl (lv_at hl 0 rfl) ?_
  refine lv_iload_n hx hb dX6_score_1 rfl (lv_at hl 1 rfl) ?_
  refine cl_V_i (wc := (mW ad kA g z)) (As := [.int p1]) (rest := []) (b := (ad 0)) (C := RX6) F hK hP hD hS hA (kX6_isCell l D kA _ ad g z p1 ) gw_744 gw_71 gw_741 gw_743 gw_54 (va_recv hK.1 hP (ci := 6) (q0 := 0) rfl rfl) hdX6_isCell ⟨Nat.le_of_ble_eq_true rfl, Nat.le_of_ble_eq_true rfl⟩ hl.1 rfl (Nat.le_of_ble_eq_true rfl) dX6_score_2 ⟨Nat.le_of_ble_eq_true rfl, Nat.le_of_ble_eq_true rfl⟩ (fun r_2 u_2 H locs hw hP1 hD1 hk1 hFc hS => ?_)
  obtain ⟨rfl, rfl⟩ := hw
  have hP : va_P D vwCl (mW ad kA g z) H := hP1
  have hD : va_D A (mW ad kA g z) := hD1.weaken (fun _ _ _ h => hFc _ h)
  refine b_beq F (P := 0 ≤ p1 ∧ p1 ≤ nI (gN g 0) - 1) (tgt := 17) dX6_score_5 (by decide) (fun c_5 => ?_) (fun c_5 => ?_)
  · refine lv_bipush (v := (-107)) hx hb dX6_score_17 (by decide) ?_
    exact rt _ (mW ad kA g z) _ _ _ _ hP hD hS dX6_score_19 (⟨by rw [sp_at, if_neg c_5], rfl⟩)
  · obtain ⟨j, hj, rfl⟩ := nat_lt (by omega) c_5.1 c_5.2
    refine lv_aload_n hx hb dX6_score_8 rfl (lv_at hl 0 rfl) ?_
    refine g_get F hK hP inX6 0 rfl rfl 7 (by decide) gw_583 rfl (v := .ref (ad 1)) rfl dX6_score_9 ?_
    refine lv_iload_n hx hb dX6_score_12 rfl (lv_at hl 1 rfl) ?_
    refine a_ild F hK hP 1 (f := gR g 0) rfl (j := j) (by omega) (by decide) dX6_score_13 ?_
    refine lv_goto (tgt := 19) hx hb dX6_score_14 (by decide) ?_
    exact rt _ (mW ad kA g z) _ _ _ _ hP hD hS dX6_score_19 (⟨by rw [sp_at, if_pos c_5, nI_clamp (by omega)], rfl⟩)

set_option maxRecDepth 100000 in
set_option maxHeartbeats 4000000 in
theorem kX6_blockedContacts (l : Launch) (D : va_G) (kA : Nat → ClassId) (sz : Nat) (ad : Nat → Nat) (g : Sg) (z : Zm) (p1 : Int32) (hI : Inv g) : CtI l yX6_blockedContacts cX6_blockedContacts 2 .int 2 D kA sz (mW ad kA g z) [.ref (ad 0), .int p1] (fun r u => r = sp_at 2 p1 g ∧ u = mW ad kA g z) := by
  refine ct_i (own := RX6) (by decide) rfl (Nat.le_of_ble_eq_true rfl) ?_
  intro p_ e_ s_ m_ ar_ bw_ me_ co_ A ls Q F hnm hK hA hP hD hS hl hsz rt
  have hx := F.1
  have hb := F.2.1
  have hl : lv_has ls 2 [(0, .ref (ad 0)), (1, .int p1)] := hl
  have hP : va_P D vwCl (mW ad kA g z) s_.heap := hP
  obtain ⟨⟨hc1, hc2⟩, ha, hn, hu, hd, hup, hlo, hso, hv⟩ := id hI
  refine lv_aload_n hx hb dX6_blockedContacts_0 rfl (lv_at hl 0 rfl) ?_
  refine lv_iload_n hx hb dX6_blockedContacts_1 rfl (lv_at hl 1 rfl) ?_
  refine cl_V_i (wc := (mW ad kA g z)) (As := [.int p1]) (rest := []) (b := (ad 0)) (C := RX6) F hK hP hD hS hA (kX6_isCell l D kA _ ad g z p1 ) gw_744 gw_71 gw_741 gw_743 gw_54 (va_recv hK.1 hP (ci := 6) (q0 := 0) rfl rfl) hdX6_isCell ⟨Nat.le_of_ble_eq_true rfl, Nat.le_of_ble_eq_true rfl⟩ hl.1 rfl (Nat.le_of_ble_eq_true rfl) dX6_blockedContacts_2 ⟨Nat.le_of_ble_eq_true rfl, Nat.le_of_ble_eq_true rfl⟩ (fun r_2 u_2 H locs hw hP1 hD1 hk1 hFc hS => ?_)
  obtain ⟨rfl, rfl⟩ := hw
  have hP : va_P D vwCl (mW ad kA g z) H := hP1
  have hD : va_D A (mW ad kA g z) := hD1.weaken (fun _ _ _ h => hFc _ h)
  refine b_beq F (P := 0 ≤ p1 ∧ p1 ≤ nI (gN g 0) - 1) (tgt := 17) dX6_blockedContacts_5 (by decide) (fun c_5 => ?_) (fun c_5 => ?_)
  · refine lv_bipush (v := (-107)) hx hb dX6_blockedContacts_17 (by decide) ?_
    exact rt _ (mW ad kA g z) _ _ _ _ hP hD hS dX6_blockedContacts_19 (⟨by rw [sp_at, if_neg c_5], rfl⟩)
  · obtain ⟨j, hj, rfl⟩ := nat_lt (by omega) c_5.1 c_5.2
    refine lv_aload_n hx hb dX6_blockedContacts_8 rfl (lv_at hl 0 rfl) ?_
    refine g_get F hK hP inX6 0 rfl rfl 10 (by decide) gw_586 rfl (v := .ref (ad 4)) rfl dX6_blockedContacts_9 ?_
    refine lv_iload_n hx hb dX6_blockedContacts_12 rfl (lv_at hl 1 rfl) ?_
    refine a_ild F hK hP 4 (f := gR g 2) rfl (j := j) (by omega) (by decide) dX6_blockedContacts_13 ?_
    refine lv_goto (tgt := 19) hx hb dX6_blockedContacts_14 (by decide) ?_
    exact rt _ (mW ad kA g z) _ _ _ _ hP hD hS dX6_blockedContacts_19 (⟨by rw [sp_at, if_pos c_5, nI_clamp (by omega)], rfl⟩)

set_option maxRecDepth 100000 in
set_option maxHeartbeats 4000000 in
theorem kX6_wronglyBlocked (l : Launch) (D : va_G) (kA : Nat → ClassId) (sz : Nat) (ad : Nat → Nat) (g : Sg) (z : Zm) (p1 : Int32) (hI : Inv g) : CtI l yX6_wronglyBlocked cX6_wronglyBlocked 2 .int 2 D kA sz (mW ad kA g z) [.ref (ad 0), .int p1] (fun r u => r = sp_at 3 p1 g ∧ u = mW ad kA g z) := by
  refine ct_i (own := RX6) (by decide) rfl (Nat.le_of_ble_eq_true rfl) ?_
  intro p_ e_ s_ m_ ar_ bw_ me_ co_ A ls Q F hnm hK hA hP hD hS hl hsz rt
  have hx := F.1
  have hb := F.2.1
  have hl : lv_has ls 2 [(0, .ref (ad 0)), (1, .int p1)] := hl
  have hP : va_P D vwCl (mW ad kA g z) s_.heap := hP
  obtain ⟨⟨hc1, hc2⟩, ha, hn, hu, hd, hup, hlo, hso, hv⟩ := id hI
  refine lv_aload_n hx hb dX6_wronglyBlocked_0 rfl (lv_at hl 0 rfl) ?_
  refine lv_iload_n hx hb dX6_wronglyBlocked_1 rfl (lv_at hl 1 rfl) ?_
  refine cl_V_i (wc := (mW ad kA g z)) (As := [.int p1]) (rest := []) (b := (ad 0)) (C := RX6) F hK hP hD hS hA (kX6_isCell l D kA _ ad g z p1 ) gw_744 gw_71 gw_741 gw_743 gw_54 (va_recv hK.1 hP (ci := 6) (q0 := 0) rfl rfl) hdX6_isCell ⟨Nat.le_of_ble_eq_true rfl, Nat.le_of_ble_eq_true rfl⟩ hl.1 rfl (Nat.le_of_ble_eq_true rfl) dX6_wronglyBlocked_2 ⟨Nat.le_of_ble_eq_true rfl, Nat.le_of_ble_eq_true rfl⟩ (fun r_2 u_2 H locs hw hP1 hD1 hk1 hFc hS => ?_)
  obtain ⟨rfl, rfl⟩ := hw
  have hP : va_P D vwCl (mW ad kA g z) H := hP1
  have hD : va_D A (mW ad kA g z) := hD1.weaken (fun _ _ _ h => hFc _ h)
  refine b_beq F (P := 0 ≤ p1 ∧ p1 ≤ nI (gN g 0) - 1) (tgt := 17) dX6_wronglyBlocked_5 (by decide) (fun c_5 => ?_) (fun c_5 => ?_)
  · refine lv_bipush (v := (-107)) hx hb dX6_wronglyBlocked_17 (by decide) ?_
    exact rt _ (mW ad kA g z) _ _ _ _ hP hD hS dX6_wronglyBlocked_19 (⟨by rw [sp_at, if_neg c_5], rfl⟩)
  · obtain ⟨j, hj, rfl⟩ := nat_lt (by omega) c_5.1 c_5.2
    refine lv_aload_n hx hb dX6_wronglyBlocked_8 rfl (lv_at hl 0 rfl) ?_
    refine g_get F hK hP inX6 0 rfl rfl 11 (by decide) gw_587 rfl (v := .ref (ad 5)) rfl dX6_wronglyBlocked_9 ?_
    refine lv_iload_n hx hb dX6_wronglyBlocked_12 rfl (lv_at hl 1 rfl) ?_
    refine a_ild F hK hP 5 (f := gR g 3) rfl (j := j) (by omega) (by decide) dX6_wronglyBlocked_13 ?_
    refine lv_goto (tgt := 19) hx hb dX6_wronglyBlocked_14 (by decide) ?_
    exact rt _ (mW ad kA g z) _ _ _ _ hP hD hS dX6_wronglyBlocked_19 (⟨by rw [sp_at, if_pos c_5, nI_clamp (by omega)], rfl⟩)

set_option maxRecDepth 100000 in
set_option maxHeartbeats 4000000 in
theorem kX6_seenDestinations (l : Launch) (D : va_G) (kA : Nat → ClassId) (sz : Nat) (ad : Nat → Nat) (g : Sg) (z : Zm) (p1 : Int32) (hI : Inv g) : CtL l yX6_seenDestinations cX6_seenDestinations 2 .long 2 D kA sz (mW ad kA g z) [.ref (ad 0), .int p1] (fun r u => r = sp_seen p1 g ∧ u = mW ad kA g z) := by
  refine ct_l (own := RX6) (by decide) rfl (Nat.le_of_ble_eq_true rfl) ?_
  intro p_ e_ s_ m_ ar_ bw_ me_ co_ A ls Q F hnm hK hA hP hD hS hl hsz rt
  have hx := F.1
  have hb := F.2.1
  have hl : lv_has ls 2 [(0, .ref (ad 0)), (1, .int p1)] := hl
  have hP : va_P D vwCl (mW ad kA g z) s_.heap := hP
  obtain ⟨⟨hc1, hc2⟩, ha, hn, hu, hd, hup, hlo, hso, hv⟩ := id hI
  refine lv_aload_n hx hb dX6_seenDestinations_0 rfl (lv_at hl 0 rfl) ?_
  refine lv_iload_n hx hb dX6_seenDestinations_1 rfl (lv_at hl 1 rfl) ?_
  refine cl_V_i (wc := (mW ad kA g z)) (As := [.int p1]) (rest := []) (b := (ad 0)) (C := RX6) F hK hP hD hS hA (kX6_isCell l D kA _ ad g z p1 ) gw_744 gw_71 gw_741 gw_743 gw_54 (va_recv hK.1 hP (ci := 6) (q0 := 0) rfl rfl) hdX6_isCell ⟨Nat.le_of_ble_eq_true rfl, Nat.le_of_ble_eq_true rfl⟩ hl.1 rfl (Nat.le_of_ble_eq_true rfl) dX6_seenDestinations_2 ⟨Nat.le_of_ble_eq_true rfl, Nat.le_of_ble_eq_true rfl⟩ (fun r_2 u_2 H locs hw hP1 hD1 hk1 hFc hS => ?_)
  obtain ⟨rfl, rfl⟩ := hw
  have hP : va_P D vwCl (mW ad kA g z) H := hP1
  have hD : va_D A (mW ad kA g z) := hD1.weaken (fun _ _ _ h => hFc _ h)
  refine b_beq F (P := 0 ≤ p1 ∧ p1 ≤ nI (gN g 0) - 1) (tgt := 17) dX6_seenDestinations_5 (by decide) (fun c_5 => ?_) (fun c_5 => ?_)
  · refine lv_ldc2 (v := (-107)) hx hb F.2.2.2.1 (F.2.2.2.2 _ gw_785) dX6_seenDestinations_17 ?_
    exact rt _ (mW ad kA g z) _ _ _ _ hP hD hS dX6_seenDestinations_20 (⟨by rw [sp_seen, if_neg c_5], rfl⟩)
  · obtain ⟨j, hj, rfl⟩ := nat_lt (by omega) c_5.1 c_5.2
    refine lv_aload_n hx hb dX6_seenDestinations_8 rfl (lv_at hl 0 rfl) ?_
    refine g_get F hK hP inX6 0 rfl rfl 9 (by decide) gw_585 rfl (v := .ref (ad 3)) rfl dX6_seenDestinations_9 ?_
    refine lv_iload_n hx hb dX6_seenDestinations_12 rfl (lv_at hl 1 rfl) ?_
    refine a_lld F hK hP 3 (f := gE g) rfl (j := j) (by omega) (by decide) dX6_seenDestinations_13 ?_
    refine lv_goto (tgt := 20) hx hb dX6_seenDestinations_14 (by decide) ?_
    exact rt _ (mW ad kA g z) _ _ _ _ hP hD hS dX6_seenDestinations_20 (⟨by rw [sp_seen, if_pos c_5, nI_clamp (by omega)], rfl⟩)

set_option maxRecDepth 100000 in
set_option maxHeartbeats 4000000 in
theorem kX6_isBlocked (l : Launch) (D : va_G) (kA : Nat → ClassId) (sz : Nat) (ad : Nat → Nat) (g : Sg) (z : Zm) (p1 : Int32) (hI : Inv g) : CtI l yX6_isBlocked cX6_isBlocked 2 .int 2 D kA sz (mW ad kA g z) [.ref (ad 0), .int p1] (fun r u => r = sp_isB p1 g ∧ u = mW ad kA g z) := by
  refine ct_i (own := RX6) (by decide) rfl (Nat.le_of_ble_eq_true rfl) ?_
  intro p_ e_ s_ m_ ar_ bw_ me_ co_ A ls Q F hnm hK hA hP hD hS hl hsz rt
  have hx := F.1
  have hb := F.2.1
  have hl : lv_has ls 2 [(0, .ref (ad 0)), (1, .int p1)] := hl
  have hP : va_P D vwCl (mW ad kA g z) s_.heap := hP
  obtain ⟨⟨hc1, hc2⟩, ha, hn, hu, hd, hup, hlo, hso, hv⟩ := id hI
  refine lv_aload_n hx hb dX6_isBlocked_0 rfl (lv_at hl 0 rfl) ?_
  refine lv_iload_n hx hb dX6_isBlocked_1 rfl (lv_at hl 1 rfl) ?_
  refine cl_V_i (wc := (mW ad kA g z)) (As := [.int p1]) (rest := []) (b := (ad 0)) (C := RX6) F hK hP hD hS hA (kX6_isCell l D kA _ ad g z p1 ) gw_744 gw_71 gw_741 gw_743 gw_54 (va_recv hK.1 hP (ci := 6) (q0 := 0) rfl rfl) hdX6_isCell ⟨Nat.le_of_ble_eq_true rfl, Nat.le_of_ble_eq_true rfl⟩ hl.1 rfl (Nat.le_of_ble_eq_true rfl) dX6_isBlocked_2 ⟨Nat.le_of_ble_eq_true rfl, Nat.le_of_ble_eq_true rfl⟩ (fun r_2 u_2 H locs hw hP1 hD1 hk1 hFc hS => ?_)
  obtain ⟨rfl, rfl⟩ := hw
  have hP : va_P D vwCl (mW ad kA g z) H := hP1
  have hD : va_D A (mW ad kA g z) := hD1.weaken (fun _ _ _ h => hFc _ h)
  refine b_bne F (P := 0 ≤ p1 ∧ p1 ≤ nI (gN g 0) - 1) (tgt := 13) dX6_isBlocked_5 (by decide) (fun c_5 => ?_) (fun c_5 => ?_)
  · obtain ⟨j, hj, rfl⟩ := nat_lt (by omega) c_5.1 c_5.2
    refine lv_aload_n hx hb dX6_isBlocked_13 rfl (lv_at hl 0 rfl) ?_
    refine g_get F hK hP inX6 0 rfl rfl 8 (by decide) gw_584 rfl (v := .ref (ad 2)) rfl dX6_isBlocked_14 ?_
    refine lv_iload_n hx hb dX6_isBlocked_17 rfl (lv_at hl 1 rfl) ?_
    refine a_zld F hK hP 2 (f := gR g 1) rfl (j := j) (by omega) (by decide) dX6_isBlocked_18 ?_
    refine lv_if_eq (tgt := 26) hx hb dX6_isBlocked_19 (by decide) (fun c_19 => ?_) (fun c_19 => ?_)
    · refine lv_iconst (v := 0) hx hb dX6_isBlocked_26 (by decide) ?_
      exact rt _ (mW ad kA g z) _ _ _ _ hP hD hS dX6_isBlocked_27 (⟨by rw [sp_isB, if_pos c_5, nI_clamp (by omega), if_pos c_19], rfl⟩)
    · refine lv_iconst (v := 1) hx hb dX6_isBlocked_22 (by decide) ?_
      refine lv_goto (tgt := 27) hx hb dX6_isBlocked_23 (by decide) ?_
      exact rt _ (mW ad kA g z) _ _ _ _ hP hD hS dX6_isBlocked_27 (⟨by rw [sp_isB, if_pos c_5, nI_clamp (by omega), if_neg c_19], rfl⟩)
  · refine lv_bipush (v := (-107)) hx hb dX6_isBlocked_8 (by decide) ?_
    refine lv_goto (tgt := 27) hx hb dX6_isBlocked_10 (by decide) ?_
    exact rt _ (mW ad kA g z) _ _ _ _ hP hD hS dX6_isBlocked_27 (⟨by rw [sp_isB, if_neg c_5], rfl⟩)

set_option maxRecDepth 100000 in
set_option maxHeartbeats 4000000 in
theorem kX6_attemptCount (l : Launch) (D : va_G) (kA : Nat → ClassId) (sz : Nat) (ad : Nat → Nat) (g : Sg) (z : Zm)  : CtI l yX6_attemptCount cX6_attemptCount 1 .int 0 D kA sz (mW ad kA g z) [.ref (ad 0)] (fun r u => r = nI (gN g 1) ∧ u = mW ad kA g z) := by
  refine ct_i (own := RX6) (by decide) rfl (Nat.le_of_ble_eq_true rfl) ?_
  intro p_ e_ s_ m_ ar_ bw_ me_ co_ A ls Q F hnm hK hA hP hD hS hl hsz rt
  have hx := F.1
  have hb := F.2.1
  have hl : lv_has ls 1 [(0, .ref (ad 0))] := hl
  have hP : va_P D vwCl (mW ad kA g z) s_.heap := hP
  refine lv_aload_n hx hb dX6_attemptCount_0 rfl (lv_at hl 0 rfl) ?_
  refine g_get F hK hP inX6 0 rfl rfl 12 (by decide) gw_588 rfl (v := .int (nI (gN g 1))) rfl dX6_attemptCount_1 ?_
  exact rt _ (mW ad kA g z) _ _ _ _ hP hD hS dX6_attemptCount_4 (⟨rfl, rfl⟩)

set_option maxRecDepth 100000 in
set_option maxHeartbeats 4000000 in
theorem kX6_clock (l : Launch) (D : va_G) (kA : Nat → ClassId) (sz : Nat) (ad : Nat → Nat) (g : Sg) (z : Zm)  : CtI l yX6_clock cX6_clock 1 .int 0 D kA sz (mW ad kA g z) [.ref (ad 0)] (fun r u => r = gI g 5 ∧ u = mW ad kA g z) := by
  refine ct_i (own := RX6) (by decide) rfl (Nat.le_of_ble_eq_true rfl) ?_
  intro p_ e_ s_ m_ ar_ bw_ me_ co_ A ls Q F hnm hK hA hP hD hS hl hsz rt
  have hx := F.1
  have hb := F.2.1
  have hl : lv_has ls 1 [(0, .ref (ad 0))] := hl
  have hP : va_P D vwCl (mW ad kA g z) s_.heap := hP
  refine lv_aload_n hx hb dX6_clock_0 rfl (lv_at hl 0 rfl) ?_
  refine g_get F hK hP inX6 0 rfl rfl 6 (by decide) gw_582 rfl (v := .int (gI g 5)) rfl dX6_clock_1 ?_
  exact rt _ (mW ad kA g z) _ _ _ _ hP hD hS dX6_clock_4 (⟨rfl, rfl⟩)

set_option maxRecDepth 100000 in
set_option maxHeartbeats 4000000 in
theorem kX6_verdictCount (l : Launch) (D : va_G) (kA : Nat → ClassId) (sz : Nat) (ad : Nat → Nat) (g : Sg) (z : Zm)  : CtI l yX6_verdictCount cX6_verdictCount 1 .int 0 D kA sz (mW ad kA g z) [.ref (ad 0)] (fun r u => r = nI (gV g).length ∧ u = mW ad kA g z) := by
  refine ct_i (own := RX6) (by decide) rfl (Nat.le_of_ble_eq_true rfl) ?_
  intro p_ e_ s_ m_ ar_ bw_ me_ co_ A ls Q F hnm hK hA hP hD hS hl hsz rt
  have hx := F.1
  have hb := F.2.1
  have hl : lv_has ls 1 [(0, .ref (ad 0))] := hl
  have hP : va_P D vwCl (mW ad kA g z) s_.heap := hP
  refine lv_aload_n hx hb dX6_verdictCount_0 rfl (lv_at hl 0 rfl) ?_
  refine g_get F hK hP inX6 0 rfl rfl 16 (by decide) gw_592 rfl (v := .int (nI ((gV g).length))) rfl dX6_verdictCount_1 ?_
  exact rt _ (mW ad kA g z) _ _ _ _ hP hD hS dX6_verdictCount_4 (⟨rfl, rfl⟩)

set_option maxRecDepth 100000 in
set_option maxHeartbeats 4000000 in
theorem kX6_described (l : Launch) (D : va_G) (kA : Nat → ClassId) (sz : Nat) (ad : Nat → Nat) (g : Sg) (z : Zm) (j : Nat) (hj : j < 12) : CtI l yX6_described cX6_described 2 .int 0 D kA sz (mW ad kA g z) [.ref (ad 0), .int (nI j)] (fun r u => r = desA j g ∧ u = mW ad kA g z) := by
  refine ct_i (own := RX6) (by decide) rfl (Nat.le_of_ble_eq_true rfl) ?_
  intro p_ e_ s_ m_ ar_ bw_ me_ co_ A ls Q F hnm hK hA hP hD hS hl hsz rt
  have hx := F.1
  have hb := F.2.1
  have hl : lv_has ls 2 [(0, .ref (ad 0)), (1, .int (nI j))] := hl
  have hP : va_P D vwCl (mW ad kA g z) s_.heap := hP
  refine lv_sipush (v := 1000) hx hb dX6_described_0 (by decide) ?_
  refine lv_aload_n hx hb dX6_described_3 rfl (lv_at hl 0 rfl) ?_
  refine g_get F hK hP inX6 0 rfl rfl 15 (by decide) gw_591 rfl (v := .ref (ad 8)) rfl dX6_described_4 ?_
  refine lv_iload_n hx hb dX6_described_7 rfl (lv_at hl 1 rfl) ?_
  refine a_ild F hK hP 8 (f := gR g 6) rfl (j := j) (by omega) (by decide) dX6_described_8 ?_
  refine lv_aload_n hx hb dX6_described_9 rfl (lv_at hl 0 rfl) ?_
  refine g_get F hK hP inX6 0 rfl rfl 6 (by decide) gw_582 rfl (v := .int (gI g 5)) rfl dX6_described_10 ?_
  refine lv_isub hx hb dX6_described_13 ?_
  refine lv_imul hx hb dX6_described_14 ?_
  refine lv_bipush (v := 100) hx hb dX6_described_15 (by decide) ?_
  refine lv_aload_n hx hb dX6_described_17 rfl (lv_at hl 0 rfl) ?_
  refine g_get F hK hP inX6 0 rfl rfl 13 (by decide) gw_589 rfl (v := .ref (ad 6)) rfl dX6_described_18 ?_
  refine lv_iload_n hx hb dX6_described_21 rfl (lv_at hl 1 rfl) ?_
  refine a_ild F hK hP 6 (f := gR g 4) rfl (j := j) (by omega) (by decide) dX6_described_22 ?_
  refine lv_imul hx hb dX6_described_23 ?_
  refine lv_iadd hx hb dX6_described_24 ?_
  refine lv_aload_n hx hb dX6_described_25 rfl (lv_at hl 0 rfl) ?_
  refine g_get F hK hP inX6 0 rfl rfl 14 (by decide) gw_590 rfl (v := .ref (ad 7)) rfl dX6_described_26 ?_
  refine lv_iload_n hx hb dX6_described_29 rfl (lv_at hl 1 rfl) ?_
  refine a_ild F hK hP 7 (f := gR g 5) rfl (j := j) (by omega) (by decide) dX6_described_30 ?_
  refine lv_iadd hx hb dX6_described_31 ?_
  exact rt _ (mW ad kA g z) _ _ _ _ hP hD hS dX6_described_32 (⟨rfl, rfl⟩)

set_option maxRecDepth 100000 in
set_option maxHeartbeats 4000000 in
theorem kX6_describeAttempt (l : Launch) (D : va_G) (kA : Nat → ClassId) (sz : Nat) (ad : Nat → Nat) (g : Sg) (z : Zm) (p1 : Int32) (hI : Inv g) : CtI l yX6_describeAttempt cX6_describeAttempt 2 .int 1 D kA sz (mW ad kA g z) [.ref (ad 0), .int p1] (fun r u => r = sp_desA p1 g ∧ u = mW ad kA g z) := by
  refine ct_i (own := RX6) (by decide) rfl (Nat.le_of_ble_eq_true rfl) ?_
  intro p_ e_ s_ m_ ar_ bw_ me_ co_ A ls Q F hnm hK hA hP hD hS hl hsz rt
  have hx := F.1
  have hb := F.2.1
  have hl : lv_has ls 2 [(0, .ref (ad 0)), (1, .int p1)] := hl
  have hP : va_P D vwCl (mW ad kA g z) s_.heap := hP
  obtain ⟨⟨hc1, hc2⟩, ha, hn, hu, hd, hup, hlo, hso, hv⟩ := id hI
  refine lv_iload_n hx hb dX6_describeAttempt_0 rfl (lv_at hl 1 rfl) ?_
  refine lv_iconst (v := 0) hx hb dX6_describeAttempt_1 (by decide) ?_
  refine lv_aload_n hx hb dX6_describeAttempt_2 rfl (lv_at hl 0 rfl) ?_
  refine g_get F hK hP inX6 0 rfl rfl 12 (by decide) gw_588 rfl (v := .int (nI (gN g 1))) rfl dX6_describeAttempt_3 ?_
  refine lv_iconst (v := 1) hx hb dX6_describeAttempt_6 (by decide) ?_
  refine lv_isub hx hb dX6_describeAttempt_7 ?_
  refine cl_S_i (wc := []) (As := [.int p1, .int 0, .int ((nI (gN g 1)) - 1)]) (rest := []) F hK P_nil D_nil hS hA (kX6_within l D kA _ p1 0 ((nI (gN g 1)) - 1) ) gw_666 gw_71 gw_664 gw_665 hdX6_within ⟨Nat.le_of_ble_eq_true rfl, Nat.le_of_ble_eq_true rfl⟩ hl.1 rfl (Nat.le_of_ble_eq_true rfl) dX6_describeAttempt_8 ⟨Nat.le_of_ble_eq_true rfl, Nat.le_of_ble_eq_true rfl⟩ (fun r_8 u_8 H locs hw hP1 hD1 hk1 hFc hS => ?_)
  obtain ⟨rfl, rfl⟩ := hw
  have hP := hp_non hP hk1
  refine b_beq F (P := 0 ≤ p1 ∧ p1 ≤ ((nI (gN g 1)) - 1)) (tgt := 22) dX6_describeAttempt_11 (by decide) (fun c_11 => ?_) (fun c_11 => ?_)
  · refine lv_bipush (v := (-108)) hx hb dX6_describeAttempt_22 (by decide) ?_
    exact rt _ (mW ad kA g z) _ _ _ _ hP hD hS dX6_describeAttempt_24 (⟨by rw [sp_desA, if_neg c_11], rfl⟩)
  · obtain ⟨j, hj, rfl⟩ := nat_lt (by omega) c_11.1 c_11.2
    refine lv_aload_n hx hb dX6_describeAttempt_14 rfl (lv_at hl 0 rfl) ?_
    refine lv_iload_n hx hb dX6_describeAttempt_15 rfl (lv_at hl 1 rfl) ?_
    refine cl_V_i (wc := (mW ad kA g z)) (As := [.int (nI j)]) (rest := []) (b := (ad 0)) (C := RX6) F hK hP hD hS hA (kX6_described l D kA _ ad g z j (by omega)) gw_805 gw_71 gw_802 gw_804 gw_57 (va_recv hK.1 hP (ci := 6) (q0 := 0) rfl rfl) hdX6_described ⟨Nat.le_of_ble_eq_true rfl, Nat.le_of_ble_eq_true rfl⟩ hl.1 rfl (Nat.le_of_ble_eq_true rfl) dX6_describeAttempt_16 ⟨Nat.le_of_ble_eq_true rfl, Nat.le_of_ble_eq_true rfl⟩ (fun r_16 u_16 H locs hw hP1 hD1 hk1 hFc hS => ?_)
    obtain ⟨rfl, rfl⟩ := hw
    have hP : va_P D vwCl (mW ad kA g z) H := hP1
    have hD : va_D A (mW ad kA g z) := hD1.weaken (fun _ _ _ h => hFc _ h)
    refine lv_goto (tgt := 24) hx hb dX6_describeAttempt_19 (by decide) ?_
    exact rt _ (mW ad kA g z) _ _ _ _ hP hD hS dX6_describeAttempt_24 (⟨by rw [sp_desA, if_pos c_11, nI_clamp (by omega)], rfl⟩)

set_option maxRecDepth 100000 in
set_option maxHeartbeats 4000000 in
theorem kX6_describeVerdict (l : Launch) (D : va_G) (kA : Nat → ClassId) (sz : Nat) (ad : Nat → Nat) (g : Sg) (z : Zm) (p1 : Int32) (hI : Inv g) (hL : RgM (gV g) (zL z)) : CtI l yX6_describeVerdict cX6_describeVerdict 2 .int 1 D kA sz (mW ad kA g z) [.ref (ad 0), .int p1] (fun r u => r = sp_desV p1 g ∧ u = mW ad kA g z) := by
  refine ct_i (own := RX6) (by decide) rfl (Nat.le_of_ble_eq_true rfl) ?_
  intro p_ e_ s_ m_ ar_ bw_ me_ co_ A ls Q F hnm hK hA hP hD hS hl hsz rt
  have hx := F.1
  have hb := F.2.1
  have hl : lv_has ls 2 [(0, .ref (ad 0)), (1, .int p1)] := hl
  have hP : va_P D vwCl (mW ad kA g z) s_.heap := hP
  obtain ⟨⟨hc1, hc2⟩, ha, hn, hu, hd, hup, hlo, hso, hv⟩ := id hI
  refine lv_iload_n hx hb dX6_describeVerdict_0 rfl (lv_at hl 1 rfl) ?_
  refine lv_iconst (v := 0) hx hb dX6_describeVerdict_1 (by decide) ?_
  refine lv_bipush (v := 15) hx hb dX6_describeVerdict_2 (by decide) ?_
  refine cl_S_i (wc := []) (As := [.int p1, .int 0, .int 15]) (rest := []) F hK P_nil D_nil hS hA (kX6_within l D kA _ p1 0 15 ) gw_666 gw_71 gw_664 gw_665 hdX6_within ⟨Nat.le_of_ble_eq_true rfl, Nat.le_of_ble_eq_true rfl⟩ hl.1 rfl (Nat.le_of_ble_eq_true rfl) dX6_describeVerdict_4 ⟨Nat.le_of_ble_eq_true rfl, Nat.le_of_ble_eq_true rfl⟩ (fun r_4 u_4 H locs hw hP1 hD1 hk1 hFc hS => ?_)
  obtain ⟨rfl, rfl⟩ := hw
  have hP := hp_non hP hk1
  refine b_beq F (P := 0 ≤ p1 ∧ p1 ≤ 15) (tgt := 27) dX6_describeVerdict_7 (by decide) (fun c_7 => ?_) (fun c_7 => ?_)
  · refine lv_bipush (v := (-109)) hx hb dX6_describeVerdict_27 (by decide) ?_
    exact rt _ (mW ad kA g z) _ _ _ _ hP hD hS dX6_describeVerdict_29 (⟨by rw [sp_desV, if_neg (fun h => c_7 h.1)], rfl⟩)
  · obtain ⟨j, hj, rfl⟩ := nat_of (n := 15) (by decide) c_7.1 c_7.2
    refine lv_iload_n hx hb dX6_describeVerdict_10 rfl (lv_at hl 1 rfl) ?_
    refine lv_aload_n hx hb dX6_describeVerdict_11 rfl (lv_at hl 0 rfl) ?_
    refine g_get F hK hP inX6 0 rfl rfl 16 (by decide) gw_592 rfl (v := .int (nI ((gV g).length))) rfl dX6_describeVerdict_12 ?_
    refine b_ge F (a := j) (b := (gV g).length) (tgt := 27) dX6_describeVerdict_15 (by decide) (by omega) (by omega) (fun c_15 => ?_) (fun c_15 => ?_)
    · refine lv_bipush (v := (-109)) hx hb dX6_describeVerdict_27 (by decide) ?_
      exact rt _ (mW ad kA g z) _ _ _ _ hP hD hS dX6_describeVerdict_29 (⟨by rw [sp_desV, if_neg (fun h => absurd h.2 (Int32.not_lt.mpr (nI_le c_15 (by omega))))], rfl⟩)
    · refine lv_aload_n hx hb dX6_describeVerdict_18 rfl (lv_at hl 0 rfl) ?_
      refine g_get F hK hP inX6 0 rfl rfl 17 (by decide) gw_593 rfl (v := .ref (ad 9)) rfl dX6_describeVerdict_19 ?_
      refine lv_iload_n hx hb dX6_describeVerdict_22 rfl (lv_at hl 1 rfl) ?_
      refine a_ild F hK hP 9 (f := zL z) rfl (j := j) (by omega) (by decide) dX6_describeVerdict_23 ?_
      refine lv_goto (tgt := 29) hx hb dX6_describeVerdict_24 (by decide) ?_
      exact rt _ (mW ad kA g z) _ _ _ _ hP hD hS dX6_describeVerdict_29 (⟨by rw [sp_desV, if_pos ⟨c_7, nI_lt c_15 (by omega)⟩, nI_clamp (by omega)]; exact hL j (by omega) c_15, rfl⟩)

set_option maxRecDepth 100000 in
set_option maxHeartbeats 4000000 in
theorem kX6_append (l : Launch) (D : va_G) (kA : Nat → ClassId) (sz : Nat) (ad : Nat → Nat) (g : Sg) (z : Zm) (p1 : Int32) (hI : Inv g) : CtI l yX6_append cX6_append 2 .int 1 D kA sz (mW ad kA g z) [.ref (ad 0), .int p1] (fun r u => r = (sp_append p1 g).1 ∧ u = mW ad kA (sp_append p1 g).2 z) := by
  refine ct_i (own := RX6) (by decide) rfl (Nat.le_of_ble_eq_true rfl) ?_
  intro p_ e_ s_ m_ ar_ bw_ me_ co_ A ls Q F hnm hK hA hP hD hS hl hsz rt
  have hx := F.1
  have hb := F.2.1
  have hl : lv_has ls 2 [(0, .ref (ad 0)), (1, .int p1)] := hl
  have hP : va_P D vwCl (mW ad kA g z) s_.heap := hP
  obtain ⟨⟨hc1, hc2⟩, ha, hn, hu, hd, hup, hlo, hso, hv⟩ := id hI
  refine lv_iload_n hx hb dX6_append_0 rfl (lv_at hl 1 rfl) ?_
  refine lv_bipush (v := 32) hx hb dX6_append_1 (by decide) ?_
  refine lv_bipush (v := 126) hx hb dX6_append_3 (by decide) ?_
  refine cl_S_i (wc := []) (As := [.int p1, .int 32, .int 126]) (rest := []) F hK P_nil D_nil hS hA (kX6_within l D kA _ p1 32 126 ) gw_666 gw_71 gw_664 gw_665 hdX6_within ⟨Nat.le_of_ble_eq_true rfl, Nat.le_of_ble_eq_true rfl⟩ hl.1 rfl (Nat.le_of_ble_eq_true rfl) dX6_append_5 ⟨Nat.le_of_ble_eq_true rfl, Nat.le_of_ble_eq_true rfl⟩ (fun r_5 u_5 H locs hw hP1 hD1 hk1 hFc hS => ?_)
  obtain ⟨rfl, rfl⟩ := hw
  have hP := hp_non hP hk1
  refine b_bne F (P := 32 ≤ p1 ∧ p1 ≤ 126) (tgt := 14) dX6_append_8 (by decide) (fun c_8 => ?_) (fun c_8 => ?_)
  · refine lv_aload_n hx hb dX6_append_14 rfl (lv_at hl 0 rfl) ?_
    refine g_get F hK hP inX6 0 rfl rfl 18 (by decide) gw_594 rfl (v := .int (nI (gN g 2))) rfl dX6_append_15 ?_
    refine lv_bipush (v := 59) hx hb dX6_append_18 (by decide) ?_
    refine b_ne F (a := gN g 2) (b := 59) (tgt := 26) dX6_append_20 (by decide) (by omega) (by omega) (fun c_20 => ?_) (fun c_20 => ?_)
    · refine lv_aload_n hx hb dX6_append_26 rfl (lv_at hl 0 rfl) ?_
      refine g_get F hK hP inX6 0 rfl rfl 19 (by decide) gw_595 rfl (v := .ref (ad 10)) rfl dX6_append_27 ?_
      refine lv_aload_n hx hb dX6_append_30 rfl (lv_at hl 0 rfl) ?_
      refine g_get F hK hP inX6 0 rfl rfl 18 (by decide) gw_594 rfl (v := .int (nI (gN g 2))) rfl dX6_append_31 ?_
      refine lv_iload_n hx hb dX6_append_34 rfl (lv_at hl 1 rfl) ?_
      refine a_ist F hK hP hD hS 10 (f := gR g 7) rfl (j := gN g 2) (by omega) (by decide) dX6_append_35 (fun H locs hP hD hS => ?_)
      have hP : va_P D vwCl (mW ad kA (sR g 7 (upd (gR g 7) (gN g 2) p1)) z) H := hP
      have hD : va_D A (mW ad kA (sR g 7 (upd (gR g 7) (gN g 2) p1)) z) := hD
      refine lv_aload_n hx hb dX6_append_36 rfl (lv_at hl 0 rfl) ?_
      refine lv_dup hx hb dX6_append_37 rfl ?_
      refine g_get F hK hP inX6 0 rfl rfl 18 (by decide) gw_594 rfl (v := .int (nI (gN g 2))) rfl dX6_append_38 ?_
      refine lv_iconst (v := 1) hx hb dX6_append_41 (by decide) ?_
      refine n_add F (a := gN g 2) (b := 1) dX6_append_42 ?_
      refine g_put F hK hP hD hS inX6 tyX6_ok nmX6 0 rfl rfl 18 (by decide) gw_594 rfl rfl rfl rfl (Nat.le_of_ble_eq_true rfl) dX6_append_43 (fun H locs hP hD hS => ?_)
      have hP : va_P D vwCl (mW ad kA (sN (sR g 7 (upd (gR g 7) (gN g 2) p1)) 2 (gN g 2 + 1)) z) H := hP
      have hD : va_D A (mW ad kA (sN (sR g 7 (upd (gR g 7) (gN g 2) p1)) 2 (gN g 2 + 1)) z) := hD
      refine lv_aload_n hx hb dX6_append_46 rfl (lv_at hl 0 rfl) ?_
      refine g_get F hK hP inX6 0 rfl rfl 18 (by decide) gw_594 rfl (v := .int (nI (gN g 2 + 1))) rfl dX6_append_47 ?_
      exact rt _ (mW ad kA (sN (sR g 7 (upd (gR g 7) (gN g 2) p1)) 2 (gN g 2 + 1)) z) _ _ _ _ hP hD hS dX6_append_50 (⟨by rw [sp_append, if_pos c_8, if_neg c_20], by rw [sp_append, if_pos c_8, if_neg c_20]⟩)
    · refine lv_bipush (v := (-102)) hx hb dX6_append_23 (by decide) ?_
      exact rt _ (mW ad kA g z) _ _ _ _ hP hD hS dX6_append_25 (⟨by rw [sp_append, if_pos c_8, if_pos c_20], by rw [sp_append, if_pos c_8, if_pos c_20]⟩)
  · refine lv_bipush (v := (-101)) hx hb dX6_append_11 (by decide) ?_
    exact rt _ (mW ad kA g z) _ _ _ _ hP hD hS dX6_append_13 (⟨by rw [sp_append, if_neg c_8], by rw [sp_append, if_neg c_8]⟩)

set_option maxRecDepth 100000 in
set_option maxHeartbeats 4000000 in
theorem kX6_clearInput (l : Launch) (D : va_G) (kA : Nat → ClassId) (sz : Nat) (ad : Nat → Nat) (g : Sg) (z : Zm)  : CtI l yX6_clearInput cX6_clearInput 2 .int 0 D kA sz (mW ad kA g z) [.ref (ad 0)] (fun r u => r = (sp_clear g).1 ∧ u = mW ad kA (sp_clear g).2 z) := by
  refine ct_i (own := RX6) (by decide) rfl (Nat.le_of_ble_eq_true rfl) ?_
  intro p_ e_ s_ m_ ar_ bw_ me_ co_ A ls Q F hnm hK hA hP hD hS hl hsz rt
  have hx := F.1
  have hb := F.2.1
  have hl : lv_has ls 2 [(0, .ref (ad 0))] := hl
  have hP : va_P D vwCl (mW ad kA g z) s_.heap := hP
  refine lv_aload_n hx hb dX6_clearInput_0 rfl (lv_at hl 0 rfl) ?_
  refine g_get F hK hP inX6 0 rfl rfl 18 (by decide) gw_594 rfl (v := .int (nI (gN g 2))) rfl dX6_clearInput_1 ?_
  refine lv_istore_n (lv' := [(1, .int (nI (gN g 2))), (0, .ref (ad 0))]) hx hb dX6_clearInput_4 rfl hl (by decide) rfl (fun ls hl => ?_)
  refine lv_aload_n hx hb dX6_clearInput_5 rfl (lv_at hl 1 rfl) ?_
  refine lv_iconst (v := 0) hx hb dX6_clearInput_6 (by decide) ?_
  refine g_put F hK hP hD hS inX6 tyX6_ok nmX6 0 rfl rfl 18 (by decide) gw_594 rfl rfl rfl rfl (Nat.le_of_ble_eq_true rfl) dX6_clearInput_7 (fun H locs hP hD hS => ?_)
  have hP : va_P D vwCl (mW ad kA (sN g 2 0) z) H := hP
  have hD : va_D A (mW ad kA (sN g 2 0) z) := hD
  refine lv_iload_n hx hb dX6_clearInput_10 rfl (lv_at hl 0 rfl) ?_
  exact rt _ (mW ad kA (sN g 2 0) z) _ _ _ _ hP hD hS dX6_clearInput_11 (⟨rfl, rfl⟩)
end
section
/-! contacts, attempts, time, input: what the calls do, for both sides -/
def shf (f : Nat → Int32) (k n : Nat) : Nat → Int32 := fun j => if k ≤ j ∧ j < n then f (j + 1) else f j
theorem shf_0 (f : Nat → Int32) (k : Nat) : shf f k k = f := by
  funext j
  simp only [shf]
  rw [if_neg (by omega)]
theorem shf_s (f : Nat → Int32) {k i : Nat} (h : k ≤ i) : upd (shf f k i) i (shf f k i (i + 1)) = shf f k (i + 1) := by
  funext j
  by_cases hj : j = i
  · subst hj
    simp only [upd, shf, if_true]
    rw [if_neg (by omega), if_pos (by omega)]
  · simp only [upd, shf, if_neg hj]
    by_cases h2 : k ≤ j ∧ j < i
    · rw [if_pos h2, if_pos (by omega)]
    · rw [if_neg h2, if_neg (by omega)]
theorem sR3 (g : Sg) (a b c a' b' c' : Nat → Int32) : sR (sR (sR (sR (sR (sR g 4 a) 5 b) 6 c) 4 a') 5 b') 6 c' = sR (sR (sR g 4 a') 5 b') 6 c' := by
  refine Prod.ext rfl (Prod.ext rfl (Prod.ext ?_ rfl))
  funext j
  simp only [sR, vf_upd]
  by_cases h6 : j = 6
  · simp [h6]
  · by_cases h5 : j = 5
    · simp [h5]
    · by_cases h4 : j = 4
      · simp [h4]
      · simp [h4, h5, h6]
def drG (k i : Nat) (g : Sg) : Sg := sR (sR (sR g 4 (shf (gR g 4) k i)) 5 (shf (gR g 5) k i)) 6 (shf (gR g 6) k i)
theorem sR_same (g : Sg) (k : Nat) : sR g k (gR g k) = g := by
  refine Prod.ext rfl (Prod.ext rfl (Prod.ext ?_ rfl))
  funext j
  simp only [sR, vf_upd, gR]
  by_cases h : j = k
  · simp [h]
  · simp [h]
theorem drG_0 (k : Nat) (g : Sg) : drG k k g = g := by
  simp only [drG, shf_0]
  rw [show gR g 5 = gR (sR g 4 (gR g 4)) 5 from rfl, show gR g 6 = gR (sR (sR g 4 (gR g 4)) 5 (gR (sR g 4 (gR g 4)) 5)) 6 from rfl, sR_same, sR_same, sR_same]
theorem drG_s (g : Sg) {k i : Nat} (h : k ≤ i) : sR (sR (sR (drG k i g) 4 (upd (gR (drG k i g) 4) i (gR (drG k i g) 4 (i + 1)))) 5 (upd (gR (drG k i g) 5) i (gR (drG k i g) 5 (i + 1)))) 6 (upd (gR (drG k i g) 6) i (gR (drG k i g) 6 (i + 1))) = drG k (i + 1) g := by
  have e4 : gR (drG k i g) 4 = shf (gR g 4) k i := rfl
  have e5 : gR (drG k i g) 5 = shf (gR g 5) k i := rfl
  have e6 : gR (drG k i g) 6 = shf (gR g 6) k i := rfl
  rw [e4, e5, e6, shf_s _ h, shf_s _ h, shf_s _ h]
  exact sR3 _ _ _ _ _ _ _
def sp_drop (k : Nat) (g : Sg) : Sg := drG k (gN g 1 - 1) (sN g 1 (gN g 1 - 1))
def dAll (c : Nat) : Nat → Sg → Sg
  | 0, g => g
  | n + 1, g => dAll c n (if gR g 4 n - gR g 4 n / nI (gN g 0) * nI (gN g 0) = nI c then sp_drop n g else g)
theorem m1_lt {n : Nat} (hn : n < 2 ^ 31) : nI n - 1 < 0 ↔ n = 0 := by
  constructor
  · intro h
    cases n with
    | zero => rfl
    | succ n => rw [nI_pred] at h; exact absurd h (nI_pos (by omega))
  · rintro rfl
    decide
/-- what a run of drops, a verdict and the like keep -/
def Mn (g : Sg) : Prop := (1 ≤ gN g 0 ∧ gN g 0 ≤ 8) ∧ gN g 1 ≤ 12
def SoOK (g : Sg) : Prop := ∀ k, k < gN g 1 → ∃ s, s < 8 ∧ gR g 4 k = nI s
def Kp (g h : Sg) : Prop := gN h 0 = gN g 0 ∧ gN h 2 = gN g 2 ∧ gN h 1 ≤ gN g 1 ∧ gI h = gI g ∧ gR h 7 = gR g 7 ∧ (SoOK g → SoOK h)
theorem Kp.rfl {g : Sg} : Kp g g := ⟨Eq.refl _, Eq.refl _, Nat.le_refl _, Eq.refl _, Eq.refl _, id⟩
theorem Kp.trans {g h i : Sg} (a : Kp g h) (b : Kp h i) : Kp g i := ⟨b.1.trans a.1, b.2.1.trans a.2.1, Nat.le_trans b.2.2.1 a.2.2.1, b.2.2.2.1.trans a.2.2.2.1, b.2.2.2.2.1.trans a.2.2.2.2.1, fun x => b.2.2.2.2.2 (a.2.2.2.2.2 x)⟩
theorem Kp.mn {g h : Sg} (a : Kp g h) (m : Mn g) : Mn h := ⟨⟨by rw [a.1]; exact m.1.1, by rw [a.1]; exact m.1.2⟩, Nat.le_trans a.2.2.1 m.2⟩
theorem kp_drop {k : Nat} {g : Sg} (hk : k < gN g 1) : Kp g (sp_drop k g) := by
  refine ⟨rfl, rfl, Nat.sub_le _ _, rfl, rfl, fun h j hj => ?_⟩
  have hj : j < gN g 1 - 1 := hj
  show ∃ s, s < 8 ∧ shf (gR g 4) k (gN g 1 - 1) j = nI s
  unfold shf
  split
  · exact h (j + 1) (by omega)
  · exact h j (by omega)
theorem gN_drop (k : Nat) (g : Sg) : gN (sp_drop k g) 1 = gN g 1 - 1 := rfl
theorem gV_drop (k : Nat) (g : Sg) : gV (sp_drop k g) = gV g := rfl
theorem kp_dAll (c : Nat) : ∀ (n : Nat) (g : Sg), n ≤ gN g 1 → Kp g (dAll c n g) ∧ gV (dAll c n g) = gV g
  | 0, g, _ => ⟨Kp.rfl, rfl⟩
  | n + 1, g, h => by
    unfold dAll
    by_cases hc : gR g 4 n - gR g 4 n / nI (gN g 0) * nI (gN g 0) = nI c
    · rw [if_pos hc]
      obtain ⟨a, b⟩ := kp_dAll c n (sp_drop n g) (by rw [gN_drop]; omega)
      exact ⟨(kp_drop (by omega)).trans a, b.trans (gV_drop n g)⟩
    · rw [if_neg hc]
      exact kp_dAll c n g (by omega)
theorem rg_dAll {c n : Nat} {g : Sg} {L : Nat → Int32} (hn : n ≤ gN g 1) (h : RgM (gV g) L) : RgM (gV (dAll c n g)) L := by
  rw [(kp_dAll c n g hn).2]; exact h
def sc1 (c : Nat) (b : Int32) (g : Sg) : Int32 := if b = 0 then gR g 0 c + gI g 0 else gR g 0 c + -gI g 1
def st1 (c : Nat) (b : Int32) (g : Sg) : Sg := sR g 0 (upd (gR g 0) c (sc1 c b g))
def st2 (c : Nat) (g : Sg) : Sg := sV (sE (sR g 0 (upd (gR g 0) c 0)) (vp_updL (gE g) c 0)) ((nI (10 * c) + 2) :: gV g)
def st3 (c : Nat) (g : Sg) : Sg := sV (dAll c (gN g 1) (sR g 1 (upd (gR g 1) c 1))) ((nI (10 * c) + 1) :: gV (dAll c (gN g 1) (sR g 1 (upd (gR g 1) c 1))))
def sp_settle (c : Nat) (b : Int32) (g : Sg) : Int32 × Sg := if sc1 c b g < gI g 2 then (if gI g 3 < sc1 c b g then (0, st1 c b g) else (2, st2 c (st1 c b g))) else (1, st3 c (st1 c b g))
theorem kp_settle (c : Nat) (b : Int32) (g : Sg) : Kp g (sp_settle c b g).2 ∧ (gV (sp_settle c b g).2).length ≤ (gV g).length + 1 ∧ ((sp_settle c b g).1 = 0 ∨ (sp_settle c b g).1 = 1 ∨ (sp_settle c b g).1 = 2) := by
  unfold sp_settle
  split
  · split
    · exact ⟨⟨rfl, rfl, Nat.le_refl _, rfl, rfl, fun h => h⟩, Nat.le_succ _, Or.inl rfl⟩
    · exact ⟨⟨rfl, rfl, Nat.le_refl _, rfl, rfl, fun h => h⟩, Nat.le_refl _, Or.inr (Or.inr rfl)⟩
  · obtain ⟨a, e⟩ := kp_dAll c (gN (st1 c b g) 1) (sR (st1 c b g) 1 (upd (gR (st1 c b g) 1) c 1)) (Nat.le_refl _)
    refine ⟨⟨a.1, a.2.1, a.2.2.1, a.2.2.2.1, a.2.2.2.2.1, fun h => a.2.2.2.2.2 h⟩, ?_, Or.inr (Or.inl rfl)⟩
    show (gV (dAll c (gN (st1 c b g) 1) (sR (st1 c b g) 1 (upd (gR (st1 c b g) 1) c 1)))).length + 1 ≤ _
    rw [e]
    exact Nat.le_refl _
def bitq (x : Int64) (d : Nat) : Int64 := (x >>> ((nI d).toInt64 &&& 63)) &&& 1
theorem bitq_or (x : Int64) (d : Nat) : bitq x d = 0 ∨ bitq x d = 1 := by
  unfold bitq
  generalize x >>> ((nI d).toInt64 &&& 63) = y
  rcases Nat.mod_two_eq_zero_or_one y.toBitVec.toNat with h | h
  · left
    apply Int64.toBitVec_inj.mp
    apply BitVec.eq_of_toNat_eq
    show (y.toBitVec &&& 1#64).toNat = 0
    rw [BitVec.toNat_and]
    show y.toBitVec.toNat &&& 1 = 0
    rw [Nat.and_one_is_mod]; exact h
  · right
    apply Int64.toBitVec_inj.mp
    apply BitVec.eq_of_toNat_eq
    show (y.toBitVec &&& 1#64).toNat = 1
    rw [BitVec.toNat_and]
    show y.toBitVec.toNat &&& 1 = 1
    rw [Nat.and_one_is_mod]; exact h
def seeG (c d : Nat) (g : Sg) : Sg := sE g (vp_updL (gE g) c (gE g c ||| (1 <<< ((nI d).toInt64 &&& 63))))
def blkG (c : Nat) (b : Int32) (g : Sg) : Sg := sR (sR g 2 (upd (gR g 2) c (gR g 2 c + 1))) 3 (upd (gR g 3) c (gR g 3 c + if b = 0 then 0 else 1))
def sp_connectNow (s d : Nat) (b : Int32) (g : Sg) : Int32 × Sg := if gR g 1 (s % gN g 0) = 0 then (if bitq (gE g (s % gN g 0)) d = 1 then (4, g) else sp_settle (s % gN g 0) b (seeG (s % gN g 0) d g)) else (3, blkG (s % gN g 0) b g)
def sp_connect (s d b : Int32) (g : Sg) : Int32 × Sg := if 0 ≤ s ∧ s ≤ 7 then (if 0 ≤ d ∧ d ≤ 31 then sp_connectNow s.toNatClampNeg d.toNatClampNeg b g else (-106, g)) else (-105, g)
theorem kp_connectNow (s d : Nat) (b : Int32) (g : Sg) : Kp g (sp_connectNow s d b g).2 ∧ (gV (sp_connectNow s d b g).2).length ≤ (gV g).length + 1 := by
  unfold sp_connectNow
  split
  · split
    · exact ⟨Kp.rfl, Nat.le_succ _⟩
    · obtain ⟨a, e, -⟩ := kp_settle (s % gN g 0) b (seeG (s % gN g 0) d g)
      exact ⟨⟨a.1, a.2.1, a.2.2.1, a.2.2.2.1, a.2.2.2.2.1, a.2.2.2.2.2⟩, e⟩
  · exact ⟨⟨rfl, rfl, Nat.le_refl _, rfl, rfl, fun h => h⟩, Nat.le_succ _⟩
def addG (s d : Nat) (g : Sg) : Sg := sN (sR (sR (sR (seeG (s % gN g 0) d g) 4 (upd (gR g 4) (gN g 1) (nI s))) 5 (upd (gR g 5) (gN g 1) (nI d))) 6 (upd (gR g 6) (gN g 1) (gI g 5 + gI g 4))) 1 (gN g 1 + 1)
def sp_attemptNow (s d : Nat) (g : Sg) : Int32 × Sg := if gR g 1 (s % gN g 0) = 0 then (if bitq (gE g (s % gN g 0)) d = 1 then (4, g) else if gN g 1 = 12 then (-110, g) else (0, addG s d g)) else (3, sR g 2 (upd (gR g 2) (s % gN g 0) (gR g 2 (s % gN g 0) + 1)))
def sp_attempt (s d : Int32) (g : Sg) : Int32 × Sg := if 0 ≤ s ∧ s ≤ 7 then (if 0 ≤ d ∧ d ≤ 31 then sp_attemptNow s.toNatClampNeg d.toNatClampNeg g else (-106, g)) else (-105, g)
def fi (p : Nat → Bool) (a : Nat) : Option Nat := (List.range a).find? p
theorem fi_some {p : Nat → Bool} {a k : Nat} (hk : k < a) (hp : p k = true) (hn : ∀ j, j < k → p j = false) : fi p a = some k := List.find?_range_eq_some.mpr ⟨hp, List.mem_range.mpr hk, fun j hj => by rw [hn j hj]; rfl⟩
theorem fi_none {p : Nat → Bool} {a : Nat} (hn : ∀ j, j < a → p j = false) : fi p a = none := List.find?_range_eq_none.mpr fun j hj => by rw [hn j hj]; rfl
theorem fi_lt {p : Nat → Bool} {a k : Nat} (h : fi p a = some k) : k < a ∧ p k = true := by
  obtain ⟨h1, h2, -⟩ := List.find?_range_eq_some.mp h
  exact ⟨List.mem_range.mp h2, h1⟩
def fiA (s d : Int32) (g : Sg) : Option Nat := fi (fun k => decide (gR g 4 k = s ∧ gR g 5 k = d)) (gN g 1)
def fiD (g : Sg) : Option Nat := fi (fun k => decide (gR g 6 k = gI g 5)) (gN g 1)
def optI : Option Nat → Int32
  | none => (-1)
  | some k => nI k
theorem optI_none {o : Option Nat} (hb : ∀ k, o = some k → k < 2 ^ 31) (h : optI o < 0) : o = none := by
  cases o with
  | none => rfl
  | some k => exact absurd h (nI_pos (hb k rfl))
theorem optI_some {o : Option Nat} (h : ¬ optI o < 0) : ∃ k, o = some k := by
  cases o with
  | none => exact absurd (by decide) h
  | some k => exact ⟨k, rfl⟩
def sp_answer (s d : Int32) (g : Sg) : Int32 × Sg := match fiA s d g with
  | none => (-108, g)
  | some k => sp_settle (s.toNatClampNeg % gN g 0) 1 (sp_drop k g)
def tkS (k : Nat) (g : Sg) : Sg := (sp_settle ((gR g 4 k).toNatClampNeg % gN g 0) 0 (sp_drop k g)).2
def tkL : Nat → Nat → Sg → Nat × Sg
  | 0, f, g => (f, g)
  | n + 1, f, g => match fiD g with
    | none => (f, g)
    | some k => tkL n (f + 1) (tkS k g)
def sp_tick (g : Sg) : Nat × Sg := tkL 12 0 (sI g 5 (gI g 5 + 1))
theorem kp_tkS {k : Nat} {g : Sg} (hk : k < gN g 1) : Kp g (tkS k g) ∧ gN (tkS k g) 1 ≤ gN g 1 - 1 ∧ (gV (tkS k g)).length ≤ (gV g).length + 1 := by
  obtain ⟨a, e, -⟩ := kp_settle ((gR g 4 k).toNatClampNeg % gN g 0) 0 (sp_drop k g)
  exact ⟨(kp_drop hk).trans a, a.2.2.1, e⟩
theorem fiD_lt {g : Sg} {k : Nat} (h : fiD g = some k) : k < gN g 1 := (fi_lt h).1
theorem kp_tkL : ∀ (n f : Nat) (g : Sg), Kp g (tkL n f g).2 ∧ (gV (tkL n f g).2).length + gN (tkL n f g).2 1 ≤ (gV g).length + gN g 1
  | 0, _, _ => ⟨Kp.rfl, Nat.le_refl _⟩
  | n + 1, f, g => by
    unfold tkL
    cases h : fiD g with
    | none => exact ⟨Kp.rfl, Nat.le_refl _⟩
    | some k =>
      have hk := fiD_lt h
      obtain ⟨a, b, c⟩ := kp_tkS hk
      obtain ⟨d, e⟩ := kp_tkL n (f + 1) (tkS k g)
      refine ⟨a.trans d, Nat.le_trans e ?_⟩
      omega
theorem kp_tick (g : Sg) : Kp (sI g 5 (gI g 5 + 1)) (sp_tick g).2 ∧ (gV (sp_tick g).2).length + gN (sp_tick g).2 1 ≤ (gV g).length + gN g 1 := kp_tkL 12 0 _
def adL : Nat → Nat → Sg → Nat × Sg
  | 0, f, g => (f, g)
  | n + 1, f, g => adL n (f + (sp_tick g).1) (sp_tick g).2
def sp_advance (t : Int32) (g : Sg) : Int32 × Sg := if 1 ≤ t ∧ t ≤ 50 then (nI (adL t.toNatClampNeg 0 g).1, (adL t.toNatClampNeg 0 g).2) else (-104, g)
def sp_unblock (i : Int32) (g : Sg) : Int32 × Sg := if 0 ≤ i ∧ i ≤ nI (gN g 0) - 1 then (if gR g 1 i.toNatClampNeg = 0 then (-111, g) else (gR g 0 i.toNatClampNeg, sR (sE (sR g 0 (upd (gR g 0) i.toNatClampNeg 0)) (vp_updL (gE g) i.toNatClampNeg 0)) 1 (upd (gR g 1) i.toNatClampNeg 0))) else (-107, g)
/-- does the sign at i fit -/
abbrev chk (f : Nat → Int32) (i : Nat) : Prop := if i % 6 = 0 then (48 ≤ f i ∧ f i ≤ 55) else if i % 6 = 1 then f i = 62 else if i % 6 = 2 then (48 ≤ f i ∧ f i ≤ 51) else if i % 6 = 3 then (48 ≤ f i ∧ f i ≤ (if f (i - 1) = 51 then 49 else 57)) else if i % 6 = 4 then (f i = 43 ∨ f i = 45) else f i = 44
def fe (f : Nat → Int32) (n : Nat) : Nat :=
  match fi (fun i => decide (¬ chk f i)) n with
    | none => n
    | some i => i
theorem fe_at {f : Nat → Int32} {n k : Nat} (hk : k ≤ n) (hb : ∀ j, j < k → chk f j) (he : k = n ∨ ¬ chk f k) : fe f n = k := by
  unfold fe
  by_cases hc : k < n
  · have h2 : ¬ chk f k := by
      rcases he with h | h
      · omega
      · exact h
    rw [fi_some (p := fun i => decide (¬ chk f i)) (k := k) hc (decide_eq_true h2) (fun j hj => decide_eq_false (fun q => q (hb j hj)))]
  · have : k = n := by omega
    subst this
    rw [fi_none (p := fun i => decide (¬ chk f i)) (fun j hj => decide_eq_false (fun q => q (hb j hj)))]
theorem fe_le (f : Nat → Int32) (n : Nat) : fe f n ≤ n := by
  unfold fe
  split
  · exact Nat.le_refl _
  · rename_i i h; exact Nat.le_of_lt (fi_lt h).1
theorem fe_all {f : Nat → Int32} {n : Nat} (h : fe f n = n) : ∀ j, j < n → chk f j := by
  intro j hj
  unfold fe at h
  split at h
  · rename_i h2
    have h3 := List.find?_range_eq_none.mp h2 j hj
    by_cases hc : chk f j
    · exact hc
    · rw [decide_eq_true hc] at h3
      cases h3
  · rename_i i h2
    have := (fi_lt h2).1
    omega
def srcN (f : Nat → Int32) (i : Nat) : Nat := (f i - 48).toNatClampNeg
def dstN (f : Nat → Int32) (i : Nat) : Nat := (10 * (f (i + 2) - 48) + f (i + 3) - 48).toNatClampNeg
def sucI (f : Nat → Int32) (i : Nat) : Int32 := if f (i + 4) = 43 then 1 else 0
def rnL : Nat → Nat → Nat → Sg → Nat × Sg
  | 0, _, k, g => (k, g)
  | n + 1, i, k, g => rnL n (i + 6) (k + if (sp_connectNow (srcN (gR g 7) i) (dstN (gR g 7) i) (sucI (gR g 7) i) g).1 < 3 then 1 else 0) (sp_connectNow (srcN (gR g 7) i) (dstN (gR g 7) i) (sucI (gR g 7) i) g).2
def sp_run (g : Sg) : Int32 × Sg :=
  if gN g 2 % 6 = 5 ∧ fe (gR g 7) (gN g 2) = gN g 2 then (nI (rnL ((gN g 2 + 1) / 6) 0 0 g).1, sN (rnL ((gN g 2 + 1) / 6) 0 0 g).2 2 0) else (-103, g)
/-- the reference's row of verdicts behind one more -/
def shd (L : Nat → Int32) (k : Nat) : Nat → Int32 := fun j => if k < j ∧ j < 16 then L (j - 1) else L j
theorem shd_0 (L : Nat → Int32) : shd L 15 = L := by
  funext j
  simp only [shd]
  rw [if_neg (by omega)]
theorem shd_s (L : Nat → Int32) {k : Nat} (h0 : 0 < k) (h : k ≤ 15) : upd (shd L k) k (shd L k (k - 1)) = shd L (k - 1) := by
  funext j
  by_cases hj : j = k
  · subst hj
    simp only [upd, shd, if_true]
    rw [if_neg (by omega), if_pos (by omega)]
  · simp only [upd, shd, if_neg hj]
    by_cases h2 : k < j ∧ j < 16
    · rw [if_pos h2, if_pos (by omega)]
    · rw [if_neg h2, if_neg (by omega)]
theorem RgM_s {V : List Int32} {L : Nat → Int32} (h : RgM V L) (x : Int32) : RgM (x :: V) (upd (shd L 0) 0 x) := by
  intro b h1 h2
  cases b with
  | zero => simp [upd]
  | succ b =>
    have h3 : b < V.length := by simpa using h2
    simp only [upd, shd]
    rw [if_neg (by omega), if_pos (by omega)]
    show L b = _
    rw [h b (by omega) h3]
    rfl
def mQ (ad : Nat → Nat) (kA : Nat → ClassId) (g : Sg) (z : Zm) (u : va_W) : Prop := ∃ L, RgM (gV g) L ∧ u = mW ad kA g (tL z L)
theorem dig_ok {x : Int32} {n : Nat} (hn : 48 + n < 2 ^ 31) (h0 : 48 ≤ x) (h1 : x ≤ nI (48 + n)) : ∃ a, a ≤ n ∧ x = nI (48 + a) ∧ x - 48 = nI a := by
  obtain ⟨j, hj, rfl⟩ := nI_of (x := x) (Int32.not_lt.mpr (Int32.le_trans (by decide) h0))
  have h2 : 48 ≤ j := (nI_leI (by omega) hj).mp h0
  have h3 := (nI_leI hj hn).mp h1
  refine ⟨j - 48, by omega, by rw [show 48 + (j - 48) = j by omega], ?_⟩
  exact pk_sub (a := j) (b := 48) h2
theorem run_ok {f : Nat → Int32} {n i : Nat} (h : ∀ j, j < n → chk f j) (hi : i % 6 = 0) (ht : i + 4 < n) : ∃ s d, s < 8 ∧ d < 32 ∧ f i - 48 = nI s ∧ 10 * (f (i + 2) - 48) + f (i + 3) - 48 = nI d := by
  have c0 := h i (by omega)
  have c2 := h (i + 2) (by omega)
  have c3 := h (i + 3) (by omega)
  unfold chk at c0 c2 c3
  rw [if_pos hi] at c0
  rw [if_neg (by omega), if_neg (by omega), if_pos (by omega)] at c2
  rw [if_neg (by omega), if_neg (by omega), if_neg (by omega), if_pos (by omega)] at c3
  obtain ⟨s, hs, -, e0⟩ := dig_ok (n := 7) (by decide) c0.1 c0.2
  obtain ⟨a, ha, e2', e2⟩ := dig_ok (n := 3) (by decide) c2.1 c2.2
  rw [show i + 3 - 1 = i + 2 by omega] at c3
  have key : ∃ b, 10 * a + b < 32 ∧ f (i + 3) = nI (48 + b) := by
    by_cases h3 : f (i + 2) = 51
    · rw [if_pos h3] at c3
      obtain ⟨b, hb, e3, -⟩ := dig_ok (n := 1) (by decide) c3.1 c3.2
      exact ⟨b, by omega, e3⟩
    · rw [if_neg h3] at c3
      obtain ⟨b, hb, e3, -⟩ := dig_ok (n := 9) (by decide) c3.1 c3.2
      have : a ≠ 3 := fun q => h3 (by rw [e2', q]; decide)
      exact ⟨b, by omega, e3⟩
  obtain ⟨b, hb, e3⟩ := key
  refine ⟨s, 10 * a + b, by omega, hb, e0, ?_⟩
  rw [e2, e3, show (10 : Int32) = nI 10 from rfl, pk_mul, nI_add, show (48 : Int32) = nI 48 from rfl, pk_sub (by omega)]
  congr 1
  omega
end
section
set_option maxRecDepth 100000 in
set_option maxHeartbeats 4000000 in
theorem kX6_drop (l : Launch) (D : va_G) (kA : Nat → ClassId) (sz : Nat) (ad : Nat → Nat) (g : Sg) (z : Zm) (k : Nat) (hk : k < gN g 1) (ha : gN g 1 ≤ 12) : CtV l yX6_drop cX6_drop 3 0 0 0 D kA sz (mW ad kA g z) [.ref (ad 0), .int (nI k)] (fun u => u = mW ad kA (sp_drop k g) z) := by
  refine ct_v (own := RX6) (by decide) rfl (Nat.le_of_ble_eq_true rfl) ?_
  intro p_ e_ s_ m_ ar_ bw_ me_ co_ A ls Q F hnm hK hA hP hD hS hl hsz rt
  have hx := F.1
  have hb := F.2.1
  have hl : lv_has ls 3 [(0, .ref (ad 0)), (1, .int (nI k))] := hl
  have hP : va_P D vwCl (mW ad kA g z) s_.heap := hP
  refine lv_aload_n hx hb dX6_drop_0 rfl (lv_at hl 0 rfl) ?_
  refine lv_dup hx hb dX6_drop_1 rfl ?_
  refine g_get F hK hP inX6 0 rfl rfl 12 (by decide) gw_588 rfl (v := .int (nI (gN g 1))) rfl dX6_drop_2 ?_
  refine lv_iconst (v := 1) hx hb dX6_drop_5 (by decide) ?_
  refine n_sub F (a := gN g 1) (b := 1) dX6_drop_6 (by omega) ?_
  refine g_put F hK hP hD hS inX6 tyX6_ok nmX6 0 rfl rfl 12 (by decide) gw_588 rfl rfl rfl rfl (Nat.le_of_ble_eq_true rfl) dX6_drop_7 (fun H locs hP hD hS => ?_)
  have hP : va_P D vwCl (mW ad kA (sN g 1 ((gN g 1) - 1)) z) H := hP
  have hD : va_D A (mW ad kA (sN g 1 ((gN g 1) - 1)) z) := hD
  refine lv_iload_n hx hb dX6_drop_10 rfl (lv_at hl 1 rfl) ?_
  refine lv_istore_n (lv' := [(2, .int (nI k)), (0, .ref (ad 0)), (1, .int (nI k))]) hx hb dX6_drop_11 rfl hl (by decide) rfl (fun ls hl => ?_)
  have lp_12 : ∀ (n_12 : Nat) (i : Nat) (g1 : Sg), (k ≤ i) → (i ≤ gN g 1 - 1) → (g1 = drG k i (sN g 1 (gN g 1 - 1))) → (12 - i) < n_12 → ∀ (H : Heap) (locs : List Loc) (ls : Array Slot), va_P D vwCl (mW ad kA g1 z) H → va_D A (mW ad kA g1 z) → va_S A s_.heap H locs → lv_has ls 3 [(0, .ref (ad 0)), (1, .int (nI k)), (2, .int (nI i))] → W p_ l e_ (rmC 0 0 0) s_ m_ ar_ bw_ me_ co_ H locs 0 0 Q (F0 m_ 12 ls []) := by
    intro n_12
    induction n_12 with
    | zero =>
      intro i g1 hi1 hi2 hg hm_12
      exact absurd hm_12 (Nat.not_lt_zero _)
    | succ n_12 ih_12 =>
      intro i g1 hi1 hi2 hg hm_12 H locs ls hP hD hS hl
      have hN : gN g1 1 = gN g 1 - 1 := by rw [hg]; rfl
      refine lv_iload_n hx hb dX6_drop_12 rfl (lv_at hl 2 rfl) ?_
      refine lv_aload_n hx hb dX6_drop_13 rfl (lv_at hl 0 rfl) ?_
      refine g_get F hK hP inX6 0 rfl rfl 12 (by decide) gw_588 rfl (v := .int (nI (gN g1 1))) rfl dX6_drop_14 ?_
      refine b_ge F (a := i) (b := gN g1 1) (tgt := 68) dX6_drop_17 (by decide) (by omega) (by omega) (fun c_17 => ?_) (fun c_17 => ?_)
      · exact rt (mW ad kA g1 z) _ _ _ _ hP hD hS dX6_drop_68 ((by rw [hg, show i = gN g 1 - 1 by omega]; rfl))
      · refine lv_aload_n hx hb dX6_drop_20 rfl (lv_at hl 0 rfl) ?_
        refine g_get F hK hP inX6 0 rfl rfl 13 (by decide) gw_589 rfl (v := .ref (ad 6)) rfl dX6_drop_21 ?_
        refine lv_iload_n hx hb dX6_drop_24 rfl (lv_at hl 2 rfl) ?_
        refine lv_aload_n hx hb dX6_drop_25 rfl (lv_at hl 0 rfl) ?_
        refine g_get F hK hP inX6 0 rfl rfl 13 (by decide) gw_589 rfl (v := .ref (ad 6)) rfl dX6_drop_26 ?_
        refine lv_iload_n hx hb dX6_drop_29 rfl (lv_at hl 2 rfl) ?_
        refine lv_iconst (v := 1) hx hb dX6_drop_30 (by decide) ?_
        refine n_add F (a := i) (b := 1) dX6_drop_31 ?_
        refine a_ild F hK hP 6 (f := gR g1 4) rfl (j := i + 1) (by omega) (by decide) dX6_drop_32 ?_
        refine a_ist F hK hP hD hS 6 (f := gR g1 4) rfl (j := i) (by omega) (by decide) dX6_drop_33 (fun H locs hP hD hS => ?_)
        have hP : va_P D vwCl (mW ad kA (sR g1 4 (upd (gR g1 4) i (gR g1 4 (i + 1)))) z) H := hP
        have hD : va_D A (mW ad kA (sR g1 4 (upd (gR g1 4) i (gR g1 4 (i + 1)))) z) := hD
        refine lv_aload_n hx hb dX6_drop_34 rfl (lv_at hl 0 rfl) ?_
        refine g_get F hK hP inX6 0 rfl rfl 14 (by decide) gw_590 rfl (v := .ref (ad 7)) rfl dX6_drop_35 ?_
        refine lv_iload_n hx hb dX6_drop_38 rfl (lv_at hl 2 rfl) ?_
        refine lv_aload_n hx hb dX6_drop_39 rfl (lv_at hl 0 rfl) ?_
        refine g_get F hK hP inX6 0 rfl rfl 14 (by decide) gw_590 rfl (v := .ref (ad 7)) rfl dX6_drop_40 ?_
        refine lv_iload_n hx hb dX6_drop_43 rfl (lv_at hl 2 rfl) ?_
        refine lv_iconst (v := 1) hx hb dX6_drop_44 (by decide) ?_
        refine n_add F (a := i) (b := 1) dX6_drop_45 ?_
        refine a_ild F hK hP 7 (f := gR g1 5) rfl (j := i + 1) (by omega) (by decide) dX6_drop_46 ?_
        refine a_ist F hK hP hD hS 7 (f := gR g1 5) rfl (j := i) (by omega) (by decide) dX6_drop_47 (fun H locs hP hD hS => ?_)
        have hP : va_P D vwCl (mW ad kA (sR (sR g1 4 (upd (gR g1 4) i (gR g1 4 (i + 1)))) 5 (upd (gR g1 5) i (gR g1 5 (i + 1)))) z) H := hP
        have hD : va_D A (mW ad kA (sR (sR g1 4 (upd (gR g1 4) i (gR g1 4 (i + 1)))) 5 (upd (gR g1 5) i (gR g1 5 (i + 1)))) z) := hD
        refine lv_aload_n hx hb dX6_drop_48 rfl (lv_at hl 0 rfl) ?_
        refine g_get F hK hP inX6 0 rfl rfl 15 (by decide) gw_591 rfl (v := .ref (ad 8)) rfl dX6_drop_49 ?_
        refine lv_iload_n hx hb dX6_drop_52 rfl (lv_at hl 2 rfl) ?_
        refine lv_aload_n hx hb dX6_drop_53 rfl (lv_at hl 0 rfl) ?_
        refine g_get F hK hP inX6 0 rfl rfl 15 (by decide) gw_591 rfl (v := .ref (ad 8)) rfl dX6_drop_54 ?_
        refine lv_iload_n hx hb dX6_drop_57 rfl (lv_at hl 2 rfl) ?_
        refine lv_iconst (v := 1) hx hb dX6_drop_58 (by decide) ?_
        refine n_add F (a := i) (b := 1) dX6_drop_59 ?_
        refine a_ild F hK hP 8 (f := gR g1 6) rfl (j := i + 1) (by omega) (by decide) dX6_drop_60 ?_
        refine a_ist F hK hP hD hS 8 (f := gR g1 6) rfl (j := i) (by omega) (by decide) dX6_drop_61 (fun H locs hP hD hS => ?_)
        have hP : va_P D vwCl (mW ad kA (sR (sR (sR g1 4 (upd (gR g1 4) i (gR g1 4 (i + 1)))) 5 (upd (gR g1 5) i (gR g1 5 (i + 1)))) 6 (upd (gR g1 6) i (gR g1 6 (i + 1)))) z) H := hP
        have hD : va_D A (mW ad kA (sR (sR (sR g1 4 (upd (gR g1 4) i (gR g1 4 (i + 1)))) 5 (upd (gR g1 5) i (gR g1 5 (i + 1)))) 6 (upd (gR g1 6) i (gR g1 6 (i + 1)))) z) := hD
        refine lv_iinc (v := nI (i + 1)) (lv' := [(2, .int (nI (i + 1))), (0, .ref (ad 0)), (1, .int (nI k))]) hx hb dX6_drop_62 hl (k := 2) rfl (nI_add i 1) (by decide) rfl (fun ls hl => ?_)
        refine lv_goto (tgt := 12) hx hb dX6_drop_65 (by decide) ?_
        exact ih_12  (i + 1) (sR (sR (sR g1 4 (upd (gR g1 4) i (gR g1 4 (i + 1)))) 5 (upd (gR g1 5) i (gR g1 5 (i + 1)))) 6 (upd (gR g1 6) i (gR g1 6 (i + 1)))) (by omega) (by omega) (by rw [hg]; exact drG_s _ hi1) (by omega) _ _ _ hP hD hS (lv_sub hl [1, 2, 0] rfl)
  exact lp_12 _ k (sN g 1 ((gN g 1) - 1)) (Nat.le_refl _) (by omega) (drG_0 _ _).symm (Nat.lt_succ_self _) _ _ _ hP hD hS (lv_sub hl [1, 2, 0] rfl)

set_option maxRecDepth 100000 in
set_option maxHeartbeats 4000000 in
theorem kX6_dropAllOf (l : Launch) (D : va_G) (kA : Nat → ClassId) (sz : Nat) (ad : Nat → Nat) (g : Sg) (z : Zm) (c : Nat) (hM : Mn g) : CtV l yX6_dropAllOf cX6_dropAllOf 3 1 0 0 D kA sz (mW ad kA g z) [.ref (ad 0), .int (nI c)] (fun u => u = mW ad kA (dAll c (gN g 1) g) z) := by
  refine ct_v (own := RX6) (by decide) rfl (Nat.le_of_ble_eq_true rfl) ?_
  intro p_ e_ s_ m_ ar_ bw_ me_ co_ A ls Q F hnm hK hA hP hD hS hl hsz rt
  have hx := F.1
  have hb := F.2.1
  have hl : lv_has ls 3 [(0, .ref (ad 0)), (1, .int (nI c))] := hl
  have hP : va_P D vwCl (mW ad kA g z) s_.heap := hP
  refine lv_aload_n hx hb dX6_dropAllOf_0 rfl (lv_at hl 0 rfl) ?_
  refine g_get F hK hP inX6 0 rfl rfl 12 (by decide) gw_588 rfl (v := .int (nI (gN g 1))) rfl dX6_dropAllOf_1 ?_
  refine lv_iconst (v := 1) hx hb dX6_dropAllOf_4 (by decide) ?_
  refine lv_isub hx hb dX6_dropAllOf_5 ?_
  refine lv_istore_n (lv' := [(2, .int ((nI (gN g 1)) - 1)), (0, .ref (ad 0)), (1, .int (nI c))]) hx hb dX6_dropAllOf_6 rfl hl (by decide) rfl (fun ls hl => ?_)
  have lp_7 : ∀ (n_7 : Nat) (q : Nat) (g1 : Sg), (q ≤ gN g1 1) → (Mn g1) → (dAll c q g1 = dAll c (gN g 1) g) → q < n_7 → ∀ (H : Heap) (locs : List Loc) (ls : Array Slot), va_P D vwCl (mW ad kA g1 z) H → va_D A (mW ad kA g1 z) → va_S A s_.heap H locs → lv_has ls 3 [(0, .ref (ad 0)), (1, .int (nI c)), (2, .int (nI q - 1))] → W p_ l e_ (rmC 1 0 0) s_ m_ ar_ bw_ me_ co_ H locs 0 0 Q (F0 m_ 7 ls []) := by
    intro n_7
    induction n_7 with
    | zero =>
      intro q g1 hq hM1 hg hm_7
      exact absurd hm_7 (Nat.not_lt_zero _)
    | succ n_7 ih_7 =>
      intro q g1 hq hM1 hg hm_7 H locs ls hP hD hS hl
      obtain ⟨⟨hm1, hm2⟩, hm3⟩ := id hM1
      refine lv_iload_n hx hb dX6_dropAllOf_7 rfl (lv_at hl 2 rfl) ?_
      refine lv_if_lt (tgt := 37) hx hb dX6_dropAllOf_8 (by decide) (fun c_8 => ?_) (fun c_8 => ?_)
      · obtain rfl : q = 0 := (m1_lt (by omega)).mp c_8
        exact rt (mW ad kA g1 z) _ _ _ _ hP hD hS dX6_dropAllOf_37 ((by rw [← hg]; rfl))
      · obtain ⟨q, rfl⟩ : ∃ q2, q = q2 + 1 := ⟨q - 1, by have h9 : ¬ q = 0 := fun h => c_8 ((m1_lt (by omega)).mpr h); omega⟩
        rw [nI_pred] at hl
        refine lv_aload_n hx hb dX6_dropAllOf_11 rfl (lv_at hl 0 rfl) ?_
        refine g_get F hK hP inX6 0 rfl rfl 13 (by decide) gw_589 rfl (v := .ref (ad 6)) rfl dX6_dropAllOf_12 ?_
        refine lv_iload_n hx hb dX6_dropAllOf_15 rfl (lv_at hl 2 rfl) ?_
        refine a_ild F hK hP 6 (f := gR g1 4) rfl (j := q) (by omega) (by decide) dX6_dropAllOf_16 ?_
        refine lv_aload_n hx hb dX6_dropAllOf_17 rfl (lv_at hl 0 rfl) ?_
        refine g_get F hK hP inX6 0 rfl rfl 0 (by decide) gw_576 rfl (v := .int (nI (gN g1 0))) rfl dX6_dropAllOf_18 ?_
        refine lv_irem hx hb dX6_dropAllOf_21 (nI_ne0 (by omega) (by omega)) ?_
        refine lv_iload_n hx hb dX6_dropAllOf_22 rfl (lv_at hl 1 rfl) ?_
        refine lv_icmp_ne (tgt := 31) hx hb dX6_dropAllOf_23 (by decide) (fun c_23 => ?_) (fun c_23 => ?_)
        · refine lv_iinc (v := nI q - 1) (lv' := [(2, .int (nI q - 1)), (0, .ref (ad 0)), (1, .int (nI c))]) hx hb dX6_dropAllOf_31 hl (k := 2) rfl (by rw [Int32.sub_eq_add_neg]; rfl) (by decide) rfl (fun ls hl => ?_)
          refine lv_goto (tgt := 7) hx hb dX6_dropAllOf_34 (by decide) ?_
          exact ih_7  q g1 (by omega) hM1 (by rw [← hg, dAll, if_neg c_23]) (by omega) _ _ _ hP hD hS (lv_sub hl [1, 2, 0] rfl)
        · refine lv_aload_n hx hb dX6_dropAllOf_26 rfl (lv_at hl 0 rfl) ?_
          refine lv_iload_n hx hb dX6_dropAllOf_27 rfl (lv_at hl 2 rfl) ?_
          refine cl_V_v (wc := (mW ad kA g1 z)) (As := [.int (nI q)]) (rest := []) (b := (ad 0)) (C := RX6) F hK hP hD hS hA (kX6_drop l D kA _ ad g1 z q (by omega) hm3) gw_708 gw_71 gw_705 gw_707 gw_49 (va_recv hK.1 hP (ci := 6) (q0 := 0) rfl rfl) hdX6_drop ⟨Nat.le_of_ble_eq_true rfl, Nat.le_of_ble_eq_true rfl⟩ hl.1 rfl (Nat.le_of_ble_eq_true rfl) dX6_dropAllOf_28 ⟨Nat.le_of_ble_eq_true rfl, Nat.le_of_ble_eq_true rfl⟩ (fun u_28 H locs hw hP1 hD1 hk1 hFc hS => ?_)
          obtain rfl := hw
          have hP : va_P D vwCl (mW ad kA (sp_drop q g1) z) H := hP1
          have hD : va_D A (mW ad kA (sp_drop q g1) z) := hD1.weaken (fun _ _ _ h => hFc _ h)
          refine lv_iinc (v := nI q - 1) (lv' := [(2, .int (nI q - 1)), (0, .ref (ad 0)), (1, .int (nI c))]) hx hb dX6_dropAllOf_31 hl (k := 2) rfl (by rw [Int32.sub_eq_add_neg]; rfl) (by decide) rfl (fun ls hl => ?_)
          refine lv_goto (tgt := 7) hx hb dX6_dropAllOf_34 (by decide) ?_
          exact ih_7  q (sp_drop q g1) (by rw [gN_drop]; omega) ((kp_drop (by omega)).mn hM1) (by rw [← hg, dAll, if_pos c_23]) (by omega) _ _ _ hP hD hS (lv_sub hl [1, 2, 0] rfl)
  exact lp_7 _ (gN g 1) g (Nat.le_refl _) hM rfl (Nat.lt_succ_self _) _ _ _ hP hD hS (lv_sub hl [1, 2, 0] rfl)

set_option maxRecDepth 100000 in
set_option maxHeartbeats 4000000 in
theorem kX6_decide (l : Launch) (D : va_G) (kA : Nat → ClassId) (sz : Nat) (ad : Nat → Nat) (g : Sg) (z : Zm) (c : Nat) (v : Int32) (hL : RgM (gV g) (zL z)) : CtI l yX6_decide cX6_decide 4 .int 0 D kA sz (mW ad kA g z) [.ref (ad 0), .int (nI c), .int v] (fun r u => r = v ∧ mQ ad kA (sV g ((nI (10 * c) + v) :: gV g)) z u) := by
  refine ct_i (own := RX6) (by decide) rfl (Nat.le_of_ble_eq_true rfl) ?_
  intro p_ e_ s_ m_ ar_ bw_ me_ co_ A ls Q F hnm hK hA hP hD hS hl hsz rt
  have hx := F.1
  have hb := F.2.1
  have hl : lv_has ls 4 [(0, .ref (ad 0)), (1, .int (nI c)), (2, .int v)] := hl
  have hP : va_P D vwCl (mW ad kA g z) s_.heap := hP
  refine lv_bipush (v := 15) hx hb dX6_decide_0 (by decide) ?_
  refine lv_istore_n (lv' := [(3, .int 15), (0, .ref (ad 0)), (1, .int (nI c)), (2, .int v)]) hx hb dX6_decide_2 rfl hl (by decide) rfl (fun ls hl => ?_)
  have lp_3 : ∀ (n_3 : Nat) (k : Nat) (z1 : Zm), (k ≤ 15) → (z1 = tL z (shd (zL z) k)) → k < n_3 → ∀ (H : Heap) (locs : List Loc) (ls : Array Slot), va_P D vwCl (mW ad kA g z1) H → va_D A (mW ad kA g z1) → va_S A s_.heap H locs → lv_has ls 4 [(0, .ref (ad 0)), (1, .int (nI c)), (2, .int v), (3, .int (nI k))] → W p_ l e_ (rmC 0 0 0) s_ m_ ar_ bw_ me_ co_ H locs 0 0 Q (F0 m_ 3 ls []) := by
    intro n_3
    induction n_3 with
    | zero =>
      intro k z1 hk hz hm_3
      exact absurd hm_3 (Nat.not_lt_zero _)
    | succ n_3 ih_3 =>
      intro k z1 hk hz hm_3 H locs ls hP hD hS hl
      refine lv_iload_n hx hb dX6_decide_3 rfl (lv_at hl 3 rfl) ?_
      refine b_le0 F (a := k) (tgt := 27) dX6_decide_4 (by decide) (by omega) (fun c_4 => ?_) (fun c_4 => ?_)
      · refine lv_aload_n hx hb dX6_decide_27 rfl (lv_at hl 0 rfl) ?_
        refine g_get F hK hP inX6 0 rfl rfl 17 (by decide) gw_593 rfl (v := .ref (ad 9)) rfl dX6_decide_28 ?_
        refine lv_iconst (v := 0) hx hb dX6_decide_31 (by decide) ?_
        refine lv_bipush (v := 10) hx hb dX6_decide_32 (by decide) ?_
        refine lv_iload_n hx hb dX6_decide_34 rfl (lv_at hl 1 rfl) ?_
        refine n_mul F (a := 10) (b := c) dX6_decide_35 ?_
        refine lv_iload_n hx hb dX6_decide_36 rfl (lv_at hl 2 rfl) ?_
        refine lv_iadd hx hb dX6_decide_37 ?_
        refine a_ist F hK hP hD hS 9 (f := zL z1) rfl (j := 0) (by omega) (by decide) dX6_decide_38 (fun H locs hP hD hS => ?_)
        have hP : va_P D vwCl (mW ad kA g (tL z1 (upd (zL z1) 0 ((nI (10 * c)) + v)))) H := hP
        have hD : va_D A (mW ad kA g (tL z1 (upd (zL z1) 0 ((nI (10 * c)) + v)))) := hD
        refine lv_aload_n hx hb dX6_decide_39 rfl (lv_at hl 0 rfl) ?_
        refine lv_dup hx hb dX6_decide_40 rfl ?_
        refine g_get F hK hP inX6 0 rfl rfl 16 (by decide) gw_592 rfl (v := .int (nI ((gV g).length))) rfl dX6_decide_41 ?_
        refine lv_iconst (v := 1) hx hb dX6_decide_44 (by decide) ?_
        refine n_add F (a := (gV g).length) (b := 1) dX6_decide_45 ?_
        refine g_put F hK hP hD hS inX6 tyX6_ok nmX6 0 rfl rfl 16 (by decide) gw_592 rfl rfl rfl rfl (Nat.le_of_ble_eq_true rfl) dX6_decide_46 (fun H locs hP hD hS => ?_)
        have hP : va_P D vwCl (mW ad kA (sV g ((nI (10 * c) + v) :: gV g)) (tL z1 (upd (zL z1) 0 ((nI (10 * c)) + v)))) H := hP
        have hD : va_D A (mW ad kA (sV g ((nI (10 * c) + v) :: gV g)) (tL z1 (upd (zL z1) 0 ((nI (10 * c)) + v)))) := hD
        refine lv_iload_n hx hb dX6_decide_49 rfl (lv_at hl 2 rfl) ?_
        exact rt _ (mW ad kA (sV g ((nI (10 * c) + v) :: gV g)) (tL z1 (upd (zL z1) 0 ((nI (10 * c)) + v)))) _ _ _ _ hP hD hS dX6_decide_50 (⟨rfl, _, RgM_s hL _, by rw [hz, show k = 0 from c_4]; rfl⟩)
      · refine lv_aload_n hx hb dX6_decide_7 rfl (lv_at hl 0 rfl) ?_
        refine g_get F hK hP inX6 0 rfl rfl 17 (by decide) gw_593 rfl (v := .ref (ad 9)) rfl dX6_decide_8 ?_
        refine lv_iload_n hx hb dX6_decide_11 rfl (lv_at hl 3 rfl) ?_
        refine lv_aload_n hx hb dX6_decide_12 rfl (lv_at hl 0 rfl) ?_
        refine g_get F hK hP inX6 0 rfl rfl 17 (by decide) gw_593 rfl (v := .ref (ad 9)) rfl dX6_decide_13 ?_
        refine lv_iload_n hx hb dX6_decide_16 rfl (lv_at hl 3 rfl) ?_
        refine lv_iconst (v := 1) hx hb dX6_decide_17 (by decide) ?_
        refine n_sub F (a := k) (b := 1) dX6_decide_18 (by omega) ?_
        refine a_ild F hK hP 9 (f := zL z1) rfl (j := k - 1) (by omega) (by decide) dX6_decide_19 ?_
        refine a_ist F hK hP hD hS 9 (f := zL z1) rfl (j := k) (by omega) (by decide) dX6_decide_20 (fun H locs hP hD hS => ?_)
        have hP : va_P D vwCl (mW ad kA g (tL z1 (upd (zL z1) k (zL z1 (k - 1))))) H := hP
        have hD : va_D A (mW ad kA g (tL z1 (upd (zL z1) k (zL z1 (k - 1))))) := hD
        refine lv_iinc (v := nI (k - 1)) (lv' := [(3, .int (nI (k - 1))), (0, .ref (ad 0)), (1, .int (nI c)), (2, .int v)]) hx hb dX6_decide_21 hl (k := 3) rfl (sb_m1 (by omega)) (by decide) rfl (fun ls hl => ?_)
        refine lv_goto (tgt := 3) hx hb dX6_decide_24 (by decide) ?_
        exact ih_3  (k - 1) (tL z1 (upd (zL z1) k (zL z1 (k - 1)))) (by omega) (by rw [hz]; exact congrArg (tL z) (shd_s _ (by omega) hk)) (by omega) _ _ _ hP hD hS (lv_sub hl [1, 2, 3, 0] rfl)
  exact lp_3 _ 15 z (Nat.le_refl _) (by rw [shd_0]; rfl) (Nat.lt_succ_self _) _ _ _ hP hD hS (lv_sub hl [1, 2, 3, 0] rfl)

set_option maxRecDepth 100000 in
set_option maxHeartbeats 4000000 in
theorem kX6_count (l : Launch) (D : va_G) (kA : Nat → ClassId) (sz : Nat) (ad : Nat → Nat) (g : Sg) (z : Zm) (c : Nat) (b : Int32) (hc : c < 8) (hM : Mn g) (hL : RgM (gV g) (zL z)) : CtI l yX6_count cX6_count 3 .int 2 D kA sz (mW ad kA g z) [.ref (ad 0), .int (nI c), .int b] (fun r u => r = (sp_settle c b g).1 ∧ mQ ad kA (sp_settle c b g).2 z u) := by
  refine ct_i (own := RX6) (by decide) rfl (Nat.le_of_ble_eq_true rfl) ?_
  intro p_ e_ s_ m_ ar_ bw_ me_ co_ A ls Q F hnm hK hA hP hD hS hl hsz rt
  have hx := F.1
  have hb := F.2.1
  have hl : lv_has ls 3 [(0, .ref (ad 0)), (1, .int (nI c)), (2, .int b)] := hl
  have hP : va_P D vwCl (mW ad kA g z) s_.heap := hP
  refine lv_aload_n hx hb dX6_count_0 rfl (lv_at hl 0 rfl) ?_
  refine g_get F hK hP inX6 0 rfl rfl 7 (by decide) gw_583 rfl (v := .ref (ad 1)) rfl dX6_count_1 ?_
  refine lv_iload_n hx hb dX6_count_4 rfl (lv_at hl 1 rfl) ?_
  refine lv_dup2_11 hx hb dX6_count_5 rfl rfl ?_
  refine a_ild F hK hP 1 (f := gR g 0) rfl (j := c) (by omega) (by decide) dX6_count_6 ?_
  refine lv_iload_n hx hb dX6_count_7 rfl (lv_at hl 2 rfl) ?_
  refine lv_if_eq (tgt := 19) hx hb dX6_count_8 (by decide) (fun c_8 => ?_) (fun c_8 => ?_)
  · have hs1 : sc1 c b g = gR g 0 c + gI g 0 := if_pos c_8
    refine lv_aload_n hx hb dX6_count_19 rfl (lv_at hl 0 rfl) ?_
    refine g_get F hK hP inX6 0 rfl rfl 1 (by decide) gw_577 rfl (v := .int (gI g 0)) rfl dX6_count_20 ?_
    refine lv_iadd hx hb dX6_count_23 ?_
    rw [← hs1]
    refine a_ist F hK hP hD hS 1 (f := gR g 0) rfl (j := c) (by omega) (by decide) dX6_count_24 (fun H locs hP hD hS => ?_)
    have hP : va_P D vwCl (mW ad kA (sR g 0 (upd (gR g 0) c (sc1 c b g))) z) H := hP
    have hD : va_D A (mW ad kA (sR g 0 (upd (gR g 0) c (sc1 c b g))) z) := hD
    refine lv_aload_n hx hb dX6_count_25 rfl (lv_at hl 0 rfl) ?_
    refine g_get F hK hP inX6 0 rfl rfl 7 (by decide) gw_583 rfl (v := .ref (ad 1)) rfl dX6_count_26 ?_
    refine lv_iload_n hx hb dX6_count_29 rfl (lv_at hl 1 rfl) ?_
    refine a_ild F hK hP 1 (f := upd (gR g 0) c (sc1 c b g)) rfl (j := c) (by omega) (by decide) dX6_count_30 ?_
    rw [show ((upd (gR g 0) c (sc1 c b g)) c) = (sc1 c b g) from pk_us]
    refine lv_aload_n hx hb dX6_count_31 rfl (lv_at hl 0 rfl) ?_
    refine g_get F hK hP inX6 0 rfl rfl 3 (by decide) gw_579 rfl (v := .int (gI g 2)) rfl dX6_count_32 ?_
    refine lv_icmp_lt (tgt := 57) hx hb dX6_count_35 (by decide) (fun c_35 => ?_) (fun c_35 => ?_)
    · refine lv_aload_n hx hb dX6_count_57 rfl (lv_at hl 0 rfl) ?_
      refine g_get F hK hP inX6 0 rfl rfl 7 (by decide) gw_583 rfl (v := .ref (ad 1)) rfl dX6_count_58 ?_
      refine lv_iload_n hx hb dX6_count_61 rfl (lv_at hl 1 rfl) ?_
      refine a_ild F hK hP 1 (f := upd (gR g 0) c (sc1 c b g)) rfl (j := c) (by omega) (by decide) dX6_count_62 ?_
      rw [show ((upd (gR g 0) c (sc1 c b g)) c) = (sc1 c b g) from pk_us]
      refine lv_aload_n hx hb dX6_count_63 rfl (lv_at hl 0 rfl) ?_
      refine g_get F hK hP inX6 0 rfl rfl 4 (by decide) gw_580 rfl (v := .int (gI g 3)) rfl dX6_count_64 ?_
      refine lv_icmp_gt (tgt := 91) hx hb dX6_count_67 (by decide) (fun c_67 => ?_) (fun c_67 => ?_)
      · refine lv_iconst (v := 0) hx hb dX6_count_91 (by decide) ?_
        have hq : sp_settle c b g = (0, st1 c b g) := by rw [sp_settle, if_pos c_35, if_pos c_67]
        exact rt _ (mW ad kA (sR g 0 (upd (gR g 0) c (sc1 c b g))) z) _ _ _ _ hP hD hS dX6_count_92 (by show _ ∧ _; rw [hq]; exact ⟨rfl, zL z, hL, rfl⟩)
      · refine lv_aload_n hx hb dX6_count_70 rfl (lv_at hl 0 rfl) ?_
        refine g_get F hK hP inX6 0 rfl rfl 7 (by decide) gw_583 rfl (v := .ref (ad 1)) rfl dX6_count_71 ?_
        refine lv_iload_n hx hb dX6_count_74 rfl (lv_at hl 1 rfl) ?_
        refine lv_iconst (v := 0) hx hb dX6_count_75 (by decide) ?_
        refine a_ist F hK hP hD hS 1 (f := upd (gR g 0) c (sc1 c b g)) rfl (j := c) (by omega) (by decide) dX6_count_76 (fun H locs hP hD hS => ?_)
        have hP : va_P D vwCl (mW ad kA (sR (sR g 0 (upd (gR g 0) c (sc1 c b g))) 0 (upd (upd (gR g 0) c (sc1 c b g)) c 0)) z) H := hP
        have hD : va_D A (mW ad kA (sR (sR g 0 (upd (gR g 0) c (sc1 c b g))) 0 (upd (upd (gR g 0) c (sc1 c b g)) c 0)) z) := hD
        refine lv_aload_n hx hb dX6_count_77 rfl (lv_at hl 0 rfl) ?_
        refine g_get F hK hP inX6 0 rfl rfl 9 (by decide) gw_585 rfl (v := .ref (ad 3)) rfl dX6_count_78 ?_
        refine lv_iload_n hx hb dX6_count_81 rfl (lv_at hl 1 rfl) ?_
        refine lv_lconst (v := 0) hx hb dX6_count_82 (by decide) ?_
        refine a_lst F hK hP hD hS 3 (f := gE g) rfl (j := c) (by omega) (by decide) dX6_count_83 (fun H locs hP hD hS => ?_)
        have hP : va_P D vwCl (mW ad kA (sE (sR (sR g 0 (upd (gR g 0) c (sc1 c b g))) 0 (upd (upd (gR g 0) c (sc1 c b g)) c 0)) (vp_updL (gE g) c 0)) z) H := hP
        have hD : va_D A (mW ad kA (sE (sR (sR g 0 (upd (gR g 0) c (sc1 c b g))) 0 (upd (upd (gR g 0) c (sc1 c b g)) c 0)) (vp_updL (gE g) c 0)) z) := hD
        refine lv_aload_n hx hb dX6_count_84 rfl (lv_at hl 0 rfl) ?_
        refine lv_iload_n hx hb dX6_count_85 rfl (lv_at hl 1 rfl) ?_
        refine lv_iconst (v := 2) hx hb dX6_count_86 (by decide) ?_
        refine cl_V_i (wc := (mW ad kA (sE (sR (sR g 0 (upd (gR g 0) c (sc1 c b g))) 0 (upd (upd (gR g 0) c (sc1 c b g)) c 0)) (vp_updL (gE g) c 0)) z)) (As := [.int (nI c), .int 2]) (rest := []) (b := (ad 0)) (C := RX6) F hK hP hD hS hA (kX6_decide l D kA _ ad (sE (sR (sR g 0 (upd (gR g 0) c (sc1 c b g))) 0 (upd (upd (gR g 0) c (sc1 c b g)) c 0)) (vp_updL (gE g) c 0)) z c 2 hL) gw_712 gw_71 gw_709 gw_711 gw_50 (va_recv hK.1 hP (ci := 6) (q0 := 0) rfl rfl) hdX6_decide ⟨Nat.le_of_ble_eq_true rfl, Nat.le_of_ble_eq_true rfl⟩ hl.1 rfl (Nat.le_of_ble_eq_true rfl) dX6_count_87 ⟨Nat.le_of_ble_eq_true rfl, Nat.le_of_ble_eq_true rfl⟩ (fun r_87 u_87 H locs hw hP1 hD1 hk1 hFc hS => ?_)
        obtain ⟨rfl, L_87, hL_87, rfl⟩ := hw
        have hP : va_P D vwCl (mW ad kA (sV (sE (sR (sR g 0 (upd (gR g 0) c (sc1 c b g))) 0 (upd (upd (gR g 0) c (sc1 c b g)) c 0)) (vp_updL (gE g) c 0)) ((nI (10 * c) + 2) :: gV (sE (sR (sR g 0 (upd (gR g 0) c (sc1 c b g))) 0 (upd (upd (gR g 0) c (sc1 c b g)) c 0)) (vp_updL (gE g) c 0)))) (tL z L_87)) H := hP1
        have hD : va_D A (mW ad kA (sV (sE (sR (sR g 0 (upd (gR g 0) c (sc1 c b g))) 0 (upd (upd (gR g 0) c (sc1 c b g)) c 0)) (vp_updL (gE g) c 0)) ((nI (10 * c) + 2) :: gV (sE (sR (sR g 0 (upd (gR g 0) c (sc1 c b g))) 0 (upd (upd (gR g 0) c (sc1 c b g)) c 0)) (vp_updL (gE g) c 0)))) (tL z L_87)) := hD1.weaken (fun _ _ _ h => hFc _ h)
        have hq : sp_settle c b g = (2, st2 c (st1 c b g)) := by rw [sp_settle, if_pos c_35, if_neg c_67]
        exact rt _ (mW ad kA (sV (sE (sR (sR g 0 (upd (gR g 0) c (sc1 c b g))) 0 (upd (upd (gR g 0) c (sc1 c b g)) c 0)) (vp_updL (gE g) c 0)) ((nI (10 * c) + 2) :: gV (sE (sR (sR g 0 (upd (gR g 0) c (sc1 c b g))) 0 (upd (upd (gR g 0) c (sc1 c b g)) c 0)) (vp_updL (gE g) c 0)))) (tL z L_87)) _ _ _ _ hP hD hS dX6_count_90 (by show _ ∧ _; rw [hq]; exact ⟨rfl, L_87, hL_87, rfl⟩)
    · refine lv_aload_n hx hb dX6_count_38 rfl (lv_at hl 0 rfl) ?_
      refine g_get F hK hP inX6 0 rfl rfl 8 (by decide) gw_584 rfl (v := .ref (ad 2)) rfl dX6_count_39 ?_
      refine lv_iload_n hx hb dX6_count_42 rfl (lv_at hl 1 rfl) ?_
      refine lv_iconst (v := 1) hx hb dX6_count_43 (by decide) ?_
      refine a_zst F hK hP hD hS 2 (f := gR g 1) rfl (j := c) (by omega) (by decide) dX6_count_44 (fun H locs hP hD hS => ?_)
      have hP : va_P D vwCl (mW ad kA (sR (sR g 0 (upd (gR g 0) c (sc1 c b g))) 1 (upd (gR g 1) c 1)) z) H := hP
      have hD : va_D A (mW ad kA (sR (sR g 0 (upd (gR g 0) c (sc1 c b g))) 1 (upd (gR g 1) c 1)) z) := hD
      refine lv_aload_n hx hb dX6_count_45 rfl (lv_at hl 0 rfl) ?_
      refine lv_iload_n hx hb dX6_count_46 rfl (lv_at hl 1 rfl) ?_
      refine cl_V_v (wc := (mW ad kA (sR (sR g 0 (upd (gR g 0) c (sc1 c b g))) 1 (upd (gR g 1) c 1)) z)) (As := [.int (nI c)]) (rest := []) (b := (ad 0)) (C := RX6) F hK hP hD hS hA (kX6_dropAllOf l D kA _ ad (sR (sR g 0 (upd (gR g 0) c (sc1 c b g))) 1 (upd (gR g 1) c 1)) z c hM) gw_704 gw_71 gw_701 gw_703 gw_48 (va_recv hK.1 hP (ci := 6) (q0 := 0) rfl rfl) hdX6_dropAllOf ⟨Nat.le_of_ble_eq_true rfl, Nat.le_of_ble_eq_true rfl⟩ hl.1 rfl (Nat.le_of_ble_eq_true rfl) dX6_count_47 ⟨Nat.le_of_ble_eq_true rfl, Nat.le_of_ble_eq_true rfl⟩ (fun u_47 H locs hw hP1 hD1 hk1 hFc hS => ?_)
      obtain rfl := hw
      have hP : va_P D vwCl (mW ad kA (dAll c (gN g 1) (sR (sR g 0 (upd (gR g 0) c (sc1 c b g))) 1 (upd (gR g 1) c 1))) z) H := hP1
      have hD : va_D A (mW ad kA (dAll c (gN g 1) (sR (sR g 0 (upd (gR g 0) c (sc1 c b g))) 1 (upd (gR g 1) c 1))) z) := hD1.weaken (fun _ _ _ h => hFc _ h)
      refine lv_aload_n hx hb dX6_count_50 rfl (lv_at hl 0 rfl) ?_
      refine lv_iload_n hx hb dX6_count_51 rfl (lv_at hl 1 rfl) ?_
      refine lv_iconst (v := 1) hx hb dX6_count_52 (by decide) ?_
      refine cl_V_i (wc := (mW ad kA (dAll c (gN g 1) (sR (sR g 0 (upd (gR g 0) c (sc1 c b g))) 1 (upd (gR g 1) c 1))) z)) (As := [.int (nI c), .int 1]) (rest := []) (b := (ad 0)) (C := RX6) F hK hP hD hS hA (kX6_decide l D kA _ ad (dAll c (gN g 1) (sR (sR g 0 (upd (gR g 0) c (sc1 c b g))) 1 (upd (gR g 1) c 1))) z c 1 (rg_dAll (Nat.le_refl (gN g 1)) hL)) gw_712 gw_71 gw_709 gw_711 gw_50 (va_recv hK.1 hP (ci := 6) (q0 := 0) rfl rfl) hdX6_decide ⟨Nat.le_of_ble_eq_true rfl, Nat.le_of_ble_eq_true rfl⟩ hl.1 rfl (Nat.le_of_ble_eq_true rfl) dX6_count_53 ⟨Nat.le_of_ble_eq_true rfl, Nat.le_of_ble_eq_true rfl⟩ (fun r_53 u_53 H locs hw hP1 hD1 hk1 hFc hS => ?_)
      obtain ⟨rfl, L_53, hL_53, rfl⟩ := hw
      have hP : va_P D vwCl (mW ad kA (sV (dAll c (gN g 1) (sR (sR g 0 (upd (gR g 0) c (sc1 c b g))) 1 (upd (gR g 1) c 1))) ((nI (10 * c) + 1) :: gV (dAll c (gN g 1) (sR (sR g 0 (upd (gR g 0) c (sc1 c b g))) 1 (upd (gR g 1) c 1))))) (tL z L_53)) H := hP1
      have hD : va_D A (mW ad kA (sV (dAll c (gN g 1) (sR (sR g 0 (upd (gR g 0) c (sc1 c b g))) 1 (upd (gR g 1) c 1))) ((nI (10 * c) + 1) :: gV (dAll c (gN g 1) (sR (sR g 0 (upd (gR g 0) c (sc1 c b g))) 1 (upd (gR g 1) c 1))))) (tL z L_53)) := hD1.weaken (fun _ _ _ h => hFc _ h)
      have hq : sp_settle c b g = (1, st3 c (st1 c b g)) := by rw [sp_settle, if_neg c_35]
      exact rt _ (mW ad kA (sV (dAll c (gN g 1) (sR (sR g 0 (upd (gR g 0) c (sc1 c b g))) 1 (upd (gR g 1) c 1))) ((nI (10 * c) + 1) :: gV (dAll c (gN g 1) (sR (sR g 0 (upd (gR g 0) c (sc1 c b g))) 1 (upd (gR g 1) c 1))))) (tL z L_53)) _ _ _ _ hP hD hS dX6_count_56 (by show _ ∧ _; rw [hq]; exact ⟨rfl, L_53, hL_53, rfl⟩)
  · have hs1 : sc1 c b g = gR g 0 c + -gI g 1 := if_neg c_8
    refine lv_aload_n hx hb dX6_count_11 rfl (lv_at hl 0 rfl) ?_
    refine g_get F hK hP inX6 0 rfl rfl 2 (by decide) gw_578 rfl (v := .int (gI g 1)) rfl dX6_count_12 ?_
    refine lv_ineg hx hb dX6_count_15 ?_
    refine lv_goto (tgt := 23) hx hb dX6_count_16 (by decide) ?_
    refine lv_iadd hx hb dX6_count_23 ?_
    rw [← hs1]
    refine a_ist F hK hP hD hS 1 (f := gR g 0) rfl (j := c) (by omega) (by decide) dX6_count_24 (fun H locs hP hD hS => ?_)
    have hP : va_P D vwCl (mW ad kA (sR g 0 (upd (gR g 0) c (sc1 c b g))) z) H := hP
    have hD : va_D A (mW ad kA (sR g 0 (upd (gR g 0) c (sc1 c b g))) z) := hD
    refine lv_aload_n hx hb dX6_count_25 rfl (lv_at hl 0 rfl) ?_
    refine g_get F hK hP inX6 0 rfl rfl 7 (by decide) gw_583 rfl (v := .ref (ad 1)) rfl dX6_count_26 ?_
    refine lv_iload_n hx hb dX6_count_29 rfl (lv_at hl 1 rfl) ?_
    refine a_ild F hK hP 1 (f := upd (gR g 0) c (sc1 c b g)) rfl (j := c) (by omega) (by decide) dX6_count_30 ?_
    rw [show ((upd (gR g 0) c (sc1 c b g)) c) = (sc1 c b g) from pk_us]
    refine lv_aload_n hx hb dX6_count_31 rfl (lv_at hl 0 rfl) ?_
    refine g_get F hK hP inX6 0 rfl rfl 3 (by decide) gw_579 rfl (v := .int (gI g 2)) rfl dX6_count_32 ?_
    refine lv_icmp_lt (tgt := 57) hx hb dX6_count_35 (by decide) (fun c_35 => ?_) (fun c_35 => ?_)
    · refine lv_aload_n hx hb dX6_count_57 rfl (lv_at hl 0 rfl) ?_
      refine g_get F hK hP inX6 0 rfl rfl 7 (by decide) gw_583 rfl (v := .ref (ad 1)) rfl dX6_count_58 ?_
      refine lv_iload_n hx hb dX6_count_61 rfl (lv_at hl 1 rfl) ?_
      refine a_ild F hK hP 1 (f := upd (gR g 0) c (sc1 c b g)) rfl (j := c) (by omega) (by decide) dX6_count_62 ?_
      rw [show ((upd (gR g 0) c (sc1 c b g)) c) = (sc1 c b g) from pk_us]
      refine lv_aload_n hx hb dX6_count_63 rfl (lv_at hl 0 rfl) ?_
      refine g_get F hK hP inX6 0 rfl rfl 4 (by decide) gw_580 rfl (v := .int (gI g 3)) rfl dX6_count_64 ?_
      refine lv_icmp_gt (tgt := 91) hx hb dX6_count_67 (by decide) (fun c_67 => ?_) (fun c_67 => ?_)
      · refine lv_iconst (v := 0) hx hb dX6_count_91 (by decide) ?_
        have hq : sp_settle c b g = (0, st1 c b g) := by rw [sp_settle, if_pos c_35, if_pos c_67]
        exact rt _ (mW ad kA (sR g 0 (upd (gR g 0) c (sc1 c b g))) z) _ _ _ _ hP hD hS dX6_count_92 (by show _ ∧ _; rw [hq]; exact ⟨rfl, zL z, hL, rfl⟩)
      · refine lv_aload_n hx hb dX6_count_70 rfl (lv_at hl 0 rfl) ?_
        refine g_get F hK hP inX6 0 rfl rfl 7 (by decide) gw_583 rfl (v := .ref (ad 1)) rfl dX6_count_71 ?_
        refine lv_iload_n hx hb dX6_count_74 rfl (lv_at hl 1 rfl) ?_
        refine lv_iconst (v := 0) hx hb dX6_count_75 (by decide) ?_
        refine a_ist F hK hP hD hS 1 (f := upd (gR g 0) c (sc1 c b g)) rfl (j := c) (by omega) (by decide) dX6_count_76 (fun H locs hP hD hS => ?_)
        have hP : va_P D vwCl (mW ad kA (sR (sR g 0 (upd (gR g 0) c (sc1 c b g))) 0 (upd (upd (gR g 0) c (sc1 c b g)) c 0)) z) H := hP
        have hD : va_D A (mW ad kA (sR (sR g 0 (upd (gR g 0) c (sc1 c b g))) 0 (upd (upd (gR g 0) c (sc1 c b g)) c 0)) z) := hD
        refine lv_aload_n hx hb dX6_count_77 rfl (lv_at hl 0 rfl) ?_
        refine g_get F hK hP inX6 0 rfl rfl 9 (by decide) gw_585 rfl (v := .ref (ad 3)) rfl dX6_count_78 ?_
        refine lv_iload_n hx hb dX6_count_81 rfl (lv_at hl 1 rfl) ?_
        refine lv_lconst (v := 0) hx hb dX6_count_82 (by decide) ?_
        refine a_lst F hK hP hD hS 3 (f := gE g) rfl (j := c) (by omega) (by decide) dX6_count_83 (fun H locs hP hD hS => ?_)
        have hP : va_P D vwCl (mW ad kA (sE (sR (sR g 0 (upd (gR g 0) c (sc1 c b g))) 0 (upd (upd (gR g 0) c (sc1 c b g)) c 0)) (vp_updL (gE g) c 0)) z) H := hP
        have hD : va_D A (mW ad kA (sE (sR (sR g 0 (upd (gR g 0) c (sc1 c b g))) 0 (upd (upd (gR g 0) c (sc1 c b g)) c 0)) (vp_updL (gE g) c 0)) z) := hD
        refine lv_aload_n hx hb dX6_count_84 rfl (lv_at hl 0 rfl) ?_
        refine lv_iload_n hx hb dX6_count_85 rfl (lv_at hl 1 rfl) ?_
        refine lv_iconst (v := 2) hx hb dX6_count_86 (by decide) ?_
        refine cl_V_i (wc := (mW ad kA (sE (sR (sR g 0 (upd (gR g 0) c (sc1 c b g))) 0 (upd (upd (gR g 0) c (sc1 c b g)) c 0)) (vp_updL (gE g) c 0)) z)) (As := [.int (nI c), .int 2]) (rest := []) (b := (ad 0)) (C := RX6) F hK hP hD hS hA (kX6_decide l D kA _ ad (sE (sR (sR g 0 (upd (gR g 0) c (sc1 c b g))) 0 (upd (upd (gR g 0) c (sc1 c b g)) c 0)) (vp_updL (gE g) c 0)) z c 2 hL) gw_712 gw_71 gw_709 gw_711 gw_50 (va_recv hK.1 hP (ci := 6) (q0 := 0) rfl rfl) hdX6_decide ⟨Nat.le_of_ble_eq_true rfl, Nat.le_of_ble_eq_true rfl⟩ hl.1 rfl (Nat.le_of_ble_eq_true rfl) dX6_count_87 ⟨Nat.le_of_ble_eq_true rfl, Nat.le_of_ble_eq_true rfl⟩ (fun r_87 u_87 H locs hw hP1 hD1 hk1 hFc hS => ?_)
        obtain ⟨rfl, L_87, hL_87, rfl⟩ := hw
        have hP : va_P D vwCl (mW ad kA (sV (sE (sR (sR g 0 (upd (gR g 0) c (sc1 c b g))) 0 (upd (upd (gR g 0) c (sc1 c b g)) c 0)) (vp_updL (gE g) c 0)) ((nI (10 * c) + 2) :: gV (sE (sR (sR g 0 (upd (gR g 0) c (sc1 c b g))) 0 (upd (upd (gR g 0) c (sc1 c b g)) c 0)) (vp_updL (gE g) c 0)))) (tL z L_87)) H := hP1
        have hD : va_D A (mW ad kA (sV (sE (sR (sR g 0 (upd (gR g 0) c (sc1 c b g))) 0 (upd (upd (gR g 0) c (sc1 c b g)) c 0)) (vp_updL (gE g) c 0)) ((nI (10 * c) + 2) :: gV (sE (sR (sR g 0 (upd (gR g 0) c (sc1 c b g))) 0 (upd (upd (gR g 0) c (sc1 c b g)) c 0)) (vp_updL (gE g) c 0)))) (tL z L_87)) := hD1.weaken (fun _ _ _ h => hFc _ h)
        have hq : sp_settle c b g = (2, st2 c (st1 c b g)) := by rw [sp_settle, if_pos c_35, if_neg c_67]
        exact rt _ (mW ad kA (sV (sE (sR (sR g 0 (upd (gR g 0) c (sc1 c b g))) 0 (upd (upd (gR g 0) c (sc1 c b g)) c 0)) (vp_updL (gE g) c 0)) ((nI (10 * c) + 2) :: gV (sE (sR (sR g 0 (upd (gR g 0) c (sc1 c b g))) 0 (upd (upd (gR g 0) c (sc1 c b g)) c 0)) (vp_updL (gE g) c 0)))) (tL z L_87)) _ _ _ _ hP hD hS dX6_count_90 (by show _ ∧ _; rw [hq]; exact ⟨rfl, L_87, hL_87, rfl⟩)
    · refine lv_aload_n hx hb dX6_count_38 rfl (lv_at hl 0 rfl) ?_
      refine g_get F hK hP inX6 0 rfl rfl 8 (by decide) gw_584 rfl (v := .ref (ad 2)) rfl dX6_count_39 ?_
      refine lv_iload_n hx hb dX6_count_42 rfl (lv_at hl 1 rfl) ?_
      refine lv_iconst (v := 1) hx hb dX6_count_43 (by decide) ?_
      refine a_zst F hK hP hD hS 2 (f := gR g 1) rfl (j := c) (by omega) (by decide) dX6_count_44 (fun H locs hP hD hS => ?_)
      have hP : va_P D vwCl (mW ad kA (sR (sR g 0 (upd (gR g 0) c (sc1 c b g))) 1 (upd (gR g 1) c 1)) z) H := hP
      have hD : va_D A (mW ad kA (sR (sR g 0 (upd (gR g 0) c (sc1 c b g))) 1 (upd (gR g 1) c 1)) z) := hD
      refine lv_aload_n hx hb dX6_count_45 rfl (lv_at hl 0 rfl) ?_
      refine lv_iload_n hx hb dX6_count_46 rfl (lv_at hl 1 rfl) ?_
      refine cl_V_v (wc := (mW ad kA (sR (sR g 0 (upd (gR g 0) c (sc1 c b g))) 1 (upd (gR g 1) c 1)) z)) (As := [.int (nI c)]) (rest := []) (b := (ad 0)) (C := RX6) F hK hP hD hS hA (kX6_dropAllOf l D kA _ ad (sR (sR g 0 (upd (gR g 0) c (sc1 c b g))) 1 (upd (gR g 1) c 1)) z c hM) gw_704 gw_71 gw_701 gw_703 gw_48 (va_recv hK.1 hP (ci := 6) (q0 := 0) rfl rfl) hdX6_dropAllOf ⟨Nat.le_of_ble_eq_true rfl, Nat.le_of_ble_eq_true rfl⟩ hl.1 rfl (Nat.le_of_ble_eq_true rfl) dX6_count_47 ⟨Nat.le_of_ble_eq_true rfl, Nat.le_of_ble_eq_true rfl⟩ (fun u_47 H locs hw hP1 hD1 hk1 hFc hS => ?_)
      obtain rfl := hw
      have hP : va_P D vwCl (mW ad kA (dAll c (gN g 1) (sR (sR g 0 (upd (gR g 0) c (sc1 c b g))) 1 (upd (gR g 1) c 1))) z) H := hP1
      have hD : va_D A (mW ad kA (dAll c (gN g 1) (sR (sR g 0 (upd (gR g 0) c (sc1 c b g))) 1 (upd (gR g 1) c 1))) z) := hD1.weaken (fun _ _ _ h => hFc _ h)
      refine lv_aload_n hx hb dX6_count_50 rfl (lv_at hl 0 rfl) ?_
      refine lv_iload_n hx hb dX6_count_51 rfl (lv_at hl 1 rfl) ?_
      refine lv_iconst (v := 1) hx hb dX6_count_52 (by decide) ?_
      refine cl_V_i (wc := (mW ad kA (dAll c (gN g 1) (sR (sR g 0 (upd (gR g 0) c (sc1 c b g))) 1 (upd (gR g 1) c 1))) z)) (As := [.int (nI c), .int 1]) (rest := []) (b := (ad 0)) (C := RX6) F hK hP hD hS hA (kX6_decide l D kA _ ad (dAll c (gN g 1) (sR (sR g 0 (upd (gR g 0) c (sc1 c b g))) 1 (upd (gR g 1) c 1))) z c 1 (rg_dAll (Nat.le_refl (gN g 1)) hL)) gw_712 gw_71 gw_709 gw_711 gw_50 (va_recv hK.1 hP (ci := 6) (q0 := 0) rfl rfl) hdX6_decide ⟨Nat.le_of_ble_eq_true rfl, Nat.le_of_ble_eq_true rfl⟩ hl.1 rfl (Nat.le_of_ble_eq_true rfl) dX6_count_53 ⟨Nat.le_of_ble_eq_true rfl, Nat.le_of_ble_eq_true rfl⟩ (fun r_53 u_53 H locs hw hP1 hD1 hk1 hFc hS => ?_)
      obtain ⟨rfl, L_53, hL_53, rfl⟩ := hw
      have hP : va_P D vwCl (mW ad kA (sV (dAll c (gN g 1) (sR (sR g 0 (upd (gR g 0) c (sc1 c b g))) 1 (upd (gR g 1) c 1))) ((nI (10 * c) + 1) :: gV (dAll c (gN g 1) (sR (sR g 0 (upd (gR g 0) c (sc1 c b g))) 1 (upd (gR g 1) c 1))))) (tL z L_53)) H := hP1
      have hD : va_D A (mW ad kA (sV (dAll c (gN g 1) (sR (sR g 0 (upd (gR g 0) c (sc1 c b g))) 1 (upd (gR g 1) c 1))) ((nI (10 * c) + 1) :: gV (dAll c (gN g 1) (sR (sR g 0 (upd (gR g 0) c (sc1 c b g))) 1 (upd (gR g 1) c 1))))) (tL z L_53)) := hD1.weaken (fun _ _ _ h => hFc _ h)
      have hq : sp_settle c b g = (1, st3 c (st1 c b g)) := by rw [sp_settle, if_neg c_35]
      exact rt _ (mW ad kA (sV (dAll c (gN g 1) (sR (sR g 0 (upd (gR g 0) c (sc1 c b g))) 1 (upd (gR g 1) c 1))) ((nI (10 * c) + 1) :: gV (dAll c (gN g 1) (sR (sR g 0 (upd (gR g 0) c (sc1 c b g))) 1 (upd (gR g 1) c 1))))) (tL z L_53)) _ _ _ _ hP hD hS dX6_count_56 (by show _ ∧ _; rw [hq]; exact ⟨rfl, L_53, hL_53, rfl⟩)

set_option maxRecDepth 100000 in
set_option maxHeartbeats 4000000 in
theorem kX6_isSeen (l : Launch) (D : va_G) (kA : Nat → ClassId) (sz : Nat) (ad : Nat → Nat) (g : Sg) (z : Zm) (c d : Nat) (hc : c < 8) : CtI l yX6_isSeen cX6_isSeen 3 .boolean 0 D kA sz (mW ad kA g z) [.ref (ad 0), .int (nI c), .int (nI d)] (fun r u => (r = if bitq (gE g c) d = 1 then 1 else 0) ∧ u = mW ad kA g z) := by
  refine ct_z (own := RX6) (by decide) rfl (Nat.le_of_ble_eq_true rfl) ?_
  intro p_ e_ s_ m_ ar_ bw_ me_ co_ A ls Q F hnm hK hA hP hD hS hl hsz rt
  have hx := F.1
  have hb := F.2.1
  have hl : lv_has ls 3 [(0, .ref (ad 0)), (1, .int (nI c)), (2, .int (nI d))] := hl
  have hP : va_P D vwCl (mW ad kA g z) s_.heap := hP
  refine lv_aload_n hx hb dX6_isSeen_0 rfl (lv_at hl 0 rfl) ?_
  refine g_get F hK hP inX6 0 rfl rfl 9 (by decide) gw_585 rfl (v := .ref (ad 3)) rfl dX6_isSeen_1 ?_
  refine lv_iload_n hx hb dX6_isSeen_4 rfl (lv_at hl 1 rfl) ?_
  refine a_lld F hK hP 3 (f := gE g) rfl (j := c) (by omega) (by decide) dX6_isSeen_5 ?_
  refine lv_iload_n hx hb dX6_isSeen_6 rfl (lv_at hl 2 rfl) ?_
  refine lv_lshr (v := (gE g c) >>> ((nI d).toInt64 &&& 63)) hx hb dX6_isSeen_7 rfl ?_
  refine lv_lconst (v := 1) hx hb dX6_isSeen_8 (by decide) ?_
  refine lv_land hx hb dX6_isSeen_9 ?_
  refine lv_lconst (v := 1) hx hb dX6_isSeen_10 (by decide) ?_
  refine W.lcmp hx hb dX6_isSeen_11 ?_
  refine b_lcne F (tgt := 19) dX6_isSeen_12 (by decide) (fun c_12 => ?_) (fun c_12 => ?_)
  · refine lv_iconst (v := 0) hx hb dX6_isSeen_19 (by decide) ?_
    exact rt _ (mW ad kA g z) _ _ _ _ hP hD hS dX6_isSeen_20 rfl (⟨(if_neg c_12).symm, rfl⟩)
  · refine lv_iconst (v := 1) hx hb dX6_isSeen_15 (by decide) ?_
    refine lv_goto (tgt := 20) hx hb dX6_isSeen_16 (by decide) ?_
    exact rt _ (mW ad kA g z) _ _ _ _ hP hD hS dX6_isSeen_20 rfl (⟨(if_pos c_12).symm, rfl⟩)

set_option maxRecDepth 100000 in
set_option maxHeartbeats 4000000 in
theorem kX6_connectNow (l : Launch) (D : va_G) (kA : Nat → ClassId) (sz : Nat) (ad : Nat → Nat) (g : Sg) (z : Zm) (s d : Nat) (b : Int32) (hs : s < 8) (hd : d < 32) (hM : Mn g) (hL : RgM (gV g) (zL z)) : CtI l yX6_connectNow cX6_connectNow 5 .int 3 D kA sz (mW ad kA g z) [.ref (ad 0), .int (nI s), .int (nI d), .int b] (fun r u => r = (sp_connectNow s d b g).1 ∧ mQ ad kA (sp_connectNow s d b g).2 z u) := by
  refine ct_i (own := RX6) (by decide) rfl (Nat.le_of_ble_eq_true rfl) ?_
  intro p_ e_ s_ m_ ar_ bw_ me_ co_ A ls Q F hnm hK hA hP hD hS hl hsz rt
  have hx := F.1
  have hb := F.2.1
  have hl : lv_has ls 5 [(0, .ref (ad 0)), (1, .int (nI s)), (2, .int (nI d)), (3, .int b)] := hl
  have hP : va_P D vwCl (mW ad kA g z) s_.heap := hP
  obtain ⟨⟨hm1, hm2⟩, hm3⟩ := id hM
  have hc : s % gN g 0 < 8 := Nat.lt_of_lt_of_le (Nat.mod_lt _ hm1) hm2
  refine lv_iload_n hx hb dX6_connectNow_0 rfl (lv_at hl 1 rfl) ?_
  refine lv_aload_n hx hb dX6_connectNow_1 rfl (lv_at hl 0 rfl) ?_
  refine g_get F hK hP inX6 0 rfl rfl 0 (by decide) gw_576 rfl (v := .int (nI (gN g 0))) rfl dX6_connectNow_2 ?_
  refine n_rem F (a := s) (b := gN g 0) dX6_connectNow_5 (by omega) (by omega) (by omega) ?_
  refine lv_istore (lv' := [(4, .int (nI (s % (gN g 0)))), (0, .ref (ad 0)), (1, .int (nI s)), (2, .int (nI d)), (3, .int b)]) hx hb dX6_connectNow_6 hl (by decide) rfl (fun ls hl => ?_)
  refine lv_aload_n hx hb dX6_connectNow_8 rfl (lv_at hl 1 rfl) ?_
  refine g_get F hK hP inX6 0 rfl rfl 8 (by decide) gw_584 rfl (v := .ref (ad 2)) rfl dX6_connectNow_9 ?_
  refine lv_iload hx hb dX6_connectNow_12 (lv_at hl 0 rfl) ?_
  refine a_zld F hK hP 2 (f := gR g 1) rfl (j := s % (gN g 0)) hc (by decide) dX6_connectNow_14 ?_
  refine lv_if_eq (tgt := 50) hx hb dX6_connectNow_15 (by decide) (fun c_15 => ?_) (fun c_15 => ?_)
  · refine lv_aload_n hx hb dX6_connectNow_50 rfl (lv_at hl 1 rfl) ?_
    refine lv_iload hx hb dX6_connectNow_51 (lv_at hl 0 rfl) ?_
    refine lv_iload_n hx hb dX6_connectNow_53 rfl (lv_at hl 3 rfl) ?_
    refine cl_V_i (wc := (mW ad kA g z)) (As := [.int (nI (s % (gN g 0))), .int (nI d)]) (rest := []) (b := (ad 0)) (C := RX6) F hK hP hD hS hA (kX6_isSeen l D kA _ ad g z (s % (gN g 0)) d hc) gw_696 gw_71 gw_693 gw_695 gw_46 (va_recv hK.1 hP (ci := 6) (q0 := 0) rfl rfl) hdX6_isSeen ⟨Nat.le_of_ble_eq_true rfl, Nat.le_of_ble_eq_true rfl⟩ hl.1 rfl (Nat.le_of_ble_eq_true rfl) dX6_connectNow_54 ⟨Nat.le_of_ble_eq_true rfl, Nat.le_of_ble_eq_true rfl⟩ (fun r_54 u_54 H locs hw hP1 hD1 hk1 hFc hS => ?_)
    obtain ⟨rfl, rfl⟩ := hw
    have hP : va_P D vwCl (mW ad kA g z) H := hP1
    have hD : va_D A (mW ad kA g z) := hD1.weaken (fun _ _ _ h => hFc _ h)
    refine b_beq F (P := bitq (gE g (s % (gN g 0))) d = 1) (tgt := 62) dX6_connectNow_57 (by decide) (fun c_57 => ?_) (fun c_57 => ?_)
    · refine lv_aload_n hx hb dX6_connectNow_62 rfl (lv_at hl 1 rfl) ?_
      refine g_get F hK hP inX6 0 rfl rfl 9 (by decide) gw_585 rfl (v := .ref (ad 3)) rfl dX6_connectNow_63 ?_
      refine lv_iload hx hb dX6_connectNow_66 (lv_at hl 0 rfl) ?_
      refine lv_dup2_11 hx hb dX6_connectNow_68 rfl rfl ?_
      refine a_lld F hK hP 3 (f := gE g) rfl (j := s % (gN g 0)) hc (by decide) dX6_connectNow_69 ?_
      refine lv_lconst (v := 1) hx hb dX6_connectNow_70 (by decide) ?_
      refine lv_iload_n hx hb dX6_connectNow_71 rfl (lv_at hl 3 rfl) ?_
      refine lv_lshl (v := 1 <<< ((nI d).toInt64 &&& 63)) hx hb dX6_connectNow_72 rfl ?_
      refine lv_lor hx hb dX6_connectNow_73 ?_
      refine a_lst F hK hP hD hS 3 (f := gE g) rfl (j := s % (gN g 0)) hc (by decide) dX6_connectNow_74 (fun H locs hP hD hS => ?_)
      have hP : va_P D vwCl (mW ad kA (sE g (vp_updL (gE g) (s % (gN g 0)) ((gE g (s % (gN g 0))) ||| (1 <<< ((nI d).toInt64 &&& 63))))) z) H := hP
      have hD : va_D A (mW ad kA (sE g (vp_updL (gE g) (s % (gN g 0)) ((gE g (s % (gN g 0))) ||| (1 <<< ((nI d).toInt64 &&& 63))))) z) := hD
      refine lv_aload_n hx hb dX6_connectNow_75 rfl (lv_at hl 1 rfl) ?_
      refine lv_iload hx hb dX6_connectNow_76 (lv_at hl 0 rfl) ?_
      refine lv_iload_n hx hb dX6_connectNow_78 rfl (lv_at hl 4 rfl) ?_
      refine cl_V_i (wc := (mW ad kA (sE g (vp_updL (gE g) (s % (gN g 0)) ((gE g (s % (gN g 0))) ||| (1 <<< ((nI d).toInt64 &&& 63))))) z)) (As := [.int (nI (s % (gN g 0))), .int b]) (rest := []) (b := (ad 0)) (C := RX6) F hK hP hD hS hA (kX6_count l D kA _ ad (sE g (vp_updL (gE g) (s % (gN g 0)) ((gE g (s % (gN g 0))) ||| (1 <<< ((nI d).toInt64 &&& 63))))) z (s % (gN g 0)) b hc hM hL) gw_700 gw_71 gw_697 gw_699 gw_47 (va_recv hK.1 hP (ci := 6) (q0 := 0) rfl rfl) hdX6_count ⟨Nat.le_of_ble_eq_true rfl, Nat.le_of_ble_eq_true rfl⟩ hl.1 rfl (Nat.le_of_ble_eq_true rfl) dX6_connectNow_79 ⟨Nat.le_of_ble_eq_true rfl, Nat.le_of_ble_eq_true rfl⟩ (fun r_79 u_79 H locs hw hP1 hD1 hk1 hFc hS => ?_)
      obtain ⟨rfl, L_79, hL_79, rfl⟩ := hw
      have hP : va_P D vwCl (mW ad kA ((sp_settle (s % (gN g 0)) b (sE g (vp_updL (gE g) (s % (gN g 0)) ((gE g (s % (gN g 0))) ||| (1 <<< ((nI d).toInt64 &&& 63)))))).2) (tL z L_79)) H := hP1
      have hD : va_D A (mW ad kA ((sp_settle (s % (gN g 0)) b (sE g (vp_updL (gE g) (s % (gN g 0)) ((gE g (s % (gN g 0))) ||| (1 <<< ((nI d).toInt64 &&& 63)))))).2) (tL z L_79)) := hD1.weaken (fun _ _ _ h => hFc _ h)
      have hq : sp_connectNow s d b g = sp_settle (s % gN g 0) b (seeG (s % gN g 0) d g) := by rw [sp_connectNow, if_pos c_15, if_neg c_57]
      exact rt _ (mW ad kA ((sp_settle (s % (gN g 0)) b (sE g (vp_updL (gE g) (s % (gN g 0)) ((gE g (s % (gN g 0))) ||| (1 <<< ((nI d).toInt64 &&& 63)))))).2) (tL z L_79)) _ _ _ _ hP hD hS dX6_connectNow_82 (by show _ ∧ _; rw [hq]; exact ⟨rfl, L_79, hL_79, rfl⟩)
    · refine lv_iconst (v := 4) hx hb dX6_connectNow_60 (by decide) ?_
      have hq : sp_connectNow s d b g = (4, g) := by rw [sp_connectNow, if_pos c_15, if_pos c_57]
      exact rt _ (mW ad kA g z) _ _ _ _ hP hD hS dX6_connectNow_61 (by show _ ∧ _; rw [hq]; exact ⟨rfl, zL z, hL, rfl⟩)
  · refine lv_aload_n hx hb dX6_connectNow_18 rfl (lv_at hl 1 rfl) ?_
    refine g_get F hK hP inX6 0 rfl rfl 10 (by decide) gw_586 rfl (v := .ref (ad 4)) rfl dX6_connectNow_19 ?_
    refine lv_iload hx hb dX6_connectNow_22 (lv_at hl 0 rfl) ?_
    refine lv_dup2_11 hx hb dX6_connectNow_24 rfl rfl ?_
    refine a_ild F hK hP 4 (f := gR g 2) rfl (j := s % (gN g 0)) hc (by decide) dX6_connectNow_25 ?_
    refine lv_iconst (v := 1) hx hb dX6_connectNow_26 (by decide) ?_
    refine lv_iadd hx hb dX6_connectNow_27 ?_
    refine a_ist F hK hP hD hS 4 (f := gR g 2) rfl (j := s % (gN g 0)) hc (by decide) dX6_connectNow_28 (fun H locs hP hD hS => ?_)
    have hP : va_P D vwCl (mW ad kA (sR g 2 (upd (gR g 2) (s % (gN g 0)) ((gR g 2 (s % (gN g 0))) + 1))) z) H := hP
    have hD : va_D A (mW ad kA (sR g 2 (upd (gR g 2) (s % (gN g 0)) ((gR g 2 (s % (gN g 0))) + 1))) z) := hD
    refine lv_aload_n hx hb dX6_connectNow_29 rfl (lv_at hl 1 rfl) ?_
    refine g_get F hK hP inX6 0 rfl rfl 11 (by decide) gw_587 rfl (v := .ref (ad 5)) rfl dX6_connectNow_30 ?_
    refine lv_iload hx hb dX6_connectNow_33 (lv_at hl 0 rfl) ?_
    refine lv_dup2_11 hx hb dX6_connectNow_35 rfl rfl ?_
    refine a_ild F hK hP 5 (f := gR g 3) rfl (j := s % (gN g 0)) hc (by decide) dX6_connectNow_36 ?_
    refine lv_iload_n hx hb dX6_connectNow_37 rfl (lv_at hl 4 rfl) ?_
    refine lv_if_eq (tgt := 45) hx hb dX6_connectNow_38 (by decide) (fun c_38 => ?_) (fun c_38 => ?_)
    · refine lv_iconst (v := 0) hx hb dX6_connectNow_45 (by decide) ?_
      refine lv_iadd hx hb dX6_connectNow_46 ?_
      refine a_ist F hK hP hD hS 5 (f := gR g 3) rfl (j := s % (gN g 0)) hc (by decide) dX6_connectNow_47 (fun H locs hP hD hS => ?_)
      have hP : va_P D vwCl (mW ad kA (sR (sR g 2 (upd (gR g 2) (s % (gN g 0)) ((gR g 2 (s % (gN g 0))) + 1))) 3 (upd (gR g 3) (s % (gN g 0)) ((gR g 3 (s % (gN g 0))) + 0))) z) H := hP
      have hD : va_D A (mW ad kA (sR (sR g 2 (upd (gR g 2) (s % (gN g 0)) ((gR g 2 (s % (gN g 0))) + 1))) 3 (upd (gR g 3) (s % (gN g 0)) ((gR g 3 (s % (gN g 0))) + 0))) z) := hD
      refine lv_iconst (v := 3) hx hb dX6_connectNow_48 (by decide) ?_
      have hq : sp_connectNow s d b g = (3, sR (sR g 2 (upd (gR g 2) (s % (gN g 0)) ((gR g 2 (s % (gN g 0))) + 1))) 3 (upd (gR g 3) (s % (gN g 0)) ((gR g 3 (s % (gN g 0))) + 0))) := by rw [sp_connectNow, if_neg c_15, blkG, if_pos c_38]
      exact rt _ (mW ad kA (sR (sR g 2 (upd (gR g 2) (s % (gN g 0)) ((gR g 2 (s % (gN g 0))) + 1))) 3 (upd (gR g 3) (s % (gN g 0)) ((gR g 3 (s % (gN g 0))) + 0))) z) _ _ _ _ hP hD hS dX6_connectNow_49 (by show _ ∧ _; rw [hq]; exact ⟨rfl, zL z, hL, rfl⟩)
    · refine lv_iconst (v := 1) hx hb dX6_connectNow_41 (by decide) ?_
      refine lv_goto (tgt := 46) hx hb dX6_connectNow_42 (by decide) ?_
      refine lv_iadd hx hb dX6_connectNow_46 ?_
      refine a_ist F hK hP hD hS 5 (f := gR g 3) rfl (j := s % (gN g 0)) hc (by decide) dX6_connectNow_47 (fun H locs hP hD hS => ?_)
      have hP : va_P D vwCl (mW ad kA (sR (sR g 2 (upd (gR g 2) (s % (gN g 0)) ((gR g 2 (s % (gN g 0))) + 1))) 3 (upd (gR g 3) (s % (gN g 0)) ((gR g 3 (s % (gN g 0))) + 1))) z) H := hP
      have hD : va_D A (mW ad kA (sR (sR g 2 (upd (gR g 2) (s % (gN g 0)) ((gR g 2 (s % (gN g 0))) + 1))) 3 (upd (gR g 3) (s % (gN g 0)) ((gR g 3 (s % (gN g 0))) + 1))) z) := hD
      refine lv_iconst (v := 3) hx hb dX6_connectNow_48 (by decide) ?_
      have hq : sp_connectNow s d b g = (3, sR (sR g 2 (upd (gR g 2) (s % (gN g 0)) ((gR g 2 (s % (gN g 0))) + 1))) 3 (upd (gR g 3) (s % (gN g 0)) ((gR g 3 (s % (gN g 0))) + 1))) := by rw [sp_connectNow, if_neg c_15, blkG, if_neg c_38]
      exact rt _ (mW ad kA (sR (sR g 2 (upd (gR g 2) (s % (gN g 0)) ((gR g 2 (s % (gN g 0))) + 1))) 3 (upd (gR g 3) (s % (gN g 0)) ((gR g 3 (s % (gN g 0))) + 1))) z) _ _ _ _ hP hD hS dX6_connectNow_49 (by show _ ∧ _; rw [hq]; exact ⟨rfl, zL z, hL, rfl⟩)

set_option maxRecDepth 100000 in
set_option maxHeartbeats 4000000 in
theorem kX6_connect (l : Launch) (D : va_G) (kA : Nat → ClassId) (sz : Nat) (ad : Nat → Nat) (g : Sg) (z : Zm) (p1 p2 b : Int32) (hI : Inv g) (hL : RgM (gV g) (zL z)) : CtI l yX6_connect cX6_connect 4 .int 4 D kA sz (mW ad kA g z) [.ref (ad 0), .int p1, .int p2, .int b] (fun r u => r = (sp_connect p1 p2 b g).1 ∧ mQ ad kA (sp_connect p1 p2 b g).2 z u) := by
  refine ct_i (own := RX6) (by decide) rfl (Nat.le_of_ble_eq_true rfl) ?_
  intro p_ e_ s_ m_ ar_ bw_ me_ co_ A ls Q F hnm hK hA hP hD hS hl hsz rt
  have hx := F.1
  have hb := F.2.1
  have hl : lv_has ls 4 [(0, .ref (ad 0)), (1, .int p1), (2, .int p2), (3, .int b)] := hl
  have hP : va_P D vwCl (mW ad kA g z) s_.heap := hP
  obtain ⟨⟨hc1, hc2⟩, ha, hn, hu, hd, hup, hlo, hso, hv⟩ := id hI
  refine lv_iload_n hx hb dX6_connect_0 rfl (lv_at hl 1 rfl) ?_
  refine cl_S_i (wc := []) (As := [.int p1]) (rest := []) F hK P_nil D_nil hS hA (kX6_isSource l D kA _ p1 ) gw_685 gw_71 gw_683 gw_684 hdX6_isSource ⟨Nat.le_of_ble_eq_true rfl, Nat.le_of_ble_eq_true rfl⟩ hl.1 rfl (Nat.le_of_ble_eq_true rfl) dX6_connect_1 ⟨Nat.le_of_ble_eq_true rfl, Nat.le_of_ble_eq_true rfl⟩ (fun r_1 u_1 H locs hw hP1 hD1 hk1 hFc hS => ?_)
  obtain ⟨rfl, rfl⟩ := hw
  have hP := hp_non hP hk1
  refine b_bne F (P := 0 ≤ p1 ∧ p1 ≤ 7) (tgt := 10) dX6_connect_4 (by decide) (fun c_4 => ?_) (fun c_4 => ?_)
  · obtain ⟨s, hs, rfl⟩ := nat_of (n := 7) (by decide) c_4.1 c_4.2
    refine lv_iload_n hx hb dX6_connect_10 rfl (lv_at hl 2 rfl) ?_
    refine cl_S_i (wc := []) (As := [.int p2]) (rest := []) F hK P_nil D_nil hS hA (kX6_isDestination l D kA _ p2 ) gw_688 gw_71 gw_686 gw_687 hdX6_isDestination ⟨Nat.le_of_ble_eq_true rfl, Nat.le_of_ble_eq_true rfl⟩ hl.1 rfl (Nat.le_of_ble_eq_true rfl) dX6_connect_11 ⟨Nat.le_of_ble_eq_true rfl, Nat.le_of_ble_eq_true rfl⟩ (fun r_11 u_11 H locs hw hP1 hD1 hk1 hFc hS => ?_)
    obtain ⟨rfl, rfl⟩ := hw
    have hP := hp_non hP hk1
    refine b_beq F (P := 0 ≤ p2 ∧ p2 ≤ 31) (tgt := 27) dX6_connect_14 (by decide) (fun c_14 => ?_) (fun c_14 => ?_)
    · refine lv_bipush (v := (-106)) hx hb dX6_connect_27 (by decide) ?_
      have hq : sp_connect (nI s) p2 b g = (-106, g) := by rw [sp_connect, if_pos c_4, if_neg c_14]
      exact rt _ (mW ad kA g z) _ _ _ _ hP hD hS dX6_connect_29 (by show _ ∧ _; rw [hq]; exact ⟨rfl, zL z, hL, rfl⟩)
    · obtain ⟨d, hd, rfl⟩ := nat_of (n := 31) (by decide) c_14.1 c_14.2
      refine lv_aload_n hx hb dX6_connect_17 rfl (lv_at hl 0 rfl) ?_
      refine lv_iload_n hx hb dX6_connect_18 rfl (lv_at hl 1 rfl) ?_
      refine lv_iload_n hx hb dX6_connect_19 rfl (lv_at hl 2 rfl) ?_
      refine lv_iload_n hx hb dX6_connect_20 rfl (lv_at hl 3 rfl) ?_
      refine cl_V_i (wc := (mW ad kA g z)) (As := [.int (nI s), .int (nI d), .int b]) (rest := []) (b := (ad 0)) (C := RX6) F hK hP hD hS hA (kX6_connectNow l D kA _ ad g z s d b (by omega) (by omega) ⟨⟨hc1, hc2⟩, ha⟩ hL) gw_692 gw_71 gw_689 gw_691 gw_45 (va_recv hK.1 hP (ci := 6) (q0 := 0) rfl rfl) hdX6_connectNow ⟨Nat.le_of_ble_eq_true rfl, Nat.le_of_ble_eq_true rfl⟩ hl.1 rfl (Nat.le_of_ble_eq_true rfl) dX6_connect_21 ⟨Nat.le_of_ble_eq_true rfl, Nat.le_of_ble_eq_true rfl⟩ (fun r_21 u_21 H locs hw hP1 hD1 hk1 hFc hS => ?_)
      obtain ⟨rfl, L_21, hL_21, rfl⟩ := hw
      have hP : va_P D vwCl (mW ad kA ((sp_connectNow s d b g).2) (tL z L_21)) H := hP1
      have hD : va_D A (mW ad kA ((sp_connectNow s d b g).2) (tL z L_21)) := hD1.weaken (fun _ _ _ h => hFc _ h)
      refine lv_goto (tgt := 29) hx hb dX6_connect_24 (by decide) ?_
      have hq : sp_connect (nI s) (nI d) b g = sp_connectNow s d b g := by rw [sp_connect, if_pos c_4, if_pos c_14, nI_clamp (by omega), nI_clamp (by omega)]
      exact rt _ (mW ad kA ((sp_connectNow s d b g).2) (tL z L_21)) _ _ _ _ hP hD hS dX6_connect_29 (by show _ ∧ _; rw [hq]; exact ⟨rfl, L_21, hL_21, rfl⟩)
  · refine lv_bipush (v := (-105)) hx hb dX6_connect_7 (by decide) ?_
    have hq : sp_connect p1 p2 b g = (-105, g) := by rw [sp_connect, if_neg c_4]
    exact rt _ (mW ad kA g z) _ _ _ _ hP hD hS dX6_connect_9 (by show _ ∧ _; rw [hq]; exact ⟨rfl, zL z, hL, rfl⟩)

set_option maxRecDepth 100000 in
set_option maxHeartbeats 4000000 in
theorem kX6_attemptNow (l : Launch) (D : va_G) (kA : Nat → ClassId) (sz : Nat) (ad : Nat → Nat) (g : Sg) (z : Zm) (s d : Nat) (hs : s < 8) (hd : d < 32) (hM : Mn g) : CtI l yX6_attemptNow cX6_attemptNow 4 .int 1 D kA sz (mW ad kA g z) [.ref (ad 0), .int (nI s), .int (nI d)] (fun r u => r = (sp_attemptNow s d g).1 ∧ u = mW ad kA (sp_attemptNow s d g).2 z) := by
  refine ct_i (own := RX6) (by decide) rfl (Nat.le_of_ble_eq_true rfl) ?_
  intro p_ e_ s_ m_ ar_ bw_ me_ co_ A ls Q F hnm hK hA hP hD hS hl hsz rt
  have hx := F.1
  have hb := F.2.1
  have hl : lv_has ls 4 [(0, .ref (ad 0)), (1, .int (nI s)), (2, .int (nI d))] := hl
  have hP : va_P D vwCl (mW ad kA g z) s_.heap := hP
  obtain ⟨⟨hm1, hm2⟩, hm3⟩ := id hM
  have hc : s % gN g 0 < 8 := Nat.lt_of_lt_of_le (Nat.mod_lt _ hm1) hm2
  refine lv_iload_n hx hb dX6_attemptNow_0 rfl (lv_at hl 1 rfl) ?_
  refine lv_aload_n hx hb dX6_attemptNow_1 rfl (lv_at hl 0 rfl) ?_
  refine g_get F hK hP inX6 0 rfl rfl 0 (by decide) gw_576 rfl (v := .int (nI (gN g 0))) rfl dX6_attemptNow_2 ?_
  refine n_rem F (a := s) (b := gN g 0) dX6_attemptNow_5 (by omega) (by omega) (by omega) ?_
  refine lv_istore_n (lv' := [(3, .int (nI (s % (gN g 0)))), (0, .ref (ad 0)), (1, .int (nI s)), (2, .int (nI d))]) hx hb dX6_attemptNow_6 rfl hl (by decide) rfl (fun ls hl => ?_)
  refine lv_aload_n hx hb dX6_attemptNow_7 rfl (lv_at hl 1 rfl) ?_
  refine g_get F hK hP inX6 0 rfl rfl 8 (by decide) gw_584 rfl (v := .ref (ad 2)) rfl dX6_attemptNow_8 ?_
  refine lv_iload_n hx hb dX6_attemptNow_11 rfl (lv_at hl 0 rfl) ?_
  refine a_zld F hK hP 2 (f := gR g 1) rfl (j := s % (gN g 0)) hc (by decide) dX6_attemptNow_12 ?_
  refine lv_if_eq (tgt := 28) hx hb dX6_attemptNow_13 (by decide) (fun c_13 => ?_) (fun c_13 => ?_)
  · refine lv_aload_n hx hb dX6_attemptNow_28 rfl (lv_at hl 1 rfl) ?_
    refine lv_iload_n hx hb dX6_attemptNow_29 rfl (lv_at hl 0 rfl) ?_
    refine lv_iload_n hx hb dX6_attemptNow_30 rfl (lv_at hl 3 rfl) ?_
    refine cl_V_i (wc := (mW ad kA g z)) (As := [.int (nI (s % (gN g 0))), .int (nI d)]) (rest := []) (b := (ad 0)) (C := RX6) F hK hP hD hS hA (kX6_isSeen l D kA _ ad g z (s % (gN g 0)) d hc) gw_696 gw_71 gw_693 gw_695 gw_46 (va_recv hK.1 hP (ci := 6) (q0 := 0) rfl rfl) hdX6_isSeen ⟨Nat.le_of_ble_eq_true rfl, Nat.le_of_ble_eq_true rfl⟩ hl.1 rfl (Nat.le_of_ble_eq_true rfl) dX6_attemptNow_31 ⟨Nat.le_of_ble_eq_true rfl, Nat.le_of_ble_eq_true rfl⟩ (fun r_31 u_31 H locs hw hP1 hD1 hk1 hFc hS => ?_)
    obtain ⟨rfl, rfl⟩ := hw
    have hP : va_P D vwCl (mW ad kA g z) H := hP1
    have hD : va_D A (mW ad kA g z) := hD1.weaken (fun _ _ _ h => hFc _ h)
    refine b_beq F (P := bitq (gE g (s % (gN g 0))) d = 1) (tgt := 39) dX6_attemptNow_34 (by decide) (fun c_34 => ?_) (fun c_34 => ?_)
    · refine lv_aload_n hx hb dX6_attemptNow_39 rfl (lv_at hl 1 rfl) ?_
      refine g_get F hK hP inX6 0 rfl rfl 12 (by decide) gw_588 rfl (v := .int (nI (gN g 1))) rfl dX6_attemptNow_40 ?_
      refine lv_bipush (v := 12) hx hb dX6_attemptNow_43 (by decide) ?_
      refine b_ne F (a := gN g 1) (b := 12) (tgt := 51) dX6_attemptNow_45 (by decide) (by omega) (by omega) (fun c_45 => ?_) (fun c_45 => ?_)
      · refine lv_aload_n hx hb dX6_attemptNow_51 rfl (lv_at hl 1 rfl) ?_
        refine g_get F hK hP inX6 0 rfl rfl 9 (by decide) gw_585 rfl (v := .ref (ad 3)) rfl dX6_attemptNow_52 ?_
        refine lv_iload_n hx hb dX6_attemptNow_55 rfl (lv_at hl 0 rfl) ?_
        refine lv_dup2_11 hx hb dX6_attemptNow_56 rfl rfl ?_
        refine a_lld F hK hP 3 (f := gE g) rfl (j := s % (gN g 0)) hc (by decide) dX6_attemptNow_57 ?_
        refine lv_lconst (v := 1) hx hb dX6_attemptNow_58 (by decide) ?_
        refine lv_iload_n hx hb dX6_attemptNow_59 rfl (lv_at hl 3 rfl) ?_
        refine lv_lshl (v := 1 <<< ((nI d).toInt64 &&& 63)) hx hb dX6_attemptNow_60 rfl ?_
        refine lv_lor hx hb dX6_attemptNow_61 ?_
        refine a_lst F hK hP hD hS 3 (f := gE g) rfl (j := s % (gN g 0)) hc (by decide) dX6_attemptNow_62 (fun H locs hP hD hS => ?_)
        have hP : va_P D vwCl (mW ad kA (sE g (vp_updL (gE g) (s % (gN g 0)) ((gE g (s % (gN g 0))) ||| (1 <<< ((nI d).toInt64 &&& 63))))) z) H := hP
        have hD : va_D A (mW ad kA (sE g (vp_updL (gE g) (s % (gN g 0)) ((gE g (s % (gN g 0))) ||| (1 <<< ((nI d).toInt64 &&& 63))))) z) := hD
        refine lv_aload_n hx hb dX6_attemptNow_63 rfl (lv_at hl 1 rfl) ?_
        refine g_get F hK hP inX6 0 rfl rfl 13 (by decide) gw_589 rfl (v := .ref (ad 6)) rfl dX6_attemptNow_64 ?_
        refine lv_aload_n hx hb dX6_attemptNow_67 rfl (lv_at hl 1 rfl) ?_
        refine g_get F hK hP inX6 0 rfl rfl 12 (by decide) gw_588 rfl (v := .int (nI (gN g 1))) rfl dX6_attemptNow_68 ?_
        refine lv_iload_n hx hb dX6_attemptNow_71 rfl (lv_at hl 2 rfl) ?_
        refine a_ist F hK hP hD hS 6 (f := gR g 4) rfl (j := gN g 1) (by omega) (by decide) dX6_attemptNow_72 (fun H locs hP hD hS => ?_)
        have hP : va_P D vwCl (mW ad kA (sR (sE g (vp_updL (gE g) (s % (gN g 0)) ((gE g (s % (gN g 0))) ||| (1 <<< ((nI d).toInt64 &&& 63))))) 4 (upd (gR g 4) (gN g 1) (nI s))) z) H := hP
        have hD : va_D A (mW ad kA (sR (sE g (vp_updL (gE g) (s % (gN g 0)) ((gE g (s % (gN g 0))) ||| (1 <<< ((nI d).toInt64 &&& 63))))) 4 (upd (gR g 4) (gN g 1) (nI s))) z) := hD
        refine lv_aload_n hx hb dX6_attemptNow_73 rfl (lv_at hl 1 rfl) ?_
        refine g_get F hK hP inX6 0 rfl rfl 14 (by decide) gw_590 rfl (v := .ref (ad 7)) rfl dX6_attemptNow_74 ?_
        refine lv_aload_n hx hb dX6_attemptNow_77 rfl (lv_at hl 1 rfl) ?_
        refine g_get F hK hP inX6 0 rfl rfl 12 (by decide) gw_588 rfl (v := .int (nI (gN g 1))) rfl dX6_attemptNow_78 ?_
        refine lv_iload_n hx hb dX6_attemptNow_81 rfl (lv_at hl 3 rfl) ?_
        refine a_ist F hK hP hD hS 7 (f := gR g 5) rfl (j := gN g 1) (by omega) (by decide) dX6_attemptNow_82 (fun H locs hP hD hS => ?_)
        have hP : va_P D vwCl (mW ad kA (sR (sR (sE g (vp_updL (gE g) (s % (gN g 0)) ((gE g (s % (gN g 0))) ||| (1 <<< ((nI d).toInt64 &&& 63))))) 4 (upd (gR g 4) (gN g 1) (nI s))) 5 (upd (gR g 5) (gN g 1) (nI d))) z) H := hP
        have hD : va_D A (mW ad kA (sR (sR (sE g (vp_updL (gE g) (s % (gN g 0)) ((gE g (s % (gN g 0))) ||| (1 <<< ((nI d).toInt64 &&& 63))))) 4 (upd (gR g 4) (gN g 1) (nI s))) 5 (upd (gR g 5) (gN g 1) (nI d))) z) := hD
        refine lv_aload_n hx hb dX6_attemptNow_83 rfl (lv_at hl 1 rfl) ?_
        refine g_get F hK hP inX6 0 rfl rfl 15 (by decide) gw_591 rfl (v := .ref (ad 8)) rfl dX6_attemptNow_84 ?_
        refine lv_aload_n hx hb dX6_attemptNow_87 rfl (lv_at hl 1 rfl) ?_
        refine g_get F hK hP inX6 0 rfl rfl 12 (by decide) gw_588 rfl (v := .int (nI (gN g 1))) rfl dX6_attemptNow_88 ?_
        refine lv_aload_n hx hb dX6_attemptNow_91 rfl (lv_at hl 1 rfl) ?_
        refine g_get F hK hP inX6 0 rfl rfl 6 (by decide) gw_582 rfl (v := .int (gI g 5)) rfl dX6_attemptNow_92 ?_
        refine lv_aload_n hx hb dX6_attemptNow_95 rfl (lv_at hl 1 rfl) ?_
        refine g_get F hK hP inX6 0 rfl rfl 5 (by decide) gw_581 rfl (v := .int (gI g 4)) rfl dX6_attemptNow_96 ?_
        refine lv_iadd hx hb dX6_attemptNow_99 ?_
        refine a_ist F hK hP hD hS 8 (f := gR g 6) rfl (j := gN g 1) (by omega) (by decide) dX6_attemptNow_100 (fun H locs hP hD hS => ?_)
        have hP : va_P D vwCl (mW ad kA (sR (sR (sR (sE g (vp_updL (gE g) (s % (gN g 0)) ((gE g (s % (gN g 0))) ||| (1 <<< ((nI d).toInt64 &&& 63))))) 4 (upd (gR g 4) (gN g 1) (nI s))) 5 (upd (gR g 5) (gN g 1) (nI d))) 6 (upd (gR g 6) (gN g 1) ((gI g 5) + (gI g 4)))) z) H := hP
        have hD : va_D A (mW ad kA (sR (sR (sR (sE g (vp_updL (gE g) (s % (gN g 0)) ((gE g (s % (gN g 0))) ||| (1 <<< ((nI d).toInt64 &&& 63))))) 4 (upd (gR g 4) (gN g 1) (nI s))) 5 (upd (gR g 5) (gN g 1) (nI d))) 6 (upd (gR g 6) (gN g 1) ((gI g 5) + (gI g 4)))) z) := hD
        refine lv_aload_n hx hb dX6_attemptNow_101 rfl (lv_at hl 1 rfl) ?_
        refine lv_dup hx hb dX6_attemptNow_102 rfl ?_
        refine g_get F hK hP inX6 0 rfl rfl 12 (by decide) gw_588 rfl (v := .int (nI (gN g 1))) rfl dX6_attemptNow_103 ?_
        refine lv_iconst (v := 1) hx hb dX6_attemptNow_106 (by decide) ?_
        refine n_add F (a := gN g 1) (b := 1) dX6_attemptNow_107 ?_
        refine g_put F hK hP hD hS inX6 tyX6_ok nmX6 0 rfl rfl 12 (by decide) gw_588 rfl rfl rfl rfl (Nat.le_of_ble_eq_true rfl) dX6_attemptNow_108 (fun H locs hP hD hS => ?_)
        have hP : va_P D vwCl (mW ad kA (sN (sR (sR (sR (sE g (vp_updL (gE g) (s % (gN g 0)) ((gE g (s % (gN g 0))) ||| (1 <<< ((nI d).toInt64 &&& 63))))) 4 (upd (gR g 4) (gN g 1) (nI s))) 5 (upd (gR g 5) (gN g 1) (nI d))) 6 (upd (gR g 6) (gN g 1) ((gI g 5) + (gI g 4)))) 1 (gN g 1 + 1)) z) H := hP
        have hD : va_D A (mW ad kA (sN (sR (sR (sR (sE g (vp_updL (gE g) (s % (gN g 0)) ((gE g (s % (gN g 0))) ||| (1 <<< ((nI d).toInt64 &&& 63))))) 4 (upd (gR g 4) (gN g 1) (nI s))) 5 (upd (gR g 5) (gN g 1) (nI d))) 6 (upd (gR g 6) (gN g 1) ((gI g 5) + (gI g 4)))) 1 (gN g 1 + 1)) z) := hD
        refine lv_iconst (v := 0) hx hb dX6_attemptNow_111 (by decide) ?_
        have hq : sp_attemptNow s d g = (0, addG s d g) := by rw [sp_attemptNow, if_pos c_13, if_neg c_34, if_neg c_45]
        exact rt _ (mW ad kA (sN (sR (sR (sR (sE g (vp_updL (gE g) (s % (gN g 0)) ((gE g (s % (gN g 0))) ||| (1 <<< ((nI d).toInt64 &&& 63))))) 4 (upd (gR g 4) (gN g 1) (nI s))) 5 (upd (gR g 5) (gN g 1) (nI d))) 6 (upd (gR g 6) (gN g 1) ((gI g 5) + (gI g 4)))) 1 (gN g 1 + 1)) z) _ _ _ _ hP hD hS dX6_attemptNow_112 (by show _ ∧ _; rw [hq]; exact ⟨rfl, rfl⟩)
      · refine lv_bipush (v := (-110)) hx hb dX6_attemptNow_48 (by decide) ?_
        have hq : sp_attemptNow s d g = (-110, g) := by rw [sp_attemptNow, if_pos c_13, if_neg c_34, if_pos c_45]
        exact rt _ (mW ad kA g z) _ _ _ _ hP hD hS dX6_attemptNow_50 (by show _ ∧ _; rw [hq]; exact ⟨rfl, rfl⟩)
    · refine lv_iconst (v := 4) hx hb dX6_attemptNow_37 (by decide) ?_
      have hq : sp_attemptNow s d g = (4, g) := by rw [sp_attemptNow, if_pos c_13, if_pos c_34]
      exact rt _ (mW ad kA g z) _ _ _ _ hP hD hS dX6_attemptNow_38 (by show _ ∧ _; rw [hq]; exact ⟨rfl, rfl⟩)
  · refine lv_aload_n hx hb dX6_attemptNow_16 rfl (lv_at hl 1 rfl) ?_
    refine g_get F hK hP inX6 0 rfl rfl 10 (by decide) gw_586 rfl (v := .ref (ad 4)) rfl dX6_attemptNow_17 ?_
    refine lv_iload_n hx hb dX6_attemptNow_20 rfl (lv_at hl 0 rfl) ?_
    refine lv_dup2_11 hx hb dX6_attemptNow_21 rfl rfl ?_
    refine a_ild F hK hP 4 (f := gR g 2) rfl (j := s % (gN g 0)) hc (by decide) dX6_attemptNow_22 ?_
    refine lv_iconst (v := 1) hx hb dX6_attemptNow_23 (by decide) ?_
    refine lv_iadd hx hb dX6_attemptNow_24 ?_
    refine a_ist F hK hP hD hS 4 (f := gR g 2) rfl (j := s % (gN g 0)) hc (by decide) dX6_attemptNow_25 (fun H locs hP hD hS => ?_)
    have hP : va_P D vwCl (mW ad kA (sR g 2 (upd (gR g 2) (s % (gN g 0)) ((gR g 2 (s % (gN g 0))) + 1))) z) H := hP
    have hD : va_D A (mW ad kA (sR g 2 (upd (gR g 2) (s % (gN g 0)) ((gR g 2 (s % (gN g 0))) + 1))) z) := hD
    refine lv_iconst (v := 3) hx hb dX6_attemptNow_26 (by decide) ?_
    have hq : sp_attemptNow s d g = (3, sR g 2 (upd (gR g 2) (s % (gN g 0)) ((gR g 2 (s % (gN g 0))) + 1))) := by rw [sp_attemptNow, if_neg c_13]
    exact rt _ (mW ad kA (sR g 2 (upd (gR g 2) (s % (gN g 0)) ((gR g 2 (s % (gN g 0))) + 1))) z) _ _ _ _ hP hD hS dX6_attemptNow_27 (by show _ ∧ _; rw [hq]; exact ⟨rfl, rfl⟩)

set_option maxRecDepth 100000 in
set_option maxHeartbeats 4000000 in
theorem kX6_attempt (l : Launch) (D : va_G) (kA : Nat → ClassId) (sz : Nat) (ad : Nat → Nat) (g : Sg) (z : Zm) (p1 p2 : Int32) (hI : Inv g) : CtI l yX6_attempt cX6_attempt 3 .int 2 D kA sz (mW ad kA g z) [.ref (ad 0), .int p1, .int p2] (fun r u => r = (sp_attempt p1 p2 g).1 ∧ u = mW ad kA (sp_attempt p1 p2 g).2 z) := by
  refine ct_i (own := RX6) (by decide) rfl (Nat.le_of_ble_eq_true rfl) ?_
  intro p_ e_ s_ m_ ar_ bw_ me_ co_ A ls Q F hnm hK hA hP hD hS hl hsz rt
  have hx := F.1
  have hb := F.2.1
  have hl : lv_has ls 3 [(0, .ref (ad 0)), (1, .int p1), (2, .int p2)] := hl
  have hP : va_P D vwCl (mW ad kA g z) s_.heap := hP
  obtain ⟨⟨hc1, hc2⟩, ha, hn, hu, hd, hup, hlo, hso, hv⟩ := id hI
  refine lv_iload_n hx hb dX6_attempt_0 rfl (lv_at hl 1 rfl) ?_
  refine cl_S_i (wc := []) (As := [.int p1]) (rest := []) F hK P_nil D_nil hS hA (kX6_isSource l D kA _ p1 ) gw_685 gw_71 gw_683 gw_684 hdX6_isSource ⟨Nat.le_of_ble_eq_true rfl, Nat.le_of_ble_eq_true rfl⟩ hl.1 rfl (Nat.le_of_ble_eq_true rfl) dX6_attempt_1 ⟨Nat.le_of_ble_eq_true rfl, Nat.le_of_ble_eq_true rfl⟩ (fun r_1 u_1 H locs hw hP1 hD1 hk1 hFc hS => ?_)
  obtain ⟨rfl, rfl⟩ := hw
  have hP := hp_non hP hk1
  refine b_bne F (P := 0 ≤ p1 ∧ p1 ≤ 7) (tgt := 10) dX6_attempt_4 (by decide) (fun c_4 => ?_) (fun c_4 => ?_)
  · obtain ⟨s, hs, rfl⟩ := nat_of (n := 7) (by decide) c_4.1 c_4.2
    refine lv_iload_n hx hb dX6_attempt_10 rfl (lv_at hl 2 rfl) ?_
    refine cl_S_i (wc := []) (As := [.int p2]) (rest := []) F hK P_nil D_nil hS hA (kX6_isDestination l D kA _ p2 ) gw_688 gw_71 gw_686 gw_687 hdX6_isDestination ⟨Nat.le_of_ble_eq_true rfl, Nat.le_of_ble_eq_true rfl⟩ hl.1 rfl (Nat.le_of_ble_eq_true rfl) dX6_attempt_11 ⟨Nat.le_of_ble_eq_true rfl, Nat.le_of_ble_eq_true rfl⟩ (fun r_11 u_11 H locs hw hP1 hD1 hk1 hFc hS => ?_)
    obtain ⟨rfl, rfl⟩ := hw
    have hP := hp_non hP hk1
    refine b_beq F (P := 0 ≤ p2 ∧ p2 ≤ 31) (tgt := 26) dX6_attempt_14 (by decide) (fun c_14 => ?_) (fun c_14 => ?_)
    · refine lv_bipush (v := (-106)) hx hb dX6_attempt_26 (by decide) ?_
      have hq : sp_attempt (nI s) p2 g = (-106, g) := by rw [sp_attempt, if_pos c_4, if_neg c_14]
      exact rt _ (mW ad kA g z) _ _ _ _ hP hD hS dX6_attempt_28 (by show _ ∧ _; rw [hq]; exact ⟨rfl, rfl⟩)
    · obtain ⟨d, hd, rfl⟩ := nat_of (n := 31) (by decide) c_14.1 c_14.2
      refine lv_aload_n hx hb dX6_attempt_17 rfl (lv_at hl 0 rfl) ?_
      refine lv_iload_n hx hb dX6_attempt_18 rfl (lv_at hl 1 rfl) ?_
      refine lv_iload_n hx hb dX6_attempt_19 rfl (lv_at hl 2 rfl) ?_
      refine cl_V_i (wc := (mW ad kA g z)) (As := [.int (nI s), .int (nI d)]) (rest := []) (b := (ad 0)) (C := RX6) F hK hP hD hS hA (kX6_attemptNow l D kA _ ad g z s d (by omega) (by omega) ⟨⟨hc1, hc2⟩, ha⟩) gw_720 gw_71 gw_717 gw_719 gw_51 (va_recv hK.1 hP (ci := 6) (q0 := 0) rfl rfl) hdX6_attemptNow ⟨Nat.le_of_ble_eq_true rfl, Nat.le_of_ble_eq_true rfl⟩ hl.1 rfl (Nat.le_of_ble_eq_true rfl) dX6_attempt_20 ⟨Nat.le_of_ble_eq_true rfl, Nat.le_of_ble_eq_true rfl⟩ (fun r_20 u_20 H locs hw hP1 hD1 hk1 hFc hS => ?_)
      obtain ⟨rfl, rfl⟩ := hw
      have hP : va_P D vwCl (mW ad kA ((sp_attemptNow s d g).2) z) H := hP1
      have hD : va_D A (mW ad kA ((sp_attemptNow s d g).2) z) := hD1.weaken (fun _ _ _ h => hFc _ h)
      refine lv_goto (tgt := 28) hx hb dX6_attempt_23 (by decide) ?_
      have hq : sp_attempt (nI s) (nI d) g = sp_attemptNow s d g := by rw [sp_attempt, if_pos c_4, if_pos c_14, nI_clamp (by omega), nI_clamp (by omega)]
      exact rt _ (mW ad kA ((sp_attemptNow s d g).2) z) _ _ _ _ hP hD hS dX6_attempt_28 (by show _ ∧ _; rw [hq]; exact ⟨rfl, rfl⟩)
  · refine lv_bipush (v := (-105)) hx hb dX6_attempt_7 (by decide) ?_
    have hq : sp_attempt p1 p2 g = (-105, g) := by rw [sp_attempt, if_neg c_4]
    exact rt _ (mW ad kA g z) _ _ _ _ hP hD hS dX6_attempt_9 (by show _ ∧ _; rw [hq]; exact ⟨rfl, rfl⟩)

set_option maxRecDepth 100000 in
set_option maxHeartbeats 4000000 in
theorem kX6_answer (l : Launch) (D : va_G) (kA : Nat → ClassId) (sz : Nat) (ad : Nat → Nat) (g : Sg) (z : Zm) (p1 p2 : Int32) (hI : Inv g) (hL : RgM (gV g) (zL z)) : CtI l yX6_answer cX6_answer 4 .int 3 D kA sz (mW ad kA g z) [.ref (ad 0), .int p1, .int p2] (fun r u => r = (sp_answer p1 p2 g).1 ∧ mQ ad kA (sp_answer p1 p2 g).2 z u) := by
  refine ct_i (own := RX6) (by decide) rfl (Nat.le_of_ble_eq_true rfl) ?_
  intro p_ e_ s_ m_ ar_ bw_ me_ co_ A ls Q F hnm hK hA hP hD hS hl hsz rt
  have hx := F.1
  have hb := F.2.1
  have hl : lv_has ls 4 [(0, .ref (ad 0)), (1, .int p1), (2, .int p2)] := hl
  have hP : va_P D vwCl (mW ad kA g z) s_.heap := hP
  obtain ⟨⟨hc1, hc2⟩, ha, hn, hu, hd, hup, hlo, hso, hv⟩ := id hI
  refine lv_iconst (v := 0) hx hb dX6_answer_0 (by decide) ?_
  refine lv_istore_n (lv' := [(3, .int 0), (0, .ref (ad 0)), (1, .int p1), (2, .int p2)]) hx hb dX6_answer_1 rfl hl (by decide) rfl (fun ls hl => ?_)
  have lp_2 : ∀ (n_2 : Nat) (k : Nat), (k ≤ gN g 1) → (∀ j, j < k → decide (gR g 4 j = p1 ∧ gR g 5 j = p2) = false) → (12 - k) < n_2 → ∀ (H : Heap) (locs : List Loc) (ls : Array Slot), va_P D vwCl (mW ad kA g z) H → va_D A (mW ad kA g z) → va_S A s_.heap H locs → lv_has ls 4 [(0, .ref (ad 0)), (1, .int p1), (2, .int p2), (3, .int (nI k))] → W p_ l e_ (rmC 3 0 0) s_ m_ ar_ bw_ me_ co_ H locs 0 0 Q (F0 m_ 2 ls []) := by
    intro n_2
    induction n_2 with
    | zero =>
      intro k hk hnf hm_2
      exact absurd hm_2 (Nat.not_lt_zero _)
    | succ n_2 ih_2 =>
      intro k hk hnf hm_2 H locs ls hP hD hS hl
      refine lv_iload_n hx hb dX6_answer_2 rfl (lv_at hl 3 rfl) ?_
      refine lv_aload_n hx hb dX6_answer_3 rfl (lv_at hl 0 rfl) ?_
      refine g_get F hK hP inX6 0 rfl rfl 12 (by decide) gw_588 rfl (v := .int (nI (gN g 1))) rfl dX6_answer_4 ?_
      refine b_ge F (a := k) (b := gN g 1) (tgt := 53) dX6_answer_7 (by decide) (by omega) (by omega) (fun c_7 => ?_) (fun c_7 => ?_)
      · refine lv_bipush (v := (-108)) hx hb dX6_answer_53 (by decide) ?_
        have hq : sp_answer p1 p2 g = (-108, g) := by rw [sp_answer, show fiA p1 p2 g = none from fi_none (fun j hj => hnf j (by omega))]
        exact rt _ (mW ad kA g z) _ _ _ _ hP hD hS dX6_answer_55 (by show _ ∧ _; rw [hq]; exact ⟨rfl, zL z, hL, rfl⟩)
      · refine lv_aload_n hx hb dX6_answer_10 rfl (lv_at hl 0 rfl) ?_
        refine g_get F hK hP inX6 0 rfl rfl 13 (by decide) gw_589 rfl (v := .ref (ad 6)) rfl dX6_answer_11 ?_
        refine lv_iload_n hx hb dX6_answer_14 rfl (lv_at hl 3 rfl) ?_
        refine a_ild F hK hP 6 (f := gR g 4) rfl (j := k) (by omega) (by decide) dX6_answer_15 ?_
        refine lv_iload_n hx hb dX6_answer_16 rfl (lv_at hl 1 rfl) ?_
        refine lv_icmp_ne (tgt := 47) hx hb dX6_answer_17 (by decide) (fun c_17 => ?_) (fun c_17 => ?_)
        · refine lv_iinc (v := nI (k + 1)) (lv' := [(3, .int (nI (k + 1))), (0, .ref (ad 0)), (1, .int p1), (2, .int p2)]) hx hb dX6_answer_47 hl (k := 3) rfl (nI_add k 1) (by decide) rfl (fun ls hl => ?_)
          refine lv_goto (tgt := 2) hx hb dX6_answer_50 (by decide) ?_
          exact ih_2  (k + 1) (by omega) (lt_s hnf (by simp [c_17])) (by omega) _ _ _ hP hD hS (lv_sub hl [1, 2, 3, 0] rfl)
        · refine lv_aload_n hx hb dX6_answer_20 rfl (lv_at hl 0 rfl) ?_
          refine g_get F hK hP inX6 0 rfl rfl 14 (by decide) gw_590 rfl (v := .ref (ad 7)) rfl dX6_answer_21 ?_
          refine lv_iload_n hx hb dX6_answer_24 rfl (lv_at hl 3 rfl) ?_
          refine a_ild F hK hP 7 (f := gR g 5) rfl (j := k) (by omega) (by decide) dX6_answer_25 ?_
          refine lv_iload_n hx hb dX6_answer_26 rfl (lv_at hl 2 rfl) ?_
          refine lv_icmp_ne (tgt := 47) hx hb dX6_answer_27 (by decide) (fun c_27 => ?_) (fun c_27 => ?_)
          · refine lv_iinc (v := nI (k + 1)) (lv' := [(3, .int (nI (k + 1))), (0, .ref (ad 0)), (1, .int p1), (2, .int p2)]) hx hb dX6_answer_47 hl (k := 3) rfl (nI_add k 1) (by decide) rfl (fun ls hl => ?_)
            refine lv_goto (tgt := 2) hx hb dX6_answer_50 (by decide) ?_
            exact ih_2  (k + 1) (by omega) (lt_s hnf (by simp [c_27])) (by omega) _ _ _ hP hD hS (lv_sub hl [1, 2, 3, 0] rfl)
          · obtain ⟨sx, hsx, he⟩ := hso k (by omega)
            obtain rfl : p1 = nI sx := c_17.symm.trans he
            refine lv_aload_n hx hb dX6_answer_30 rfl (lv_at hl 0 rfl) ?_
            refine lv_iload_n hx hb dX6_answer_31 rfl (lv_at hl 3 rfl) ?_
            refine cl_V_v (wc := (mW ad kA g z)) (As := [.int (nI k)]) (rest := []) (b := (ad 0)) (C := RX6) F hK hP hD hS hA (kX6_drop l D kA _ ad g z k (by omega) ha) gw_708 gw_71 gw_705 gw_707 gw_49 (va_recv hK.1 hP (ci := 6) (q0 := 0) rfl rfl) hdX6_drop ⟨Nat.le_of_ble_eq_true rfl, Nat.le_of_ble_eq_true rfl⟩ hl.1 rfl (Nat.le_of_ble_eq_true rfl) dX6_answer_32 ⟨Nat.le_of_ble_eq_true rfl, Nat.le_of_ble_eq_true rfl⟩ (fun u_32 H locs hw hP1 hD1 hk1 hFc hS => ?_)
            obtain rfl := hw
            have hP : va_P D vwCl (mW ad kA (sp_drop k g) z) H := hP1
            have hD : va_D A (mW ad kA (sp_drop k g) z) := hD1.weaken (fun _ _ _ h => hFc _ h)
            refine lv_aload_n hx hb dX6_answer_35 rfl (lv_at hl 0 rfl) ?_
            refine lv_iload_n hx hb dX6_answer_36 rfl (lv_at hl 1 rfl) ?_
            refine lv_aload_n hx hb dX6_answer_37 rfl (lv_at hl 0 rfl) ?_
            refine g_get F hK hP inX6 0 rfl rfl 0 (by decide) gw_576 rfl (v := .int (nI (gN g 0))) rfl dX6_answer_38 ?_
            refine n_rem F (a := sx) (b := gN g 0) dX6_answer_41 (by omega) (by omega) (by omega) ?_
            refine lv_iconst (v := 1) hx hb dX6_answer_42 (by decide) ?_
            refine cl_V_i (wc := (mW ad kA (sp_drop k g) z)) (As := [.int (nI (sx % (gN g 0))), .int 1]) (rest := []) (b := (ad 0)) (C := RX6) F hK hP hD hS hA (kX6_count l D kA _ ad (sp_drop k g) z (sx % (gN g 0)) 1 (Nat.lt_of_lt_of_le (Nat.mod_lt _ hc1) hc2) ((kp_drop (by omega)).mn ⟨⟨hc1, hc2⟩, ha⟩) hL) gw_700 gw_71 gw_697 gw_699 gw_47 (va_recv hK.1 hP (ci := 6) (q0 := 0) rfl rfl) hdX6_count ⟨Nat.le_of_ble_eq_true rfl, Nat.le_of_ble_eq_true rfl⟩ hl.1 rfl (Nat.le_of_ble_eq_true rfl) dX6_answer_43 ⟨Nat.le_of_ble_eq_true rfl, Nat.le_of_ble_eq_true rfl⟩ (fun r_43 u_43 H locs hw hP1 hD1 hk1 hFc hS => ?_)
            obtain ⟨rfl, L_43, hL_43, rfl⟩ := hw
            have hP : va_P D vwCl (mW ad kA ((sp_settle (sx % (gN g 0)) 1 (sp_drop k g)).2) (tL z L_43)) H := hP1
            have hD : va_D A (mW ad kA ((sp_settle (sx % (gN g 0)) 1 (sp_drop k g)).2) (tL z L_43)) := hD1.weaken (fun _ _ _ h => hFc _ h)
            have hq : sp_answer (nI sx) p2 g = sp_settle (sx % gN g 0) 1 (sp_drop k g) := by rw [sp_answer, show fiA (nI sx) p2 g = some k from fi_some c_7 (by simp [c_17, c_27]) hnf, nI_clamp (by omega)]
            exact rt _ (mW ad kA ((sp_settle (sx % (gN g 0)) 1 (sp_drop k g)).2) (tL z L_43)) _ _ _ _ hP hD hS dX6_answer_46 (by show _ ∧ _; rw [hq]; exact ⟨rfl, L_43, hL_43, rfl⟩)
  exact lp_2 _ 0 (Nat.zero_le _) (fun j hj => absurd hj (Nat.not_lt_zero _)) (Nat.lt_succ_self _) _ _ _ hP hD hS (lv_sub hl [1, 2, 3, 0] rfl)

set_option maxRecDepth 100000 in
set_option maxHeartbeats 4000000 in
theorem kX6_due (l : Launch) (D : va_G) (kA : Nat → ClassId) (sz : Nat) (ad : Nat → Nat) (g : Sg) (z : Zm) (ha : gN g 1 ≤ 12) : CtI l yX6_due cX6_due 2 .int 0 D kA sz (mW ad kA g z) [.ref (ad 0)] (fun r u => r = optI (fiD g) ∧ u = mW ad kA g z) := by
  refine ct_i (own := RX6) (by decide) rfl (Nat.le_of_ble_eq_true rfl) ?_
  intro p_ e_ s_ m_ ar_ bw_ me_ co_ A ls Q F hnm hK hA hP hD hS hl hsz rt
  have hx := F.1
  have hb := F.2.1
  have hl : lv_has ls 2 [(0, .ref (ad 0))] := hl
  have hP : va_P D vwCl (mW ad kA g z) s_.heap := hP
  refine lv_iconst (v := 0) hx hb dX6_due_0 (by decide) ?_
  refine lv_istore_n (lv' := [(1, .int 0), (0, .ref (ad 0))]) hx hb dX6_due_1 rfl hl (by decide) rfl (fun ls hl => ?_)
  have lp_2 : ∀ (n_2 : Nat) (k : Nat), (k ≤ gN g 1) → (∀ j, j < k → decide (gR g 6 j = gI g 5) = false) → (12 - k) < n_2 → ∀ (H : Heap) (locs : List Loc) (ls : Array Slot), va_P D vwCl (mW ad kA g z) H → va_D A (mW ad kA g z) → va_S A s_.heap H locs → lv_has ls 2 [(0, .ref (ad 0)), (1, .int (nI k))] → W p_ l e_ (rmC 0 0 0) s_ m_ ar_ bw_ me_ co_ H locs 0 0 Q (F0 m_ 2 ls []) := by
    intro n_2
    induction n_2 with
    | zero =>
      intro k hk hnf hm_2
      exact absurd hm_2 (Nat.not_lt_zero _)
    | succ n_2 ih_2 =>
      intro k hk hnf hm_2 H locs ls hP hD hS hl
      refine lv_iload_n hx hb dX6_due_2 rfl (lv_at hl 1 rfl) ?_
      refine lv_aload_n hx hb dX6_due_3 rfl (lv_at hl 0 rfl) ?_
      refine g_get F hK hP inX6 0 rfl rfl 12 (by decide) gw_588 rfl (v := .int (nI (gN g 1))) rfl dX6_due_4 ?_
      refine b_ge F (a := k) (b := gN g 1) (tgt := 31) dX6_due_7 (by decide) (by omega) (by omega) (fun c_7 => ?_) (fun c_7 => ?_)
      · refine lv_iconst (v := (-1)) hx hb dX6_due_31 (by decide) ?_
        exact rt _ (mW ad kA g z) _ _ _ _ hP hD hS dX6_due_32 (⟨by rw [show fiD g = none from fi_none (fun j hj => hnf j (by omega))]; rfl, rfl⟩)
      · refine lv_aload_n hx hb dX6_due_10 rfl (lv_at hl 0 rfl) ?_
        refine g_get F hK hP inX6 0 rfl rfl 15 (by decide) gw_591 rfl (v := .ref (ad 8)) rfl dX6_due_11 ?_
        refine lv_iload_n hx hb dX6_due_14 rfl (lv_at hl 1 rfl) ?_
        refine a_ild F hK hP 8 (f := gR g 6) rfl (j := k) (by omega) (by decide) dX6_due_15 ?_
        refine lv_aload_n hx hb dX6_due_16 rfl (lv_at hl 0 rfl) ?_
        refine g_get F hK hP inX6 0 rfl rfl 6 (by decide) gw_582 rfl (v := .int (gI g 5)) rfl dX6_due_17 ?_
        refine lv_icmp_ne (tgt := 25) hx hb dX6_due_20 (by decide) (fun c_20 => ?_) (fun c_20 => ?_)
        · refine lv_iinc (v := nI (k + 1)) (lv' := [(1, .int (nI (k + 1))), (0, .ref (ad 0))]) hx hb dX6_due_25 hl (k := 1) rfl (nI_add k 1) (by decide) rfl (fun ls hl => ?_)
          refine lv_goto (tgt := 2) hx hb dX6_due_28 (by decide) ?_
          exact ih_2  (k + 1) (by omega) (lt_s hnf (by simp [c_20])) (by omega) _ _ _ hP hD hS (lv_sub hl [1, 0] rfl)
        · refine lv_iload_n hx hb dX6_due_23 rfl (lv_at hl 1 rfl) ?_
          exact rt _ (mW ad kA g z) _ _ _ _ hP hD hS dX6_due_24 (⟨by rw [show fiD g = some k from fi_some c_7 (by simp [c_20]) hnf]; rfl, rfl⟩)
  exact lp_2 _ 0 (Nat.zero_le _) (fun j hj => absurd hj (Nat.not_lt_zero _)) (Nat.lt_succ_self _) _ _ _ hP hD hS (lv_sub hl [1, 0] rfl)

set_option maxRecDepth 100000 in
set_option maxHeartbeats 4000000 in
theorem kX6_tick (l : Launch) (D : va_G) (kA : Nat → ClassId) (sz : Nat) (ad : Nat → Nat) (g : Sg) (z : Zm) (hM : Mn g) (hSo : SoOK g) (hL : RgM (gV g) (zL z)) : CtI l yX6_tick cX6_tick 4 .int 3 D kA sz (mW ad kA g z) [.ref (ad 0)] (fun r u => r = nI (sp_tick g).1 ∧ mQ ad kA (sp_tick g).2 z u) := by
  refine ct_i (own := RX6) (by decide) rfl (Nat.le_of_ble_eq_true rfl) ?_
  intro p_ e_ s_ m_ ar_ bw_ me_ co_ A ls Q F hnm hK hA hP hD hS hl hsz rt
  have hx := F.1
  have hb := F.2.1
  have hl : lv_has ls 4 [(0, .ref (ad 0))] := hl
  have hP : va_P D vwCl (mW ad kA g z) s_.heap := hP
  refine lv_aload_n hx hb dX6_tick_0 rfl (lv_at hl 0 rfl) ?_
  refine lv_dup hx hb dX6_tick_1 rfl ?_
  refine g_get F hK hP inX6 0 rfl rfl 6 (by decide) gw_582 rfl (v := .int (gI g 5)) rfl dX6_tick_2 ?_
  refine lv_iconst (v := 1) hx hb dX6_tick_5 (by decide) ?_
  refine lv_iadd hx hb dX6_tick_6 ?_
  refine g_put F hK hP hD hS inX6 tyX6_ok nmX6 0 rfl rfl 6 (by decide) gw_582 rfl rfl rfl rfl (Nat.le_of_ble_eq_true rfl) dX6_tick_7 (fun H locs hP hD hS => ?_)
  have hP : va_P D vwCl (mW ad kA (sI g 5 ((gI g 5) + 1)) z) H := hP
  have hD : va_D A (mW ad kA (sI g 5 ((gI g 5) + 1)) z) := hD
  refine lv_iconst (v := 0) hx hb dX6_tick_10 (by decide) ?_
  refine lv_istore_n (lv' := [(1, .int 0), (0, .ref (ad 0))]) hx hb dX6_tick_11 rfl hl (by decide) rfl (fun ls hl => ?_)
  refine lv_aload_n hx hb dX6_tick_12 rfl (lv_at hl 1 rfl) ?_
  refine cl_V_i (wc := (mW ad kA (sI g 5 ((gI g 5) + 1)) z)) (As := []) (rest := []) (b := (ad 0)) (C := RX6) F hK hP hD hS hA (kX6_due l D kA _ ad (sI g 5 ((gI g 5) + 1)) z  hM.2) gw_736 gw_71 gw_733 gw_735 gw_53 (va_recv hK.1 hP (ci := 6) (q0 := 0) rfl rfl) hdX6_due ⟨Nat.le_of_ble_eq_true rfl, Nat.le_of_ble_eq_true rfl⟩ hl.1 rfl (Nat.le_of_ble_eq_true rfl) dX6_tick_13 ⟨Nat.le_of_ble_eq_true rfl, Nat.le_of_ble_eq_true rfl⟩ (fun r_13 u_13 H locs hw hP1 hD1 hk1 hFc hS => ?_)
  obtain ⟨rfl, rfl⟩ := hw
  have hP : va_P D vwCl (mW ad kA (sI g 5 ((gI g 5) + 1)) z) H := hP1
  have hD : va_D A (mW ad kA (sI g 5 ((gI g 5) + 1)) z) := hD1.weaken (fun _ _ _ h => hFc _ h)
  refine lv_istore_n (lv' := [(2, .int (optI (fiD (sI g 5 ((gI g 5) + 1))))), (1, .int 0), (0, .ref (ad 0))]) hx hb dX6_tick_16 rfl hl (by decide) rfl (fun ls hl => ?_)
  have lp_17 : ∀ (n_17 : Nat) (q : Nat) (f : Nat) (g1 : Sg) (L1 : Nat → Int32), (Mn g1) → (SoOK g1) → (gN g1 1 ≤ q) → (RgM (gV g1) L1) → (tkL q f g1 = tkL 12 0 (sI g 5 (gI g 5 + 1))) → q < n_17 → ∀ (H : Heap) (locs : List Loc) (ls : Array Slot), va_P D vwCl (mW ad kA g1 (tL z L1)) H → va_D A (mW ad kA g1 (tL z L1)) → va_S A s_.heap H locs → lv_has ls 4 [(0, .ref (ad 0)), (1, .int (nI f)), (2, .int (optI (fiD g1)))] → W p_ l e_ (rmC 3 0 0) s_ m_ ar_ bw_ me_ co_ H locs 0 0 Q (F0 m_ 17 ls []) := by
    intro n_17
    induction n_17 with
    | zero =>
      intro q f g1 L1 hM1 hS1 hq hL1 hg hm_17
      exact absurd hm_17 (Nat.not_lt_zero _)
    | succ n_17 ih_17 =>
      intro q f g1 L1 hM1 hS1 hq hL1 hg hm_17 H locs ls hP hD hS hl
      obtain ⟨⟨hm1, hm2⟩, hm3⟩ := id hM1
      refine lv_iload_n hx hb dX6_tick_17 rfl (lv_at hl 2 rfl) ?_
      refine lv_if_lt (tgt := 56) hx hb dX6_tick_18 (by decide) (fun c_18 => ?_) (fun c_18 => ?_)
      · have hd0 : fiD g1 = none := optI_none (fun k h => by have := fiD_lt h; omega) c_18
        have hqf : tkL q f g1 = (f, g1) := by cases q with | zero => rfl | succ q => rw [tkL, hd0]
        refine lv_iload_n hx hb dX6_tick_56 rfl (lv_at hl 1 rfl) ?_
        exact rt _ (mW ad kA g1 (tL z L1)) _ _ _ _ hP hD hS dX6_tick_57 (by show _ ∧ _; rw [sp_tick, ← hg, hqf]; exact ⟨rfl, L1, hL1, rfl⟩)
      · obtain ⟨k, hd0⟩ := optI_some c_18
        have hk := fiD_lt hd0
        obtain ⟨q, rfl⟩ : ∃ q2, q = q2 + 1 := ⟨q - 1, by omega⟩
        have hkt := kp_tkS hk
        have hl : lv_has ls 4 [(0, .ref (ad 0)), (1, .int (nI f)), (2, .int (nI k))] := by rw [hd0] at hl; exact hl
        refine lv_aload_n hx hb dX6_tick_21 rfl (lv_at hl 0 rfl) ?_
        refine g_get F hK hP inX6 0 rfl rfl 13 (by decide) gw_589 rfl (v := .ref (ad 6)) rfl dX6_tick_22 ?_
        refine lv_iload_n hx hb dX6_tick_25 rfl (lv_at hl 2 rfl) ?_
        obtain ⟨sx, hsx, hsx2⟩ := hS1 k hk
        refine a_ild F hK hP 6 (f := gR g1 4) rfl (j := k) (by omega) (by decide) dX6_tick_26 ?_
        rw [show (gR g1 4 k) = (nI sx) from hsx2]
        refine lv_aload_n hx hb dX6_tick_27 rfl (lv_at hl 0 rfl) ?_
        refine g_get F hK hP inX6 0 rfl rfl 0 (by decide) gw_576 rfl (v := .int (nI (gN g1 0))) rfl dX6_tick_28 ?_
        refine n_rem F (a := sx) (b := gN g1 0) dX6_tick_31 (by omega) (by omega) (by omega) ?_
        refine lv_istore_n (lv' := [(3, .int (nI (sx % (gN g1 0)))), (0, .ref (ad 0)), (1, .int (nI f)), (2, .int (nI k))]) hx hb dX6_tick_32 rfl hl (by decide) rfl (fun ls hl => ?_)
        refine lv_aload_n hx hb dX6_tick_33 rfl (lv_at hl 1 rfl) ?_
        refine lv_iload_n hx hb dX6_tick_34 rfl (lv_at hl 3 rfl) ?_
        refine cl_V_v (wc := (mW ad kA g1 (tL z L1))) (As := [.int (nI k)]) (rest := []) (b := (ad 0)) (C := RX6) F hK hP hD hS hA (kX6_drop l D kA _ ad g1 (tL z L1) k hk hm3) gw_708 gw_71 gw_705 gw_707 gw_49 (va_recv hK.1 hP (ci := 6) (q0 := 0) rfl rfl) hdX6_drop ⟨Nat.le_of_ble_eq_true rfl, Nat.le_of_ble_eq_true rfl⟩ hl.1 rfl (Nat.le_of_ble_eq_true rfl) dX6_tick_35 ⟨Nat.le_of_ble_eq_true rfl, Nat.le_of_ble_eq_true rfl⟩ (fun u_35 H locs hw hP1 hD1 hk1 hFc hS => ?_)
        obtain rfl := hw
        have hP : va_P D vwCl (mW ad kA (sp_drop k g1) (tL z L1)) H := hP1
        have hD : va_D A (mW ad kA (sp_drop k g1) (tL z L1)) := hD1.weaken (fun _ _ _ h => hFc _ h)
        refine lv_aload_n hx hb dX6_tick_38 rfl (lv_at hl 1 rfl) ?_
        refine lv_iload_n hx hb dX6_tick_39 rfl (lv_at hl 0 rfl) ?_
        refine lv_iconst (v := 0) hx hb dX6_tick_40 (by decide) ?_
        have hcx : sx % gN g1 0 = (gR g1 4 k).toNatClampNeg % gN g1 0 := by rw [hsx2, nI_clamp (by omega)]
        refine cl_V_i (wc := (mW ad kA (sp_drop k g1) (tL z L1))) (As := [.int (nI (sx % (gN g1 0))), .int 0]) (rest := []) (b := (ad 0)) (C := RX6) F hK hP hD hS hA (kX6_count l D kA _ ad (sp_drop k g1) (tL z L1) (sx % (gN g1 0)) 0 (Nat.lt_of_lt_of_le (Nat.mod_lt _ hm1) hm2) ((kp_drop hk).mn hM1) hL1) gw_700 gw_71 gw_697 gw_699 gw_47 (va_recv hK.1 hP (ci := 6) (q0 := 0) rfl rfl) hdX6_count ⟨Nat.le_of_ble_eq_true rfl, Nat.le_of_ble_eq_true rfl⟩ hl.1 rfl (Nat.le_of_ble_eq_true rfl) dX6_tick_41 ⟨Nat.le_of_ble_eq_true rfl, Nat.le_of_ble_eq_true rfl⟩ (fun r_41 u_41 H locs hw hP1 hD1 hk1 hFc hS => ?_)
        obtain ⟨rfl, L_41, hL_41, rfl⟩ := hw
        have hP : va_P D vwCl (mW ad kA ((sp_settle (sx % (gN g1 0)) 0 (sp_drop k g1)).2) (tL (tL z L1) L_41)) H := hP1
        have hD : va_D A (mW ad kA ((sp_settle (sx % (gN g1 0)) 0 (sp_drop k g1)).2) (tL (tL z L1) L_41)) := hD1.weaken (fun _ _ _ h => hFc _ h)
        rw [hcx] at hP hD hL_41 ⊢
        refine lv_pop hx hb dX6_tick_44 rfl ?_
        have hP : va_P D vwCl (mW ad kA (tkS k g1) (tL (tL z L1) L_41)) H := hP
        have hD : va_D A (mW ad kA (tkS k g1) (tL (tL z L1) L_41)) := hD
        refine lv_iinc (v := nI (f + 1)) (lv' := [(1, .int (nI (f + 1))), (3, .int (nI (sx % (gN g1 0)))), (0, .ref (ad 0)), (2, .int (nI k))]) hx hb dX6_tick_45 hl (k := 2) rfl (nI_add f 1) (by decide) rfl (fun ls hl => ?_)
        refine lv_aload_n hx hb dX6_tick_48 rfl (lv_at hl 2 rfl) ?_
        refine cl_V_i (wc := (mW ad kA (tkS k g1) (tL (tL z L1) L_41))) (As := []) (rest := []) (b := (ad 0)) (C := RX6) F hK hP hD hS hA (kX6_due l D kA _ ad (tkS k g1) (tL (tL z L1) L_41)  (hkt.1.mn hM1).2) gw_736 gw_71 gw_733 gw_735 gw_53 (va_recv hK.1 hP (ci := 6) (q0 := 0) rfl rfl) hdX6_due ⟨Nat.le_of_ble_eq_true rfl, Nat.le_of_ble_eq_true rfl⟩ hl.1 rfl (Nat.le_of_ble_eq_true rfl) dX6_tick_49 ⟨Nat.le_of_ble_eq_true rfl, Nat.le_of_ble_eq_true rfl⟩ (fun r_49 u_49 H locs hw hP1 hD1 hk1 hFc hS => ?_)
        obtain ⟨rfl, rfl⟩ := hw
        have hP : va_P D vwCl (mW ad kA (tkS k g1) (tL (tL z L1) L_41)) H := hP1
        have hD : va_D A (mW ad kA (tkS k g1) (tL (tL z L1) L_41)) := hD1.weaken (fun _ _ _ h => hFc _ h)
        refine lv_istore_n (lv' := [(2, .int (optI (fiD (tkS k g1)))), (1, .int (nI (f + 1))), (3, .int (nI (sx % (gN g1 0)))), (0, .ref (ad 0))]) hx hb dX6_tick_52 rfl hl (by decide) rfl (fun ls hl => ?_)
        refine lv_goto (tgt := 17) hx hb dX6_tick_53 (by decide) ?_
        exact ih_17  q (f + 1) (tkS k g1) L_41 (hkt.1.mn hM1) (hkt.1.2.2.2.2.2 hS1) (by have := hkt.2.1; omega) hL_41 (by rw [← hg, tkL, hd0]) (by omega) _ _ _ hP hD hS (lv_sub hl [3, 1, 0] rfl)
  exact lp_17 _ 12 0 (sI g 5 (gI g 5 + 1)) (zL z) hM hSo hM.2 hL rfl (Nat.lt_succ_self _) _ _ _ hP hD hS (lv_sub hl [2, 1, 0] rfl)

set_option maxRecDepth 100000 in
set_option maxHeartbeats 4000000 in
theorem kX6_advance (l : Launch) (D : va_G) (kA : Nat → ClassId) (sz : Nat) (ad : Nat → Nat) (g : Sg) (z : Zm) (p1 : Int32) (hI : Inv g) (hL : RgM (gV g) (zL z)) : CtI l yX6_advance cX6_advance 4 .int 4 D kA sz (mW ad kA g z) [.ref (ad 0), .int p1] (fun r u => r = (sp_advance p1 g).1 ∧ mQ ad kA (sp_advance p1 g).2 z u) := by
  refine ct_i (own := RX6) (by decide) rfl (Nat.le_of_ble_eq_true rfl) ?_
  intro p_ e_ s_ m_ ar_ bw_ me_ co_ A ls Q F hnm hK hA hP hD hS hl hsz rt
  have hx := F.1
  have hb := F.2.1
  have hl : lv_has ls 4 [(0, .ref (ad 0)), (1, .int p1)] := hl
  have hP : va_P D vwCl (mW ad kA g z) s_.heap := hP
  obtain ⟨⟨hc1, hc2⟩, ha, hn, hu, hd, hup, hlo, hso, hv⟩ := id hI
  refine lv_iload_n hx hb dX6_advance_0 rfl (lv_at hl 1 rfl) ?_
  refine lv_iconst (v := 1) hx hb dX6_advance_1 (by decide) ?_
  refine lv_bipush (v := 50) hx hb dX6_advance_2 (by decide) ?_
  refine cl_S_i (wc := []) (As := [.int p1, .int 1, .int 50]) (rest := []) F hK P_nil D_nil hS hA (kX6_within l D kA _ p1 1 50 ) gw_666 gw_71 gw_664 gw_665 hdX6_within ⟨Nat.le_of_ble_eq_true rfl, Nat.le_of_ble_eq_true rfl⟩ hl.1 rfl (Nat.le_of_ble_eq_true rfl) dX6_advance_4 ⟨Nat.le_of_ble_eq_true rfl, Nat.le_of_ble_eq_true rfl⟩ (fun r_4 u_4 H locs hw hP1 hD1 hk1 hFc hS => ?_)
  obtain ⟨rfl, rfl⟩ := hw
  have hP := hp_non hP hk1
  refine b_bne F (P := 1 ≤ p1 ∧ p1 ≤ 50) (tgt := 13) dX6_advance_7 (by decide) (fun c_7 => ?_) (fun c_7 => ?_)
  · obtain ⟨j, hj, rfl⟩ := nat_of (n := 50) (by decide) (Int32.le_trans (by decide) c_7.1) c_7.2
    refine lv_iconst (v := 0) hx hb dX6_advance_13 (by decide) ?_
    refine lv_istore_n (lv' := [(2, .int 0), (0, .ref (ad 0)), (1, .int (nI j))]) hx hb dX6_advance_14 rfl hl (by decide) rfl (fun ls hl => ?_)
    refine lv_iconst (v := 0) hx hb dX6_advance_15 (by decide) ?_
    refine lv_istore_n (lv' := [(3, .int 0), (2, .int 0), (0, .ref (ad 0)), (1, .int (nI j))]) hx hb dX6_advance_16 rfl hl (by decide) rfl (fun ls hl => ?_)
    have lp_17 : ∀ (n_17 : Nat) (i : Nat) (f : Nat) (g1 : Sg) (L1 : Nat → Int32), (i ≤ j) → (Mn g1) → (SoOK g1) → (RgM (gV g1) L1) → (adL (j - i) f g1 = adL j 0 g) → (j - i) < n_17 → ∀ (H : Heap) (locs : List Loc) (ls : Array Slot), va_P D vwCl (mW ad kA g1 (tL z L1)) H → va_D A (mW ad kA g1 (tL z L1)) → va_S A s_.heap H locs → lv_has ls 4 [(0, .ref (ad 0)), (1, .int (nI j)), (2, .int (nI f)), (3, .int (nI i))] → W p_ l e_ (rmC 4 0 0) s_ m_ ar_ bw_ me_ co_ H locs 0 0 Q (F0 m_ 17 ls []) := by
      intro n_17
      induction n_17 with
      | zero =>
        intro i f g1 L1 hi hM1 hS1 hL1 hg hm_17
        exact absurd hm_17 (Nat.not_lt_zero _)
      | succ n_17 ih_17 =>
        intro i f g1 L1 hi hM1 hS1 hL1 hg hm_17 H locs ls hP hD hS hl
        have hkt := (kp_tick g1).1
        refine lv_iload_n hx hb dX6_advance_17 rfl (lv_at hl 3 rfl) ?_
        refine lv_iload_n hx hb dX6_advance_18 rfl (lv_at hl 1 rfl) ?_
        refine b_ge F (a := i) (b := j) (tgt := 35) dX6_advance_19 (by decide) (by omega) (by omega) (fun c_19 => ?_) (fun c_19 => ?_)
        · refine lv_iload_n hx hb dX6_advance_35 rfl (lv_at hl 2 rfl) ?_
          have hq : sp_advance (nI j) g = (nI f, g1) := by rw [sp_advance, if_pos c_7, nI_clamp (by omega), ← hg, show j - i = 0 by omega]; rfl
          exact rt _ (mW ad kA g1 (tL z L1)) _ _ _ _ hP hD hS dX6_advance_36 (by show _ ∧ _; rw [hq]; exact ⟨rfl, L1, hL1, rfl⟩)
        · refine lv_iload_n hx hb dX6_advance_22 rfl (lv_at hl 2 rfl) ?_
          refine lv_aload_n hx hb dX6_advance_23 rfl (lv_at hl 0 rfl) ?_
          refine cl_V_i (wc := (mW ad kA g1 (tL z L1))) (As := []) (rest := [.int (nI f)]) (b := (ad 0)) (C := RX6) F hK hP hD hS hA (kX6_tick l D kA _ ad g1 (tL z L1)  hM1 hS1 hL1) gw_732 gw_71 gw_729 gw_731 gw_52 (va_recv hK.1 hP (ci := 6) (q0 := 0) rfl rfl) hdX6_tick ⟨Nat.le_of_ble_eq_true rfl, Nat.le_of_ble_eq_true rfl⟩ hl.1 rfl (Nat.le_of_ble_eq_true rfl) dX6_advance_24 ⟨Nat.le_of_ble_eq_true rfl, Nat.le_of_ble_eq_true rfl⟩ (fun r_24 u_24 H locs hw hP1 hD1 hk1 hFc hS => ?_)
          obtain ⟨rfl, L_24, hL_24, rfl⟩ := hw
          have hP : va_P D vwCl (mW ad kA ((sp_tick g1).2) (tL (tL z L1) L_24)) H := hP1
          have hD : va_D A (mW ad kA ((sp_tick g1).2) (tL (tL z L1) L_24)) := hD1.weaken (fun _ _ _ h => hFc _ h)
          refine n_add F (a := f) (b := (sp_tick g1).1) dX6_advance_27 ?_
          refine lv_istore_n (lv' := [(2, .int (nI (f + ((sp_tick g1).1)))), (0, .ref (ad 0)), (1, .int (nI j)), (3, .int (nI i))]) hx hb dX6_advance_28 rfl hl (by decide) rfl (fun ls hl => ?_)
          refine lv_iinc (v := nI (i + 1)) (lv' := [(3, .int (nI (i + 1))), (2, .int (nI (f + ((sp_tick g1).1)))), (0, .ref (ad 0)), (1, .int (nI j))]) hx hb dX6_advance_29 hl (k := 3) rfl (nI_add i 1) (by decide) rfl (fun ls hl => ?_)
          refine lv_goto (tgt := 17) hx hb dX6_advance_32 (by decide) ?_
          exact ih_17  (i + 1) (f + (sp_tick g1).1) ((sp_tick g1).2) L_24 (by omega) (hkt.mn (g := sI g1 5 (gI g1 5 + 1)) hM1) (hkt.2.2.2.2.2 hS1) hL_24 (by rw [← hg, show j - i = (j - (i + 1)) + 1 by omega, adL]) (by omega) _ _ _ hP hD hS (lv_sub hl [2, 3, 1, 0] rfl)
    exact lp_17 _ 0 0 g (zL z) (Nat.zero_le _) ⟨⟨hc1, hc2⟩, ha⟩ hso hL rfl (Nat.lt_succ_self _) _ _ _ hP hD hS (lv_sub hl [2, 3, 1, 0] rfl)
  · refine lv_bipush (v := (-104)) hx hb dX6_advance_10 (by decide) ?_
    have hq : sp_advance p1 g = (-104, g) := by rw [sp_advance, if_neg c_7]
    exact rt _ (mW ad kA g z) _ _ _ _ hP hD hS dX6_advance_12 (by show _ ∧ _; rw [hq]; exact ⟨rfl, zL z, hL, rfl⟩)

set_option maxRecDepth 100000 in
set_option maxHeartbeats 4000000 in
theorem kX6_unblock (l : Launch) (D : va_G) (kA : Nat → ClassId) (sz : Nat) (ad : Nat → Nat) (g : Sg) (z : Zm) (p1 : Int32) (hI : Inv g) : CtI l yX6_unblock cX6_unblock 3 .int 2 D kA sz (mW ad kA g z) [.ref (ad 0), .int p1] (fun r u => r = (sp_unblock p1 g).1 ∧ u = mW ad kA (sp_unblock p1 g).2 z) := by
  refine ct_i (own := RX6) (by decide) rfl (Nat.le_of_ble_eq_true rfl) ?_
  intro p_ e_ s_ m_ ar_ bw_ me_ co_ A ls Q F hnm hK hA hP hD hS hl hsz rt
  have hx := F.1
  have hb := F.2.1
  have hl : lv_has ls 3 [(0, .ref (ad 0)), (1, .int p1)] := hl
  have hP : va_P D vwCl (mW ad kA g z) s_.heap := hP
  obtain ⟨⟨hc1, hc2⟩, ha, hn, hu, hd, hup, hlo, hso, hv⟩ := id hI
  refine lv_aload_n hx hb dX6_unblock_0 rfl (lv_at hl 0 rfl) ?_
  refine lv_iload_n hx hb dX6_unblock_1 rfl (lv_at hl 1 rfl) ?_
  refine cl_V_i (wc := (mW ad kA g z)) (As := [.int p1]) (rest := []) (b := (ad 0)) (C := RX6) F hK hP hD hS hA (kX6_isCell l D kA _ ad g z p1 ) gw_744 gw_71 gw_741 gw_743 gw_54 (va_recv hK.1 hP (ci := 6) (q0 := 0) rfl rfl) hdX6_isCell ⟨Nat.le_of_ble_eq_true rfl, Nat.le_of_ble_eq_true rfl⟩ hl.1 rfl (Nat.le_of_ble_eq_true rfl) dX6_unblock_2 ⟨Nat.le_of_ble_eq_true rfl, Nat.le_of_ble_eq_true rfl⟩ (fun r_2 u_2 H locs hw hP1 hD1 hk1 hFc hS => ?_)
  obtain ⟨rfl, rfl⟩ := hw
  have hP : va_P D vwCl (mW ad kA g z) H := hP1
  have hD : va_D A (mW ad kA g z) := hD1.weaken (fun _ _ _ h => hFc _ h)
  refine b_bne F (P := 0 ≤ p1 ∧ p1 ≤ nI (gN g 0) - 1) (tgt := 11) dX6_unblock_5 (by decide) (fun c_5 => ?_) (fun c_5 => ?_)
  · obtain ⟨j, hj, rfl⟩ := nat_lt (by omega) c_5.1 c_5.2
    refine lv_aload_n hx hb dX6_unblock_11 rfl (lv_at hl 0 rfl) ?_
    refine g_get F hK hP inX6 0 rfl rfl 8 (by decide) gw_584 rfl (v := .ref (ad 2)) rfl dX6_unblock_12 ?_
    refine lv_iload_n hx hb dX6_unblock_15 rfl (lv_at hl 1 rfl) ?_
    refine a_zld F hK hP 2 (f := gR g 1) rfl (j := j) (by omega) (by decide) dX6_unblock_16 ?_
    refine lv_if_ne (tgt := 23) hx hb dX6_unblock_17 (by decide) (fun c_17 => ?_) (fun c_17 => ?_)
    · refine lv_aload_n hx hb dX6_unblock_23 rfl (lv_at hl 0 rfl) ?_
      refine g_get F hK hP inX6 0 rfl rfl 7 (by decide) gw_583 rfl (v := .ref (ad 1)) rfl dX6_unblock_24 ?_
      refine lv_iload_n hx hb dX6_unblock_27 rfl (lv_at hl 1 rfl) ?_
      refine a_ild F hK hP 1 (f := gR g 0) rfl (j := j) (by omega) (by decide) dX6_unblock_28 ?_
      refine lv_istore_n (lv' := [(2, .int (gR g 0 j)), (0, .ref (ad 0)), (1, .int (nI j))]) hx hb dX6_unblock_29 rfl hl (by decide) rfl (fun ls hl => ?_)
      refine lv_aload_n hx hb dX6_unblock_30 rfl (lv_at hl 1 rfl) ?_
      refine g_get F hK hP inX6 0 rfl rfl 7 (by decide) gw_583 rfl (v := .ref (ad 1)) rfl dX6_unblock_31 ?_
      refine lv_iload_n hx hb dX6_unblock_34 rfl (lv_at hl 2 rfl) ?_
      refine lv_iconst (v := 0) hx hb dX6_unblock_35 (by decide) ?_
      refine a_ist F hK hP hD hS 1 (f := gR g 0) rfl (j := j) (by omega) (by decide) dX6_unblock_36 (fun H locs hP hD hS => ?_)
      have hP : va_P D vwCl (mW ad kA (sR g 0 (upd (gR g 0) j 0)) z) H := hP
      have hD : va_D A (mW ad kA (sR g 0 (upd (gR g 0) j 0)) z) := hD
      refine lv_aload_n hx hb dX6_unblock_37 rfl (lv_at hl 1 rfl) ?_
      refine g_get F hK hP inX6 0 rfl rfl 9 (by decide) gw_585 rfl (v := .ref (ad 3)) rfl dX6_unblock_38 ?_
      refine lv_iload_n hx hb dX6_unblock_41 rfl (lv_at hl 2 rfl) ?_
      refine lv_lconst (v := 0) hx hb dX6_unblock_42 (by decide) ?_
      refine a_lst F hK hP hD hS 3 (f := gE g) rfl (j := j) (by omega) (by decide) dX6_unblock_43 (fun H locs hP hD hS => ?_)
      have hP : va_P D vwCl (mW ad kA (sE (sR g 0 (upd (gR g 0) j 0)) (vp_updL (gE g) j 0)) z) H := hP
      have hD : va_D A (mW ad kA (sE (sR g 0 (upd (gR g 0) j 0)) (vp_updL (gE g) j 0)) z) := hD
      refine lv_aload_n hx hb dX6_unblock_44 rfl (lv_at hl 1 rfl) ?_
      refine g_get F hK hP inX6 0 rfl rfl 8 (by decide) gw_584 rfl (v := .ref (ad 2)) rfl dX6_unblock_45 ?_
      refine lv_iload_n hx hb dX6_unblock_48 rfl (lv_at hl 2 rfl) ?_
      refine lv_iconst (v := 0) hx hb dX6_unblock_49 (by decide) ?_
      refine a_zst F hK hP hD hS 2 (f := gR g 1) rfl (j := j) (by omega) (by decide) dX6_unblock_50 (fun H locs hP hD hS => ?_)
      have hP : va_P D vwCl (mW ad kA (sR (sE (sR g 0 (upd (gR g 0) j 0)) (vp_updL (gE g) j 0)) 1 (upd (gR g 1) j 0)) z) H := hP
      have hD : va_D A (mW ad kA (sR (sE (sR g 0 (upd (gR g 0) j 0)) (vp_updL (gE g) j 0)) 1 (upd (gR g 1) j 0)) z) := hD
      refine lv_iload_n hx hb dX6_unblock_51 rfl (lv_at hl 0 rfl) ?_
      have hq : sp_unblock (nI j) g = (gR g 0 j, sR (sE (sR g 0 (upd (gR g 0) j 0)) (vp_updL (gE g) j 0)) 1 (upd (gR g 1) j 0)) := by rw [sp_unblock, if_pos c_5, nI_clamp (by omega), if_neg c_17]
      exact rt _ (mW ad kA (sR (sE (sR g 0 (upd (gR g 0) j 0)) (vp_updL (gE g) j 0)) 1 (upd (gR g 1) j 0)) z) _ _ _ _ hP hD hS dX6_unblock_52 (by show _ ∧ _; rw [hq]; exact ⟨rfl, rfl⟩)
    · refine lv_bipush (v := (-111)) hx hb dX6_unblock_20 (by decide) ?_
      have hq : sp_unblock (nI j) g = (-111, g) := by rw [sp_unblock, if_pos c_5, nI_clamp (by omega), if_pos c_17]
      exact rt _ (mW ad kA g z) _ _ _ _ hP hD hS dX6_unblock_22 (by show _ ∧ _; rw [hq]; exact ⟨rfl, rfl⟩)
  · refine lv_bipush (v := (-107)) hx hb dX6_unblock_8 (by decide) ?_
    have hq : sp_unblock p1 g = (-107, g) := by rw [sp_unblock, if_neg c_5]
    exact rt _ (mW ad kA g z) _ _ _ _ hP hD hS dX6_unblock_10 (by show _ ∧ _; rw [hq]; exact ⟨rfl, rfl⟩)

set_option maxRecDepth 100000 in
set_option maxHeartbeats 4000000 in
theorem kX6_isRight (l : Launch) (D : va_G) (kA : Nat → ClassId) (sz : Nat) (ad : Nat → Nat) (g : Sg) (z : Zm) (i : Nat) (hi : i < 59) : CtI l yX6_isRight cX6_isRight 3 .boolean 1 D kA sz (mW ad kA g z) [.ref (ad 0), .int (nI i)] (fun r u => (r = if chk (gR g 7) i then 1 else 0) ∧ u = mW ad kA g z) := by
  refine ct_z (own := RX6) (by decide) rfl (Nat.le_of_ble_eq_true rfl) ?_
  intro p_ e_ s_ m_ ar_ bw_ me_ co_ A ls Q F hnm hK hA hP hD hS hl hsz rt
  have hx := F.1
  have hb := F.2.1
  have hl : lv_has ls 3 [(0, .ref (ad 0)), (1, .int (nI i))] := hl
  have hP : va_P D vwCl (mW ad kA g z) s_.heap := hP
  refine lv_aload_n hx hb dX6_isRight_0 rfl (lv_at hl 0 rfl) ?_
  refine g_get F hK hP inX6 0 rfl rfl 19 (by decide) gw_595 rfl (v := .ref (ad 10)) rfl dX6_isRight_1 ?_
  refine lv_iload_n hx hb dX6_isRight_4 rfl (lv_at hl 1 rfl) ?_
  refine a_ild F hK hP 10 (f := gR g 7) rfl (j := i) (by omega) (by decide) dX6_isRight_5 ?_
  refine lv_istore_n (lv' := [(2, .int (gR g 7 i)), (0, .ref (ad 0)), (1, .int (nI i))]) hx hb dX6_isRight_6 rfl hl (by decide) rfl (fun ls hl => ?_)
  refine lv_iload_n hx hb dX6_isRight_7 rfl (lv_at hl 2 rfl) ?_
  refine lv_bipush (v := 6) hx hb dX6_isRight_8 (by decide) ?_
  refine n_rem F (a := i) (b := 6) dX6_isRight_10 (by omega) (by omega) (by omega) ?_
  rcases (show i % 6 = 0 ∨ i % 6 = 1 ∨ i % 6 = 2 ∨ i % 6 = 3 ∨ i % 6 = 4 ∨ i % 6 = 5 by omega) with h6 | h6 | h6 | h6 | h6 | h6
  · rw [h6]
    refine lv_tableIn (tgt := 44) hx hb dX6_isRight_11 (by decide) (by decide) rfl (by decide) ?_
    refine lv_iload_n hx hb dX6_isRight_44 rfl (lv_at hl 0 rfl) ?_
    refine lv_bipush (v := 48) hx hb dX6_isRight_45 (by decide) ?_
    refine lv_bipush (v := 55) hx hb dX6_isRight_47 (by decide) ?_
    refine cl_S_i (wc := []) (As := [.int (gR g 7 i), .int 48, .int 55]) (rest := []) F hK P_nil D_nil hS hA (kX6_within l D kA _ (gR g 7 i) 48 55 ) gw_666 gw_71 gw_664 gw_665 hdX6_within ⟨Nat.le_of_ble_eq_true rfl, Nat.le_of_ble_eq_true rfl⟩ hl.1 rfl (Nat.le_of_ble_eq_true rfl) dX6_isRight_49 ⟨Nat.le_of_ble_eq_true rfl, Nat.le_of_ble_eq_true rfl⟩ (fun r_49 u_49 H locs hw hP1 hD1 hk1 hFc hS => ?_)
    obtain ⟨rfl, rfl⟩ := hw
    have hP := hp_non hP hk1
    have hq : chk (gR g 7) i = (48 ≤ gR g 7 i ∧ gR g 7 i ≤ 55) := by unfold chk; rw [if_pos h6]
    exact rt _ (mW ad kA g z) _ _ _ _ hP hD hS dX6_isRight_52 (nar_if _) (⟨by simp only [hq], rfl⟩)
  · rw [h6]
    refine lv_tableIn (tgt := 53) hx hb dX6_isRight_11 (by decide) (by decide) rfl (by decide) ?_
    refine lv_iload_n hx hb dX6_isRight_53 rfl (lv_at hl 0 rfl) ?_
    refine lv_bipush (v := 62) hx hb dX6_isRight_54 (by decide) ?_
    refine lv_icmp_ne (tgt := 63) hx hb dX6_isRight_56 (by decide) (fun c_56 => ?_) (fun c_56 => ?_)
    · refine lv_iconst (v := 0) hx hb dX6_isRight_63 (by decide) ?_
      have hq : chk (gR g 7) i = (gR g 7 i = 62) := by unfold chk; rw [if_neg (show ¬ i % 6 = 0 by omega), if_pos h6]
      exact rt _ (mW ad kA g z) _ _ _ _ hP hD hS dX6_isRight_64 rfl (⟨by simp only [hq, c_56, if_true, if_false], rfl⟩)
    · refine lv_iconst (v := 1) hx hb dX6_isRight_59 (by decide) ?_
      refine lv_goto (tgt := 64) hx hb dX6_isRight_60 (by decide) ?_
      have hq : chk (gR g 7) i = (gR g 7 i = 62) := by unfold chk; rw [if_neg (show ¬ i % 6 = 0 by omega), if_pos h6]
      exact rt _ (mW ad kA g z) _ _ _ _ hP hD hS dX6_isRight_64 rfl (⟨by simp only [hq, c_56, if_true, if_false], rfl⟩)
  · rw [h6]
    refine lv_tableIn (tgt := 65) hx hb dX6_isRight_11 (by decide) (by decide) rfl (by decide) ?_
    refine lv_iload_n hx hb dX6_isRight_65 rfl (lv_at hl 0 rfl) ?_
    refine lv_bipush (v := 48) hx hb dX6_isRight_66 (by decide) ?_
    refine lv_bipush (v := 51) hx hb dX6_isRight_68 (by decide) ?_
    refine cl_S_i (wc := []) (As := [.int (gR g 7 i), .int 48, .int 51]) (rest := []) F hK P_nil D_nil hS hA (kX6_within l D kA _ (gR g 7 i) 48 51 ) gw_666 gw_71 gw_664 gw_665 hdX6_within ⟨Nat.le_of_ble_eq_true rfl, Nat.le_of_ble_eq_true rfl⟩ hl.1 rfl (Nat.le_of_ble_eq_true rfl) dX6_isRight_70 ⟨Nat.le_of_ble_eq_true rfl, Nat.le_of_ble_eq_true rfl⟩ (fun r_70 u_70 H locs hw hP1 hD1 hk1 hFc hS => ?_)
    obtain ⟨rfl, rfl⟩ := hw
    have hP := hp_non hP hk1
    have hq : chk (gR g 7) i = (48 ≤ gR g 7 i ∧ gR g 7 i ≤ 51) := by unfold chk; rw [if_neg (show ¬ i % 6 = 0 by omega), if_neg (show ¬ i % 6 = 1 by omega), if_pos h6]
    exact rt _ (mW ad kA g z) _ _ _ _ hP hD hS dX6_isRight_73 (nar_if _) (⟨by simp only [hq], rfl⟩)
  · rw [h6]
    refine lv_tableIn (tgt := 74) hx hb dX6_isRight_11 (by decide) (by decide) rfl (by decide) ?_
    refine lv_iload_n hx hb dX6_isRight_74 rfl (lv_at hl 0 rfl) ?_
    refine lv_bipush (v := 48) hx hb dX6_isRight_75 (by decide) ?_
    refine lv_aload_n hx hb dX6_isRight_77 rfl (lv_at hl 1 rfl) ?_
    refine g_get F hK hP inX6 0 rfl rfl 19 (by decide) gw_595 rfl (v := .ref (ad 10)) rfl dX6_isRight_78 ?_
    refine lv_iload_n hx hb dX6_isRight_81 rfl (lv_at hl 2 rfl) ?_
    refine lv_iconst (v := 1) hx hb dX6_isRight_82 (by decide) ?_
    refine n_sub F (a := i) (b := 1) dX6_isRight_83 (by omega) ?_
    refine a_ild F hK hP 10 (f := gR g 7) rfl (j := i - 1) (by omega) (by decide) dX6_isRight_84 ?_
    refine lv_bipush (v := 51) hx hb dX6_isRight_85 (by decide) ?_
    refine lv_icmp_ne (tgt := 95) hx hb dX6_isRight_87 (by decide) (fun c_87 => ?_) (fun c_87 => ?_)
    · refine lv_bipush (v := 57) hx hb dX6_isRight_95 (by decide) ?_
      refine cl_S_i (wc := []) (As := [.int (gR g 7 i), .int 48, .int 57]) (rest := []) F hK P_nil D_nil hS hA (kX6_within l D kA _ (gR g 7 i) 48 57 ) gw_666 gw_71 gw_664 gw_665 hdX6_within ⟨Nat.le_of_ble_eq_true rfl, Nat.le_of_ble_eq_true rfl⟩ hl.1 rfl (Nat.le_of_ble_eq_true rfl) dX6_isRight_97 ⟨Nat.le_of_ble_eq_true rfl, Nat.le_of_ble_eq_true rfl⟩ (fun r_97 u_97 H locs hw hP1 hD1 hk1 hFc hS => ?_)
      obtain ⟨rfl, rfl⟩ := hw
      have hP := hp_non hP hk1
      have hq : chk (gR g 7) i = (48 ≤ gR g 7 i ∧ gR g 7 i ≤ (if gR g 7 (i - 1) = 51 then 49 else 57)) := by unfold chk; rw [if_neg (show ¬ i % 6 = 0 by omega), if_neg (show ¬ i % 6 = 1 by omega), if_neg (show ¬ i % 6 = 2 by omega), if_pos h6]
      exact rt _ (mW ad kA g z) _ _ _ _ hP hD hS dX6_isRight_100 (nar_if _) (⟨by simp only [hq, c_87, if_true, if_false], rfl⟩)
    · refine lv_bipush (v := 49) hx hb dX6_isRight_90 (by decide) ?_
      refine lv_goto (tgt := 97) hx hb dX6_isRight_92 (by decide) ?_
      refine cl_S_i (wc := []) (As := [.int (gR g 7 i), .int 48, .int 49]) (rest := []) F hK P_nil D_nil hS hA (kX6_within l D kA _ (gR g 7 i) 48 49 ) gw_666 gw_71 gw_664 gw_665 hdX6_within ⟨Nat.le_of_ble_eq_true rfl, Nat.le_of_ble_eq_true rfl⟩ hl.1 rfl (Nat.le_of_ble_eq_true rfl) dX6_isRight_97 ⟨Nat.le_of_ble_eq_true rfl, Nat.le_of_ble_eq_true rfl⟩ (fun r_97 u_97 H locs hw hP1 hD1 hk1 hFc hS => ?_)
      obtain ⟨rfl, rfl⟩ := hw
      have hP := hp_non hP hk1
      have hq : chk (gR g 7) i = (48 ≤ gR g 7 i ∧ gR g 7 i ≤ (if gR g 7 (i - 1) = 51 then 49 else 57)) := by unfold chk; rw [if_neg (show ¬ i % 6 = 0 by omega), if_neg (show ¬ i % 6 = 1 by omega), if_neg (show ¬ i % 6 = 2 by omega), if_pos h6]
      exact rt _ (mW ad kA g z) _ _ _ _ hP hD hS dX6_isRight_100 (nar_if _) (⟨by simp only [hq, c_87, if_true, if_false], rfl⟩)
  · rw [h6]
    refine lv_tableIn (tgt := 101) hx hb dX6_isRight_11 (by decide) (by decide) rfl (by decide) ?_
    refine lv_iload_n hx hb dX6_isRight_101 rfl (lv_at hl 0 rfl) ?_
    refine lv_bipush (v := 43) hx hb dX6_isRight_102 (by decide) ?_
    refine lv_icmp_eq (tgt := 113) hx hb dX6_isRight_104 (by decide) (fun c_104 => ?_) (fun c_104 => ?_)
    · refine lv_iconst (v := 1) hx hb dX6_isRight_113 (by decide) ?_
      refine lv_goto (tgt := 118) hx hb dX6_isRight_114 (by decide) ?_
      have hq : chk (gR g 7) i = (gR g 7 i = 43 ∨ gR g 7 i = 45) := by unfold chk; rw [if_neg (show ¬ i % 6 = 0 by omega), if_neg (show ¬ i % 6 = 1 by omega), if_neg (show ¬ i % 6 = 2 by omega), if_neg (show ¬ i % 6 = 3 by omega), if_pos h6]
      exact rt _ (mW ad kA g z) _ _ _ _ hP hD hS dX6_isRight_118 rfl (⟨by simp only [hq, c_104, true_or, if_true], rfl⟩)
    · refine lv_iload_n hx hb dX6_isRight_107 rfl (lv_at hl 0 rfl) ?_
      refine lv_bipush (v := 45) hx hb dX6_isRight_108 (by decide) ?_
      refine lv_icmp_ne (tgt := 117) hx hb dX6_isRight_110 (by decide) (fun c_110 => ?_) (fun c_110 => ?_)
      · refine lv_iconst (v := 0) hx hb dX6_isRight_117 (by decide) ?_
        have hq : chk (gR g 7) i = (gR g 7 i = 43 ∨ gR g 7 i = 45) := by unfold chk; rw [if_neg (show ¬ i % 6 = 0 by omega), if_neg (show ¬ i % 6 = 1 by omega), if_neg (show ¬ i % 6 = 2 by omega), if_neg (show ¬ i % 6 = 3 by omega), if_pos h6]
        exact rt _ (mW ad kA g z) _ _ _ _ hP hD hS dX6_isRight_118 rfl (⟨by simp only [hq, c_104, c_110, or_true, or_false, false_or, if_true, if_false], rfl⟩)
      · refine lv_iconst (v := 1) hx hb dX6_isRight_113 (by decide) ?_
        refine lv_goto (tgt := 118) hx hb dX6_isRight_114 (by decide) ?_
        have hq : chk (gR g 7) i = (gR g 7 i = 43 ∨ gR g 7 i = 45) := by unfold chk; rw [if_neg (show ¬ i % 6 = 0 by omega), if_neg (show ¬ i % 6 = 1 by omega), if_neg (show ¬ i % 6 = 2 by omega), if_neg (show ¬ i % 6 = 3 by omega), if_pos h6]
        exact rt _ (mW ad kA g z) _ _ _ _ hP hD hS dX6_isRight_118 rfl (⟨by simp only [hq, c_104, c_110, or_true, or_false, false_or, if_true, if_false], rfl⟩)
  · rw [h6]
    refine lv_tableOut (tgt := 119) hx hb dX6_isRight_11 (by decide) (by decide) ?_
    refine lv_iload_n hx hb dX6_isRight_119 rfl (lv_at hl 0 rfl) ?_
    refine lv_bipush (v := 44) hx hb dX6_isRight_120 (by decide) ?_
    refine lv_icmp_ne (tgt := 129) hx hb dX6_isRight_122 (by decide) (fun c_122 => ?_) (fun c_122 => ?_)
    · refine lv_iconst (v := 0) hx hb dX6_isRight_129 (by decide) ?_
      have hq : chk (gR g 7) i = (gR g 7 i = 44) := by unfold chk; rw [if_neg (show ¬ i % 6 = 0 by omega), if_neg (show ¬ i % 6 = 1 by omega), if_neg (show ¬ i % 6 = 2 by omega), if_neg (show ¬ i % 6 = 3 by omega), if_neg (show ¬ i % 6 = 4 by omega)]
      exact rt _ (mW ad kA g z) _ _ _ _ hP hD hS dX6_isRight_130 rfl (⟨by simp only [hq, c_122, if_true, if_false], rfl⟩)
    · refine lv_iconst (v := 1) hx hb dX6_isRight_125 (by decide) ?_
      refine lv_goto (tgt := 130) hx hb dX6_isRight_126 (by decide) ?_
      have hq : chk (gR g 7) i = (gR g 7 i = 44) := by unfold chk; rw [if_neg (show ¬ i % 6 = 0 by omega), if_neg (show ¬ i % 6 = 1 by omega), if_neg (show ¬ i % 6 = 2 by omega), if_neg (show ¬ i % 6 = 3 by omega), if_neg (show ¬ i % 6 = 4 by omega)]
      exact rt _ (mW ad kA g z) _ _ _ _ hP hD hS dX6_isRight_130 rfl (⟨by simp only [hq, c_122, if_true, if_false], rfl⟩)

set_option maxRecDepth 100000 in
set_option maxHeartbeats 4000000 in
theorem kX6_rightLength (l : Launch) (D : va_G) (kA : Nat → ClassId) (sz : Nat) (ad : Nat → Nat) (g : Sg) (z : Zm) (hn : gN g 2 ≤ 59) : CtI l yX6_rightLength cX6_rightLength 2 .int 2 D kA sz (mW ad kA g z) [.ref (ad 0)] (fun r u => r = nI (fe (gR g 7) (gN g 2)) ∧ u = mW ad kA g z) := by
  refine ct_i (own := RX6) (by decide) rfl (Nat.le_of_ble_eq_true rfl) ?_
  intro p_ e_ s_ m_ ar_ bw_ me_ co_ A ls Q F hnm hK hA hP hD hS hl hsz rt
  have hx := F.1
  have hb := F.2.1
  have hl : lv_has ls 2 [(0, .ref (ad 0))] := hl
  have hP : va_P D vwCl (mW ad kA g z) s_.heap := hP
  refine lv_iconst (v := 0) hx hb dX6_rightLength_0 (by decide) ?_
  refine lv_istore_n (lv' := [(1, .int 0), (0, .ref (ad 0))]) hx hb dX6_rightLength_1 rfl hl (by decide) rfl (fun ls hl => ?_)
  have lp_2 : ∀ (n_2 : Nat) (i : Nat), (i ≤ gN g 2) → (∀ j, j < i → chk (gR g 7) j) → (59 - i) < n_2 → ∀ (H : Heap) (locs : List Loc) (ls : Array Slot), va_P D vwCl (mW ad kA g z) H → va_D A (mW ad kA g z) → va_S A s_.heap H locs → lv_has ls 2 [(0, .ref (ad 0)), (1, .int (nI i))] → W p_ l e_ (rmC 2 0 0) s_ m_ ar_ bw_ me_ co_ H locs 0 0 Q (F0 m_ 2 ls []) := by
    intro n_2
    induction n_2 with
    | zero =>
      intro i hi hok hm_2
      exact absurd hm_2 (Nat.not_lt_zero _)
    | succ n_2 ih_2 =>
      intro i hi hok hm_2 H locs ls hP hD hS hl
      refine lv_iload_n hx hb dX6_rightLength_2 rfl (lv_at hl 1 rfl) ?_
      refine lv_aload_n hx hb dX6_rightLength_3 rfl (lv_at hl 0 rfl) ?_
      refine g_get F hK hP inX6 0 rfl rfl 18 (by decide) gw_594 rfl (v := .int (nI (gN g 2))) rfl dX6_rightLength_4 ?_
      refine b_ge F (a := i) (b := gN g 2) (tgt := 24) dX6_rightLength_7 (by decide) (by omega) (by omega) (fun c_7 => ?_) (fun c_7 => ?_)
      · refine lv_iload_n hx hb dX6_rightLength_24 rfl (lv_at hl 1 rfl) ?_
        exact rt _ (mW ad kA g z) _ _ _ _ hP hD hS dX6_rightLength_25 (⟨by rw [fe_at hi hok (Or.inl (by omega))], rfl⟩)
      · refine lv_aload_n hx hb dX6_rightLength_10 rfl (lv_at hl 0 rfl) ?_
        refine lv_iload_n hx hb dX6_rightLength_11 rfl (lv_at hl 1 rfl) ?_
        refine cl_V_i (wc := (mW ad kA g z)) (As := [.int (nI i)]) (rest := []) (b := (ad 0)) (C := RX6) F hK hP hD hS hA (kX6_isRight l D kA _ ad g z i (by omega)) gw_764 gw_71 gw_761 gw_763 gw_56 (va_recv hK.1 hP (ci := 6) (q0 := 0) rfl rfl) hdX6_isRight ⟨Nat.le_of_ble_eq_true rfl, Nat.le_of_ble_eq_true rfl⟩ hl.1 rfl (Nat.le_of_ble_eq_true rfl) dX6_rightLength_12 ⟨Nat.le_of_ble_eq_true rfl, Nat.le_of_ble_eq_true rfl⟩ (fun r_12 u_12 H locs hw hP1 hD1 hk1 hFc hS => ?_)
        obtain ⟨rfl, rfl⟩ := hw
        have hP : va_P D vwCl (mW ad kA g z) H := hP1
        have hD : va_D A (mW ad kA g z) := hD1.weaken (fun _ _ _ h => hFc _ h)
        refine b_beq F (P := chk (gR g 7) i) (tgt := 24) dX6_rightLength_15 (by decide) (fun c_15 => ?_) (fun c_15 => ?_)
        · refine lv_iload_n hx hb dX6_rightLength_24 rfl (lv_at hl 1 rfl) ?_
          exact rt _ (mW ad kA g z) _ _ _ _ hP hD hS dX6_rightLength_25 (⟨by rw [fe_at hi hok (Or.inr c_15)], rfl⟩)
        · refine lv_iinc (v := nI (i + 1)) (lv' := [(1, .int (nI (i + 1))), (0, .ref (ad 0))]) hx hb dX6_rightLength_18 hl (k := 1) rfl (nI_add i 1) (by decide) rfl (fun ls hl => ?_)
          refine lv_goto (tgt := 2) hx hb dX6_rightLength_21 (by decide) ?_
          exact ih_2  (i + 1) (by omega) (lt_s hok c_15) (by omega) _ _ _ hP hD hS (lv_sub hl [1, 0] rfl)
  exact lp_2 _ 0 (Nat.zero_le _) (fun j hj => absurd hj (Nat.not_lt_zero _)) (Nat.lt_succ_self _) _ _ _ hP hD hS (lv_sub hl [1, 0] rfl)

set_option maxRecDepth 100000 in
set_option maxHeartbeats 4000000 in
theorem kX6_firstError (l : Launch) (D : va_G) (kA : Nat → ClassId) (sz : Nat) (ad : Nat → Nat) (g : Sg) (z : Zm) (hI : Inv g) : CtI l yX6_firstError cX6_firstError 1 .int 3 D kA sz (mW ad kA g z) [.ref (ad 0)] (fun r u => r = nI (fe (gR g 7) (gN g 2)) ∧ u = mW ad kA g z) := by
  refine ct_i (own := RX6) (by decide) rfl (Nat.le_of_ble_eq_true rfl) ?_
  intro p_ e_ s_ m_ ar_ bw_ me_ co_ A ls Q F hnm hK hA hP hD hS hl hsz rt
  have hx := F.1
  have hb := F.2.1
  have hl : lv_has ls 1 [(0, .ref (ad 0))] := hl
  have hP : va_P D vwCl (mW ad kA g z) s_.heap := hP
  obtain ⟨⟨hc1, hc2⟩, ha, hn, hu, hd, hup, hlo, hso, hv⟩ := id hI
  refine lv_aload_n hx hb dX6_firstError_0 rfl (lv_at hl 0 rfl) ?_
  refine cl_V_i (wc := (mW ad kA g z)) (As := []) (rest := []) (b := (ad 0)) (C := RX6) F hK hP hD hS hA (kX6_rightLength l D kA _ ad g z  hn) gw_760 gw_71 gw_757 gw_759 gw_55 (va_recv hK.1 hP (ci := 6) (q0 := 0) rfl rfl) hdX6_rightLength ⟨Nat.le_of_ble_eq_true rfl, Nat.le_of_ble_eq_true rfl⟩ hl.1 rfl (Nat.le_of_ble_eq_true rfl) dX6_firstError_1 ⟨Nat.le_of_ble_eq_true rfl, Nat.le_of_ble_eq_true rfl⟩ (fun r_1 u_1 H locs hw hP1 hD1 hk1 hFc hS => ?_)
  obtain ⟨rfl, rfl⟩ := hw
  have hP : va_P D vwCl (mW ad kA g z) H := hP1
  have hD : va_D A (mW ad kA g z) := hD1.weaken (fun _ _ _ h => hFc _ h)
  exact rt _ (mW ad kA g z) _ _ _ _ hP hD hS dX6_firstError_4 (⟨rfl, rfl⟩)

set_option maxRecDepth 100000 in
set_option maxHeartbeats 4000000 in
theorem kX6_runInput (l : Launch) (D : va_G) (kA : Nat → ClassId) (sz : Nat) (ad : Nat → Nat) (g : Sg) (z : Zm) (hI : Inv g) (hL : RgM (gV g) (zL z)) : CtI l yX6_runInput cX6_runInput 5 .int 4 D kA sz (mW ad kA g z) [.ref (ad 0)] (fun r u => r = (sp_run g).1 ∧ mQ ad kA (sp_run g).2 z u) := by
  refine ct_i (own := RX6) (by decide) rfl (Nat.le_of_ble_eq_true rfl) ?_
  intro p_ e_ s_ m_ ar_ bw_ me_ co_ A ls Q F hnm hK hA hP hD hS hl hsz rt
  have hx := F.1
  have hb := F.2.1
  have hl : lv_has ls 5 [(0, .ref (ad 0))] := hl
  have hP : va_P D vwCl (mW ad kA g z) s_.heap := hP
  obtain ⟨⟨hc1, hc2⟩, ha, hn, hu, hd, hup, hlo, hso, hv⟩ := id hI
  refine lv_aload_n hx hb dX6_runInput_0 rfl (lv_at hl 0 rfl) ?_
  refine g_get F hK hP inX6 0 rfl rfl 18 (by decide) gw_594 rfl (v := .int (nI (gN g 2))) rfl dX6_runInput_1 ?_
  refine lv_bipush (v := 6) hx hb dX6_runInput_4 (by decide) ?_
  refine n_rem F (a := gN g 2) (b := 6) dX6_runInput_6 (by omega) (by omega) (by omega) ?_
  refine lv_iconst (v := 5) hx hb dX6_runInput_7 (by decide) ?_
  refine b_ne F (a := (gN g 2) % 6) (b := 5) (tgt := 22) dX6_runInput_8 (by decide) (by omega) (by omega) (fun c_8 => ?_) (fun c_8 => ?_)
  · refine lv_bipush (v := (-103)) hx hb dX6_runInput_22 (by decide) ?_
    have hq : sp_run g = (-103, g) := by rw [sp_run, if_neg (fun h => c_8 h.1)]
    exact rt _ (mW ad kA g z) _ _ _ _ hP hD hS dX6_runInput_24 (by show _ ∧ _; rw [hq]; exact ⟨rfl, zL z, hL, rfl⟩)
  · refine lv_aload_n hx hb dX6_runInput_11 rfl (lv_at hl 0 rfl) ?_
    refine cl_V_i (wc := (mW ad kA g z)) (As := []) (rest := []) (b := (ad 0)) (C := RX6) F hK hP hD hS hA (kX6_rightLength l D kA _ ad g z  hn) gw_760 gw_71 gw_757 gw_759 gw_55 (va_recv hK.1 hP (ci := 6) (q0 := 0) rfl rfl) hdX6_rightLength ⟨Nat.le_of_ble_eq_true rfl, Nat.le_of_ble_eq_true rfl⟩ hl.1 rfl (Nat.le_of_ble_eq_true rfl) dX6_runInput_12 ⟨Nat.le_of_ble_eq_true rfl, Nat.le_of_ble_eq_true rfl⟩ (fun r_12 u_12 H locs hw hP1 hD1 hk1 hFc hS => ?_)
    obtain ⟨rfl, rfl⟩ := hw
    have hP : va_P D vwCl (mW ad kA g z) H := hP1
    have hD : va_D A (mW ad kA g z) := hD1.weaken (fun _ _ _ h => hFc _ h)
    refine lv_aload_n hx hb dX6_runInput_15 rfl (lv_at hl 0 rfl) ?_
    refine g_get F hK hP inX6 0 rfl rfl 18 (by decide) gw_594 rfl (v := .int (nI (gN g 2))) rfl dX6_runInput_16 ?_
    refine b_ge F (a := fe (gR g 7) (gN g 2)) (b := gN g 2) (tgt := 25) dX6_runInput_19 (by decide) (by have := fe_le (gR g 7) (gN g 2); omega) (by omega) (fun c_19 => ?_) (fun c_19 => ?_)
    · have hall := fe_all (f := gR g 7) (n := gN g 2) (by have := fe_le (gR g 7) (gN g 2); omega)
      refine lv_iconst (v := 0) hx hb dX6_runInput_25 (by decide) ?_
      refine lv_istore_n (lv' := [(1, .int 0), (0, .ref (ad 0))]) hx hb dX6_runInput_26 rfl hl (by decide) rfl (fun ls hl => ?_)
      refine lv_iconst (v := 0) hx hb dX6_runInput_27 (by decide) ?_
      refine lv_istore_n (lv' := [(2, .int 0), (1, .int 0), (0, .ref (ad 0))]) hx hb dX6_runInput_28 rfl hl (by decide) rfl (fun ls hl => ?_)
      have lp_29 : ∀ (n_29 : Nat) (t : Nat) (i : Nat) (k : Nat) (g1 : Sg) (L1 : Nat → Int32), (i = 6 * t) → (t ≤ ((gN g 2 + 1) / 6)) → (Mn g1) → (gR g1 7 = gR g 7) → (gN g1 2 = gN g 2) → (RgM (gV g1) L1) → (rnL (((gN g 2 + 1) / 6) - t) i k g1 = rnL ((gN g 2 + 1) / 6) 0 0 g) → (((gN g 2 + 1) / 6) - t) < n_29 → ∀ (H : Heap) (locs : List Loc) (ls : Array Slot), va_P D vwCl (mW ad kA g1 (tL z L1)) H → va_D A (mW ad kA g1 (tL z L1)) → va_S A s_.heap H locs → lv_has ls 5 [(0, .ref (ad 0)), (1, .int (nI k)), (2, .int (nI i))] → W p_ l e_ (rmC 4 0 0) s_ m_ ar_ bw_ me_ co_ H locs 0 0 Q (F0 m_ 29 ls []) := by
        intro n_29
        induction n_29 with
        | zero =>
          intro t i k g1 L1 hi ht hM1 h7 h2 hL1 hg hm_29
          exact absurd hm_29 (Nat.not_lt_zero _)
        | succ n_29 ih_29 =>
          intro t i k g1 L1 hi ht hM1 h7 h2 hL1 hg hm_29 H locs ls hP hD hS hl
          refine lv_iload_n hx hb dX6_runInput_29 rfl (lv_at hl 2 rfl) ?_
          refine lv_aload_n hx hb dX6_runInput_30 rfl (lv_at hl 0 rfl) ?_
          refine g_get F hK hP inX6 0 rfl rfl 18 (by decide) gw_594 rfl (v := .int (nI (gN g1 2))) rfl dX6_runInput_31 ?_
          refine b_ge F (a := i) (b := gN g1 2) (tgt := 118) dX6_runInput_34 (by decide) (by omega) (by omega) (fun c_34 => ?_) (fun c_34 => ?_)
          · refine lv_aload_n hx hb dX6_runInput_118 rfl (lv_at hl 0 rfl) ?_
            refine lv_iconst (v := 0) hx hb dX6_runInput_119 (by decide) ?_
            refine g_put F hK hP hD hS inX6 tyX6_ok nmX6 0 rfl rfl 18 (by decide) gw_594 rfl rfl rfl rfl (Nat.le_of_ble_eq_true rfl) dX6_runInput_120 (fun H locs hP hD hS => ?_)
            have hP : va_P D vwCl (mW ad kA (sN g1 2 0) (tL z L1)) H := hP
            have hD : va_D A (mW ad kA (sN g1 2 0) (tL z L1)) := hD
            refine lv_iload_n hx hb dX6_runInput_123 rfl (lv_at hl 1 rfl) ?_
            have hq : sp_run g = (nI k, sN g1 2 0) := by rw [sp_run, if_pos ⟨c_8, by have := fe_le (gR g 7) (gN g 2); omega⟩, ← hg, show ((gN g 2 + 1) / 6) - t = 0 by omega]; rfl
            exact rt _ (mW ad kA (sN g1 2 0) (tL z L1)) _ _ _ _ hP hD hS dX6_runInput_124 (by show _ ∧ _; rw [hq]; exact ⟨rfl, L1, hL1, rfl⟩)
          · obtain ⟨sx, dx, hs8, hd32, hsx, hdx⟩ := run_ok hall (i := i) (by omega) (by omega)
            rw [← h7] at hsx hdx
            refine lv_bipush (v := 10) hx hb dX6_runInput_37 (by decide) ?_
            refine lv_aload_n hx hb dX6_runInput_39 rfl (lv_at hl 0 rfl) ?_
            refine g_get F hK hP inX6 0 rfl rfl 19 (by decide) gw_595 rfl (v := .ref (ad 10)) rfl dX6_runInput_40 ?_
            refine lv_iload_n hx hb dX6_runInput_43 rfl (lv_at hl 2 rfl) ?_
            refine lv_iconst (v := 2) hx hb dX6_runInput_44 (by decide) ?_
            refine n_add F (a := i) (b := 2) dX6_runInput_45 ?_
            refine a_ild F hK hP 10 (f := gR g1 7) rfl (j := i + 2) (by omega) (by decide) dX6_runInput_46 ?_
            refine lv_bipush (v := 48) hx hb dX6_runInput_47 (by decide) ?_
            refine lv_isub hx hb dX6_runInput_49 ?_
            refine lv_imul hx hb dX6_runInput_50 ?_
            refine lv_aload_n hx hb dX6_runInput_51 rfl (lv_at hl 0 rfl) ?_
            refine g_get F hK hP inX6 0 rfl rfl 19 (by decide) gw_595 rfl (v := .ref (ad 10)) rfl dX6_runInput_52 ?_
            refine lv_iload_n hx hb dX6_runInput_55 rfl (lv_at hl 2 rfl) ?_
            refine lv_iconst (v := 3) hx hb dX6_runInput_56 (by decide) ?_
            refine n_add F (a := i) (b := 3) dX6_runInput_57 ?_
            refine a_ild F hK hP 10 (f := gR g1 7) rfl (j := i + 3) (by omega) (by decide) dX6_runInput_58 ?_
            refine lv_iadd hx hb dX6_runInput_59 ?_
            refine lv_bipush (v := 48) hx hb dX6_runInput_60 (by decide) ?_
            refine lv_isub hx hb dX6_runInput_62 ?_
            rw [hdx]
            refine lv_istore_n (lv' := [(3, .int (nI dx)), (0, .ref (ad 0)), (1, .int (nI k)), (2, .int (nI i))]) hx hb dX6_runInput_63 rfl hl (by decide) rfl (fun ls hl => ?_)
            refine lv_aload_n hx hb dX6_runInput_64 rfl (lv_at hl 1 rfl) ?_
            refine lv_aload_n hx hb dX6_runInput_65 rfl (lv_at hl 1 rfl) ?_
            refine g_get F hK hP inX6 0 rfl rfl 19 (by decide) gw_595 rfl (v := .ref (ad 10)) rfl dX6_runInput_66 ?_
            refine lv_iload_n hx hb dX6_runInput_69 rfl (lv_at hl 3 rfl) ?_
            refine a_ild F hK hP 10 (f := gR g1 7) rfl (j := i) (by omega) (by decide) dX6_runInput_70 ?_
            refine lv_bipush (v := 48) hx hb dX6_runInput_71 (by decide) ?_
            refine lv_isub hx hb dX6_runInput_73 ?_
            rw [hsx]
            refine lv_iload_n hx hb dX6_runInput_74 rfl (lv_at hl 0 rfl) ?_
            refine lv_aload_n hx hb dX6_runInput_75 rfl (lv_at hl 1 rfl) ?_
            refine g_get F hK hP inX6 0 rfl rfl 19 (by decide) gw_595 rfl (v := .ref (ad 10)) rfl dX6_runInput_76 ?_
            refine lv_iload_n hx hb dX6_runInput_79 rfl (lv_at hl 3 rfl) ?_
            refine lv_iconst (v := 4) hx hb dX6_runInput_80 (by decide) ?_
            refine n_add F (a := i) (b := 4) dX6_runInput_81 ?_
            refine a_ild F hK hP 10 (f := gR g1 7) rfl (j := i + 4) (by omega) (by decide) dX6_runInput_82 ?_
            refine lv_bipush (v := 43) hx hb dX6_runInput_83 (by decide) ?_
            refine lv_icmp_ne (tgt := 92) hx hb dX6_runInput_85 (by decide) (fun c_85 => ?_) (fun c_85 => ?_)
            · have hcn : sp_connectNow (srcN (gR g1 7) i) (dstN (gR g1 7) i) (sucI (gR g1 7) i) g1 = sp_connectNow sx dx 0 g1 := by rw [srcN, dstN, sucI, hsx, hdx, nI_clamp (by omega), nI_clamp (by omega), if_neg c_85]
              have hkc := (kp_connectNow sx dx 0 g1).1
              refine lv_iconst (v := 0) hx hb dX6_runInput_92 (by decide) ?_
              refine cl_V_i (wc := (mW ad kA g1 (tL z L1))) (As := [.int (nI sx), .int (nI dx), .int 0]) (rest := []) (b := (ad 0)) (C := RX6) F hK hP hD hS hA (kX6_connectNow l D kA _ ad g1 (tL z L1) sx dx 0 hs8 hd32 hM1 hL1) gw_692 gw_71 gw_689 gw_691 gw_45 (va_recv hK.1 hP (ci := 6) (q0 := 0) rfl rfl) hdX6_connectNow ⟨Nat.le_of_ble_eq_true rfl, Nat.le_of_ble_eq_true rfl⟩ hl.1 rfl (Nat.le_of_ble_eq_true rfl) dX6_runInput_93 ⟨Nat.le_of_ble_eq_true rfl, Nat.le_of_ble_eq_true rfl⟩ (fun r_93 u_93 H locs hw hP1 hD1 hk1 hFc hS => ?_)
              obtain ⟨rfl, L_93, hL_93, rfl⟩ := hw
              have hP : va_P D vwCl (mW ad kA ((sp_connectNow sx dx 0 g1).2) (tL (tL z L1) L_93)) H := hP1
              have hD : va_D A (mW ad kA ((sp_connectNow sx dx 0 g1).2) (tL (tL z L1) L_93)) := hD1.weaken (fun _ _ _ h => hFc _ h)
              refine lv_istore (lv' := [(4, .int ((sp_connectNow sx dx 0 g1).1)), (3, .int (nI dx)), (0, .ref (ad 0)), (1, .int (nI k)), (2, .int (nI i))]) hx hb dX6_runInput_96 hl (by decide) rfl (fun ls hl => ?_)
              refine lv_iload_n hx hb dX6_runInput_98 rfl (lv_at hl 3 rfl) ?_
              refine lv_iload hx hb dX6_runInput_99 (lv_at hl 0 rfl) ?_
              refine lv_iconst (v := 3) hx hb dX6_runInput_101 (by decide) ?_
              refine lv_icmp_ge (tgt := 109) hx hb dX6_runInput_102 (by decide) (fun c_102 => ?_) (fun c_102 => ?_)
              · refine lv_iconst (v := 0) hx hb dX6_runInput_109 (by decide) ?_
                refine n_add F (a := k) (b := 0) dX6_runInput_110 ?_
                refine lv_istore_n (lv' := [(1, .int (nI (k + 0))), (4, .int ((sp_connectNow sx dx 0 g1).1)), (3, .int (nI dx)), (0, .ref (ad 0)), (2, .int (nI i))]) hx hb dX6_runInput_111 rfl hl (by decide) rfl (fun ls hl => ?_)
                refine lv_iinc (v := nI (i + 6)) (lv' := [(2, .int (nI (i + 6))), (1, .int (nI (k + 0))), (4, .int ((sp_connectNow sx dx 0 g1).1)), (3, .int (nI dx)), (0, .ref (ad 0))]) hx hb dX6_runInput_112 hl (k := 4) rfl (nI_add i 6) (by decide) rfl (fun ls hl => ?_)
                refine lv_goto (tgt := 29) hx hb dX6_runInput_115 (by decide) ?_
                exact ih_29  (t + 1) (i + 6) (k + 0) ((sp_connectNow sx dx 0 g1).2) L_93 (by omega) (by omega) (hkc.mn hM1) (hkc.2.2.2.2.1.trans h7) (hkc.2.1.trans h2) hL_93 (by rw [← hg, show ((gN g 2 + 1) / 6) - t = (((gN g 2 + 1) / 6) - (t + 1)) + 1 by omega, rnL, hcn, if_neg (Int32.not_lt.mpr c_102)]) (by omega) _ _ _ hP hD hS (lv_sub hl [4, 1, 0] rfl)
              · refine lv_iconst (v := 1) hx hb dX6_runInput_105 (by decide) ?_
                refine lv_goto (tgt := 110) hx hb dX6_runInput_106 (by decide) ?_
                refine n_add F (a := k) (b := 1) dX6_runInput_110 ?_
                refine lv_istore_n (lv' := [(1, .int (nI (k + 1))), (4, .int ((sp_connectNow sx dx 0 g1).1)), (3, .int (nI dx)), (0, .ref (ad 0)), (2, .int (nI i))]) hx hb dX6_runInput_111 rfl hl (by decide) rfl (fun ls hl => ?_)
                refine lv_iinc (v := nI (i + 6)) (lv' := [(2, .int (nI (i + 6))), (1, .int (nI (k + 1))), (4, .int ((sp_connectNow sx dx 0 g1).1)), (3, .int (nI dx)), (0, .ref (ad 0))]) hx hb dX6_runInput_112 hl (k := 4) rfl (nI_add i 6) (by decide) rfl (fun ls hl => ?_)
                refine lv_goto (tgt := 29) hx hb dX6_runInput_115 (by decide) ?_
                exact ih_29  (t + 1) (i + 6) (k + 1) ((sp_connectNow sx dx 0 g1).2) L_93 (by omega) (by omega) (hkc.mn hM1) (hkc.2.2.2.2.1.trans h7) (hkc.2.1.trans h2) hL_93 (by rw [← hg, show ((gN g 2 + 1) / 6) - t = (((gN g 2 + 1) / 6) - (t + 1)) + 1 by omega, rnL, hcn, if_pos (Int32.not_le.mp c_102)]) (by omega) _ _ _ hP hD hS (lv_sub hl [4, 1, 0] rfl)
            · have hcn : sp_connectNow (srcN (gR g1 7) i) (dstN (gR g1 7) i) (sucI (gR g1 7) i) g1 = sp_connectNow sx dx 1 g1 := by rw [srcN, dstN, sucI, hsx, hdx, nI_clamp (by omega), nI_clamp (by omega), if_pos c_85]
              have hkc := (kp_connectNow sx dx 1 g1).1
              refine lv_iconst (v := 1) hx hb dX6_runInput_88 (by decide) ?_
              refine lv_goto (tgt := 93) hx hb dX6_runInput_89 (by decide) ?_
              refine cl_V_i (wc := (mW ad kA g1 (tL z L1))) (As := [.int (nI sx), .int (nI dx), .int 1]) (rest := []) (b := (ad 0)) (C := RX6) F hK hP hD hS hA (kX6_connectNow l D kA _ ad g1 (tL z L1) sx dx 1 hs8 hd32 hM1 hL1) gw_692 gw_71 gw_689 gw_691 gw_45 (va_recv hK.1 hP (ci := 6) (q0 := 0) rfl rfl) hdX6_connectNow ⟨Nat.le_of_ble_eq_true rfl, Nat.le_of_ble_eq_true rfl⟩ hl.1 rfl (Nat.le_of_ble_eq_true rfl) dX6_runInput_93 ⟨Nat.le_of_ble_eq_true rfl, Nat.le_of_ble_eq_true rfl⟩ (fun r_93 u_93 H locs hw hP1 hD1 hk1 hFc hS => ?_)
              obtain ⟨rfl, L_93, hL_93, rfl⟩ := hw
              have hP : va_P D vwCl (mW ad kA ((sp_connectNow sx dx 1 g1).2) (tL (tL z L1) L_93)) H := hP1
              have hD : va_D A (mW ad kA ((sp_connectNow sx dx 1 g1).2) (tL (tL z L1) L_93)) := hD1.weaken (fun _ _ _ h => hFc _ h)
              refine lv_istore (lv' := [(4, .int ((sp_connectNow sx dx 1 g1).1)), (3, .int (nI dx)), (0, .ref (ad 0)), (1, .int (nI k)), (2, .int (nI i))]) hx hb dX6_runInput_96 hl (by decide) rfl (fun ls hl => ?_)
              refine lv_iload_n hx hb dX6_runInput_98 rfl (lv_at hl 3 rfl) ?_
              refine lv_iload hx hb dX6_runInput_99 (lv_at hl 0 rfl) ?_
              refine lv_iconst (v := 3) hx hb dX6_runInput_101 (by decide) ?_
              refine lv_icmp_ge (tgt := 109) hx hb dX6_runInput_102 (by decide) (fun c_102 => ?_) (fun c_102 => ?_)
              · refine lv_iconst (v := 0) hx hb dX6_runInput_109 (by decide) ?_
                refine n_add F (a := k) (b := 0) dX6_runInput_110 ?_
                refine lv_istore_n (lv' := [(1, .int (nI (k + 0))), (4, .int ((sp_connectNow sx dx 1 g1).1)), (3, .int (nI dx)), (0, .ref (ad 0)), (2, .int (nI i))]) hx hb dX6_runInput_111 rfl hl (by decide) rfl (fun ls hl => ?_)
                refine lv_iinc (v := nI (i + 6)) (lv' := [(2, .int (nI (i + 6))), (1, .int (nI (k + 0))), (4, .int ((sp_connectNow sx dx 1 g1).1)), (3, .int (nI dx)), (0, .ref (ad 0))]) hx hb dX6_runInput_112 hl (k := 4) rfl (nI_add i 6) (by decide) rfl (fun ls hl => ?_)
                refine lv_goto (tgt := 29) hx hb dX6_runInput_115 (by decide) ?_
                exact ih_29  (t + 1) (i + 6) (k + 0) ((sp_connectNow sx dx 1 g1).2) L_93 (by omega) (by omega) (hkc.mn hM1) (hkc.2.2.2.2.1.trans h7) (hkc.2.1.trans h2) hL_93 (by rw [← hg, show ((gN g 2 + 1) / 6) - t = (((gN g 2 + 1) / 6) - (t + 1)) + 1 by omega, rnL, hcn, if_neg (Int32.not_lt.mpr c_102)]) (by omega) _ _ _ hP hD hS (lv_sub hl [4, 1, 0] rfl)
              · refine lv_iconst (v := 1) hx hb dX6_runInput_105 (by decide) ?_
                refine lv_goto (tgt := 110) hx hb dX6_runInput_106 (by decide) ?_
                refine n_add F (a := k) (b := 1) dX6_runInput_110 ?_
                refine lv_istore_n (lv' := [(1, .int (nI (k + 1))), (4, .int ((sp_connectNow sx dx 1 g1).1)), (3, .int (nI dx)), (0, .ref (ad 0)), (2, .int (nI i))]) hx hb dX6_runInput_111 rfl hl (by decide) rfl (fun ls hl => ?_)
                refine lv_iinc (v := nI (i + 6)) (lv' := [(2, .int (nI (i + 6))), (1, .int (nI (k + 1))), (4, .int ((sp_connectNow sx dx 1 g1).1)), (3, .int (nI dx)), (0, .ref (ad 0))]) hx hb dX6_runInput_112 hl (k := 4) rfl (nI_add i 6) (by decide) rfl (fun ls hl => ?_)
                refine lv_goto (tgt := 29) hx hb dX6_runInput_115 (by decide) ?_
                exact ih_29  (t + 1) (i + 6) (k + 1) ((sp_connectNow sx dx 1 g1).2) L_93 (by omega) (by omega) (hkc.mn hM1) (hkc.2.2.2.2.1.trans h7) (hkc.2.1.trans h2) hL_93 (by rw [← hg, show ((gN g 2 + 1) / 6) - t = (((gN g 2 + 1) / 6) - (t + 1)) + 1 by omega, rnL, hcn, if_pos (Int32.not_le.mp c_102)]) (by omega) _ _ _ hP hD hS (lv_sub hl [4, 1, 0] rfl)
      exact lp_29 _ 0 0 0 g (zL z) rfl (Nat.zero_le _) ⟨⟨hc1, hc2⟩, ha⟩ rfl rfl hL rfl (Nat.lt_succ_self _) _ _ _ hP hD hS (lv_sub hl [2, 1, 0] rfl)
    · refine lv_bipush (v := (-103)) hx hb dX6_runInput_22 (by decide) ?_
      have hq : sp_run g = (-103, g) := by rw [sp_run, if_neg (fun h => by omega)]
      exact rt _ (mW ad kA g z) _ _ _ _ hP hD hS dX6_runInput_24 (by show _ ∧ _; rw [hq]; exact ⟨rfl, zL z, hL, rfl⟩)
end
section
/-! the analysis of a walk: rows by scores, for both sides. Index i stands for the score lower + 1 + i; w scores lie between the thresholds -/
theorem fb_bmod {z : Int} (h1 : -2147483648 ≤ z) (h2 : z < 2147483648) : z.bmod (2 ^ 32) = z := by
  rw [Int.bmod_eq_of_le (by omega) (by omega)]
theorem fb_addI {x y : Int32} (h1 : -2147483648 ≤ x.toInt + y.toInt) (h2 : x.toInt + y.toInt < 2147483648) : (x + y).toInt = x.toInt + y.toInt := by
  rw [Int32.toInt_add, fb_bmod h1 h2]
theorem fb_subI {x y : Int32} (h1 : -2147483648 ≤ x.toInt - y.toInt) (h2 : x.toInt - y.toInt < 2147483648) : (x - y).toInt = x.toInt - y.toInt := by
  rw [Int32.toInt_sub, fb_bmod h1 h2]
def Par (g : Sg) (u d U B : Nat) : Prop := gI g 0 = nI u ∧ gI g 1 = nI d ∧ gI g 2 = nI U ∧ gI g 3 = nI B - 60 ∧ (1 ≤ u ∧ u ≤ 9) ∧ (1 ≤ d ∧ d ≤ 9) ∧ (1 ≤ U ∧ U ≤ 60) ∧ B ≤ 59
theorem low_of {x : Int32} (h1 : (-60) ≤ x) (h2 : x ≤ (-1)) : ∃ B, B ≤ 59 ∧ x = nI B - 60 := by
  have a1 : (-60 : Int) ≤ x.toInt := Int32.le_iff_toInt_le.mp h1
  have a2 : x.toInt ≤ (-1 : Int) := Int32.le_iff_toInt_le.mp h2
  have e60 : (60 : Int32).toInt = 60 := rfl
  have e : (x + 60).toInt = x.toInt + 60 := by rw [fb_addI (by rw [e60]; omega) (by rw [e60]; omega), e60]
  obtain ⟨B, hB, h⟩ := nat_of (x := x + 60) (n := 59) (by decide) (Int32.le_iff_toInt_le.mpr (by rw [e]; show (0 : Int) ≤ _; omega)) (Int32.le_iff_toInt_le.mpr (by rw [e]; show _ ≤ (59 : Int); omega))
  exact ⟨B, hB, by rw [← h, Int32.add_sub_cancel]⟩
theorem pos_of {x : Int32} {n : Nat} (hn : n < 2 ^ 31) (h1 : 1 ≤ x) (h2 : x ≤ nI n) : ∃ k, (1 ≤ k ∧ k ≤ n) ∧ x = nI k := by
  obtain ⟨k, hk, rfl⟩ := nat_of hn (Int32.le_trans (by decide) h1) h2
  exact ⟨k, ⟨(nI_leI (by decide) (by omega)).mp h1, hk⟩, rfl⟩
theorem par_of {g : Sg} (h : Inv g) : ∃ u d U B, Par g u d U B := by
  obtain ⟨-, -, -, hu, hd, hU, hB, -, -⟩ := h
  obtain ⟨u, a1, a2⟩ := pos_of (n := 9) (by decide) hu.1 hu.2
  obtain ⟨d, b1, b2⟩ := pos_of (n := 9) (by decide) hd.1 hd.2
  obtain ⟨U, c1, c2⟩ := pos_of (n := 60) (by decide) hU.1 hU.2
  obtain ⟨B, d1, d2⟩ := low_of hB.1 hB.2
  exact ⟨u, d, U, B, a2, b2, c2, d2, a1, b1, c1, d1⟩
theorem e60 (x : Int32) : 60 + (x - 60) = x := by rw [Int32.add_comm, Int32.sub_add_cancel]
theorem s60 (m : Nat) : nI m - 60 + 1 = nI (m + 1) - 60 := by
  rw [← nI_1, Int32.sub_eq_add_neg, Int32.sub_eq_add_neg, Int32.add_assoc, Int32.add_assoc, Int32.add_comm (-60) 1]
theorem t60 {m : Nat} (h : m < 2 ^ 20) : (nI m - 60).toInt = (m : Int) - 60 := pk_sub_toInt (a := m) (b := 60) (by omega) (by decide)
theorem t60u {m u : Nat} (h : m < 2 ^ 20) (hu : u < 2 ^ 20) : (nI m - 60 + nI u).toInt = (m : Int) - 60 + u := by
  have a := t60 h
  have b : (nI u).toInt = (u : Int) := nI_toInt (by omega)
  rw [fb_addI (by rw [a, b]; omega) (by rw [a, b]; omega), a, b]
theorem t60d {m d : Nat} (h : m < 2 ^ 20) (hd : d < 2 ^ 20) : (nI m - 60 - nI d).toInt = (m : Int) - 60 - d := by
  have a := t60 h
  have b : (nI d).toInt = (d : Int) := nI_toInt (by omega)
  rw [fb_subI (by rw [a, b]; omega) (by rw [a, b]; omega), a, b]
theorem qA {m U : Nat} (h : m < 2 ^ 20) (hU : U < 2 ^ 20) : nI U ≤ nI m - 60 ↔ 60 + U ≤ m := by
  rw [Int32.le_iff_toInt_le, t60 h, nI_toInt (by omega)]; omega
theorem qB {m U u : Nat} (h : m < 2 ^ 20) (hU : U < 2 ^ 20) (hu : u < 2 ^ 20) : nI m - 60 + nI u < nI U ↔ m + u < 60 + U := by
  rw [Int32.lt_iff_toInt_lt, t60u h hu, nI_toInt (by omega)]; omega
theorem qC {m B d : Nat} (h : m < 2 ^ 20) (hB : B < 2 ^ 20) (hd : d < 2 ^ 20) : nI B - 60 < nI m - 60 - nI d ↔ B + d < m := by
  rw [Int32.lt_iff_toInt_lt, t60d h hd, t60 hB]; omega
theorem qD {m B d : Nat} (h : m < 2 ^ 20) (hB : B < 2 ^ 20) (hd : d < 2 ^ 20) : nI m - 60 - nI d ≤ nI B - 60 ↔ m ≤ B + d := by
  rw [Int32.le_iff_toInt_le, t60d h hd, t60 hB]; omega
section SC
variable {α : Type}
def sUp (add : α → α → α) (pu : Nat → α) (u w i : Nat) (t : Nat → α) : Nat → α := if i + u < w then vf_upd t (i + u) (add (t (i + u)) (pu i)) else t
def sDn (add : α → α → α) (pd : Nat → α) (d i : Nat) (t : Nat → α) : Nat → α := if d ≤ i then vf_upd t (i - d) (add (t (i - d)) (pd i)) else t
def scat (add : α → α → α) (z0 : α) (pu pd : Nat → α) (u d w : Nat) : Nat → (Nat → α)
  | 0 => fun _ => z0
  | i + 1 => sDn add pd d i (sUp add pu u w i (scat add z0 pu pd u d w i))
def acc (add : α → α → α) (c : Nat → Bool) (v : Nat → α) (x0 : α) : Nat → α
  | 0 => x0
  | i + 1 => if c i = true then add (acc add c v x0 i) (v i) else acc add c v x0 i
/-- a row of the reference holds a, from the place B + 1 on -/
def MR (B w : Nat) (f a : Nat → α) : Prop := ∀ i, i < w → f (B + 1 + i) = a i
theorem MR_up {B w i u : Nat} {add : α → α → α} {pu t f : Nat → α} (h : MR B w f t) (hi : i + u < w) : MR B w (vf_upd f (B + 1 + i + u) (add (f (B + 1 + i + u)) (pu i))) (sUp add pu u w i t) := by
  intro j hj
  have e := h (i + u) hi
  rw [show B + 1 + (i + u) = B + 1 + i + u by omega] at e
  unfold sUp
  rw [if_pos hi, e]
  by_cases hq : j = i + u
  · subst hq
    rw [show B + 1 + (i + u) = B + 1 + i + u by omega, up_s, up_s]
  · rw [up_n _ _ (by omega), up_n _ _ hq]
    exact h j hj
theorem MR_up0 {B w i u : Nat} {add : α → α → α} {pu t f : Nat → α} (h : MR B w f t) (hi : ¬ i + u < w) : MR B w f (sUp add pu u w i t) := by
  unfold sUp; rw [if_neg hi]; exact h
theorem MR_dn {B w i d : Nat} {add : α → α → α} {pd t f : Nat → α} (h : MR B w f t) (hd : d ≤ i) (hi : i < w) : MR B w (vf_upd f (B + 1 + i - d) (add (f (B + 1 + i - d)) (pd i))) (sDn add pd d i t) := by
  intro j hj
  have e := h (i - d) (by omega)
  rw [show B + 1 + (i - d) = B + 1 + i - d by omega] at e
  unfold sDn
  rw [if_pos hd, e]
  by_cases hq : j = i - d
  · subst hq
    rw [show B + 1 + (i - d) = B + 1 + i - d by omega, up_s, up_s]
  · rw [up_n _ _ (by omega), up_n _ _ hq]
    exact h j hj
theorem MR_dn0 {B w i d : Nat} {add : α → α → α} {pd t f : Nat → α} (h : MR B w f t) (hd : ¬ d ≤ i) : MR B w f (sDn add pd d i t) := by
  unfold sDn; rw [if_neg hd]; exact h
theorem up_lt {f h : Nat → α} {k : Nat} {x : α} (hf : ∀ j, j < k → f j = h j) (hx : x = h k) : ∀ j, j < k + 1 → vf_upd f k x j = h j := by
  intro j hj
  by_cases hq : j = k
  · subst hq; rw [up_s]; exact hx
  · rw [up_n _ _ hq]; exact hf j (by omega)
end SC
theorem upd_vf (f : Nat → Int32) (k : Nat) (x : Int32) : upd f k x = vf_upd f k x := rfl
def tWa (z : Zm) (W : Nat → Nat → Int32) : Zm := (z.1, W, z.2.2)
/-- the walks after n contacts, and how many sequences are decided -/
def csN (u d w z : Nat) : Nat → (Nat → Int32) × Int32 × Int32
  | 0 => ((fun i => if i = z then 1 else 0), 0, 0)
  | n + 1 => (scat (· + ·) 0 (csN u d w z n).1 (csN u d w z n).1 u d w w, acc (· + ·) (fun i => decide (w ≤ i + u)) (csN u d w z n).1 ((csN u d w z n).2.1 * 2) w, acc (· + ·) (fun i => decide (i < d)) (csN u d w z n).1 ((csN u d w z n).2.2 * 2) w)
def seqR (u d U B n : Nat) (v : Int32) : Int32 := if v = 1 then (csN u d (59 + U - B) (59 - B) n).2.1 else if v = 2 then (csN u d (59 + U - B) (59 - B) n).2.2 else 1 <<< (nI n &&& 31) - (csN u d (59 + U - B) (59 - B) n).2.1 - (csN u d (59 + U - B) (59 - B) n).2.2
theorem acc_t {α : Type} {add : α → α → α} {c : Nat → Bool} {v : Nat → α} {x0 : α} {i : Nat} (h : c i = true) : acc add c v x0 (i + 1) = add (acc add c v x0 i) (v i) := if_pos h
theorem acc_f {α : Type} {add : α → α → α} {c : Nat → Bool} {v : Nat → α} {x0 : α} {i : Nat} (h : c i = false) : acc add c v x0 (i + 1) = acc add c v x0 i := if_neg (by rw [h]; decide)
end
section
set_option maxRecDepth 100000 in
set_option maxHeartbeats 4000000 in
theorem kX6_sequences (l : Launch) (D : va_G) (kA : Nat → ClassId) (sz : Nat) (ad : Nat → Nat) (g : Sg) (z : Zm) (n : Nat) (v : Int32) (u d U B : Nat) (hn : n ≤ 20) (hp : Par g u d U B) : CtI l yX6_sequences cX6_sequences 8 .int 0 D kA sz (mW ad kA g z) [.ref (ad 0), .int (nI n), .int v] (fun r uu => r = seqR u d U B n v ∧ ∃ W, uu = mW ad kA g (tWa z W)) := by
  refine ct_i (own := RX6) (by decide) rfl (Nat.le_of_ble_eq_true rfl) ?_
  intro p_ e_ s_ m_ ar_ bw_ me_ co_ A ls Q F hnm hK hA hP hD hS hl hsz rt
  have hx := F.1
  have hb := F.2.1
  have hl : lv_has ls 8 [(0, .ref (ad 0)), (1, .int (nI n)), (2, .int v)] := hl
  have hP : va_P D vwCl (mW ad kA g z) s_.heap := hP
  obtain ⟨pu, pd, pU, pB, ⟨hu1, hu2⟩, ⟨hd1, hd2⟩, ⟨hU1, hU2⟩, hB⟩ := id hp
  obtain ⟨w, hw⟩ : ∃ w, w = 59 + U - B := ⟨_, rfl⟩
  obtain ⟨zz, hzz⟩ : ∃ zz, zz = 59 - B := ⟨_, rfl⟩
  refine lv_iconst (v := 0) hx hb dX6_sequences_0 (by decide) ?_
  refine lv_istore_n (lv' := [(3, .int 0), (0, .ref (ad 0)), (1, .int (nI n)), (2, .int v)]) hx hb dX6_sequences_1 rfl hl (by decide) rfl (fun ls hl => ?_)
  have lp_2 : ∀ (n_2 : Nat) (k : Nat) (W1 : Nat → Nat → Int32), (k ≤ 121) → (∀ j, j < k → W1 0 j = if j = 60 then 1 else 0) → (121 - k) < n_2 → ∀ (H : Heap) (locs : List Loc) (ls : Array Slot), va_P D vwCl (mW ad kA g (tWa z W1)) H → va_D A (mW ad kA g (tWa z W1)) → va_S A s_.heap H locs → lv_has ls 8 [(0, .ref (ad 0)), (1, .int (nI n)), (2, .int v), (3, .int (nI k))] → W p_ l e_ (rmC 0 0 0) s_ m_ ar_ bw_ me_ co_ H locs 0 0 Q (F0 m_ 2 ls []) := by
    intro n_2
    induction n_2 with
    | zero =>
      intro k W1 hk hW hm_2
      exact absurd hm_2 (Nat.not_lt_zero _)
    | succ n_2 ih_2 =>
      intro k W1 hk hW hm_2 H locs ls hP hD hS hl
      refine lv_iload_n hx hb dX6_sequences_2 rfl (lv_at hl 3 rfl) ?_
      refine lv_bipush (v := 121) hx hb dX6_sequences_3 (by decide) ?_
      refine b_ge F (a := k) (b := 121) (tgt := 31) dX6_sequences_5 (by decide) (by omega) (by omega) (fun c_5 => ?_) (fun c_5 => ?_)
      · refine lv_iconst (v := 0) hx hb dX6_sequences_31 (by decide) ?_
        refine lv_istore_n (lv' := [(3, .int 0), (0, .ref (ad 0)), (1, .int (nI n)), (2, .int v)]) hx hb dX6_sequences_32 rfl hl (by decide) rfl (fun ls hl => ?_)
        refine lv_iconst (v := 0) hx hb dX6_sequences_33 (by decide) ?_
        refine lv_istore (lv' := [(4, .int 0), (3, .int 0), (0, .ref (ad 0)), (1, .int (nI n)), (2, .int v)]) hx hb dX6_sequences_34 hl (by decide) rfl (fun ls hl => ?_)
        refine lv_iconst (v := 0) hx hb dX6_sequences_36 (by decide) ?_
        refine lv_istore (lv' := [(5, .int 0), (4, .int 0), (3, .int 0), (0, .ref (ad 0)), (1, .int (nI n)), (2, .int v)]) hx hb dX6_sequences_37 hl (by decide) rfl (fun ls hl => ?_)
        have lp_39 : ∀ (n_39 : Nat) (n1 : Nat) (W1 : Nat → Nat → Int32), (n1 ≤ n) → (MR B w (W1 0) (csN u d w zz n1).1) → (n - n1) < n_39 → ∀ (H : Heap) (locs : List Loc) (ls : Array Slot), va_P D vwCl (mW ad kA g (tWa z W1)) H → va_D A (mW ad kA g (tWa z W1)) → va_S A s_.heap H locs → lv_has ls 8 [(0, .ref (ad 0)), (1, .int (nI n)), (2, .int v), (3, .int ((csN u d w zz n1).2.1)), (4, .int ((csN u d w zz n1).2.2)), (5, .int (nI n1))] → W p_ l e_ (rmC 0 0 0) s_ m_ ar_ bw_ me_ co_ H locs 0 0 Q (F0 m_ 39 ls []) := by
          intro n_39
          induction n_39 with
          | zero =>
            intro n1 W1 hn1 hR hm_39
            exact absurd hm_39 (Nat.not_lt_zero _)
          | succ n_39 ih_39 =>
            intro n1 W1 hn1 hR hm_39 H locs ls hP hD hS hl
            refine lv_iload hx hb dX6_sequences_39 (lv_at hl 5 rfl) ?_
            refine lv_iload_n hx hb dX6_sequences_41 rfl (lv_at hl 1 rfl) ?_
            refine b_ge F (a := n1) (b := n) (tgt := 236) dX6_sequences_42 (by decide) (by omega) (by omega) (fun c_42 => ?_) (fun c_42 => ?_)
            · obtain rfl : n = n1 := by omega
              refine lv_iload_n hx hb dX6_sequences_236 rfl (lv_at hl 2 rfl) ?_
              refine lv_iconst (v := 1) hx hb dX6_sequences_237 (by decide) ?_
              refine lv_icmp_ne (tgt := 245) hx hb dX6_sequences_238 (by decide) (fun c_238 => ?_) (fun c_238 => ?_)
              · refine lv_iload_n hx hb dX6_sequences_245 rfl (lv_at hl 2 rfl) ?_
                refine lv_iconst (v := 2) hx hb dX6_sequences_246 (by decide) ?_
                refine lv_icmp_ne (tgt := 255) hx hb dX6_sequences_247 (by decide) (fun c_247 => ?_) (fun c_247 => ?_)
                · refine lv_iconst (v := 1) hx hb dX6_sequences_255 (by decide) ?_
                  refine lv_iload_n hx hb dX6_sequences_256 rfl (lv_at hl 1 rfl) ?_
                  refine lv_ishl hx hb dX6_sequences_257 ?_
                  refine lv_iload_n hx hb dX6_sequences_258 rfl (lv_at hl 3 rfl) ?_
                  refine lv_isub hx hb dX6_sequences_259 ?_
                  refine lv_iload hx hb dX6_sequences_260 (lv_at hl 4 rfl) ?_
                  refine lv_isub hx hb dX6_sequences_262 ?_
                  exact rt _ (mW ad kA g (tWa z W1)) _ _ _ _ hP hD hS dX6_sequences_263 (⟨by rw [seqR, ← hw, ← hzz, if_neg c_238, if_neg c_247], W1, rfl⟩)
                · refine lv_iload hx hb dX6_sequences_250 (lv_at hl 4 rfl) ?_
                  refine lv_goto (tgt := 263) hx hb dX6_sequences_252 (by decide) ?_
                  exact rt _ (mW ad kA g (tWa z W1)) _ _ _ _ hP hD hS dX6_sequences_263 (⟨by rw [seqR, ← hw, ← hzz, if_neg c_238, if_pos c_247], W1, rfl⟩)
              · refine lv_iload_n hx hb dX6_sequences_241 rfl (lv_at hl 3 rfl) ?_
                refine lv_goto (tgt := 263) hx hb dX6_sequences_242 (by decide) ?_
                exact rt _ (mW ad kA g (tWa z W1)) _ _ _ _ hP hD hS dX6_sequences_263 (⟨by rw [seqR, ← hw, ← hzz, if_pos c_238], W1, rfl⟩)
            · refine lv_iload_n hx hb dX6_sequences_45 rfl (lv_at hl 3 rfl) ?_
              refine lv_iconst (v := 2) hx hb dX6_sequences_46 (by decide) ?_
              refine lv_imul hx hb dX6_sequences_47 ?_
              refine lv_istore_n (lv' := [(3, .int (((csN u d w zz n1).2.1) * 2)), (0, .ref (ad 0)), (1, .int (nI n)), (2, .int v), (4, .int ((csN u d w zz n1).2.2)), (5, .int (nI n1))]) hx hb dX6_sequences_48 rfl hl (by decide) rfl (fun ls hl => ?_)
              refine lv_iload hx hb dX6_sequences_49 (lv_at hl 4 rfl) ?_
              refine lv_iconst (v := 2) hx hb dX6_sequences_51 (by decide) ?_
              refine lv_imul hx hb dX6_sequences_52 ?_
              refine lv_istore (lv' := [(4, .int (((csN u d w zz n1).2.2) * 2)), (3, .int (((csN u d w zz n1).2.1) * 2)), (0, .ref (ad 0)), (1, .int (nI n)), (2, .int v), (5, .int (nI n1))]) hx hb dX6_sequences_53 hl (by decide) rfl (fun ls hl => ?_)
              refine lv_iconst (v := 0) hx hb dX6_sequences_55 (by decide) ?_
              refine lv_istore (lv' := [(6, .int 0), (4, .int (((csN u d w zz n1).2.2) * 2)), (3, .int (((csN u d w zz n1).2.1) * 2)), (0, .ref (ad 0)), (1, .int (nI n)), (2, .int v), (5, .int (nI n1))]) hx hb dX6_sequences_56 hl (by decide) rfl (fun ls hl => ?_)
              have lp_58 : ∀ (n_58 : Nat) (k : Nat) (W2 : Nat → Nat → Int32), (k ≤ 121) → (W2 0 = W1 0) → (∀ j, j < k → W2 1 j = 0) → (121 - k) < n_58 → ∀ (H : Heap) (locs : List Loc) (ls : Array Slot), va_P D vwCl (mW ad kA g (tWa z W2)) H → va_D A (mW ad kA g (tWa z W2)) → va_S A s_.heap H locs → lv_has ls 8 [(0, .ref (ad 0)), (1, .int (nI n)), (2, .int v), (3, .int ((csN u d w zz n1).2.1 * 2)), (4, .int ((csN u d w zz n1).2.2 * 2)), (5, .int (nI n1)), (6, .int (nI k))] → W p_ l e_ (rmC 0 0 0) s_ m_ ar_ bw_ me_ co_ H locs 0 0 Q (F0 m_ 58 ls []) := by
                intro n_58
                induction n_58 with
                | zero =>
                  intro k W2 hk h0 hZ hm_58
                  exact absurd hm_58 (Nat.not_lt_zero _)
                | succ n_58 ih_58 =>
                  intro k W2 hk h0 hZ hm_58 H locs ls hP hD hS hl
                  refine lv_iload hx hb dX6_sequences_58 (lv_at hl 6 rfl) ?_
                  refine lv_bipush (v := 121) hx hb dX6_sequences_60 (by decide) ?_
                  refine b_ge F (a := k) (b := 121) (tgt := 79) dX6_sequences_62 (by decide) (by omega) (by omega) (fun c_62 => ?_) (fun c_62 => ?_)
                  · refine lv_aload_n hx hb dX6_sequences_79 rfl (lv_at hl 0 rfl) ?_
                    refine g_get F hK hP inX6 0 rfl rfl 4 (by decide) gw_580 rfl (v := .int (gI g 3)) rfl dX6_sequences_80 ?_
                    rw [pB]
                    refine lv_iconst (v := 1) hx hb dX6_sequences_83 (by decide) ?_
                    refine lv_iadd hx hb dX6_sequences_84 ?_
                    rw [s60]
                    refine lv_istore (lv' := [(6, .int (nI (B + 1) - 60)), (0, .ref (ad 0)), (1, .int (nI n)), (2, .int v), (3, .int ((csN u d w zz n1).2.1 * 2)), (4, .int ((csN u d w zz n1).2.2 * 2)), (5, .int (nI n1))]) hx hb dX6_sequences_85 hl (by decide) rfl (fun ls hl => ?_)
                    have lp_87 : ∀ (n_87 : Nat) (i : Nat) (W3 : Nat → Nat → Int32), (i ≤ w) → (W3 0 = W1 0) → (MR B w (W3 1) (scat (· + ·) 0 (csN u d w zz n1).1 (csN u d w zz n1).1 u d w i)) → (w - i) < n_87 → ∀ (H : Heap) (locs : List Loc) (ls : Array Slot), va_P D vwCl (mW ad kA g (tWa z W3)) H → va_D A (mW ad kA g (tWa z W3)) → va_S A s_.heap H locs → lv_has ls 8 [(0, .ref (ad 0)), (1, .int (nI n)), (2, .int v), (3, .int (acc (· + ·) (fun q9 => decide (w ≤ q9 + u)) (csN u d w zz n1).1 ((csN u d w zz n1).2.1 * 2) i)), (4, .int (acc (· + ·) (fun q9 => decide (q9 < d)) (csN u d w zz n1).1 ((csN u d w zz n1).2.2 * 2) i)), (5, .int (nI n1)), (6, .int (nI (B + 1 + i) - 60))] → W p_ l e_ (rmC 0 0 0) s_ m_ ar_ bw_ me_ co_ H locs 0 0 Q (F0 m_ 87 ls []) := by
                      intro n_87
                      induction n_87 with
                      | zero =>
                        intro i W3 hi h03 hR3 hm_87
                        exact absurd hm_87 (Nat.not_lt_zero _)
                      | succ n_87 ih_87 =>
                        intro i W3 hi h03 hR3 hm_87 H locs ls hP hD hS hl
                        refine lv_iload hx hb dX6_sequences_87 (lv_at hl 6 rfl) ?_
                        refine lv_aload_n hx hb dX6_sequences_89 rfl (lv_at hl 0 rfl) ?_
                        refine g_get F hK hP inX6 0 rfl rfl 3 (by decide) gw_579 rfl (v := .int (gI g 2)) rfl dX6_sequences_90 ?_
                        rw [pU]
                        refine lv_icmp_ge (tgt := 200) hx hb dX6_sequences_93 (by decide) (fun c_93 => ?_) (fun c_93 => ?_)
                        · have hx93 := (qA (by omega) (by omega)).mp c_93
                          obtain rfl : w = i := by omega
                          refine lv_iconst (v := 0) hx hb dX6_sequences_200 (by decide) ?_
                          refine lv_istore (lv' := [(6, .int 0), (0, .ref (ad 0)), (1, .int (nI n)), (2, .int v), (3, .int (acc (· + ·) (fun q9 => decide (w ≤ q9 + u)) (csN u d w zz n1).1 ((csN u d w zz n1).2.1 * 2) w)), (4, .int (acc (· + ·) (fun q9 => decide (q9 < d)) (csN u d w zz n1).1 ((csN u d w zz n1).2.2 * 2) w)), (5, .int (nI n1))]) hx hb dX6_sequences_201 hl (by decide) rfl (fun ls hl => ?_)
                          have lp_203 : ∀ (n_203 : Nat) (k : Nat) (W4 : Nat → Nat → Int32), (k ≤ 121) → (W4 1 = W3 1) → (∀ j, j < k → W4 0 j = W3 1 j) → (121 - k) < n_203 → ∀ (H : Heap) (locs : List Loc) (ls : Array Slot), va_P D vwCl (mW ad kA g (tWa z W4)) H → va_D A (mW ad kA g (tWa z W4)) → va_S A s_.heap H locs → lv_has ls 8 [(0, .ref (ad 0)), (1, .int (nI n)), (2, .int v), (3, .int (acc (· + ·) (fun q9 => decide (w ≤ q9 + u)) (csN u d w zz n1).1 ((csN u d w zz n1).2.1 * 2) w)), (4, .int (acc (· + ·) (fun q9 => decide (q9 < d)) (csN u d w zz n1).1 ((csN u d w zz n1).2.2 * 2) w)), (5, .int (nI n1)), (6, .int (nI k))] → W p_ l e_ (rmC 0 0 0) s_ m_ ar_ bw_ me_ co_ H locs 0 0 Q (F0 m_ 203 ls []) := by
                            intro n_203
                            induction n_203 with
                            | zero =>
                              intro k W4 hk h1 hC hm_203
                              exact absurd hm_203 (Nat.not_lt_zero _)
                            | succ n_203 ih_203 =>
                              intro k W4 hk h1 hC hm_203 H locs ls hP hD hS hl
                              refine lv_iload hx hb dX6_sequences_203 (lv_at hl 6 rfl) ?_
                              refine lv_bipush (v := 121) hx hb dX6_sequences_205 (by decide) ?_
                              refine b_ge F (a := k) (b := 121) (tgt := 230) dX6_sequences_207 (by decide) (by omega) (by omega) (fun c_207 => ?_) (fun c_207 => ?_)
                              · refine lv_iinc (v := nI (n1 + 1)) (lv' := [(5, .int (nI (n1 + 1))), (0, .ref (ad 0)), (1, .int (nI n)), (2, .int v), (3, .int (acc (· + ·) (fun q9 => decide (w ≤ q9 + u)) (csN u d w zz n1).1 ((csN u d w zz n1).2.1 * 2) w)), (4, .int (acc (· + ·) (fun q9 => decide (q9 < d)) (csN u d w zz n1).1 ((csN u d w zz n1).2.2 * 2) w)), (6, .int (nI k))]) hx hb dX6_sequences_230 hl (k := 5) rfl (nI_add n1 1) (by decide) rfl (fun ls hl => ?_)
                                refine lv_goto (tgt := 39) hx hb dX6_sequences_233 (by decide) ?_
                                exact ih_39  (n1 + 1) W4 (by omega) (fun j hj => by rw [hC _ (by omega)]; exact hR3 j hj) (by omega) _ _ _ hP hD hS (lv_sub hl [1, 2, 3, 4, 5, 0] rfl)
                              · refine lv_aload_n hx hb dX6_sequences_210 rfl (lv_at hl 0 rfl) ?_
                                refine g_get F hK hP inX6 0 rfl rfl 20 (by decide) gw_596 rfl (v := .ref (ad 11)) rfl dX6_sequences_211 ?_
                                refine lv_iload hx hb dX6_sequences_214 (lv_at hl 6 rfl) ?_
                                refine lv_aload_n hx hb dX6_sequences_216 rfl (lv_at hl 0 rfl) ?_
                                refine g_get F hK hP inX6 0 rfl rfl 21 (by decide) gw_597 rfl (v := .ref (ad 12)) rfl dX6_sequences_217 ?_
                                refine lv_iload hx hb dX6_sequences_220 (lv_at hl 6 rfl) ?_
                                refine a_ild F hK hP 12 (f := zW (tWa z W4) 1) rfl (j := k) (by omega) (by decide) dX6_sequences_222 ?_
                                refine a_ist F hK hP hD hS 11 (f := zW (tWa z W4) 0) rfl (j := k) (by omega) (by decide) dX6_sequences_223 (fun H locs hP hD hS => ?_)
                                have hP : va_P D vwCl (mW ad kA g (tW (tWa z W4) 0 (upd (zW (tWa z W4) 0) k (zW (tWa z W4) 1 k)))) H := hP
                                have hD : va_D A (mW ad kA g (tW (tWa z W4) 0 (upd (zW (tWa z W4) 0) k (zW (tWa z W4) 1 k)))) := hD
                                refine lv_iinc (v := nI (k + 1)) (lv' := [(6, .int (nI (k + 1))), (0, .ref (ad 0)), (1, .int (nI n)), (2, .int v), (3, .int (acc (· + ·) (fun q9 => decide (w ≤ q9 + u)) (csN u d w zz n1).1 ((csN u d w zz n1).2.1 * 2) w)), (4, .int (acc (· + ·) (fun q9 => decide (q9 < d)) (csN u d w zz n1).1 ((csN u d w zz n1).2.2 * 2) w)), (5, .int (nI n1))]) hx hb dX6_sequences_224 hl (k := 6) rfl (nI_add k 1) (by decide) rfl (fun ls hl => ?_)
                                refine lv_goto (tgt := 203) hx hb dX6_sequences_227 (by decide) ?_
                                exact ih_203  (k + 1) (vf_upd W4 0 (upd (W4 0) k (W4 1 k))) (by omega) h1 (up_lt (f := W4 0) (k := k) (x := W4 1 k) (h := W3 1) hC (by rw [h1])) (by omega) _ _ _ hP hD hS (lv_sub hl [1, 2, 3, 4, 5, 6, 0] rfl)
                          exact lp_203 _ 0 W3 (Nat.zero_le _) rfl (fun j hj => absurd hj (Nat.not_lt_zero _)) (Nat.lt_succ_self _) _ _ _ hP hD hS (lv_sub hl [1, 2, 3, 4, 5, 6, 0] rfl)
                        · have hx93 : ¬ 60 + U ≤ B + 1 + i := fun h => c_93 ((qA (by omega) (by omega)).mpr h)
                          refine lv_aload_n hx hb dX6_sequences_96 rfl (lv_at hl 0 rfl) ?_
                          refine g_get F hK hP inX6 0 rfl rfl 20 (by decide) gw_596 rfl (v := .ref (ad 11)) rfl dX6_sequences_97 ?_
                          refine lv_bipush (v := 60) hx hb dX6_sequences_100 (by decide) ?_
                          refine lv_iload hx hb dX6_sequences_102 (lv_at hl 6 rfl) ?_
                          refine lv_iadd hx hb dX6_sequences_104 ?_
                          rw [e60]
                          refine a_ild F hK hP 11 (f := zW (tWa z W3) 0) rfl (j := B + 1 + i) (by omega) (by decide) dX6_sequences_105 ?_
                          rw [show (zW (tWa z W3) 0 (B + 1 + i)) = ((csN u d w zz n1).1 i) from (by rw [show zW (tWa z W3) 0 = W1 0 from h03]; exact hR i (by omega))]
                          refine lv_istore (lv' := [(7, .int ((csN u d w zz n1).1 i)), (0, .ref (ad 0)), (1, .int (nI n)), (2, .int v), (3, .int (acc (· + ·) (fun q9 => decide (w ≤ q9 + u)) (csN u d w zz n1).1 ((csN u d w zz n1).2.1 * 2) i)), (4, .int (acc (· + ·) (fun q9 => decide (q9 < d)) (csN u d w zz n1).1 ((csN u d w zz n1).2.2 * 2) i)), (5, .int (nI n1)), (6, .int (nI (B + 1 + i) - 60))]) hx hb dX6_sequences_106 hl (by decide) rfl (fun ls hl => ?_)
                          refine lv_iload hx hb dX6_sequences_108 (lv_at hl 7 rfl) ?_
                          refine lv_aload_n hx hb dX6_sequences_110 rfl (lv_at hl 1 rfl) ?_
                          refine g_get F hK hP inX6 0 rfl rfl 1 (by decide) gw_577 rfl (v := .int (gI g 0)) rfl dX6_sequences_111 ?_
                          rw [pu]
                          refine lv_iadd hx hb dX6_sequences_114 ?_
                          refine lv_aload_n hx hb dX6_sequences_115 rfl (lv_at hl 1 rfl) ?_
                          refine g_get F hK hP inX6 0 rfl rfl 3 (by decide) gw_579 rfl (v := .int (gI g 2)) rfl dX6_sequences_116 ?_
                          rw [pU]
                          refine lv_icmp_lt (tgt := 130) hx hb dX6_sequences_119 (by decide) (fun c_119 => ?_) (fun c_119 => ?_)
                          · have hx119 := (qB (by omega) (by omega) (by omega)).mp c_119
                            have ea3 : acc (· + ·) (fun q9 => decide (w ≤ q9 + u)) (csN u d w zz n1).1 ((csN u d w zz n1).2.1 * 2) (i + 1) = acc (· + ·) (fun q9 => decide (w ≤ q9 + u)) (csN u d w zz n1).1 ((csN u d w zz n1).2.1 * 2) i := acc_f (by simp only [decide_eq_false_iff_not]; omega)
                            rw [← ea3] at hl
                            refine lv_aload_n hx hb dX6_sequences_130 rfl (lv_at hl 1 rfl) ?_
                            refine g_get F hK hP inX6 0 rfl rfl 21 (by decide) gw_597 rfl (v := .ref (ad 12)) rfl dX6_sequences_131 ?_
                            refine lv_bipush (v := 60) hx hb dX6_sequences_134 (by decide) ?_
                            refine lv_iload hx hb dX6_sequences_136 (lv_at hl 7 rfl) ?_
                            refine lv_iadd hx hb dX6_sequences_138 ?_
                            rw [e60]
                            refine lv_aload_n hx hb dX6_sequences_139 rfl (lv_at hl 1 rfl) ?_
                            refine g_get F hK hP inX6 0 rfl rfl 1 (by decide) gw_577 rfl (v := .int (gI g 0)) rfl dX6_sequences_140 ?_
                            rw [pu]
                            refine n_add F (a := B + 1 + i) (b := u) dX6_sequences_143 ?_
                            refine lv_dup2_11 hx hb dX6_sequences_144 rfl rfl ?_
                            refine a_ild F hK hP 12 (f := zW (tWa z W3) 1) rfl (j := B + 1 + i + u) (by omega) (by decide) dX6_sequences_145 ?_
                            refine lv_iload hx hb dX6_sequences_146 (lv_at hl 0 rfl) ?_
                            refine lv_iadd hx hb dX6_sequences_148 ?_
                            refine a_ist F hK hP hD hS 12 (f := zW (tWa z W3) 1) rfl (j := B + 1 + i + u) (by omega) (by decide) dX6_sequences_149 (fun H locs hP hD hS => ?_)
                            have hP : va_P D vwCl (mW ad kA g (tW (tWa z W3) 1 (upd (zW (tWa z W3) 1) (B + 1 + i + u) ((zW (tWa z W3) 1 (B + 1 + i + u)) + ((csN u d w zz n1).1 i))))) H := hP
                            have hD : va_D A (mW ad kA g (tW (tWa z W3) 1 (upd (zW (tWa z W3) 1) (B + 1 + i + u) ((zW (tWa z W3) 1 (B + 1 + i + u)) + ((csN u d w zz n1).1 i))))) := hD
                            refine lv_iload hx hb dX6_sequences_150 (lv_at hl 7 rfl) ?_
                            refine lv_aload_n hx hb dX6_sequences_152 rfl (lv_at hl 1 rfl) ?_
                            refine g_get F hK hP inX6 0 rfl rfl 2 (by decide) gw_578 rfl (v := .int (gI g 1)) rfl dX6_sequences_153 ?_
                            rw [pd]
                            refine lv_isub hx hb dX6_sequences_156 ?_
                            refine lv_aload_n hx hb dX6_sequences_157 rfl (lv_at hl 1 rfl) ?_
                            refine g_get F hK hP inX6 0 rfl rfl 4 (by decide) gw_580 rfl (v := .int (gI g 3)) rfl dX6_sequences_158 ?_
                            rw [pB]
                            refine lv_icmp_gt (tgt := 174) hx hb dX6_sequences_161 (by decide) (fun c_161 => ?_) (fun c_161 => ?_)
                            · have hx161 := (qC (by omega) (by omega) (by omega)).mp c_161
                              have ea4 : acc (· + ·) (fun q9 => decide (q9 < d)) (csN u d w zz n1).1 ((csN u d w zz n1).2.2 * 2) (i + 1) = acc (· + ·) (fun q9 => decide (q9 < d)) (csN u d w zz n1).1 ((csN u d w zz n1).2.2 * 2) i := acc_f (by simp only [decide_eq_false_iff_not]; omega)
                              rw [← ea4] at hl
                              refine lv_aload_n hx hb dX6_sequences_174 rfl (lv_at hl 1 rfl) ?_
                              refine g_get F hK hP inX6 0 rfl rfl 21 (by decide) gw_597 rfl (v := .ref (ad 12)) rfl dX6_sequences_175 ?_
                              refine lv_bipush (v := 60) hx hb dX6_sequences_178 (by decide) ?_
                              refine lv_iload hx hb dX6_sequences_180 (lv_at hl 7 rfl) ?_
                              refine lv_iadd hx hb dX6_sequences_182 ?_
                              rw [e60]
                              refine lv_aload_n hx hb dX6_sequences_183 rfl (lv_at hl 1 rfl) ?_
                              refine g_get F hK hP inX6 0 rfl rfl 2 (by decide) gw_578 rfl (v := .int (gI g 1)) rfl dX6_sequences_184 ?_
                              rw [pd]
                              refine n_sub F (a := B + 1 + i) (b := d) dX6_sequences_187 (by omega) ?_
                              refine lv_dup2_11 hx hb dX6_sequences_188 rfl rfl ?_
                              refine a_ild F hK hP 12 (f := upd (zW (tWa z W3) 1) (B + 1 + i + u) ((zW (tWa z W3) 1 (B + 1 + i + u)) + ((csN u d w zz n1).1 i))) rfl (j := (B + 1 + i) - d) (by omega) (by decide) dX6_sequences_189 ?_
                              refine lv_iload hx hb dX6_sequences_190 (lv_at hl 0 rfl) ?_
                              refine lv_iadd hx hb dX6_sequences_192 ?_
                              refine a_ist F hK hP hD hS 12 (f := upd (zW (tWa z W3) 1) (B + 1 + i + u) ((zW (tWa z W3) 1 (B + 1 + i + u)) + ((csN u d w zz n1).1 i))) rfl (j := (B + 1 + i) - d) (by omega) (by decide) dX6_sequences_193 (fun H locs hP hD hS => ?_)
                              have hP : va_P D vwCl (mW ad kA g (tW (tW (tWa z W3) 1 (upd (zW (tWa z W3) 1) (B + 1 + i + u) ((zW (tWa z W3) 1 (B + 1 + i + u)) + ((csN u d w zz n1).1 i)))) 1 (upd (upd (zW (tWa z W3) 1) (B + 1 + i + u) ((zW (tWa z W3) 1 (B + 1 + i + u)) + ((csN u d w zz n1).1 i))) ((B + 1 + i) - d) (((upd (zW (tWa z W3) 1) (B + 1 + i + u) ((zW (tWa z W3) 1 (B + 1 + i + u)) + ((csN u d w zz n1).1 i))) ((B + 1 + i) - d)) + ((csN u d w zz n1).1 i))))) H := hP
                              have hD : va_D A (mW ad kA g (tW (tW (tWa z W3) 1 (upd (zW (tWa z W3) 1) (B + 1 + i + u) ((zW (tWa z W3) 1 (B + 1 + i + u)) + ((csN u d w zz n1).1 i)))) 1 (upd (upd (zW (tWa z W3) 1) (B + 1 + i + u) ((zW (tWa z W3) 1 (B + 1 + i + u)) + ((csN u d w zz n1).1 i))) ((B + 1 + i) - d) (((upd (zW (tWa z W3) 1) (B + 1 + i + u) ((zW (tWa z W3) 1 (B + 1 + i + u)) + ((csN u d w zz n1).1 i))) ((B + 1 + i) - d)) + ((csN u d w zz n1).1 i))))) := hD
                              refine lv_iinc (v := nI (B + 1 + (i + 1)) - 60) (lv' := [(6, .int (nI (B + 1 + (i + 1)) - 60)), (7, .int ((csN u d w zz n1).1 i)), (0, .ref (ad 0)), (1, .int (nI n)), (2, .int v), (3, .int (acc (· + ·) (fun q9 => decide (w ≤ q9 + u)) (csN u d w zz n1).1 ((csN u d w zz n1).2.1 * 2) (i + 1))), (4, .int (acc (· + ·) (fun q9 => decide (q9 < d)) (csN u d w zz n1).1 ((csN u d w zz n1).2.2 * 2) (i + 1))), (5, .int (nI n1))]) hx hb dX6_sequences_194 hl (k := 7) rfl (s60 _) (by decide) rfl (fun ls hl => ?_)
                              refine lv_goto (tgt := 87) hx hb dX6_sequences_197 (by decide) ?_
                              have hM1 : MR B w (vf_upd (W3 1) (B + 1 + i + u) (W3 1 (B + 1 + i + u) + (csN u d w zz n1).1 i)) (sUp (· + ·) (csN u d w zz n1).1 u w i (scat (· + ·) 0 (csN u d w zz n1).1 (csN u d w zz n1).1 u d w i)) := MR_up (add := (· + ·)) (pu := (csN u d w zz n1).1) (f := W3 1) hR3 (by omega)
                              have hM2 : MR B w (vf_upd (vf_upd (W3 1) (B + 1 + i + u) (W3 1 (B + 1 + i + u) + (csN u d w zz n1).1 i)) (B + 1 + i - d) ((vf_upd (W3 1) (B + 1 + i + u) (W3 1 (B + 1 + i + u) + (csN u d w zz n1).1 i)) (B + 1 + i - d) + (csN u d w zz n1).1 i)) (scat (· + ·) 0 (csN u d w zz n1).1 (csN u d w zz n1).1 u d w (i + 1)) := MR_dn (add := (· + ·)) (pd := (csN u d w zz n1).1) (f := vf_upd (W3 1) (B + 1 + i + u) (W3 1 (B + 1 + i + u) + (csN u d w zz n1).1 i)) hM1 (by omega) (by omega)
                              exact ih_87  (i + 1) (vf_upd W3 1 (vf_upd (vf_upd (W3 1) (B + 1 + i + u) (W3 1 (B + 1 + i + u) + (csN u d w zz n1).1 i)) (B + 1 + i - d) ((vf_upd (W3 1) (B + 1 + i + u) (W3 1 (B + 1 + i + u) + (csN u d w zz n1).1 i)) (B + 1 + i - d) + (csN u d w zz n1).1 i))) (by omega) h03 hM2 (by omega) _ _ _ hP hD hS (lv_sub hl [2, 3, 4, 5, 6, 7, 0] rfl)
                            · have hx161 : ¬ B + d < B + 1 + i := fun h => c_161 ((qC (by omega) (by omega) (by omega)).mpr h)
                              refine lv_iload hx hb dX6_sequences_164 (lv_at hl 5 rfl) ?_
                              refine lv_iload hx hb dX6_sequences_166 (lv_at hl 0 rfl) ?_
                              refine lv_iadd hx hb dX6_sequences_168 ?_
                              refine lv_istore (lv' := [(4, .int ((acc (· + ·) (fun q9 => decide (q9 < d)) (csN u d w zz n1).1 ((csN u d w zz n1).2.2 * 2) i) + ((csN u d w zz n1).1 i))), (7, .int ((csN u d w zz n1).1 i)), (0, .ref (ad 0)), (1, .int (nI n)), (2, .int v), (3, .int (acc (· + ·) (fun q9 => decide (w ≤ q9 + u)) (csN u d w zz n1).1 ((csN u d w zz n1).2.1 * 2) (i + 1))), (5, .int (nI n1)), (6, .int (nI (B + 1 + i) - 60))]) hx hb dX6_sequences_169 hl (by decide) rfl (fun ls hl => ?_)
                              have ea4 : acc (· + ·) (fun q9 => decide (q9 < d)) (csN u d w zz n1).1 ((csN u d w zz n1).2.2 * 2) (i + 1) = acc (· + ·) (fun q9 => decide (q9 < d)) (csN u d w zz n1).1 ((csN u d w zz n1).2.2 * 2) i + (csN u d w zz n1).1 i := acc_t (by simp only [decide_eq_true_eq]; omega)
                              rw [← ea4] at hl
                              refine lv_goto (tgt := 194) hx hb dX6_sequences_171 (by decide) ?_
                              refine lv_iinc (v := nI (B + 1 + (i + 1)) - 60) (lv' := [(6, .int (nI (B + 1 + (i + 1)) - 60)), (4, .int (acc (· + ·) (fun q9 => decide (q9 < d)) (csN u d w zz n1).1 ((csN u d w zz n1).2.2 * 2) (i + 1))), (7, .int ((csN u d w zz n1).1 i)), (0, .ref (ad 0)), (1, .int (nI n)), (2, .int v), (3, .int (acc (· + ·) (fun q9 => decide (w ≤ q9 + u)) (csN u d w zz n1).1 ((csN u d w zz n1).2.1 * 2) (i + 1))), (5, .int (nI n1))]) hx hb dX6_sequences_194 hl (k := 7) rfl (s60 _) (by decide) rfl (fun ls hl => ?_)
                              refine lv_goto (tgt := 87) hx hb dX6_sequences_197 (by decide) ?_
                              have hM1 : MR B w (vf_upd (W3 1) (B + 1 + i + u) (W3 1 (B + 1 + i + u) + (csN u d w zz n1).1 i)) (sUp (· + ·) (csN u d w zz n1).1 u w i (scat (· + ·) 0 (csN u d w zz n1).1 (csN u d w zz n1).1 u d w i)) := MR_up (add := (· + ·)) (pu := (csN u d w zz n1).1) (f := W3 1) hR3 (by omega)
                              have hM2 : MR B w (vf_upd (W3 1) (B + 1 + i + u) (W3 1 (B + 1 + i + u) + (csN u d w zz n1).1 i)) (scat (· + ·) 0 (csN u d w zz n1).1 (csN u d w zz n1).1 u d w (i + 1)) := MR_dn0 hM1 (by omega)
                              exact ih_87  (i + 1) (vf_upd W3 1 (vf_upd (W3 1) (B + 1 + i + u) (W3 1 (B + 1 + i + u) + (csN u d w zz n1).1 i))) (by omega) h03 hM2 (by omega) _ _ _ hP hD hS (lv_sub hl [3, 4, 5, 6, 1, 7, 0] rfl)
                          · have hx119 : ¬ B + 1 + i + u < 60 + U := fun h => c_119 ((qB (by omega) (by omega) (by omega)).mpr h)
                            refine lv_iload_n hx hb dX6_sequences_122 rfl (lv_at hl 4 rfl) ?_
                            refine lv_iload hx hb dX6_sequences_123 (lv_at hl 0 rfl) ?_
                            refine lv_iadd hx hb dX6_sequences_125 ?_
                            refine lv_istore_n (lv' := [(3, .int ((acc (· + ·) (fun q9 => decide (w ≤ q9 + u)) (csN u d w zz n1).1 ((csN u d w zz n1).2.1 * 2) i) + ((csN u d w zz n1).1 i))), (7, .int ((csN u d w zz n1).1 i)), (0, .ref (ad 0)), (1, .int (nI n)), (2, .int v), (4, .int (acc (· + ·) (fun q9 => decide (q9 < d)) (csN u d w zz n1).1 ((csN u d w zz n1).2.2 * 2) i)), (5, .int (nI n1)), (6, .int (nI (B + 1 + i) - 60))]) hx hb dX6_sequences_126 rfl hl (by decide) rfl (fun ls hl => ?_)
                            have ea3 : acc (· + ·) (fun q9 => decide (w ≤ q9 + u)) (csN u d w zz n1).1 ((csN u d w zz n1).2.1 * 2) (i + 1) = acc (· + ·) (fun q9 => decide (w ≤ q9 + u)) (csN u d w zz n1).1 ((csN u d w zz n1).2.1 * 2) i + (csN u d w zz n1).1 i := acc_t (by simp only [decide_eq_true_eq]; omega)
                            rw [← ea3] at hl
                            refine lv_goto (tgt := 150) hx hb dX6_sequences_127 (by decide) ?_
                            refine lv_iload hx hb dX6_sequences_150 (lv_at hl 7 rfl) ?_
                            refine lv_aload_n hx hb dX6_sequences_152 rfl (lv_at hl 2 rfl) ?_
                            refine g_get F hK hP inX6 0 rfl rfl 2 (by decide) gw_578 rfl (v := .int (gI g 1)) rfl dX6_sequences_153 ?_
                            rw [pd]
                            refine lv_isub hx hb dX6_sequences_156 ?_
                            refine lv_aload_n hx hb dX6_sequences_157 rfl (lv_at hl 2 rfl) ?_
                            refine g_get F hK hP inX6 0 rfl rfl 4 (by decide) gw_580 rfl (v := .int (gI g 3)) rfl dX6_sequences_158 ?_
                            rw [pB]
                            refine lv_icmp_gt (tgt := 174) hx hb dX6_sequences_161 (by decide) (fun c_161 => ?_) (fun c_161 => ?_)
                            · have hx161 := (qC (by omega) (by omega) (by omega)).mp c_161
                              have ea4 : acc (· + ·) (fun q9 => decide (q9 < d)) (csN u d w zz n1).1 ((csN u d w zz n1).2.2 * 2) (i + 1) = acc (· + ·) (fun q9 => decide (q9 < d)) (csN u d w zz n1).1 ((csN u d w zz n1).2.2 * 2) i := acc_f (by simp only [decide_eq_false_iff_not]; omega)
                              rw [← ea4] at hl
                              refine lv_aload_n hx hb dX6_sequences_174 rfl (lv_at hl 2 rfl) ?_
                              refine g_get F hK hP inX6 0 rfl rfl 21 (by decide) gw_597 rfl (v := .ref (ad 12)) rfl dX6_sequences_175 ?_
                              refine lv_bipush (v := 60) hx hb dX6_sequences_178 (by decide) ?_
                              refine lv_iload hx hb dX6_sequences_180 (lv_at hl 7 rfl) ?_
                              refine lv_iadd hx hb dX6_sequences_182 ?_
                              rw [e60]
                              refine lv_aload_n hx hb dX6_sequences_183 rfl (lv_at hl 2 rfl) ?_
                              refine g_get F hK hP inX6 0 rfl rfl 2 (by decide) gw_578 rfl (v := .int (gI g 1)) rfl dX6_sequences_184 ?_
                              rw [pd]
                              refine n_sub F (a := B + 1 + i) (b := d) dX6_sequences_187 (by omega) ?_
                              refine lv_dup2_11 hx hb dX6_sequences_188 rfl rfl ?_
                              refine a_ild F hK hP 12 (f := zW (tWa z W3) 1) rfl (j := (B + 1 + i) - d) (by omega) (by decide) dX6_sequences_189 ?_
                              refine lv_iload hx hb dX6_sequences_190 (lv_at hl 1 rfl) ?_
                              refine lv_iadd hx hb dX6_sequences_192 ?_
                              refine a_ist F hK hP hD hS 12 (f := zW (tWa z W3) 1) rfl (j := (B + 1 + i) - d) (by omega) (by decide) dX6_sequences_193 (fun H locs hP hD hS => ?_)
                              have hP : va_P D vwCl (mW ad kA g (tW (tWa z W3) 1 (upd (zW (tWa z W3) 1) ((B + 1 + i) - d) ((zW (tWa z W3) 1 ((B + 1 + i) - d)) + ((csN u d w zz n1).1 i))))) H := hP
                              have hD : va_D A (mW ad kA g (tW (tWa z W3) 1 (upd (zW (tWa z W3) 1) ((B + 1 + i) - d) ((zW (tWa z W3) 1 ((B + 1 + i) - d)) + ((csN u d w zz n1).1 i))))) := hD
                              refine lv_iinc (v := nI (B + 1 + (i + 1)) - 60) (lv' := [(6, .int (nI (B + 1 + (i + 1)) - 60)), (3, .int (acc (· + ·) (fun q9 => decide (w ≤ q9 + u)) (csN u d w zz n1).1 ((csN u d w zz n1).2.1 * 2) (i + 1))), (7, .int ((csN u d w zz n1).1 i)), (0, .ref (ad 0)), (1, .int (nI n)), (2, .int v), (4, .int (acc (· + ·) (fun q9 => decide (q9 < d)) (csN u d w zz n1).1 ((csN u d w zz n1).2.2 * 2) (i + 1))), (5, .int (nI n1))]) hx hb dX6_sequences_194 hl (k := 7) rfl (s60 _) (by decide) rfl (fun ls hl => ?_)
                              refine lv_goto (tgt := 87) hx hb dX6_sequences_197 (by decide) ?_
                              have hM1 : MR B w (W3 1) (sUp (· + ·) (csN u d w zz n1).1 u w i (scat (· + ·) 0 (csN u d w zz n1).1 (csN u d w zz n1).1 u d w i)) := MR_up0 hR3 (by omega)
                              have hM2 : MR B w (vf_upd (W3 1) (B + 1 + i - d) ((W3 1) (B + 1 + i - d) + (csN u d w zz n1).1 i)) (scat (· + ·) 0 (csN u d w zz n1).1 (csN u d w zz n1).1 u d w (i + 1)) := MR_dn (add := (· + ·)) (pd := (csN u d w zz n1).1) (f := W3 1) hM1 (by omega) (by omega)
                              exact ih_87  (i + 1) (vf_upd W3 1 (vf_upd (W3 1) (B + 1 + i - d) ((W3 1) (B + 1 + i - d) + (csN u d w zz n1).1 i))) (by omega) h03 hM2 (by omega) _ _ _ hP hD hS (lv_sub hl [3, 4, 5, 1, 6, 7, 0] rfl)
                            · have hx161 : ¬ B + d < B + 1 + i := fun h => c_161 ((qC (by omega) (by omega) (by omega)).mpr h)
                              refine lv_iload hx hb dX6_sequences_164 (lv_at hl 5 rfl) ?_
                              refine lv_iload hx hb dX6_sequences_166 (lv_at hl 1 rfl) ?_
                              refine lv_iadd hx hb dX6_sequences_168 ?_
                              refine lv_istore (lv' := [(4, .int ((acc (· + ·) (fun q9 => decide (q9 < d)) (csN u d w zz n1).1 ((csN u d w zz n1).2.2 * 2) i) + ((csN u d w zz n1).1 i))), (3, .int (acc (· + ·) (fun q9 => decide (w ≤ q9 + u)) (csN u d w zz n1).1 ((csN u d w zz n1).2.1 * 2) (i + 1))), (7, .int ((csN u d w zz n1).1 i)), (0, .ref (ad 0)), (1, .int (nI n)), (2, .int v), (5, .int (nI n1)), (6, .int (nI (B + 1 + i) - 60))]) hx hb dX6_sequences_169 hl (by decide) rfl (fun ls hl => ?_)
                              have ea4 : acc (· + ·) (fun q9 => decide (q9 < d)) (csN u d w zz n1).1 ((csN u d w zz n1).2.2 * 2) (i + 1) = acc (· + ·) (fun q9 => decide (q9 < d)) (csN u d w zz n1).1 ((csN u d w zz n1).2.2 * 2) i + (csN u d w zz n1).1 i := acc_t (by simp only [decide_eq_true_eq]; omega)
                              rw [← ea4] at hl
                              refine lv_goto (tgt := 194) hx hb dX6_sequences_171 (by decide) ?_
                              refine lv_iinc (v := nI (B + 1 + (i + 1)) - 60) (lv' := [(6, .int (nI (B + 1 + (i + 1)) - 60)), (4, .int (acc (· + ·) (fun q9 => decide (q9 < d)) (csN u d w zz n1).1 ((csN u d w zz n1).2.2 * 2) (i + 1))), (3, .int (acc (· + ·) (fun q9 => decide (w ≤ q9 + u)) (csN u d w zz n1).1 ((csN u d w zz n1).2.1 * 2) (i + 1))), (7, .int ((csN u d w zz n1).1 i)), (0, .ref (ad 0)), (1, .int (nI n)), (2, .int v), (5, .int (nI n1))]) hx hb dX6_sequences_194 hl (k := 7) rfl (s60 _) (by decide) rfl (fun ls hl => ?_)
                              refine lv_goto (tgt := 87) hx hb dX6_sequences_197 (by decide) ?_
                              have hM1 : MR B w (W3 1) (sUp (· + ·) (csN u d w zz n1).1 u w i (scat (· + ·) 0 (csN u d w zz n1).1 (csN u d w zz n1).1 u d w i)) := MR_up0 hR3 (by omega)
                              have hM2 : MR B w (W3 1) (scat (· + ·) 0 (csN u d w zz n1).1 (csN u d w zz n1).1 u d w (i + 1)) := MR_dn0 hM1 (by omega)
                              exact ih_87  (i + 1) W3 (by omega) h03 hM2 (by omega) _ _ _ hP hD hS (lv_sub hl [4, 5, 6, 2, 1, 7, 0] rfl)
                    exact lp_87 _ 0 W2 (Nat.zero_le _) h0 (fun i hi => hZ _ (by omega)) (Nat.lt_succ_self _) _ _ _ hP hD hS (lv_sub hl [1, 2, 3, 4, 5, 6, 0] rfl)
                  · refine lv_aload_n hx hb dX6_sequences_65 rfl (lv_at hl 0 rfl) ?_
                    refine g_get F hK hP inX6 0 rfl rfl 21 (by decide) gw_597 rfl (v := .ref (ad 12)) rfl dX6_sequences_66 ?_
                    refine lv_iload hx hb dX6_sequences_69 (lv_at hl 6 rfl) ?_
                    refine lv_iconst (v := 0) hx hb dX6_sequences_71 (by decide) ?_
                    refine a_ist F hK hP hD hS 12 (f := zW (tWa z W2) 1) rfl (j := k) (by omega) (by decide) dX6_sequences_72 (fun H locs hP hD hS => ?_)
                    have hP : va_P D vwCl (mW ad kA g (tW (tWa z W2) 1 (upd (zW (tWa z W2) 1) k 0))) H := hP
                    have hD : va_D A (mW ad kA g (tW (tWa z W2) 1 (upd (zW (tWa z W2) 1) k 0))) := hD
                    refine lv_iinc (v := nI (k + 1)) (lv' := [(6, .int (nI (k + 1))), (0, .ref (ad 0)), (1, .int (nI n)), (2, .int v), (3, .int ((csN u d w zz n1).2.1 * 2)), (4, .int ((csN u d w zz n1).2.2 * 2)), (5, .int (nI n1))]) hx hb dX6_sequences_73 hl (k := 6) rfl (nI_add k 1) (by decide) rfl (fun ls hl => ?_)
                    refine lv_goto (tgt := 58) hx hb dX6_sequences_76 (by decide) ?_
                    exact ih_58  (k + 1) (vf_upd W2 1 (upd (W2 1) k 0)) (by omega) h0 (up_lt (f := W2 1) (k := k) (x := 0) (h := fun _ => 0) hZ rfl) (by omega) _ _ _ hP hD hS (lv_sub hl [1, 2, 3, 4, 5, 6, 0] rfl)
              exact lp_58 _ 0 W1 (Nat.zero_le _) rfl (fun j hj => absurd hj (Nat.not_lt_zero _)) (Nat.lt_succ_self _) _ _ _ hP hD hS (lv_sub hl [3, 4, 5, 2, 1, 6, 0] rfl)
        exact lp_39 _ 0 W1 (Nat.zero_le _) (fun i hi => by rw [hW _ (by omega)]; show (if B + 1 + i = 60 then (1 : Int32) else 0) = if i = zz then 1 else 0; simp only [show (B + 1 + i = 60) = (i = zz) from propext ⟨by omega, by omega⟩]) (Nat.lt_succ_self _) _ _ _ hP hD hS (lv_sub hl [3, 4, 5, 2, 1, 0] rfl)
      · refine lv_aload_n hx hb dX6_sequences_8 rfl (lv_at hl 0 rfl) ?_
        refine g_get F hK hP inX6 0 rfl rfl 20 (by decide) gw_596 rfl (v := .ref (ad 11)) rfl dX6_sequences_9 ?_
        refine lv_iload_n hx hb dX6_sequences_12 rfl (lv_at hl 3 rfl) ?_
        refine lv_iload_n hx hb dX6_sequences_13 rfl (lv_at hl 3 rfl) ?_
        refine lv_bipush (v := 60) hx hb dX6_sequences_14 (by decide) ?_
        refine b_ne F (a := k) (b := 60) (tgt := 23) dX6_sequences_16 (by decide) (by omega) (by omega) (fun c_16 => ?_) (fun c_16 => ?_)
        · refine lv_iconst (v := 0) hx hb dX6_sequences_23 (by decide) ?_
          refine a_ist F hK hP hD hS 11 (f := zW (tWa z W1) 0) rfl (j := k) (by omega) (by decide) dX6_sequences_24 (fun H locs hP hD hS => ?_)
          have hP : va_P D vwCl (mW ad kA g (tW (tWa z W1) 0 (upd (zW (tWa z W1) 0) k 0))) H := hP
          have hD : va_D A (mW ad kA g (tW (tWa z W1) 0 (upd (zW (tWa z W1) 0) k 0))) := hD
          refine lv_iinc (v := nI (k + 1)) (lv' := [(3, .int (nI (k + 1))), (0, .ref (ad 0)), (1, .int (nI n)), (2, .int v)]) hx hb dX6_sequences_25 hl (k := 3) rfl (nI_add k 1) (by decide) rfl (fun ls hl => ?_)
          refine lv_goto (tgt := 2) hx hb dX6_sequences_28 (by decide) ?_
          exact ih_2  (k + 1) (vf_upd W1 0 (upd (W1 0) k 0)) (by omega) (up_lt (f := W1 0) (k := k) (x := 0) (h := fun j => if j = 60 then 1 else 0) hW (by rw [if_neg c_16])) (by omega) _ _ _ hP hD hS (lv_sub hl [1, 2, 3, 0] rfl)
        · refine lv_iconst (v := 1) hx hb dX6_sequences_19 (by decide) ?_
          refine lv_goto (tgt := 24) hx hb dX6_sequences_20 (by decide) ?_
          refine a_ist F hK hP hD hS 11 (f := zW (tWa z W1) 0) rfl (j := k) (by omega) (by decide) dX6_sequences_24 (fun H locs hP hD hS => ?_)
          have hP : va_P D vwCl (mW ad kA g (tW (tWa z W1) 0 (upd (zW (tWa z W1) 0) k 1))) H := hP
          have hD : va_D A (mW ad kA g (tW (tWa z W1) 0 (upd (zW (tWa z W1) 0) k 1))) := hD
          refine lv_iinc (v := nI (k + 1)) (lv' := [(3, .int (nI (k + 1))), (0, .ref (ad 0)), (1, .int (nI n)), (2, .int v)]) hx hb dX6_sequences_25 hl (k := 3) rfl (nI_add k 1) (by decide) rfl (fun ls hl => ?_)
          refine lv_goto (tgt := 2) hx hb dX6_sequences_28 (by decide) ?_
          exact ih_2  (k + 1) (vf_upd W1 0 (upd (W1 0) k 1)) (by omega) (up_lt (f := W1 0) (k := k) (x := 1) (h := fun j => if j = 60 then 1 else 0) hW (by rw [if_pos c_16])) (by omega) _ _ _ hP hD hS (lv_sub hl [1, 2, 3, 0] rfl)
  exact lp_2 _ 0 (zW z) (Nat.zero_le _) (fun j hj => absurd hj (Nat.not_lt_zero _)) (Nat.lt_succ_self _) _ _ _ hP hD hS (lv_sub hl [1, 2, 3, 0] rfl)
end
section
/-! doubles: numbers that aren't negative, in units of the least one; sums and products stay between bounds -/
theorem qm64 : FP.Core.b64.qmin = -1074 := by decide +kernel
theorem qx64 : FP.Core.b64.qmax = 971 := by decide +kernel
def Fn (x : UInt64) (v : Nat) : Prop := ∃ (c : Nat) (q : Int), FP.Core.val64 x = .fin false c q ∧ v = FP.Core.inUnits c q FP.Core.b64.qmin
theorem Fn.n64 {x : UInt64} {v : Nat} (h : Fn x v) : vf_n64 x := by
  obtain ⟨c, q, h, -⟩ := h
  have h1 := (FP.Core.fin_bits x).mp ⟨false, c, q, h⟩
  show x &&& 0x7fffffffffffffff ≤ 0x7ff0000000000000
  rw [UInt64.le_iff_toNat_le, FP.Core.mask_toNat]
  show x.toNat % 2 ^ 63 ≤ 9218868437227405312
  omega
theorem rep {k t : Nat} (hk : k < 2 ^ 53) (ht : t ≤ 2045) : ∃ V, FP.Core.fits FP.Core.b64 V ∧ V ≠ .nan ∧ FP.Core.zmag FP.Core.b64 V = k * 2 ^ t := by
  obtain ⟨c, q, h, e⟩ := FP.Core.round_exact FP.Core.good_b64 false (c := k) (q := (t : Int) - 1074) hk (by rw [qm64]; omega) (by rw [qx64]; omega)
  refine ⟨FP.Core.round FP.Core.b64 (.fin false k ((t : Int) - 1074)), FP.Core.round_fits FP.Core.good_b64 _, by rw [h]; exact FP.Core.Datum.noConfusion, ?_⟩
  rw [h]
  show FP.Core.inUnits c q FP.Core.b64.qmin = _
  rw [e]
  unfold FP.Core.inUnits
  rw [qm64, show ((t : Int) - 1074 - -1074).toNat = t by omega]
theorem big_lt {k t : Nat} (hk : k < 2 ^ 53) (ht : t ≤ 2045) : k * 2 ^ t < 2 ^ 2098 := by
  have h1 : k * 2 ^ t < 2 ^ 53 * 2 ^ t := Nat.mul_lt_mul_of_pos_right hk (Nat.two_pow_pos t)
  rw [← Nat.pow_add] at h1
  exact Nat.lt_of_lt_of_le h1 (Nat.pow_le_pow_right (by decide) (by omega))
theorem rr {A : Nat} {e : Int} {L k t : Nat} (he : -2148 ≤ e) (hlo : 2 ^ L * 2 ^ 1074 ≤ FP.Core.inUnits A e (-2148)) (hL : L ≤ 2045) (hhi : FP.Core.inUnits A e (-2148) ≤ k * 2 ^ t * 2 ^ 1074) (hk : k < 2 ^ 53) (ht : t ≤ 2045) :
    ∃ (c : Nat) (q : Int), FP.Core.roundRatio FP.Core.b64 false A 1 e = .fin false c q ∧ 2 ^ L ≤ FP.Core.inUnits c q FP.Core.b64.qmin ∧ FP.Core.inUnits c q FP.Core.b64.qmin ≤ k * 2 ^ t := by
  obtain ⟨V1, f1, n1, z1⟩ := rep (k := 1) (t := L) (by decide) hL
  obtain ⟨V2, f2, n2, z2⟩ := rep hk ht
  rw [Nat.one_mul] at z1
  have hq : (FP.Core.b64.qmin - (-2148)).toNat = 1074 := by rw [qm64]; decide
  have a1 := FP.Core.zmag_roundRatio_ge (s := false) (A := A) (B := 1) (e := e) (e0 := -2148) FP.Core.good_b64 (by decide) f1 (by rw [qm64]; decide) he (by rw [z1, hq, Nat.mul_one]; exact hlo)
  have a2 := FP.Core.zmag_roundRatio_le (s := false) (A := A) (B := 1) (e := e) (e0 := -2148) FP.Core.good_b64 (by decide) f2 n2 (by rw [qm64]; decide) he (by rw [z2, hq, Nat.mul_one]; exact hhi)
  rw [z1] at a1
  rw [z2] at a2
  rcases FP.Core.roundRatio_cases FP.Core.b64 false A 1 e with ⟨c, q, h⟩ | h
  · rw [h] at a1 a2
    exact ⟨c, q, h, a1, a2⟩
  · rw [h] at a2
    have h3 : FP.Core.zmag FP.Core.b64 (.inf false) = 2 ^ 2098 := by decide +kernel
    rw [h3] at a2
    exact absurd a2 (Nat.not_le.mpr (big_lt hk ht))
theorem iu_move (c : Nat) {q r e : Int} (h1 : e ≤ r) (h2 : r ≤ q) : FP.Core.inUnits (FP.Core.inUnits c q r) r e = FP.Core.inUnits c q e := by
  rw [FP.Core.inUnits_move c h1 h2]
  rfl
theorem iu_add (a b : Nat) (q e : Int) : FP.Core.inUnits (a + b) q e = FP.Core.inUnits a q e + FP.Core.inUnits b q e := Nat.add_mul _ _ _
theorem Fn_zero {x : UInt64} (h : FP.Core.val64 x = .fin false 0 FP.Core.b64.qmin) : Fn x 0 := ⟨0, _, h, by unfold FP.Core.inUnits; rw [Nat.zero_mul]⟩
theorem Fn_add {x y : UInt64} {a b : Nat} (hx : Fn x a) (hy : Fn y b) {L k t : Nat} (hlo : a + b = 0 ∨ 2 ^ L ≤ a + b) (hL : L ≤ 2045) (hhi : a + b ≤ k * 2 ^ t) (hk : k < 2 ^ 53) (ht : t ≤ 2045) : ∃ v, Fn (FP.dadd x y) v ∧ (v = 0 ∨ 2 ^ L ≤ v) ∧ v ≤ k * 2 ^ t := by
  obtain ⟨c, q, hc, rfl⟩ := hx
  obtain ⟨d, r, hd, rfl⟩ := hy
  have fc := FP.Core.val64_fits x
  have fd := FP.Core.val64_fits y
  rw [hc] at fc
  rw [hd] at fd
  have q1 : FP.Core.b64.qmin ≤ q := fc.2.1
  have r1 : FP.Core.b64.qmin ≤ r := fd.2.1
  have hv := FP.Core.val64_dadd x y
  rw [hc, hd] at hv
  have hS : FP.Core.sumUnits false c q false d r (min q r) = ((FP.Core.inUnits c q (min q r) + FP.Core.inUnits d r (min q r) : Nat) : Int) := by
    unfold FP.Core.sumUnits FP.Core.signed
    simp
  have hE : FP.Core.exactSum (.fin false c q) (.fin false d r) = .fin false (FP.Core.inUnits c q (min q r) + FP.Core.inUnits d r (min q r)) (min q r) := by
    show FP.Core.Datum.fin _ _ _ = _
    rw [hS]
    have h0 : FP.Core.sumSign false false ((FP.Core.inUnits c q (min q r) + FP.Core.inUnits d r (min q r) : Nat) : Int) = false := by
      unfold FP.Core.sumSign
      split
      · rfl
      · exact decide_eq_false (by omega)
    rw [h0, Int.natAbs_natCast]
  rw [hE] at hv
  generalize hA : FP.Core.inUnits c q (min q r) + FP.Core.inUnits d r (min q r) = A at hv
  have hm1 : FP.Core.b64.qmin ≤ min q r := by omega
  have hab : FP.Core.inUnits A (min q r) FP.Core.b64.qmin = FP.Core.inUnits c q FP.Core.b64.qmin + FP.Core.inUnits d r FP.Core.b64.qmin := by
    rw [← hA, iu_add, iu_move c hm1 (by omega), iu_move d hm1 (by omega)]
  rw [← hab] at hlo hhi
  have h48 : FP.Core.inUnits A (min q r) (-2148) = FP.Core.inUnits A (min q r) FP.Core.b64.qmin * 2 ^ 1074 := by
    rw [FP.Core.inUnits_move A (r := FP.Core.b64.qmin) (by rw [qm64]; decide) hm1, show (FP.Core.b64.qmin - (-2148)).toNat = 1074 by rw [qm64]; decide]
  rcases hlo with hlo | hlo
  · have hA0 : A = 0 := by
      unfold FP.Core.inUnits at hlo
      rcases Nat.mul_eq_zero.mp hlo with h | h
      · exact h
      · exact absurd h (Nat.ne_of_gt (Nat.two_pow_pos _))
    rw [hA0] at hv
    exact ⟨0, Fn_zero hv, Or.inl rfl, Nat.zero_le _⟩
  · obtain ⟨c2, q2, e1, e2, e3⟩ := rr (A := A) (e := min q r) (L := L) (k := k) (t := t) (by rw [qm64] at hm1; omega) (by rw [h48]; exact Nat.mul_le_mul_right _ hlo) hL (by rw [h48]; exact Nat.mul_le_mul_right _ hhi) hk ht
    exact ⟨_, ⟨c2, q2, hv.trans e1, rfl⟩, Or.inr e2, e3⟩
theorem Fn_mul {x y : UInt64} {a b : Nat} (hx : Fn x a) (hy : Fn y b) {L k t : Nat} (hlo : a * b = 0 ∨ 2 ^ L * 2 ^ 1074 ≤ a * b) (hL : L ≤ 2045) (hhi : a * b ≤ k * 2 ^ t * 2 ^ 1074) (hk : k < 2 ^ 53) (ht : t ≤ 2045) : ∃ v, Fn (FP.dmul x y) v ∧ (v = 0 ∨ 2 ^ L ≤ v) ∧ v ≤ k * 2 ^ t := by
  obtain ⟨c, q, hc, rfl⟩ := hx
  obtain ⟨d, r, hd, rfl⟩ := hy
  have fc := FP.Core.val64_fits x
  have fd := FP.Core.val64_fits y
  rw [hc] at fc
  rw [hd] at fd
  have q1 : FP.Core.b64.qmin ≤ q := fc.2.1
  have r1 : FP.Core.b64.qmin ≤ r := fd.2.1
  rw [qm64] at q1 r1
  have hv := FP.Core.val64_dmul x y
  rw [hc, hd, show FP.Core.exactProduct (.fin false c q) (.fin false d r) = .fin false (c * d) (q + r) from rfl] at hv
  have hab : FP.Core.inUnits (c * d) (q + r) (-2148) = FP.Core.inUnits c q FP.Core.b64.qmin * FP.Core.inUnits d r FP.Core.b64.qmin := by
    unfold FP.Core.inUnits
    rw [qm64, show (q + r - -2148).toNat = (q - -1074).toNat + (r - -1074).toNat by omega, Nat.pow_add]
    ac_rfl
  rw [← hab] at hlo hhi
  rcases hlo with hlo | hlo
  · have hA0 : c * d = 0 := by
      unfold FP.Core.inUnits at hlo
      rcases Nat.mul_eq_zero.mp hlo with h | h
      · exact h
      · exact absurd h (Nat.ne_of_gt (Nat.two_pow_pos _))
    rw [hA0] at hv
    exact ⟨0, Fn_zero hv, Or.inl rfl, Nat.zero_le _⟩
  · obtain ⟨c2, q2, e1, e2, e3⟩ := rr (A := c * d) (e := q + r) (L := L) (k := k) (t := t) (by omega) hlo hL hhi hk ht
    exact ⟨_, ⟨c2, q2, hv.trans e1, rfl⟩, Or.inr e2, e3⟩
/-- a number that isn't negative: 0, or at least 2^L; at most k * 2^t -/
def Ok (L k t : Nat) (x : UInt64) : Prop := ∃ v, Fn x v ∧ (v = 0 ∨ 2 ^ L ≤ v) ∧ v ≤ k * 2 ^ t
theorem Ok.n64 {L k t : Nat} {x : UInt64} (h : Ok L k t x) : vf_n64 x := by
  obtain ⟨v, h, -⟩ := h
  exact h.n64
theorem Ok.weak {L k t L2 k2 t2 : Nat} {x : UInt64} (h : Ok L k t x) (hL : L2 ≤ L) (hk : k * 2 ^ t ≤ k2 * 2 ^ t2) : Ok L2 k2 t2 x := by
  obtain ⟨v, h1, h2, h3⟩ := h
  refine ⟨v, h1, ?_, Nat.le_trans h3 hk⟩
  rcases h2 with h2 | h2
  · exact Or.inl h2
  · exact Or.inr (Nat.le_trans (Nat.pow_le_pow_right (by decide) hL) h2)
theorem Ok.add {L k k2 t : Nat} {x y : UInt64} (hx : Ok L k t x) (hy : Ok L k2 t y) (hL : L ≤ 2045) (hk : k + k2 < 2 ^ 53) (ht : t ≤ 2045) : Ok L (k + k2) t (FP.dadd x y) := by
  obtain ⟨a, a1, a2, a3⟩ := hx
  obtain ⟨b, b1, b2, b3⟩ := hy
  have := Nat.two_pow_pos L
  exact Fn_add a1 b1 (by omega) hL (by rw [Nat.add_mul]; omega) hk ht
/-- a factor: 0, or from 2^-7 to 1 -/
def Fac (y : UInt64) : Prop := Ok 1067 1 1074 y
theorem Ok.mul {L k t : Nat} {x y : UInt64} (hx : Ok (L + 7) k t x) (hy : Fac y) (hL : L ≤ 2045) (hk : k < 2 ^ 53) (ht : t ≤ 2045) : Ok L k t (FP.dmul x y) := by
  obtain ⟨a, a1, a2, a3⟩ := hx
  obtain ⟨b, b1, b2, b3⟩ := hy
  rw [Nat.one_mul] at b3
  refine Fn_mul a1 b1 ?_ hL (Nat.mul_le_mul a3 b3) hk ht
  rcases a2 with rfl | a2
  · exact Or.inl (Nat.zero_mul _)
  · rcases b2 with rfl | b2
    · exact Or.inl (Nat.mul_zero _)
    · refine Or.inr (Nat.le_trans (Nat.le_of_eq ?_) (Nat.mul_le_mul a2 b2))
      rw [← Nat.pow_add, ← Nat.pow_add]
theorem ok_0 (L k t : Nat) : Ok L k t FP.dconst0 := ⟨0, Fn_zero (by decide +kernel), Or.inl rfl, Nat.zero_le _⟩
theorem ok_1 : Ok 1074 1 1074 FP.dconst1 := ⟨2 ^ 1074, ⟨2 ^ 52, -52, FP.Core.val64_dconst1, by rw [qm64]; decide +kernel⟩, Or.inr (Nat.le_refl _), by rw [Nat.one_mul]; exact Nat.le_refl _⟩
def pOf (j : Nat) : UInt64 := FP.ddiv (FP.i2d (nI j)) 4636737291354636288
def qOf (j : Nat) : UInt64 := FP.dsub FP.dconst1 (pOf j)
def facB (x : UInt64) : Bool := match FP.Core.val64 x with
  | .fin false c q => (decide (FP.Core.inUnits c q FP.Core.b64.qmin = 0) || decide (2 ^ 1067 ≤ FP.Core.inUnits c q FP.Core.b64.qmin)) && decide (FP.Core.inUnits c q FP.Core.b64.qmin ≤ 1 * 2 ^ 1074)
  | _ => false
theorem fac_of {x : UInt64} (h : facB x = true) : Fac x := by
  unfold facB at h
  split at h
  · rename_i c q hv
    simp only [Bool.and_eq_true, Bool.or_eq_true, decide_eq_true_eq] at h
    exact ⟨_, ⟨c, q, hv, rfl⟩, h.1, h.2⟩
  · cases h
set_option maxRecDepth 100000 in
theorem pq_all : ∀ j, j < 101 → facB (pOf j) = true ∧ facB (qOf j) = true := by decide +kernel
theorem pOf_ok {j : Nat} (h : j ≤ 100) : Fac (pOf j) := fac_of (pq_all j (by omega)).1
theorem qOf_ok {j : Nat} (h : j ≤ 100) : Fac (qOf j) := fac_of (pq_all j (by omega)).2
end
section
/-- the chances after n contacts, the chance of the verdict SCANNER, the contacts awaited -/
def chN (p q : UInt64) (u d w z : Nat) : Nat → (Nat → UInt64) × UInt64 × UInt64
  | 0 => ((fun i => if i = z then FP.dconst1 else FP.dconst0), FP.dconst0, FP.dconst0)
  | n + 1 => (scat FP.dadd FP.dconst0 (fun i => FP.dmul ((chN p q u d w z n).1 i) q) (fun i => FP.dmul ((chN p q u d w z n).1 i) p) u d w w, acc FP.dadd (fun i => decide (w ≤ i + u)) (fun i => FP.dmul ((chN p q u d w z n).1 i) q) (chN p q u d w z n).2.1 w, FP.dadd (chN p q u d w z n).2.2 (acc FP.dadd (fun _ => true) (chN p q u d w z n).1 FP.dconst0 w))
theorem ok_scat {L t : Nat} {pu pd : Nat → UInt64} {u d w : Nat} (hL : L ≤ 2045) (ht : t ≤ 2045) (hu : ∀ i, Ok L 1 t (pu i)) (hd : ∀ i, Ok L 1 t (pd i)) : ∀ i, i ≤ 200 → ∀ j, Ok L (2 * i) t (scat FP.dadd FP.dconst0 pu pd u d w i j)
  | 0, _, j => ok_0 _ _ _
  | i + 1, hi, j => by
    have ih := ok_scat (u := u) (d := d) (w := w) hL ht hu hd i (by omega)
    have h1 : ∀ j, Ok L (2 * i + 1) t (sUp FP.dadd pu u w i (scat FP.dadd FP.dconst0 pu pd u d w i) j) := by
      intro j
      unfold sUp
      split
      · by_cases hj : j = i + u
        · subst hj
          rw [up_s]
          exact (ih _).add (hu i) hL (by omega) ht
        · rw [up_n _ _ hj]
          exact (ih j).weak (Nat.le_refl _) (Nat.mul_le_mul_right _ (by omega))
      · exact (ih j).weak (Nat.le_refl _) (Nat.mul_le_mul_right _ (by omega))
    show Ok L (2 * (i + 1)) t (sDn FP.dadd pd d i (sUp FP.dadd pu u w i (scat FP.dadd FP.dconst0 pu pd u d w i)) j)
    unfold sDn
    split
    · by_cases hj : j = i - d
      · subst hj
        rw [up_s]
        exact ((h1 _).add (hd i) hL (by omega) ht).weak (Nat.le_refl _) (Nat.mul_le_mul_right _ (by omega))
      · rw [up_n _ _ hj]
        exact (h1 j).weak (Nat.le_refl _) (Nat.mul_le_mul_right _ (by omega))
    · exact (h1 j).weak (Nat.le_refl _) (Nat.mul_le_mul_right _ (by omega))
theorem ok_acc {L t k : Nat} {c : Nat → Bool} {v : Nat → UInt64} {x0 : UInt64} (hL : L ≤ 2045) (ht : t ≤ 2045) (hk : k ≤ 2 ^ 40) (h0 : Ok L k t x0) (hv : ∀ i, Ok L 1 t (v i)) : ∀ i, i ≤ 200 → Ok L (k + i) t (acc FP.dadd c v x0 i)
  | 0, _ => h0
  | i + 1, hi => by
    have ih := ok_acc (c := c) hL ht hk h0 hv i (by omega)
    unfold acc
    split
    · exact ih.add (hv i) hL (by omega) ht
    · exact ih.weak (Nat.le_refl _) (Nat.mul_le_mul_right _ (by omega))
theorem up_pow {k t t2 : Nat} (h : t ≤ t2) : k * 2 ^ t ≤ k * 2 ^ t2 := Nat.mul_le_mul_left _ (Nat.pow_le_pow_right (by decide) h)
theorem ok_chN {p q : UInt64} {u d w z : Nat} (hp : Fac p) (hq : Fac q) (hw : w ≤ 119) : ∀ n, n ≤ 60 → (∀ i, Ok (654 + 7 * (60 - n)) 1 (1074 + 8 * n) ((chN p q u d w z n).1 i)) ∧ Ok 654 (119 * n) 1554 (chN p q u d w z n).2.1 ∧ Ok 654 (119 * n) 1554 (chN p q u d w z n).2.2
  | 0, _ => by
    refine ⟨fun i => ?_, ok_0 _ _ _, ok_0 _ _ _⟩
    show Ok _ _ _ (if i = z then FP.dconst1 else FP.dconst0)
    split
    · exact ok_1
    · exact ok_0 _ _ _
  | n + 1, hn => by
    obtain ⟨h1, h2, h3⟩ := ok_chN (u := u) (d := d) (w := w) (z := z) hp hq hw n (by omega)
    have e : 654 + 7 * (60 - n) = 654 + 7 * (60 - (n + 1)) + 7 := by omega
    rw [e] at h1
    have mq : ∀ i, Ok (654 + 7 * (60 - (n + 1))) 1 (1074 + 8 * n) (FP.dmul ((chN p q u d w z n).1 i) q) := fun i => (h1 i).mul hq (by omega) (by decide) (by omega)
    have mp : ∀ i, Ok (654 + 7 * (60 - (n + 1))) 1 (1074 + 8 * n) (FP.dmul ((chN p q u d w z n).1 i) p) := fun i => (h1 i).mul hp (by omega) (by decide) (by omega)
    have mq2 : ∀ i, Ok 654 1 1554 (FP.dmul ((chN p q u d w z n).1 i) q) := fun i => (mq i).weak (by omega) (up_pow (by omega))
    have a2 : ∀ i, Ok 654 1 1554 ((chN p q u d w z n).1 i) := fun i => (h1 i).weak (by omega) (up_pow (by omega))
    refine ⟨fun i => ?_, ?_, ?_⟩
    · have h4 := ok_scat (u := u) (d := d) (w := w) (by omega) (by omega) mq mp w (by omega) i
      refine h4.weak (Nat.le_refl _) ?_
      rw [Nat.one_mul, show 1074 + 8 * (n + 1) = 8 + (1074 + 8 * n) by omega, Nat.pow_add 2 8 (1074 + 8 * n)]
      generalize 2 ^ (1074 + 8 * n) = T
      exact Nat.mul_le_mul_right T (show 2 * w ≤ 2 ^ 8 by omega)
    · exact (ok_acc (by decide) (by decide) (by omega) h2 mq2 w (by omega)).weak (Nat.le_refl _) (Nat.mul_le_mul_right _ (by omega))
    · have h5 := ok_acc (c := fun _ => true) (k := 0) (by decide) (by decide) (by decide) (ok_0 654 0 1554) a2 w (by omega)
      rw [Nat.zero_add] at h5
      exact (h3.add h5 (by decide) (by omega) (by decide)).weak (Nat.le_refl _) (Nat.mul_le_mul_right _ (by omega))
/-- what holds of every number that a contact meets, in one place -/
theorem ok_step {p q : UInt64} {u d w z n : Nat} (hp : Fac p) (hq : Fac q) (hw : w ≤ 119) (hn : n < 60) :
    (∀ i, Ok 654 1 1554 ((chN p q u d w z n).1 i)) ∧ (∀ i, Ok 654 1 1554 (FP.dmul ((chN p q u d w z n).1 i) q)) ∧ (∀ i, Ok 654 1 1554 (FP.dmul ((chN p q u d w z n).1 i) p)) ∧
    (∀ i, i ≤ 200 → ∀ j, Ok 654 (2 * i) 1554 (scat FP.dadd FP.dconst0 (fun i => FP.dmul ((chN p q u d w z n).1 i) q) (fun i => FP.dmul ((chN p q u d w z n).1 i) p) u d w i j)) ∧
    (∀ i, i ≤ 200 → Ok 654 (119 * n + i) 1554 (acc FP.dadd (fun i => decide (w ≤ i + u)) (fun i => FP.dmul ((chN p q u d w z n).1 i) q) (chN p q u d w z n).2.1 i)) ∧
    (∀ i, i ≤ 200 → Ok 654 i 1554 (acc FP.dadd (fun _ => true) (chN p q u d w z n).1 FP.dconst0 i)) ∧ Ok 654 (119 * n) 1554 (chN p q u d w z n).2.1 ∧ Ok 654 (119 * n) 1554 (chN p q u d w z n).2.2 := by
  obtain ⟨h1, h2, h3⟩ := ok_chN (u := u) (d := d) (w := w) (z := z) hp hq hw n (by omega)
  have e : 654 + 7 * (60 - n) = 654 + 7 * (60 - (n + 1)) + 7 := by omega
  have a2 : ∀ i, Ok 654 1 1554 ((chN p q u d w z n).1 i) := fun i => (h1 i).weak (by omega) (up_pow (by omega))
  rw [e] at h1
  have mq2 : ∀ i, Ok 654 1 1554 (FP.dmul ((chN p q u d w z n).1 i) q) := fun i => ((h1 i).mul hq (by omega) (by decide) (by omega)).weak (by omega) (up_pow (by omega))
  have mp2 : ∀ i, Ok 654 1 1554 (FP.dmul ((chN p q u d w z n).1 i) p) := fun i => ((h1 i).mul hp (by omega) (by decide) (by omega)).weak (by omega) (up_pow (by omega))
  refine ⟨a2, mq2, mp2, fun i hi j => ok_scat (by decide) (by decide) mq2 mp2 i hi j, fun i hi => ok_acc (by decide) (by decide) (by omega) h2 mq2 i hi, fun i hi => ?_, h2, h3⟩
  have h5 := ok_acc (c := fun _ => true) (k := 0) (by decide) (by decide) (by decide) (ok_0 654 0 1554) a2 i hi
  rw [Nat.zero_add] at h5
  exact h5
theorem ok_up {L k t : Nat} {pu T : Nat → UInt64} {u w i : Nat} (hL : L ≤ 2045) (ht : t ≤ 2045) (hk : k < 2 ^ 40) (hT : ∀ j, Ok L k t (T j)) (hu : Ok L 1 t (pu i)) : ∀ j, Ok L (k + 1) t (sUp FP.dadd pu u w i T j) := by
  intro j
  unfold sUp
  split
  · by_cases hj : j = i + u
    · subst hj
      rw [up_s]
      exact (hT _).add hu hL (by omega) ht
    · rw [up_n _ _ hj]
      exact (hT j).weak (Nat.le_refl _) (Nat.mul_le_mul_right _ (by omega))
  · exact (hT j).weak (Nat.le_refl _) (Nat.mul_le_mul_right _ (by omega))
/-- the scratch of doubles of the reference set -/
def tCF (z : Zm) (C : Nat → Nat → UInt64) (F : Nat → UInt64) : Zm := (z.1, z.2.1, C, F, z.2.2.2.2)
end
