section
-- ===== PART A: goes FIRST, ahead of the names: the tables' words, and 'selects' of the private methods out of them =====
/-- a private method of a class that the tables say can be made, by its rows of tables_1 -/
def lw_okq (q : MethodName × Nat) : Prop := (q.1.cls ≠ "java/lang/invoke/MethodHandle" ∧ q.1.cls ≠ "java/lang/invoke/VarHandle") ∧ Cond.instantiable q.1.cls q.2 ∈ tables_1 ∧ Cond.privateMethod q.1 ∈ tables_1 ∧ Cond.instanceMethod q.1 ∈ tables_1
theorem lw_p0 : lw_okq (⟨"PromiseHours$House", "countSkewedBeyondDoubt", "()I"⟩, 17) := ⟨⟨by decide +kernel, by decide +kernel⟩, List.mem_of_getElem? (i := 17) (by decide +kernel), List.mem_of_getElem? (i := 207) (by decide +kernel), List.mem_of_getElem? (i := 208) (by decide +kernel)⟩
theorem lw_p1 : lw_okq (⟨"PromiseHours$House", "settleAll", "()I"⟩, 17) := ⟨⟨by decide +kernel, by decide +kernel⟩, List.mem_of_getElem? (i := 17) (by decide +kernel), List.mem_of_getElem? (i := 221) (by decide +kernel), List.mem_of_getElem? (i := 222) (by decide +kernel)⟩
theorem lw_p2 : lw_okq (⟨"PromiseHours$House", "settle", "(I)Z"⟩, 17) := ⟨⟨by decide +kernel, by decide +kernel⟩, List.mem_of_getElem? (i := 17) (by decide +kernel), List.mem_of_getElem? (i := 225) (by decide +kernel), List.mem_of_getElem? (i := 226) (by decide +kernel)⟩
theorem lw_p3 : lw_okq (⟨"PromiseHours$House", "isHolder", "(LPromiseHours$Reader;I)Z"⟩, 17) := ⟨⟨by decide +kernel, by decide +kernel⟩, List.mem_of_getElem? (i := 17) (by decide +kernel), List.mem_of_getElem? (i := 229) (by decide +kernel), List.mem_of_getElem? (i := 230) (by decide +kernel)⟩
theorem lw_p4 : lw_okq (⟨"PromiseHours$House", "settleHolder", "(LPromiseHours$Reader;I)V"⟩, 17) := ⟨⟨by decide +kernel, by decide +kernel⟩, List.mem_of_getElem? (i := 17) (by decide +kernel), List.mem_of_getElem? (i := 233) (by decide +kernel), List.mem_of_getElem? (i := 234) (by decide +kernel)⟩
theorem lw_p5 : lw_okq (⟨"PromiseHours$Reader", "volumeTermFor", "(I)I"⟩, 13) := ⟨⟨by decide +kernel, by decide +kernel⟩, List.mem_of_getElem? (i := 24) (by decide +kernel), List.mem_of_getElem? (i := 237) (by decide +kernel), List.mem_of_getElem? (i := 238) (by decide +kernel)⟩
theorem lw_p6 : lw_okq (⟨"PromiseHours$House", "putOnList", "(LPromiseHours$Reader;I)V"⟩, 17) := ⟨⟨by decide +kernel, by decide +kernel⟩, List.mem_of_getElem? (i := 17) (by decide +kernel), List.mem_of_getElem? (i := 244) (by decide +kernel), List.mem_of_getElem? (i := 245) (by decide +kernel)⟩
theorem lw_p7 : lw_okq (⟨"PromiseHours$House", "sendLetter", "(LPromiseHours$Reader;I)V"⟩, 17) := ⟨⟨by decide +kernel, by decide +kernel⟩, List.mem_of_getElem? (i := 17) (by decide +kernel), List.mem_of_getElem? (i := 252) (by decide +kernel), List.mem_of_getElem? (i := 253) (by decide +kernel)⟩
theorem lw_p8 : lw_okq (⟨"PromiseHours$Reader", "dropCopy", "(I)V"⟩, 13) := ⟨⟨by decide +kernel, by decide +kernel⟩, List.mem_of_getElem? (i := 24) (by decide +kernel), List.mem_of_getElem? (i := 256) (by decide +kernel), List.mem_of_getElem? (i := 257) (by decide +kernel)⟩
theorem lw_p9 : lw_okq (⟨"PromiseHours$Reader", "takeCopy", "(III)V"⟩, 13) := ⟨⟨by decide +kernel, by decide +kernel⟩, List.mem_of_getElem? (i := 24) (by decide +kernel), List.mem_of_getElem? (i := 260) (by decide +kernel), List.mem_of_getElem? (i := 261) (by decide +kernel)⟩
theorem lw_p10 : lw_okq (⟨"PromiseHours$House", "holdersOf", "(I)I"⟩, 17) := ⟨⟨by decide +kernel, by decide +kernel⟩, List.mem_of_getElem? (i := 17) (by decide +kernel), List.mem_of_getElem? (i := 264) (by decide +kernel), List.mem_of_getElem? (i := 265) (by decide +kernel)⟩
theorem lw_p11 : lw_okq (⟨"PromiseHours$House", "readBy", "(LPromiseHours$Reader;I)I"⟩, 17) := ⟨⟨by decide +kernel, by decide +kernel⟩, List.mem_of_getElem? (i := 17) (by decide +kernel), List.mem_of_getElem? (i := 275) (by decide +kernel), List.mem_of_getElem? (i := 276) (by decide +kernel)⟩
theorem lw_p12 : lw_okq (⟨"PromiseHours$House", "canUse", "(LPromiseHours$Reader;I)Z"⟩, 17) := ⟨⟨by decide +kernel, by decide +kernel⟩, List.mem_of_getElem? (i := 17) (by decide +kernel), List.mem_of_getElem? (i := 279) (by decide +kernel), List.mem_of_getElem? (i := 280) (by decide +kernel)⟩
theorem lw_p13 : lw_okq (⟨"PromiseHours$Reader", "hasCopy", "(I)Z"⟩, 13) := ⟨⟨by decide +kernel, by decide +kernel⟩, List.mem_of_getElem? (i := 24) (by decide +kernel), List.mem_of_getElem? (i := 283) (by decide +kernel), List.mem_of_getElem? (i := 284) (by decide +kernel)⟩
theorem lw_p14 : lw_okq (⟨"PromiseHours$House", "isOver", "(LPromiseHours$Reader;I)Z"⟩, 17) := ⟨⟨by decide +kernel, by decide +kernel⟩, List.mem_of_getElem? (i := 17) (by decide +kernel), List.mem_of_getElem? (i := 287) (by decide +kernel), List.mem_of_getElem? (i := 288) (by decide +kernel)⟩
theorem lw_p15 : lw_okq (⟨"PromiseHours$House", "useCopy", "(LPromiseHours$Reader;I)I"⟩, 17) := ⟨⟨by decide +kernel, by decide +kernel⟩, List.mem_of_getElem? (i := 17) (by decide +kernel), List.mem_of_getElem? (i := 291) (by decide +kernel), List.mem_of_getElem? (i := 292) (by decide +kernel)⟩
def lw_privs_1 : List (MethodName × Nat) := [(⟨"PromiseHours$House", "countSkewedBeyondDoubt", "()I"⟩, 17), (⟨"PromiseHours$House", "settleAll", "()I"⟩, 17), (⟨"PromiseHours$House", "settle", "(I)Z"⟩, 17), (⟨"PromiseHours$House", "isHolder", "(LPromiseHours$Reader;I)Z"⟩, 17), (⟨"PromiseHours$House", "settleHolder", "(LPromiseHours$Reader;I)V"⟩, 17), (⟨"PromiseHours$Reader", "volumeTermFor", "(I)I"⟩, 13), (⟨"PromiseHours$House", "putOnList", "(LPromiseHours$Reader;I)V"⟩, 17), (⟨"PromiseHours$House", "sendLetter", "(LPromiseHours$Reader;I)V"⟩, 17), (⟨"PromiseHours$Reader", "dropCopy", "(I)V"⟩, 13), (⟨"PromiseHours$Reader", "takeCopy", "(III)V"⟩, 13), (⟨"PromiseHours$House", "holdersOf", "(I)I"⟩, 17), (⟨"PromiseHours$House", "readBy", "(LPromiseHours$Reader;I)I"⟩, 17), (⟨"PromiseHours$House", "canUse", "(LPromiseHours$Reader;I)Z"⟩, 17), (⟨"PromiseHours$Reader", "hasCopy", "(I)Z"⟩, 13), (⟨"PromiseHours$House", "isOver", "(LPromiseHours$Reader;I)Z"⟩, 17), (⟨"PromiseHours$House", "useCopy", "(LPromiseHours$Reader;I)I"⟩, 17)]
theorem lw_r1 : ∀ q ∈ lw_privs_1, lw_okq q := List.forall_mem_cons.mpr ⟨lw_p0, List.forall_mem_cons.mpr ⟨lw_p1, List.forall_mem_cons.mpr ⟨lw_p2, List.forall_mem_cons.mpr ⟨lw_p3, List.forall_mem_cons.mpr ⟨lw_p4, List.forall_mem_cons.mpr ⟨lw_p5, List.forall_mem_cons.mpr ⟨lw_p6, List.forall_mem_cons.mpr ⟨lw_p7, List.forall_mem_cons.mpr ⟨lw_p8, List.forall_mem_cons.mpr ⟨lw_p9, List.forall_mem_cons.mpr ⟨lw_p10, List.forall_mem_cons.mpr ⟨lw_p11, List.forall_mem_cons.mpr ⟨lw_p12, List.forall_mem_cons.mpr ⟨lw_p13, List.forall_mem_cons.mpr ⟨lw_p14, List.forall_mem_cons.mpr ⟨lw_p15, fun _ h => absurd h List.not_mem_nil⟩⟩⟩⟩⟩⟩⟩⟩⟩⟩⟩⟩⟩⟩⟩⟩
theorem lw_p16 : lw_okq (⟨"PromiseHours$House", "noteCauses", "(LPromiseHours$Reader;I)V"⟩, 17) := ⟨⟨by decide +kernel, by decide +kernel⟩, List.mem_of_getElem? (i := 17) (by decide +kernel), List.mem_of_getElem? (i := 295) (by decide +kernel), List.mem_of_getElem? (i := 296) (by decide +kernel)⟩
theorem lw_p17 : lw_okq (⟨"PromiseHours$House", "addCauseIf", "(ZI)V"⟩, 17) := ⟨⟨by decide +kernel, by decide +kernel⟩, List.mem_of_getElem? (i := 17) (by decide +kernel), List.mem_of_getElem? (i := 299) (by decide +kernel), List.mem_of_getElem? (i := 300) (by decide +kernel)⟩
theorem lw_p18 : lw_okq (⟨"PromiseHours$House", "askHouse", "(LPromiseHours$Reader;I)I"⟩, 17) := ⟨⟨by decide +kernel, by decide +kernel⟩, List.mem_of_getElem? (i := 17) (by decide +kernel), List.mem_of_getElem? (i := 303) (by decide +kernel), List.mem_of_getElem? (i := 304) (by decide +kernel)⟩
theorem lw_p19 : lw_okq (⟨"PromiseHours$House", "renew", "(LPromiseHours$Reader;I)V"⟩, 17) := ⟨⟨by decide +kernel, by decide +kernel⟩, List.mem_of_getElem? (i := 17) (by decide +kernel), List.mem_of_getElem? (i := 307) (by decide +kernel), List.mem_of_getElem? (i := 308) (by decide +kernel)⟩
theorem lw_p20 : lw_okq (⟨"PromiseHours$House", "dropByList", "(LPromiseHours$Reader;I)V"⟩, 17) := ⟨⟨by decide +kernel, by decide +kernel⟩, List.mem_of_getElem? (i := 17) (by decide +kernel), List.mem_of_getElem? (i := 311) (by decide +kernel), List.mem_of_getElem? (i := 312) (by decide +kernel)⟩
theorem lw_p21 : lw_okq (⟨"PromiseHours$House", "isWaiting", "(I)Z"⟩, 17) := ⟨⟨by decide +kernel, by decide +kernel⟩, List.mem_of_getElem? (i := 17) (by decide +kernel), List.mem_of_getElem? (i := 315) (by decide +kernel), List.mem_of_getElem? (i := 316) (by decide +kernel)⟩
theorem lw_p22 : lw_okq (⟨"PromiseHours$House", "tellWrite", "(II)I"⟩, 17) := ⟨⟨by decide +kernel, by decide +kernel⟩, List.mem_of_getElem? (i := 17) (by decide +kernel), List.mem_of_getElem? (i := 325) (by decide +kernel), List.mem_of_getElem? (i := 326) (by decide +kernel)⟩
theorem lw_p23 : lw_okq (⟨"PromiseHours$House", "noteWaitedFor", "(I)V"⟩, 17) := ⟨⟨by decide +kernel, by decide +kernel⟩, List.mem_of_getElem? (i := 17) (by decide +kernel), List.mem_of_getElem? (i := 329) (by decide +kernel), List.mem_of_getElem? (i := 330) (by decide +kernel)⟩
theorem lw_p24 : lw_okq (⟨"PromiseHours$House", "insertWaitedFor", "(II)V"⟩, 17) := ⟨⟨by decide +kernel, by decide +kernel⟩, List.mem_of_getElem? (i := 17) (by decide +kernel), List.mem_of_getElem? (i := 333) (by decide +kernel), List.mem_of_getElem? (i := 334) (by decide +kernel)⟩
theorem lw_p25 : lw_okq (⟨"PromiseHours$Reader", "holdsUntil", "(I)I"⟩, 13) := ⟨⟨by decide +kernel, by decide +kernel⟩, List.mem_of_getElem? (i := 24) (by decide +kernel), List.mem_of_getElem? (i := 337) (by decide +kernel), List.mem_of_getElem? (i := 338) (by decide +kernel)⟩
theorem lw_p26 : lw_okq (⟨"PromiseHours$House", "joinLine", "(I)V"⟩, 17) := ⟨⟨by decide +kernel, by decide +kernel⟩, List.mem_of_getElem? (i := 17) (by decide +kernel), List.mem_of_getElem? (i := 343) (by decide +kernel), List.mem_of_getElem? (i := 344) (by decide +kernel)⟩
theorem lw_p27 : lw_okq (⟨"PromiseHours$House", "dueOf", "(I)I"⟩, 17) := ⟨⟨by decide +kernel, by decide +kernel⟩, List.mem_of_getElem? (i := 17) (by decide +kernel), List.mem_of_getElem? (i := 347) (by decide +kernel), List.mem_of_getElem? (i := 348) (by decide +kernel)⟩
theorem lw_p28 : lw_okq (⟨"PromiseHours$House", "readersWithCopy", "(I)I"⟩, 17) := ⟨⟨by decide +kernel, by decide +kernel⟩, List.mem_of_getElem? (i := 17) (by decide +kernel), List.mem_of_getElem? (i := 373) (by decide +kernel), List.mem_of_getElem? (i := 374) (by decide +kernel)⟩
theorem lw_p29 : lw_okq (⟨"PromiseHours$House", "readersWithUse", "(I)I"⟩, 17) := ⟨⟨by decide +kernel, by decide +kernel⟩, List.mem_of_getElem? (i := 17) (by decide +kernel), List.mem_of_getElem? (i := 377) (by decide +kernel), List.mem_of_getElem? (i := 378) (by decide +kernel)⟩
theorem lw_p30 : lw_okq (⟨"PromiseHours$House", "becomeLike", "(LPromiseHours$House;)V"⟩, 17) := ⟨⟨by decide +kernel, by decide +kernel⟩, List.mem_of_getElem? (i := 17) (by decide +kernel), List.mem_of_getElem? (i := 410) (by decide +kernel), List.mem_of_getElem? (i := 411) (by decide +kernel)⟩
theorem lw_p31 : lw_okq (⟨"PromiseHours$Reader", "becomeLike", "(LPromiseHours$Reader;)V"⟩, 13) := ⟨⟨by decide +kernel, by decide +kernel⟩, List.mem_of_getElem? (i := 24) (by decide +kernel), List.mem_of_getElem? (i := 414) (by decide +kernel), List.mem_of_getElem? (i := 415) (by decide +kernel)⟩
def lw_privs_2 : List (MethodName × Nat) := [(⟨"PromiseHours$House", "noteCauses", "(LPromiseHours$Reader;I)V"⟩, 17), (⟨"PromiseHours$House", "addCauseIf", "(ZI)V"⟩, 17), (⟨"PromiseHours$House", "askHouse", "(LPromiseHours$Reader;I)I"⟩, 17), (⟨"PromiseHours$House", "renew", "(LPromiseHours$Reader;I)V"⟩, 17), (⟨"PromiseHours$House", "dropByList", "(LPromiseHours$Reader;I)V"⟩, 17), (⟨"PromiseHours$House", "isWaiting", "(I)Z"⟩, 17), (⟨"PromiseHours$House", "tellWrite", "(II)I"⟩, 17), (⟨"PromiseHours$House", "noteWaitedFor", "(I)V"⟩, 17), (⟨"PromiseHours$House", "insertWaitedFor", "(II)V"⟩, 17), (⟨"PromiseHours$Reader", "holdsUntil", "(I)I"⟩, 13), (⟨"PromiseHours$House", "joinLine", "(I)V"⟩, 17), (⟨"PromiseHours$House", "dueOf", "(I)I"⟩, 17), (⟨"PromiseHours$House", "readersWithCopy", "(I)I"⟩, 17), (⟨"PromiseHours$House", "readersWithUse", "(I)I"⟩, 17), (⟨"PromiseHours$House", "becomeLike", "(LPromiseHours$House;)V"⟩, 17), (⟨"PromiseHours$Reader", "becomeLike", "(LPromiseHours$Reader;)V"⟩, 13)]
theorem lw_r2 : ∀ q ∈ lw_privs_2, lw_okq q := List.forall_mem_cons.mpr ⟨lw_p16, List.forall_mem_cons.mpr ⟨lw_p17, List.forall_mem_cons.mpr ⟨lw_p18, List.forall_mem_cons.mpr ⟨lw_p19, List.forall_mem_cons.mpr ⟨lw_p20, List.forall_mem_cons.mpr ⟨lw_p21, List.forall_mem_cons.mpr ⟨lw_p22, List.forall_mem_cons.mpr ⟨lw_p23, List.forall_mem_cons.mpr ⟨lw_p24, List.forall_mem_cons.mpr ⟨lw_p25, List.forall_mem_cons.mpr ⟨lw_p26, List.forall_mem_cons.mpr ⟨lw_p27, List.forall_mem_cons.mpr ⟨lw_p28, List.forall_mem_cons.mpr ⟨lw_p29, List.forall_mem_cons.mpr ⟨lw_p30, List.forall_mem_cons.mpr ⟨lw_p31, fun _ h => absurd h List.not_mem_nil⟩⟩⟩⟩⟩⟩⟩⟩⟩⟩⟩⟩⟩⟩⟩⟩
theorem lw_p32 : lw_okq (⟨"PromiseHoursModel", "settleAll", "()I"⟩, 3) := ⟨⟨by decide +kernel, by decide +kernel⟩, List.mem_of_getElem? (i := 424) (by decide +kernel), List.mem_of_getElem? (i := 462) (by decide +kernel), List.mem_of_getElem? (i := 463) (by decide +kernel)⟩
theorem lw_p33 : lw_okq (⟨"PromiseHoursModel", "isSettled", "(I)Z"⟩, 3) := ⟨⟨by decide +kernel, by decide +kernel⟩, List.mem_of_getElem? (i := 424) (by decide +kernel), List.mem_of_getElem? (i := 466) (by decide +kernel), List.mem_of_getElem? (i := 467) (by decide +kernel)⟩
theorem lw_p34 : lw_okq (⟨"PromiseHoursModel", "isHolder", "(II)Z"⟩, 3) := ⟨⟨by decide +kernel, by decide +kernel⟩, List.mem_of_getElem? (i := 424) (by decide +kernel), List.mem_of_getElem? (i := 470) (by decide +kernel), List.mem_of_getElem? (i := 471) (by decide +kernel)⟩
theorem lw_p35 : lw_okq (⟨"PromiseHoursModel", "clear", "(II)V"⟩, 3) := ⟨⟨by decide +kernel, by decide +kernel⟩, List.mem_of_getElem? (i := 424) (by decide +kernel), List.mem_of_getElem? (i := 480) (by decide +kernel), List.mem_of_getElem? (i := 481) (by decide +kernel)⟩
theorem lw_p36 : lw_okq (⟨"PromiseHoursModel", "layWaited", "(I)V"⟩, 3) := ⟨⟨by decide +kernel, by decide +kernel⟩, List.mem_of_getElem? (i := 424) (by decide +kernel), List.mem_of_getElem? (i := 491) (by decide +kernel), List.mem_of_getElem? (i := 492) (by decide +kernel)⟩
theorem lw_p37 : lw_okq (⟨"PromiseHoursModel", "lesser", "(II)I"⟩, 3) := ⟨⟨by decide +kernel, by decide +kernel⟩, List.mem_of_getElem? (i := 424) (by decide +kernel), List.mem_of_getElem? (i := 495) (by decide +kernel), List.mem_of_getElem? (i := 496) (by decide +kernel)⟩
theorem lw_p38 : lw_okq (⟨"PromiseHoursModel", "dueOf", "(I)I"⟩, 3) := ⟨⟨by decide +kernel, by decide +kernel⟩, List.mem_of_getElem? (i := 424) (by decide +kernel), List.mem_of_getElem? (i := 499) (by decide +kernel), List.mem_of_getElem? (i := 500) (by decide +kernel)⟩
theorem lw_p39 : lw_okq (⟨"PromiseHoursModel", "canUse", "(II)Z"⟩, 3) := ⟨⟨by decide +kernel, by decide +kernel⟩, List.mem_of_getElem? (i := 424) (by decide +kernel), List.mem_of_getElem? (i := 511) (by decide +kernel), List.mem_of_getElem? (i := 512) (by decide +kernel)⟩
theorem lw_p40 : lw_okq (⟨"PromiseHoursModel", "isOver", "(II)Z"⟩, 3) := ⟨⟨by decide +kernel, by decide +kernel⟩, List.mem_of_getElem? (i := 424) (by decide +kernel), List.mem_of_getElem? (i := 515) (by decide +kernel), List.mem_of_getElem? (i := 516) (by decide +kernel)⟩
theorem lw_p41 : lw_okq (⟨"PromiseHoursModel", "addCause", "(ZI)V"⟩, 3) := ⟨⟨by decide +kernel, by decide +kernel⟩, List.mem_of_getElem? (i := 424) (by decide +kernel), List.mem_of_getElem? (i := 519) (by decide +kernel), List.mem_of_getElem? (i := 520) (by decide +kernel)⟩
theorem lw_p42 : lw_okq (⟨"PromiseHoursModel", "renew", "(II)V"⟩, 3) := ⟨⟨by decide +kernel, by decide +kernel⟩, List.mem_of_getElem? (i := 424) (by decide +kernel), List.mem_of_getElem? (i := 523) (by decide +kernel), List.mem_of_getElem? (i := 524) (by decide +kernel)⟩
def lw_privs_3 : List (MethodName × Nat) := [(⟨"PromiseHoursModel", "settleAll", "()I"⟩, 3), (⟨"PromiseHoursModel", "isSettled", "(I)Z"⟩, 3), (⟨"PromiseHoursModel", "isHolder", "(II)Z"⟩, 3), (⟨"PromiseHoursModel", "clear", "(II)V"⟩, 3), (⟨"PromiseHoursModel", "layWaited", "(I)V"⟩, 3), (⟨"PromiseHoursModel", "lesser", "(II)I"⟩, 3), (⟨"PromiseHoursModel", "dueOf", "(I)I"⟩, 3), (⟨"PromiseHoursModel", "canUse", "(II)Z"⟩, 3), (⟨"PromiseHoursModel", "isOver", "(II)Z"⟩, 3), (⟨"PromiseHoursModel", "addCause", "(ZI)V"⟩, 3), (⟨"PromiseHoursModel", "renew", "(II)V"⟩, 3)]
theorem lw_r3 : ∀ q ∈ lw_privs_3, lw_okq q := List.forall_mem_cons.mpr ⟨lw_p32, List.forall_mem_cons.mpr ⟨lw_p33, List.forall_mem_cons.mpr ⟨lw_p34, List.forall_mem_cons.mpr ⟨lw_p35, List.forall_mem_cons.mpr ⟨lw_p36, List.forall_mem_cons.mpr ⟨lw_p37, List.forall_mem_cons.mpr ⟨lw_p38, List.forall_mem_cons.mpr ⟨lw_p39, List.forall_mem_cons.mpr ⟨lw_p40, List.forall_mem_cons.mpr ⟨lw_p41, List.forall_mem_cons.mpr ⟨lw_p42, fun _ h => absurd h List.not_mem_nil⟩⟩⟩⟩⟩⟩⟩⟩⟩⟩⟩
def lw_privs : List (MethodName × Nat) := lw_privs_1 ++ (lw_privs_2 ++ (lw_privs_3))
def lw_tbl : List Cond := k2_sels lw_privs ++ tables_1
theorem lw_privs_ok : ∀ q ∈ lw_privs, lw_okq q := by
  show ∀ q ∈ lw_privs_1 ++ (lw_privs_2 ++ (lw_privs_3)), lw_okq q
  exact List.forall_mem_append.mpr ⟨lw_r1, List.forall_mem_append.mpr ⟨lw_r2, lw_r3⟩⟩
end
section
/-! ===== BEGIN words of one list among another's, by their places ===== -/
theorem goodIn_r {big : List Cond} (ws : List Cond) (ps : List Nat) (hp : ws = ps.filterMap (fun i => big[i]?)) (h : ws.all goodWord = true) : GoodIn big ws := by
  intro w hw
  have h1 := List.all_eq_true.mp h w hw
  rw [hp] at hw
  obtain ⟨i, -, hi⟩ := List.mem_filterMap.mp hw
  have hm : w ∈ big := by first | exact List.mem_of_getElem? hi | exact List.getElem?_mem hi
  exact ⟨hm, good_of_word h1⟩
theorem goodIn_app {big a b : List Cond} (ha : GoodIn big a) (hb : GoodIn big b) : GoodIn big (a ++ b) := fun w h => (List.mem_append.mp h).elim (ha w) (hb w)
theorem goodIn_ca {big a b : List Cond} {c : Cond} (ha : GoodIn big (c :: a)) (hb : GoodIn big b) : GoodIn big (c :: (a ++ b)) := fun w h => (List.mem_cons.mp h).elim (fun e => ha w (List.mem_cons.mpr (Or.inl e))) (fun h => (List.mem_append.mp h).elim (fun h => ha w (List.mem_cons.mpr (Or.inr h))) (hb w))
theorem goodIn_sub {big ws : List Cond} (hm : ∀ w ∈ ws, w ∈ big) (h : ws.all goodWord = true) : GoodIn big ws := fun w hw => ⟨hm w hw, good_of_word (List.all_eq_true.mp h w hw)⟩
/-! ===== END ===== -/

/-! ===== BEGIN printed: names, fields, word lists, decode rows ===== -/
def RX0 : String := "PromiseHours$House"
def TX0 : u_T := fun k => match k with
  | 0 => ("PromiseHours$House", "tick", "I", false)
  | 1 => ("PromiseHours$House", "rules", "[I", true)
  | 2 => ("PromiseHours$House", "readers", "[LPromiseHours$Reader;", true)
  | 3 => ("PromiseHours$House", "versions", "[I", true)
  | 4 => ("PromiseHours$House", "ways", "[I", true)
  | 5 => ("PromiseHours$House", "line", "[I", true)
  | 6 => ("PromiseHours$House", "lineLength", "I", false)
  | 7 => ("PromiseHours$House", "causes", "[I", true)
  | 8 => ("PromiseHours$House", "causeCount", "I", false)
  | 9 => ("PromiseHours$House", "waitedFor", "[I", true)
  | 10 => ("PromiseHours$House", "waitedCount", "I", false)
  | 11 => ("PromiseHours$House", "staleReads", "I", false)
  | 12 => ("PromiseHours$House", "writesTold", "I", false)
  | 13 => ("PromiseHours$House", "writesDone", "I", false)
  | 14 => ("PromiseHours$House", "lettersSent", "I", false)
  | 15 => ("PromiseHours$House", "timesListed", "I", false)
  | _ => ("PromiseHours$House", "timesRenewed", "I", false)
def tyX0 : Nat → FieldType := fun k => match k with
  | 0 => .int
  | 1 => .array .int
  | 2 => .array (.object "PromiseHours$Reader")
  | 3 => .array .int
  | 4 => .array .int
  | 5 => .array .int
  | 6 => .int
  | 7 => .array .int
  | 8 => .int
  | 9 => .array .int
  | 10 => .int
  | 11 => .int
  | 12 => .int
  | 13 => .int
  | 14 => .int
  | 15 => .int
  | _ => .int
abbrev wsX00 : List Cond := u_ws RX0 TX0 17
theorem nmX0 : ∀ a, a < 17 → ∀ b, b < 17 → a ≠ b → (TX0 a).2.1 ≠ (TX0 b).2.1 := by decide +kernel
theorem tyX0_ok : ∀ k, k < 17 → parseFieldDescriptor (TX0 k).2.2.1 = some (tyX0 k) := by decide +kernel
abbrev cX0_init : ByteArray := prog_2_method_1_code
def yX0_init : MethodName := ⟨RX0, "<init>", "()V"⟩
abbrev cX0_isOver : ByteArray := prog_2_method_2_code
def yX0_isOver : MethodName := ⟨RX0, "isOver", "(LPromiseHours$Reader;I)Z"⟩
abbrev cX0_canUse : ByteArray := prog_2_method_3_code
def yX0_canUse : MethodName := ⟨RX0, "canUse", "(LPromiseHours$Reader;I)Z"⟩
abbrev cX0_isHolder : ByteArray := prog_2_method_4_code
def yX0_isHolder : MethodName := ⟨RX0, "isHolder", "(LPromiseHours$Reader;I)Z"⟩
abbrev cX0_isWaiting : ByteArray := prog_2_method_5_code
def yX0_isWaiting : MethodName := ⟨RX0, "isWaiting", "(I)Z"⟩
abbrev cX0_countSkewedBeyondDoubt : ByteArray := prog_2_method_6_code
def yX0_countSkewedBeyondDoubt : MethodName := ⟨RX0, "countSkewedBeyondDoubt", "()I"⟩
abbrev cX0_readBy : ByteArray := prog_2_method_7_code
def yX0_readBy : MethodName := ⟨RX0, "readBy", "(LPromiseHours$Reader;I)I"⟩
abbrev cX0_useCopy : ByteArray := prog_2_method_8_code
def yX0_useCopy : MethodName := ⟨RX0, "useCopy", "(LPromiseHours$Reader;I)I"⟩
abbrev cX0_noteCauses : ByteArray := prog_2_method_9_code
def yX0_noteCauses : MethodName := ⟨RX0, "noteCauses", "(LPromiseHours$Reader;I)V"⟩
abbrev cX0_addCauseIf : ByteArray := prog_2_method_10_code
def yX0_addCauseIf : MethodName := ⟨RX0, "addCauseIf", "(ZI)V"⟩
abbrev cX0_askHouse : ByteArray := prog_2_method_11_code
def yX0_askHouse : MethodName := ⟨RX0, "askHouse", "(LPromiseHours$Reader;I)I"⟩
abbrev cX0_renew : ByteArray := prog_2_method_12_code
def yX0_renew : MethodName := ⟨RX0, "renew", "(LPromiseHours$Reader;I)V"⟩
abbrev cX0_dropByList : ByteArray := prog_2_method_13_code
def yX0_dropByList : MethodName := ⟨RX0, "dropByList", "(LPromiseHours$Reader;I)V"⟩
abbrev cX0_tellWrite : ByteArray := prog_2_method_14_code
def yX0_tellWrite : MethodName := ⟨RX0, "tellWrite", "(II)I"⟩
abbrev cX0_joinLine : ByteArray := prog_2_method_15_code
def yX0_joinLine : MethodName := ⟨RX0, "joinLine", "(I)V"⟩
abbrev cX0_settleAll : ByteArray := prog_2_method_16_code
def yX0_settleAll : MethodName := ⟨RX0, "settleAll", "()I"⟩
abbrev cX0_settle : ByteArray := prog_2_method_17_code
def yX0_settle : MethodName := ⟨RX0, "settle", "(I)Z"⟩
abbrev cX0_settleHolder : ByteArray := prog_2_method_18_code
def yX0_settleHolder : MethodName := ⟨RX0, "settleHolder", "(LPromiseHours$Reader;I)V"⟩
abbrev cX0_putOnList : ByteArray := prog_2_method_19_code
def yX0_putOnList : MethodName := ⟨RX0, "putOnList", "(LPromiseHours$Reader;I)V"⟩
abbrev cX0_sendLetter : ByteArray := prog_2_method_20_code
def yX0_sendLetter : MethodName := ⟨RX0, "sendLetter", "(LPromiseHours$Reader;I)V"⟩
abbrev cX0_dueOf : ByteArray := prog_2_method_21_code
def yX0_dueOf : MethodName := ⟨RX0, "dueOf", "(I)I"⟩
abbrev cX0_noteWaitedFor : ByteArray := prog_2_method_22_code
def yX0_noteWaitedFor : MethodName := ⟨RX0, "noteWaitedFor", "(I)V"⟩
abbrev cX0_insertWaitedFor : ByteArray := prog_2_method_23_code
def yX0_insertWaitedFor : MethodName := ⟨RX0, "insertWaitedFor", "(II)V"⟩
abbrev cX0_holdersOf : ByteArray := prog_2_method_24_code
def yX0_holdersOf : MethodName := ⟨RX0, "holdersOf", "(I)I"⟩
abbrev cX0_readersWithCopy : ByteArray := prog_2_method_25_code
def yX0_readersWithCopy : MethodName := ⟨RX0, "readersWithCopy", "(I)I"⟩
abbrev cX0_readersWithUse : ByteArray := prog_2_method_26_code
def yX0_readersWithUse : MethodName := ⟨RX0, "readersWithUse", "(I)I"⟩
abbrev cX0_becomeLike : ByteArray := prog_2_method_27_code
def yX0_becomeLike : MethodName := ⟨RX0, "becomeLike", "(LPromiseHours$House;)V"⟩
def RX1 : String := "PromiseHours$Reader"
def TX1 : u_T := fun k => match k with
  | 0 => ("PromiseHours$Reader", "isThere", "Z", false)
  | 1 => ("PromiseHours$Reader", "skew", "I", false)
  | 2 => ("PromiseHours$Reader", "copies", "[I", true)
  | 3 => ("PromiseHours$Reader", "terms", "[I", true)
  | 4 => ("PromiseHours$Reader", "promises", "[I", true)
  | 5 => ("PromiseHours$Reader", "volumeTerms", "[I", true)
  | 6 => ("PromiseHours$Reader", "lists", "[I", true)
  | 7 => ("PromiseHours$Reader", "lastVersion", "I", false)
  | 8 => ("PromiseHours$Reader", "timesUsed", "I", false)
  | 9 => ("PromiseHours$Reader", "timesAsked", "I", false)
  | 10 => ("PromiseHours$Reader", "timesNothing", "I", false)
  | 11 => ("PromiseHours$Reader", "letters", "I", false)
  | _ => ("PromiseHours$Reader", "copiesLost", "I", false)
def tyX1 : Nat → FieldType := fun k => match k with
  | 0 => .boolean
  | 1 => .int
  | 2 => .array .int
  | 3 => .array .int
  | 4 => .array .int
  | 5 => .array .int
  | 6 => .array .int
  | 7 => .int
  | 8 => .int
  | 9 => .int
  | 10 => .int
  | 11 => .int
  | _ => .int
abbrev wsX10 : List Cond := u_ws RX1 TX1 13
theorem nmX1 : ∀ a, a < 13 → ∀ b, b < 13 → a ≠ b → (TX1 a).2.1 ≠ (TX1 b).2.1 := by decide +kernel
theorem tyX1_ok : ∀ k, k < 13 → parseFieldDescriptor (TX1 k).2.2.1 = some (tyX1 k) := by decide +kernel
abbrev cX1_init : ByteArray := prog_3_method_1_code
def yX1_init : MethodName := ⟨RX1, "<init>", "()V"⟩
abbrev cX1_hasCopy : ByteArray := prog_3_method_2_code
def yX1_hasCopy : MethodName := ⟨RX1, "hasCopy", "(I)Z"⟩
abbrev cX1_takeCopy : ByteArray := prog_3_method_3_code
def yX1_takeCopy : MethodName := ⟨RX1, "takeCopy", "(III)V"⟩
abbrev cX1_dropCopy : ByteArray := prog_3_method_4_code
def yX1_dropCopy : MethodName := ⟨RX1, "dropCopy", "(I)V"⟩
abbrev cX1_volumeTermFor : ByteArray := prog_3_method_5_code
def yX1_volumeTermFor : MethodName := ⟨RX1, "volumeTermFor", "(I)I"⟩
abbrev cX1_holdsUntil : ByteArray := prog_3_method_6_code
def yX1_holdsUntil : MethodName := ⟨RX1, "holdsUntil", "(I)I"⟩
abbrev cX1_becomeLike : ByteArray := prog_3_method_7_code
def yX1_becomeLike : MethodName := ⟨RX1, "becomeLike", "(LPromiseHours$Reader;)V"⟩
def RX2 : String := "PromiseHours"
def TX2 : u_T := fun k => match k with
  | 0 => ("PromiseHours", "house", "LPromiseHours$House;", true)
  | 1 => ("PromiseHours", "images", "[LPromiseHours$House;", true)
  | _ => ("PromiseHours", "keptImages", "I", false)
def tyX2 : Nat → FieldType := fun k => match k with
  | 0 => .object "PromiseHours$House"
  | 1 => .array (.object "PromiseHours$House")
  | _ => .int
abbrev wsX20 : List Cond := u_ws RX2 TX2 3
theorem nmX2 : ∀ a, a < 3 → ∀ b, b < 3 → a ≠ b → (TX2 a).2.1 ≠ (TX2 b).2.1 := by decide +kernel
theorem tyX2_ok : ∀ k, k < 3 → parseFieldDescriptor (TX2 k).2.2.1 = some (tyX2 k) := by decide +kernel
abbrev cX2_init : ByteArray := prog_1_method_1_code
def yX2_init : MethodName := ⟨RX2, "<init>", "()V"⟩
abbrev cX2_rule : ByteArray := prog_1_method_2_code
def yX2_rule : MethodName := ⟨RX2, "rule", "(II)I"⟩
abbrev cX2_skew : ByteArray := prog_1_method_3_code
def yX2_skew : MethodName := ⟨RX2, "skew", "(II)I"⟩
abbrev cX2_there : ByteArray := prog_1_method_4_code
def yX2_there : MethodName := ⟨RX2, "there", "(II)I"⟩
abbrev cX2_read : ByteArray := prog_1_method_5_code
def yX2_read : MethodName := ⟨RX2, "read", "(II)I"⟩
abbrev cX2_write : ByteArray := prog_1_method_6_code
def yX2_write : MethodName := ⟨RX2, "write", "(II)I"⟩
abbrev cX2_pass : ByteArray := prog_1_method_7_code
def yX2_pass : MethodName := ⟨RX2, "pass", "(I)I"⟩
abbrev cX2_cause : ByteArray := prog_1_method_8_code
def yX2_cause : MethodName := ⟨RX2, "cause", "(I)I"⟩
abbrev cX2_waited : ByteArray := prog_1_method_9_code
def yX2_waited : MethodName := ⟨RX2, "waited", "(I)I"⟩
abbrev cX2_thing : ByteArray := prog_1_method_10_code
def yX2_thing : MethodName := ⟨RX2, "thing", "(II)I"⟩
abbrev cX2_copy : ByteArray := prog_1_method_11_code
def yX2_copy : MethodName := ⟨RX2, "copy", "(III)I"⟩
abbrev cX2_volume : ByteArray := prog_1_method_12_code
def yX2_volume : MethodName := ⟨RX2, "volume", "(III)I"⟩
abbrev cX2_reader : ByteArray := prog_1_method_13_code
def yX2_reader : MethodName := ⟨RX2, "reader", "(II)I"⟩
abbrev cX2_waiting : ByteArray := prog_1_method_14_code
def yX2_waiting : MethodName := ⟨RX2, "waiting", "(I)I"⟩
abbrev cX2_count : ByteArray := prog_1_method_15_code
def yX2_count : MethodName := ⟨RX2, "count", "(I)I"⟩
abbrev cX2_image : ByteArray := prog_1_method_16_code
def yX2_image : MethodName := ⟨RX2, "image", "(I)I"⟩
abbrev cX2_restore : ByteArray := prog_1_method_17_code
def yX2_restore : MethodName := ⟨RX2, "restore", "(I)I"⟩
abbrev cX2_isReader : ByteArray := prog_1_method_18_code
def yX2_isReader : MethodName := ⟨RX2, "isReader", "(I)Z"⟩
abbrev cX2_isThing : ByteArray := prog_1_method_19_code
def yX2_isThing : MethodName := ⟨RX2, "isThing", "(I)Z"⟩
abbrev cX2_isImage : ByteArray := prog_1_method_20_code
def yX2_isImage : MethodName := ⟨RX2, "isImage", "(I)Z"⟩
abbrev cX2_volumeOf : ByteArray := prog_1_method_21_code
def yX2_volumeOf : MethodName := ⟨RX2, "volumeOf", "(I)I"⟩
abbrev cX2_isInSet : ByteArray := prog_1_method_22_code
def yX2_isInSet : MethodName := ⟨RX2, "isInSet", "(II)Z"⟩
abbrev cX2_bit : ByteArray := prog_1_method_23_code
def yX2_bit : MethodName := ⟨RX2, "bit", "(Z)I"⟩
abbrev cX2_copyRow : ByteArray := prog_1_method_24_code
def yX2_copyRow : MethodName := ⟨RX2, "copyRow", "([I[I)V"⟩
def RX3 : String := "PromiseHoursModel"
def TX3 : u_T := fun k => match k with
  | 0 => ("PromiseHoursModel", "state", "[I", true)
  | 1 => ("PromiseHoursModel", "images", "[I", true)
  | _ => ("PromiseHoursModel", "isKept", "[Z", true)
def tyX3 : Nat → FieldType := fun k => match k with
  | 0 => .array .int
  | 1 => .array .int
  | _ => .array .boolean
abbrev wsX30 : List Cond := u_ws RX3 TX3 3
theorem nmX3 : ∀ a, a < 3 → ∀ b, b < 3 → a ≠ b → (TX3 a).2.1 ≠ (TX3 b).2.1 := by decide +kernel
theorem tyX3_ok : ∀ k, k < 3 → parseFieldDescriptor (TX3 k).2.2.1 = some (tyX3 k) := by decide +kernel
abbrev cX3_init : ByteArray := prog_5_method_1_code
def yX3_init : MethodName := ⟨RX3, "<init>", "()V"⟩
abbrev cX3_in : ByteArray := prog_5_method_2_code
def yX3_in : MethodName := ⟨RX3, "in", "(III)Z"⟩
abbrev cX3_isReader : ByteArray := prog_5_method_3_code
def yX3_isReader : MethodName := ⟨RX3, "isReader", "(I)Z"⟩
abbrev cX3_isThing : ByteArray := prog_5_method_4_code
def yX3_isThing : MethodName := ⟨RX3, "isThing", "(I)Z"⟩
abbrev cX3_said : ByteArray := prog_5_method_5_code
def yX3_said : MethodName := ⟨RX3, "said", "(II)I"⟩
abbrev cX3_volumeAt : ByteArray := prog_5_method_6_code
def yX3_volumeAt : MethodName := ⟨RX3, "volumeAt", "(III)I"⟩
abbrev cX3_thingAt : ByteArray := prog_5_method_7_code
def yX3_thingAt : MethodName := ⟨RX3, "thingAt", "(III)I"⟩
abbrev cX3_rule : ByteArray := prog_5_method_8_code
def yX3_rule : MethodName := ⟨RX3, "rule", "(II)I"⟩
abbrev cX3_skew : ByteArray := prog_5_method_9_code
def yX3_skew : MethodName := ⟨RX3, "skew", "(II)I"⟩
abbrev cX3_isOver : ByteArray := prog_5_method_10_code
def yX3_isOver : MethodName := ⟨RX3, "isOver", "(II)Z"⟩
abbrev cX3_canUse : ByteArray := prog_5_method_11_code
def yX3_canUse : MethodName := ⟨RX3, "canUse", "(II)Z"⟩
abbrev cX3_isHolder : ByteArray := prog_5_method_12_code
def yX3_isHolder : MethodName := ⟨RX3, "isHolder", "(II)Z"⟩
abbrev cX3_clear : ByteArray := prog_5_method_13_code
def yX3_clear : MethodName := ⟨RX3, "clear", "(II)V"⟩
abbrev cX3_isSettled : ByteArray := prog_5_method_14_code
def yX3_isSettled : MethodName := ⟨RX3, "isSettled", "(I)Z"⟩
abbrev cX3_settleAll : ByteArray := prog_5_method_15_code
def yX3_settleAll : MethodName := ⟨RX3, "settleAll", "()I"⟩
abbrev cX3_there : ByteArray := prog_5_method_16_code
def yX3_there : MethodName := ⟨RX3, "there", "(II)I"⟩
abbrev cX3_dueOf : ByteArray := prog_5_method_17_code
def yX3_dueOf : MethodName := ⟨RX3, "dueOf", "(I)I"⟩
abbrev cX3_lesser : ByteArray := prog_5_method_18_code
def yX3_lesser : MethodName := ⟨RX3, "lesser", "(II)I"⟩
abbrev cX3_layWaited : ByteArray := prog_5_method_19_code
def yX3_layWaited : MethodName := ⟨RX3, "layWaited", "(I)V"⟩
abbrev cX3_write : ByteArray := prog_5_method_20_code
def yX3_write : MethodName := ⟨RX3, "write", "(II)I"⟩
abbrev cX3_pass : ByteArray := prog_5_method_21_code
def yX3_pass : MethodName := ⟨RX3, "pass", "(I)I"⟩
abbrev cX3_addCause : ByteArray := prog_5_method_22_code
def yX3_addCause : MethodName := ⟨RX3, "addCause", "(ZI)V"⟩
abbrev cX3_renew : ByteArray := prog_5_method_23_code
def yX3_renew : MethodName := ⟨RX3, "renew", "(II)V"⟩
abbrev cX3_read : ByteArray := prog_5_method_24_code
def yX3_read : MethodName := ⟨RX3, "read", "(II)I"⟩
abbrev cX3_cause : ByteArray := prog_5_method_25_code
def yX3_cause : MethodName := ⟨RX3, "cause", "(I)I"⟩
abbrev cX3_waited : ByteArray := prog_5_method_26_code
def yX3_waited : MethodName := ⟨RX3, "waited", "(I)I"⟩
abbrev cX3_thing : ByteArray := prog_5_method_27_code
def yX3_thing : MethodName := ⟨RX3, "thing", "(II)I"⟩
abbrev cX3_copy : ByteArray := prog_5_method_28_code
def yX3_copy : MethodName := ⟨RX3, "copy", "(III)I"⟩
abbrev cX3_volume : ByteArray := prog_5_method_29_code
def yX3_volume : MethodName := ⟨RX3, "volume", "(III)I"⟩
abbrev cX3_reader : ByteArray := prog_5_method_30_code
def yX3_reader : MethodName := ⟨RX3, "reader", "(II)I"⟩
abbrev cX3_waiting : ByteArray := prog_5_method_31_code
def yX3_waiting : MethodName := ⟨RX3, "waiting", "(I)I"⟩
abbrev cX3_count : ByteArray := prog_5_method_32_code
def yX3_count : MethodName := ⟨RX3, "count", "(I)I"⟩
abbrev cX3_image : ByteArray := prog_5_method_33_code
def yX3_image : MethodName := ⟨RX3, "image", "(I)I"⟩
abbrev cX3_restore : ByteArray := prog_5_method_34_code
def yX3_restore : MethodName := ⟨RX3, "restore", "(I)I"⟩
def RJ9 : String := "java/lang/Math"
def TJ9 : u_T := fun k => match k with
  | _ => ("", "", "", false)
def tyJ9 : Nat → FieldType := fun k => match k with
  | _ => .int
abbrev wsJ90 : List Cond := u_ws RJ9 TJ9 0
theorem nmJ9 : ∀ a, a < 0 → ∀ b, b < 0 → a ≠ b → (TJ9 a).2.1 ≠ (TJ9 b).2.1 := by decide +kernel
theorem tyJ9_ok : ∀ k, k < 0 → parseFieldDescriptor (TJ9 k).2.2.1 = some (tyJ9 k) := by decide +kernel
abbrev cJ9_abs_0f7a4 : ByteArray := prog_6_method_59_code
def yJ9_abs_0f7a4 : MethodName := ⟨RJ9, "abs", "(I)I"⟩
abbrev cJ9_max_7cf53 : ByteArray := prog_6_method_65_code
def yJ9_max_7cf53 : MethodName := ⟨RJ9, "max", "(II)I"⟩
abbrev cJ9_min_7cf53 : ByteArray := prog_6_method_69_code
def yJ9_min_7cf53 : MethodName := ⟨RJ9, "min", "(II)I"⟩
def RJ10 : String := "java/lang/System"
def TJ10 : u_T := fun k => match k with
  | _ => ("", "", "", false)
def tyJ10 : Nat → FieldType := fun k => match k with
  | _ => .int
abbrev wsJ100 : List Cond := u_ws RJ10 TJ10 0
theorem nmJ10 : ∀ a, a < 0 → ∀ b, b < 0 → a ≠ b → (TJ10 a).2.1 ≠ (TJ10 b).2.1 := by decide +kernel
theorem tyJ10_ok : ∀ k, k < 0 → parseFieldDescriptor (TJ10 k).2.2.1 = some (tyJ10 k) := by decide +kernel
def RJ7 : String := "java/util/Arrays"
def TJ7 : u_T := fun k => match k with
  | _ => ("", "", "", false)
def tyJ7 : Nat → FieldType := fun k => match k with
  | _ => .int
abbrev wsJ70 : List Cond := u_ws RJ7 TJ7 0
theorem nmJ7 : ∀ a, a < 0 → ∀ b, b < 0 → a ≠ b → (TJ7 a).2.1 ≠ (TJ7 b).2.1 := by decide +kernel
theorem tyJ7_ok : ∀ k, k < 0 → parseFieldDescriptor (TJ7 k).2.2.1 = some (tyJ7 k) := by decide +kernel
abbrev cJ7_fill_53178 : ByteArray := prog_8_method_103_code
def yJ7_fill_53178 : MethodName := ⟨RJ7, "fill", "([II)V"⟩
def RL : String := "PromiseHoursLaw"
abbrev cL_law : ByteArray := code
def yL_law : MethodName := ⟨RL, "law", "([I)Z"⟩
def wsJ7_fill_53178 : List Cond := .code yJ7_fill_53178 cJ7_fill_53178 4 none :: ([])
def wsX1_init : List Cond := .code yX1_init cX1_init 1 none :: ([.methodLink RX1 3 objectInit, .instanceMethod objectInit, .code objectInit ⟨#[0xb1]⟩ 1 none, .fieldLink RX1 9 "PromiseHours$Reader" "isThere" "Z", .fieldLink RX1 15 "PromiseHours$Reader" "skew" "I", .arrayClass .int, .fieldLink RX1 19 "PromiseHours$Reader" "copies" "[I", .fieldLink RX1 23 "PromiseHours$Reader" "terms" "[I", .fieldLink RX1 26 "PromiseHours$Reader" "promises" "[I", .fieldLink RX1 29 "PromiseHours$Reader" "volumeTerms" "[I", .fieldLink RX1 32 "PromiseHours$Reader" "lists" "[I", .fieldLink RX1 35 "PromiseHours$Reader" "lastVersion" "I", .fieldLink RX1 38 "PromiseHours$Reader" "timesUsed" "I", .fieldLink RX1 41 "PromiseHours$Reader" "timesAsked" "I", .fieldLink RX1 44 "PromiseHours$Reader" "timesNothing" "I", .fieldLink RX1 47 "PromiseHours$Reader" "letters" "I", .fieldLink RX1 50 "PromiseHours$Reader" "copiesLost" "I", .methodLink RX1 53 yJ7_fill_53178, .static yJ7_fill_53178, .initialized RJ7, .code yJ7_fill_53178 cJ7_fill_53178 4 none] ++ wsX10)
def wsX2_copyRow : List Cond := .code yX2_copyRow cX2_copyRow 2 none :: ([.methodLink RX2 185 Lib.Math.min.name, .static Lib.Math.min.name, .initialized "java/lang/Math", .code Lib.Math.min.name Lib.Math.min.code 2 (some .int), .methodLink RX2 190 arraycopyName, .native arraycopyName, .static arraycopyName, .initialized "java/lang/System"])
def wsX0_init_r1 : List Cond := [Cond.methodLink RX0 3 objectInit, Cond.instanceMethod objectInit, Cond.code objectInit ⟨#[0xb1]⟩ 1 none, Cond.fieldLink RX0 9 "PromiseHours$House" "tick" "I", Cond.arrayClass .int, Cond.fieldLink RX0 15 "PromiseHours$House" "rules" "[I", Cond.classLink RX0 19 RX1, Cond.instantiable RX1 13, Cond.initialized RX1, Cond.fieldLink RX0 22 "PromiseHours$House" "readers" "[LPromiseHours$Reader;", Cond.fieldLink RX0 26 "PromiseHours$House" "versions" "[I", Cond.fieldLink RX0 29 "PromiseHours$House" "ways" "[I", Cond.fieldLink RX0 32 "PromiseHours$House" "line" "[I", Cond.fieldLink RX0 35 "PromiseHours$House" "lineLength" "I", Cond.fieldLink RX0 38 "PromiseHours$House" "causes" "[I", Cond.fieldLink RX0 41 "PromiseHours$House" "causeCount" "I", Cond.fieldLink RX0 44 "PromiseHours$House" "waitedFor" "[I", Cond.fieldLink RX0 47 "PromiseHours$House" "waitedCount" "I", Cond.fieldLink RX0 50 "PromiseHours$House" "staleReads" "I", Cond.fieldLink RX0 53 "PromiseHours$House" "writesTold" "I", Cond.fieldLink RX0 56 "PromiseHours$House" "writesDone" "I", Cond.fieldLink RX0 59 "PromiseHours$House" "lettersSent" "I", Cond.fieldLink RX0 62 "PromiseHours$House" "timesListed" "I", Cond.fieldLink RX0 65 "PromiseHours$House" "timesRenewed" "I"]
def wsX0_init_r2 : List Cond := [Cond.instanceMethod yX1_init, Cond.code yX1_init cX1_init 1 none, Cond.methodLink RX1 3 objectInit, Cond.fieldLink RX1 9 "PromiseHours$Reader" "isThere" "Z", Cond.fieldLink RX1 15 "PromiseHours$Reader" "skew" "I", Cond.fieldLink RX1 19 "PromiseHours$Reader" "copies" "[I", Cond.fieldLink RX1 23 "PromiseHours$Reader" "terms" "[I", Cond.fieldLink RX1 26 "PromiseHours$Reader" "promises" "[I", Cond.fieldLink RX1 29 "PromiseHours$Reader" "volumeTerms" "[I", Cond.fieldLink RX1 32 "PromiseHours$Reader" "lists" "[I", Cond.fieldLink RX1 35 "PromiseHours$Reader" "lastVersion" "I", Cond.fieldLink RX1 38 "PromiseHours$Reader" "timesUsed" "I", Cond.fieldLink RX1 41 "PromiseHours$Reader" "timesAsked" "I", Cond.fieldLink RX1 44 "PromiseHours$Reader" "timesNothing" "I", Cond.fieldLink RX1 47 "PromiseHours$Reader" "letters" "I", Cond.fieldLink RX1 50 "PromiseHours$Reader" "copiesLost" "I", Cond.methodLink RX1 53 yJ7_fill_53178, Cond.static yJ7_fill_53178, Cond.initialized RJ7, Cond.code yJ7_fill_53178 cJ7_fill_53178 4 none, Cond.static yX2_copyRow, Cond.initialized RX2, Cond.code yX2_copyRow cX2_copyRow 2 none, Cond.methodLink RX2 185 Lib.Math.min.name]
def wsX0_init_r3 : List Cond := [Cond.static Lib.Math.min.name, Cond.initialized "java/lang/Math", Cond.code Lib.Math.min.name Lib.Math.min.code 2 (some .int), Cond.methodLink RX2 190 arraycopyName, Cond.native arraycopyName, Cond.static arraycopyName, Cond.initialized "java/lang/System", Cond.methodLink RX0 75 yJ7_fill_53178]
def wsX0_init : List Cond := .code yX0_init cX0_init 1 none :: ((wsX0_init_r1 ++ (wsX0_init_r2 ++ wsX0_init_r3)) ++ wsX00 ++ wsX10)
def wsX0_isOver : List Cond := .code yX0_isOver cX0_isOver 3 (some .boolean) :: ([.fieldLink RX0 9 "PromiseHours$House" "tick" "I", .fieldLink RX0 15 "PromiseHours$House" "rules" "[I"] ++ wsX00 ++ wsX10)
def wsX1_hasCopy : List Cond := .code yX1_hasCopy cX1_hasCopy 2 (some .boolean) :: ([.fieldLink RX1 19 "PromiseHours$Reader" "copies" "[I"] ++ wsX10)
def wsX2_volumeOf : List Cond := .code yX2_volumeOf cX2_volumeOf 1 (some .int) :: ([])
def wsX1_volumeTermFor : List Cond := .code yX1_volumeTermFor cX1_volumeTermFor 2 (some .int) :: ([.fieldLink RX1 29 "PromiseHours$Reader" "volumeTerms" "[I", .static yX2_volumeOf, .initialized RX2, .code yX2_volumeOf cX2_volumeOf 1 (some .int)] ++ wsX10)
def wsX0_canUse : List Cond := .code yX0_canUse cX0_canUse 3 (some .boolean) :: ([.instanceMethod yX1_hasCopy, .initialized RX1, .selects RX1 yX1_hasCopy yX1_hasCopy, .code yX1_hasCopy cX1_hasCopy 2 (some .boolean), .fieldLink RX1 19 "PromiseHours$Reader" "copies" "[I", .methodLink RX0 91 yX0_isOver, .instanceMethod yX0_isOver, .selects RX0 yX0_isOver yX0_isOver, .initialized RX0, .code yX0_isOver cX0_isOver 3 (some .boolean), .fieldLink RX0 9 "PromiseHours$House" "tick" "I", .fieldLink RX0 15 "PromiseHours$House" "rules" "[I", .instanceMethod yX1_volumeTermFor, .selects RX1 yX1_volumeTermFor yX1_volumeTermFor, .code yX1_volumeTermFor cX1_volumeTermFor 2 (some .int), .fieldLink RX1 29 "PromiseHours$Reader" "volumeTerms" "[I", .static yX2_volumeOf, .initialized RX2, .code yX2_volumeOf cX2_volumeOf 1 (some .int)] ++ wsX10 ++ wsX00)
def wsX0_isHolder : List Cond := .code yX0_isHolder cX0_isHolder 3 (some .boolean) :: ([.fieldLink RX0 9 "PromiseHours$House" "tick" "I"] ++ wsX10 ++ wsX00)
def wsX0_isWaiting : List Cond := .code yX0_isWaiting cX0_isWaiting 2 (some .boolean) :: ([.fieldLink RX0 29 "PromiseHours$House" "ways" "[I"] ++ wsX00)
def wsX2_bit : List Cond := .code yX2_bit cX2_bit 1 (some .int) :: ([])
def wsX0_countSkewedBeyondDoubt : List Cond := .code yX0_countSkewedBeyondDoubt cX0_countSkewedBeyondDoubt 3 (some .int) :: ([.fieldLink RX0 22 "PromiseHours$House" "readers" "[LPromiseHours$Reader;", .methodLink RX0 102 Lib.Math.abs.name, .static Lib.Math.abs.name, .initialized "java/lang/Math", .code Lib.Math.abs.name Lib.Math.abs.code 1 (some .int), .fieldLink RX0 15 "PromiseHours$House" "rules" "[I", .static yX2_bit, .initialized RX2, .code yX2_bit cX2_bit 1 (some .int)] ++ wsX00 ++ wsX10)
def wsX0_useCopy : List Cond := .code yX0_useCopy cX0_useCopy 3 (some .int) :: ([.fieldLink RX0 26 "PromiseHours$House" "versions" "[I", .fieldLink RX0 50 "PromiseHours$House" "staleReads" "I"] ++ wsX10 ++ wsX00)
def wsX0_addCauseIf : List Cond := .code yX0_addCauseIf cX0_addCauseIf 3 none :: ([.fieldLink RX0 41 "PromiseHours$House" "causeCount" "I", .fieldLink RX0 38 "PromiseHours$House" "causes" "[I"] ++ wsX00)
def wsX0_noteCauses_r1 : List Cond := [Cond.fieldLink RX0 41 "PromiseHours$House" "causeCount" "I", Cond.methodLink RX0 141 yX0_addCauseIf, Cond.instanceMethod yX0_addCauseIf, Cond.selects RX0 yX0_addCauseIf yX0_addCauseIf, Cond.initialized RX0, Cond.code yX0_addCauseIf cX0_addCauseIf 3 none, Cond.fieldLink RX0 38 "PromiseHours$House" "causes" "[I", Cond.instanceMethod yX1_volumeTermFor, Cond.initialized RX1, Cond.selects RX1 yX1_volumeTermFor yX1_volumeTermFor, Cond.code yX1_volumeTermFor cX1_volumeTermFor 2 (some .int), Cond.fieldLink RX1 29 "PromiseHours$Reader" "volumeTerms" "[I", Cond.static yX2_volumeOf, Cond.initialized RX2, Cond.code yX2_volumeOf cX2_volumeOf 1 (some .int), Cond.methodLink RX0 91 yX0_isOver, Cond.instanceMethod yX0_isOver, Cond.selects RX0 yX0_isOver yX0_isOver, Cond.code yX0_isOver cX0_isOver 3 (some .boolean), Cond.fieldLink RX0 9 "PromiseHours$House" "tick" "I", Cond.fieldLink RX0 15 "PromiseHours$House" "rules" "[I", Cond.instanceMethod yX1_hasCopy, Cond.selects RX1 yX1_hasCopy yX1_hasCopy, Cond.code yX1_hasCopy cX1_hasCopy 2 (some .boolean)]
def wsX0_noteCauses_r2 : List Cond := [Cond.fieldLink RX1 19 "PromiseHours$Reader" "copies" "[I"]
def wsX0_noteCauses : List Cond := .code yX0_noteCauses cX0_noteCauses 3 none :: ((wsX0_noteCauses_r1 ++ wsX0_noteCauses_r2) ++ wsX00 ++ wsX10)
def wsX2_isInSet : List Cond := .code yX2_isInSet cX2_isInSet 2 (some .boolean) :: ([])
def wsX1_takeCopy : List Cond := .code yX1_takeCopy cX1_takeCopy 4 none :: ([.fieldLink RX1 19 "PromiseHours$Reader" "copies" "[I", .fieldLink RX1 23 "PromiseHours$Reader" "terms" "[I", .fieldLink RX1 26 "PromiseHours$Reader" "promises" "[I"] ++ wsX10)
def wsX1_dropCopy : List Cond := .code yX1_dropCopy cX1_dropCopy 2 none :: ([.methodLink RX1 59 yX1_takeCopy, .instanceMethod yX1_takeCopy, .selects RX1 yX1_takeCopy yX1_takeCopy, .initialized RX1, .code yX1_takeCopy cX1_takeCopy 4 none, .fieldLink RX1 19 "PromiseHours$Reader" "copies" "[I", .fieldLink RX1 23 "PromiseHours$Reader" "terms" "[I", .fieldLink RX1 26 "PromiseHours$Reader" "promises" "[I"] ++ wsX10)
def wsX0_dropByList : List Cond := .code yX0_dropByList cX0_dropByList 6 none :: ([.fieldLink RX0 9 "PromiseHours$House" "tick" "I", .fieldLink RX0 15 "PromiseHours$House" "rules" "[I", .static yX2_isInSet, .initialized RX2, .code yX2_isInSet cX2_isInSet 2 (some .boolean), .instanceMethod yX1_hasCopy, .initialized RX1, .selects RX1 yX1_hasCopy yX1_hasCopy, .code yX1_hasCopy cX1_hasCopy 2 (some .boolean), .fieldLink RX1 19 "PromiseHours$Reader" "copies" "[I", .static yX2_bit, .code yX2_bit cX2_bit 1 (some .int), .instanceMethod yX1_dropCopy, .selects RX1 yX1_dropCopy yX1_dropCopy, .code yX1_dropCopy cX1_dropCopy 2 none, .methodLink RX1 59 yX1_takeCopy, .instanceMethod yX1_takeCopy, .selects RX1 yX1_takeCopy yX1_takeCopy, .code yX1_takeCopy cX1_takeCopy 4 none, .fieldLink RX1 23 "PromiseHours$Reader" "terms" "[I", .fieldLink RX1 26 "PromiseHours$Reader" "promises" "[I"] ++ wsX00 ++ wsX10)
def wsX0_renew_r1 : List Cond := [Cond.fieldLink RX0 9 "PromiseHours$House" "tick" "I", Cond.fieldLink RX0 15 "PromiseHours$House" "rules" "[I", Cond.fieldLink RX0 65 "PromiseHours$House" "timesRenewed" "I", Cond.methodLink RX0 164 yX0_dropByList, Cond.instanceMethod yX0_dropByList, Cond.selects RX0 yX0_dropByList yX0_dropByList, Cond.initialized RX0, Cond.code yX0_dropByList cX0_dropByList 6 none, Cond.static yX2_isInSet, Cond.initialized RX2, Cond.code yX2_isInSet cX2_isInSet 2 (some .boolean), Cond.instanceMethod yX1_hasCopy, Cond.initialized RX1, Cond.selects RX1 yX1_hasCopy yX1_hasCopy, Cond.code yX1_hasCopy cX1_hasCopy 2 (some .boolean), Cond.fieldLink RX1 19 "PromiseHours$Reader" "copies" "[I", Cond.static yX2_bit, Cond.code yX2_bit cX2_bit 1 (some .int), Cond.instanceMethod yX1_dropCopy, Cond.selects RX1 yX1_dropCopy yX1_dropCopy, Cond.code yX1_dropCopy cX1_dropCopy 2 none, Cond.methodLink RX1 59 yX1_takeCopy, Cond.instanceMethod yX1_takeCopy, Cond.selects RX1 yX1_takeCopy yX1_takeCopy]
def wsX0_renew_r2 : List Cond := [Cond.code yX1_takeCopy cX1_takeCopy 4 none, Cond.fieldLink RX1 23 "PromiseHours$Reader" "terms" "[I", Cond.fieldLink RX1 26 "PromiseHours$Reader" "promises" "[I"]
def wsX0_renew : List Cond := .code yX0_renew cX0_renew 3 none :: ((wsX0_renew_r1 ++ wsX0_renew_r2) ++ wsX10 ++ wsX00)
def wsX0_askHouse_r1 : List Cond := [Cond.fieldLink RX0 9 "PromiseHours$House" "tick" "I", Cond.fieldLink RX0 26 "PromiseHours$House" "versions" "[I", Cond.fieldLink RX0 15 "PromiseHours$House" "rules" "[I", Cond.instanceMethod yX1_volumeTermFor, Cond.initialized RX1, Cond.selects RX1 yX1_volumeTermFor yX1_volumeTermFor, Cond.code yX1_volumeTermFor cX1_volumeTermFor 2 (some .int), Cond.fieldLink RX1 29 "PromiseHours$Reader" "volumeTerms" "[I", Cond.static yX2_volumeOf, Cond.initialized RX2, Cond.code yX2_volumeOf cX2_volumeOf 1 (some .int), Cond.methodLink RX0 91 yX0_isOver, Cond.instanceMethod yX0_isOver, Cond.selects RX0 yX0_isOver yX0_isOver, Cond.initialized RX0, Cond.code yX0_isOver cX0_isOver 3 (some .boolean), Cond.methodLink RX0 151 yX0_renew, Cond.instanceMethod yX0_renew, Cond.selects RX0 yX0_renew yX0_renew, Cond.code yX0_renew cX0_renew 3 none, Cond.fieldLink RX0 65 "PromiseHours$House" "timesRenewed" "I", Cond.methodLink RX0 164 yX0_dropByList, Cond.instanceMethod yX0_dropByList, Cond.selects RX0 yX0_dropByList yX0_dropByList]
def wsX0_askHouse_r2 : List Cond := [Cond.code yX0_dropByList cX0_dropByList 6 none, Cond.static yX2_isInSet, Cond.code yX2_isInSet cX2_isInSet 2 (some .boolean), Cond.instanceMethod yX1_hasCopy, Cond.selects RX1 yX1_hasCopy yX1_hasCopy, Cond.code yX1_hasCopy cX1_hasCopy 2 (some .boolean), Cond.fieldLink RX1 19 "PromiseHours$Reader" "copies" "[I", Cond.static yX2_bit, Cond.code yX2_bit cX2_bit 1 (some .int), Cond.instanceMethod yX1_dropCopy, Cond.selects RX1 yX1_dropCopy yX1_dropCopy, Cond.code yX1_dropCopy cX1_dropCopy 2 none, Cond.methodLink RX1 59 yX1_takeCopy, Cond.instanceMethod yX1_takeCopy, Cond.selects RX1 yX1_takeCopy yX1_takeCopy, Cond.code yX1_takeCopy cX1_takeCopy 4 none, Cond.fieldLink RX1 23 "PromiseHours$Reader" "terms" "[I", Cond.fieldLink RX1 26 "PromiseHours$Reader" "promises" "[I", Cond.methodLink RX0 154 yX0_isWaiting, Cond.instanceMethod yX0_isWaiting, Cond.selects RX0 yX0_isWaiting yX0_isWaiting, Cond.code yX0_isWaiting cX0_isWaiting 2 (some .boolean), Cond.fieldLink RX0 29 "PromiseHours$House" "ways" "[I"]
def wsX0_askHouse : List Cond := .code yX0_askHouse cX0_askHouse 4 (some .int) :: ((wsX0_askHouse_r1 ++ wsX0_askHouse_r2) ++ wsX10 ++ wsX00)
def wsX0_readBy_r1 : List Cond := [Cond.methodLink RX0 111 yX0_canUse, Cond.instanceMethod yX0_canUse, Cond.selects RX0 yX0_canUse yX0_canUse, Cond.initialized RX0, Cond.code yX0_canUse cX0_canUse 3 (some .boolean), Cond.instanceMethod yX1_hasCopy, Cond.initialized RX1, Cond.selects RX1 yX1_hasCopy yX1_hasCopy, Cond.code yX1_hasCopy cX1_hasCopy 2 (some .boolean), Cond.fieldLink RX1 19 "PromiseHours$Reader" "copies" "[I", Cond.methodLink RX0 91 yX0_isOver, Cond.instanceMethod yX0_isOver, Cond.selects RX0 yX0_isOver yX0_isOver, Cond.code yX0_isOver cX0_isOver 3 (some .boolean), Cond.fieldLink RX0 9 "PromiseHours$House" "tick" "I", Cond.fieldLink RX0 15 "PromiseHours$House" "rules" "[I", Cond.instanceMethod yX1_volumeTermFor, Cond.selects RX1 yX1_volumeTermFor yX1_volumeTermFor, Cond.code yX1_volumeTermFor cX1_volumeTermFor 2 (some .int), Cond.fieldLink RX1 29 "PromiseHours$Reader" "volumeTerms" "[I", Cond.static yX2_volumeOf, Cond.initialized RX2, Cond.code yX2_volumeOf cX2_volumeOf 1 (some .int), Cond.methodLink RX0 114 yX0_useCopy]
def wsX0_readBy_r2 : List Cond := [Cond.instanceMethod yX0_useCopy, Cond.selects RX0 yX0_useCopy yX0_useCopy, Cond.code yX0_useCopy cX0_useCopy 3 (some .int), Cond.fieldLink RX0 26 "PromiseHours$House" "versions" "[I", Cond.fieldLink RX0 50 "PromiseHours$House" "staleReads" "I", Cond.methodLink RX0 118 yX0_noteCauses, Cond.instanceMethod yX0_noteCauses, Cond.selects RX0 yX0_noteCauses yX0_noteCauses, Cond.code yX0_noteCauses cX0_noteCauses 3 none, Cond.fieldLink RX0 41 "PromiseHours$House" "causeCount" "I", Cond.methodLink RX0 141 yX0_addCauseIf, Cond.instanceMethod yX0_addCauseIf, Cond.selects RX0 yX0_addCauseIf yX0_addCauseIf, Cond.code yX0_addCauseIf cX0_addCauseIf 3 none, Cond.fieldLink RX0 38 "PromiseHours$House" "causes" "[I", Cond.methodLink RX0 129 yX0_askHouse, Cond.instanceMethod yX0_askHouse, Cond.selects RX0 yX0_askHouse yX0_askHouse, Cond.code yX0_askHouse cX0_askHouse 4 (some .int), Cond.methodLink RX0 151 yX0_renew, Cond.instanceMethod yX0_renew, Cond.selects RX0 yX0_renew yX0_renew, Cond.code yX0_renew cX0_renew 3 none, Cond.fieldLink RX0 65 "PromiseHours$House" "timesRenewed" "I"]
def wsX0_readBy_r3 : List Cond := [Cond.methodLink RX0 164 yX0_dropByList, Cond.instanceMethod yX0_dropByList, Cond.selects RX0 yX0_dropByList yX0_dropByList, Cond.code yX0_dropByList cX0_dropByList 6 none, Cond.static yX2_isInSet, Cond.code yX2_isInSet cX2_isInSet 2 (some .boolean), Cond.static yX2_bit, Cond.code yX2_bit cX2_bit 1 (some .int), Cond.instanceMethod yX1_dropCopy, Cond.selects RX1 yX1_dropCopy yX1_dropCopy, Cond.code yX1_dropCopy cX1_dropCopy 2 none, Cond.methodLink RX1 59 yX1_takeCopy, Cond.instanceMethod yX1_takeCopy, Cond.selects RX1 yX1_takeCopy yX1_takeCopy, Cond.code yX1_takeCopy cX1_takeCopy 4 none, Cond.fieldLink RX1 23 "PromiseHours$Reader" "terms" "[I", Cond.fieldLink RX1 26 "PromiseHours$Reader" "promises" "[I", Cond.methodLink RX0 154 yX0_isWaiting, Cond.instanceMethod yX0_isWaiting, Cond.selects RX0 yX0_isWaiting yX0_isWaiting, Cond.code yX0_isWaiting cX0_isWaiting 2 (some .boolean), Cond.fieldLink RX0 29 "PromiseHours$House" "ways" "[I"]
def wsX0_readBy : List Cond := .code yX0_readBy cX0_readBy 3 (some .int) :: ((wsX0_readBy_r1 ++ (wsX0_readBy_r2 ++ wsX0_readBy_r3)) ++ wsX10 ++ wsX00)
def wsX0_putOnList : List Cond := .code yX0_putOnList cX0_putOnList 4 none :: ([.fieldLink RX0 62 "PromiseHours$House" "timesListed" "I", .static yX2_volumeOf, .initialized RX2, .code yX2_volumeOf cX2_volumeOf 1 (some .int), .static yX2_isInSet, .code yX2_isInSet cX2_isInSet 2 (some .boolean)] ++ wsX10 ++ wsX00)
def wsX0_sendLetter : List Cond := .code yX0_sendLetter cX0_sendLetter 3 none :: ([.fieldLink RX0 59 "PromiseHours$House" "lettersSent" "I", .instanceMethod yX1_dropCopy, .initialized RX1, .selects RX1 yX1_dropCopy yX1_dropCopy, .code yX1_dropCopy cX1_dropCopy 2 none, .methodLink RX1 59 yX1_takeCopy, .instanceMethod yX1_takeCopy, .selects RX1 yX1_takeCopy yX1_takeCopy, .code yX1_takeCopy cX1_takeCopy 4 none, .fieldLink RX1 19 "PromiseHours$Reader" "copies" "[I", .fieldLink RX1 23 "PromiseHours$Reader" "terms" "[I", .fieldLink RX1 26 "PromiseHours$Reader" "promises" "[I"] ++ wsX00 ++ wsX10)
def wsX0_settleHolder_r1 : List Cond := [Cond.fieldLink RX0 9 "PromiseHours$House" "tick" "I", Cond.fieldLink RX0 29 "PromiseHours$House" "ways" "[I", Cond.instanceMethod yX1_volumeTermFor, Cond.initialized RX1, Cond.selects RX1 yX1_volumeTermFor yX1_volumeTermFor, Cond.code yX1_volumeTermFor cX1_volumeTermFor 2 (some .int), Cond.fieldLink RX1 29 "PromiseHours$Reader" "volumeTerms" "[I", Cond.static yX2_volumeOf, Cond.initialized RX2, Cond.code yX2_volumeOf cX2_volumeOf 1 (some .int), Cond.methodLink RX0 202 yX0_putOnList, Cond.instanceMethod yX0_putOnList, Cond.selects RX0 yX0_putOnList yX0_putOnList, Cond.initialized RX0, Cond.code yX0_putOnList cX0_putOnList 4 none, Cond.fieldLink RX0 62 "PromiseHours$House" "timesListed" "I", Cond.static yX2_isInSet, Cond.code yX2_isInSet cX2_isInSet 2 (some .boolean), Cond.methodLink RX0 205 yX0_sendLetter, Cond.instanceMethod yX0_sendLetter, Cond.selects RX0 yX0_sendLetter yX0_sendLetter, Cond.code yX0_sendLetter cX0_sendLetter 3 none, Cond.fieldLink RX0 59 "PromiseHours$House" "lettersSent" "I", Cond.instanceMethod yX1_dropCopy]
def wsX0_settleHolder_r2 : List Cond := [Cond.selects RX1 yX1_dropCopy yX1_dropCopy, Cond.code yX1_dropCopy cX1_dropCopy 2 none, Cond.methodLink RX1 59 yX1_takeCopy, Cond.instanceMethod yX1_takeCopy, Cond.selects RX1 yX1_takeCopy yX1_takeCopy, Cond.code yX1_takeCopy cX1_takeCopy 4 none, Cond.fieldLink RX1 19 "PromiseHours$Reader" "copies" "[I", Cond.fieldLink RX1 23 "PromiseHours$Reader" "terms" "[I", Cond.fieldLink RX1 26 "PromiseHours$Reader" "promises" "[I"]
def wsX0_settleHolder : List Cond := .code yX0_settleHolder cX0_settleHolder 3 none :: ((wsX0_settleHolder_r1 ++ wsX0_settleHolder_r2) ++ wsX00 ++ wsX10)
def wsX0_holdersOf : List Cond := .code yX0_holdersOf cX0_holdersOf 4 (some .int) :: ([.fieldLink RX0 22 "PromiseHours$House" "readers" "[LPromiseHours$Reader;", .methodLink RX0 193 yX0_isHolder, .instanceMethod yX0_isHolder, .selects RX0 yX0_isHolder yX0_isHolder, .initialized RX0, .code yX0_isHolder cX0_isHolder 3 (some .boolean), .fieldLink RX0 9 "PromiseHours$House" "tick" "I", .static yX2_bit, .initialized RX2, .code yX2_bit cX2_bit 1 (some .int)] ++ wsX00 ++ wsX10)
def wsX0_settle_r1 : List Cond := [Cond.fieldLink RX0 22 "PromiseHours$House" "readers" "[LPromiseHours$Reader;", Cond.fieldLink RX0 26 "PromiseHours$House" "versions" "[I", Cond.fieldLink RX0 29 "PromiseHours$House" "ways" "[I", Cond.fieldLink RX0 56 "PromiseHours$House" "writesDone" "I", Cond.methodLink RX0 193 yX0_isHolder, Cond.instanceMethod yX0_isHolder, Cond.selects RX0 yX0_isHolder yX0_isHolder, Cond.initialized RX0, Cond.code yX0_isHolder cX0_isHolder 3 (some .boolean), Cond.fieldLink RX0 9 "PromiseHours$House" "tick" "I", Cond.methodLink RX0 196 yX0_settleHolder, Cond.instanceMethod yX0_settleHolder, Cond.selects RX0 yX0_settleHolder yX0_settleHolder, Cond.code yX0_settleHolder cX0_settleHolder 3 none, Cond.instanceMethod yX1_volumeTermFor, Cond.initialized RX1, Cond.selects RX1 yX1_volumeTermFor yX1_volumeTermFor, Cond.code yX1_volumeTermFor cX1_volumeTermFor 2 (some .int), Cond.fieldLink RX1 29 "PromiseHours$Reader" "volumeTerms" "[I", Cond.static yX2_volumeOf, Cond.initialized RX2, Cond.code yX2_volumeOf cX2_volumeOf 1 (some .int), Cond.methodLink RX0 202 yX0_putOnList, Cond.instanceMethod yX0_putOnList]
def wsX0_settle_r2 : List Cond := [Cond.selects RX0 yX0_putOnList yX0_putOnList, Cond.code yX0_putOnList cX0_putOnList 4 none, Cond.fieldLink RX0 62 "PromiseHours$House" "timesListed" "I", Cond.static yX2_isInSet, Cond.code yX2_isInSet cX2_isInSet 2 (some .boolean), Cond.methodLink RX0 205 yX0_sendLetter, Cond.instanceMethod yX0_sendLetter, Cond.selects RX0 yX0_sendLetter yX0_sendLetter, Cond.code yX0_sendLetter cX0_sendLetter 3 none, Cond.fieldLink RX0 59 "PromiseHours$House" "lettersSent" "I", Cond.instanceMethod yX1_dropCopy, Cond.selects RX1 yX1_dropCopy yX1_dropCopy, Cond.code yX1_dropCopy cX1_dropCopy 2 none, Cond.methodLink RX1 59 yX1_takeCopy, Cond.instanceMethod yX1_takeCopy, Cond.selects RX1 yX1_takeCopy yX1_takeCopy, Cond.code yX1_takeCopy cX1_takeCopy 4 none, Cond.fieldLink RX1 19 "PromiseHours$Reader" "copies" "[I", Cond.fieldLink RX1 23 "PromiseHours$Reader" "terms" "[I", Cond.fieldLink RX1 26 "PromiseHours$Reader" "promises" "[I", Cond.methodLink RX0 199 yX0_holdersOf, Cond.instanceMethod yX0_holdersOf, Cond.selects RX0 yX0_holdersOf yX0_holdersOf, Cond.code yX0_holdersOf cX0_holdersOf 4 (some .int)]
def wsX0_settle_r3 : List Cond := [Cond.static yX2_bit, Cond.code yX2_bit cX2_bit 1 (some .int)]
def wsX0_settle : List Cond := .code yX0_settle cX0_settle 3 (some .boolean) :: ((wsX0_settle_r1 ++ (wsX0_settle_r2 ++ wsX0_settle_r3)) ++ wsX00 ++ wsX10)
def wsX1_holdsUntil : List Cond := .code yX1_holdsUntil cX1_holdsUntil 2 (some .int) :: ([.fieldLink RX1 26 "PromiseHours$Reader" "promises" "[I", .methodLink RX1 70 Lib.Math.min.name, .static Lib.Math.min.name, .initialized "java/lang/Math", .code Lib.Math.min.name Lib.Math.min.code 2 (some .int), .methodLink RX1 67 yX1_volumeTermFor, .instanceMethod yX1_volumeTermFor, .selects RX1 yX1_volumeTermFor yX1_volumeTermFor, .initialized RX1, .code yX1_volumeTermFor cX1_volumeTermFor 2 (some .int), .fieldLink RX1 29 "PromiseHours$Reader" "volumeTerms" "[I", .static yX2_volumeOf, .initialized RX2, .code yX2_volumeOf cX2_volumeOf 1 (some .int)] ++ wsX10)
def wsX0_insertWaitedFor : List Cond := .code yX0_insertWaitedFor cX0_insertWaitedFor 5 none :: ([.fieldLink RX0 22 "PromiseHours$House" "readers" "[LPromiseHours$Reader;", .fieldLink RX0 47 "PromiseHours$House" "waitedCount" "I", .fieldLink RX0 44 "PromiseHours$House" "waitedFor" "[I", .instanceMethod yX1_holdsUntil, .initialized RX1, .selects RX1 yX1_holdsUntil yX1_holdsUntil, .code yX1_holdsUntil cX1_holdsUntil 2 (some .int), .fieldLink RX1 26 "PromiseHours$Reader" "promises" "[I", .methodLink RX1 70 Lib.Math.min.name, .static Lib.Math.min.name, .initialized "java/lang/Math", .code Lib.Math.min.name Lib.Math.min.code 2 (some .int), .methodLink RX1 67 yX1_volumeTermFor, .instanceMethod yX1_volumeTermFor, .selects RX1 yX1_volumeTermFor yX1_volumeTermFor, .code yX1_volumeTermFor cX1_volumeTermFor 2 (some .int), .fieldLink RX1 29 "PromiseHours$Reader" "volumeTerms" "[I", .static yX2_volumeOf, .initialized RX2, .code yX2_volumeOf cX2_volumeOf 1 (some .int)] ++ wsX00 ++ wsX10)
def wsX0_noteWaitedFor_r1 : List Cond := [Cond.fieldLink RX0 47 "PromiseHours$House" "waitedCount" "I", Cond.fieldLink RX0 22 "PromiseHours$House" "readers" "[LPromiseHours$Reader;", Cond.methodLink RX0 193 yX0_isHolder, Cond.instanceMethod yX0_isHolder, Cond.selects RX0 yX0_isHolder yX0_isHolder, Cond.initialized RX0, Cond.code yX0_isHolder cX0_isHolder 3 (some .boolean), Cond.fieldLink RX0 9 "PromiseHours$House" "tick" "I", Cond.methodLink RX0 218 yX0_insertWaitedFor, Cond.instanceMethod yX0_insertWaitedFor, Cond.selects RX0 yX0_insertWaitedFor yX0_insertWaitedFor, Cond.code yX0_insertWaitedFor cX0_insertWaitedFor 5 none, Cond.fieldLink RX0 44 "PromiseHours$House" "waitedFor" "[I", Cond.instanceMethod yX1_holdsUntil, Cond.initialized RX1, Cond.selects RX1 yX1_holdsUntil yX1_holdsUntil, Cond.code yX1_holdsUntil cX1_holdsUntil 2 (some .int), Cond.fieldLink RX1 26 "PromiseHours$Reader" "promises" "[I", Cond.methodLink RX1 70 Lib.Math.min.name, Cond.static Lib.Math.min.name, Cond.initialized "java/lang/Math", Cond.code Lib.Math.min.name Lib.Math.min.code 2 (some .int), Cond.methodLink RX1 67 yX1_volumeTermFor, Cond.instanceMethod yX1_volumeTermFor]
def wsX0_noteWaitedFor_r2 : List Cond := [Cond.selects RX1 yX1_volumeTermFor yX1_volumeTermFor, Cond.code yX1_volumeTermFor cX1_volumeTermFor 2 (some .int), Cond.fieldLink RX1 29 "PromiseHours$Reader" "volumeTerms" "[I", Cond.static yX2_volumeOf, Cond.initialized RX2, Cond.code yX2_volumeOf cX2_volumeOf 1 (some .int)]
def wsX0_noteWaitedFor : List Cond := .code yX0_noteWaitedFor cX0_noteWaitedFor 3 none :: ((wsX0_noteWaitedFor_r1 ++ wsX0_noteWaitedFor_r2) ++ wsX00 ++ wsX10)
def wsX0_joinLine : List Cond := .code yX0_joinLine cX0_joinLine 2 none :: ([.fieldLink RX0 35 "PromiseHours$House" "lineLength" "I", .fieldLink RX0 32 "PromiseHours$House" "line" "[I"] ++ wsX00)
def wsX0_dueOf_r1 : List Cond := [Cond.fieldLink RX0 9 "PromiseHours$House" "tick" "I", Cond.fieldLink RX0 22 "PromiseHours$House" "readers" "[LPromiseHours$Reader;", Cond.methodLink RX0 214 Lib.Math.max.name, Cond.static Lib.Math.max.name, Cond.initialized "java/lang/Math", Cond.code Lib.Math.max.name Lib.Math.max.code 2 (some .int), Cond.methodLink RX0 193 yX0_isHolder, Cond.instanceMethod yX0_isHolder, Cond.selects RX0 yX0_isHolder yX0_isHolder, Cond.initialized RX0, Cond.code yX0_isHolder cX0_isHolder 3 (some .boolean), Cond.instanceMethod yX1_holdsUntil, Cond.initialized RX1, Cond.selects RX1 yX1_holdsUntil yX1_holdsUntil, Cond.code yX1_holdsUntil cX1_holdsUntil 2 (some .int), Cond.fieldLink RX1 26 "PromiseHours$Reader" "promises" "[I", Cond.methodLink RX1 70 Lib.Math.min.name, Cond.static Lib.Math.min.name, Cond.code Lib.Math.min.name Lib.Math.min.code 2 (some .int), Cond.methodLink RX1 67 yX1_volumeTermFor, Cond.instanceMethod yX1_volumeTermFor, Cond.selects RX1 yX1_volumeTermFor yX1_volumeTermFor, Cond.code yX1_volumeTermFor cX1_volumeTermFor 2 (some .int), Cond.fieldLink RX1 29 "PromiseHours$Reader" "volumeTerms" "[I"]
def wsX0_dueOf_r2 : List Cond := [Cond.static yX2_volumeOf, Cond.initialized RX2, Cond.code yX2_volumeOf cX2_volumeOf 1 (some .int)]
def wsX0_dueOf : List Cond := .code yX0_dueOf cX0_dueOf 4 (some .int) :: ((wsX0_dueOf_r1 ++ wsX0_dueOf_r2) ++ wsX00 ++ wsX10)
def wsX0_tellWrite_r1 : List Cond := [Cond.fieldLink RX0 53 "PromiseHours$House" "writesTold" "I", Cond.fieldLink RX0 29 "PromiseHours$House" "ways" "[I", Cond.fieldLink RX0 9 "PromiseHours$House" "tick" "I", Cond.methodLink RX0 181 yX0_settle, Cond.instanceMethod yX0_settle, Cond.selects RX0 yX0_settle yX0_settle, Cond.initialized RX0, Cond.code yX0_settle cX0_settle 3 (some .boolean), Cond.fieldLink RX0 22 "PromiseHours$House" "readers" "[LPromiseHours$Reader;", Cond.fieldLink RX0 26 "PromiseHours$House" "versions" "[I", Cond.fieldLink RX0 56 "PromiseHours$House" "writesDone" "I", Cond.methodLink RX0 193 yX0_isHolder, Cond.instanceMethod yX0_isHolder, Cond.selects RX0 yX0_isHolder yX0_isHolder, Cond.code yX0_isHolder cX0_isHolder 3 (some .boolean), Cond.methodLink RX0 196 yX0_settleHolder, Cond.instanceMethod yX0_settleHolder, Cond.selects RX0 yX0_settleHolder yX0_settleHolder, Cond.code yX0_settleHolder cX0_settleHolder 3 none, Cond.instanceMethod yX1_volumeTermFor, Cond.initialized RX1, Cond.selects RX1 yX1_volumeTermFor yX1_volumeTermFor, Cond.code yX1_volumeTermFor cX1_volumeTermFor 2 (some .int), Cond.fieldLink RX1 29 "PromiseHours$Reader" "volumeTerms" "[I"]
def wsX0_tellWrite_r2 : List Cond := [Cond.static yX2_volumeOf, Cond.initialized RX2, Cond.code yX2_volumeOf cX2_volumeOf 1 (some .int), Cond.methodLink RX0 202 yX0_putOnList, Cond.instanceMethod yX0_putOnList, Cond.selects RX0 yX0_putOnList yX0_putOnList, Cond.code yX0_putOnList cX0_putOnList 4 none, Cond.fieldLink RX0 62 "PromiseHours$House" "timesListed" "I", Cond.static yX2_isInSet, Cond.code yX2_isInSet cX2_isInSet 2 (some .boolean), Cond.methodLink RX0 205 yX0_sendLetter, Cond.instanceMethod yX0_sendLetter, Cond.selects RX0 yX0_sendLetter yX0_sendLetter, Cond.code yX0_sendLetter cX0_sendLetter 3 none, Cond.fieldLink RX0 59 "PromiseHours$House" "lettersSent" "I", Cond.instanceMethod yX1_dropCopy, Cond.selects RX1 yX1_dropCopy yX1_dropCopy, Cond.code yX1_dropCopy cX1_dropCopy 2 none, Cond.methodLink RX1 59 yX1_takeCopy, Cond.instanceMethod yX1_takeCopy, Cond.selects RX1 yX1_takeCopy yX1_takeCopy, Cond.code yX1_takeCopy cX1_takeCopy 4 none, Cond.fieldLink RX1 19 "PromiseHours$Reader" "copies" "[I", Cond.fieldLink RX1 23 "PromiseHours$Reader" "terms" "[I"]
def wsX0_tellWrite_r3 : List Cond := [Cond.fieldLink RX1 26 "PromiseHours$Reader" "promises" "[I", Cond.methodLink RX0 199 yX0_holdersOf, Cond.instanceMethod yX0_holdersOf, Cond.selects RX0 yX0_holdersOf yX0_holdersOf, Cond.code yX0_holdersOf cX0_holdersOf 4 (some .int), Cond.static yX2_bit, Cond.code yX2_bit cX2_bit 1 (some .int), Cond.methodLink RX0 184 yX0_noteWaitedFor, Cond.instanceMethod yX0_noteWaitedFor, Cond.selects RX0 yX0_noteWaitedFor yX0_noteWaitedFor, Cond.code yX0_noteWaitedFor cX0_noteWaitedFor 3 none, Cond.fieldLink RX0 47 "PromiseHours$House" "waitedCount" "I", Cond.methodLink RX0 218 yX0_insertWaitedFor, Cond.instanceMethod yX0_insertWaitedFor, Cond.selects RX0 yX0_insertWaitedFor yX0_insertWaitedFor, Cond.code yX0_insertWaitedFor cX0_insertWaitedFor 5 none, Cond.fieldLink RX0 44 "PromiseHours$House" "waitedFor" "[I", Cond.instanceMethod yX1_holdsUntil, Cond.selects RX1 yX1_holdsUntil yX1_holdsUntil, Cond.code yX1_holdsUntil cX1_holdsUntil 2 (some .int), Cond.methodLink RX1 70 Lib.Math.min.name, Cond.static Lib.Math.min.name, Cond.initialized "java/lang/Math", Cond.code Lib.Math.min.name Lib.Math.min.code 2 (some .int)]
def wsX0_tellWrite_r4 : List Cond := [Cond.methodLink RX1 67 yX1_volumeTermFor, Cond.methodLink RX0 187 yX0_joinLine, Cond.instanceMethod yX0_joinLine, Cond.selects RX0 yX0_joinLine yX0_joinLine, Cond.code yX0_joinLine cX0_joinLine 2 none, Cond.fieldLink RX0 35 "PromiseHours$House" "lineLength" "I", Cond.fieldLink RX0 32 "PromiseHours$House" "line" "[I", Cond.methodLink RX0 190 yX0_dueOf, Cond.instanceMethod yX0_dueOf, Cond.selects RX0 yX0_dueOf yX0_dueOf, Cond.code yX0_dueOf cX0_dueOf 4 (some .int), Cond.methodLink RX0 214 Lib.Math.max.name, Cond.static Lib.Math.max.name, Cond.code Lib.Math.max.name Lib.Math.max.code 2 (some .int)]
def wsX0_tellWrite : List Cond := .code yX0_tellWrite cX0_tellWrite 4 (some .int) :: ((wsX0_tellWrite_r1 ++ (wsX0_tellWrite_r2 ++ (wsX0_tellWrite_r3 ++ wsX0_tellWrite_r4))) ++ wsX00 ++ wsX10)
def wsX0_settleAll_r1 : List Cond := [Cond.fieldLink RX0 35 "PromiseHours$House" "lineLength" "I", Cond.fieldLink RX0 32 "PromiseHours$House" "line" "[I", Cond.methodLink RX0 181 yX0_settle, Cond.instanceMethod yX0_settle, Cond.selects RX0 yX0_settle yX0_settle, Cond.initialized RX0, Cond.code yX0_settle cX0_settle 3 (some .boolean), Cond.fieldLink RX0 22 "PromiseHours$House" "readers" "[LPromiseHours$Reader;", Cond.fieldLink RX0 26 "PromiseHours$House" "versions" "[I", Cond.fieldLink RX0 29 "PromiseHours$House" "ways" "[I", Cond.fieldLink RX0 56 "PromiseHours$House" "writesDone" "I", Cond.methodLink RX0 193 yX0_isHolder, Cond.instanceMethod yX0_isHolder, Cond.selects RX0 yX0_isHolder yX0_isHolder, Cond.code yX0_isHolder cX0_isHolder 3 (some .boolean), Cond.fieldLink RX0 9 "PromiseHours$House" "tick" "I", Cond.methodLink RX0 196 yX0_settleHolder, Cond.instanceMethod yX0_settleHolder, Cond.selects RX0 yX0_settleHolder yX0_settleHolder, Cond.code yX0_settleHolder cX0_settleHolder 3 none, Cond.instanceMethod yX1_volumeTermFor, Cond.initialized RX1, Cond.selects RX1 yX1_volumeTermFor yX1_volumeTermFor, Cond.code yX1_volumeTermFor cX1_volumeTermFor 2 (some .int)]
def wsX0_settleAll_r2 : List Cond := [Cond.fieldLink RX1 29 "PromiseHours$Reader" "volumeTerms" "[I", Cond.static yX2_volumeOf, Cond.initialized RX2, Cond.code yX2_volumeOf cX2_volumeOf 1 (some .int), Cond.methodLink RX0 202 yX0_putOnList, Cond.instanceMethod yX0_putOnList, Cond.selects RX0 yX0_putOnList yX0_putOnList, Cond.code yX0_putOnList cX0_putOnList 4 none, Cond.fieldLink RX0 62 "PromiseHours$House" "timesListed" "I", Cond.static yX2_isInSet, Cond.code yX2_isInSet cX2_isInSet 2 (some .boolean), Cond.methodLink RX0 205 yX0_sendLetter, Cond.instanceMethod yX0_sendLetter, Cond.selects RX0 yX0_sendLetter yX0_sendLetter, Cond.code yX0_sendLetter cX0_sendLetter 3 none, Cond.fieldLink RX0 59 "PromiseHours$House" "lettersSent" "I", Cond.instanceMethod yX1_dropCopy, Cond.selects RX1 yX1_dropCopy yX1_dropCopy, Cond.code yX1_dropCopy cX1_dropCopy 2 none, Cond.methodLink RX1 59 yX1_takeCopy, Cond.instanceMethod yX1_takeCopy, Cond.selects RX1 yX1_takeCopy yX1_takeCopy, Cond.code yX1_takeCopy cX1_takeCopy 4 none, Cond.fieldLink RX1 19 "PromiseHours$Reader" "copies" "[I"]
def wsX0_settleAll_r3 : List Cond := [Cond.fieldLink RX1 23 "PromiseHours$Reader" "terms" "[I", Cond.fieldLink RX1 26 "PromiseHours$Reader" "promises" "[I", Cond.methodLink RX0 199 yX0_holdersOf, Cond.instanceMethod yX0_holdersOf, Cond.selects RX0 yX0_holdersOf yX0_holdersOf, Cond.code yX0_holdersOf cX0_holdersOf 4 (some .int), Cond.static yX2_bit, Cond.code yX2_bit cX2_bit 1 (some .int)]
def wsX0_settleAll : List Cond := .code yX0_settleAll cX0_settleAll 5 (some .int) :: ((wsX0_settleAll_r1 ++ (wsX0_settleAll_r2 ++ wsX0_settleAll_r3)) ++ wsX00 ++ wsX10)
def wsX0_readersWithCopy : List Cond := .code yX0_readersWithCopy cX0_readersWithCopy 4 (some .int) :: ([.fieldLink RX0 22 "PromiseHours$House" "readers" "[LPromiseHours$Reader;", .instanceMethod yX1_hasCopy, .initialized RX1, .selects RX1 yX1_hasCopy yX1_hasCopy, .code yX1_hasCopy cX1_hasCopy 2 (some .boolean), .fieldLink RX1 19 "PromiseHours$Reader" "copies" "[I", .static yX2_bit, .initialized RX2, .code yX2_bit cX2_bit 1 (some .int)] ++ wsX00 ++ wsX10)
def wsX0_readersWithUse_r1 : List Cond := [Cond.fieldLink RX0 22 "PromiseHours$House" "readers" "[LPromiseHours$Reader;", Cond.methodLink RX0 111 yX0_canUse, Cond.instanceMethod yX0_canUse, Cond.selects RX0 yX0_canUse yX0_canUse, Cond.initialized RX0, Cond.code yX0_canUse cX0_canUse 3 (some .boolean), Cond.instanceMethod yX1_hasCopy, Cond.initialized RX1, Cond.selects RX1 yX1_hasCopy yX1_hasCopy, Cond.code yX1_hasCopy cX1_hasCopy 2 (some .boolean), Cond.fieldLink RX1 19 "PromiseHours$Reader" "copies" "[I", Cond.methodLink RX0 91 yX0_isOver, Cond.instanceMethod yX0_isOver, Cond.selects RX0 yX0_isOver yX0_isOver, Cond.code yX0_isOver cX0_isOver 3 (some .boolean), Cond.fieldLink RX0 9 "PromiseHours$House" "tick" "I", Cond.fieldLink RX0 15 "PromiseHours$House" "rules" "[I", Cond.instanceMethod yX1_volumeTermFor, Cond.selects RX1 yX1_volumeTermFor yX1_volumeTermFor, Cond.code yX1_volumeTermFor cX1_volumeTermFor 2 (some .int), Cond.fieldLink RX1 29 "PromiseHours$Reader" "volumeTerms" "[I", Cond.static yX2_volumeOf, Cond.initialized RX2, Cond.code yX2_volumeOf cX2_volumeOf 1 (some .int)]
def wsX0_readersWithUse_r2 : List Cond := [Cond.static yX2_bit, Cond.code yX2_bit cX2_bit 1 (some .int)]
def wsX0_readersWithUse : List Cond := .code yX0_readersWithUse cX0_readersWithUse 4 (some .int) :: ((wsX0_readersWithUse_r1 ++ wsX0_readersWithUse_r2) ++ wsX00 ++ wsX10)
def wsX1_becomeLike : List Cond := .code yX1_becomeLike cX1_becomeLike 2 none :: ([.fieldLink RX1 9 "PromiseHours$Reader" "isThere" "Z", .fieldLink RX1 15 "PromiseHours$Reader" "skew" "I", .fieldLink RX1 19 "PromiseHours$Reader" "copies" "[I", .fieldLink RX1 23 "PromiseHours$Reader" "terms" "[I", .fieldLink RX1 26 "PromiseHours$Reader" "promises" "[I", .fieldLink RX1 29 "PromiseHours$Reader" "volumeTerms" "[I", .fieldLink RX1 32 "PromiseHours$Reader" "lists" "[I", .fieldLink RX1 35 "PromiseHours$Reader" "lastVersion" "I", .fieldLink RX1 38 "PromiseHours$Reader" "timesUsed" "I", .fieldLink RX1 41 "PromiseHours$Reader" "timesAsked" "I", .fieldLink RX1 44 "PromiseHours$Reader" "timesNothing" "I", .fieldLink RX1 47 "PromiseHours$Reader" "letters" "I", .fieldLink RX1 50 "PromiseHours$Reader" "copiesLost" "I", .static yX2_copyRow, .initialized RX2, .code yX2_copyRow cX2_copyRow 2 none, .methodLink RX2 185 Lib.Math.min.name, .static Lib.Math.min.name, .initialized "java/lang/Math", .code Lib.Math.min.name Lib.Math.min.code 2 (some .int), .methodLink RX2 190 arraycopyName, .native arraycopyName, .static arraycopyName, .initialized "java/lang/System"] ++ wsX10)
def wsX0_becomeLike_r1 : List Cond := [Cond.fieldLink RX0 9 "PromiseHours$House" "tick" "I", Cond.fieldLink RX0 15 "PromiseHours$House" "rules" "[I", Cond.fieldLink RX0 22 "PromiseHours$House" "readers" "[LPromiseHours$Reader;", Cond.fieldLink RX0 26 "PromiseHours$House" "versions" "[I", Cond.fieldLink RX0 29 "PromiseHours$House" "ways" "[I", Cond.fieldLink RX0 32 "PromiseHours$House" "line" "[I", Cond.fieldLink RX0 35 "PromiseHours$House" "lineLength" "I", Cond.fieldLink RX0 38 "PromiseHours$House" "causes" "[I", Cond.fieldLink RX0 41 "PromiseHours$House" "causeCount" "I", Cond.fieldLink RX0 44 "PromiseHours$House" "waitedFor" "[I", Cond.fieldLink RX0 47 "PromiseHours$House" "waitedCount" "I", Cond.fieldLink RX0 50 "PromiseHours$House" "staleReads" "I", Cond.fieldLink RX0 53 "PromiseHours$House" "writesTold" "I", Cond.fieldLink RX0 56 "PromiseHours$House" "writesDone" "I", Cond.fieldLink RX0 59 "PromiseHours$House" "lettersSent" "I", Cond.fieldLink RX0 62 "PromiseHours$House" "timesListed" "I", Cond.fieldLink RX0 65 "PromiseHours$House" "timesRenewed" "I", Cond.static yX2_copyRow, Cond.initialized RX2, Cond.code yX2_copyRow cX2_copyRow 2 none, Cond.methodLink RX2 185 Lib.Math.min.name, Cond.static Lib.Math.min.name, Cond.initialized "java/lang/Math", Cond.code Lib.Math.min.name Lib.Math.min.code 2 (some .int)]
def wsX0_becomeLike_r2 : List Cond := [Cond.methodLink RX2 190 arraycopyName, Cond.native arraycopyName, Cond.static arraycopyName, Cond.initialized "java/lang/System", Cond.instanceMethod yX1_becomeLike, Cond.initialized RX1, Cond.selects RX1 yX1_becomeLike yX1_becomeLike, Cond.code yX1_becomeLike cX1_becomeLike 2 none, Cond.fieldLink RX1 9 "PromiseHours$Reader" "isThere" "Z", Cond.fieldLink RX1 15 "PromiseHours$Reader" "skew" "I", Cond.fieldLink RX1 19 "PromiseHours$Reader" "copies" "[I", Cond.fieldLink RX1 23 "PromiseHours$Reader" "terms" "[I", Cond.fieldLink RX1 26 "PromiseHours$Reader" "promises" "[I", Cond.fieldLink RX1 29 "PromiseHours$Reader" "volumeTerms" "[I", Cond.fieldLink RX1 32 "PromiseHours$Reader" "lists" "[I", Cond.fieldLink RX1 35 "PromiseHours$Reader" "lastVersion" "I", Cond.fieldLink RX1 38 "PromiseHours$Reader" "timesUsed" "I", Cond.fieldLink RX1 41 "PromiseHours$Reader" "timesAsked" "I", Cond.fieldLink RX1 44 "PromiseHours$Reader" "timesNothing" "I", Cond.fieldLink RX1 47 "PromiseHours$Reader" "letters" "I", Cond.fieldLink RX1 50 "PromiseHours$Reader" "copiesLost" "I"]
def wsX0_becomeLike : List Cond := .code yX0_becomeLike cX0_becomeLike 3 none :: ((wsX0_becomeLike_r1 ++ wsX0_becomeLike_r2) ++ wsX00 ++ wsX10)
def wsX2_init_r1 : List Cond := [Cond.methodLink RX2 1 objectInit, Cond.instanceMethod objectInit, Cond.code objectInit ⟨#[0xb1]⟩ 1 none, Cond.classLink RX2 7 RX0, Cond.instantiable RX0 17, Cond.initialized RX0, Cond.fieldLink RX2 10 "PromiseHours" "house" "LPromiseHours$House;", Cond.fieldLink RX2 16 "PromiseHours" "images" "[LPromiseHours$House;", Cond.fieldLink RX2 20 "PromiseHours" "keptImages" "I", Cond.instanceMethod yX0_init, Cond.code yX0_init cX0_init 1 none, Cond.methodLink RX0 3 objectInit, Cond.fieldLink RX0 9 "PromiseHours$House" "tick" "I", Cond.arrayClass .int, Cond.fieldLink RX0 15 "PromiseHours$House" "rules" "[I", Cond.classLink RX0 19 RX1, Cond.instantiable RX1 13, Cond.initialized RX1, Cond.fieldLink RX0 22 "PromiseHours$House" "readers" "[LPromiseHours$Reader;", Cond.fieldLink RX0 26 "PromiseHours$House" "versions" "[I", Cond.fieldLink RX0 29 "PromiseHours$House" "ways" "[I", Cond.fieldLink RX0 32 "PromiseHours$House" "line" "[I", Cond.fieldLink RX0 35 "PromiseHours$House" "lineLength" "I", Cond.fieldLink RX0 38 "PromiseHours$House" "causes" "[I"]
def wsX2_init_r2 : List Cond := [Cond.fieldLink RX0 41 "PromiseHours$House" "causeCount" "I", Cond.fieldLink RX0 44 "PromiseHours$House" "waitedFor" "[I", Cond.fieldLink RX0 47 "PromiseHours$House" "waitedCount" "I", Cond.fieldLink RX0 50 "PromiseHours$House" "staleReads" "I", Cond.fieldLink RX0 53 "PromiseHours$House" "writesTold" "I", Cond.fieldLink RX0 56 "PromiseHours$House" "writesDone" "I", Cond.fieldLink RX0 59 "PromiseHours$House" "lettersSent" "I", Cond.fieldLink RX0 62 "PromiseHours$House" "timesListed" "I", Cond.fieldLink RX0 65 "PromiseHours$House" "timesRenewed" "I", Cond.instanceMethod yX1_init, Cond.code yX1_init cX1_init 1 none, Cond.methodLink RX1 3 objectInit, Cond.fieldLink RX1 9 "PromiseHours$Reader" "isThere" "Z", Cond.fieldLink RX1 15 "PromiseHours$Reader" "skew" "I", Cond.fieldLink RX1 19 "PromiseHours$Reader" "copies" "[I", Cond.fieldLink RX1 23 "PromiseHours$Reader" "terms" "[I", Cond.fieldLink RX1 26 "PromiseHours$Reader" "promises" "[I", Cond.fieldLink RX1 29 "PromiseHours$Reader" "volumeTerms" "[I", Cond.fieldLink RX1 32 "PromiseHours$Reader" "lists" "[I", Cond.fieldLink RX1 35 "PromiseHours$Reader" "lastVersion" "I", Cond.fieldLink RX1 38 "PromiseHours$Reader" "timesUsed" "I", Cond.fieldLink RX1 41 "PromiseHours$Reader" "timesAsked" "I", Cond.fieldLink RX1 44 "PromiseHours$Reader" "timesNothing" "I", Cond.fieldLink RX1 47 "PromiseHours$Reader" "letters" "I"]
def wsX2_init_r3 : List Cond := [Cond.fieldLink RX1 50 "PromiseHours$Reader" "copiesLost" "I", Cond.methodLink RX1 53 yJ7_fill_53178, Cond.static yJ7_fill_53178, Cond.initialized RJ7, Cond.code yJ7_fill_53178 cJ7_fill_53178 4 none, Cond.static yX2_copyRow, Cond.initialized RX2, Cond.code yX2_copyRow cX2_copyRow 2 none, Cond.methodLink RX2 185 Lib.Math.min.name, Cond.static Lib.Math.min.name, Cond.initialized "java/lang/Math", Cond.code Lib.Math.min.name Lib.Math.min.code 2 (some .int), Cond.methodLink RX2 190 arraycopyName, Cond.native arraycopyName, Cond.static arraycopyName, Cond.initialized "java/lang/System", Cond.methodLink RX0 75 yJ7_fill_53178]
def wsX2_init : List Cond := .code yX2_init cX2_init 1 none :: ((wsX2_init_r1 ++ (wsX2_init_r2 ++ wsX2_init_r3)) ++ wsX00 ++ wsX20 ++ wsX10)
def wsX2_rule : List Cond := .code yX2_rule cX2_rule 4 (some .int) :: ([.fieldLink RX2 24 "PromiseHours" "LEAST_RULES" "[I", .fieldLink RX2 28 "PromiseHours" "GREATEST_RULES" "[I", .fieldLink RX2 10 "PromiseHours" "house" "LPromiseHours$House;"] ++ wsX20 ++ wsX00)
def wsX2_isReader : List Cond := .code yX2_isReader cX2_isReader 1 (some .boolean) :: ([])
def wsX2_skew : List Cond := .code yX2_skew cX2_skew 3 (some .int) :: ([.fieldLink RX2 10 "PromiseHours" "house" "LPromiseHours$House;", .methodLink RX2 34 yX2_isReader, .static yX2_isReader, .initialized RX2, .code yX2_isReader cX2_isReader 1 (some .boolean), .instanceMethod yX0_countSkewedBeyondDoubt, .initialized RX0, .selects RX0 yX0_countSkewedBeyondDoubt yX0_countSkewedBeyondDoubt, .code yX0_countSkewedBeyondDoubt cX0_countSkewedBeyondDoubt 3 (some .int), .fieldLink RX0 22 "PromiseHours$House" "readers" "[LPromiseHours$Reader;", .methodLink RX0 102 Lib.Math.abs.name, .static Lib.Math.abs.name, .initialized "java/lang/Math", .code Lib.Math.abs.name Lib.Math.abs.code 1 (some .int), .fieldLink RX0 15 "PromiseHours$House" "rules" "[I", .static yX2_bit, .code yX2_bit cX2_bit 1 (some .int)] ++ wsX20 ++ wsX00 ++ wsX10)
def wsX2_there_r1 : List Cond := [Cond.fieldLink RX2 10 "PromiseHours" "house" "LPromiseHours$House;", Cond.methodLink RX2 34 yX2_isReader, Cond.static yX2_isReader, Cond.initialized RX2, Cond.code yX2_isReader cX2_isReader 1 (some .boolean), Cond.instanceMethod yX0_settleAll, Cond.initialized RX0, Cond.selects RX0 yX0_settleAll yX0_settleAll, Cond.code yX0_settleAll cX0_settleAll 5 (some .int), Cond.fieldLink RX0 35 "PromiseHours$House" "lineLength" "I", Cond.fieldLink RX0 32 "PromiseHours$House" "line" "[I", Cond.methodLink RX0 181 yX0_settle, Cond.instanceMethod yX0_settle, Cond.selects RX0 yX0_settle yX0_settle, Cond.code yX0_settle cX0_settle 3 (some .boolean), Cond.fieldLink RX0 22 "PromiseHours$House" "readers" "[LPromiseHours$Reader;", Cond.fieldLink RX0 26 "PromiseHours$House" "versions" "[I", Cond.fieldLink RX0 29 "PromiseHours$House" "ways" "[I", Cond.fieldLink RX0 56 "PromiseHours$House" "writesDone" "I", Cond.methodLink RX0 193 yX0_isHolder, Cond.instanceMethod yX0_isHolder, Cond.selects RX0 yX0_isHolder yX0_isHolder, Cond.code yX0_isHolder cX0_isHolder 3 (some .boolean), Cond.fieldLink RX0 9 "PromiseHours$House" "tick" "I"]
def wsX2_there_r2 : List Cond := [Cond.methodLink RX0 196 yX0_settleHolder, Cond.instanceMethod yX0_settleHolder, Cond.selects RX0 yX0_settleHolder yX0_settleHolder, Cond.code yX0_settleHolder cX0_settleHolder 3 none, Cond.instanceMethod yX1_volumeTermFor, Cond.initialized RX1, Cond.selects RX1 yX1_volumeTermFor yX1_volumeTermFor, Cond.code yX1_volumeTermFor cX1_volumeTermFor 2 (some .int), Cond.fieldLink RX1 29 "PromiseHours$Reader" "volumeTerms" "[I", Cond.static yX2_volumeOf, Cond.code yX2_volumeOf cX2_volumeOf 1 (some .int), Cond.methodLink RX0 202 yX0_putOnList, Cond.instanceMethod yX0_putOnList, Cond.selects RX0 yX0_putOnList yX0_putOnList, Cond.code yX0_putOnList cX0_putOnList 4 none, Cond.fieldLink RX0 62 "PromiseHours$House" "timesListed" "I", Cond.static yX2_isInSet, Cond.code yX2_isInSet cX2_isInSet 2 (some .boolean), Cond.methodLink RX0 205 yX0_sendLetter, Cond.instanceMethod yX0_sendLetter, Cond.selects RX0 yX0_sendLetter yX0_sendLetter, Cond.code yX0_sendLetter cX0_sendLetter 3 none, Cond.fieldLink RX0 59 "PromiseHours$House" "lettersSent" "I", Cond.instanceMethod yX1_dropCopy]
def wsX2_there_r3 : List Cond := [Cond.selects RX1 yX1_dropCopy yX1_dropCopy, Cond.code yX1_dropCopy cX1_dropCopy 2 none, Cond.methodLink RX1 59 yX1_takeCopy, Cond.instanceMethod yX1_takeCopy, Cond.selects RX1 yX1_takeCopy yX1_takeCopy, Cond.code yX1_takeCopy cX1_takeCopy 4 none, Cond.fieldLink RX1 19 "PromiseHours$Reader" "copies" "[I", Cond.fieldLink RX1 23 "PromiseHours$Reader" "terms" "[I", Cond.fieldLink RX1 26 "PromiseHours$Reader" "promises" "[I", Cond.methodLink RX0 199 yX0_holdersOf, Cond.instanceMethod yX0_holdersOf, Cond.selects RX0 yX0_holdersOf yX0_holdersOf, Cond.code yX0_holdersOf cX0_holdersOf 4 (some .int), Cond.static yX2_bit, Cond.code yX2_bit cX2_bit 1 (some .int)]
def wsX2_there : List Cond := .code yX2_there cX2_there 5 (some .int) :: ((wsX2_there_r1 ++ (wsX2_there_r2 ++ wsX2_there_r3)) ++ wsX20 ++ wsX00 ++ wsX10)
def wsX2_isThing : List Cond := .code yX2_isThing cX2_isThing 1 (some .boolean) :: ([])
def wsX2_read_r1 : List Cond := [Cond.fieldLink RX2 10 "PromiseHours" "house" "LPromiseHours$House;", Cond.methodLink RX2 34 yX2_isReader, Cond.static yX2_isReader, Cond.initialized RX2, Cond.code yX2_isReader cX2_isReader 1 (some .boolean), Cond.methodLink RX2 58 yX2_isThing, Cond.static yX2_isThing, Cond.code yX2_isThing cX2_isThing 1 (some .boolean), Cond.instanceMethod yX0_readBy, Cond.initialized RX0, Cond.selects RX0 yX0_readBy yX0_readBy, Cond.code yX0_readBy cX0_readBy 3 (some .int), Cond.methodLink RX0 111 yX0_canUse, Cond.instanceMethod yX0_canUse, Cond.selects RX0 yX0_canUse yX0_canUse, Cond.code yX0_canUse cX0_canUse 3 (some .boolean), Cond.instanceMethod yX1_hasCopy, Cond.initialized RX1, Cond.selects RX1 yX1_hasCopy yX1_hasCopy, Cond.code yX1_hasCopy cX1_hasCopy 2 (some .boolean), Cond.fieldLink RX1 19 "PromiseHours$Reader" "copies" "[I", Cond.methodLink RX0 91 yX0_isOver, Cond.instanceMethod yX0_isOver, Cond.selects RX0 yX0_isOver yX0_isOver]
def wsX2_read_r2 : List Cond := [Cond.code yX0_isOver cX0_isOver 3 (some .boolean), Cond.fieldLink RX0 9 "PromiseHours$House" "tick" "I", Cond.fieldLink RX0 15 "PromiseHours$House" "rules" "[I", Cond.instanceMethod yX1_volumeTermFor, Cond.selects RX1 yX1_volumeTermFor yX1_volumeTermFor, Cond.code yX1_volumeTermFor cX1_volumeTermFor 2 (some .int), Cond.fieldLink RX1 29 "PromiseHours$Reader" "volumeTerms" "[I", Cond.static yX2_volumeOf, Cond.code yX2_volumeOf cX2_volumeOf 1 (some .int), Cond.methodLink RX0 114 yX0_useCopy, Cond.instanceMethod yX0_useCopy, Cond.selects RX0 yX0_useCopy yX0_useCopy, Cond.code yX0_useCopy cX0_useCopy 3 (some .int), Cond.fieldLink RX0 26 "PromiseHours$House" "versions" "[I", Cond.fieldLink RX0 50 "PromiseHours$House" "staleReads" "I", Cond.methodLink RX0 118 yX0_noteCauses, Cond.instanceMethod yX0_noteCauses, Cond.selects RX0 yX0_noteCauses yX0_noteCauses, Cond.code yX0_noteCauses cX0_noteCauses 3 none, Cond.fieldLink RX0 41 "PromiseHours$House" "causeCount" "I", Cond.methodLink RX0 141 yX0_addCauseIf, Cond.instanceMethod yX0_addCauseIf, Cond.selects RX0 yX0_addCauseIf yX0_addCauseIf, Cond.code yX0_addCauseIf cX0_addCauseIf 3 none]
def wsX2_read_r3 : List Cond := [Cond.fieldLink RX0 38 "PromiseHours$House" "causes" "[I", Cond.methodLink RX0 129 yX0_askHouse, Cond.instanceMethod yX0_askHouse, Cond.selects RX0 yX0_askHouse yX0_askHouse, Cond.code yX0_askHouse cX0_askHouse 4 (some .int), Cond.methodLink RX0 151 yX0_renew, Cond.instanceMethod yX0_renew, Cond.selects RX0 yX0_renew yX0_renew, Cond.code yX0_renew cX0_renew 3 none, Cond.fieldLink RX0 65 "PromiseHours$House" "timesRenewed" "I", Cond.methodLink RX0 164 yX0_dropByList, Cond.instanceMethod yX0_dropByList, Cond.selects RX0 yX0_dropByList yX0_dropByList, Cond.code yX0_dropByList cX0_dropByList 6 none, Cond.static yX2_isInSet, Cond.code yX2_isInSet cX2_isInSet 2 (some .boolean), Cond.static yX2_bit, Cond.code yX2_bit cX2_bit 1 (some .int), Cond.instanceMethod yX1_dropCopy, Cond.selects RX1 yX1_dropCopy yX1_dropCopy, Cond.code yX1_dropCopy cX1_dropCopy 2 none, Cond.methodLink RX1 59 yX1_takeCopy, Cond.instanceMethod yX1_takeCopy, Cond.selects RX1 yX1_takeCopy yX1_takeCopy]
def wsX2_read_r4 : List Cond := [Cond.code yX1_takeCopy cX1_takeCopy 4 none, Cond.fieldLink RX1 23 "PromiseHours$Reader" "terms" "[I", Cond.fieldLink RX1 26 "PromiseHours$Reader" "promises" "[I", Cond.methodLink RX0 154 yX0_isWaiting, Cond.instanceMethod yX0_isWaiting, Cond.selects RX0 yX0_isWaiting yX0_isWaiting, Cond.code yX0_isWaiting cX0_isWaiting 2 (some .boolean), Cond.fieldLink RX0 29 "PromiseHours$House" "ways" "[I"]
def wsX2_read : List Cond := .code yX2_read cX2_read 3 (some .int) :: ((wsX2_read_r1 ++ (wsX2_read_r2 ++ (wsX2_read_r3 ++ wsX2_read_r4))) ++ wsX20 ++ wsX00 ++ wsX10)
def wsX2_write_r1 : List Cond := [Cond.fieldLink RX2 10 "PromiseHours" "house" "LPromiseHours$House;", Cond.methodLink RX2 58 yX2_isThing, Cond.static yX2_isThing, Cond.initialized RX2, Cond.code yX2_isThing cX2_isThing 1 (some .boolean), Cond.instanceMethod yX0_isWaiting, Cond.initialized RX0, Cond.selects RX0 yX0_isWaiting yX0_isWaiting, Cond.code yX0_isWaiting cX0_isWaiting 2 (some .boolean), Cond.fieldLink RX0 29 "PromiseHours$House" "ways" "[I", Cond.instanceMethod yX0_tellWrite, Cond.selects RX0 yX0_tellWrite yX0_tellWrite, Cond.code yX0_tellWrite cX0_tellWrite 4 (some .int), Cond.fieldLink RX0 53 "PromiseHours$House" "writesTold" "I", Cond.fieldLink RX0 9 "PromiseHours$House" "tick" "I", Cond.methodLink RX0 181 yX0_settle, Cond.instanceMethod yX0_settle, Cond.selects RX0 yX0_settle yX0_settle, Cond.code yX0_settle cX0_settle 3 (some .boolean), Cond.fieldLink RX0 22 "PromiseHours$House" "readers" "[LPromiseHours$Reader;", Cond.fieldLink RX0 26 "PromiseHours$House" "versions" "[I", Cond.fieldLink RX0 56 "PromiseHours$House" "writesDone" "I", Cond.methodLink RX0 193 yX0_isHolder, Cond.instanceMethod yX0_isHolder]
def wsX2_write_r2 : List Cond := [Cond.selects RX0 yX0_isHolder yX0_isHolder, Cond.code yX0_isHolder cX0_isHolder 3 (some .boolean), Cond.methodLink RX0 196 yX0_settleHolder, Cond.instanceMethod yX0_settleHolder, Cond.selects RX0 yX0_settleHolder yX0_settleHolder, Cond.code yX0_settleHolder cX0_settleHolder 3 none, Cond.instanceMethod yX1_volumeTermFor, Cond.initialized RX1, Cond.selects RX1 yX1_volumeTermFor yX1_volumeTermFor, Cond.code yX1_volumeTermFor cX1_volumeTermFor 2 (some .int), Cond.fieldLink RX1 29 "PromiseHours$Reader" "volumeTerms" "[I", Cond.static yX2_volumeOf, Cond.code yX2_volumeOf cX2_volumeOf 1 (some .int), Cond.methodLink RX0 202 yX0_putOnList, Cond.instanceMethod yX0_putOnList, Cond.selects RX0 yX0_putOnList yX0_putOnList, Cond.code yX0_putOnList cX0_putOnList 4 none, Cond.fieldLink RX0 62 "PromiseHours$House" "timesListed" "I", Cond.static yX2_isInSet, Cond.code yX2_isInSet cX2_isInSet 2 (some .boolean), Cond.methodLink RX0 205 yX0_sendLetter, Cond.instanceMethod yX0_sendLetter, Cond.selects RX0 yX0_sendLetter yX0_sendLetter, Cond.code yX0_sendLetter cX0_sendLetter 3 none]
def wsX2_write_r3 : List Cond := [Cond.fieldLink RX0 59 "PromiseHours$House" "lettersSent" "I", Cond.instanceMethod yX1_dropCopy, Cond.selects RX1 yX1_dropCopy yX1_dropCopy, Cond.code yX1_dropCopy cX1_dropCopy 2 none, Cond.methodLink RX1 59 yX1_takeCopy, Cond.instanceMethod yX1_takeCopy, Cond.selects RX1 yX1_takeCopy yX1_takeCopy, Cond.code yX1_takeCopy cX1_takeCopy 4 none, Cond.fieldLink RX1 19 "PromiseHours$Reader" "copies" "[I", Cond.fieldLink RX1 23 "PromiseHours$Reader" "terms" "[I", Cond.fieldLink RX1 26 "PromiseHours$Reader" "promises" "[I", Cond.methodLink RX0 199 yX0_holdersOf, Cond.instanceMethod yX0_holdersOf, Cond.selects RX0 yX0_holdersOf yX0_holdersOf, Cond.code yX0_holdersOf cX0_holdersOf 4 (some .int), Cond.static yX2_bit, Cond.code yX2_bit cX2_bit 1 (some .int), Cond.methodLink RX0 184 yX0_noteWaitedFor, Cond.instanceMethod yX0_noteWaitedFor, Cond.selects RX0 yX0_noteWaitedFor yX0_noteWaitedFor, Cond.code yX0_noteWaitedFor cX0_noteWaitedFor 3 none, Cond.fieldLink RX0 47 "PromiseHours$House" "waitedCount" "I", Cond.methodLink RX0 218 yX0_insertWaitedFor, Cond.instanceMethod yX0_insertWaitedFor]
def wsX2_write_r4 : List Cond := [Cond.selects RX0 yX0_insertWaitedFor yX0_insertWaitedFor, Cond.code yX0_insertWaitedFor cX0_insertWaitedFor 5 none, Cond.fieldLink RX0 44 "PromiseHours$House" "waitedFor" "[I", Cond.instanceMethod yX1_holdsUntil, Cond.selects RX1 yX1_holdsUntil yX1_holdsUntil, Cond.code yX1_holdsUntil cX1_holdsUntil 2 (some .int), Cond.methodLink RX1 70 Lib.Math.min.name, Cond.static Lib.Math.min.name, Cond.initialized "java/lang/Math", Cond.code Lib.Math.min.name Lib.Math.min.code 2 (some .int), Cond.methodLink RX1 67 yX1_volumeTermFor, Cond.methodLink RX0 187 yX0_joinLine, Cond.instanceMethod yX0_joinLine, Cond.selects RX0 yX0_joinLine yX0_joinLine, Cond.code yX0_joinLine cX0_joinLine 2 none, Cond.fieldLink RX0 35 "PromiseHours$House" "lineLength" "I", Cond.fieldLink RX0 32 "PromiseHours$House" "line" "[I", Cond.methodLink RX0 190 yX0_dueOf, Cond.instanceMethod yX0_dueOf, Cond.selects RX0 yX0_dueOf yX0_dueOf, Cond.code yX0_dueOf cX0_dueOf 4 (some .int), Cond.methodLink RX0 214 Lib.Math.max.name, Cond.static Lib.Math.max.name, Cond.code Lib.Math.max.name Lib.Math.max.code 2 (some .int)]
def wsX2_write : List Cond := .code yX2_write cX2_write 3 (some .int) :: ((wsX2_write_r1 ++ (wsX2_write_r2 ++ (wsX2_write_r3 ++ wsX2_write_r4))) ++ wsX20 ++ wsX00 ++ wsX10)
def wsX2_pass_r1 : List Cond := [Cond.fieldLink RX2 10 "PromiseHours" "house" "LPromiseHours$House;", Cond.instanceMethod yX0_settleAll, Cond.initialized RX0, Cond.selects RX0 yX0_settleAll yX0_settleAll, Cond.code yX0_settleAll cX0_settleAll 5 (some .int), Cond.fieldLink RX0 35 "PromiseHours$House" "lineLength" "I", Cond.fieldLink RX0 32 "PromiseHours$House" "line" "[I", Cond.methodLink RX0 181 yX0_settle, Cond.instanceMethod yX0_settle, Cond.selects RX0 yX0_settle yX0_settle, Cond.code yX0_settle cX0_settle 3 (some .boolean), Cond.fieldLink RX0 22 "PromiseHours$House" "readers" "[LPromiseHours$Reader;", Cond.fieldLink RX0 26 "PromiseHours$House" "versions" "[I", Cond.fieldLink RX0 29 "PromiseHours$House" "ways" "[I", Cond.fieldLink RX0 56 "PromiseHours$House" "writesDone" "I", Cond.methodLink RX0 193 yX0_isHolder, Cond.instanceMethod yX0_isHolder, Cond.selects RX0 yX0_isHolder yX0_isHolder, Cond.code yX0_isHolder cX0_isHolder 3 (some .boolean), Cond.fieldLink RX0 9 "PromiseHours$House" "tick" "I", Cond.methodLink RX0 196 yX0_settleHolder, Cond.instanceMethod yX0_settleHolder, Cond.selects RX0 yX0_settleHolder yX0_settleHolder, Cond.code yX0_settleHolder cX0_settleHolder 3 none]
def wsX2_pass_r2 : List Cond := [Cond.instanceMethod yX1_volumeTermFor, Cond.initialized RX1, Cond.selects RX1 yX1_volumeTermFor yX1_volumeTermFor, Cond.code yX1_volumeTermFor cX1_volumeTermFor 2 (some .int), Cond.fieldLink RX1 29 "PromiseHours$Reader" "volumeTerms" "[I", Cond.static yX2_volumeOf, Cond.initialized RX2, Cond.code yX2_volumeOf cX2_volumeOf 1 (some .int), Cond.methodLink RX0 202 yX0_putOnList, Cond.instanceMethod yX0_putOnList, Cond.selects RX0 yX0_putOnList yX0_putOnList, Cond.code yX0_putOnList cX0_putOnList 4 none, Cond.fieldLink RX0 62 "PromiseHours$House" "timesListed" "I", Cond.static yX2_isInSet, Cond.code yX2_isInSet cX2_isInSet 2 (some .boolean), Cond.methodLink RX0 205 yX0_sendLetter, Cond.instanceMethod yX0_sendLetter, Cond.selects RX0 yX0_sendLetter yX0_sendLetter, Cond.code yX0_sendLetter cX0_sendLetter 3 none, Cond.fieldLink RX0 59 "PromiseHours$House" "lettersSent" "I", Cond.instanceMethod yX1_dropCopy, Cond.selects RX1 yX1_dropCopy yX1_dropCopy, Cond.code yX1_dropCopy cX1_dropCopy 2 none, Cond.methodLink RX1 59 yX1_takeCopy]
def wsX2_pass_r3 : List Cond := [Cond.instanceMethod yX1_takeCopy, Cond.selects RX1 yX1_takeCopy yX1_takeCopy, Cond.code yX1_takeCopy cX1_takeCopy 4 none, Cond.fieldLink RX1 19 "PromiseHours$Reader" "copies" "[I", Cond.fieldLink RX1 23 "PromiseHours$Reader" "terms" "[I", Cond.fieldLink RX1 26 "PromiseHours$Reader" "promises" "[I", Cond.methodLink RX0 199 yX0_holdersOf, Cond.instanceMethod yX0_holdersOf, Cond.selects RX0 yX0_holdersOf yX0_holdersOf, Cond.code yX0_holdersOf cX0_holdersOf 4 (some .int), Cond.static yX2_bit, Cond.code yX2_bit cX2_bit 1 (some .int)]
def wsX2_pass : List Cond := .code yX2_pass cX2_pass 4 (some .int) :: ((wsX2_pass_r1 ++ (wsX2_pass_r2 ++ wsX2_pass_r3)) ++ wsX20 ++ wsX00 ++ wsX10)
def wsX2_cause : List Cond := .code yX2_cause cX2_cause 2 (some .int) :: ([.fieldLink RX2 10 "PromiseHours" "house" "LPromiseHours$House;"] ++ wsX20 ++ wsX00)
def wsX2_waited : List Cond := .code yX2_waited cX2_waited 2 (some .int) :: ([.fieldLink RX2 10 "PromiseHours" "house" "LPromiseHours$House;"] ++ wsX20 ++ wsX00)
def wsX2_thing_r1 : List Cond := [Cond.fieldLink RX2 10 "PromiseHours" "house" "LPromiseHours$House;", Cond.methodLink RX2 58 yX2_isThing, Cond.static yX2_isThing, Cond.initialized RX2, Cond.code yX2_isThing cX2_isThing 1 (some .boolean), Cond.instanceMethod yX0_isWaiting, Cond.initialized RX0, Cond.selects RX0 yX0_isWaiting yX0_isWaiting, Cond.code yX0_isWaiting cX0_isWaiting 2 (some .boolean), Cond.fieldLink RX0 29 "PromiseHours$House" "ways" "[I", Cond.methodLink RX2 90 yX2_bit, Cond.static yX2_bit, Cond.code yX2_bit cX2_bit 1 (some .int), Cond.instanceMethod yX0_dueOf, Cond.selects RX0 yX0_dueOf yX0_dueOf, Cond.code yX0_dueOf cX0_dueOf 4 (some .int), Cond.fieldLink RX0 9 "PromiseHours$House" "tick" "I", Cond.fieldLink RX0 22 "PromiseHours$House" "readers" "[LPromiseHours$Reader;", Cond.methodLink RX0 214 Lib.Math.max.name, Cond.static Lib.Math.max.name, Cond.initialized "java/lang/Math", Cond.code Lib.Math.max.name Lib.Math.max.code 2 (some .int), Cond.methodLink RX0 193 yX0_isHolder, Cond.instanceMethod yX0_isHolder]
def wsX2_thing_r2 : List Cond := [Cond.selects RX0 yX0_isHolder yX0_isHolder, Cond.code yX0_isHolder cX0_isHolder 3 (some .boolean), Cond.instanceMethod yX1_holdsUntil, Cond.initialized RX1, Cond.selects RX1 yX1_holdsUntil yX1_holdsUntil, Cond.code yX1_holdsUntil cX1_holdsUntil 2 (some .int), Cond.fieldLink RX1 26 "PromiseHours$Reader" "promises" "[I", Cond.methodLink RX1 70 Lib.Math.min.name, Cond.static Lib.Math.min.name, Cond.code Lib.Math.min.name Lib.Math.min.code 2 (some .int), Cond.methodLink RX1 67 yX1_volumeTermFor, Cond.instanceMethod yX1_volumeTermFor, Cond.selects RX1 yX1_volumeTermFor yX1_volumeTermFor, Cond.code yX1_volumeTermFor cX1_volumeTermFor 2 (some .int), Cond.fieldLink RX1 29 "PromiseHours$Reader" "volumeTerms" "[I", Cond.static yX2_volumeOf, Cond.code yX2_volumeOf cX2_volumeOf 1 (some .int), Cond.instanceMethod yX0_holdersOf, Cond.selects RX0 yX0_holdersOf yX0_holdersOf, Cond.code yX0_holdersOf cX0_holdersOf 4 (some .int), Cond.instanceMethod yX0_readersWithCopy, Cond.selects RX0 yX0_readersWithCopy yX0_readersWithCopy, Cond.code yX0_readersWithCopy cX0_readersWithCopy 4 (some .int), Cond.instanceMethod yX1_hasCopy]
def wsX2_thing_r3 : List Cond := [Cond.selects RX1 yX1_hasCopy yX1_hasCopy, Cond.code yX1_hasCopy cX1_hasCopy 2 (some .boolean), Cond.fieldLink RX1 19 "PromiseHours$Reader" "copies" "[I", Cond.instanceMethod yX0_readersWithUse, Cond.selects RX0 yX0_readersWithUse yX0_readersWithUse, Cond.code yX0_readersWithUse cX0_readersWithUse 4 (some .int), Cond.methodLink RX0 111 yX0_canUse, Cond.instanceMethod yX0_canUse, Cond.selects RX0 yX0_canUse yX0_canUse, Cond.code yX0_canUse cX0_canUse 3 (some .boolean), Cond.methodLink RX0 91 yX0_isOver, Cond.instanceMethod yX0_isOver, Cond.selects RX0 yX0_isOver yX0_isOver, Cond.code yX0_isOver cX0_isOver 3 (some .boolean), Cond.fieldLink RX0 15 "PromiseHours$House" "rules" "[I"]
def wsX2_thing : List Cond := .code yX2_thing cX2_thing 3 (some .int) :: ((wsX2_thing_r1 ++ (wsX2_thing_r2 ++ wsX2_thing_r3)) ++ wsX20 ++ wsX00 ++ wsX10)
def wsX2_copy_r1 : List Cond := [Cond.fieldLink RX2 10 "PromiseHours" "house" "LPromiseHours$House;", Cond.methodLink RX2 34 yX2_isReader, Cond.static yX2_isReader, Cond.initialized RX2, Cond.code yX2_isReader cX2_isReader 1 (some .boolean), Cond.methodLink RX2 58 yX2_isThing, Cond.static yX2_isThing, Cond.code yX2_isThing cX2_isThing 1 (some .boolean), Cond.instanceMethod yX0_canUse, Cond.initialized RX0, Cond.selects RX0 yX0_canUse yX0_canUse, Cond.code yX0_canUse cX0_canUse 3 (some .boolean), Cond.instanceMethod yX1_hasCopy, Cond.initialized RX1, Cond.selects RX1 yX1_hasCopy yX1_hasCopy, Cond.code yX1_hasCopy cX1_hasCopy 2 (some .boolean), Cond.fieldLink RX1 19 "PromiseHours$Reader" "copies" "[I", Cond.methodLink RX0 91 yX0_isOver, Cond.instanceMethod yX0_isOver, Cond.selects RX0 yX0_isOver yX0_isOver, Cond.code yX0_isOver cX0_isOver 3 (some .boolean), Cond.fieldLink RX0 9 "PromiseHours$House" "tick" "I", Cond.fieldLink RX0 15 "PromiseHours$House" "rules" "[I", Cond.instanceMethod yX1_volumeTermFor]
def wsX2_copy_r2 : List Cond := [Cond.selects RX1 yX1_volumeTermFor yX1_volumeTermFor, Cond.code yX1_volumeTermFor cX1_volumeTermFor 2 (some .int), Cond.fieldLink RX1 29 "PromiseHours$Reader" "volumeTerms" "[I", Cond.static yX2_volumeOf, Cond.code yX2_volumeOf cX2_volumeOf 1 (some .int), Cond.methodLink RX2 90 yX2_bit, Cond.static yX2_bit, Cond.code yX2_bit cX2_bit 1 (some .int)]
def wsX2_copy : List Cond := .code yX2_copy cX2_copy 5 (some .int) :: ((wsX2_copy_r1 ++ wsX2_copy_r2) ++ wsX20 ++ wsX00 ++ wsX10)
def wsX2_volume : List Cond := .code yX2_volume cX2_volume 5 (some .int) :: ([.fieldLink RX2 10 "PromiseHours" "house" "LPromiseHours$House;", .methodLink RX2 34 yX2_isReader, .static yX2_isReader, .initialized RX2, .code yX2_isReader cX2_isReader 1 (some .boolean), .instanceMethod yX0_isOver, .initialized RX0, .selects RX0 yX0_isOver yX0_isOver, .code yX0_isOver cX0_isOver 3 (some .boolean), .fieldLink RX0 9 "PromiseHours$House" "tick" "I", .fieldLink RX0 15 "PromiseHours$House" "rules" "[I", .methodLink RX2 90 yX2_bit, .static yX2_bit, .code yX2_bit cX2_bit 1 (some .int)] ++ wsX20 ++ wsX00 ++ wsX10)
def wsX2_reader : List Cond := .code yX2_reader cX2_reader 4 (some .int) :: ([.fieldLink RX2 10 "PromiseHours" "house" "LPromiseHours$House;", .methodLink RX2 34 yX2_isReader, .static yX2_isReader, .initialized RX2, .code yX2_isReader cX2_isReader 1 (some .boolean), .methodLink RX2 90 yX2_bit, .static yX2_bit, .code yX2_bit cX2_bit 1 (some .int)] ++ wsX20 ++ wsX00 ++ wsX10)
def wsX2_waiting : List Cond := .code yX2_waiting cX2_waiting 2 (some .int) :: ([.fieldLink RX2 10 "PromiseHours" "house" "LPromiseHours$House;"] ++ wsX20 ++ wsX00)
def wsX2_count : List Cond := .code yX2_count cX2_count 2 (some .int) :: ([.fieldLink RX2 10 "PromiseHours" "house" "LPromiseHours$House;", .fieldLink RX2 20 "PromiseHours" "keptImages" "I"] ++ wsX20 ++ wsX00)
def wsX2_isImage : List Cond := .code yX2_isImage cX2_isImage 1 (some .boolean) :: ([])
def wsX2_image_r1 : List Cond := [Cond.fieldLink RX2 16 "PromiseHours" "images" "[LPromiseHours$House;", Cond.fieldLink RX2 10 "PromiseHours" "house" "LPromiseHours$House;", Cond.fieldLink RX2 20 "PromiseHours" "keptImages" "I", Cond.methodLink RX2 174 yX2_isImage, Cond.static yX2_isImage, Cond.initialized RX2, Cond.code yX2_isImage cX2_isImage 1 (some .boolean), Cond.instanceMethod yX0_becomeLike, Cond.initialized RX0, Cond.selects RX0 yX0_becomeLike yX0_becomeLike, Cond.code yX0_becomeLike cX0_becomeLike 3 none, Cond.fieldLink RX0 9 "PromiseHours$House" "tick" "I", Cond.fieldLink RX0 15 "PromiseHours$House" "rules" "[I", Cond.fieldLink RX0 22 "PromiseHours$House" "readers" "[LPromiseHours$Reader;", Cond.fieldLink RX0 26 "PromiseHours$House" "versions" "[I", Cond.fieldLink RX0 29 "PromiseHours$House" "ways" "[I", Cond.fieldLink RX0 32 "PromiseHours$House" "line" "[I", Cond.fieldLink RX0 35 "PromiseHours$House" "lineLength" "I", Cond.fieldLink RX0 38 "PromiseHours$House" "causes" "[I", Cond.fieldLink RX0 41 "PromiseHours$House" "causeCount" "I", Cond.fieldLink RX0 44 "PromiseHours$House" "waitedFor" "[I", Cond.fieldLink RX0 47 "PromiseHours$House" "waitedCount" "I", Cond.fieldLink RX0 50 "PromiseHours$House" "staleReads" "I", Cond.fieldLink RX0 53 "PromiseHours$House" "writesTold" "I"]
def wsX2_image_r2 : List Cond := [Cond.fieldLink RX0 56 "PromiseHours$House" "writesDone" "I", Cond.fieldLink RX0 59 "PromiseHours$House" "lettersSent" "I", Cond.fieldLink RX0 62 "PromiseHours$House" "timesListed" "I", Cond.fieldLink RX0 65 "PromiseHours$House" "timesRenewed" "I", Cond.static yX2_copyRow, Cond.code yX2_copyRow cX2_copyRow 2 none, Cond.methodLink RX2 185 Lib.Math.min.name, Cond.static Lib.Math.min.name, Cond.initialized "java/lang/Math", Cond.code Lib.Math.min.name Lib.Math.min.code 2 (some .int), Cond.methodLink RX2 190 arraycopyName, Cond.native arraycopyName, Cond.static arraycopyName, Cond.initialized "java/lang/System", Cond.instanceMethod yX1_becomeLike, Cond.initialized RX1, Cond.selects RX1 yX1_becomeLike yX1_becomeLike, Cond.code yX1_becomeLike cX1_becomeLike 2 none, Cond.fieldLink RX1 9 "PromiseHours$Reader" "isThere" "Z", Cond.fieldLink RX1 15 "PromiseHours$Reader" "skew" "I", Cond.fieldLink RX1 19 "PromiseHours$Reader" "copies" "[I", Cond.fieldLink RX1 23 "PromiseHours$Reader" "terms" "[I", Cond.fieldLink RX1 26 "PromiseHours$Reader" "promises" "[I", Cond.fieldLink RX1 29 "PromiseHours$Reader" "volumeTerms" "[I"]
def wsX2_image_r3 : List Cond := [Cond.fieldLink RX1 32 "PromiseHours$Reader" "lists" "[I", Cond.fieldLink RX1 35 "PromiseHours$Reader" "lastVersion" "I", Cond.fieldLink RX1 38 "PromiseHours$Reader" "timesUsed" "I", Cond.fieldLink RX1 41 "PromiseHours$Reader" "timesAsked" "I", Cond.fieldLink RX1 44 "PromiseHours$Reader" "timesNothing" "I", Cond.fieldLink RX1 47 "PromiseHours$Reader" "letters" "I", Cond.fieldLink RX1 50 "PromiseHours$Reader" "copiesLost" "I"]
def wsX2_image : List Cond := .code yX2_image cX2_image 2 (some .int) :: ((wsX2_image_r1 ++ (wsX2_image_r2 ++ wsX2_image_r3)) ++ wsX20 ++ wsX00 ++ wsX10)
def wsX2_restore_r1 : List Cond := [Cond.fieldLink RX2 20 "PromiseHours" "keptImages" "I", Cond.fieldLink RX2 10 "PromiseHours" "house" "LPromiseHours$House;", Cond.fieldLink RX2 16 "PromiseHours" "images" "[LPromiseHours$House;", Cond.methodLink RX2 174 yX2_isImage, Cond.static yX2_isImage, Cond.initialized RX2, Cond.code yX2_isImage cX2_isImage 1 (some .boolean), Cond.methodLink RX2 181 yX2_isInSet, Cond.static yX2_isInSet, Cond.code yX2_isInSet cX2_isInSet 2 (some .boolean), Cond.instanceMethod yX0_becomeLike, Cond.initialized RX0, Cond.selects RX0 yX0_becomeLike yX0_becomeLike, Cond.code yX0_becomeLike cX0_becomeLike 3 none, Cond.fieldLink RX0 9 "PromiseHours$House" "tick" "I", Cond.fieldLink RX0 15 "PromiseHours$House" "rules" "[I", Cond.fieldLink RX0 22 "PromiseHours$House" "readers" "[LPromiseHours$Reader;", Cond.fieldLink RX0 26 "PromiseHours$House" "versions" "[I", Cond.fieldLink RX0 29 "PromiseHours$House" "ways" "[I", Cond.fieldLink RX0 32 "PromiseHours$House" "line" "[I", Cond.fieldLink RX0 35 "PromiseHours$House" "lineLength" "I", Cond.fieldLink RX0 38 "PromiseHours$House" "causes" "[I", Cond.fieldLink RX0 41 "PromiseHours$House" "causeCount" "I", Cond.fieldLink RX0 44 "PromiseHours$House" "waitedFor" "[I"]
def wsX2_restore_r2 : List Cond := [Cond.fieldLink RX0 47 "PromiseHours$House" "waitedCount" "I", Cond.fieldLink RX0 50 "PromiseHours$House" "staleReads" "I", Cond.fieldLink RX0 53 "PromiseHours$House" "writesTold" "I", Cond.fieldLink RX0 56 "PromiseHours$House" "writesDone" "I", Cond.fieldLink RX0 59 "PromiseHours$House" "lettersSent" "I", Cond.fieldLink RX0 62 "PromiseHours$House" "timesListed" "I", Cond.fieldLink RX0 65 "PromiseHours$House" "timesRenewed" "I", Cond.static yX2_copyRow, Cond.code yX2_copyRow cX2_copyRow 2 none, Cond.methodLink RX2 185 Lib.Math.min.name, Cond.static Lib.Math.min.name, Cond.initialized "java/lang/Math", Cond.code Lib.Math.min.name Lib.Math.min.code 2 (some .int), Cond.methodLink RX2 190 arraycopyName, Cond.native arraycopyName, Cond.static arraycopyName, Cond.initialized "java/lang/System", Cond.instanceMethod yX1_becomeLike, Cond.initialized RX1, Cond.selects RX1 yX1_becomeLike yX1_becomeLike, Cond.code yX1_becomeLike cX1_becomeLike 2 none, Cond.fieldLink RX1 9 "PromiseHours$Reader" "isThere" "Z", Cond.fieldLink RX1 15 "PromiseHours$Reader" "skew" "I", Cond.fieldLink RX1 19 "PromiseHours$Reader" "copies" "[I"]
def wsX2_restore_r3 : List Cond := [Cond.fieldLink RX1 23 "PromiseHours$Reader" "terms" "[I", Cond.fieldLink RX1 26 "PromiseHours$Reader" "promises" "[I", Cond.fieldLink RX1 29 "PromiseHours$Reader" "volumeTerms" "[I", Cond.fieldLink RX1 32 "PromiseHours$Reader" "lists" "[I", Cond.fieldLink RX1 35 "PromiseHours$Reader" "lastVersion" "I", Cond.fieldLink RX1 38 "PromiseHours$Reader" "timesUsed" "I", Cond.fieldLink RX1 41 "PromiseHours$Reader" "timesAsked" "I", Cond.fieldLink RX1 44 "PromiseHours$Reader" "timesNothing" "I", Cond.fieldLink RX1 47 "PromiseHours$Reader" "letters" "I", Cond.fieldLink RX1 50 "PromiseHours$Reader" "copiesLost" "I"]
def wsX2_restore : List Cond := .code yX2_restore cX2_restore 2 (some .int) :: ((wsX2_restore_r1 ++ (wsX2_restore_r2 ++ wsX2_restore_r3)) ++ wsX20 ++ wsX00 ++ wsX10)
def wsX3_said : List Cond := .code yX3_said cX3_said 2 (some .int) :: ([])
def wsX3_init : List Cond := .code yX3_init cX3_init 3 none :: ([.methodLink RX3 1 objectInit, .instanceMethod objectInit, .code objectInit ⟨#[0xb1]⟩ 1 none, .arrayClass .int, .fieldLink RX3 7 "PromiseHoursModel" "state" "[I", .fieldLink RX3 13 "PromiseHoursModel" "images" "[I", .arrayClass .boolean, .fieldLink RX3 16 "PromiseHoursModel" "isKept" "[Z", .methodLink RX3 20 yX3_said, .static yX3_said, .initialized RX3, .code yX3_said cX3_said 2 (some .int)] ++ wsX30)
def wsX3_in : List Cond := .code yX3_in cX3_in 3 (some .boolean) :: ([])
def wsX3_isReader : List Cond := .code yX3_isReader cX3_isReader 1 (some .boolean) :: ([.methodLink RX3 24 yX3_in, .static yX3_in, .initialized RX3, .code yX3_in cX3_in 3 (some .boolean)])
def wsX3_isThing : List Cond := .code yX3_isThing cX3_isThing 1 (some .boolean) :: ([.methodLink RX3 24 yX3_in, .static yX3_in, .initialized RX3, .code yX3_in cX3_in 3 (some .boolean)])
def wsX3_volumeAt : List Cond := .code yX3_volumeAt cX3_volumeAt 3 (some .int) :: ([])
def wsX3_thingAt : List Cond := .code yX3_thingAt cX3_thingAt 3 (some .int) :: ([])
def wsX3_rule : List Cond := .code yX3_rule cX3_rule 4 (some .int) :: ([.fieldLink RX3 7 "PromiseHoursModel" "state" "[I", .methodLink RX3 24 yX3_in, .static yX3_in, .initialized RX3, .code yX3_in cX3_in 3 (some .boolean)] ++ wsX30)
def wsX3_skew : List Cond := .code yX3_skew cX3_skew 5 (some .int) :: ([.fieldLink RX3 7 "PromiseHoursModel" "state" "[I", .methodLink RX3 28 yX3_isReader, .static yX3_isReader, .initialized RX3, .code yX3_isReader cX3_isReader 1 (some .boolean), .methodLink RX3 24 yX3_in, .static yX3_in, .code yX3_in cX3_in 3 (some .boolean)] ++ wsX30)
def wsX3_isOver : List Cond := .code yX3_isOver cX3_isOver 3 (some .boolean) :: ([.fieldLink RX3 7 "PromiseHoursModel" "state" "[I"] ++ wsX30)
def wsX3_canUse : List Cond := .code yX3_canUse cX3_canUse 3 (some .boolean) :: ([.fieldLink RX3 7 "PromiseHoursModel" "state" "[I", .methodLink RX3 32 yX3_thingAt, .static yX3_thingAt, .initialized RX3, .code yX3_thingAt cX3_thingAt 3 (some .int), .methodLink RX3 36 yX3_isOver, .instanceMethod yX3_isOver, .selects RX3 yX3_isOver yX3_isOver, .code yX3_isOver cX3_isOver 3 (some .boolean), .methodLink RX3 40 yX3_volumeAt, .static yX3_volumeAt, .code yX3_volumeAt cX3_volumeAt 3 (some .int)] ++ wsX30)
def wsX3_isHolder : List Cond := .code yX3_isHolder cX3_isHolder 3 (some .boolean) :: ([.fieldLink RX3 7 "PromiseHoursModel" "state" "[I", .methodLink RX3 32 yX3_thingAt, .static yX3_thingAt, .initialized RX3, .code yX3_thingAt cX3_thingAt 3 (some .int)] ++ wsX30)
def wsX3_clear : List Cond := .code yX3_clear cX3_clear 3 none :: ([.fieldLink RX3 7 "PromiseHoursModel" "state" "[I", .methodLink RX3 32 yX3_thingAt, .static yX3_thingAt, .initialized RX3, .code yX3_thingAt cX3_thingAt 3 (some .int)] ++ wsX30)
def wsX3_isSettled : List Cond := .code yX3_isSettled cX3_isSettled 5 (some .boolean) :: ([.fieldLink RX3 7 "PromiseHoursModel" "state" "[I", .methodLink RX3 43 yX3_isHolder, .instanceMethod yX3_isHolder, .selects RX3 yX3_isHolder yX3_isHolder, .initialized RX3, .code yX3_isHolder cX3_isHolder 3 (some .boolean), .methodLink RX3 32 yX3_thingAt, .static yX3_thingAt, .code yX3_thingAt cX3_thingAt 3 (some .int), .methodLink RX3 40 yX3_volumeAt, .static yX3_volumeAt, .code yX3_volumeAt cX3_volumeAt 3 (some .int), .methodLink RX3 20 yX3_said, .static yX3_said, .code yX3_said cX3_said 2 (some .int), .methodLink RX3 46 yX3_clear, .instanceMethod yX3_clear, .selects RX3 yX3_clear yX3_clear, .code yX3_clear cX3_clear 3 none] ++ wsX30)
def wsX3_settleAll : List Cond := .code yX3_settleAll cX3_settleAll 5 (some .int) :: ([.fieldLink RX3 7 "PromiseHoursModel" "state" "[I", .methodLink RX3 50 yX3_isSettled, .instanceMethod yX3_isSettled, .selects RX3 yX3_isSettled yX3_isSettled, .initialized RX3, .code yX3_isSettled cX3_isSettled 5 (some .boolean), .methodLink RX3 43 yX3_isHolder, .instanceMethod yX3_isHolder, .selects RX3 yX3_isHolder yX3_isHolder, .code yX3_isHolder cX3_isHolder 3 (some .boolean), .methodLink RX3 32 yX3_thingAt, .static yX3_thingAt, .code yX3_thingAt cX3_thingAt 3 (some .int), .methodLink RX3 40 yX3_volumeAt, .static yX3_volumeAt, .code yX3_volumeAt cX3_volumeAt 3 (some .int), .methodLink RX3 20 yX3_said, .static yX3_said, .code yX3_said cX3_said 2 (some .int), .methodLink RX3 46 yX3_clear, .instanceMethod yX3_clear, .selects RX3 yX3_clear yX3_clear, .code yX3_clear cX3_clear 3 none] ++ wsX30)
def wsX3_there_r1 : List Cond := [Cond.fieldLink RX3 7 "PromiseHoursModel" "state" "[I", Cond.methodLink RX3 28 yX3_isReader, Cond.static yX3_isReader, Cond.initialized RX3, Cond.code yX3_isReader cX3_isReader 1 (some .boolean), Cond.methodLink RX3 24 yX3_in, Cond.static yX3_in, Cond.code yX3_in cX3_in 3 (some .boolean), Cond.methodLink RX3 53 yX3_settleAll, Cond.instanceMethod yX3_settleAll, Cond.selects RX3 yX3_settleAll yX3_settleAll, Cond.code yX3_settleAll cX3_settleAll 5 (some .int), Cond.methodLink RX3 50 yX3_isSettled, Cond.instanceMethod yX3_isSettled, Cond.selects RX3 yX3_isSettled yX3_isSettled, Cond.code yX3_isSettled cX3_isSettled 5 (some .boolean), Cond.methodLink RX3 43 yX3_isHolder, Cond.instanceMethod yX3_isHolder, Cond.selects RX3 yX3_isHolder yX3_isHolder, Cond.code yX3_isHolder cX3_isHolder 3 (some .boolean), Cond.methodLink RX3 32 yX3_thingAt, Cond.static yX3_thingAt, Cond.code yX3_thingAt cX3_thingAt 3 (some .int), Cond.methodLink RX3 40 yX3_volumeAt]
def wsX3_there_r2 : List Cond := [Cond.static yX3_volumeAt, Cond.code yX3_volumeAt cX3_volumeAt 3 (some .int), Cond.methodLink RX3 20 yX3_said, Cond.static yX3_said, Cond.code yX3_said cX3_said 2 (some .int), Cond.methodLink RX3 46 yX3_clear, Cond.instanceMethod yX3_clear, Cond.selects RX3 yX3_clear yX3_clear, Cond.code yX3_clear cX3_clear 3 none]
def wsX3_there : List Cond := .code yX3_there cX3_there 4 (some .int) :: ((wsX3_there_r1 ++ wsX3_there_r2) ++ wsX30)
def wsX3_dueOf : List Cond := .code yX3_dueOf cX3_dueOf 6 (some .int) :: ([.fieldLink RX3 7 "PromiseHoursModel" "state" "[I", .methodLink RX3 32 yX3_thingAt, .static yX3_thingAt, .initialized RX3, .code yX3_thingAt cX3_thingAt 3 (some .int), .methodLink RX3 40 yX3_volumeAt, .static yX3_volumeAt, .code yX3_volumeAt cX3_volumeAt 3 (some .int)] ++ wsX30)
def wsX3_lesser : List Cond := .code yX3_lesser cX3_lesser 5 (some .int) :: ([.fieldLink RX3 7 "PromiseHoursModel" "state" "[I", .methodLink RX3 32 yX3_thingAt, .static yX3_thingAt, .initialized RX3, .code yX3_thingAt cX3_thingAt 3 (some .int), .methodLink RX3 40 yX3_volumeAt, .static yX3_volumeAt, .code yX3_volumeAt cX3_volumeAt 3 (some .int)] ++ wsX30)
def wsX3_layWaited : List Cond := .code yX3_layWaited cX3_layWaited 4 none :: ([.fieldLink RX3 7 "PromiseHoursModel" "state" "[I", .methodLink RX3 43 yX3_isHolder, .instanceMethod yX3_isHolder, .selects RX3 yX3_isHolder yX3_isHolder, .initialized RX3, .code yX3_isHolder cX3_isHolder 3 (some .boolean), .methodLink RX3 32 yX3_thingAt, .static yX3_thingAt, .code yX3_thingAt cX3_thingAt 3 (some .int), .methodLink RX3 57 yX3_lesser, .instanceMethod yX3_lesser, .selects RX3 yX3_lesser yX3_lesser, .code yX3_lesser cX3_lesser 5 (some .int), .methodLink RX3 40 yX3_volumeAt, .static yX3_volumeAt, .code yX3_volumeAt cX3_volumeAt 3 (some .int)] ++ wsX30)
def wsX3_write_r1 : List Cond := [Cond.fieldLink RX3 7 "PromiseHoursModel" "state" "[I", Cond.methodLink RX3 60 yX3_isThing, Cond.static yX3_isThing, Cond.initialized RX3, Cond.code yX3_isThing cX3_isThing 1 (some .boolean), Cond.methodLink RX3 24 yX3_in, Cond.static yX3_in, Cond.code yX3_in cX3_in 3 (some .boolean), Cond.methodLink RX3 50 yX3_isSettled, Cond.instanceMethod yX3_isSettled, Cond.selects RX3 yX3_isSettled yX3_isSettled, Cond.code yX3_isSettled cX3_isSettled 5 (some .boolean), Cond.methodLink RX3 43 yX3_isHolder, Cond.instanceMethod yX3_isHolder, Cond.selects RX3 yX3_isHolder yX3_isHolder, Cond.code yX3_isHolder cX3_isHolder 3 (some .boolean), Cond.methodLink RX3 32 yX3_thingAt, Cond.static yX3_thingAt, Cond.code yX3_thingAt cX3_thingAt 3 (some .int), Cond.methodLink RX3 40 yX3_volumeAt, Cond.static yX3_volumeAt, Cond.code yX3_volumeAt cX3_volumeAt 3 (some .int), Cond.methodLink RX3 20 yX3_said, Cond.static yX3_said]
def wsX3_write_r2 : List Cond := [Cond.code yX3_said cX3_said 2 (some .int), Cond.methodLink RX3 46 yX3_clear, Cond.instanceMethod yX3_clear, Cond.selects RX3 yX3_clear yX3_clear, Cond.code yX3_clear cX3_clear 3 none, Cond.methodLink RX3 63 yX3_layWaited, Cond.instanceMethod yX3_layWaited, Cond.selects RX3 yX3_layWaited yX3_layWaited, Cond.code yX3_layWaited cX3_layWaited 4 none, Cond.methodLink RX3 57 yX3_lesser, Cond.instanceMethod yX3_lesser, Cond.selects RX3 yX3_lesser yX3_lesser, Cond.code yX3_lesser cX3_lesser 5 (some .int), Cond.methodLink RX3 67 yX3_dueOf, Cond.instanceMethod yX3_dueOf, Cond.selects RX3 yX3_dueOf yX3_dueOf, Cond.code yX3_dueOf cX3_dueOf 6 (some .int)]
def wsX3_write : List Cond := .code yX3_write cX3_write 4 (some .int) :: ((wsX3_write_r1 ++ wsX3_write_r2) ++ wsX30)
def wsX3_pass_r1 : List Cond := [Cond.fieldLink RX3 7 "PromiseHoursModel" "state" "[I", Cond.methodLink RX3 24 yX3_in, Cond.static yX3_in, Cond.initialized RX3, Cond.code yX3_in cX3_in 3 (some .boolean), Cond.methodLink RX3 53 yX3_settleAll, Cond.instanceMethod yX3_settleAll, Cond.selects RX3 yX3_settleAll yX3_settleAll, Cond.code yX3_settleAll cX3_settleAll 5 (some .int), Cond.methodLink RX3 50 yX3_isSettled, Cond.instanceMethod yX3_isSettled, Cond.selects RX3 yX3_isSettled yX3_isSettled, Cond.code yX3_isSettled cX3_isSettled 5 (some .boolean), Cond.methodLink RX3 43 yX3_isHolder, Cond.instanceMethod yX3_isHolder, Cond.selects RX3 yX3_isHolder yX3_isHolder, Cond.code yX3_isHolder cX3_isHolder 3 (some .boolean), Cond.methodLink RX3 32 yX3_thingAt, Cond.static yX3_thingAt, Cond.code yX3_thingAt cX3_thingAt 3 (some .int), Cond.methodLink RX3 40 yX3_volumeAt, Cond.static yX3_volumeAt, Cond.code yX3_volumeAt cX3_volumeAt 3 (some .int), Cond.methodLink RX3 20 yX3_said]
def wsX3_pass_r2 : List Cond := [Cond.static yX3_said, Cond.code yX3_said cX3_said 2 (some .int), Cond.methodLink RX3 46 yX3_clear, Cond.instanceMethod yX3_clear, Cond.selects RX3 yX3_clear yX3_clear, Cond.code yX3_clear cX3_clear 3 none]
def wsX3_pass : List Cond := .code yX3_pass cX3_pass 4 (some .int) :: ((wsX3_pass_r1 ++ wsX3_pass_r2) ++ wsX30)
def wsX3_addCause : List Cond := .code yX3_addCause cX3_addCause 3 none :: ([.fieldLink RX3 7 "PromiseHoursModel" "state" "[I"] ++ wsX30)
def wsX3_renew : List Cond := .code yX3_renew cX3_renew 7 none :: ([.fieldLink RX3 7 "PromiseHoursModel" "state" "[I", .methodLink RX3 40 yX3_volumeAt, .static yX3_volumeAt, .initialized RX3, .code yX3_volumeAt cX3_volumeAt 3 (some .int), .methodLink RX3 20 yX3_said, .static yX3_said, .code yX3_said cX3_said 2 (some .int), .methodLink RX3 32 yX3_thingAt, .static yX3_thingAt, .code yX3_thingAt cX3_thingAt 3 (some .int), .methodLink RX3 46 yX3_clear, .instanceMethod yX3_clear, .selects RX3 yX3_clear yX3_clear, .code yX3_clear cX3_clear 3 none] ++ wsX30)
def wsX3_read_r1 : List Cond := [Cond.fieldLink RX3 7 "PromiseHoursModel" "state" "[I", Cond.methodLink RX3 28 yX3_isReader, Cond.static yX3_isReader, Cond.initialized RX3, Cond.code yX3_isReader cX3_isReader 1 (some .boolean), Cond.methodLink RX3 24 yX3_in, Cond.static yX3_in, Cond.code yX3_in cX3_in 3 (some .boolean), Cond.methodLink RX3 60 yX3_isThing, Cond.static yX3_isThing, Cond.code yX3_isThing cX3_isThing 1 (some .boolean), Cond.methodLink RX3 32 yX3_thingAt, Cond.static yX3_thingAt, Cond.code yX3_thingAt cX3_thingAt 3 (some .int), Cond.methodLink RX3 40 yX3_volumeAt, Cond.static yX3_volumeAt, Cond.code yX3_volumeAt cX3_volumeAt 3 (some .int), Cond.methodLink RX3 71 yX3_canUse, Cond.instanceMethod yX3_canUse, Cond.selects RX3 yX3_canUse yX3_canUse, Cond.code yX3_canUse cX3_canUse 3 (some .boolean), Cond.methodLink RX3 36 yX3_isOver, Cond.instanceMethod yX3_isOver, Cond.selects RX3 yX3_isOver yX3_isOver]
def wsX3_read_r2 : List Cond := [Cond.code yX3_isOver cX3_isOver 3 (some .boolean), Cond.methodLink RX3 20 yX3_said, Cond.static yX3_said, Cond.code yX3_said cX3_said 2 (some .int), Cond.methodLink RX3 74 yX3_addCause, Cond.instanceMethod yX3_addCause, Cond.selects RX3 yX3_addCause yX3_addCause, Cond.code yX3_addCause cX3_addCause 3 none, Cond.methodLink RX3 78 yX3_renew, Cond.instanceMethod yX3_renew, Cond.selects RX3 yX3_renew yX3_renew, Cond.code yX3_renew cX3_renew 7 none, Cond.methodLink RX3 46 yX3_clear, Cond.instanceMethod yX3_clear, Cond.selects RX3 yX3_clear yX3_clear, Cond.code yX3_clear cX3_clear 3 none]
def wsX3_read : List Cond := .code yX3_read cX3_read 6 (some .int) :: ((wsX3_read_r1 ++ wsX3_read_r2) ++ wsX30)
def wsX3_cause : List Cond := .code yX3_cause cX3_cause 2 (some .int) :: ([.fieldLink RX3 7 "PromiseHoursModel" "state" "[I", .methodLink RX3 24 yX3_in, .static yX3_in, .initialized RX3, .code yX3_in cX3_in 3 (some .boolean)] ++ wsX30)
def wsX3_waited : List Cond := .code yX3_waited cX3_waited 2 (some .int) :: ([.fieldLink RX3 7 "PromiseHoursModel" "state" "[I", .methodLink RX3 24 yX3_in, .static yX3_in, .initialized RX3, .code yX3_in cX3_in 3 (some .boolean)] ++ wsX30)
def wsX3_thing_r1 : List Cond := [Cond.fieldLink RX3 7 "PromiseHoursModel" "state" "[I", Cond.methodLink RX3 60 yX3_isThing, Cond.static yX3_isThing, Cond.initialized RX3, Cond.code yX3_isThing cX3_isThing 1 (some .boolean), Cond.methodLink RX3 24 yX3_in, Cond.static yX3_in, Cond.code yX3_in cX3_in 3 (some .boolean), Cond.methodLink RX3 67 yX3_dueOf, Cond.instanceMethod yX3_dueOf, Cond.selects RX3 yX3_dueOf yX3_dueOf, Cond.code yX3_dueOf cX3_dueOf 6 (some .int), Cond.methodLink RX3 32 yX3_thingAt, Cond.static yX3_thingAt, Cond.code yX3_thingAt cX3_thingAt 3 (some .int), Cond.methodLink RX3 40 yX3_volumeAt, Cond.static yX3_volumeAt, Cond.code yX3_volumeAt cX3_volumeAt 3 (some .int), Cond.methodLink RX3 43 yX3_isHolder, Cond.instanceMethod yX3_isHolder, Cond.selects RX3 yX3_isHolder yX3_isHolder, Cond.code yX3_isHolder cX3_isHolder 3 (some .boolean), Cond.methodLink RX3 71 yX3_canUse, Cond.instanceMethod yX3_canUse]
def wsX3_thing_r2 : List Cond := [Cond.selects RX3 yX3_canUse yX3_canUse, Cond.code yX3_canUse cX3_canUse 3 (some .boolean), Cond.methodLink RX3 36 yX3_isOver, Cond.instanceMethod yX3_isOver, Cond.selects RX3 yX3_isOver yX3_isOver, Cond.code yX3_isOver cX3_isOver 3 (some .boolean)]
def wsX3_thing : List Cond := .code yX3_thing cX3_thing 7 (some .int) :: ((wsX3_thing_r1 ++ wsX3_thing_r2) ++ wsX30)
def wsX3_copy_r1 : List Cond := [Cond.fieldLink RX3 7 "PromiseHoursModel" "state" "[I", Cond.methodLink RX3 28 yX3_isReader, Cond.static yX3_isReader, Cond.initialized RX3, Cond.code yX3_isReader cX3_isReader 1 (some .boolean), Cond.methodLink RX3 24 yX3_in, Cond.static yX3_in, Cond.code yX3_in cX3_in 3 (some .boolean), Cond.methodLink RX3 60 yX3_isThing, Cond.static yX3_isThing, Cond.code yX3_isThing cX3_isThing 1 (some .boolean), Cond.methodLink RX3 32 yX3_thingAt, Cond.static yX3_thingAt, Cond.code yX3_thingAt cX3_thingAt 3 (some .int), Cond.methodLink RX3 71 yX3_canUse, Cond.instanceMethod yX3_canUse, Cond.selects RX3 yX3_canUse yX3_canUse, Cond.code yX3_canUse cX3_canUse 3 (some .boolean), Cond.methodLink RX3 36 yX3_isOver, Cond.instanceMethod yX3_isOver, Cond.selects RX3 yX3_isOver yX3_isOver, Cond.code yX3_isOver cX3_isOver 3 (some .boolean), Cond.methodLink RX3 40 yX3_volumeAt, Cond.static yX3_volumeAt]
def wsX3_copy_r2 : List Cond := [Cond.code yX3_volumeAt cX3_volumeAt 3 (some .int)]
def wsX3_copy : List Cond := .code yX3_copy cX3_copy 4 (some .int) :: ((wsX3_copy_r1 ++ wsX3_copy_r2) ++ wsX30)
def wsX3_volume : List Cond := .code yX3_volume cX3_volume 5 (some .int) :: ([.fieldLink RX3 7 "PromiseHoursModel" "state" "[I", .methodLink RX3 28 yX3_isReader, .static yX3_isReader, .initialized RX3, .code yX3_isReader cX3_isReader 1 (some .boolean), .methodLink RX3 24 yX3_in, .static yX3_in, .code yX3_in cX3_in 3 (some .boolean), .methodLink RX3 36 yX3_isOver, .instanceMethod yX3_isOver, .selects RX3 yX3_isOver yX3_isOver, .code yX3_isOver cX3_isOver 3 (some .boolean)] ++ wsX30)
def wsX3_reader : List Cond := .code yX3_reader cX3_reader 3 (some .int) :: ([.fieldLink RX3 7 "PromiseHoursModel" "state" "[I", .methodLink RX3 28 yX3_isReader, .static yX3_isReader, .initialized RX3, .code yX3_isReader cX3_isReader 1 (some .boolean), .methodLink RX3 24 yX3_in, .static yX3_in, .code yX3_in cX3_in 3 (some .boolean), .methodLink RX3 20 yX3_said, .static yX3_said, .code yX3_said cX3_said 2 (some .int)] ++ wsX30)
def wsX3_waiting : List Cond := .code yX3_waiting cX3_waiting 2 (some .int) :: ([.fieldLink RX3 7 "PromiseHoursModel" "state" "[I", .methodLink RX3 24 yX3_in, .static yX3_in, .initialized RX3, .code yX3_in cX3_in 3 (some .boolean)] ++ wsX30)
def wsX3_count : List Cond := .code yX3_count cX3_count 2 (some .int) :: ([.fieldLink RX3 7 "PromiseHoursModel" "state" "[I", .fieldLink RX3 16 "PromiseHoursModel" "isKept" "[Z", .methodLink RX3 24 yX3_in, .static yX3_in, .initialized RX3, .code yX3_in cX3_in 3 (some .boolean)] ++ wsX30)
def wsX3_image : List Cond := .code yX3_image cX3_image 3 (some .int) :: ([.fieldLink RX3 13 "PromiseHoursModel" "images" "[I", .fieldLink RX3 7 "PromiseHoursModel" "state" "[I", .fieldLink RX3 16 "PromiseHoursModel" "isKept" "[Z", .methodLink RX3 24 yX3_in, .static yX3_in, .initialized RX3, .code yX3_in cX3_in 3 (some .boolean)] ++ wsX30)
def wsX3_restore : List Cond := .code yX3_restore cX3_restore 3 (some .int) :: ([.fieldLink RX3 16 "PromiseHoursModel" "isKept" "[Z", .fieldLink RX3 7 "PromiseHoursModel" "state" "[I", .fieldLink RX3 13 "PromiseHoursModel" "images" "[I", .methodLink RX3 24 yX3_in, .static yX3_in, .initialized RX3, .code yX3_in cX3_in 3 (some .boolean)] ++ wsX30)
def wsJ9_abs_0f7a4 : List Cond := .code yJ9_abs_0f7a4 cJ9_abs_0f7a4 1 (some .int) :: ([])
def wsJ9_max_7cf53 : List Cond := .code yJ9_max_7cf53 cJ9_max_7cf53 2 (some .int) :: ([])
def wsJ9_min_7cf53 : List Cond := .code yJ9_min_7cf53 cJ9_min_7cf53 2 (some .int) :: ([])
def wsL_law_r1 : List Cond := [Cond.classLink RL 7 RX2, Cond.instantiable RX2 3, Cond.initialized RX2, Cond.classLink RL 10 RX3, Cond.instantiable RX3 3, Cond.initialized RX3, Cond.methodLink RL 9 yX2_init, Cond.instanceMethod yX2_init, Cond.code yX2_init cX2_init 1 none, Cond.methodLink RX2 1 objectInit, Cond.instanceMethod objectInit, Cond.code objectInit ⟨#[0xb1]⟩ 1 none, Cond.classLink RX2 7 RX0, Cond.instantiable RX0 17, Cond.initialized RX0, Cond.fieldLink RX2 10 "PromiseHours" "house" "LPromiseHours$House;", Cond.fieldLink RX2 16 "PromiseHours" "images" "[LPromiseHours$House;", Cond.fieldLink RX2 20 "PromiseHours" "keptImages" "I", Cond.instanceMethod yX0_init, Cond.code yX0_init cX0_init 1 none, Cond.methodLink RX0 3 objectInit, Cond.fieldLink RX0 9 "PromiseHours$House" "tick" "I", Cond.arrayClass .int, Cond.fieldLink RX0 15 "PromiseHours$House" "rules" "[I"]
def wsL_law_r2 : List Cond := [Cond.classLink RX0 19 RX1, Cond.instantiable RX1 13, Cond.initialized RX1, Cond.fieldLink RX0 22 "PromiseHours$House" "readers" "[LPromiseHours$Reader;", Cond.fieldLink RX0 26 "PromiseHours$House" "versions" "[I", Cond.fieldLink RX0 29 "PromiseHours$House" "ways" "[I", Cond.fieldLink RX0 32 "PromiseHours$House" "line" "[I", Cond.fieldLink RX0 35 "PromiseHours$House" "lineLength" "I", Cond.fieldLink RX0 38 "PromiseHours$House" "causes" "[I", Cond.fieldLink RX0 41 "PromiseHours$House" "causeCount" "I", Cond.fieldLink RX0 44 "PromiseHours$House" "waitedFor" "[I", Cond.fieldLink RX0 47 "PromiseHours$House" "waitedCount" "I", Cond.fieldLink RX0 50 "PromiseHours$House" "staleReads" "I", Cond.fieldLink RX0 53 "PromiseHours$House" "writesTold" "I", Cond.fieldLink RX0 56 "PromiseHours$House" "writesDone" "I", Cond.fieldLink RX0 59 "PromiseHours$House" "lettersSent" "I", Cond.fieldLink RX0 62 "PromiseHours$House" "timesListed" "I", Cond.fieldLink RX0 65 "PromiseHours$House" "timesRenewed" "I", Cond.instanceMethod yX1_init, Cond.code yX1_init cX1_init 1 none, Cond.methodLink RX1 3 objectInit, Cond.fieldLink RX1 9 "PromiseHours$Reader" "isThere" "Z", Cond.fieldLink RX1 15 "PromiseHours$Reader" "skew" "I", Cond.fieldLink RX1 19 "PromiseHours$Reader" "copies" "[I"]
def wsL_law_r3 : List Cond := [Cond.fieldLink RX1 23 "PromiseHours$Reader" "terms" "[I", Cond.fieldLink RX1 26 "PromiseHours$Reader" "promises" "[I", Cond.fieldLink RX1 29 "PromiseHours$Reader" "volumeTerms" "[I", Cond.fieldLink RX1 32 "PromiseHours$Reader" "lists" "[I", Cond.fieldLink RX1 35 "PromiseHours$Reader" "lastVersion" "I", Cond.fieldLink RX1 38 "PromiseHours$Reader" "timesUsed" "I", Cond.fieldLink RX1 41 "PromiseHours$Reader" "timesAsked" "I", Cond.fieldLink RX1 44 "PromiseHours$Reader" "timesNothing" "I", Cond.fieldLink RX1 47 "PromiseHours$Reader" "letters" "I", Cond.fieldLink RX1 50 "PromiseHours$Reader" "copiesLost" "I", Cond.methodLink RX1 53 yJ7_fill_53178, Cond.static yJ7_fill_53178, Cond.initialized RJ7, Cond.code yJ7_fill_53178 cJ7_fill_53178 4 none, Cond.static yX2_copyRow, Cond.code yX2_copyRow cX2_copyRow 2 none, Cond.methodLink RX2 185 Lib.Math.min.name, Cond.static Lib.Math.min.name, Cond.initialized "java/lang/Math", Cond.code Lib.Math.min.name Lib.Math.min.code 2 (some .int), Cond.methodLink RX2 190 arraycopyName, Cond.native arraycopyName, Cond.static arraycopyName, Cond.initialized "java/lang/System"]
def wsL_law_r4 : List Cond := [Cond.methodLink RX0 75 yJ7_fill_53178, Cond.methodLink RL 12 yX3_init, Cond.instanceMethod yX3_init, Cond.code yX3_init cX3_init 3 none, Cond.methodLink RX3 1 objectInit, Cond.fieldLink RX3 7 "PromiseHoursModel" "state" "[I", Cond.fieldLink RX3 13 "PromiseHoursModel" "images" "[I", Cond.arrayClass .boolean, Cond.fieldLink RX3 16 "PromiseHoursModel" "isKept" "[Z", Cond.methodLink RX3 20 yX3_said, Cond.static yX3_said, Cond.code yX3_said cX3_said 2 (some .int), Cond.methodLink RL 13 yX2_rule, Cond.instanceMethod yX2_rule, Cond.selects RX2 yX2_rule yX2_rule, Cond.code yX2_rule cX2_rule 4 (some .int), Cond.fieldLink RX2 24 "PromiseHours" "LEAST_RULES" "[I", Cond.fieldLink RX2 28 "PromiseHours" "GREATEST_RULES" "[I", Cond.methodLink RL 17 yX3_rule, Cond.instanceMethod yX3_rule, Cond.selects RX3 yX3_rule yX3_rule, Cond.code yX3_rule cX3_rule 4 (some .int), Cond.methodLink RX3 24 yX3_in, Cond.static yX3_in]
def wsL_law_r5 : List Cond := [Cond.code yX3_in cX3_in 3 (some .boolean), Cond.methodLink RL 18 yX2_skew, Cond.instanceMethod yX2_skew, Cond.selects RX2 yX2_skew yX2_skew, Cond.code yX2_skew cX2_skew 3 (some .int), Cond.methodLink RX2 34 yX2_isReader, Cond.static yX2_isReader, Cond.code yX2_isReader cX2_isReader 1 (some .boolean), Cond.instanceMethod yX0_countSkewedBeyondDoubt, Cond.selects RX0 yX0_countSkewedBeyondDoubt yX0_countSkewedBeyondDoubt, Cond.code yX0_countSkewedBeyondDoubt cX0_countSkewedBeyondDoubt 3 (some .int), Cond.methodLink RX0 102 Lib.Math.abs.name, Cond.static Lib.Math.abs.name, Cond.code Lib.Math.abs.name Lib.Math.abs.code 1 (some .int), Cond.static yX2_bit, Cond.code yX2_bit cX2_bit 1 (some .int), Cond.methodLink RL 21 yX3_skew, Cond.instanceMethod yX3_skew, Cond.selects RX3 yX3_skew yX3_skew, Cond.code yX3_skew cX3_skew 5 (some .int), Cond.methodLink RX3 28 yX3_isReader, Cond.static yX3_isReader, Cond.code yX3_isReader cX3_isReader 1 (some .boolean), Cond.methodLink RL 22 yX2_there]
def wsL_law_r6 : List Cond := [Cond.instanceMethod yX2_there, Cond.selects RX2 yX2_there yX2_there, Cond.code yX2_there cX2_there 5 (some .int), Cond.instanceMethod yX0_settleAll, Cond.selects RX0 yX0_settleAll yX0_settleAll, Cond.code yX0_settleAll cX0_settleAll 5 (some .int), Cond.methodLink RX0 181 yX0_settle, Cond.instanceMethod yX0_settle, Cond.selects RX0 yX0_settle yX0_settle, Cond.code yX0_settle cX0_settle 3 (some .boolean), Cond.methodLink RX0 193 yX0_isHolder, Cond.instanceMethod yX0_isHolder, Cond.selects RX0 yX0_isHolder yX0_isHolder, Cond.code yX0_isHolder cX0_isHolder 3 (some .boolean), Cond.methodLink RX0 196 yX0_settleHolder, Cond.instanceMethod yX0_settleHolder, Cond.selects RX0 yX0_settleHolder yX0_settleHolder, Cond.code yX0_settleHolder cX0_settleHolder 3 none, Cond.instanceMethod yX1_volumeTermFor, Cond.selects RX1 yX1_volumeTermFor yX1_volumeTermFor, Cond.code yX1_volumeTermFor cX1_volumeTermFor 2 (some .int), Cond.static yX2_volumeOf, Cond.code yX2_volumeOf cX2_volumeOf 1 (some .int), Cond.methodLink RX0 202 yX0_putOnList]
def wsL_law_r7 : List Cond := [Cond.instanceMethod yX0_putOnList, Cond.selects RX0 yX0_putOnList yX0_putOnList, Cond.code yX0_putOnList cX0_putOnList 4 none, Cond.static yX2_isInSet, Cond.code yX2_isInSet cX2_isInSet 2 (some .boolean), Cond.methodLink RX0 205 yX0_sendLetter, Cond.instanceMethod yX0_sendLetter, Cond.selects RX0 yX0_sendLetter yX0_sendLetter, Cond.code yX0_sendLetter cX0_sendLetter 3 none, Cond.instanceMethod yX1_dropCopy, Cond.selects RX1 yX1_dropCopy yX1_dropCopy, Cond.code yX1_dropCopy cX1_dropCopy 2 none, Cond.methodLink RX1 59 yX1_takeCopy, Cond.instanceMethod yX1_takeCopy, Cond.selects RX1 yX1_takeCopy yX1_takeCopy, Cond.code yX1_takeCopy cX1_takeCopy 4 none, Cond.methodLink RX0 199 yX0_holdersOf, Cond.instanceMethod yX0_holdersOf, Cond.selects RX0 yX0_holdersOf yX0_holdersOf, Cond.code yX0_holdersOf cX0_holdersOf 4 (some .int), Cond.methodLink RL 25 yX3_there, Cond.instanceMethod yX3_there, Cond.selects RX3 yX3_there yX3_there, Cond.code yX3_there cX3_there 4 (some .int)]
def wsL_law_r8 : List Cond := [Cond.methodLink RX3 53 yX3_settleAll, Cond.instanceMethod yX3_settleAll, Cond.selects RX3 yX3_settleAll yX3_settleAll, Cond.code yX3_settleAll cX3_settleAll 5 (some .int), Cond.methodLink RX3 50 yX3_isSettled, Cond.instanceMethod yX3_isSettled, Cond.selects RX3 yX3_isSettled yX3_isSettled, Cond.code yX3_isSettled cX3_isSettled 5 (some .boolean), Cond.methodLink RX3 43 yX3_isHolder, Cond.instanceMethod yX3_isHolder, Cond.selects RX3 yX3_isHolder yX3_isHolder, Cond.code yX3_isHolder cX3_isHolder 3 (some .boolean), Cond.methodLink RX3 32 yX3_thingAt, Cond.static yX3_thingAt, Cond.code yX3_thingAt cX3_thingAt 3 (some .int), Cond.methodLink RX3 40 yX3_volumeAt, Cond.static yX3_volumeAt, Cond.code yX3_volumeAt cX3_volumeAt 3 (some .int), Cond.methodLink RX3 46 yX3_clear, Cond.instanceMethod yX3_clear, Cond.selects RX3 yX3_clear yX3_clear, Cond.code yX3_clear cX3_clear 3 none, Cond.methodLink RL 26 yX2_read, Cond.instanceMethod yX2_read]
def wsL_law_r9 : List Cond := [Cond.selects RX2 yX2_read yX2_read, Cond.code yX2_read cX2_read 3 (some .int), Cond.methodLink RX2 58 yX2_isThing, Cond.static yX2_isThing, Cond.code yX2_isThing cX2_isThing 1 (some .boolean), Cond.instanceMethod yX0_readBy, Cond.selects RX0 yX0_readBy yX0_readBy, Cond.code yX0_readBy cX0_readBy 3 (some .int), Cond.methodLink RX0 111 yX0_canUse, Cond.instanceMethod yX0_canUse, Cond.selects RX0 yX0_canUse yX0_canUse, Cond.code yX0_canUse cX0_canUse 3 (some .boolean), Cond.instanceMethod yX1_hasCopy, Cond.selects RX1 yX1_hasCopy yX1_hasCopy, Cond.code yX1_hasCopy cX1_hasCopy 2 (some .boolean), Cond.methodLink RX0 91 yX0_isOver, Cond.instanceMethod yX0_isOver, Cond.selects RX0 yX0_isOver yX0_isOver, Cond.code yX0_isOver cX0_isOver 3 (some .boolean), Cond.methodLink RX0 114 yX0_useCopy, Cond.instanceMethod yX0_useCopy, Cond.selects RX0 yX0_useCopy yX0_useCopy, Cond.code yX0_useCopy cX0_useCopy 3 (some .int), Cond.methodLink RX0 118 yX0_noteCauses]
def wsL_law_r10 : List Cond := [Cond.instanceMethod yX0_noteCauses, Cond.selects RX0 yX0_noteCauses yX0_noteCauses, Cond.code yX0_noteCauses cX0_noteCauses 3 none, Cond.methodLink RX0 141 yX0_addCauseIf, Cond.instanceMethod yX0_addCauseIf, Cond.selects RX0 yX0_addCauseIf yX0_addCauseIf, Cond.code yX0_addCauseIf cX0_addCauseIf 3 none, Cond.methodLink RX0 129 yX0_askHouse, Cond.instanceMethod yX0_askHouse, Cond.selects RX0 yX0_askHouse yX0_askHouse, Cond.code yX0_askHouse cX0_askHouse 4 (some .int), Cond.methodLink RX0 151 yX0_renew, Cond.instanceMethod yX0_renew, Cond.selects RX0 yX0_renew yX0_renew, Cond.code yX0_renew cX0_renew 3 none, Cond.methodLink RX0 164 yX0_dropByList, Cond.instanceMethod yX0_dropByList, Cond.selects RX0 yX0_dropByList yX0_dropByList, Cond.code yX0_dropByList cX0_dropByList 6 none, Cond.methodLink RX0 154 yX0_isWaiting, Cond.instanceMethod yX0_isWaiting, Cond.selects RX0 yX0_isWaiting yX0_isWaiting, Cond.code yX0_isWaiting cX0_isWaiting 2 (some .boolean), Cond.methodLink RL 29 yX3_read]
def wsL_law_r11 : List Cond := [Cond.instanceMethod yX3_read, Cond.selects RX3 yX3_read yX3_read, Cond.code yX3_read cX3_read 6 (some .int), Cond.methodLink RX3 60 yX3_isThing, Cond.static yX3_isThing, Cond.code yX3_isThing cX3_isThing 1 (some .boolean), Cond.methodLink RX3 71 yX3_canUse, Cond.instanceMethod yX3_canUse, Cond.selects RX3 yX3_canUse yX3_canUse, Cond.code yX3_canUse cX3_canUse 3 (some .boolean), Cond.methodLink RX3 36 yX3_isOver, Cond.instanceMethod yX3_isOver, Cond.selects RX3 yX3_isOver yX3_isOver, Cond.code yX3_isOver cX3_isOver 3 (some .boolean), Cond.methodLink RX3 74 yX3_addCause, Cond.instanceMethod yX3_addCause, Cond.selects RX3 yX3_addCause yX3_addCause, Cond.code yX3_addCause cX3_addCause 3 none, Cond.methodLink RX3 78 yX3_renew, Cond.instanceMethod yX3_renew, Cond.selects RX3 yX3_renew yX3_renew, Cond.code yX3_renew cX3_renew 7 none, Cond.methodLink RL 30 yX2_write, Cond.instanceMethod yX2_write]
def wsL_law_r12 : List Cond := [Cond.selects RX2 yX2_write yX2_write, Cond.code yX2_write cX2_write 3 (some .int), Cond.instanceMethod yX0_tellWrite, Cond.selects RX0 yX0_tellWrite yX0_tellWrite, Cond.code yX0_tellWrite cX0_tellWrite 4 (some .int), Cond.methodLink RX0 184 yX0_noteWaitedFor, Cond.instanceMethod yX0_noteWaitedFor, Cond.selects RX0 yX0_noteWaitedFor yX0_noteWaitedFor, Cond.code yX0_noteWaitedFor cX0_noteWaitedFor 3 none, Cond.methodLink RX0 218 yX0_insertWaitedFor, Cond.instanceMethod yX0_insertWaitedFor, Cond.selects RX0 yX0_insertWaitedFor yX0_insertWaitedFor, Cond.code yX0_insertWaitedFor cX0_insertWaitedFor 5 none, Cond.instanceMethod yX1_holdsUntil, Cond.selects RX1 yX1_holdsUntil yX1_holdsUntil, Cond.code yX1_holdsUntil cX1_holdsUntil 2 (some .int), Cond.methodLink RX1 70 Lib.Math.min.name, Cond.methodLink RX1 67 yX1_volumeTermFor, Cond.methodLink RX0 187 yX0_joinLine, Cond.instanceMethod yX0_joinLine, Cond.selects RX0 yX0_joinLine yX0_joinLine, Cond.code yX0_joinLine cX0_joinLine 2 none, Cond.methodLink RX0 190 yX0_dueOf, Cond.instanceMethod yX0_dueOf]
def wsL_law_r13 : List Cond := [Cond.selects RX0 yX0_dueOf yX0_dueOf, Cond.code yX0_dueOf cX0_dueOf 4 (some .int), Cond.methodLink RX0 214 Lib.Math.max.name, Cond.static Lib.Math.max.name, Cond.code Lib.Math.max.name Lib.Math.max.code 2 (some .int), Cond.methodLink RL 33 yX3_write, Cond.instanceMethod yX3_write, Cond.selects RX3 yX3_write yX3_write, Cond.code yX3_write cX3_write 4 (some .int), Cond.methodLink RX3 63 yX3_layWaited, Cond.instanceMethod yX3_layWaited, Cond.selects RX3 yX3_layWaited yX3_layWaited, Cond.code yX3_layWaited cX3_layWaited 4 none, Cond.methodLink RX3 57 yX3_lesser, Cond.instanceMethod yX3_lesser, Cond.selects RX3 yX3_lesser yX3_lesser, Cond.code yX3_lesser cX3_lesser 5 (some .int), Cond.methodLink RX3 67 yX3_dueOf, Cond.instanceMethod yX3_dueOf, Cond.selects RX3 yX3_dueOf yX3_dueOf, Cond.code yX3_dueOf cX3_dueOf 6 (some .int), Cond.methodLink RL 34 yX2_pass, Cond.instanceMethod yX2_pass, Cond.selects RX2 yX2_pass yX2_pass]
def wsL_law_r14 : List Cond := [Cond.code yX2_pass cX2_pass 4 (some .int), Cond.methodLink RL 38 yX3_pass, Cond.instanceMethod yX3_pass, Cond.selects RX3 yX3_pass yX3_pass, Cond.code yX3_pass cX3_pass 4 (some .int), Cond.methodLink RL 39 yX2_cause, Cond.instanceMethod yX2_cause, Cond.selects RX2 yX2_cause yX2_cause, Cond.code yX2_cause cX2_cause 2 (some .int), Cond.methodLink RL 42 yX3_cause, Cond.instanceMethod yX3_cause, Cond.selects RX3 yX3_cause yX3_cause, Cond.code yX3_cause cX3_cause 2 (some .int), Cond.methodLink RL 43 yX2_waited, Cond.instanceMethod yX2_waited, Cond.selects RX2 yX2_waited yX2_waited, Cond.code yX2_waited cX2_waited 2 (some .int), Cond.methodLink RL 46 yX3_waited, Cond.instanceMethod yX3_waited, Cond.selects RX3 yX3_waited yX3_waited, Cond.code yX3_waited cX3_waited 2 (some .int), Cond.methodLink RL 47 yX2_thing, Cond.instanceMethod yX2_thing, Cond.selects RX2 yX2_thing yX2_thing]
def wsL_law_r15 : List Cond := [Cond.code yX2_thing cX2_thing 3 (some .int), Cond.methodLink RX2 90 yX2_bit, Cond.instanceMethod yX0_readersWithCopy, Cond.selects RX0 yX0_readersWithCopy yX0_readersWithCopy, Cond.code yX0_readersWithCopy cX0_readersWithCopy 4 (some .int), Cond.instanceMethod yX0_readersWithUse, Cond.selects RX0 yX0_readersWithUse yX0_readersWithUse, Cond.code yX0_readersWithUse cX0_readersWithUse 4 (some .int), Cond.methodLink RL 50 yX3_thing, Cond.instanceMethod yX3_thing, Cond.selects RX3 yX3_thing yX3_thing, Cond.code yX3_thing cX3_thing 7 (some .int), Cond.methodLink RL 51 yX2_copy, Cond.instanceMethod yX2_copy, Cond.selects RX2 yX2_copy yX2_copy, Cond.code yX2_copy cX2_copy 5 (some .int), Cond.methodLink RL 55 yX3_copy, Cond.instanceMethod yX3_copy, Cond.selects RX3 yX3_copy yX3_copy, Cond.code yX3_copy cX3_copy 4 (some .int), Cond.methodLink RL 56 yX2_volume, Cond.instanceMethod yX2_volume, Cond.selects RX2 yX2_volume yX2_volume, Cond.code yX2_volume cX2_volume 5 (some .int)]
def wsL_law_r16 : List Cond := [Cond.methodLink RL 59 yX3_volume, Cond.instanceMethod yX3_volume, Cond.selects RX3 yX3_volume yX3_volume, Cond.code yX3_volume cX3_volume 5 (some .int), Cond.methodLink RL 60 yX2_reader, Cond.instanceMethod yX2_reader, Cond.selects RX2 yX2_reader yX2_reader, Cond.code yX2_reader cX2_reader 4 (some .int), Cond.methodLink RL 63 yX3_reader, Cond.instanceMethod yX3_reader, Cond.selects RX3 yX3_reader yX3_reader, Cond.code yX3_reader cX3_reader 3 (some .int), Cond.methodLink RL 64 yX2_waiting, Cond.instanceMethod yX2_waiting, Cond.selects RX2 yX2_waiting yX2_waiting, Cond.code yX2_waiting cX2_waiting 2 (some .int), Cond.methodLink RL 67 yX3_waiting, Cond.instanceMethod yX3_waiting, Cond.selects RX3 yX3_waiting yX3_waiting, Cond.code yX3_waiting cX3_waiting 2 (some .int), Cond.methodLink RL 68 yX2_count, Cond.instanceMethod yX2_count, Cond.selects RX2 yX2_count yX2_count, Cond.code yX2_count cX2_count 2 (some .int)]
def wsL_law_r17 : List Cond := [Cond.methodLink RL 71 yX3_count, Cond.instanceMethod yX3_count, Cond.selects RX3 yX3_count yX3_count, Cond.code yX3_count cX3_count 2 (some .int), Cond.methodLink RL 72 yX2_image, Cond.instanceMethod yX2_image, Cond.selects RX2 yX2_image yX2_image, Cond.code yX2_image cX2_image 2 (some .int), Cond.methodLink RX2 174 yX2_isImage, Cond.static yX2_isImage, Cond.code yX2_isImage cX2_isImage 1 (some .boolean), Cond.instanceMethod yX0_becomeLike, Cond.selects RX0 yX0_becomeLike yX0_becomeLike, Cond.code yX0_becomeLike cX0_becomeLike 3 none, Cond.instanceMethod yX1_becomeLike, Cond.selects RX1 yX1_becomeLike yX1_becomeLike, Cond.code yX1_becomeLike cX1_becomeLike 2 none, Cond.methodLink RL 75 yX3_image, Cond.instanceMethod yX3_image, Cond.selects RX3 yX3_image yX3_image, Cond.code yX3_image cX3_image 3 (some .int), Cond.methodLink RL 76 yX2_restore, Cond.instanceMethod yX2_restore, Cond.selects RX2 yX2_restore yX2_restore]
def wsL_law_r18 : List Cond := [Cond.code yX2_restore cX2_restore 2 (some .int), Cond.methodLink RX2 181 yX2_isInSet, Cond.methodLink RL 79 yX3_restore, Cond.instanceMethod yX3_restore, Cond.selects RX3 yX3_restore yX3_restore, Cond.code yX3_restore cX3_restore 3 (some .int)]
def wsL_law : List Cond := (wsL_law_r1 ++ (wsL_law_r2 ++ (wsL_law_r3 ++ (wsL_law_r4 ++ (wsL_law_r5 ++ (wsL_law_r6 ++ (wsL_law_r7 ++ (wsL_law_r8 ++ (wsL_law_r9 ++ (wsL_law_r10 ++ (wsL_law_r11 ++ (wsL_law_r12 ++ (wsL_law_r13 ++ (wsL_law_r14 ++ (wsL_law_r15 ++ (wsL_law_r16 ++ (wsL_law_r17 ++ wsL_law_r18))))))))))))))))) ++ wsX20 ++ wsX30 ++ wsX00 ++ wsX10 ++ ([] : List Cond)
set_option maxRecDepth 20000 in
theorem wsL_law_r1_in : GoodIn lw_tbl wsL_law_r1 := goodIn_p wsL_law_r1 [55, 58, 63] (by decide +kernel) (by decide +kernel)
set_option maxRecDepth 20000 in
theorem wsL_law_r2_in : GoodIn lw_tbl wsL_law_r2 := goodIn_p wsL_law_r2 [70] (by decide +kernel) (by decide +kernel)
set_option maxRecDepth 20000 in
theorem wsL_law_r3_in : GoodIn lw_tbl wsL_law_r3 := goodIn_p wsL_law_r3 [74, 146, 149] (by decide +kernel) (by decide +kernel)
set_option maxRecDepth 20000 in
theorem wsL_law_r4_in : GoodIn lw_tbl wsL_law_r4 := goodIn_p wsL_law_r4 [470, 474, 237, 489] (by decide +kernel) (by decide +kernel)
set_option maxRecDepth 20000 in
theorem wsL_law_r5_in : GoodIn lw_tbl wsL_law_r5 := goodIn_p wsL_law_r5 [492, 245, 248, 252, 255, 258, 496, 499] (by decide +kernel) (by decide +kernel)
set_option maxRecDepth 20000 in
theorem wsL_law_r6_in : GoodIn lw_tbl wsL_law_r6 := goodIn_p wsL_law_r6 [262, 266, 270, 274, 278, 282, 285] (by decide +kernel) (by decide +kernel)
set_option maxRecDepth 20000 in
theorem wsL_law_r7_in : GoodIn lw_tbl wsL_law_r7 := goodIn_p wsL_law_r7 [289, 293, 297, 301, 305, 309, 503] (by decide +kernel) (by decide +kernel)
set_option maxRecDepth 20000 in
theorem wsL_law_r8_in : GoodIn lw_tbl wsL_law_r8 := goodIn_p wsL_law_r8 [507, 511, 515, 518, 521, 525] (by decide +kernel) (by decide +kernel)
set_option maxRecDepth 20000 in
theorem wsL_law_r9_in : GoodIn lw_tbl wsL_law_r9 := goodIn_p wsL_law_r9 [313, 316, 320, 324, 328, 332, 336] (by decide +kernel) (by decide +kernel)
set_option maxRecDepth 20000 in
theorem wsL_law_r10_in : GoodIn lw_tbl wsL_law_r10 := goodIn_p wsL_law_r10 [340, 344, 348, 352, 356, 360] (by decide +kernel) (by decide +kernel)
set_option maxRecDepth 20000 in
theorem wsL_law_r11_in : GoodIn lw_tbl wsL_law_r11 := goodIn_p wsL_law_r11 [552, 532, 556, 560, 564, 568] (by decide +kernel) (by decide +kernel)
set_option maxRecDepth 20000 in
theorem wsL_law_r12_in : GoodIn lw_tbl wsL_law_r12 := goodIn_p wsL_law_r12 [365, 370, 374, 378, 382, 388] (by decide +kernel) (by decide +kernel)
set_option maxRecDepth 20000 in
theorem wsL_law_r13_in : GoodIn lw_tbl wsL_law_r13 := goodIn_p wsL_law_r13 [392, 395, 529, 536, 540, 544] (by decide +kernel) (by decide +kernel)
set_option maxRecDepth 20000 in
theorem wsL_law_r14_in : GoodIn lw_tbl wsL_law_r14 := goodIn_p wsL_law_r14 [399, 548, 403, 572, 407, 576] (by decide +kernel) (by decide +kernel)
set_option maxRecDepth 20000 in
theorem wsL_law_r15_in : GoodIn lw_tbl wsL_law_r15 := goodIn_p wsL_law_r15 [411, 418, 422, 580, 426, 584, 431] (by decide +kernel) (by decide +kernel)
set_option maxRecDepth 20000 in
theorem wsL_law_r16_in : GoodIn lw_tbl wsL_law_r16 := goodIn_p wsL_law_r16 [588, 436, 592, 440, 596, 444] (by decide +kernel) (by decide +kernel)
set_option maxRecDepth 20000 in
theorem wsL_law_r17_in : GoodIn lw_tbl wsL_law_r17 := goodIn_p wsL_law_r17 [600, 448, 451, 455, 459, 604] (by decide +kernel) (by decide +kernel)
set_option maxRecDepth 20000 in
theorem wsL_law_r18_in : GoodIn lw_tbl wsL_law_r18 := goodIn_p wsL_law_r18 [464, 608] (by decide +kernel) (by decide +kernel)
set_option maxRecDepth 20000 in
theorem wsX20_in : GoodIn lw_tbl wsX20 := goodIn_p wsX20 [] (by decide +kernel) (by decide +kernel)
set_option maxRecDepth 20000 in
theorem wsX30_in : GoodIn lw_tbl wsX30 := goodIn_p wsX30 [] (by decide +kernel) (by decide +kernel)
set_option maxRecDepth 20000 in
theorem wsX00_in : GoodIn lw_tbl wsX00 := goodIn_p wsX00 [] (by decide +kernel) (by decide +kernel)
set_option maxRecDepth 20000 in
theorem wsX10_in : GoodIn lw_tbl wsX10 := goodIn_p wsX10 [] (by decide +kernel) (by decide +kernel)
theorem wsL_law_in : ∀ w ∈ wsL_law, w ∈ lw_tbl := fun w h => ((goodIn_app (goodIn_app (goodIn_app (goodIn_app (goodIn_app (goodIn_app wsL_law_r1_in (goodIn_app wsL_law_r2_in (goodIn_app wsL_law_r3_in (goodIn_app wsL_law_r4_in (goodIn_app wsL_law_r5_in (goodIn_app wsL_law_r6_in (goodIn_app wsL_law_r7_in (goodIn_app wsL_law_r8_in (goodIn_app wsL_law_r9_in (goodIn_app wsL_law_r10_in (goodIn_app wsL_law_r11_in (goodIn_app wsL_law_r12_in (goodIn_app wsL_law_r13_in (goodIn_app wsL_law_r14_in (goodIn_app wsL_law_r15_in (goodIn_app wsL_law_r16_in (goodIn_app wsL_law_r17_in wsL_law_r18_in))))))))))))))))) wsX20_in) wsX30_in) wsX00_in) wsX10_in) (fun _ h => absurd h List.not_mem_nil)) w h).1
theorem inlX0 : ∀ w ∈ wsX00, w ∈ wsL_law := fun _ h => List.mem_append_left _ (List.mem_append_left _ (List.mem_append_right _ h))
theorem inX0 : ∀ w ∈ wsX00, w ∈ lw_tbl := fun w h => wsL_law_in w (inlX0 w h)
theorem inlX1 : ∀ w ∈ wsX10, w ∈ wsL_law := fun _ h => List.mem_append_left _ (List.mem_append_right _ h)
theorem inX1 : ∀ w ∈ wsX10, w ∈ lw_tbl := fun w h => wsL_law_in w (inlX1 w h)
theorem inlX2 : ∀ w ∈ wsX20, w ∈ wsL_law := fun _ h => List.mem_append_left _ (List.mem_append_left _ (List.mem_append_left _ (List.mem_append_left _ (List.mem_append_right _ h))))
theorem inX2 : ∀ w ∈ wsX20, w ∈ lw_tbl := fun w h => wsL_law_in w (inlX2 w h)
theorem inlX3 : ∀ w ∈ wsX30, w ∈ wsL_law := fun _ h => List.mem_append_left _ (List.mem_append_left _ (List.mem_append_left _ (List.mem_append_right _ h)))
theorem inX3 : ∀ w ∈ wsX30, w ∈ lw_tbl := fun w h => wsL_law_in w (inlX3 w h)
theorem inJ9 : ∀ w ∈ wsJ90, w ∈ lw_tbl := by decide +kernel
theorem inJ10 : ∀ w ∈ wsJ100, w ∈ lw_tbl := by decide +kernel
theorem inJ7 : ∀ w ∈ wsJ70, w ∈ lw_tbl := by decide +kernel
abbrev vwCl : List vw_C := [(RX0, TX0, 17), (RX1, TX1, 13), (RX2, TX2, 3), (RX3, TX3, 3)]
end
section
set_option maxRecDepth 20000 in
theorem ggX0_init_X1_init : GoodIn wsX0_init wsX1_init := goodIn_r _ [26, 27, 2, 3, 28, 29, 5, 30, 31, 32, 33, 34, 35, 36, 37, 38, 39, 40, 41, 42, 43, 44, 74, 75, 76, 77, 78, 79, 80, 81, 82, 83, 84, 85, 86] (by decide +kernel) (by decide +kernel)
set_option maxRecDepth 20000 in
theorem gX0_init_X1_init_n21 : GoodIn wsX0_init (wsX1_init) := ggX0_init_X1_init
set_option maxRecDepth 20000 in
theorem ggX0_init_X2_copyRow : GoodIn wsX0_init wsX2_copyRow := goodIn_r _ [47, 48, 49, 50, 51, 52, 53, 54, 55] (by decide +kernel) (by decide +kernel)
set_option maxRecDepth 20000 in
theorem gX0_init_X2_copyRow_n71 : GoodIn wsX0_init (wsX2_copyRow) := ggX0_init_X2_copyRow
set_option maxRecDepth 20000 in
theorem ggX0_init_J7_fill_53178 : GoodIn wsX0_init wsJ7_fill_53178 := goodIn_r _ [44] (by decide +kernel) (by decide +kernel)
set_option maxRecDepth 20000 in
theorem gX0_init_J7_fill_53178 : GoodIn wsX0_init (va_wsS RX0 75 yJ7_fill_53178 wsJ7_fill_53178) := goodIn_app (goodIn_of _ (by decide +kernel)) ggX0_init_J7_fill_53178
theorem dX0_init_0 : decode cX0_init 0 = .ok (.aload_n 0, 1) := by decide +kernel
theorem dX0_init_1 : decode cX0_init 1 = .ok (.invokespecial 3, 3) := by decide +kernel
theorem dX0_init_4 : decode cX0_init 4 = .ok (.aload_n 0, 1) := by decide +kernel
theorem dX0_init_5 : decode cX0_init 5 = .ok (.iconst 0, 1) := by decide +kernel
theorem dX0_init_6 : decode cX0_init 6 = .ok (.putfield 9, 3) := by decide +kernel
theorem dX0_init_9 : decode cX0_init 9 = .ok (.aload_n 0, 1) := by decide +kernel
theorem dX0_init_10 : decode cX0_init 10 = .ok (.iconst 4, 1) := by decide +kernel
theorem dX0_init_11 : decode cX0_init 11 = .ok (.newarray .int, 2) := by decide +kernel
theorem dX0_init_13 : decode cX0_init 13 = .ok (.putfield 15, 3) := by decide +kernel
theorem dX0_init_16 : decode cX0_init 16 = .ok (.aload_n 0, 1) := by decide +kernel
theorem dX0_init_17 : decode cX0_init 17 = .ok (.iconst 5, 1) := by decide +kernel
theorem dX0_init_18 : decode cX0_init 18 = .ok (.anewarray 19, 3) := by decide +kernel
theorem dX0_init_21 : decode cX0_init 21 = .ok (.dup, 1) := by decide +kernel
theorem dX0_init_22 : decode cX0_init 22 = .ok (.iconst 0, 1) := by decide +kernel
theorem dX0_init_23 : decode cX0_init 23 = .ok (.new 19, 3) := by decide +kernel
theorem dX0_init_26 : decode cX0_init 26 = .ok (.dup, 1) := by decide +kernel
theorem dX0_init_27 : decode cX0_init 27 = .ok (.invokespecial 21, 3) := by decide +kernel
theorem dX0_init_30 : decode cX0_init 30 = .ok (.aastore, 1) := by decide +kernel
theorem dX0_init_31 : decode cX0_init 31 = .ok (.dup, 1) := by decide +kernel
theorem dX0_init_32 : decode cX0_init 32 = .ok (.iconst 1, 1) := by decide +kernel
theorem dX0_init_33 : decode cX0_init 33 = .ok (.new 19, 3) := by decide +kernel
theorem dX0_init_36 : decode cX0_init 36 = .ok (.dup, 1) := by decide +kernel
theorem dX0_init_37 : decode cX0_init 37 = .ok (.invokespecial 21, 3) := by decide +kernel
theorem dX0_init_40 : decode cX0_init 40 = .ok (.aastore, 1) := by decide +kernel
theorem dX0_init_41 : decode cX0_init 41 = .ok (.dup, 1) := by decide +kernel
theorem dX0_init_42 : decode cX0_init 42 = .ok (.iconst 2, 1) := by decide +kernel
theorem dX0_init_43 : decode cX0_init 43 = .ok (.new 19, 3) := by decide +kernel
theorem dX0_init_46 : decode cX0_init 46 = .ok (.dup, 1) := by decide +kernel
theorem dX0_init_47 : decode cX0_init 47 = .ok (.invokespecial 21, 3) := by decide +kernel
theorem dX0_init_50 : decode cX0_init 50 = .ok (.aastore, 1) := by decide +kernel
theorem dX0_init_51 : decode cX0_init 51 = .ok (.dup, 1) := by decide +kernel
theorem dX0_init_52 : decode cX0_init 52 = .ok (.iconst 3, 1) := by decide +kernel
theorem dX0_init_53 : decode cX0_init 53 = .ok (.new 19, 3) := by decide +kernel
theorem dX0_init_56 : decode cX0_init 56 = .ok (.dup, 1) := by decide +kernel
theorem dX0_init_57 : decode cX0_init 57 = .ok (.invokespecial 21, 3) := by decide +kernel
theorem dX0_init_60 : decode cX0_init 60 = .ok (.aastore, 1) := by decide +kernel
theorem dX0_init_61 : decode cX0_init 61 = .ok (.dup, 1) := by decide +kernel
theorem dX0_init_62 : decode cX0_init 62 = .ok (.iconst 4, 1) := by decide +kernel
theorem dX0_init_63 : decode cX0_init 63 = .ok (.new 19, 3) := by decide +kernel
theorem dX0_init_66 : decode cX0_init 66 = .ok (.dup, 1) := by decide +kernel
theorem dX0_init_67 : decode cX0_init 67 = .ok (.invokespecial 21, 3) := by decide +kernel
theorem dX0_init_70 : decode cX0_init 70 = .ok (.aastore, 1) := by decide +kernel
theorem dX0_init_71 : decode cX0_init 71 = .ok (.putfield 22, 3) := by decide +kernel
theorem dX0_init_74 : decode cX0_init 74 = .ok (.aload_n 0, 1) := by decide +kernel
theorem dX0_init_75 : decode cX0_init 75 = .ok (.bipush 12, 2) := by decide +kernel
theorem dX0_init_77 : decode cX0_init 77 = .ok (.newarray .int, 2) := by decide +kernel
theorem dX0_init_79 : decode cX0_init 79 = .ok (.putfield 26, 3) := by decide +kernel
theorem dX0_init_82 : decode cX0_init 82 = .ok (.aload_n 0, 1) := by decide +kernel
theorem dX0_init_83 : decode cX0_init 83 = .ok (.bipush 12, 2) := by decide +kernel
theorem dX0_init_85 : decode cX0_init 85 = .ok (.newarray .int, 2) := by decide +kernel
theorem dX0_init_87 : decode cX0_init 87 = .ok (.putfield 29, 3) := by decide +kernel
theorem dX0_init_90 : decode cX0_init 90 = .ok (.aload_n 0, 1) := by decide +kernel
theorem dX0_init_91 : decode cX0_init 91 = .ok (.bipush 12, 2) := by decide +kernel
theorem dX0_init_93 : decode cX0_init 93 = .ok (.newarray .int, 2) := by decide +kernel
theorem dX0_init_95 : decode cX0_init 95 = .ok (.putfield 32, 3) := by decide +kernel
theorem dX0_init_98 : decode cX0_init 98 = .ok (.aload_n 0, 1) := by decide +kernel
theorem dX0_init_99 : decode cX0_init 99 = .ok (.iconst 0, 1) := by decide +kernel
theorem dX0_init_100 : decode cX0_init 100 = .ok (.putfield 35, 3) := by decide +kernel
theorem dX0_init_103 : decode cX0_init 103 = .ok (.aload_n 0, 1) := by decide +kernel
theorem dX0_init_104 : decode cX0_init 104 = .ok (.iconst 4, 1) := by decide +kernel
theorem dX0_init_105 : decode cX0_init 105 = .ok (.newarray .int, 2) := by decide +kernel
theorem dX0_init_107 : decode cX0_init 107 = .ok (.putfield 38, 3) := by decide +kernel
theorem dX0_init_110 : decode cX0_init 110 = .ok (.aload_n 0, 1) := by decide +kernel
theorem dX0_init_111 : decode cX0_init 111 = .ok (.iconst 0, 1) := by decide +kernel
theorem dX0_init_112 : decode cX0_init 112 = .ok (.putfield 41, 3) := by decide +kernel
theorem dX0_init_115 : decode cX0_init 115 = .ok (.aload_n 0, 1) := by decide +kernel
theorem dX0_init_116 : decode cX0_init 116 = .ok (.iconst 5, 1) := by decide +kernel
theorem dX0_init_117 : decode cX0_init 117 = .ok (.newarray .int, 2) := by decide +kernel
theorem dX0_init_119 : decode cX0_init 119 = .ok (.putfield 44, 3) := by decide +kernel
theorem dX0_init_122 : decode cX0_init 122 = .ok (.aload_n 0, 1) := by decide +kernel
theorem dX0_init_123 : decode cX0_init 123 = .ok (.iconst 0, 1) := by decide +kernel
theorem dX0_init_124 : decode cX0_init 124 = .ok (.putfield 47, 3) := by decide +kernel
theorem dX0_init_127 : decode cX0_init 127 = .ok (.aload_n 0, 1) := by decide +kernel
theorem dX0_init_128 : decode cX0_init 128 = .ok (.iconst 0, 1) := by decide +kernel
theorem dX0_init_129 : decode cX0_init 129 = .ok (.putfield 50, 3) := by decide +kernel
theorem dX0_init_132 : decode cX0_init 132 = .ok (.aload_n 0, 1) := by decide +kernel
theorem dX0_init_133 : decode cX0_init 133 = .ok (.iconst 0, 1) := by decide +kernel
theorem dX0_init_134 : decode cX0_init 134 = .ok (.putfield 53, 3) := by decide +kernel
theorem dX0_init_137 : decode cX0_init 137 = .ok (.aload_n 0, 1) := by decide +kernel
theorem dX0_init_138 : decode cX0_init 138 = .ok (.iconst 0, 1) := by decide +kernel
theorem dX0_init_139 : decode cX0_init 139 = .ok (.putfield 56, 3) := by decide +kernel
theorem dX0_init_142 : decode cX0_init 142 = .ok (.aload_n 0, 1) := by decide +kernel
theorem dX0_init_143 : decode cX0_init 143 = .ok (.iconst 0, 1) := by decide +kernel
theorem dX0_init_144 : decode cX0_init 144 = .ok (.putfield 59, 3) := by decide +kernel
theorem dX0_init_147 : decode cX0_init 147 = .ok (.aload_n 0, 1) := by decide +kernel
theorem dX0_init_148 : decode cX0_init 148 = .ok (.iconst 0, 1) := by decide +kernel
theorem dX0_init_149 : decode cX0_init 149 = .ok (.putfield 62, 3) := by decide +kernel
theorem dX0_init_152 : decode cX0_init 152 = .ok (.aload_n 0, 1) := by decide +kernel
theorem dX0_init_153 : decode cX0_init 153 = .ok (.iconst 0, 1) := by decide +kernel
theorem dX0_init_154 : decode cX0_init 154 = .ok (.putfield 65, 3) := by decide +kernel
theorem dX0_init_157 : decode cX0_init 157 = .ok (.getstatic 68, 3) := by decide +kernel
theorem dX0_init_160 : decode cX0_init 160 = .ok (.aload_n 0, 1) := by decide +kernel
theorem dX0_init_161 : decode cX0_init 161 = .ok (.getfield 15, 3) := by decide +kernel
theorem dX0_init_164 : decode cX0_init 164 = .ok (.invokestatic 71, 3) := by decide +kernel
theorem dX0_init_167 : decode cX0_init 167 = .ok (.aload_n 0, 1) := by decide +kernel
theorem dX0_init_168 : decode cX0_init 168 = .ok (.getfield 29, 3) := by decide +kernel
theorem dX0_init_171 : decode cX0_init 171 = .ok (.bipush (-6), 2) := by decide +kernel
theorem dX0_init_173 : decode cX0_init 173 = .ok (.invokestatic 75, 3) := by decide +kernel
theorem dX0_init_176 : decode cX0_init 176 = .ok (.return_, 1) := by decide +kernel
theorem dX0_isOver_0 : decode cX0_isOver 0 = .ok (.aload_n 0, 1) := by decide +kernel
theorem dX0_isOver_1 : decode cX0_isOver 1 = .ok (.getfield 9, 3) := by decide +kernel
theorem dX0_isOver_4 : decode cX0_isOver 4 = .ok (.aload_n 1, 1) := by decide +kernel
theorem dX0_isOver_5 : decode cX0_isOver 5 = .ok (.getfield 81, 3) := by decide +kernel
theorem dX0_isOver_8 : decode cX0_isOver 8 = .ok (.iadd, 1) := by decide +kernel
theorem dX0_isOver_9 : decode cX0_isOver 9 = .ok (.aload_n 0, 1) := by decide +kernel
theorem dX0_isOver_10 : decode cX0_isOver 10 = .ok (.getfield 15, 3) := by decide +kernel
theorem dX0_isOver_13 : decode cX0_isOver 13 = .ok (.iconst 2, 1) := by decide +kernel
theorem dX0_isOver_14 : decode cX0_isOver 14 = .ok (.iaload, 1) := by decide +kernel
theorem dX0_isOver_15 : decode cX0_isOver 15 = .ok (.iadd, 1) := by decide +kernel
theorem dX0_isOver_16 : decode cX0_isOver 16 = .ok (.iload_n 2, 1) := by decide +kernel
theorem dX0_isOver_17 : decode cX0_isOver 17 = .ok (.if_icmp .lt 7, 3) := by decide +kernel
theorem dX0_isOver_20 : decode cX0_isOver 20 = .ok (.iconst 1, 1) := by decide +kernel
theorem dX0_isOver_21 : decode cX0_isOver 21 = .ok (.goto 4, 3) := by decide +kernel
theorem dX0_isOver_24 : decode cX0_isOver 24 = .ok (.iconst 0, 1) := by decide +kernel
theorem dX0_isOver_25 : decode cX0_isOver 25 = .ok (.ireturn, 1) := by decide +kernel
set_option maxRecDepth 20000 in
theorem ggX0_canUse_X1_hasCopy : GoodIn wsX0_canUse wsX1_hasCopy := goodIn_r _ [4, 5, 20, 21, 22, 23, 24, 25, 26, 27, 28, 29, 30, 31, 32] (by decide +kernel) (by decide +kernel)
set_option maxRecDepth 20000 in
theorem gX0_canUse_X1_hasCopy_n84 : GoodIn wsX0_canUse (wsX1_hasCopy) := ggX0_canUse_X1_hasCopy
set_option maxRecDepth 20000 in
theorem ggX0_canUse_X0_isOver : GoodIn wsX0_canUse wsX0_isOver := goodIn_r _ [10, 11, 12, 33, 34, 35, 36, 37, 38, 39, 40, 41, 42, 43, 44, 45, 46, 47, 48, 49, 20, 21, 22, 23, 24, 25, 26, 27, 28, 29, 30, 31, 32] (by decide +kernel) (by decide +kernel)
set_option maxRecDepth 20000 in
theorem gX0_canUse_X0_isOver : GoodIn wsX0_canUse (wsV RX0 91 RX0 yX0_isOver wsX0_isOver) := goodIn_app (goodIn_of _ (by decide +kernel)) ggX0_canUse_X0_isOver
set_option maxRecDepth 20000 in
theorem ggX0_canUse_X1_volumeTermFor : GoodIn wsX0_canUse wsX1_volumeTermFor := goodIn_r _ [15, 16, 17, 18, 19, 20, 21, 22, 23, 24, 25, 26, 27, 28, 29, 30, 31, 32] (by decide +kernel) (by decide +kernel)
set_option maxRecDepth 20000 in
theorem gX0_canUse_X1_volumeTermFor_n95 : GoodIn wsX0_canUse (wsX1_volumeTermFor) := ggX0_canUse_X1_volumeTermFor
theorem dX0_canUse_0 : decode cX0_canUse 0 = .ok (.aload_n 1, 1) := by decide +kernel
theorem dX0_canUse_1 : decode cX0_canUse 1 = .ok (.iload_n 2, 1) := by decide +kernel
theorem dX0_canUse_2 : decode cX0_canUse 2 = .ok (.invokevirtual 84, 3) := by decide +kernel
theorem dX0_canUse_5 : decode cX0_canUse 5 = .ok (.ifCond .eq 34, 3) := by decide +kernel
theorem dX0_canUse_8 : decode cX0_canUse 8 = .ok (.aload_n 0, 1) := by decide +kernel
theorem dX0_canUse_9 : decode cX0_canUse 9 = .ok (.aload_n 1, 1) := by decide +kernel
theorem dX0_canUse_10 : decode cX0_canUse 10 = .ok (.aload_n 1, 1) := by decide +kernel
theorem dX0_canUse_11 : decode cX0_canUse 11 = .ok (.getfield 88, 3) := by decide +kernel
theorem dX0_canUse_14 : decode cX0_canUse 14 = .ok (.iload_n 2, 1) := by decide +kernel
theorem dX0_canUse_15 : decode cX0_canUse 15 = .ok (.iaload, 1) := by decide +kernel
theorem dX0_canUse_16 : decode cX0_canUse 16 = .ok (.invokevirtual 91, 3) := by decide +kernel
theorem dX0_canUse_19 : decode cX0_canUse 19 = .ok (.ifCond .ne 20, 3) := by decide +kernel
theorem dX0_canUse_22 : decode cX0_canUse 22 = .ok (.aload_n 0, 1) := by decide +kernel
theorem dX0_canUse_23 : decode cX0_canUse 23 = .ok (.aload_n 1, 1) := by decide +kernel
theorem dX0_canUse_24 : decode cX0_canUse 24 = .ok (.aload_n 1, 1) := by decide +kernel
theorem dX0_canUse_25 : decode cX0_canUse 25 = .ok (.iload_n 2, 1) := by decide +kernel
theorem dX0_canUse_26 : decode cX0_canUse 26 = .ok (.invokevirtual 95, 3) := by decide +kernel
theorem dX0_canUse_29 : decode cX0_canUse 29 = .ok (.invokevirtual 91, 3) := by decide +kernel
theorem dX0_canUse_32 : decode cX0_canUse 32 = .ok (.ifCond .ne 7, 3) := by decide +kernel
theorem dX0_canUse_35 : decode cX0_canUse 35 = .ok (.iconst 1, 1) := by decide +kernel
theorem dX0_canUse_36 : decode cX0_canUse 36 = .ok (.goto 4, 3) := by decide +kernel
theorem dX0_canUse_39 : decode cX0_canUse 39 = .ok (.iconst 0, 1) := by decide +kernel
theorem dX0_canUse_40 : decode cX0_canUse 40 = .ok (.ireturn, 1) := by decide +kernel
theorem dX0_isHolder_0 : decode cX0_isHolder 0 = .ok (.aload_n 1, 1) := by decide +kernel
theorem dX0_isHolder_1 : decode cX0_isHolder 1 = .ok (.getfield 99, 3) := by decide +kernel
theorem dX0_isHolder_4 : decode cX0_isHolder 4 = .ok (.iload_n 2, 1) := by decide +kernel
theorem dX0_isHolder_5 : decode cX0_isHolder 5 = .ok (.iaload, 1) := by decide +kernel
theorem dX0_isHolder_6 : decode cX0_isHolder 6 = .ok (.aload_n 0, 1) := by decide +kernel
theorem dX0_isHolder_7 : decode cX0_isHolder 7 = .ok (.getfield 9, 3) := by decide +kernel
theorem dX0_isHolder_10 : decode cX0_isHolder 10 = .ok (.if_icmp .le 7, 3) := by decide +kernel
theorem dX0_isHolder_13 : decode cX0_isHolder 13 = .ok (.iconst 1, 1) := by decide +kernel
theorem dX0_isHolder_14 : decode cX0_isHolder 14 = .ok (.goto 4, 3) := by decide +kernel
theorem dX0_isHolder_17 : decode cX0_isHolder 17 = .ok (.iconst 0, 1) := by decide +kernel
theorem dX0_isHolder_18 : decode cX0_isHolder 18 = .ok (.ireturn, 1) := by decide +kernel
theorem dX0_isWaiting_0 : decode cX0_isWaiting 0 = .ok (.aload_n 0, 1) := by decide +kernel
theorem dX0_isWaiting_1 : decode cX0_isWaiting 1 = .ok (.getfield 29, 3) := by decide +kernel
theorem dX0_isWaiting_4 : decode cX0_isWaiting 4 = .ok (.iload_n 1, 1) := by decide +kernel
theorem dX0_isWaiting_5 : decode cX0_isWaiting 5 = .ok (.iaload, 1) := by decide +kernel
theorem dX0_isWaiting_6 : decode cX0_isWaiting 6 = .ok (.bipush (-6), 2) := by decide +kernel
theorem dX0_isWaiting_8 : decode cX0_isWaiting 8 = .ok (.if_icmp .eq 7, 3) := by decide +kernel
theorem dX0_isWaiting_11 : decode cX0_isWaiting 11 = .ok (.iconst 1, 1) := by decide +kernel
theorem dX0_isWaiting_12 : decode cX0_isWaiting 12 = .ok (.goto 4, 3) := by decide +kernel
theorem dX0_isWaiting_15 : decode cX0_isWaiting 15 = .ok (.iconst 0, 1) := by decide +kernel
theorem dX0_isWaiting_16 : decode cX0_isWaiting 16 = .ok (.ireturn, 1) := by decide +kernel
set_option maxRecDepth 20000 in
theorem ggX0_countSkewedBeyondDoubt_X2_bit : GoodIn wsX0_countSkewedBeyondDoubt wsX2_bit := goodIn_r _ [9] (by decide +kernel) (by decide +kernel)
set_option maxRecDepth 20000 in
theorem gX0_countSkewedBeyondDoubt_X2_bit_n107 : GoodIn wsX0_countSkewedBeyondDoubt (wsX2_bit) := ggX0_countSkewedBeyondDoubt_X2_bit
theorem dX0_countSkewedBeyondDoubt_0 : decode cX0_countSkewedBeyondDoubt 0 = .ok (.iconst 0, 1) := by decide +kernel
theorem dX0_countSkewedBeyondDoubt_1 : decode cX0_countSkewedBeyondDoubt 1 = .ok (.istore_n 1, 1) := by decide +kernel
theorem dX0_countSkewedBeyondDoubt_2 : decode cX0_countSkewedBeyondDoubt 2 = .ok (.iconst 0, 1) := by decide +kernel
theorem dX0_countSkewedBeyondDoubt_3 : decode cX0_countSkewedBeyondDoubt 3 = .ok (.istore_n 2, 1) := by decide +kernel
theorem dX0_countSkewedBeyondDoubt_4 : decode cX0_countSkewedBeyondDoubt 4 = .ok (.iload_n 2, 1) := by decide +kernel
theorem dX0_countSkewedBeyondDoubt_5 : decode cX0_countSkewedBeyondDoubt 5 = .ok (.iconst 5, 1) := by decide +kernel
theorem dX0_countSkewedBeyondDoubt_6 : decode cX0_countSkewedBeyondDoubt 6 = .ok (.if_icmp .ge 41, 3) := by decide +kernel
theorem dX0_countSkewedBeyondDoubt_9 : decode cX0_countSkewedBeyondDoubt 9 = .ok (.iload_n 1, 1) := by decide +kernel
theorem dX0_countSkewedBeyondDoubt_10 : decode cX0_countSkewedBeyondDoubt 10 = .ok (.aload_n 0, 1) := by decide +kernel
theorem dX0_countSkewedBeyondDoubt_11 : decode cX0_countSkewedBeyondDoubt 11 = .ok (.getfield 22, 3) := by decide +kernel
theorem dX0_countSkewedBeyondDoubt_14 : decode cX0_countSkewedBeyondDoubt 14 = .ok (.iload_n 2, 1) := by decide +kernel
theorem dX0_countSkewedBeyondDoubt_15 : decode cX0_countSkewedBeyondDoubt 15 = .ok (.aaload, 1) := by decide +kernel
theorem dX0_countSkewedBeyondDoubt_16 : decode cX0_countSkewedBeyondDoubt 16 = .ok (.getfield 81, 3) := by decide +kernel
theorem dX0_countSkewedBeyondDoubt_19 : decode cX0_countSkewedBeyondDoubt 19 = .ok (.invokestatic 102, 3) := by decide +kernel
theorem dX0_countSkewedBeyondDoubt_22 : decode cX0_countSkewedBeyondDoubt 22 = .ok (.aload_n 0, 1) := by decide +kernel
theorem dX0_countSkewedBeyondDoubt_23 : decode cX0_countSkewedBeyondDoubt 23 = .ok (.getfield 15, 3) := by decide +kernel
theorem dX0_countSkewedBeyondDoubt_26 : decode cX0_countSkewedBeyondDoubt 26 = .ok (.iconst 2, 1) := by decide +kernel
theorem dX0_countSkewedBeyondDoubt_27 : decode cX0_countSkewedBeyondDoubt 27 = .ok (.iaload, 1) := by decide +kernel
theorem dX0_countSkewedBeyondDoubt_28 : decode cX0_countSkewedBeyondDoubt 28 = .ok (.if_icmp .le 7, 3) := by decide +kernel
theorem dX0_countSkewedBeyondDoubt_31 : decode cX0_countSkewedBeyondDoubt 31 = .ok (.iconst 1, 1) := by decide +kernel
theorem dX0_countSkewedBeyondDoubt_32 : decode cX0_countSkewedBeyondDoubt 32 = .ok (.goto 4, 3) := by decide +kernel
theorem dX0_countSkewedBeyondDoubt_35 : decode cX0_countSkewedBeyondDoubt 35 = .ok (.iconst 0, 1) := by decide +kernel
theorem dX0_countSkewedBeyondDoubt_36 : decode cX0_countSkewedBeyondDoubt 36 = .ok (.invokestatic 107, 3) := by decide +kernel
theorem dX0_countSkewedBeyondDoubt_39 : decode cX0_countSkewedBeyondDoubt 39 = .ok (.iadd, 1) := by decide +kernel
theorem dX0_countSkewedBeyondDoubt_40 : decode cX0_countSkewedBeyondDoubt 40 = .ok (.istore_n 1, 1) := by decide +kernel
theorem dX0_countSkewedBeyondDoubt_41 : decode cX0_countSkewedBeyondDoubt 41 = .ok (.iinc 2 1, 3) := by decide +kernel
theorem dX0_countSkewedBeyondDoubt_44 : decode cX0_countSkewedBeyondDoubt 44 = .ok (.goto (-40), 3) := by decide +kernel
theorem dX0_countSkewedBeyondDoubt_47 : decode cX0_countSkewedBeyondDoubt 47 = .ok (.iload_n 1, 1) := by decide +kernel
theorem dX0_countSkewedBeyondDoubt_48 : decode cX0_countSkewedBeyondDoubt 48 = .ok (.ireturn, 1) := by decide +kernel
set_option maxRecDepth 20000 in
theorem ggX0_readBy_X0_canUse : GoodIn wsX0_readBy wsX0_canUse := goodIn_r _ [5, 6, 7, 8, 9, 10, 11, 12, 13, 4, 14, 15, 16, 17, 18, 19, 20, 21, 22, 23, 71, 72, 73, 74, 75, 76, 77, 78, 79, 80, 81, 82, 83, 84, 85, 86, 87, 88, 89, 90, 91, 92, 93, 94, 95, 96, 97, 98, 99, 100] (by decide +kernel) (by decide +kernel)
set_option maxRecDepth 20000 in
theorem gX0_readBy_X0_canUse : GoodIn wsX0_readBy (wsV RX0 111 RX0 yX0_canUse wsX0_canUse) := goodIn_app (goodIn_of _ (by decide +kernel)) ggX0_readBy_X0_canUse
set_option maxRecDepth 20000 in
theorem ggX0_readBy_X0_useCopy : GoodIn wsX0_readBy wsX0_useCopy := goodIn_r _ [27, 28, 29, 71, 72, 73, 74, 75, 76, 77, 78, 79, 80, 81, 82, 83, 84, 85, 86, 87, 88, 89, 90, 91, 92, 93, 94, 95, 96, 97, 98, 99, 100] (by decide +kernel) (by decide +kernel)
set_option maxRecDepth 20000 in
theorem gX0_readBy_X0_useCopy : GoodIn wsX0_readBy (wsV RX0 114 RX0 yX0_useCopy wsX0_useCopy) := goodIn_app (goodIn_of _ (by decide +kernel)) ggX0_readBy_X0_useCopy
set_option maxRecDepth 20000 in
theorem ggX0_readBy_X0_noteCauses : GoodIn wsX0_readBy wsX0_noteCauses := goodIn_r _ [33, 34, 35, 36, 37, 4, 38, 39, 17, 7, 18, 19, 20, 21, 22, 23, 11, 12, 13, 14, 15, 16, 6, 8, 9, 10, 84, 85, 86, 87, 88, 89, 90, 91, 92, 93, 94, 95, 96, 97, 98, 99, 100, 71, 72, 73, 74, 75, 76, 77, 78, 79, 80, 81, 82, 83] (by decide +kernel) (by decide +kernel)
set_option maxRecDepth 20000 in
theorem gX0_readBy_X0_noteCauses : GoodIn wsX0_readBy (wsV RX0 118 RX0 yX0_noteCauses wsX0_noteCauses) := goodIn_app (goodIn_of _ (by decide +kernel)) ggX0_readBy_X0_noteCauses
set_option maxRecDepth 20000 in
theorem ggX0_readBy_X0_askHouse : GoodIn wsX0_readBy wsX0_askHouse := goodIn_r _ [43, 15, 28, 16, 17, 7, 18, 19, 20, 21, 22, 23, 11, 12, 13, 4, 14, 44, 45, 46, 47, 48, 49, 50, 51, 52, 53, 54, 6, 8, 9, 10, 55, 56, 57, 58, 59, 60, 61, 62, 63, 64, 65, 66, 67, 68, 69, 70, 71, 72, 73, 74, 75, 76, 77, 78, 79, 80, 81, 82, 83, 84, 85, 86, 87, 88, 89, 90, 91, 92, 93, 94, 95, 96, 97, 98, 99, 100] (by decide +kernel) (by decide +kernel)
set_option maxRecDepth 20000 in
theorem gX0_readBy_X0_askHouse : GoodIn wsX0_readBy (wsV RX0 129 RX0 yX0_askHouse wsX0_askHouse) := goodIn_app (goodIn_of _ (by decide +kernel)) ggX0_readBy_X0_askHouse
theorem dX0_readBy_0 : decode cX0_readBy 0 = .ok (.aload_n 0, 1) := by decide +kernel
theorem dX0_readBy_1 : decode cX0_readBy 1 = .ok (.aload_n 1, 1) := by decide +kernel
theorem dX0_readBy_2 : decode cX0_readBy 2 = .ok (.iload_n 2, 1) := by decide +kernel
theorem dX0_readBy_3 : decode cX0_readBy 3 = .ok (.invokevirtual 111, 3) := by decide +kernel
theorem dX0_readBy_6 : decode cX0_readBy 6 = .ok (.ifCond .eq 10, 3) := by decide +kernel
theorem dX0_readBy_9 : decode cX0_readBy 9 = .ok (.aload_n 0, 1) := by decide +kernel
theorem dX0_readBy_10 : decode cX0_readBy 10 = .ok (.aload_n 1, 1) := by decide +kernel
theorem dX0_readBy_11 : decode cX0_readBy 11 = .ok (.iload_n 2, 1) := by decide +kernel
theorem dX0_readBy_12 : decode cX0_readBy 12 = .ok (.invokevirtual 114, 3) := by decide +kernel
theorem dX0_readBy_15 : decode cX0_readBy 15 = .ok (.ireturn, 1) := by decide +kernel
theorem dX0_readBy_16 : decode cX0_readBy 16 = .ok (.aload_n 0, 1) := by decide +kernel
theorem dX0_readBy_17 : decode cX0_readBy 17 = .ok (.aload_n 1, 1) := by decide +kernel
theorem dX0_readBy_18 : decode cX0_readBy 18 = .ok (.iload_n 2, 1) := by decide +kernel
theorem dX0_readBy_19 : decode cX0_readBy 19 = .ok (.invokevirtual 118, 3) := by decide +kernel
theorem dX0_readBy_22 : decode cX0_readBy 22 = .ok (.aload_n 1, 1) := by decide +kernel
theorem dX0_readBy_23 : decode cX0_readBy 23 = .ok (.getfield 122, 3) := by decide +kernel
theorem dX0_readBy_26 : decode cX0_readBy 26 = .ok (.ifCond .ne 15, 3) := by decide +kernel
theorem dX0_readBy_29 : decode cX0_readBy 29 = .ok (.aload_n 1, 1) := by decide +kernel
theorem dX0_readBy_30 : decode cX0_readBy 30 = .ok (.dup, 1) := by decide +kernel
theorem dX0_readBy_31 : decode cX0_readBy 31 = .ok (.getfield 126, 3) := by decide +kernel
theorem dX0_readBy_34 : decode cX0_readBy 34 = .ok (.iconst 1, 1) := by decide +kernel
theorem dX0_readBy_35 : decode cX0_readBy 35 = .ok (.iadd, 1) := by decide +kernel
theorem dX0_readBy_36 : decode cX0_readBy 36 = .ok (.putfield 126, 3) := by decide +kernel
theorem dX0_readBy_39 : decode cX0_readBy 39 = .ok (.iconst 4, 1) := by decide +kernel
theorem dX0_readBy_40 : decode cX0_readBy 40 = .ok (.ireturn, 1) := by decide +kernel
theorem dX0_readBy_41 : decode cX0_readBy 41 = .ok (.aload_n 0, 1) := by decide +kernel
theorem dX0_readBy_42 : decode cX0_readBy 42 = .ok (.aload_n 1, 1) := by decide +kernel
theorem dX0_readBy_43 : decode cX0_readBy 43 = .ok (.iload_n 2, 1) := by decide +kernel
theorem dX0_readBy_44 : decode cX0_readBy 44 = .ok (.invokevirtual 129, 3) := by decide +kernel
theorem dX0_readBy_47 : decode cX0_readBy 47 = .ok (.ireturn, 1) := by decide +kernel
theorem dX0_useCopy_0 : decode cX0_useCopy 0 = .ok (.aload_n 1, 1) := by decide +kernel
theorem dX0_useCopy_1 : decode cX0_useCopy 1 = .ok (.dup, 1) := by decide +kernel
theorem dX0_useCopy_2 : decode cX0_useCopy 2 = .ok (.getfield 132, 3) := by decide +kernel
theorem dX0_useCopy_5 : decode cX0_useCopy 5 = .ok (.iconst 1, 1) := by decide +kernel
theorem dX0_useCopy_6 : decode cX0_useCopy 6 = .ok (.iadd, 1) := by decide +kernel
theorem dX0_useCopy_7 : decode cX0_useCopy 7 = .ok (.putfield 132, 3) := by decide +kernel
theorem dX0_useCopy_10 : decode cX0_useCopy 10 = .ok (.aload_n 1, 1) := by decide +kernel
theorem dX0_useCopy_11 : decode cX0_useCopy 11 = .ok (.aload_n 1, 1) := by decide +kernel
theorem dX0_useCopy_12 : decode cX0_useCopy 12 = .ok (.getfield 135, 3) := by decide +kernel
theorem dX0_useCopy_15 : decode cX0_useCopy 15 = .ok (.iload_n 2, 1) := by decide +kernel
theorem dX0_useCopy_16 : decode cX0_useCopy 16 = .ok (.iaload, 1) := by decide +kernel
theorem dX0_useCopy_17 : decode cX0_useCopy 17 = .ok (.putfield 138, 3) := by decide +kernel
theorem dX0_useCopy_20 : decode cX0_useCopy 20 = .ok (.aload_n 1, 1) := by decide +kernel
theorem dX0_useCopy_21 : decode cX0_useCopy 21 = .ok (.getfield 135, 3) := by decide +kernel
theorem dX0_useCopy_24 : decode cX0_useCopy 24 = .ok (.iload_n 2, 1) := by decide +kernel
theorem dX0_useCopy_25 : decode cX0_useCopy 25 = .ok (.iaload, 1) := by decide +kernel
theorem dX0_useCopy_26 : decode cX0_useCopy 26 = .ok (.aload_n 0, 1) := by decide +kernel
theorem dX0_useCopy_27 : decode cX0_useCopy 27 = .ok (.getfield 26, 3) := by decide +kernel
theorem dX0_useCopy_30 : decode cX0_useCopy 30 = .ok (.iload_n 2, 1) := by decide +kernel
theorem dX0_useCopy_31 : decode cX0_useCopy 31 = .ok (.iaload, 1) := by decide +kernel
theorem dX0_useCopy_32 : decode cX0_useCopy 32 = .ok (.if_icmp .ne 5, 3) := by decide +kernel
theorem dX0_useCopy_35 : decode cX0_useCopy 35 = .ok (.iconst 0, 1) := by decide +kernel
theorem dX0_useCopy_36 : decode cX0_useCopy 36 = .ok (.ireturn, 1) := by decide +kernel
theorem dX0_useCopy_37 : decode cX0_useCopy 37 = .ok (.aload_n 0, 1) := by decide +kernel
theorem dX0_useCopy_38 : decode cX0_useCopy 38 = .ok (.dup, 1) := by decide +kernel
theorem dX0_useCopy_39 : decode cX0_useCopy 39 = .ok (.getfield 50, 3) := by decide +kernel
theorem dX0_useCopy_42 : decode cX0_useCopy 42 = .ok (.iconst 1, 1) := by decide +kernel
theorem dX0_useCopy_43 : decode cX0_useCopy 43 = .ok (.iadd, 1) := by decide +kernel
theorem dX0_useCopy_44 : decode cX0_useCopy 44 = .ok (.putfield 50, 3) := by decide +kernel
theorem dX0_useCopy_47 : decode cX0_useCopy 47 = .ok (.iconst 1, 1) := by decide +kernel
theorem dX0_useCopy_48 : decode cX0_useCopy 48 = .ok (.ireturn, 1) := by decide +kernel
set_option maxRecDepth 20000 in
theorem ggX0_noteCauses_X0_addCauseIf : GoodIn wsX0_noteCauses wsX0_addCauseIf := goodIn_r _ [6, 1, 7, 26, 27, 28, 29, 30, 31, 32, 33, 34, 35, 36, 37, 38, 39, 40, 41, 42] (by decide +kernel) (by decide +kernel)
set_option maxRecDepth 20000 in
theorem gX0_noteCauses_X0_addCauseIf : GoodIn wsX0_noteCauses (wsV RX0 141 RX0 yX0_addCauseIf wsX0_addCauseIf) := goodIn_app (goodIn_of _ (by decide +kernel)) ggX0_noteCauses_X0_addCauseIf
set_option maxRecDepth 20000 in
theorem ggX0_noteCauses_X1_volumeTermFor : GoodIn wsX0_noteCauses wsX1_volumeTermFor := goodIn_r _ [11, 12, 13, 14, 15, 43, 44, 45, 46, 47, 48, 49, 50, 51, 52, 53, 54, 55] (by decide +kernel) (by decide +kernel)
set_option maxRecDepth 20000 in
theorem gX0_noteCauses_X1_volumeTermFor_n95 : GoodIn wsX0_noteCauses (wsX1_volumeTermFor) := ggX0_noteCauses_X1_volumeTermFor
set_option maxRecDepth 20000 in
theorem ggX0_noteCauses_X0_isOver : GoodIn wsX0_noteCauses wsX0_isOver := goodIn_r _ [19, 20, 21, 26, 27, 28, 29, 30, 31, 32, 33, 34, 35, 36, 37, 38, 39, 40, 41, 42, 43, 44, 45, 46, 47, 48, 49, 50, 51, 52, 53, 54, 55] (by decide +kernel) (by decide +kernel)
set_option maxRecDepth 20000 in
theorem gX0_noteCauses_X0_isOver : GoodIn wsX0_noteCauses (wsV RX0 91 RX0 yX0_isOver wsX0_isOver) := goodIn_app (goodIn_of _ (by decide +kernel)) ggX0_noteCauses_X0_isOver
set_option maxRecDepth 20000 in
theorem ggX0_noteCauses_X1_hasCopy : GoodIn wsX0_noteCauses wsX1_hasCopy := goodIn_r _ [24, 25, 43, 44, 45, 46, 47, 48, 49, 50, 51, 52, 53, 54, 55] (by decide +kernel) (by decide +kernel)
set_option maxRecDepth 20000 in
theorem gX0_noteCauses_X1_hasCopy_n84 : GoodIn wsX0_noteCauses (wsX1_hasCopy) := ggX0_noteCauses_X1_hasCopy
theorem dX0_noteCauses_0 : decode cX0_noteCauses 0 = .ok (.aload_n 0, 1) := by decide +kernel
theorem dX0_noteCauses_1 : decode cX0_noteCauses 1 = .ok (.iconst 0, 1) := by decide +kernel
theorem dX0_noteCauses_2 : decode cX0_noteCauses 2 = .ok (.putfield 41, 3) := by decide +kernel
theorem dX0_noteCauses_5 : decode cX0_noteCauses 5 = .ok (.aload_n 0, 1) := by decide +kernel
theorem dX0_noteCauses_6 : decode cX0_noteCauses 6 = .ok (.aload_n 1, 1) := by decide +kernel
theorem dX0_noteCauses_7 : decode cX0_noteCauses 7 = .ok (.getfield 122, 3) := by decide +kernel
theorem dX0_noteCauses_10 : decode cX0_noteCauses 10 = .ok (.ifCond .ne 7, 3) := by decide +kernel
theorem dX0_noteCauses_13 : decode cX0_noteCauses 13 = .ok (.iconst 1, 1) := by decide +kernel
theorem dX0_noteCauses_14 : decode cX0_noteCauses 14 = .ok (.goto 4, 3) := by decide +kernel
theorem dX0_noteCauses_17 : decode cX0_noteCauses 17 = .ok (.iconst 0, 1) := by decide +kernel
theorem dX0_noteCauses_18 : decode cX0_noteCauses 18 = .ok (.iconst 1, 1) := by decide +kernel
theorem dX0_noteCauses_19 : decode cX0_noteCauses 19 = .ok (.invokevirtual 141, 3) := by decide +kernel
theorem dX0_noteCauses_22 : decode cX0_noteCauses 22 = .ok (.aload_n 0, 1) := by decide +kernel
theorem dX0_noteCauses_23 : decode cX0_noteCauses 23 = .ok (.aload_n 0, 1) := by decide +kernel
theorem dX0_noteCauses_24 : decode cX0_noteCauses 24 = .ok (.aload_n 1, 1) := by decide +kernel
theorem dX0_noteCauses_25 : decode cX0_noteCauses 25 = .ok (.aload_n 1, 1) := by decide +kernel
theorem dX0_noteCauses_26 : decode cX0_noteCauses 26 = .ok (.iload_n 2, 1) := by decide +kernel
theorem dX0_noteCauses_27 : decode cX0_noteCauses 27 = .ok (.invokevirtual 95, 3) := by decide +kernel
theorem dX0_noteCauses_30 : decode cX0_noteCauses 30 = .ok (.invokevirtual 91, 3) := by decide +kernel
theorem dX0_noteCauses_33 : decode cX0_noteCauses 33 = .ok (.iconst 2, 1) := by decide +kernel
theorem dX0_noteCauses_34 : decode cX0_noteCauses 34 = .ok (.invokevirtual 141, 3) := by decide +kernel
theorem dX0_noteCauses_37 : decode cX0_noteCauses 37 = .ok (.aload_n 0, 1) := by decide +kernel
theorem dX0_noteCauses_38 : decode cX0_noteCauses 38 = .ok (.aload_n 0, 1) := by decide +kernel
theorem dX0_noteCauses_39 : decode cX0_noteCauses 39 = .ok (.aload_n 1, 1) := by decide +kernel
theorem dX0_noteCauses_40 : decode cX0_noteCauses 40 = .ok (.aload_n 1, 1) := by decide +kernel
theorem dX0_noteCauses_41 : decode cX0_noteCauses 41 = .ok (.getfield 88, 3) := by decide +kernel
theorem dX0_noteCauses_44 : decode cX0_noteCauses 44 = .ok (.iload_n 2, 1) := by decide +kernel
theorem dX0_noteCauses_45 : decode cX0_noteCauses 45 = .ok (.iaload, 1) := by decide +kernel
theorem dX0_noteCauses_46 : decode cX0_noteCauses 46 = .ok (.invokevirtual 91, 3) := by decide +kernel
theorem dX0_noteCauses_49 : decode cX0_noteCauses 49 = .ok (.iconst 3, 1) := by decide +kernel
theorem dX0_noteCauses_50 : decode cX0_noteCauses 50 = .ok (.invokevirtual 141, 3) := by decide +kernel
theorem dX0_noteCauses_53 : decode cX0_noteCauses 53 = .ok (.aload_n 0, 1) := by decide +kernel
theorem dX0_noteCauses_54 : decode cX0_noteCauses 54 = .ok (.aload_n 1, 1) := by decide +kernel
theorem dX0_noteCauses_55 : decode cX0_noteCauses 55 = .ok (.iload_n 2, 1) := by decide +kernel
theorem dX0_noteCauses_56 : decode cX0_noteCauses 56 = .ok (.invokevirtual 84, 3) := by decide +kernel
theorem dX0_noteCauses_59 : decode cX0_noteCauses 59 = .ok (.ifCond .ne 7, 3) := by decide +kernel
theorem dX0_noteCauses_62 : decode cX0_noteCauses 62 = .ok (.iconst 1, 1) := by decide +kernel
theorem dX0_noteCauses_63 : decode cX0_noteCauses 63 = .ok (.goto 4, 3) := by decide +kernel
theorem dX0_noteCauses_66 : decode cX0_noteCauses 66 = .ok (.iconst 0, 1) := by decide +kernel
theorem dX0_noteCauses_67 : decode cX0_noteCauses 67 = .ok (.iconst 4, 1) := by decide +kernel
theorem dX0_noteCauses_68 : decode cX0_noteCauses 68 = .ok (.invokevirtual 141, 3) := by decide +kernel
theorem dX0_noteCauses_71 : decode cX0_noteCauses 71 = .ok (.return_, 1) := by decide +kernel
theorem dX0_addCauseIf_0 : decode cX0_addCauseIf 0 = .ok (.iload_n 1, 1) := by decide +kernel
theorem dX0_addCauseIf_1 : decode cX0_addCauseIf 1 = .ok (.ifCond .eq 31, 3) := by decide +kernel
theorem dX0_addCauseIf_4 : decode cX0_addCauseIf 4 = .ok (.aload_n 0, 1) := by decide +kernel
theorem dX0_addCauseIf_5 : decode cX0_addCauseIf 5 = .ok (.getfield 41, 3) := by decide +kernel
theorem dX0_addCauseIf_8 : decode cX0_addCauseIf 8 = .ok (.iconst 4, 1) := by decide +kernel
theorem dX0_addCauseIf_9 : decode cX0_addCauseIf 9 = .ok (.if_icmp .ge 23, 3) := by decide +kernel
theorem dX0_addCauseIf_12 : decode cX0_addCauseIf 12 = .ok (.aload_n 0, 1) := by decide +kernel
theorem dX0_addCauseIf_13 : decode cX0_addCauseIf 13 = .ok (.getfield 38, 3) := by decide +kernel
theorem dX0_addCauseIf_16 : decode cX0_addCauseIf 16 = .ok (.aload_n 0, 1) := by decide +kernel
theorem dX0_addCauseIf_17 : decode cX0_addCauseIf 17 = .ok (.getfield 41, 3) := by decide +kernel
theorem dX0_addCauseIf_20 : decode cX0_addCauseIf 20 = .ok (.iload_n 2, 1) := by decide +kernel
theorem dX0_addCauseIf_21 : decode cX0_addCauseIf 21 = .ok (.iastore, 1) := by decide +kernel
theorem dX0_addCauseIf_22 : decode cX0_addCauseIf 22 = .ok (.aload_n 0, 1) := by decide +kernel
theorem dX0_addCauseIf_23 : decode cX0_addCauseIf 23 = .ok (.dup, 1) := by decide +kernel
theorem dX0_addCauseIf_24 : decode cX0_addCauseIf 24 = .ok (.getfield 41, 3) := by decide +kernel
theorem dX0_addCauseIf_27 : decode cX0_addCauseIf 27 = .ok (.iconst 1, 1) := by decide +kernel
theorem dX0_addCauseIf_28 : decode cX0_addCauseIf 28 = .ok (.iadd, 1) := by decide +kernel
theorem dX0_addCauseIf_29 : decode cX0_addCauseIf 29 = .ok (.putfield 41, 3) := by decide +kernel
theorem dX0_addCauseIf_32 : decode cX0_addCauseIf 32 = .ok (.return_, 1) := by decide +kernel
set_option maxRecDepth 20000 in
theorem ggX0_askHouse_X1_volumeTermFor : GoodIn wsX0_askHouse wsX1_volumeTermFor := goodIn_r _ [7, 8, 9, 10, 11, 48, 49, 50, 51, 52, 53, 54, 55, 56, 57, 58, 59, 60] (by decide +kernel) (by decide +kernel)
set_option maxRecDepth 20000 in
theorem gX0_askHouse_X1_volumeTermFor_n95 : GoodIn wsX0_askHouse (wsX1_volumeTermFor) := ggX0_askHouse_X1_volumeTermFor
set_option maxRecDepth 20000 in
theorem ggX0_askHouse_X0_isOver : GoodIn wsX0_askHouse wsX0_isOver := goodIn_r _ [16, 1, 3, 61, 62, 63, 64, 65, 66, 67, 68, 69, 70, 71, 72, 73, 74, 75, 76, 77, 48, 49, 50, 51, 52, 53, 54, 55, 56, 57, 58, 59, 60] (by decide +kernel) (by decide +kernel)
set_option maxRecDepth 20000 in
theorem gX0_askHouse_X0_isOver : GoodIn wsX0_askHouse (wsV RX0 91 RX0 yX0_isOver wsX0_isOver) := goodIn_app (goodIn_of _ (by decide +kernel)) ggX0_askHouse_X0_isOver
set_option maxRecDepth 20000 in
theorem ggX0_askHouse_X2_volumeOf : GoodIn wsX0_askHouse wsX2_volumeOf := goodIn_r _ [11] (by decide +kernel) (by decide +kernel)
set_option maxRecDepth 20000 in
theorem gX0_askHouse_X2_volumeOf_n148 : GoodIn wsX0_askHouse (wsX2_volumeOf) := ggX0_askHouse_X2_volumeOf
set_option maxRecDepth 20000 in
theorem ggX0_askHouse_X0_renew : GoodIn wsX0_askHouse wsX0_renew := goodIn_r _ [20, 1, 3, 21, 22, 23, 24, 15, 25, 26, 10, 27, 28, 5, 29, 30, 31, 32, 33, 34, 35, 36, 37, 38, 39, 40, 41, 42, 48, 49, 50, 51, 52, 53, 54, 55, 56, 57, 58, 59, 60, 61, 62, 63, 64, 65, 66, 67, 68, 69, 70, 71, 72, 73, 74, 75, 76, 77] (by decide +kernel) (by decide +kernel)
set_option maxRecDepth 20000 in
theorem gX0_askHouse_X0_renew : GoodIn wsX0_askHouse (wsV RX0 151 RX0 yX0_renew wsX0_renew) := goodIn_app (goodIn_of _ (by decide +kernel)) ggX0_askHouse_X0_renew
set_option maxRecDepth 20000 in
theorem ggX0_askHouse_X0_isWaiting : GoodIn wsX0_askHouse wsX0_isWaiting := goodIn_r _ [46, 47, 61, 62, 63, 64, 65, 66, 67, 68, 69, 70, 71, 72, 73, 74, 75, 76, 77] (by decide +kernel) (by decide +kernel)
set_option maxRecDepth 20000 in
theorem gX0_askHouse_X0_isWaiting : GoodIn wsX0_askHouse (wsV RX0 154 RX0 yX0_isWaiting wsX0_isWaiting) := goodIn_app (goodIn_of _ (by decide +kernel)) ggX0_askHouse_X0_isWaiting
set_option maxRecDepth 20000 in
theorem ggX0_askHouse_X1_takeCopy : GoodIn wsX0_askHouse wsX1_takeCopy := goodIn_r _ [40, 31, 41, 42, 48, 49, 50, 51, 52, 53, 54, 55, 56, 57, 58, 59, 60] (by decide +kernel) (by decide +kernel)
set_option maxRecDepth 20000 in
theorem gX0_askHouse_X1_takeCopy_n157 : GoodIn wsX0_askHouse (wsX1_takeCopy) := ggX0_askHouse_X1_takeCopy
theorem dX0_askHouse_0 : decode cX0_askHouse 0 = .ok (.aload_n 1, 1) := by decide +kernel
theorem dX0_askHouse_1 : decode cX0_askHouse 1 = .ok (.dup, 1) := by decide +kernel
theorem dX0_askHouse_2 : decode cX0_askHouse 2 = .ok (.getfield 145, 3) := by decide +kernel
theorem dX0_askHouse_5 : decode cX0_askHouse 5 = .ok (.iconst 1, 1) := by decide +kernel
theorem dX0_askHouse_6 : decode cX0_askHouse 6 = .ok (.iadd, 1) := by decide +kernel
theorem dX0_askHouse_7 : decode cX0_askHouse 7 = .ok (.putfield 145, 3) := by decide +kernel
theorem dX0_askHouse_10 : decode cX0_askHouse 10 = .ok (.aload_n 1, 1) := by decide +kernel
theorem dX0_askHouse_11 : decode cX0_askHouse 11 = .ok (.iload_n 2, 1) := by decide +kernel
theorem dX0_askHouse_12 : decode cX0_askHouse 12 = .ok (.invokevirtual 95, 3) := by decide +kernel
theorem dX0_askHouse_15 : decode cX0_askHouse 15 = .ok (.istore_n 3, 1) := by decide +kernel
theorem dX0_askHouse_16 : decode cX0_askHouse 16 = .ok (.aload_n 0, 1) := by decide +kernel
theorem dX0_askHouse_17 : decode cX0_askHouse 17 = .ok (.aload_n 1, 1) := by decide +kernel
theorem dX0_askHouse_18 : decode cX0_askHouse 18 = .ok (.iload_n 3, 1) := by decide +kernel
theorem dX0_askHouse_19 : decode cX0_askHouse 19 = .ok (.invokevirtual 91, 3) := by decide +kernel
theorem dX0_askHouse_22 : decode cX0_askHouse 22 = .ok (.ifCond .ne 11, 3) := by decide +kernel
theorem dX0_askHouse_25 : decode cX0_askHouse 25 = .ok (.iload_n 3, 1) := by decide +kernel
theorem dX0_askHouse_26 : decode cX0_askHouse 26 = .ok (.aload_n 0, 1) := by decide +kernel
theorem dX0_askHouse_27 : decode cX0_askHouse 27 = .ok (.getfield 9, 3) := by decide +kernel
theorem dX0_askHouse_30 : decode cX0_askHouse 30 = .ok (.if_icmp .gt 12, 3) := by decide +kernel
theorem dX0_askHouse_33 : decode cX0_askHouse 33 = .ok (.aload_n 0, 1) := by decide +kernel
theorem dX0_askHouse_34 : decode cX0_askHouse 34 = .ok (.aload_n 1, 1) := by decide +kernel
theorem dX0_askHouse_35 : decode cX0_askHouse 35 = .ok (.iload_n 2, 1) := by decide +kernel
theorem dX0_askHouse_36 : decode cX0_askHouse 36 = .ok (.invokestatic 148, 3) := by decide +kernel
theorem dX0_askHouse_39 : decode cX0_askHouse 39 = .ok (.invokevirtual 151, 3) := by decide +kernel
theorem dX0_askHouse_42 : decode cX0_askHouse 42 = .ok (.aload_n 1, 1) := by decide +kernel
theorem dX0_askHouse_43 : decode cX0_askHouse 43 = .ok (.aload_n 0, 1) := by decide +kernel
theorem dX0_askHouse_44 : decode cX0_askHouse 44 = .ok (.getfield 26, 3) := by decide +kernel
theorem dX0_askHouse_47 : decode cX0_askHouse 47 = .ok (.iload_n 2, 1) := by decide +kernel
theorem dX0_askHouse_48 : decode cX0_askHouse 48 = .ok (.iaload, 1) := by decide +kernel
theorem dX0_askHouse_49 : decode cX0_askHouse 49 = .ok (.putfield 138, 3) := by decide +kernel
theorem dX0_askHouse_52 : decode cX0_askHouse 52 = .ok (.aload_n 0, 1) := by decide +kernel
theorem dX0_askHouse_53 : decode cX0_askHouse 53 = .ok (.iload_n 2, 1) := by decide +kernel
theorem dX0_askHouse_54 : decode cX0_askHouse 54 = .ok (.invokevirtual 154, 3) := by decide +kernel
theorem dX0_askHouse_57 : decode cX0_askHouse 57 = .ok (.ifCond .eq 5, 3) := by decide +kernel
theorem dX0_askHouse_60 : decode cX0_askHouse 60 = .ok (.iconst 3, 1) := by decide +kernel
theorem dX0_askHouse_61 : decode cX0_askHouse 61 = .ok (.ireturn, 1) := by decide +kernel
theorem dX0_askHouse_62 : decode cX0_askHouse 62 = .ok (.aload_n 1, 1) := by decide +kernel
theorem dX0_askHouse_63 : decode cX0_askHouse 63 = .ok (.iload_n 2, 1) := by decide +kernel
theorem dX0_askHouse_64 : decode cX0_askHouse 64 = .ok (.aload_n 0, 1) := by decide +kernel
theorem dX0_askHouse_65 : decode cX0_askHouse 65 = .ok (.getfield 26, 3) := by decide +kernel
theorem dX0_askHouse_68 : decode cX0_askHouse 68 = .ok (.iload_n 2, 1) := by decide +kernel
theorem dX0_askHouse_69 : decode cX0_askHouse 69 = .ok (.iaload, 1) := by decide +kernel
theorem dX0_askHouse_70 : decode cX0_askHouse 70 = .ok (.aload_n 0, 1) := by decide +kernel
theorem dX0_askHouse_71 : decode cX0_askHouse 71 = .ok (.getfield 9, 3) := by decide +kernel
theorem dX0_askHouse_74 : decode cX0_askHouse 74 = .ok (.aload_n 0, 1) := by decide +kernel
theorem dX0_askHouse_75 : decode cX0_askHouse 75 = .ok (.getfield 15, 3) := by decide +kernel
theorem dX0_askHouse_78 : decode cX0_askHouse 78 = .ok (.iconst 0, 1) := by decide +kernel
theorem dX0_askHouse_79 : decode cX0_askHouse 79 = .ok (.iaload, 1) := by decide +kernel
theorem dX0_askHouse_80 : decode cX0_askHouse 80 = .ok (.iadd, 1) := by decide +kernel
theorem dX0_askHouse_81 : decode cX0_askHouse 81 = .ok (.invokevirtual 157, 3) := by decide +kernel
theorem dX0_askHouse_84 : decode cX0_askHouse 84 = .ok (.iconst 2, 1) := by decide +kernel
theorem dX0_askHouse_85 : decode cX0_askHouse 85 = .ok (.ireturn, 1) := by decide +kernel
set_option maxRecDepth 20000 in
theorem ggX0_renew_X0_dropByList : GoodIn wsX0_renew wsX0_dropByList := goodIn_r _ [8, 1, 2, 9, 10, 11, 12, 13, 14, 15, 16, 17, 18, 19, 20, 21, 22, 23, 24, 25, 26, 27, 41, 42, 43, 44, 45, 46, 47, 48, 49, 50, 51, 52, 53, 54, 55, 56, 57, 28, 29, 30, 31, 32, 33, 34, 35, 36, 37, 38, 39, 40] (by decide +kernel) (by decide +kernel)
set_option maxRecDepth 20000 in
theorem gX0_renew_X0_dropByList : GoodIn wsX0_renew (wsV RX0 164 RX0 yX0_dropByList wsX0_dropByList) := goodIn_app (goodIn_of _ (by decide +kernel)) ggX0_renew_X0_dropByList
theorem dX0_renew_0 : decode cX0_renew 0 = .ok (.aload_n 1, 1) := by decide +kernel
theorem dX0_renew_1 : decode cX0_renew 1 = .ok (.getfield 161, 3) := by decide +kernel
theorem dX0_renew_4 : decode cX0_renew 4 = .ok (.iload_n 2, 1) := by decide +kernel
theorem dX0_renew_5 : decode cX0_renew 5 = .ok (.iaload, 1) := by decide +kernel
theorem dX0_renew_6 : decode cX0_renew 6 = .ok (.ifCond .eq 9, 3) := by decide +kernel
theorem dX0_renew_9 : decode cX0_renew 9 = .ok (.aload_n 0, 1) := by decide +kernel
theorem dX0_renew_10 : decode cX0_renew 10 = .ok (.aload_n 1, 1) := by decide +kernel
theorem dX0_renew_11 : decode cX0_renew 11 = .ok (.iload_n 2, 1) := by decide +kernel
theorem dX0_renew_12 : decode cX0_renew 12 = .ok (.invokevirtual 164, 3) := by decide +kernel
theorem dX0_renew_15 : decode cX0_renew 15 = .ok (.aload_n 1, 1) := by decide +kernel
theorem dX0_renew_16 : decode cX0_renew 16 = .ok (.getfield 167, 3) := by decide +kernel
theorem dX0_renew_19 : decode cX0_renew 19 = .ok (.iload_n 2, 1) := by decide +kernel
theorem dX0_renew_20 : decode cX0_renew 20 = .ok (.aload_n 0, 1) := by decide +kernel
theorem dX0_renew_21 : decode cX0_renew 21 = .ok (.getfield 9, 3) := by decide +kernel
theorem dX0_renew_24 : decode cX0_renew 24 = .ok (.aload_n 0, 1) := by decide +kernel
theorem dX0_renew_25 : decode cX0_renew 25 = .ok (.getfield 15, 3) := by decide +kernel
theorem dX0_renew_28 : decode cX0_renew 28 = .ok (.iconst 1, 1) := by decide +kernel
theorem dX0_renew_29 : decode cX0_renew 29 = .ok (.iaload, 1) := by decide +kernel
theorem dX0_renew_30 : decode cX0_renew 30 = .ok (.iadd, 1) := by decide +kernel
theorem dX0_renew_31 : decode cX0_renew 31 = .ok (.iastore, 1) := by decide +kernel
theorem dX0_renew_32 : decode cX0_renew 32 = .ok (.aload_n 0, 1) := by decide +kernel
theorem dX0_renew_33 : decode cX0_renew 33 = .ok (.dup, 1) := by decide +kernel
theorem dX0_renew_34 : decode cX0_renew 34 = .ok (.getfield 65, 3) := by decide +kernel
theorem dX0_renew_37 : decode cX0_renew 37 = .ok (.iconst 1, 1) := by decide +kernel
theorem dX0_renew_38 : decode cX0_renew 38 = .ok (.iadd, 1) := by decide +kernel
theorem dX0_renew_39 : decode cX0_renew 39 = .ok (.putfield 65, 3) := by decide +kernel
theorem dX0_renew_42 : decode cX0_renew 42 = .ok (.return_, 1) := by decide +kernel
set_option maxRecDepth 20000 in
theorem ggX0_dropByList_X2_isInSet : GoodIn wsX0_dropByList wsX2_isInSet := goodIn_r _ [5] (by decide +kernel) (by decide +kernel)
set_option maxRecDepth 20000 in
theorem gX0_dropByList_X2_isInSet_n170 : GoodIn wsX0_dropByList (wsX2_isInSet) := ggX0_dropByList_X2_isInSet
set_option maxRecDepth 20000 in
theorem ggX0_dropByList_X1_hasCopy : GoodIn wsX0_dropByList wsX1_hasCopy := goodIn_r _ [9, 10, 39, 40, 41, 42, 43, 44, 45, 46, 47, 48, 49, 50, 51] (by decide +kernel) (by decide +kernel)
set_option maxRecDepth 20000 in
theorem gX0_dropByList_X1_hasCopy_n84 : GoodIn wsX0_dropByList (wsX1_hasCopy) := ggX0_dropByList_X1_hasCopy
set_option maxRecDepth 20000 in
theorem ggX0_dropByList_X2_bit : GoodIn wsX0_dropByList wsX2_bit := goodIn_r _ [12] (by decide +kernel) (by decide +kernel)
set_option maxRecDepth 20000 in
theorem gX0_dropByList_X2_bit_n107 : GoodIn wsX0_dropByList (wsX2_bit) := ggX0_dropByList_X2_bit
set_option maxRecDepth 20000 in
theorem ggX0_dropByList_X1_dropCopy : GoodIn wsX0_dropByList wsX1_dropCopy := goodIn_r _ [15, 16, 17, 18, 7, 19, 10, 20, 21, 39, 40, 41, 42, 43, 44, 45, 46, 47, 48, 49, 50, 51] (by decide +kernel) (by decide +kernel)
set_option maxRecDepth 20000 in
theorem gX0_dropByList_X1_dropCopy_n177 : GoodIn wsX0_dropByList (wsX1_dropCopy) := ggX0_dropByList_X1_dropCopy
theorem dX0_dropByList_0 : decode cX0_dropByList 0 = .ok (.aload_n 0, 1) := by decide +kernel
theorem dX0_dropByList_1 : decode cX0_dropByList 1 = .ok (.getfield 9, 3) := by decide +kernel
theorem dX0_dropByList_4 : decode cX0_dropByList 4 = .ok (.aload_n 1, 1) := by decide +kernel
theorem dX0_dropByList_5 : decode cX0_dropByList 5 = .ok (.getfield 167, 3) := by decide +kernel
theorem dX0_dropByList_8 : decode cX0_dropByList 8 = .ok (.iload_n 2, 1) := by decide +kernel
theorem dX0_dropByList_9 : decode cX0_dropByList 9 = .ok (.iaload, 1) := by decide +kernel
theorem dX0_dropByList_10 : decode cX0_dropByList 10 = .ok (.isub, 1) := by decide +kernel
theorem dX0_dropByList_11 : decode cX0_dropByList 11 = .ok (.aload_n 0, 1) := by decide +kernel
theorem dX0_dropByList_12 : decode cX0_dropByList 12 = .ok (.getfield 15, 3) := by decide +kernel
theorem dX0_dropByList_15 : decode cX0_dropByList 15 = .ok (.iconst 3, 1) := by decide +kernel
theorem dX0_dropByList_16 : decode cX0_dropByList 16 = .ok (.iaload, 1) := by decide +kernel
theorem dX0_dropByList_17 : decode cX0_dropByList 17 = .ok (.if_icmp .le 7, 3) := by decide +kernel
theorem dX0_dropByList_20 : decode cX0_dropByList 20 = .ok (.iconst 1, 1) := by decide +kernel
theorem dX0_dropByList_21 : decode cX0_dropByList 21 = .ok (.goto 4, 3) := by decide +kernel
theorem dX0_dropByList_24 : decode cX0_dropByList 24 = .ok (.iconst 0, 1) := by decide +kernel
theorem dX0_dropByList_25 : decode cX0_dropByList 25 = .ok (.istore_n 3, 1) := by decide +kernel
theorem dX0_dropByList_26 : decode cX0_dropByList 26 = .ok (.iload_n 2, 1) := by decide +kernel
theorem dX0_dropByList_27 : decode cX0_dropByList 27 = .ok (.iconst 4, 1) := by decide +kernel
theorem dX0_dropByList_28 : decode cX0_dropByList 28 = .ok (.imul, 1) := by decide +kernel
theorem dX0_dropByList_29 : decode cX0_dropByList 29 = .ok (.istore 4, 2) := by decide +kernel
theorem dX0_dropByList_31 : decode cX0_dropByList 31 = .ok (.iload 4, 2) := by decide +kernel
theorem dX0_dropByList_33 : decode cX0_dropByList 33 = .ok (.istore 5, 2) := by decide +kernel
theorem dX0_dropByList_35 : decode cX0_dropByList 35 = .ok (.iload 5, 2) := by decide +kernel
theorem dX0_dropByList_37 : decode cX0_dropByList 37 = .ok (.iload 4, 2) := by decide +kernel
theorem dX0_dropByList_39 : decode cX0_dropByList 39 = .ok (.iconst 4, 1) := by decide +kernel
theorem dX0_dropByList_40 : decode cX0_dropByList 40 = .ok (.iadd, 1) := by decide +kernel
theorem dX0_dropByList_41 : decode cX0_dropByList 41 = .ok (.if_icmp .ge 51, 3) := by decide +kernel
theorem dX0_dropByList_44 : decode cX0_dropByList 44 = .ok (.iload_n 3, 1) := by decide +kernel
theorem dX0_dropByList_45 : decode cX0_dropByList 45 = .ok (.ifCond .ne 17, 3) := by decide +kernel
theorem dX0_dropByList_48 : decode cX0_dropByList 48 = .ok (.aload_n 1, 1) := by decide +kernel
theorem dX0_dropByList_49 : decode cX0_dropByList 49 = .ok (.getfield 161, 3) := by decide +kernel
theorem dX0_dropByList_52 : decode cX0_dropByList 52 = .ok (.iload_n 2, 1) := by decide +kernel
theorem dX0_dropByList_53 : decode cX0_dropByList 53 = .ok (.iaload, 1) := by decide +kernel
theorem dX0_dropByList_54 : decode cX0_dropByList 54 = .ok (.iload 5, 2) := by decide +kernel
theorem dX0_dropByList_56 : decode cX0_dropByList 56 = .ok (.invokestatic 170, 3) := by decide +kernel
theorem dX0_dropByList_59 : decode cX0_dropByList 59 = .ok (.ifCond .eq 27, 3) := by decide +kernel
theorem dX0_dropByList_62 : decode cX0_dropByList 62 = .ok (.aload_n 1, 1) := by decide +kernel
theorem dX0_dropByList_63 : decode cX0_dropByList 63 = .ok (.dup, 1) := by decide +kernel
theorem dX0_dropByList_64 : decode cX0_dropByList 64 = .ok (.getfield 174, 3) := by decide +kernel
theorem dX0_dropByList_67 : decode cX0_dropByList 67 = .ok (.aload_n 1, 1) := by decide +kernel
theorem dX0_dropByList_68 : decode cX0_dropByList 68 = .ok (.iload 5, 2) := by decide +kernel
theorem dX0_dropByList_70 : decode cX0_dropByList 70 = .ok (.invokevirtual 84, 3) := by decide +kernel
theorem dX0_dropByList_73 : decode cX0_dropByList 73 = .ok (.invokestatic 107, 3) := by decide +kernel
theorem dX0_dropByList_76 : decode cX0_dropByList 76 = .ok (.iadd, 1) := by decide +kernel
theorem dX0_dropByList_77 : decode cX0_dropByList 77 = .ok (.putfield 174, 3) := by decide +kernel
theorem dX0_dropByList_80 : decode cX0_dropByList 80 = .ok (.aload_n 1, 1) := by decide +kernel
theorem dX0_dropByList_81 : decode cX0_dropByList 81 = .ok (.iload 5, 2) := by decide +kernel
theorem dX0_dropByList_83 : decode cX0_dropByList 83 = .ok (.invokevirtual 177, 3) := by decide +kernel
theorem dX0_dropByList_86 : decode cX0_dropByList 86 = .ok (.iinc 5 1, 3) := by decide +kernel
theorem dX0_dropByList_89 : decode cX0_dropByList 89 = .ok (.goto (-54), 3) := by decide +kernel
theorem dX0_dropByList_92 : decode cX0_dropByList 92 = .ok (.aload_n 1, 1) := by decide +kernel
theorem dX0_dropByList_93 : decode cX0_dropByList 93 = .ok (.getfield 161, 3) := by decide +kernel
theorem dX0_dropByList_96 : decode cX0_dropByList 96 = .ok (.iload_n 2, 1) := by decide +kernel
theorem dX0_dropByList_97 : decode cX0_dropByList 97 = .ok (.iconst 0, 1) := by decide +kernel
theorem dX0_dropByList_98 : decode cX0_dropByList 98 = .ok (.iastore, 1) := by decide +kernel
theorem dX0_dropByList_99 : decode cX0_dropByList 99 = .ok (.return_, 1) := by decide +kernel
set_option maxRecDepth 20000 in
theorem ggX0_tellWrite_X0_settle : GoodIn wsX0_tellWrite wsX0_settle := goodIn_r _ [8, 9, 10, 2, 11, 12, 13, 14, 7, 15, 3, 16, 17, 18, 19, 20, 21, 22, 23, 24, 25, 26, 27, 28, 29, 30, 31, 32, 33, 34, 35, 36, 37, 38, 39, 40, 41, 42, 43, 44, 45, 46, 47, 48, 49, 50, 51, 52, 53, 54, 55, 87, 88, 89, 90, 91, 92, 93, 94, 95, 96, 97, 98, 99, 100, 101, 102, 103, 104, 105, 106, 107, 108, 109, 110, 111, 112, 113, 114, 115, 116] (by decide +kernel) (by decide +kernel)
set_option maxRecDepth 20000 in
theorem gX0_tellWrite_X0_settle : GoodIn wsX0_tellWrite (wsV RX0 181 RX0 yX0_settle wsX0_settle) := goodIn_app (goodIn_of _ (by decide +kernel)) ggX0_tellWrite_X0_settle
set_option maxRecDepth 20000 in
theorem ggX0_tellWrite_X0_noteWaitedFor : GoodIn wsX0_tellWrite wsX0_noteWaitedFor := goodIn_r _ [59, 60, 9, 12, 13, 14, 7, 15, 3, 61, 62, 63, 64, 65, 66, 21, 67, 68, 49, 69, 70, 71, 72, 73, 20, 22, 23, 24, 25, 26, 27, 87, 88, 89, 90, 91, 92, 93, 94, 95, 96, 97, 98, 99, 100, 101, 102, 103, 104, 105, 106, 107, 108, 109, 110, 111, 112, 113, 114, 115, 116] (by decide +kernel) (by decide +kernel)
set_option maxRecDepth 20000 in
theorem gX0_tellWrite_X0_noteWaitedFor : GoodIn wsX0_tellWrite (wsV RX0 184 RX0 yX0_noteWaitedFor wsX0_noteWaitedFor) := goodIn_app (goodIn_of _ (by decide +kernel)) ggX0_tellWrite_X0_noteWaitedFor
set_option maxRecDepth 20000 in
theorem ggX0_tellWrite_X0_joinLine : GoodIn wsX0_tellWrite wsX0_joinLine := goodIn_r _ [77, 78, 79, 87, 88, 89, 90, 91, 92, 93, 94, 95, 96, 97, 98, 99, 100, 101, 102, 103] (by decide +kernel) (by decide +kernel)
set_option maxRecDepth 20000 in
theorem gX0_tellWrite_X0_joinLine : GoodIn wsX0_tellWrite (wsV RX0 187 RX0 yX0_joinLine wsX0_joinLine) := goodIn_app (goodIn_of _ (by decide +kernel)) ggX0_tellWrite_X0_joinLine
set_option maxRecDepth 20000 in
theorem ggX0_tellWrite_X0_dueOf : GoodIn wsX0_tellWrite wsX0_dueOf := goodIn_r _ [83, 3, 9, 84, 85, 71, 86, 12, 13, 14, 7, 15, 66, 21, 67, 68, 49, 69, 70, 72, 73, 20, 22, 23, 24, 25, 26, 27, 87, 88, 89, 90, 91, 92, 93, 94, 95, 96, 97, 98, 99, 100, 101, 102, 103, 104, 105, 106, 107, 108, 109, 110, 111, 112, 113, 114, 115, 116] (by decide +kernel) (by decide +kernel)
set_option maxRecDepth 20000 in
theorem gX0_tellWrite_X0_dueOf : GoodIn wsX0_tellWrite (wsV RX0 190 RX0 yX0_dueOf wsX0_dueOf) := goodIn_app (goodIn_of _ (by decide +kernel)) ggX0_tellWrite_X0_dueOf
theorem dX0_tellWrite_0 : decode cX0_tellWrite 0 = .ok (.aload_n 0, 1) := by decide +kernel
theorem dX0_tellWrite_1 : decode cX0_tellWrite 1 = .ok (.dup, 1) := by decide +kernel
theorem dX0_tellWrite_2 : decode cX0_tellWrite 2 = .ok (.getfield 53, 3) := by decide +kernel
theorem dX0_tellWrite_5 : decode cX0_tellWrite 5 = .ok (.iconst 1, 1) := by decide +kernel
theorem dX0_tellWrite_6 : decode cX0_tellWrite 6 = .ok (.iadd, 1) := by decide +kernel
theorem dX0_tellWrite_7 : decode cX0_tellWrite 7 = .ok (.putfield 53, 3) := by decide +kernel
theorem dX0_tellWrite_10 : decode cX0_tellWrite 10 = .ok (.aload_n 0, 1) := by decide +kernel
theorem dX0_tellWrite_11 : decode cX0_tellWrite 11 = .ok (.getfield 29, 3) := by decide +kernel
theorem dX0_tellWrite_14 : decode cX0_tellWrite 14 = .ok (.iload_n 1, 1) := by decide +kernel
theorem dX0_tellWrite_15 : decode cX0_tellWrite 15 = .ok (.iload_n 2, 1) := by decide +kernel
theorem dX0_tellWrite_16 : decode cX0_tellWrite 16 = .ok (.iastore, 1) := by decide +kernel
theorem dX0_tellWrite_17 : decode cX0_tellWrite 17 = .ok (.aload_n 0, 1) := by decide +kernel
theorem dX0_tellWrite_18 : decode cX0_tellWrite 18 = .ok (.iload_n 1, 1) := by decide +kernel
theorem dX0_tellWrite_19 : decode cX0_tellWrite 19 = .ok (.invokevirtual 181, 3) := by decide +kernel
theorem dX0_tellWrite_22 : decode cX0_tellWrite 22 = .ok (.istore_n 3, 1) := by decide +kernel
theorem dX0_tellWrite_23 : decode cX0_tellWrite 23 = .ok (.aload_n 0, 1) := by decide +kernel
theorem dX0_tellWrite_24 : decode cX0_tellWrite 24 = .ok (.iload_n 1, 1) := by decide +kernel
theorem dX0_tellWrite_25 : decode cX0_tellWrite 25 = .ok (.invokevirtual 184, 3) := by decide +kernel
theorem dX0_tellWrite_28 : decode cX0_tellWrite 28 = .ok (.iload_n 3, 1) := by decide +kernel
theorem dX0_tellWrite_29 : decode cX0_tellWrite 29 = .ok (.ifCond .eq 5, 3) := by decide +kernel
theorem dX0_tellWrite_32 : decode cX0_tellWrite 32 = .ok (.iconst 0, 1) := by decide +kernel
theorem dX0_tellWrite_33 : decode cX0_tellWrite 33 = .ok (.ireturn, 1) := by decide +kernel
theorem dX0_tellWrite_34 : decode cX0_tellWrite 34 = .ok (.aload_n 0, 1) := by decide +kernel
theorem dX0_tellWrite_35 : decode cX0_tellWrite 35 = .ok (.iload_n 1, 1) := by decide +kernel
theorem dX0_tellWrite_36 : decode cX0_tellWrite 36 = .ok (.invokevirtual 187, 3) := by decide +kernel
theorem dX0_tellWrite_39 : decode cX0_tellWrite 39 = .ok (.aload_n 0, 1) := by decide +kernel
theorem dX0_tellWrite_40 : decode cX0_tellWrite 40 = .ok (.iload_n 1, 1) := by decide +kernel
theorem dX0_tellWrite_41 : decode cX0_tellWrite 41 = .ok (.invokevirtual 190, 3) := by decide +kernel
theorem dX0_tellWrite_44 : decode cX0_tellWrite 44 = .ok (.aload_n 0, 1) := by decide +kernel
theorem dX0_tellWrite_45 : decode cX0_tellWrite 45 = .ok (.getfield 9, 3) := by decide +kernel
theorem dX0_tellWrite_48 : decode cX0_tellWrite 48 = .ok (.isub, 1) := by decide +kernel
theorem dX0_tellWrite_49 : decode cX0_tellWrite 49 = .ok (.ireturn, 1) := by decide +kernel
theorem dX0_joinLine_0 : decode cX0_joinLine 0 = .ok (.aload_n 0, 1) := by decide +kernel
theorem dX0_joinLine_1 : decode cX0_joinLine 1 = .ok (.getfield 35, 3) := by decide +kernel
theorem dX0_joinLine_4 : decode cX0_joinLine 4 = .ok (.bipush 12, 2) := by decide +kernel
theorem dX0_joinLine_6 : decode cX0_joinLine 6 = .ok (.if_icmp .ge 23, 3) := by decide +kernel
theorem dX0_joinLine_9 : decode cX0_joinLine 9 = .ok (.aload_n 0, 1) := by decide +kernel
theorem dX0_joinLine_10 : decode cX0_joinLine 10 = .ok (.getfield 32, 3) := by decide +kernel
theorem dX0_joinLine_13 : decode cX0_joinLine 13 = .ok (.aload_n 0, 1) := by decide +kernel
theorem dX0_joinLine_14 : decode cX0_joinLine 14 = .ok (.getfield 35, 3) := by decide +kernel
theorem dX0_joinLine_17 : decode cX0_joinLine 17 = .ok (.iload_n 1, 1) := by decide +kernel
theorem dX0_joinLine_18 : decode cX0_joinLine 18 = .ok (.iastore, 1) := by decide +kernel
theorem dX0_joinLine_19 : decode cX0_joinLine 19 = .ok (.aload_n 0, 1) := by decide +kernel
theorem dX0_joinLine_20 : decode cX0_joinLine 20 = .ok (.dup, 1) := by decide +kernel
theorem dX0_joinLine_21 : decode cX0_joinLine 21 = .ok (.getfield 35, 3) := by decide +kernel
theorem dX0_joinLine_24 : decode cX0_joinLine 24 = .ok (.iconst 1, 1) := by decide +kernel
theorem dX0_joinLine_25 : decode cX0_joinLine 25 = .ok (.iadd, 1) := by decide +kernel
theorem dX0_joinLine_26 : decode cX0_joinLine 26 = .ok (.putfield 35, 3) := by decide +kernel
theorem dX0_joinLine_29 : decode cX0_joinLine 29 = .ok (.return_, 1) := by decide +kernel
set_option maxRecDepth 20000 in
theorem ggX0_settleAll_X0_settle : GoodIn wsX0_settleAll wsX0_settle := goodIn_r _ [7, 8, 9, 10, 11, 12, 13, 14, 6, 15, 16, 17, 18, 19, 20, 21, 22, 23, 24, 25, 26, 27, 28, 29, 30, 31, 32, 33, 34, 35, 36, 37, 38, 39, 40, 41, 42, 43, 44, 45, 46, 47, 48, 49, 50, 51, 52, 53, 54, 55, 56, 57, 58, 59, 60, 61, 62, 63, 64, 65, 66, 67, 68, 69, 70, 71, 72, 73, 74, 75, 76, 77, 78, 79, 80, 81, 82, 83, 84, 85, 86] (by decide +kernel) (by decide +kernel)
set_option maxRecDepth 20000 in
theorem gX0_settleAll_X0_settle : GoodIn wsX0_settleAll (wsV RX0 181 RX0 yX0_settle wsX0_settle) := goodIn_app (goodIn_of _ (by decide +kernel)) ggX0_settleAll_X0_settle
theorem dX0_settleAll_0 : decode cX0_settleAll 0 = .ok (.aload_n 0, 1) := by decide +kernel
theorem dX0_settleAll_1 : decode cX0_settleAll 1 = .ok (.getfield 35, 3) := by decide +kernel
theorem dX0_settleAll_4 : decode cX0_settleAll 4 = .ok (.istore_n 1, 1) := by decide +kernel
theorem dX0_settleAll_5 : decode cX0_settleAll 5 = .ok (.iconst 0, 1) := by decide +kernel
theorem dX0_settleAll_6 : decode cX0_settleAll 6 = .ok (.istore_n 2, 1) := by decide +kernel
theorem dX0_settleAll_7 : decode cX0_settleAll 7 = .ok (.iconst 0, 1) := by decide +kernel
theorem dX0_settleAll_8 : decode cX0_settleAll 8 = .ok (.istore_n 3, 1) := by decide +kernel
theorem dX0_settleAll_9 : decode cX0_settleAll 9 = .ok (.iload_n 3, 1) := by decide +kernel
theorem dX0_settleAll_10 : decode cX0_settleAll 10 = .ok (.iload_n 1, 1) := by decide +kernel
theorem dX0_settleAll_11 : decode cX0_settleAll 11 = .ok (.if_icmp .ge 37, 3) := by decide +kernel
theorem dX0_settleAll_14 : decode cX0_settleAll 14 = .ok (.aload_n 0, 1) := by decide +kernel
theorem dX0_settleAll_15 : decode cX0_settleAll 15 = .ok (.getfield 32, 3) := by decide +kernel
theorem dX0_settleAll_18 : decode cX0_settleAll 18 = .ok (.iload_n 3, 1) := by decide +kernel
theorem dX0_settleAll_19 : decode cX0_settleAll 19 = .ok (.iaload, 1) := by decide +kernel
theorem dX0_settleAll_20 : decode cX0_settleAll 20 = .ok (.istore 4, 2) := by decide +kernel
theorem dX0_settleAll_22 : decode cX0_settleAll 22 = .ok (.aload_n 0, 1) := by decide +kernel
theorem dX0_settleAll_23 : decode cX0_settleAll 23 = .ok (.iload 4, 2) := by decide +kernel
theorem dX0_settleAll_25 : decode cX0_settleAll 25 = .ok (.invokevirtual 181, 3) := by decide +kernel
theorem dX0_settleAll_28 : decode cX0_settleAll 28 = .ok (.ifCond .ne 14, 3) := by decide +kernel
theorem dX0_settleAll_31 : decode cX0_settleAll 31 = .ok (.aload_n 0, 1) := by decide +kernel
theorem dX0_settleAll_32 : decode cX0_settleAll 32 = .ok (.getfield 32, 3) := by decide +kernel
theorem dX0_settleAll_35 : decode cX0_settleAll 35 = .ok (.iload_n 2, 1) := by decide +kernel
theorem dX0_settleAll_36 : decode cX0_settleAll 36 = .ok (.iload 4, 2) := by decide +kernel
theorem dX0_settleAll_38 : decode cX0_settleAll 38 = .ok (.iastore, 1) := by decide +kernel
theorem dX0_settleAll_39 : decode cX0_settleAll 39 = .ok (.iinc 2 1, 3) := by decide +kernel
theorem dX0_settleAll_42 : decode cX0_settleAll 42 = .ok (.iinc 3 1, 3) := by decide +kernel
theorem dX0_settleAll_45 : decode cX0_settleAll 45 = .ok (.goto (-36), 3) := by decide +kernel
theorem dX0_settleAll_48 : decode cX0_settleAll 48 = .ok (.aload_n 0, 1) := by decide +kernel
theorem dX0_settleAll_49 : decode cX0_settleAll 49 = .ok (.iload_n 2, 1) := by decide +kernel
theorem dX0_settleAll_50 : decode cX0_settleAll 50 = .ok (.putfield 35, 3) := by decide +kernel
theorem dX0_settleAll_53 : decode cX0_settleAll 53 = .ok (.iload_n 1, 1) := by decide +kernel
theorem dX0_settleAll_54 : decode cX0_settleAll 54 = .ok (.iload_n 2, 1) := by decide +kernel
theorem dX0_settleAll_55 : decode cX0_settleAll 55 = .ok (.isub, 1) := by decide +kernel
theorem dX0_settleAll_56 : decode cX0_settleAll 56 = .ok (.ireturn, 1) := by decide +kernel
set_option maxRecDepth 20000 in
theorem ggX0_settle_X0_isHolder : GoodIn wsX0_settle wsX0_isHolder := goodIn_r _ [9, 10, 68, 69, 70, 71, 72, 73, 74, 75, 76, 77, 78, 79, 80, 51, 52, 53, 54, 55, 56, 57, 58, 59, 60, 61, 62, 63, 64, 65, 66, 67] (by decide +kernel) (by decide +kernel)
set_option maxRecDepth 20000 in
theorem gX0_settle_X0_isHolder : GoodIn wsX0_settle (wsV RX0 193 RX0 yX0_isHolder wsX0_isHolder) := goodIn_app (goodIn_of _ (by decide +kernel)) ggX0_settle_X0_isHolder
set_option maxRecDepth 20000 in
theorem ggX0_settle_X0_settleHolder : GoodIn wsX0_settle wsX0_settleHolder := goodIn_r _ [14, 10, 3, 15, 16, 17, 18, 19, 20, 21, 22, 23, 24, 25, 8, 26, 27, 28, 29, 30, 31, 32, 33, 34, 35, 36, 37, 38, 39, 40, 41, 42, 43, 44, 51, 52, 53, 54, 55, 56, 57, 58, 59, 60, 61, 62, 63, 64, 65, 66, 67, 68, 69, 70, 71, 72, 73, 74, 75, 76, 77, 78, 79, 80] (by decide +kernel) (by decide +kernel)
set_option maxRecDepth 20000 in
theorem gX0_settle_X0_settleHolder : GoodIn wsX0_settle (wsV RX0 196 RX0 yX0_settleHolder wsX0_settleHolder) := goodIn_app (goodIn_of _ (by decide +kernel)) ggX0_settle_X0_settleHolder
set_option maxRecDepth 20000 in
theorem ggX0_settle_X0_holdersOf : GoodIn wsX0_settle wsX0_holdersOf := goodIn_r _ [48, 1, 5, 6, 7, 8, 9, 10, 49, 21, 50, 51, 52, 53, 54, 55, 56, 57, 58, 59, 60, 61, 62, 63, 64, 65, 66, 67, 68, 69, 70, 71, 72, 73, 74, 75, 76, 77, 78, 79, 80] (by decide +kernel) (by decide +kernel)
set_option maxRecDepth 20000 in
theorem gX0_settle_X0_holdersOf : GoodIn wsX0_settle (wsV RX0 199 RX0 yX0_holdersOf wsX0_holdersOf) := goodIn_app (goodIn_of _ (by decide +kernel)) ggX0_settle_X0_holdersOf
theorem dX0_settle_0 : decode cX0_settle 0 = .ok (.iconst 0, 1) := by decide +kernel
theorem dX0_settle_1 : decode cX0_settle 1 = .ok (.istore_n 2, 1) := by decide +kernel
theorem dX0_settle_2 : decode cX0_settle 2 = .ok (.iload_n 2, 1) := by decide +kernel
theorem dX0_settle_3 : decode cX0_settle 3 = .ok (.iconst 5, 1) := by decide +kernel
theorem dX0_settle_4 : decode cX0_settle 4 = .ok (.if_icmp .ge 34, 3) := by decide +kernel
theorem dX0_settle_7 : decode cX0_settle 7 = .ok (.aload_n 0, 1) := by decide +kernel
theorem dX0_settle_8 : decode cX0_settle 8 = .ok (.aload_n 0, 1) := by decide +kernel
theorem dX0_settle_9 : decode cX0_settle 9 = .ok (.getfield 22, 3) := by decide +kernel
theorem dX0_settle_12 : decode cX0_settle 12 = .ok (.iload_n 2, 1) := by decide +kernel
theorem dX0_settle_13 : decode cX0_settle 13 = .ok (.aaload, 1) := by decide +kernel
theorem dX0_settle_14 : decode cX0_settle 14 = .ok (.iload_n 1, 1) := by decide +kernel
theorem dX0_settle_15 : decode cX0_settle 15 = .ok (.invokevirtual 193, 3) := by decide +kernel
theorem dX0_settle_18 : decode cX0_settle 18 = .ok (.ifCond .eq 14, 3) := by decide +kernel
theorem dX0_settle_21 : decode cX0_settle 21 = .ok (.aload_n 0, 1) := by decide +kernel
theorem dX0_settle_22 : decode cX0_settle 22 = .ok (.aload_n 0, 1) := by decide +kernel
theorem dX0_settle_23 : decode cX0_settle 23 = .ok (.getfield 22, 3) := by decide +kernel
theorem dX0_settle_26 : decode cX0_settle 26 = .ok (.iload_n 2, 1) := by decide +kernel
theorem dX0_settle_27 : decode cX0_settle 27 = .ok (.aaload, 1) := by decide +kernel
theorem dX0_settle_28 : decode cX0_settle 28 = .ok (.iload_n 1, 1) := by decide +kernel
theorem dX0_settle_29 : decode cX0_settle 29 = .ok (.invokevirtual 196, 3) := by decide +kernel
theorem dX0_settle_32 : decode cX0_settle 32 = .ok (.iinc 2 1, 3) := by decide +kernel
theorem dX0_settle_35 : decode cX0_settle 35 = .ok (.goto (-33), 3) := by decide +kernel
theorem dX0_settle_38 : decode cX0_settle 38 = .ok (.aload_n 0, 1) := by decide +kernel
theorem dX0_settle_39 : decode cX0_settle 39 = .ok (.iload_n 1, 1) := by decide +kernel
theorem dX0_settle_40 : decode cX0_settle 40 = .ok (.invokevirtual 199, 3) := by decide +kernel
theorem dX0_settle_43 : decode cX0_settle 43 = .ok (.ifCond .eq 5, 3) := by decide +kernel
theorem dX0_settle_46 : decode cX0_settle 46 = .ok (.iconst 0, 1) := by decide +kernel
theorem dX0_settle_47 : decode cX0_settle 47 = .ok (.ireturn, 1) := by decide +kernel
theorem dX0_settle_48 : decode cX0_settle 48 = .ok (.aload_n 0, 1) := by decide +kernel
theorem dX0_settle_49 : decode cX0_settle 49 = .ok (.getfield 26, 3) := by decide +kernel
theorem dX0_settle_52 : decode cX0_settle 52 = .ok (.iload_n 1, 1) := by decide +kernel
theorem dX0_settle_53 : decode cX0_settle 53 = .ok (.dup2, 1) := by decide +kernel
theorem dX0_settle_54 : decode cX0_settle 54 = .ok (.iaload, 1) := by decide +kernel
theorem dX0_settle_55 : decode cX0_settle 55 = .ok (.iconst 1, 1) := by decide +kernel
theorem dX0_settle_56 : decode cX0_settle 56 = .ok (.iadd, 1) := by decide +kernel
theorem dX0_settle_57 : decode cX0_settle 57 = .ok (.iastore, 1) := by decide +kernel
theorem dX0_settle_58 : decode cX0_settle 58 = .ok (.aload_n 0, 1) := by decide +kernel
theorem dX0_settle_59 : decode cX0_settle 59 = .ok (.getfield 29, 3) := by decide +kernel
theorem dX0_settle_62 : decode cX0_settle 62 = .ok (.iload_n 1, 1) := by decide +kernel
theorem dX0_settle_63 : decode cX0_settle 63 = .ok (.bipush (-6), 2) := by decide +kernel
theorem dX0_settle_65 : decode cX0_settle 65 = .ok (.iastore, 1) := by decide +kernel
theorem dX0_settle_66 : decode cX0_settle 66 = .ok (.aload_n 0, 1) := by decide +kernel
theorem dX0_settle_67 : decode cX0_settle 67 = .ok (.dup, 1) := by decide +kernel
theorem dX0_settle_68 : decode cX0_settle 68 = .ok (.getfield 56, 3) := by decide +kernel
theorem dX0_settle_71 : decode cX0_settle 71 = .ok (.iconst 1, 1) := by decide +kernel
theorem dX0_settle_72 : decode cX0_settle 72 = .ok (.iadd, 1) := by decide +kernel
theorem dX0_settle_73 : decode cX0_settle 73 = .ok (.putfield 56, 3) := by decide +kernel
theorem dX0_settle_76 : decode cX0_settle 76 = .ok (.iconst 1, 1) := by decide +kernel
theorem dX0_settle_77 : decode cX0_settle 77 = .ok (.ireturn, 1) := by decide +kernel
set_option maxRecDepth 20000 in
theorem ggX0_settleHolder_X1_volumeTermFor : GoodIn wsX0_settleHolder wsX1_volumeTermFor := goodIn_r _ [6, 7, 8, 9, 10, 51, 52, 53, 54, 55, 56, 57, 58, 59, 60, 61, 62, 63] (by decide +kernel) (by decide +kernel)
set_option maxRecDepth 20000 in
theorem gX0_settleHolder_X1_volumeTermFor_n95 : GoodIn wsX0_settleHolder (wsX1_volumeTermFor) := ggX0_settleHolder_X1_volumeTermFor
set_option maxRecDepth 20000 in
theorem ggX0_settleHolder_X0_putOnList : GoodIn wsX0_settleHolder wsX0_putOnList := goodIn_r _ [15, 16, 8, 9, 10, 17, 18, 51, 52, 53, 54, 55, 56, 57, 58, 59, 60, 61, 62, 63, 34, 35, 36, 37, 38, 39, 40, 41, 42, 43, 44, 45, 46, 47, 48, 49, 50] (by decide +kernel) (by decide +kernel)
set_option maxRecDepth 20000 in
theorem gX0_settleHolder_X0_putOnList : GoodIn wsX0_settleHolder (wsV RX0 202 RX0 yX0_putOnList wsX0_putOnList) := goodIn_app (goodIn_of _ (by decide +kernel)) ggX0_settleHolder_X0_putOnList
set_option maxRecDepth 20000 in
theorem ggX0_settleHolder_X0_sendLetter : GoodIn wsX0_settleHolder wsX0_sendLetter := goodIn_r _ [22, 23, 24, 4, 25, 26, 27, 28, 29, 30, 31, 32, 33, 34, 35, 36, 37, 38, 39, 40, 41, 42, 43, 44, 45, 46, 47, 48, 49, 50, 51, 52, 53, 54, 55, 56, 57, 58, 59, 60, 61, 62, 63] (by decide +kernel) (by decide +kernel)
set_option maxRecDepth 20000 in
theorem gX0_settleHolder_X0_sendLetter : GoodIn wsX0_settleHolder (wsV RX0 205 RX0 yX0_sendLetter wsX0_sendLetter) := goodIn_app (goodIn_of _ (by decide +kernel)) ggX0_settleHolder_X0_sendLetter
theorem dX0_settleHolder_0 : decode cX0_settleHolder 0 = .ok (.aload_n 1, 1) := by decide +kernel
theorem dX0_settleHolder_1 : decode cX0_settleHolder 1 = .ok (.iload_n 2, 1) := by decide +kernel
theorem dX0_settleHolder_2 : decode cX0_settleHolder 2 = .ok (.invokevirtual 95, 3) := by decide +kernel
theorem dX0_settleHolder_5 : decode cX0_settleHolder 5 = .ok (.aload_n 0, 1) := by decide +kernel
theorem dX0_settleHolder_6 : decode cX0_settleHolder 6 = .ok (.getfield 9, 3) := by decide +kernel
theorem dX0_settleHolder_9 : decode cX0_settleHolder 9 = .ok (.if_icmp .gt 12, 3) := by decide +kernel
theorem dX0_settleHolder_12 : decode cX0_settleHolder 12 = .ok (.aload_n 0, 1) := by decide +kernel
theorem dX0_settleHolder_13 : decode cX0_settleHolder 13 = .ok (.aload_n 1, 1) := by decide +kernel
theorem dX0_settleHolder_14 : decode cX0_settleHolder 14 = .ok (.iload_n 2, 1) := by decide +kernel
theorem dX0_settleHolder_15 : decode cX0_settleHolder 15 = .ok (.invokevirtual 202, 3) := by decide +kernel
theorem dX0_settleHolder_18 : decode cX0_settleHolder 18 = .ok (.goto 26, 3) := by decide +kernel
theorem dX0_settleHolder_21 : decode cX0_settleHolder 21 = .ok (.aload_n 0, 1) := by decide +kernel
theorem dX0_settleHolder_22 : decode cX0_settleHolder 22 = .ok (.getfield 29, 3) := by decide +kernel
theorem dX0_settleHolder_25 : decode cX0_settleHolder 25 = .ok (.iload_n 2, 1) := by decide +kernel
theorem dX0_settleHolder_26 : decode cX0_settleHolder 26 = .ok (.iaload, 1) := by decide +kernel
theorem dX0_settleHolder_27 : decode cX0_settleHolder 27 = .ok (.iconst 1, 1) := by decide +kernel
theorem dX0_settleHolder_28 : decode cX0_settleHolder 28 = .ok (.if_icmp .ne 16, 3) := by decide +kernel
theorem dX0_settleHolder_31 : decode cX0_settleHolder 31 = .ok (.aload_n 1, 1) := by decide +kernel
theorem dX0_settleHolder_32 : decode cX0_settleHolder 32 = .ok (.getfield 122, 3) := by decide +kernel
theorem dX0_settleHolder_35 : decode cX0_settleHolder 35 = .ok (.ifCond .eq 9, 3) := by decide +kernel
theorem dX0_settleHolder_38 : decode cX0_settleHolder 38 = .ok (.aload_n 0, 1) := by decide +kernel
theorem dX0_settleHolder_39 : decode cX0_settleHolder 39 = .ok (.aload_n 1, 1) := by decide +kernel
theorem dX0_settleHolder_40 : decode cX0_settleHolder 40 = .ok (.iload_n 2, 1) := by decide +kernel
theorem dX0_settleHolder_41 : decode cX0_settleHolder 41 = .ok (.invokevirtual 205, 3) := by decide +kernel
theorem dX0_settleHolder_44 : decode cX0_settleHolder 44 = .ok (.return_, 1) := by decide +kernel
set_option maxRecDepth 20000 in
theorem ggX0_putOnList_X2_volumeOf : GoodIn wsX0_putOnList wsX2_volumeOf := goodIn_r _ [4] (by decide +kernel) (by decide +kernel)
set_option maxRecDepth 20000 in
theorem gX0_putOnList_X2_volumeOf_n148 : GoodIn wsX0_putOnList (wsX2_volumeOf) := ggX0_putOnList_X2_volumeOf
set_option maxRecDepth 20000 in
theorem ggX0_putOnList_X2_isInSet : GoodIn wsX0_putOnList wsX2_isInSet := goodIn_r _ [6] (by decide +kernel) (by decide +kernel)
set_option maxRecDepth 20000 in
theorem gX0_putOnList_X2_isInSet_n170 : GoodIn wsX0_putOnList (wsX2_isInSet) := ggX0_putOnList_X2_isInSet
theorem dX0_putOnList_0 : decode cX0_putOnList 0 = .ok (.iload_n 2, 1) := by decide +kernel
theorem dX0_putOnList_1 : decode cX0_putOnList 1 = .ok (.invokestatic 148, 3) := by decide +kernel
theorem dX0_putOnList_4 : decode cX0_putOnList 4 = .ok (.istore_n 3, 1) := by decide +kernel
theorem dX0_putOnList_5 : decode cX0_putOnList 5 = .ok (.aload_n 1, 1) := by decide +kernel
theorem dX0_putOnList_6 : decode cX0_putOnList 6 = .ok (.getfield 161, 3) := by decide +kernel
theorem dX0_putOnList_9 : decode cX0_putOnList 9 = .ok (.iload_n 3, 1) := by decide +kernel
theorem dX0_putOnList_10 : decode cX0_putOnList 10 = .ok (.iaload, 1) := by decide +kernel
theorem dX0_putOnList_11 : decode cX0_putOnList 11 = .ok (.iload_n 2, 1) := by decide +kernel
theorem dX0_putOnList_12 : decode cX0_putOnList 12 = .ok (.invokestatic 170, 3) := by decide +kernel
theorem dX0_putOnList_15 : decode cX0_putOnList 15 = .ok (.ifCond .ne 13, 3) := by decide +kernel
theorem dX0_putOnList_18 : decode cX0_putOnList 18 = .ok (.aload_n 0, 1) := by decide +kernel
theorem dX0_putOnList_19 : decode cX0_putOnList 19 = .ok (.dup, 1) := by decide +kernel
theorem dX0_putOnList_20 : decode cX0_putOnList 20 = .ok (.getfield 62, 3) := by decide +kernel
theorem dX0_putOnList_23 : decode cX0_putOnList 23 = .ok (.iconst 1, 1) := by decide +kernel
theorem dX0_putOnList_24 : decode cX0_putOnList 24 = .ok (.iadd, 1) := by decide +kernel
theorem dX0_putOnList_25 : decode cX0_putOnList 25 = .ok (.putfield 62, 3) := by decide +kernel
theorem dX0_putOnList_28 : decode cX0_putOnList 28 = .ok (.aload_n 1, 1) := by decide +kernel
theorem dX0_putOnList_29 : decode cX0_putOnList 29 = .ok (.getfield 161, 3) := by decide +kernel
theorem dX0_putOnList_32 : decode cX0_putOnList 32 = .ok (.iload_n 3, 1) := by decide +kernel
theorem dX0_putOnList_33 : decode cX0_putOnList 33 = .ok (.dup2, 1) := by decide +kernel
theorem dX0_putOnList_34 : decode cX0_putOnList 34 = .ok (.iaload, 1) := by decide +kernel
theorem dX0_putOnList_35 : decode cX0_putOnList 35 = .ok (.iconst 1, 1) := by decide +kernel
theorem dX0_putOnList_36 : decode cX0_putOnList 36 = .ok (.iload_n 2, 1) := by decide +kernel
theorem dX0_putOnList_37 : decode cX0_putOnList 37 = .ok (.ishl, 1) := by decide +kernel
theorem dX0_putOnList_38 : decode cX0_putOnList 38 = .ok (.ior, 1) := by decide +kernel
theorem dX0_putOnList_39 : decode cX0_putOnList 39 = .ok (.iastore, 1) := by decide +kernel
theorem dX0_putOnList_40 : decode cX0_putOnList 40 = .ok (.aload_n 1, 1) := by decide +kernel
theorem dX0_putOnList_41 : decode cX0_putOnList 41 = .ok (.getfield 99, 3) := by decide +kernel
theorem dX0_putOnList_44 : decode cX0_putOnList 44 = .ok (.iload_n 2, 1) := by decide +kernel
theorem dX0_putOnList_45 : decode cX0_putOnList 45 = .ok (.iconst 0, 1) := by decide +kernel
theorem dX0_putOnList_46 : decode cX0_putOnList 46 = .ok (.iastore, 1) := by decide +kernel
theorem dX0_putOnList_47 : decode cX0_putOnList 47 = .ok (.return_, 1) := by decide +kernel
set_option maxRecDepth 20000 in
theorem ggX0_sendLetter_X1_dropCopy : GoodIn wsX0_sendLetter wsX1_dropCopy := goodIn_r _ [5, 6, 7, 8, 3, 9, 10, 11, 12, 30, 31, 32, 33, 34, 35, 36, 37, 38, 39, 40, 41, 42] (by decide +kernel) (by decide +kernel)
set_option maxRecDepth 20000 in
theorem gX0_sendLetter_X1_dropCopy_n177 : GoodIn wsX0_sendLetter (wsX1_dropCopy) := ggX0_sendLetter_X1_dropCopy
theorem dX0_sendLetter_0 : decode cX0_sendLetter 0 = .ok (.aload_n 0, 1) := by decide +kernel
theorem dX0_sendLetter_1 : decode cX0_sendLetter 1 = .ok (.dup, 1) := by decide +kernel
theorem dX0_sendLetter_2 : decode cX0_sendLetter 2 = .ok (.getfield 59, 3) := by decide +kernel
theorem dX0_sendLetter_5 : decode cX0_sendLetter 5 = .ok (.iconst 1, 1) := by decide +kernel
theorem dX0_sendLetter_6 : decode cX0_sendLetter 6 = .ok (.iadd, 1) := by decide +kernel
theorem dX0_sendLetter_7 : decode cX0_sendLetter 7 = .ok (.putfield 59, 3) := by decide +kernel
theorem dX0_sendLetter_10 : decode cX0_sendLetter 10 = .ok (.aload_n 1, 1) := by decide +kernel
theorem dX0_sendLetter_11 : decode cX0_sendLetter 11 = .ok (.dup, 1) := by decide +kernel
theorem dX0_sendLetter_12 : decode cX0_sendLetter 12 = .ok (.getfield 208, 3) := by decide +kernel
theorem dX0_sendLetter_15 : decode cX0_sendLetter 15 = .ok (.iconst 1, 1) := by decide +kernel
theorem dX0_sendLetter_16 : decode cX0_sendLetter 16 = .ok (.iadd, 1) := by decide +kernel
theorem dX0_sendLetter_17 : decode cX0_sendLetter 17 = .ok (.putfield 208, 3) := by decide +kernel
theorem dX0_sendLetter_20 : decode cX0_sendLetter 20 = .ok (.aload_n 1, 1) := by decide +kernel
theorem dX0_sendLetter_21 : decode cX0_sendLetter 21 = .ok (.iload_n 2, 1) := by decide +kernel
theorem dX0_sendLetter_22 : decode cX0_sendLetter 22 = .ok (.invokevirtual 177, 3) := by decide +kernel
theorem dX0_sendLetter_25 : decode cX0_sendLetter 25 = .ok (.return_, 1) := by decide +kernel
set_option maxRecDepth 20000 in
theorem ggX0_dueOf_X0_isHolder : GoodIn wsX0_dueOf wsX0_isHolder := goodIn_r _ [11, 1, 45, 46, 47, 48, 49, 50, 51, 52, 53, 54, 55, 56, 57, 28, 29, 30, 31, 32, 33, 34, 35, 36, 37, 38, 39, 40, 41, 42, 43, 44] (by decide +kernel) (by decide +kernel)
set_option maxRecDepth 20000 in
theorem gX0_dueOf_X0_isHolder : GoodIn wsX0_dueOf (wsV RX0 193 RX0 yX0_isHolder wsX0_isHolder) := goodIn_app (goodIn_of _ (by decide +kernel)) ggX0_dueOf_X0_isHolder
set_option maxRecDepth 20000 in
theorem ggX0_dueOf_X1_holdsUntil : GoodIn wsX0_dueOf wsX1_holdsUntil := goodIn_r _ [15, 16, 17, 18, 5, 19, 20, 21, 22, 13, 23, 24, 25, 26, 27, 45, 46, 47, 48, 49, 50, 51, 52, 53, 54, 55, 56, 57] (by decide +kernel) (by decide +kernel)
set_option maxRecDepth 20000 in
theorem gX0_dueOf_X1_holdsUntil_n211 : GoodIn wsX0_dueOf (wsX1_holdsUntil) := ggX0_dueOf_X1_holdsUntil
theorem dX0_dueOf_0 : decode cX0_dueOf 0 = .ok (.aload_n 0, 1) := by decide +kernel
theorem dX0_dueOf_1 : decode cX0_dueOf 1 = .ok (.getfield 9, 3) := by decide +kernel
theorem dX0_dueOf_4 : decode cX0_dueOf 4 = .ok (.iconst 1, 1) := by decide +kernel
theorem dX0_dueOf_5 : decode cX0_dueOf 5 = .ok (.iadd, 1) := by decide +kernel
theorem dX0_dueOf_6 : decode cX0_dueOf 6 = .ok (.istore_n 2, 1) := by decide +kernel
theorem dX0_dueOf_7 : decode cX0_dueOf 7 = .ok (.iconst 0, 1) := by decide +kernel
theorem dX0_dueOf_8 : decode cX0_dueOf 8 = .ok (.istore_n 3, 1) := by decide +kernel
theorem dX0_dueOf_9 : decode cX0_dueOf 9 = .ok (.iload_n 3, 1) := by decide +kernel
theorem dX0_dueOf_10 : decode cX0_dueOf 10 = .ok (.iconst 5, 1) := by decide +kernel
theorem dX0_dueOf_11 : decode cX0_dueOf 11 = .ok (.if_icmp .ge 38, 3) := by decide +kernel
theorem dX0_dueOf_14 : decode cX0_dueOf 14 = .ok (.aload_n 0, 1) := by decide +kernel
theorem dX0_dueOf_15 : decode cX0_dueOf 15 = .ok (.aload_n 0, 1) := by decide +kernel
theorem dX0_dueOf_16 : decode cX0_dueOf 16 = .ok (.getfield 22, 3) := by decide +kernel
theorem dX0_dueOf_19 : decode cX0_dueOf 19 = .ok (.iload_n 3, 1) := by decide +kernel
theorem dX0_dueOf_20 : decode cX0_dueOf 20 = .ok (.aaload, 1) := by decide +kernel
theorem dX0_dueOf_21 : decode cX0_dueOf 21 = .ok (.iload_n 1, 1) := by decide +kernel
theorem dX0_dueOf_22 : decode cX0_dueOf 22 = .ok (.invokevirtual 193, 3) := by decide +kernel
theorem dX0_dueOf_25 : decode cX0_dueOf 25 = .ok (.ifCond .eq 18, 3) := by decide +kernel
theorem dX0_dueOf_28 : decode cX0_dueOf 28 = .ok (.iload_n 2, 1) := by decide +kernel
theorem dX0_dueOf_29 : decode cX0_dueOf 29 = .ok (.aload_n 0, 1) := by decide +kernel
theorem dX0_dueOf_30 : decode cX0_dueOf 30 = .ok (.getfield 22, 3) := by decide +kernel
theorem dX0_dueOf_33 : decode cX0_dueOf 33 = .ok (.iload_n 3, 1) := by decide +kernel
theorem dX0_dueOf_34 : decode cX0_dueOf 34 = .ok (.aaload, 1) := by decide +kernel
theorem dX0_dueOf_35 : decode cX0_dueOf 35 = .ok (.iload_n 1, 1) := by decide +kernel
theorem dX0_dueOf_36 : decode cX0_dueOf 36 = .ok (.invokevirtual 211, 3) := by decide +kernel
theorem dX0_dueOf_39 : decode cX0_dueOf 39 = .ok (.invokestatic 214, 3) := by decide +kernel
theorem dX0_dueOf_42 : decode cX0_dueOf 42 = .ok (.istore_n 2, 1) := by decide +kernel
theorem dX0_dueOf_43 : decode cX0_dueOf 43 = .ok (.iinc 3 1, 3) := by decide +kernel
theorem dX0_dueOf_46 : decode cX0_dueOf 46 = .ok (.goto (-37), 3) := by decide +kernel
theorem dX0_dueOf_49 : decode cX0_dueOf 49 = .ok (.iload_n 2, 1) := by decide +kernel
theorem dX0_dueOf_50 : decode cX0_dueOf 50 = .ok (.ireturn, 1) := by decide +kernel
set_option maxRecDepth 20000 in
theorem ggX0_noteWaitedFor_X0_isHolder : GoodIn wsX0_noteWaitedFor wsX0_isHolder := goodIn_r _ [7, 8, 48, 49, 50, 51, 52, 53, 54, 55, 56, 57, 58, 59, 60, 31, 32, 33, 34, 35, 36, 37, 38, 39, 40, 41, 42, 43, 44, 45, 46, 47] (by decide +kernel) (by decide +kernel)
set_option maxRecDepth 20000 in
theorem gX0_noteWaitedFor_X0_isHolder : GoodIn wsX0_noteWaitedFor (wsV RX0 193 RX0 yX0_isHolder wsX0_isHolder) := goodIn_app (goodIn_of _ (by decide +kernel)) ggX0_noteWaitedFor_X0_isHolder
set_option maxRecDepth 20000 in
theorem ggX0_noteWaitedFor_X0_insertWaitedFor : GoodIn wsX0_noteWaitedFor wsX0_insertWaitedFor := goodIn_r _ [12, 2, 1, 13, 14, 15, 16, 17, 18, 19, 20, 21, 22, 23, 24, 25, 26, 27, 28, 29, 30, 31, 32, 33, 34, 35, 36, 37, 38, 39, 40, 41, 42, 43, 44, 45, 46, 47, 48, 49, 50, 51, 52, 53, 54, 55, 56, 57, 58, 59, 60] (by decide +kernel) (by decide +kernel)
set_option maxRecDepth 20000 in
theorem gX0_noteWaitedFor_X0_insertWaitedFor : GoodIn wsX0_noteWaitedFor (wsV RX0 218 RX0 yX0_insertWaitedFor wsX0_insertWaitedFor) := goodIn_app (goodIn_of _ (by decide +kernel)) ggX0_noteWaitedFor_X0_insertWaitedFor
theorem dX0_noteWaitedFor_0 : decode cX0_noteWaitedFor 0 = .ok (.aload_n 0, 1) := by decide +kernel
theorem dX0_noteWaitedFor_1 : decode cX0_noteWaitedFor 1 = .ok (.iconst 0, 1) := by decide +kernel
theorem dX0_noteWaitedFor_2 : decode cX0_noteWaitedFor 2 = .ok (.putfield 47, 3) := by decide +kernel
theorem dX0_noteWaitedFor_5 : decode cX0_noteWaitedFor 5 = .ok (.iconst 0, 1) := by decide +kernel
theorem dX0_noteWaitedFor_6 : decode cX0_noteWaitedFor 6 = .ok (.istore_n 2, 1) := by decide +kernel
theorem dX0_noteWaitedFor_7 : decode cX0_noteWaitedFor 7 = .ok (.iload_n 2, 1) := by decide +kernel
theorem dX0_noteWaitedFor_8 : decode cX0_noteWaitedFor 8 = .ok (.iconst 5, 1) := by decide +kernel
theorem dX0_noteWaitedFor_9 : decode cX0_noteWaitedFor 9 = .ok (.if_icmp .ge 29, 3) := by decide +kernel
theorem dX0_noteWaitedFor_12 : decode cX0_noteWaitedFor 12 = .ok (.aload_n 0, 1) := by decide +kernel
theorem dX0_noteWaitedFor_13 : decode cX0_noteWaitedFor 13 = .ok (.aload_n 0, 1) := by decide +kernel
theorem dX0_noteWaitedFor_14 : decode cX0_noteWaitedFor 14 = .ok (.getfield 22, 3) := by decide +kernel
theorem dX0_noteWaitedFor_17 : decode cX0_noteWaitedFor 17 = .ok (.iload_n 2, 1) := by decide +kernel
theorem dX0_noteWaitedFor_18 : decode cX0_noteWaitedFor 18 = .ok (.aaload, 1) := by decide +kernel
theorem dX0_noteWaitedFor_19 : decode cX0_noteWaitedFor 19 = .ok (.iload_n 1, 1) := by decide +kernel
theorem dX0_noteWaitedFor_20 : decode cX0_noteWaitedFor 20 = .ok (.invokevirtual 193, 3) := by decide +kernel
theorem dX0_noteWaitedFor_23 : decode cX0_noteWaitedFor 23 = .ok (.ifCond .eq 9, 3) := by decide +kernel
theorem dX0_noteWaitedFor_26 : decode cX0_noteWaitedFor 26 = .ok (.aload_n 0, 1) := by decide +kernel
theorem dX0_noteWaitedFor_27 : decode cX0_noteWaitedFor 27 = .ok (.iload_n 2, 1) := by decide +kernel
theorem dX0_noteWaitedFor_28 : decode cX0_noteWaitedFor 28 = .ok (.iload_n 1, 1) := by decide +kernel
theorem dX0_noteWaitedFor_29 : decode cX0_noteWaitedFor 29 = .ok (.invokevirtual 218, 3) := by decide +kernel
theorem dX0_noteWaitedFor_32 : decode cX0_noteWaitedFor 32 = .ok (.iinc 2 1, 3) := by decide +kernel
theorem dX0_noteWaitedFor_35 : decode cX0_noteWaitedFor 35 = .ok (.goto (-28), 3) := by decide +kernel
theorem dX0_noteWaitedFor_38 : decode cX0_noteWaitedFor 38 = .ok (.return_, 1) := by decide +kernel
set_option maxRecDepth 20000 in
theorem ggX0_insertWaitedFor_X1_holdsUntil : GoodIn wsX0_insertWaitedFor wsX1_holdsUntil := goodIn_r _ [7, 8, 9, 10, 11, 12, 13, 14, 15, 5, 16, 17, 18, 19, 20, 38, 39, 40, 41, 42, 43, 44, 45, 46, 47, 48, 49, 50] (by decide +kernel) (by decide +kernel)
set_option maxRecDepth 20000 in
theorem gX0_insertWaitedFor_X1_holdsUntil_n211 : GoodIn wsX0_insertWaitedFor (wsX1_holdsUntil) := ggX0_insertWaitedFor_X1_holdsUntil
theorem dX0_insertWaitedFor_0 : decode cX0_insertWaitedFor 0 = .ok (.aload_n 0, 1) := by decide +kernel
theorem dX0_insertWaitedFor_1 : decode cX0_insertWaitedFor 1 = .ok (.getfield 22, 3) := by decide +kernel
theorem dX0_insertWaitedFor_4 : decode cX0_insertWaitedFor 4 = .ok (.iload_n 1, 1) := by decide +kernel
theorem dX0_insertWaitedFor_5 : decode cX0_insertWaitedFor 5 = .ok (.aaload, 1) := by decide +kernel
theorem dX0_insertWaitedFor_6 : decode cX0_insertWaitedFor 6 = .ok (.iload_n 2, 1) := by decide +kernel
theorem dX0_insertWaitedFor_7 : decode cX0_insertWaitedFor 7 = .ok (.invokevirtual 211, 3) := by decide +kernel
theorem dX0_insertWaitedFor_10 : decode cX0_insertWaitedFor 10 = .ok (.istore_n 3, 1) := by decide +kernel
theorem dX0_insertWaitedFor_11 : decode cX0_insertWaitedFor 11 = .ok (.aload_n 0, 1) := by decide +kernel
theorem dX0_insertWaitedFor_12 : decode cX0_insertWaitedFor 12 = .ok (.getfield 47, 3) := by decide +kernel
theorem dX0_insertWaitedFor_15 : decode cX0_insertWaitedFor 15 = .ok (.istore 4, 2) := by decide +kernel
theorem dX0_insertWaitedFor_17 : decode cX0_insertWaitedFor 17 = .ok (.iload 4, 2) := by decide +kernel
theorem dX0_insertWaitedFor_19 : decode cX0_insertWaitedFor 19 = .ok (.ifCond .le 47, 3) := by decide +kernel
theorem dX0_insertWaitedFor_22 : decode cX0_insertWaitedFor 22 = .ok (.aload_n 0, 1) := by decide +kernel
theorem dX0_insertWaitedFor_23 : decode cX0_insertWaitedFor 23 = .ok (.getfield 22, 3) := by decide +kernel
theorem dX0_insertWaitedFor_26 : decode cX0_insertWaitedFor 26 = .ok (.aload_n 0, 1) := by decide +kernel
theorem dX0_insertWaitedFor_27 : decode cX0_insertWaitedFor 27 = .ok (.getfield 44, 3) := by decide +kernel
theorem dX0_insertWaitedFor_30 : decode cX0_insertWaitedFor 30 = .ok (.iload 4, 2) := by decide +kernel
theorem dX0_insertWaitedFor_32 : decode cX0_insertWaitedFor 32 = .ok (.iconst 1, 1) := by decide +kernel
theorem dX0_insertWaitedFor_33 : decode cX0_insertWaitedFor 33 = .ok (.isub, 1) := by decide +kernel
theorem dX0_insertWaitedFor_34 : decode cX0_insertWaitedFor 34 = .ok (.iaload, 1) := by decide +kernel
theorem dX0_insertWaitedFor_35 : decode cX0_insertWaitedFor 35 = .ok (.aaload, 1) := by decide +kernel
theorem dX0_insertWaitedFor_36 : decode cX0_insertWaitedFor 36 = .ok (.iload_n 2, 1) := by decide +kernel
theorem dX0_insertWaitedFor_37 : decode cX0_insertWaitedFor 37 = .ok (.invokevirtual 211, 3) := by decide +kernel
theorem dX0_insertWaitedFor_40 : decode cX0_insertWaitedFor 40 = .ok (.iload_n 3, 1) := by decide +kernel
theorem dX0_insertWaitedFor_41 : decode cX0_insertWaitedFor 41 = .ok (.if_icmp .ge 25, 3) := by decide +kernel
theorem dX0_insertWaitedFor_44 : decode cX0_insertWaitedFor 44 = .ok (.aload_n 0, 1) := by decide +kernel
theorem dX0_insertWaitedFor_45 : decode cX0_insertWaitedFor 45 = .ok (.getfield 44, 3) := by decide +kernel
theorem dX0_insertWaitedFor_48 : decode cX0_insertWaitedFor 48 = .ok (.iload 4, 2) := by decide +kernel
theorem dX0_insertWaitedFor_50 : decode cX0_insertWaitedFor 50 = .ok (.aload_n 0, 1) := by decide +kernel
theorem dX0_insertWaitedFor_51 : decode cX0_insertWaitedFor 51 = .ok (.getfield 44, 3) := by decide +kernel
theorem dX0_insertWaitedFor_54 : decode cX0_insertWaitedFor 54 = .ok (.iload 4, 2) := by decide +kernel
theorem dX0_insertWaitedFor_56 : decode cX0_insertWaitedFor 56 = .ok (.iconst 1, 1) := by decide +kernel
theorem dX0_insertWaitedFor_57 : decode cX0_insertWaitedFor 57 = .ok (.isub, 1) := by decide +kernel
theorem dX0_insertWaitedFor_58 : decode cX0_insertWaitedFor 58 = .ok (.iaload, 1) := by decide +kernel
theorem dX0_insertWaitedFor_59 : decode cX0_insertWaitedFor 59 = .ok (.iastore, 1) := by decide +kernel
theorem dX0_insertWaitedFor_60 : decode cX0_insertWaitedFor 60 = .ok (.iinc 4 (-1), 3) := by decide +kernel
theorem dX0_insertWaitedFor_63 : decode cX0_insertWaitedFor 63 = .ok (.goto (-46), 3) := by decide +kernel
theorem dX0_insertWaitedFor_66 : decode cX0_insertWaitedFor 66 = .ok (.aload_n 0, 1) := by decide +kernel
theorem dX0_insertWaitedFor_67 : decode cX0_insertWaitedFor 67 = .ok (.getfield 44, 3) := by decide +kernel
theorem dX0_insertWaitedFor_70 : decode cX0_insertWaitedFor 70 = .ok (.iload 4, 2) := by decide +kernel
theorem dX0_insertWaitedFor_72 : decode cX0_insertWaitedFor 72 = .ok (.iload_n 1, 1) := by decide +kernel
theorem dX0_insertWaitedFor_73 : decode cX0_insertWaitedFor 73 = .ok (.iastore, 1) := by decide +kernel
theorem dX0_insertWaitedFor_74 : decode cX0_insertWaitedFor 74 = .ok (.aload_n 0, 1) := by decide +kernel
theorem dX0_insertWaitedFor_75 : decode cX0_insertWaitedFor 75 = .ok (.dup, 1) := by decide +kernel
theorem dX0_insertWaitedFor_76 : decode cX0_insertWaitedFor 76 = .ok (.getfield 47, 3) := by decide +kernel
theorem dX0_insertWaitedFor_79 : decode cX0_insertWaitedFor 79 = .ok (.iconst 1, 1) := by decide +kernel
theorem dX0_insertWaitedFor_80 : decode cX0_insertWaitedFor 80 = .ok (.iadd, 1) := by decide +kernel
theorem dX0_insertWaitedFor_81 : decode cX0_insertWaitedFor 81 = .ok (.putfield 47, 3) := by decide +kernel
theorem dX0_insertWaitedFor_84 : decode cX0_insertWaitedFor 84 = .ok (.return_, 1) := by decide +kernel
set_option maxRecDepth 20000 in
theorem ggX0_holdersOf_X0_isHolder : GoodIn wsX0_holdersOf wsX0_isHolder := goodIn_r _ [6, 7, 28, 29, 30, 31, 32, 33, 34, 35, 36, 37, 38, 39, 40, 11, 12, 13, 14, 15, 16, 17, 18, 19, 20, 21, 22, 23, 24, 25, 26, 27] (by decide +kernel) (by decide +kernel)
set_option maxRecDepth 20000 in
theorem gX0_holdersOf_X0_isHolder : GoodIn wsX0_holdersOf (wsV RX0 193 RX0 yX0_isHolder wsX0_isHolder) := goodIn_app (goodIn_of _ (by decide +kernel)) ggX0_holdersOf_X0_isHolder
set_option maxRecDepth 20000 in
theorem ggX0_holdersOf_X2_bit : GoodIn wsX0_holdersOf wsX2_bit := goodIn_r _ [10] (by decide +kernel) (by decide +kernel)
set_option maxRecDepth 20000 in
theorem gX0_holdersOf_X2_bit_n107 : GoodIn wsX0_holdersOf (wsX2_bit) := ggX0_holdersOf_X2_bit
theorem dX0_holdersOf_0 : decode cX0_holdersOf 0 = .ok (.iconst 0, 1) := by decide +kernel
theorem dX0_holdersOf_1 : decode cX0_holdersOf 1 = .ok (.istore_n 2, 1) := by decide +kernel
theorem dX0_holdersOf_2 : decode cX0_holdersOf 2 = .ok (.iconst 0, 1) := by decide +kernel
theorem dX0_holdersOf_3 : decode cX0_holdersOf 3 = .ok (.istore_n 3, 1) := by decide +kernel
theorem dX0_holdersOf_4 : decode cX0_holdersOf 4 = .ok (.iload_n 3, 1) := by decide +kernel
theorem dX0_holdersOf_5 : decode cX0_holdersOf 5 = .ok (.iconst 5, 1) := by decide +kernel
theorem dX0_holdersOf_6 : decode cX0_holdersOf 6 = .ok (.if_icmp .ge 28, 3) := by decide +kernel
theorem dX0_holdersOf_9 : decode cX0_holdersOf 9 = .ok (.iload_n 2, 1) := by decide +kernel
theorem dX0_holdersOf_10 : decode cX0_holdersOf 10 = .ok (.aload_n 0, 1) := by decide +kernel
theorem dX0_holdersOf_11 : decode cX0_holdersOf 11 = .ok (.aload_n 0, 1) := by decide +kernel
theorem dX0_holdersOf_12 : decode cX0_holdersOf 12 = .ok (.getfield 22, 3) := by decide +kernel
theorem dX0_holdersOf_15 : decode cX0_holdersOf 15 = .ok (.iload_n 3, 1) := by decide +kernel
theorem dX0_holdersOf_16 : decode cX0_holdersOf 16 = .ok (.aaload, 1) := by decide +kernel
theorem dX0_holdersOf_17 : decode cX0_holdersOf 17 = .ok (.iload_n 1, 1) := by decide +kernel
theorem dX0_holdersOf_18 : decode cX0_holdersOf 18 = .ok (.invokevirtual 193, 3) := by decide +kernel
theorem dX0_holdersOf_21 : decode cX0_holdersOf 21 = .ok (.invokestatic 107, 3) := by decide +kernel
theorem dX0_holdersOf_24 : decode cX0_holdersOf 24 = .ok (.iload_n 3, 1) := by decide +kernel
theorem dX0_holdersOf_25 : decode cX0_holdersOf 25 = .ok (.ishl, 1) := by decide +kernel
theorem dX0_holdersOf_26 : decode cX0_holdersOf 26 = .ok (.ior, 1) := by decide +kernel
theorem dX0_holdersOf_27 : decode cX0_holdersOf 27 = .ok (.istore_n 2, 1) := by decide +kernel
theorem dX0_holdersOf_28 : decode cX0_holdersOf 28 = .ok (.iinc 3 1, 3) := by decide +kernel
theorem dX0_holdersOf_31 : decode cX0_holdersOf 31 = .ok (.goto (-27), 3) := by decide +kernel
theorem dX0_holdersOf_34 : decode cX0_holdersOf 34 = .ok (.iload_n 2, 1) := by decide +kernel
theorem dX0_holdersOf_35 : decode cX0_holdersOf 35 = .ok (.ireturn, 1) := by decide +kernel
set_option maxRecDepth 20000 in
theorem ggX0_readersWithCopy_X1_hasCopy : GoodIn wsX0_readersWithCopy wsX1_hasCopy := goodIn_r _ [5, 6, 27, 28, 29, 30, 31, 32, 33, 34, 35, 36, 37, 38, 39] (by decide +kernel) (by decide +kernel)
set_option maxRecDepth 20000 in
theorem gX0_readersWithCopy_X1_hasCopy_n84 : GoodIn wsX0_readersWithCopy (wsX1_hasCopy) := ggX0_readersWithCopy_X1_hasCopy
set_option maxRecDepth 20000 in
theorem ggX0_readersWithCopy_X2_bit : GoodIn wsX0_readersWithCopy wsX2_bit := goodIn_r _ [9] (by decide +kernel) (by decide +kernel)
set_option maxRecDepth 20000 in
theorem gX0_readersWithCopy_X2_bit_n107 : GoodIn wsX0_readersWithCopy (wsX2_bit) := ggX0_readersWithCopy_X2_bit
theorem dX0_readersWithCopy_0 : decode cX0_readersWithCopy 0 = .ok (.iconst 0, 1) := by decide +kernel
theorem dX0_readersWithCopy_1 : decode cX0_readersWithCopy 1 = .ok (.istore_n 2, 1) := by decide +kernel
theorem dX0_readersWithCopy_2 : decode cX0_readersWithCopy 2 = .ok (.iconst 0, 1) := by decide +kernel
theorem dX0_readersWithCopy_3 : decode cX0_readersWithCopy 3 = .ok (.istore_n 3, 1) := by decide +kernel
theorem dX0_readersWithCopy_4 : decode cX0_readersWithCopy 4 = .ok (.iload_n 3, 1) := by decide +kernel
theorem dX0_readersWithCopy_5 : decode cX0_readersWithCopy 5 = .ok (.iconst 5, 1) := by decide +kernel
theorem dX0_readersWithCopy_6 : decode cX0_readersWithCopy 6 = .ok (.if_icmp .ge 27, 3) := by decide +kernel
theorem dX0_readersWithCopy_9 : decode cX0_readersWithCopy 9 = .ok (.iload_n 2, 1) := by decide +kernel
theorem dX0_readersWithCopy_10 : decode cX0_readersWithCopy 10 = .ok (.aload_n 0, 1) := by decide +kernel
theorem dX0_readersWithCopy_11 : decode cX0_readersWithCopy 11 = .ok (.getfield 22, 3) := by decide +kernel
theorem dX0_readersWithCopy_14 : decode cX0_readersWithCopy 14 = .ok (.iload_n 3, 1) := by decide +kernel
theorem dX0_readersWithCopy_15 : decode cX0_readersWithCopy 15 = .ok (.aaload, 1) := by decide +kernel
theorem dX0_readersWithCopy_16 : decode cX0_readersWithCopy 16 = .ok (.iload_n 1, 1) := by decide +kernel
theorem dX0_readersWithCopy_17 : decode cX0_readersWithCopy 17 = .ok (.invokevirtual 84, 3) := by decide +kernel
theorem dX0_readersWithCopy_20 : decode cX0_readersWithCopy 20 = .ok (.invokestatic 107, 3) := by decide +kernel
theorem dX0_readersWithCopy_23 : decode cX0_readersWithCopy 23 = .ok (.iload_n 3, 1) := by decide +kernel
theorem dX0_readersWithCopy_24 : decode cX0_readersWithCopy 24 = .ok (.ishl, 1) := by decide +kernel
theorem dX0_readersWithCopy_25 : decode cX0_readersWithCopy 25 = .ok (.ior, 1) := by decide +kernel
theorem dX0_readersWithCopy_26 : decode cX0_readersWithCopy 26 = .ok (.istore_n 2, 1) := by decide +kernel
theorem dX0_readersWithCopy_27 : decode cX0_readersWithCopy 27 = .ok (.iinc 3 1, 3) := by decide +kernel
theorem dX0_readersWithCopy_30 : decode cX0_readersWithCopy 30 = .ok (.goto (-26), 3) := by decide +kernel
theorem dX0_readersWithCopy_33 : decode cX0_readersWithCopy 33 = .ok (.iload_n 2, 1) := by decide +kernel
theorem dX0_readersWithCopy_34 : decode cX0_readersWithCopy 34 = .ok (.ireturn, 1) := by decide +kernel
set_option maxRecDepth 20000 in
theorem ggX0_readersWithUse_X0_canUse : GoodIn wsX0_readersWithUse wsX0_canUse := goodIn_r _ [6, 7, 8, 9, 10, 11, 12, 13, 14, 5, 15, 16, 17, 18, 19, 20, 21, 22, 23, 24, 44, 45, 46, 47, 48, 49, 50, 51, 52, 53, 54, 55, 56, 27, 28, 29, 30, 31, 32, 33, 34, 35, 36, 37, 38, 39, 40, 41, 42, 43] (by decide +kernel) (by decide +kernel)
set_option maxRecDepth 20000 in
theorem gX0_readersWithUse_X0_canUse : GoodIn wsX0_readersWithUse (wsV RX0 111 RX0 yX0_canUse wsX0_canUse) := goodIn_app (goodIn_of _ (by decide +kernel)) ggX0_readersWithUse_X0_canUse
set_option maxRecDepth 20000 in
theorem ggX0_readersWithUse_X2_bit : GoodIn wsX0_readersWithUse wsX2_bit := goodIn_r _ [26] (by decide +kernel) (by decide +kernel)
set_option maxRecDepth 20000 in
theorem gX0_readersWithUse_X2_bit_n107 : GoodIn wsX0_readersWithUse (wsX2_bit) := ggX0_readersWithUse_X2_bit
theorem dX0_readersWithUse_0 : decode cX0_readersWithUse 0 = .ok (.iconst 0, 1) := by decide +kernel
theorem dX0_readersWithUse_1 : decode cX0_readersWithUse 1 = .ok (.istore_n 2, 1) := by decide +kernel
theorem dX0_readersWithUse_2 : decode cX0_readersWithUse 2 = .ok (.iconst 0, 1) := by decide +kernel
theorem dX0_readersWithUse_3 : decode cX0_readersWithUse 3 = .ok (.istore_n 3, 1) := by decide +kernel
theorem dX0_readersWithUse_4 : decode cX0_readersWithUse 4 = .ok (.iload_n 3, 1) := by decide +kernel
theorem dX0_readersWithUse_5 : decode cX0_readersWithUse 5 = .ok (.iconst 5, 1) := by decide +kernel
theorem dX0_readersWithUse_6 : decode cX0_readersWithUse 6 = .ok (.if_icmp .ge 28, 3) := by decide +kernel
theorem dX0_readersWithUse_9 : decode cX0_readersWithUse 9 = .ok (.iload_n 2, 1) := by decide +kernel
theorem dX0_readersWithUse_10 : decode cX0_readersWithUse 10 = .ok (.aload_n 0, 1) := by decide +kernel
theorem dX0_readersWithUse_11 : decode cX0_readersWithUse 11 = .ok (.aload_n 0, 1) := by decide +kernel
theorem dX0_readersWithUse_12 : decode cX0_readersWithUse 12 = .ok (.getfield 22, 3) := by decide +kernel
theorem dX0_readersWithUse_15 : decode cX0_readersWithUse 15 = .ok (.iload_n 3, 1) := by decide +kernel
theorem dX0_readersWithUse_16 : decode cX0_readersWithUse 16 = .ok (.aaload, 1) := by decide +kernel
theorem dX0_readersWithUse_17 : decode cX0_readersWithUse 17 = .ok (.iload_n 1, 1) := by decide +kernel
theorem dX0_readersWithUse_18 : decode cX0_readersWithUse 18 = .ok (.invokevirtual 111, 3) := by decide +kernel
theorem dX0_readersWithUse_21 : decode cX0_readersWithUse 21 = .ok (.invokestatic 107, 3) := by decide +kernel
theorem dX0_readersWithUse_24 : decode cX0_readersWithUse 24 = .ok (.iload_n 3, 1) := by decide +kernel
theorem dX0_readersWithUse_25 : decode cX0_readersWithUse 25 = .ok (.ishl, 1) := by decide +kernel
theorem dX0_readersWithUse_26 : decode cX0_readersWithUse 26 = .ok (.ior, 1) := by decide +kernel
theorem dX0_readersWithUse_27 : decode cX0_readersWithUse 27 = .ok (.istore_n 2, 1) := by decide +kernel
theorem dX0_readersWithUse_28 : decode cX0_readersWithUse 28 = .ok (.iinc 3 1, 3) := by decide +kernel
theorem dX0_readersWithUse_31 : decode cX0_readersWithUse 31 = .ok (.goto (-27), 3) := by decide +kernel
theorem dX0_readersWithUse_34 : decode cX0_readersWithUse 34 = .ok (.iload_n 2, 1) := by decide +kernel
theorem dX0_readersWithUse_35 : decode cX0_readersWithUse 35 = .ok (.ireturn, 1) := by decide +kernel
set_option maxRecDepth 20000 in
theorem ggX0_becomeLike_X2_copyRow : GoodIn wsX0_becomeLike wsX2_copyRow := goodIn_r _ [20, 21, 22, 23, 24, 25, 26, 27, 28] (by decide +kernel) (by decide +kernel)
set_option maxRecDepth 20000 in
theorem gX0_becomeLike_X2_copyRow_n71 : GoodIn wsX0_becomeLike (wsX2_copyRow) := ggX0_becomeLike_X2_copyRow
set_option maxRecDepth 20000 in
theorem ggX0_becomeLike_X1_becomeLike : GoodIn wsX0_becomeLike wsX1_becomeLike := goodIn_r _ [32, 33, 34, 35, 36, 37, 38, 39, 40, 41, 42, 43, 44, 45, 18, 19, 20, 21, 22, 23, 24, 25, 26, 27, 28, 63, 64, 65, 66, 67, 68, 69, 70, 71, 72, 73, 74, 75] (by decide +kernel) (by decide +kernel)
set_option maxRecDepth 20000 in
theorem gX0_becomeLike_X1_becomeLike_n222 : GoodIn wsX0_becomeLike (wsX1_becomeLike) := ggX0_becomeLike_X1_becomeLike
theorem dX0_becomeLike_0 : decode cX0_becomeLike 0 = .ok (.aload_n 0, 1) := by decide +kernel
theorem dX0_becomeLike_1 : decode cX0_becomeLike 1 = .ok (.aload_n 1, 1) := by decide +kernel
theorem dX0_becomeLike_2 : decode cX0_becomeLike 2 = .ok (.getfield 9, 3) := by decide +kernel
theorem dX0_becomeLike_5 : decode cX0_becomeLike 5 = .ok (.putfield 9, 3) := by decide +kernel
theorem dX0_becomeLike_8 : decode cX0_becomeLike 8 = .ok (.aload_n 1, 1) := by decide +kernel
theorem dX0_becomeLike_9 : decode cX0_becomeLike 9 = .ok (.getfield 15, 3) := by decide +kernel
theorem dX0_becomeLike_12 : decode cX0_becomeLike 12 = .ok (.aload_n 0, 1) := by decide +kernel
theorem dX0_becomeLike_13 : decode cX0_becomeLike 13 = .ok (.getfield 15, 3) := by decide +kernel
theorem dX0_becomeLike_16 : decode cX0_becomeLike 16 = .ok (.invokestatic 71, 3) := by decide +kernel
theorem dX0_becomeLike_19 : decode cX0_becomeLike 19 = .ok (.iconst 0, 1) := by decide +kernel
theorem dX0_becomeLike_20 : decode cX0_becomeLike 20 = .ok (.istore_n 2, 1) := by decide +kernel
theorem dX0_becomeLike_21 : decode cX0_becomeLike 21 = .ok (.iload_n 2, 1) := by decide +kernel
theorem dX0_becomeLike_22 : decode cX0_becomeLike 22 = .ok (.iconst 5, 1) := by decide +kernel
theorem dX0_becomeLike_23 : decode cX0_becomeLike 23 = .ok (.if_icmp .ge 24, 3) := by decide +kernel
theorem dX0_becomeLike_26 : decode cX0_becomeLike 26 = .ok (.aload_n 0, 1) := by decide +kernel
theorem dX0_becomeLike_27 : decode cX0_becomeLike 27 = .ok (.getfield 22, 3) := by decide +kernel
theorem dX0_becomeLike_30 : decode cX0_becomeLike 30 = .ok (.iload_n 2, 1) := by decide +kernel
theorem dX0_becomeLike_31 : decode cX0_becomeLike 31 = .ok (.aaload, 1) := by decide +kernel
theorem dX0_becomeLike_32 : decode cX0_becomeLike 32 = .ok (.aload_n 1, 1) := by decide +kernel
theorem dX0_becomeLike_33 : decode cX0_becomeLike 33 = .ok (.getfield 22, 3) := by decide +kernel
theorem dX0_becomeLike_36 : decode cX0_becomeLike 36 = .ok (.iload_n 2, 1) := by decide +kernel
theorem dX0_becomeLike_37 : decode cX0_becomeLike 37 = .ok (.aaload, 1) := by decide +kernel
theorem dX0_becomeLike_38 : decode cX0_becomeLike 38 = .ok (.invokevirtual 222, 3) := by decide +kernel
theorem dX0_becomeLike_41 : decode cX0_becomeLike 41 = .ok (.iinc 2 1, 3) := by decide +kernel
theorem dX0_becomeLike_44 : decode cX0_becomeLike 44 = .ok (.goto (-23), 3) := by decide +kernel
theorem dX0_becomeLike_47 : decode cX0_becomeLike 47 = .ok (.aload_n 1, 1) := by decide +kernel
theorem dX0_becomeLike_48 : decode cX0_becomeLike 48 = .ok (.getfield 26, 3) := by decide +kernel
theorem dX0_becomeLike_51 : decode cX0_becomeLike 51 = .ok (.aload_n 0, 1) := by decide +kernel
theorem dX0_becomeLike_52 : decode cX0_becomeLike 52 = .ok (.getfield 26, 3) := by decide +kernel
theorem dX0_becomeLike_55 : decode cX0_becomeLike 55 = .ok (.invokestatic 71, 3) := by decide +kernel
theorem dX0_becomeLike_58 : decode cX0_becomeLike 58 = .ok (.aload_n 1, 1) := by decide +kernel
theorem dX0_becomeLike_59 : decode cX0_becomeLike 59 = .ok (.getfield 29, 3) := by decide +kernel
theorem dX0_becomeLike_62 : decode cX0_becomeLike 62 = .ok (.aload_n 0, 1) := by decide +kernel
theorem dX0_becomeLike_63 : decode cX0_becomeLike 63 = .ok (.getfield 29, 3) := by decide +kernel
theorem dX0_becomeLike_66 : decode cX0_becomeLike 66 = .ok (.invokestatic 71, 3) := by decide +kernel
theorem dX0_becomeLike_69 : decode cX0_becomeLike 69 = .ok (.aload_n 1, 1) := by decide +kernel
theorem dX0_becomeLike_70 : decode cX0_becomeLike 70 = .ok (.getfield 32, 3) := by decide +kernel
theorem dX0_becomeLike_73 : decode cX0_becomeLike 73 = .ok (.aload_n 0, 1) := by decide +kernel
theorem dX0_becomeLike_74 : decode cX0_becomeLike 74 = .ok (.getfield 32, 3) := by decide +kernel
theorem dX0_becomeLike_77 : decode cX0_becomeLike 77 = .ok (.invokestatic 71, 3) := by decide +kernel
theorem dX0_becomeLike_80 : decode cX0_becomeLike 80 = .ok (.aload_n 0, 1) := by decide +kernel
theorem dX0_becomeLike_81 : decode cX0_becomeLike 81 = .ok (.aload_n 1, 1) := by decide +kernel
theorem dX0_becomeLike_82 : decode cX0_becomeLike 82 = .ok (.getfield 35, 3) := by decide +kernel
theorem dX0_becomeLike_85 : decode cX0_becomeLike 85 = .ok (.putfield 35, 3) := by decide +kernel
theorem dX0_becomeLike_88 : decode cX0_becomeLike 88 = .ok (.aload_n 1, 1) := by decide +kernel
theorem dX0_becomeLike_89 : decode cX0_becomeLike 89 = .ok (.getfield 38, 3) := by decide +kernel
theorem dX0_becomeLike_92 : decode cX0_becomeLike 92 = .ok (.aload_n 0, 1) := by decide +kernel
theorem dX0_becomeLike_93 : decode cX0_becomeLike 93 = .ok (.getfield 38, 3) := by decide +kernel
theorem dX0_becomeLike_96 : decode cX0_becomeLike 96 = .ok (.invokestatic 71, 3) := by decide +kernel
theorem dX0_becomeLike_99 : decode cX0_becomeLike 99 = .ok (.aload_n 0, 1) := by decide +kernel
theorem dX0_becomeLike_100 : decode cX0_becomeLike 100 = .ok (.aload_n 1, 1) := by decide +kernel
theorem dX0_becomeLike_101 : decode cX0_becomeLike 101 = .ok (.getfield 41, 3) := by decide +kernel
theorem dX0_becomeLike_104 : decode cX0_becomeLike 104 = .ok (.putfield 41, 3) := by decide +kernel
theorem dX0_becomeLike_107 : decode cX0_becomeLike 107 = .ok (.aload_n 1, 1) := by decide +kernel
theorem dX0_becomeLike_108 : decode cX0_becomeLike 108 = .ok (.getfield 44, 3) := by decide +kernel
theorem dX0_becomeLike_111 : decode cX0_becomeLike 111 = .ok (.aload_n 0, 1) := by decide +kernel
theorem dX0_becomeLike_112 : decode cX0_becomeLike 112 = .ok (.getfield 44, 3) := by decide +kernel
theorem dX0_becomeLike_115 : decode cX0_becomeLike 115 = .ok (.invokestatic 71, 3) := by decide +kernel
theorem dX0_becomeLike_118 : decode cX0_becomeLike 118 = .ok (.aload_n 0, 1) := by decide +kernel
theorem dX0_becomeLike_119 : decode cX0_becomeLike 119 = .ok (.aload_n 1, 1) := by decide +kernel
theorem dX0_becomeLike_120 : decode cX0_becomeLike 120 = .ok (.getfield 47, 3) := by decide +kernel
theorem dX0_becomeLike_123 : decode cX0_becomeLike 123 = .ok (.putfield 47, 3) := by decide +kernel
theorem dX0_becomeLike_126 : decode cX0_becomeLike 126 = .ok (.aload_n 0, 1) := by decide +kernel
theorem dX0_becomeLike_127 : decode cX0_becomeLike 127 = .ok (.aload_n 1, 1) := by decide +kernel
theorem dX0_becomeLike_128 : decode cX0_becomeLike 128 = .ok (.getfield 50, 3) := by decide +kernel
theorem dX0_becomeLike_131 : decode cX0_becomeLike 131 = .ok (.putfield 50, 3) := by decide +kernel
theorem dX0_becomeLike_134 : decode cX0_becomeLike 134 = .ok (.aload_n 0, 1) := by decide +kernel
theorem dX0_becomeLike_135 : decode cX0_becomeLike 135 = .ok (.aload_n 1, 1) := by decide +kernel
theorem dX0_becomeLike_136 : decode cX0_becomeLike 136 = .ok (.getfield 53, 3) := by decide +kernel
theorem dX0_becomeLike_139 : decode cX0_becomeLike 139 = .ok (.putfield 53, 3) := by decide +kernel
theorem dX0_becomeLike_142 : decode cX0_becomeLike 142 = .ok (.aload_n 0, 1) := by decide +kernel
theorem dX0_becomeLike_143 : decode cX0_becomeLike 143 = .ok (.aload_n 1, 1) := by decide +kernel
theorem dX0_becomeLike_144 : decode cX0_becomeLike 144 = .ok (.getfield 56, 3) := by decide +kernel
theorem dX0_becomeLike_147 : decode cX0_becomeLike 147 = .ok (.putfield 56, 3) := by decide +kernel
theorem dX0_becomeLike_150 : decode cX0_becomeLike 150 = .ok (.aload_n 0, 1) := by decide +kernel
theorem dX0_becomeLike_151 : decode cX0_becomeLike 151 = .ok (.aload_n 1, 1) := by decide +kernel
theorem dX0_becomeLike_152 : decode cX0_becomeLike 152 = .ok (.getfield 59, 3) := by decide +kernel
theorem dX0_becomeLike_155 : decode cX0_becomeLike 155 = .ok (.putfield 59, 3) := by decide +kernel
theorem dX0_becomeLike_158 : decode cX0_becomeLike 158 = .ok (.aload_n 0, 1) := by decide +kernel
theorem dX0_becomeLike_159 : decode cX0_becomeLike 159 = .ok (.aload_n 1, 1) := by decide +kernel
theorem dX0_becomeLike_160 : decode cX0_becomeLike 160 = .ok (.getfield 62, 3) := by decide +kernel
theorem dX0_becomeLike_163 : decode cX0_becomeLike 163 = .ok (.putfield 62, 3) := by decide +kernel
theorem dX0_becomeLike_166 : decode cX0_becomeLike 166 = .ok (.aload_n 0, 1) := by decide +kernel
theorem dX0_becomeLike_167 : decode cX0_becomeLike 167 = .ok (.aload_n 1, 1) := by decide +kernel
theorem dX0_becomeLike_168 : decode cX0_becomeLike 168 = .ok (.getfield 65, 3) := by decide +kernel
theorem dX0_becomeLike_171 : decode cX0_becomeLike 171 = .ok (.putfield 65, 3) := by decide +kernel
theorem dX0_becomeLike_174 : decode cX0_becomeLike 174 = .ok (.return_, 1) := by decide +kernel
set_option maxRecDepth 20000 in
theorem ggX1_init_J7_fill_53178 : GoodIn wsX1_init wsJ7_fill_53178 := goodIn_r _ [21] (by decide +kernel) (by decide +kernel)
set_option maxRecDepth 20000 in
theorem gX1_init_J7_fill_53178 : GoodIn wsX1_init (va_wsS RX1 53 yJ7_fill_53178 wsJ7_fill_53178) := goodIn_app (goodIn_of _ (by decide +kernel)) ggX1_init_J7_fill_53178
theorem dX1_init_0 : decode cX1_init 0 = .ok (.aload_n 0, 1) := by decide +kernel
theorem dX1_init_1 : decode cX1_init 1 = .ok (.invokespecial 3, 3) := by decide +kernel
theorem dX1_init_4 : decode cX1_init 4 = .ok (.aload_n 0, 1) := by decide +kernel
theorem dX1_init_5 : decode cX1_init 5 = .ok (.iconst 1, 1) := by decide +kernel
theorem dX1_init_6 : decode cX1_init 6 = .ok (.putfield 9, 3) := by decide +kernel
theorem dX1_init_9 : decode cX1_init 9 = .ok (.aload_n 0, 1) := by decide +kernel
theorem dX1_init_10 : decode cX1_init 10 = .ok (.iconst 0, 1) := by decide +kernel
theorem dX1_init_11 : decode cX1_init 11 = .ok (.putfield 15, 3) := by decide +kernel
theorem dX1_init_14 : decode cX1_init 14 = .ok (.aload_n 0, 1) := by decide +kernel
theorem dX1_init_15 : decode cX1_init 15 = .ok (.bipush 12, 2) := by decide +kernel
theorem dX1_init_17 : decode cX1_init 17 = .ok (.newarray .int, 2) := by decide +kernel
theorem dX1_init_19 : decode cX1_init 19 = .ok (.putfield 19, 3) := by decide +kernel
theorem dX1_init_22 : decode cX1_init 22 = .ok (.aload_n 0, 1) := by decide +kernel
theorem dX1_init_23 : decode cX1_init 23 = .ok (.bipush 12, 2) := by decide +kernel
theorem dX1_init_25 : decode cX1_init 25 = .ok (.newarray .int, 2) := by decide +kernel
theorem dX1_init_27 : decode cX1_init 27 = .ok (.putfield 23, 3) := by decide +kernel
theorem dX1_init_30 : decode cX1_init 30 = .ok (.aload_n 0, 1) := by decide +kernel
theorem dX1_init_31 : decode cX1_init 31 = .ok (.bipush 12, 2) := by decide +kernel
theorem dX1_init_33 : decode cX1_init 33 = .ok (.newarray .int, 2) := by decide +kernel
theorem dX1_init_35 : decode cX1_init 35 = .ok (.putfield 26, 3) := by decide +kernel
theorem dX1_init_38 : decode cX1_init 38 = .ok (.aload_n 0, 1) := by decide +kernel
theorem dX1_init_39 : decode cX1_init 39 = .ok (.iconst 3, 1) := by decide +kernel
theorem dX1_init_40 : decode cX1_init 40 = .ok (.newarray .int, 2) := by decide +kernel
theorem dX1_init_42 : decode cX1_init 42 = .ok (.putfield 29, 3) := by decide +kernel
theorem dX1_init_45 : decode cX1_init 45 = .ok (.aload_n 0, 1) := by decide +kernel
theorem dX1_init_46 : decode cX1_init 46 = .ok (.iconst 3, 1) := by decide +kernel
theorem dX1_init_47 : decode cX1_init 47 = .ok (.newarray .int, 2) := by decide +kernel
theorem dX1_init_49 : decode cX1_init 49 = .ok (.putfield 32, 3) := by decide +kernel
theorem dX1_init_52 : decode cX1_init 52 = .ok (.aload_n 0, 1) := by decide +kernel
theorem dX1_init_53 : decode cX1_init 53 = .ok (.bipush (-6), 2) := by decide +kernel
theorem dX1_init_55 : decode cX1_init 55 = .ok (.putfield 35, 3) := by decide +kernel
theorem dX1_init_58 : decode cX1_init 58 = .ok (.aload_n 0, 1) := by decide +kernel
theorem dX1_init_59 : decode cX1_init 59 = .ok (.iconst 0, 1) := by decide +kernel
theorem dX1_init_60 : decode cX1_init 60 = .ok (.putfield 38, 3) := by decide +kernel
theorem dX1_init_63 : decode cX1_init 63 = .ok (.aload_n 0, 1) := by decide +kernel
theorem dX1_init_64 : decode cX1_init 64 = .ok (.iconst 0, 1) := by decide +kernel
theorem dX1_init_65 : decode cX1_init 65 = .ok (.putfield 41, 3) := by decide +kernel
theorem dX1_init_68 : decode cX1_init 68 = .ok (.aload_n 0, 1) := by decide +kernel
theorem dX1_init_69 : decode cX1_init 69 = .ok (.iconst 0, 1) := by decide +kernel
theorem dX1_init_70 : decode cX1_init 70 = .ok (.putfield 44, 3) := by decide +kernel
theorem dX1_init_73 : decode cX1_init 73 = .ok (.aload_n 0, 1) := by decide +kernel
theorem dX1_init_74 : decode cX1_init 74 = .ok (.iconst 0, 1) := by decide +kernel
theorem dX1_init_75 : decode cX1_init 75 = .ok (.putfield 47, 3) := by decide +kernel
theorem dX1_init_78 : decode cX1_init 78 = .ok (.aload_n 0, 1) := by decide +kernel
theorem dX1_init_79 : decode cX1_init 79 = .ok (.iconst 0, 1) := by decide +kernel
theorem dX1_init_80 : decode cX1_init 80 = .ok (.putfield 50, 3) := by decide +kernel
theorem dX1_init_83 : decode cX1_init 83 = .ok (.aload_n 0, 1) := by decide +kernel
theorem dX1_init_84 : decode cX1_init 84 = .ok (.getfield 19, 3) := by decide +kernel
theorem dX1_init_87 : decode cX1_init 87 = .ok (.bipush (-6), 2) := by decide +kernel
theorem dX1_init_89 : decode cX1_init 89 = .ok (.invokestatic 53, 3) := by decide +kernel
theorem dX1_init_92 : decode cX1_init 92 = .ok (.return_, 1) := by decide +kernel
theorem dX1_hasCopy_0 : decode cX1_hasCopy 0 = .ok (.aload_n 0, 1) := by decide +kernel
theorem dX1_hasCopy_1 : decode cX1_hasCopy 1 = .ok (.getfield 19, 3) := by decide +kernel
theorem dX1_hasCopy_4 : decode cX1_hasCopy 4 = .ok (.iload_n 1, 1) := by decide +kernel
theorem dX1_hasCopy_5 : decode cX1_hasCopy 5 = .ok (.iaload, 1) := by decide +kernel
theorem dX1_hasCopy_6 : decode cX1_hasCopy 6 = .ok (.bipush (-6), 2) := by decide +kernel
theorem dX1_hasCopy_8 : decode cX1_hasCopy 8 = .ok (.if_icmp .eq 7, 3) := by decide +kernel
theorem dX1_hasCopy_11 : decode cX1_hasCopy 11 = .ok (.iconst 1, 1) := by decide +kernel
theorem dX1_hasCopy_12 : decode cX1_hasCopy 12 = .ok (.goto 4, 3) := by decide +kernel
theorem dX1_hasCopy_15 : decode cX1_hasCopy 15 = .ok (.iconst 0, 1) := by decide +kernel
theorem dX1_hasCopy_16 : decode cX1_hasCopy 16 = .ok (.ireturn, 1) := by decide +kernel
theorem dX1_takeCopy_0 : decode cX1_takeCopy 0 = .ok (.aload_n 0, 1) := by decide +kernel
theorem dX1_takeCopy_1 : decode cX1_takeCopy 1 = .ok (.getfield 19, 3) := by decide +kernel
theorem dX1_takeCopy_4 : decode cX1_takeCopy 4 = .ok (.iload_n 1, 1) := by decide +kernel
theorem dX1_takeCopy_5 : decode cX1_takeCopy 5 = .ok (.iload_n 2, 1) := by decide +kernel
theorem dX1_takeCopy_6 : decode cX1_takeCopy 6 = .ok (.iastore, 1) := by decide +kernel
theorem dX1_takeCopy_7 : decode cX1_takeCopy 7 = .ok (.aload_n 0, 1) := by decide +kernel
theorem dX1_takeCopy_8 : decode cX1_takeCopy 8 = .ok (.getfield 23, 3) := by decide +kernel
theorem dX1_takeCopy_11 : decode cX1_takeCopy 11 = .ok (.iload_n 1, 1) := by decide +kernel
theorem dX1_takeCopy_12 : decode cX1_takeCopy 12 = .ok (.iload_n 3, 1) := by decide +kernel
theorem dX1_takeCopy_13 : decode cX1_takeCopy 13 = .ok (.iastore, 1) := by decide +kernel
theorem dX1_takeCopy_14 : decode cX1_takeCopy 14 = .ok (.aload_n 0, 1) := by decide +kernel
theorem dX1_takeCopy_15 : decode cX1_takeCopy 15 = .ok (.getfield 26, 3) := by decide +kernel
theorem dX1_takeCopy_18 : decode cX1_takeCopy 18 = .ok (.iload_n 1, 1) := by decide +kernel
theorem dX1_takeCopy_19 : decode cX1_takeCopy 19 = .ok (.iload_n 3, 1) := by decide +kernel
theorem dX1_takeCopy_20 : decode cX1_takeCopy 20 = .ok (.iastore, 1) := by decide +kernel
theorem dX1_takeCopy_21 : decode cX1_takeCopy 21 = .ok (.return_, 1) := by decide +kernel
set_option maxRecDepth 20000 in
theorem ggX1_dropCopy_X1_takeCopy : GoodIn wsX1_dropCopy wsX1_takeCopy := goodIn_r _ [5, 6, 7, 8, 9, 10, 11, 12, 13, 14, 15, 16, 17, 18, 19, 20, 21] (by decide +kernel) (by decide +kernel)
set_option maxRecDepth 20000 in
theorem gX1_dropCopy_X1_takeCopy : GoodIn wsX1_dropCopy (wsV RX1 59 RX1 yX1_takeCopy wsX1_takeCopy) := goodIn_app (goodIn_of _ (by decide +kernel)) ggX1_dropCopy_X1_takeCopy
theorem dX1_dropCopy_0 : decode cX1_dropCopy 0 = .ok (.aload_n 0, 1) := by decide +kernel
theorem dX1_dropCopy_1 : decode cX1_dropCopy 1 = .ok (.iload_n 1, 1) := by decide +kernel
theorem dX1_dropCopy_2 : decode cX1_dropCopy 2 = .ok (.bipush (-6), 2) := by decide +kernel
theorem dX1_dropCopy_4 : decode cX1_dropCopy 4 = .ok (.iconst 0, 1) := by decide +kernel
theorem dX1_dropCopy_5 : decode cX1_dropCopy 5 = .ok (.invokevirtual 59, 3) := by decide +kernel
theorem dX1_dropCopy_8 : decode cX1_dropCopy 8 = .ok (.return_, 1) := by decide +kernel
set_option maxRecDepth 20000 in
theorem ggX1_volumeTermFor_X2_volumeOf : GoodIn wsX1_volumeTermFor wsX2_volumeOf := goodIn_r _ [4] (by decide +kernel) (by decide +kernel)
set_option maxRecDepth 20000 in
theorem gX1_volumeTermFor_X2_volumeOf_n63 : GoodIn wsX1_volumeTermFor (wsX2_volumeOf) := ggX1_volumeTermFor_X2_volumeOf
theorem dX1_volumeTermFor_0 : decode cX1_volumeTermFor 0 = .ok (.aload_n 0, 1) := by decide +kernel
theorem dX1_volumeTermFor_1 : decode cX1_volumeTermFor 1 = .ok (.getfield 29, 3) := by decide +kernel
theorem dX1_volumeTermFor_4 : decode cX1_volumeTermFor 4 = .ok (.iload_n 1, 1) := by decide +kernel
theorem dX1_volumeTermFor_5 : decode cX1_volumeTermFor 5 = .ok (.invokestatic 63, 3) := by decide +kernel
theorem dX1_volumeTermFor_8 : decode cX1_volumeTermFor 8 = .ok (.iaload, 1) := by decide +kernel
theorem dX1_volumeTermFor_9 : decode cX1_volumeTermFor 9 = .ok (.ireturn, 1) := by decide +kernel
set_option maxRecDepth 20000 in
theorem ggX1_holdsUntil_X1_volumeTermFor : GoodIn wsX1_holdsUntil wsX1_volumeTermFor := goodIn_r _ [10, 11, 12, 13, 14, 15, 16, 17, 18, 19, 20, 21, 22, 23, 24, 25, 26, 27] (by decide +kernel) (by decide +kernel)
set_option maxRecDepth 20000 in
theorem gX1_holdsUntil_X1_volumeTermFor : GoodIn wsX1_holdsUntil (wsV RX1 67 RX1 yX1_volumeTermFor wsX1_volumeTermFor) := goodIn_app (goodIn_of _ (by decide +kernel)) ggX1_holdsUntil_X1_volumeTermFor
theorem dX1_holdsUntil_0 : decode cX1_holdsUntil 0 = .ok (.aload_n 0, 1) := by decide +kernel
theorem dX1_holdsUntil_1 : decode cX1_holdsUntil 1 = .ok (.getfield 26, 3) := by decide +kernel
theorem dX1_holdsUntil_4 : decode cX1_holdsUntil 4 = .ok (.iload_n 1, 1) := by decide +kernel
theorem dX1_holdsUntil_5 : decode cX1_holdsUntil 5 = .ok (.iaload, 1) := by decide +kernel
theorem dX1_holdsUntil_6 : decode cX1_holdsUntil 6 = .ok (.aload_n 0, 1) := by decide +kernel
theorem dX1_holdsUntil_7 : decode cX1_holdsUntil 7 = .ok (.iload_n 1, 1) := by decide +kernel
theorem dX1_holdsUntil_8 : decode cX1_holdsUntil 8 = .ok (.invokevirtual 67, 3) := by decide +kernel
theorem dX1_holdsUntil_11 : decode cX1_holdsUntil 11 = .ok (.invokestatic 70, 3) := by decide +kernel
theorem dX1_holdsUntil_14 : decode cX1_holdsUntil 14 = .ok (.ireturn, 1) := by decide +kernel
set_option maxRecDepth 20000 in
theorem ggX1_becomeLike_X2_copyRow : GoodIn wsX1_becomeLike wsX2_copyRow := goodIn_r _ [16, 17, 18, 19, 20, 21, 22, 23, 24] (by decide +kernel) (by decide +kernel)
set_option maxRecDepth 20000 in
theorem gX1_becomeLike_X2_copyRow_n76 : GoodIn wsX1_becomeLike (wsX2_copyRow) := ggX1_becomeLike_X2_copyRow
theorem dX1_becomeLike_0 : decode cX1_becomeLike 0 = .ok (.aload_n 0, 1) := by decide +kernel
theorem dX1_becomeLike_1 : decode cX1_becomeLike 1 = .ok (.aload_n 1, 1) := by decide +kernel
theorem dX1_becomeLike_2 : decode cX1_becomeLike 2 = .ok (.getfield 9, 3) := by decide +kernel
theorem dX1_becomeLike_5 : decode cX1_becomeLike 5 = .ok (.putfield 9, 3) := by decide +kernel
theorem dX1_becomeLike_8 : decode cX1_becomeLike 8 = .ok (.aload_n 0, 1) := by decide +kernel
theorem dX1_becomeLike_9 : decode cX1_becomeLike 9 = .ok (.aload_n 1, 1) := by decide +kernel
theorem dX1_becomeLike_10 : decode cX1_becomeLike 10 = .ok (.getfield 15, 3) := by decide +kernel
theorem dX1_becomeLike_13 : decode cX1_becomeLike 13 = .ok (.putfield 15, 3) := by decide +kernel
theorem dX1_becomeLike_16 : decode cX1_becomeLike 16 = .ok (.aload_n 1, 1) := by decide +kernel
theorem dX1_becomeLike_17 : decode cX1_becomeLike 17 = .ok (.getfield 19, 3) := by decide +kernel
theorem dX1_becomeLike_20 : decode cX1_becomeLike 20 = .ok (.aload_n 0, 1) := by decide +kernel
theorem dX1_becomeLike_21 : decode cX1_becomeLike 21 = .ok (.getfield 19, 3) := by decide +kernel
theorem dX1_becomeLike_24 : decode cX1_becomeLike 24 = .ok (.invokestatic 76, 3) := by decide +kernel
theorem dX1_becomeLike_27 : decode cX1_becomeLike 27 = .ok (.aload_n 1, 1) := by decide +kernel
theorem dX1_becomeLike_28 : decode cX1_becomeLike 28 = .ok (.getfield 23, 3) := by decide +kernel
theorem dX1_becomeLike_31 : decode cX1_becomeLike 31 = .ok (.aload_n 0, 1) := by decide +kernel
theorem dX1_becomeLike_32 : decode cX1_becomeLike 32 = .ok (.getfield 23, 3) := by decide +kernel
theorem dX1_becomeLike_35 : decode cX1_becomeLike 35 = .ok (.invokestatic 76, 3) := by decide +kernel
theorem dX1_becomeLike_38 : decode cX1_becomeLike 38 = .ok (.aload_n 1, 1) := by decide +kernel
theorem dX1_becomeLike_39 : decode cX1_becomeLike 39 = .ok (.getfield 26, 3) := by decide +kernel
theorem dX1_becomeLike_42 : decode cX1_becomeLike 42 = .ok (.aload_n 0, 1) := by decide +kernel
theorem dX1_becomeLike_43 : decode cX1_becomeLike 43 = .ok (.getfield 26, 3) := by decide +kernel
theorem dX1_becomeLike_46 : decode cX1_becomeLike 46 = .ok (.invokestatic 76, 3) := by decide +kernel
theorem dX1_becomeLike_49 : decode cX1_becomeLike 49 = .ok (.aload_n 1, 1) := by decide +kernel
theorem dX1_becomeLike_50 : decode cX1_becomeLike 50 = .ok (.getfield 29, 3) := by decide +kernel
theorem dX1_becomeLike_53 : decode cX1_becomeLike 53 = .ok (.aload_n 0, 1) := by decide +kernel
theorem dX1_becomeLike_54 : decode cX1_becomeLike 54 = .ok (.getfield 29, 3) := by decide +kernel
theorem dX1_becomeLike_57 : decode cX1_becomeLike 57 = .ok (.invokestatic 76, 3) := by decide +kernel
theorem dX1_becomeLike_60 : decode cX1_becomeLike 60 = .ok (.aload_n 1, 1) := by decide +kernel
theorem dX1_becomeLike_61 : decode cX1_becomeLike 61 = .ok (.getfield 32, 3) := by decide +kernel
theorem dX1_becomeLike_64 : decode cX1_becomeLike 64 = .ok (.aload_n 0, 1) := by decide +kernel
theorem dX1_becomeLike_65 : decode cX1_becomeLike 65 = .ok (.getfield 32, 3) := by decide +kernel
theorem dX1_becomeLike_68 : decode cX1_becomeLike 68 = .ok (.invokestatic 76, 3) := by decide +kernel
theorem dX1_becomeLike_71 : decode cX1_becomeLike 71 = .ok (.aload_n 0, 1) := by decide +kernel
theorem dX1_becomeLike_72 : decode cX1_becomeLike 72 = .ok (.aload_n 1, 1) := by decide +kernel
theorem dX1_becomeLike_73 : decode cX1_becomeLike 73 = .ok (.getfield 35, 3) := by decide +kernel
theorem dX1_becomeLike_76 : decode cX1_becomeLike 76 = .ok (.putfield 35, 3) := by decide +kernel
theorem dX1_becomeLike_79 : decode cX1_becomeLike 79 = .ok (.aload_n 0, 1) := by decide +kernel
theorem dX1_becomeLike_80 : decode cX1_becomeLike 80 = .ok (.aload_n 1, 1) := by decide +kernel
theorem dX1_becomeLike_81 : decode cX1_becomeLike 81 = .ok (.getfield 38, 3) := by decide +kernel
theorem dX1_becomeLike_84 : decode cX1_becomeLike 84 = .ok (.putfield 38, 3) := by decide +kernel
theorem dX1_becomeLike_87 : decode cX1_becomeLike 87 = .ok (.aload_n 0, 1) := by decide +kernel
theorem dX1_becomeLike_88 : decode cX1_becomeLike 88 = .ok (.aload_n 1, 1) := by decide +kernel
theorem dX1_becomeLike_89 : decode cX1_becomeLike 89 = .ok (.getfield 41, 3) := by decide +kernel
theorem dX1_becomeLike_92 : decode cX1_becomeLike 92 = .ok (.putfield 41, 3) := by decide +kernel
theorem dX1_becomeLike_95 : decode cX1_becomeLike 95 = .ok (.aload_n 0, 1) := by decide +kernel
theorem dX1_becomeLike_96 : decode cX1_becomeLike 96 = .ok (.aload_n 1, 1) := by decide +kernel
theorem dX1_becomeLike_97 : decode cX1_becomeLike 97 = .ok (.getfield 44, 3) := by decide +kernel
theorem dX1_becomeLike_100 : decode cX1_becomeLike 100 = .ok (.putfield 44, 3) := by decide +kernel
theorem dX1_becomeLike_103 : decode cX1_becomeLike 103 = .ok (.aload_n 0, 1) := by decide +kernel
theorem dX1_becomeLike_104 : decode cX1_becomeLike 104 = .ok (.aload_n 1, 1) := by decide +kernel
theorem dX1_becomeLike_105 : decode cX1_becomeLike 105 = .ok (.getfield 47, 3) := by decide +kernel
theorem dX1_becomeLike_108 : decode cX1_becomeLike 108 = .ok (.putfield 47, 3) := by decide +kernel
theorem dX1_becomeLike_111 : decode cX1_becomeLike 111 = .ok (.aload_n 0, 1) := by decide +kernel
theorem dX1_becomeLike_112 : decode cX1_becomeLike 112 = .ok (.aload_n 1, 1) := by decide +kernel
theorem dX1_becomeLike_113 : decode cX1_becomeLike 113 = .ok (.getfield 50, 3) := by decide +kernel
theorem dX1_becomeLike_116 : decode cX1_becomeLike 116 = .ok (.putfield 50, 3) := by decide +kernel
theorem dX1_becomeLike_119 : decode cX1_becomeLike 119 = .ok (.return_, 1) := by decide +kernel
set_option maxRecDepth 20000 in
theorem ggX2_init_X0_init : GoodIn wsX2_init wsX0_init := goodIn_r _ [11, 12, 2, 3, 13, 14, 15, 16, 17, 18, 19, 20, 21, 22, 23, 24, 25, 26, 27, 28, 29, 30, 31, 32, 33, 34, 35, 36, 37, 38, 39, 40, 41, 42, 43, 44, 45, 46, 47, 48, 49, 50, 51, 52, 53, 54, 55, 56, 57, 58, 59, 60, 61, 62, 63, 64, 65, 66, 67, 68, 69, 70, 71, 72, 73, 74, 75, 76, 77, 78, 79, 80, 81, 82, 86, 87, 88, 89, 90, 91, 92, 93, 94, 95, 96, 97, 98] (by decide +kernel) (by decide +kernel)
set_option maxRecDepth 20000 in
theorem gX2_init_X0_init_n9 : GoodIn wsX2_init (wsX0_init) := ggX2_init_X0_init
theorem dX2_init_0 : decode cX2_init 0 = .ok (.aload_n 0, 1) := by decide +kernel
theorem dX2_init_1 : decode cX2_init 1 = .ok (.invokespecial 1, 3) := by decide +kernel
theorem dX2_init_4 : decode cX2_init 4 = .ok (.aload_n 0, 1) := by decide +kernel
theorem dX2_init_5 : decode cX2_init 5 = .ok (.new 7, 3) := by decide +kernel
theorem dX2_init_8 : decode cX2_init 8 = .ok (.dup, 1) := by decide +kernel
theorem dX2_init_9 : decode cX2_init 9 = .ok (.invokespecial 9, 3) := by decide +kernel
theorem dX2_init_12 : decode cX2_init 12 = .ok (.putfield 10, 3) := by decide +kernel
theorem dX2_init_15 : decode cX2_init 15 = .ok (.aload_n 0, 1) := by decide +kernel
theorem dX2_init_16 : decode cX2_init 16 = .ok (.iconst 2, 1) := by decide +kernel
theorem dX2_init_17 : decode cX2_init 17 = .ok (.anewarray 7, 3) := by decide +kernel
theorem dX2_init_20 : decode cX2_init 20 = .ok (.dup, 1) := by decide +kernel
theorem dX2_init_21 : decode cX2_init 21 = .ok (.iconst 0, 1) := by decide +kernel
theorem dX2_init_22 : decode cX2_init 22 = .ok (.new 7, 3) := by decide +kernel
theorem dX2_init_25 : decode cX2_init 25 = .ok (.dup, 1) := by decide +kernel
theorem dX2_init_26 : decode cX2_init 26 = .ok (.invokespecial 9, 3) := by decide +kernel
theorem dX2_init_29 : decode cX2_init 29 = .ok (.aastore, 1) := by decide +kernel
theorem dX2_init_30 : decode cX2_init 30 = .ok (.dup, 1) := by decide +kernel
theorem dX2_init_31 : decode cX2_init 31 = .ok (.iconst 1, 1) := by decide +kernel
theorem dX2_init_32 : decode cX2_init 32 = .ok (.new 7, 3) := by decide +kernel
theorem dX2_init_35 : decode cX2_init 35 = .ok (.dup, 1) := by decide +kernel
theorem dX2_init_36 : decode cX2_init 36 = .ok (.invokespecial 9, 3) := by decide +kernel
theorem dX2_init_39 : decode cX2_init 39 = .ok (.aastore, 1) := by decide +kernel
theorem dX2_init_40 : decode cX2_init 40 = .ok (.putfield 16, 3) := by decide +kernel
theorem dX2_init_43 : decode cX2_init 43 = .ok (.aload_n 0, 1) := by decide +kernel
theorem dX2_init_44 : decode cX2_init 44 = .ok (.iconst 0, 1) := by decide +kernel
theorem dX2_init_45 : decode cX2_init 45 = .ok (.putfield 20, 3) := by decide +kernel
theorem dX2_init_48 : decode cX2_init 48 = .ok (.return_, 1) := by decide +kernel
theorem dX2_rule_0 : decode cX2_rule 0 = .ok (.iload_n 1, 1) := by decide +kernel
theorem dX2_rule_1 : decode cX2_rule 1 = .ok (.ifCond .lt 8, 3) := by decide +kernel
theorem dX2_rule_4 : decode cX2_rule 4 = .ok (.iload_n 1, 1) := by decide +kernel
theorem dX2_rule_5 : decode cX2_rule 5 = .ok (.iconst 4, 1) := by decide +kernel
theorem dX2_rule_6 : decode cX2_rule 6 = .ok (.if_icmp .lt 6, 3) := by decide +kernel
theorem dX2_rule_9 : decode cX2_rule 9 = .ok (.bipush (-2), 2) := by decide +kernel
theorem dX2_rule_11 : decode cX2_rule 11 = .ok (.ireturn, 1) := by decide +kernel
theorem dX2_rule_12 : decode cX2_rule 12 = .ok (.iload_n 2, 1) := by decide +kernel
theorem dX2_rule_13 : decode cX2_rule 13 = .ok (.getstatic 24, 3) := by decide +kernel
theorem dX2_rule_16 : decode cX2_rule 16 = .ok (.iload_n 1, 1) := by decide +kernel
theorem dX2_rule_17 : decode cX2_rule 17 = .ok (.iaload, 1) := by decide +kernel
theorem dX2_rule_18 : decode cX2_rule 18 = .ok (.if_icmp .lt 12, 3) := by decide +kernel
theorem dX2_rule_21 : decode cX2_rule 21 = .ok (.iload_n 2, 1) := by decide +kernel
theorem dX2_rule_22 : decode cX2_rule 22 = .ok (.getstatic 28, 3) := by decide +kernel
theorem dX2_rule_25 : decode cX2_rule 25 = .ok (.iload_n 1, 1) := by decide +kernel
theorem dX2_rule_26 : decode cX2_rule 26 = .ok (.iaload, 1) := by decide +kernel
theorem dX2_rule_27 : decode cX2_rule 27 = .ok (.if_icmp .le 6, 3) := by decide +kernel
theorem dX2_rule_30 : decode cX2_rule 30 = .ok (.bipush (-2), 2) := by decide +kernel
theorem dX2_rule_32 : decode cX2_rule 32 = .ok (.ireturn, 1) := by decide +kernel
theorem dX2_rule_33 : decode cX2_rule 33 = .ok (.aload_n 0, 1) := by decide +kernel
theorem dX2_rule_34 : decode cX2_rule 34 = .ok (.getfield 10, 3) := by decide +kernel
theorem dX2_rule_37 : decode cX2_rule 37 = .ok (.getfield 31, 3) := by decide +kernel
theorem dX2_rule_40 : decode cX2_rule 40 = .ok (.iload_n 1, 1) := by decide +kernel
theorem dX2_rule_41 : decode cX2_rule 41 = .ok (.iaload, 1) := by decide +kernel
theorem dX2_rule_42 : decode cX2_rule 42 = .ok (.istore_n 3, 1) := by decide +kernel
theorem dX2_rule_43 : decode cX2_rule 43 = .ok (.aload_n 0, 1) := by decide +kernel
theorem dX2_rule_44 : decode cX2_rule 44 = .ok (.getfield 10, 3) := by decide +kernel
theorem dX2_rule_47 : decode cX2_rule 47 = .ok (.getfield 31, 3) := by decide +kernel
theorem dX2_rule_50 : decode cX2_rule 50 = .ok (.iload_n 1, 1) := by decide +kernel
theorem dX2_rule_51 : decode cX2_rule 51 = .ok (.iload_n 2, 1) := by decide +kernel
theorem dX2_rule_52 : decode cX2_rule 52 = .ok (.iastore, 1) := by decide +kernel
theorem dX2_rule_53 : decode cX2_rule 53 = .ok (.iload_n 3, 1) := by decide +kernel
theorem dX2_rule_54 : decode cX2_rule 54 = .ok (.ireturn, 1) := by decide +kernel
set_option maxRecDepth 20000 in
theorem ggX2_skew_X2_isReader : GoodIn wsX2_skew wsX2_isReader := goodIn_r _ [5] (by decide +kernel) (by decide +kernel)
set_option maxRecDepth 20000 in
theorem gX2_skew_X2_isReader : GoodIn wsX2_skew (va_wsS RX2 34 yX2_isReader wsX2_isReader) := goodIn_app (goodIn_of _ (by decide +kernel)) ggX2_skew_X2_isReader
set_option maxRecDepth 20000 in
theorem ggX2_skew_X0_countSkewedBeyondDoubt : GoodIn wsX2_skew wsX0_countSkewedBeyondDoubt := goodIn_r _ [9, 10, 11, 12, 13, 14, 15, 16, 4, 17, 21, 22, 23, 24, 25, 26, 27, 28, 29, 30, 31, 32, 33, 34, 35, 36, 37, 38, 39, 40, 41, 42, 43, 44, 45, 46, 47, 48, 49, 50] (by decide +kernel) (by decide +kernel)
set_option maxRecDepth 20000 in
theorem gX2_skew_X0_countSkewedBeyondDoubt_n47 : GoodIn wsX2_skew (wsX0_countSkewedBeyondDoubt) := ggX2_skew_X0_countSkewedBeyondDoubt
theorem dX2_skew_0 : decode cX2_skew 0 = .ok (.iload_n 1, 1) := by decide +kernel
theorem dX2_skew_1 : decode cX2_skew 1 = .ok (.invokestatic 34, 3) := by decide +kernel
theorem dX2_skew_4 : decode cX2_skew 4 = .ok (.ifCond .ne 5, 3) := by decide +kernel
theorem dX2_skew_7 : decode cX2_skew 7 = .ok (.iconst (-1), 1) := by decide +kernel
theorem dX2_skew_8 : decode cX2_skew 8 = .ok (.ireturn, 1) := by decide +kernel
theorem dX2_skew_9 : decode cX2_skew 9 = .ok (.iload_n 2, 1) := by decide +kernel
theorem dX2_skew_10 : decode cX2_skew 10 = .ok (.bipush (-20), 2) := by decide +kernel
theorem dX2_skew_12 : decode cX2_skew 12 = .ok (.if_icmp .lt 9, 3) := by decide +kernel
theorem dX2_skew_15 : decode cX2_skew 15 = .ok (.iload_n 2, 1) := by decide +kernel
theorem dX2_skew_16 : decode cX2_skew 16 = .ok (.bipush 20, 2) := by decide +kernel
theorem dX2_skew_18 : decode cX2_skew 18 = .ok (.if_icmp .le 6, 3) := by decide +kernel
theorem dX2_skew_21 : decode cX2_skew 21 = .ok (.bipush (-2), 2) := by decide +kernel
theorem dX2_skew_23 : decode cX2_skew 23 = .ok (.ireturn, 1) := by decide +kernel
theorem dX2_skew_24 : decode cX2_skew 24 = .ok (.aload_n 0, 1) := by decide +kernel
theorem dX2_skew_25 : decode cX2_skew 25 = .ok (.getfield 10, 3) := by decide +kernel
theorem dX2_skew_28 : decode cX2_skew 28 = .ok (.getfield 38, 3) := by decide +kernel
theorem dX2_skew_31 : decode cX2_skew 31 = .ok (.iload_n 1, 1) := by decide +kernel
theorem dX2_skew_32 : decode cX2_skew 32 = .ok (.aaload, 1) := by decide +kernel
theorem dX2_skew_33 : decode cX2_skew 33 = .ok (.iload_n 2, 1) := by decide +kernel
theorem dX2_skew_34 : decode cX2_skew 34 = .ok (.putfield 42, 3) := by decide +kernel
theorem dX2_skew_37 : decode cX2_skew 37 = .ok (.aload_n 0, 1) := by decide +kernel
theorem dX2_skew_38 : decode cX2_skew 38 = .ok (.getfield 10, 3) := by decide +kernel
theorem dX2_skew_41 : decode cX2_skew 41 = .ok (.invokevirtual 47, 3) := by decide +kernel
theorem dX2_skew_44 : decode cX2_skew 44 = .ok (.ireturn, 1) := by decide +kernel
set_option maxRecDepth 20000 in
theorem ggX2_there_X2_isReader : GoodIn wsX2_there wsX2_isReader := goodIn_r _ [5] (by decide +kernel) (by decide +kernel)
set_option maxRecDepth 20000 in
theorem gX2_there_X2_isReader : GoodIn wsX2_there (va_wsS RX2 34 yX2_isReader wsX2_isReader) := goodIn_app (goodIn_of _ (by decide +kernel)) ggX2_there_X2_isReader
set_option maxRecDepth 20000 in
theorem ggX2_there_X0_settleAll : GoodIn wsX2_there wsX0_settleAll := goodIn_r _ [9, 10, 11, 12, 13, 14, 7, 15, 16, 17, 18, 19, 20, 21, 22, 23, 24, 25, 26, 27, 28, 29, 30, 31, 32, 33, 34, 4, 35, 36, 37, 38, 39, 40, 41, 42, 43, 44, 45, 46, 47, 48, 49, 50, 51, 52, 53, 54, 55, 56, 57, 58, 59, 60, 61, 62, 63, 67, 68, 69, 70, 71, 72, 73, 74, 75, 76, 77, 78, 79, 80, 81, 82, 83, 84, 85, 86, 87, 88, 89, 90, 91, 92, 93, 94, 95, 96] (by decide +kernel) (by decide +kernel)
set_option maxRecDepth 20000 in
theorem gX2_there_X0_settleAll_n55 : GoodIn wsX2_there (wsX0_settleAll) := ggX2_there_X0_settleAll
theorem dX2_there_0 : decode cX2_there 0 = .ok (.iload_n 1, 1) := by decide +kernel
theorem dX2_there_1 : decode cX2_there 1 = .ok (.invokestatic 34, 3) := by decide +kernel
theorem dX2_there_4 : decode cX2_there 4 = .ok (.ifCond .ne 5, 3) := by decide +kernel
theorem dX2_there_7 : decode cX2_there 7 = .ok (.iconst (-1), 1) := by decide +kernel
theorem dX2_there_8 : decode cX2_there 8 = .ok (.ireturn, 1) := by decide +kernel
theorem dX2_there_9 : decode cX2_there 9 = .ok (.iload_n 2, 1) := by decide +kernel
theorem dX2_there_10 : decode cX2_there 10 = .ok (.ifCond .eq 11, 3) := by decide +kernel
theorem dX2_there_13 : decode cX2_there 13 = .ok (.iload_n 2, 1) := by decide +kernel
theorem dX2_there_14 : decode cX2_there 14 = .ok (.iconst 1, 1) := by decide +kernel
theorem dX2_there_15 : decode cX2_there 15 = .ok (.if_icmp .eq 6, 3) := by decide +kernel
theorem dX2_there_18 : decode cX2_there 18 = .ok (.bipush (-2), 2) := by decide +kernel
theorem dX2_there_20 : decode cX2_there 20 = .ok (.ireturn, 1) := by decide +kernel
theorem dX2_there_21 : decode cX2_there 21 = .ok (.aload_n 0, 1) := by decide +kernel
theorem dX2_there_22 : decode cX2_there 22 = .ok (.getfield 10, 3) := by decide +kernel
theorem dX2_there_25 : decode cX2_there 25 = .ok (.getfield 38, 3) := by decide +kernel
theorem dX2_there_28 : decode cX2_there 28 = .ok (.iload_n 1, 1) := by decide +kernel
theorem dX2_there_29 : decode cX2_there 29 = .ok (.aaload, 1) := by decide +kernel
theorem dX2_there_30 : decode cX2_there 30 = .ok (.astore_n 3, 1) := by decide +kernel
theorem dX2_there_31 : decode cX2_there 31 = .ok (.iload_n 2, 1) := by decide +kernel
theorem dX2_there_32 : decode cX2_there 32 = .ok (.iconst 1, 1) := by decide +kernel
theorem dX2_there_33 : decode cX2_there 33 = .ok (.if_icmp .ne 14, 3) := by decide +kernel
theorem dX2_there_36 : decode cX2_there 36 = .ok (.aload_n 3, 1) := by decide +kernel
theorem dX2_there_37 : decode cX2_there 37 = .ok (.getfield 51, 3) := by decide +kernel
theorem dX2_there_40 : decode cX2_there 40 = .ok (.ifCond .ne 7, 3) := by decide +kernel
theorem dX2_there_43 : decode cX2_there 43 = .ok (.iconst 1, 1) := by decide +kernel
theorem dX2_there_44 : decode cX2_there 44 = .ok (.goto 4, 3) := by decide +kernel
theorem dX2_there_47 : decode cX2_there 47 = .ok (.iconst 0, 1) := by decide +kernel
theorem dX2_there_48 : decode cX2_there 48 = .ok (.istore 4, 2) := by decide +kernel
theorem dX2_there_50 : decode cX2_there 50 = .ok (.aload_n 3, 1) := by decide +kernel
theorem dX2_there_51 : decode cX2_there 51 = .ok (.iload_n 2, 1) := by decide +kernel
theorem dX2_there_52 : decode cX2_there 52 = .ok (.iconst 1, 1) := by decide +kernel
theorem dX2_there_53 : decode cX2_there 53 = .ok (.if_icmp .ne 7, 3) := by decide +kernel
theorem dX2_there_56 : decode cX2_there 56 = .ok (.iconst 1, 1) := by decide +kernel
theorem dX2_there_57 : decode cX2_there 57 = .ok (.goto 4, 3) := by decide +kernel
theorem dX2_there_60 : decode cX2_there 60 = .ok (.iconst 0, 1) := by decide +kernel
theorem dX2_there_61 : decode cX2_there 61 = .ok (.putfield 51, 3) := by decide +kernel
theorem dX2_there_64 : decode cX2_there 64 = .ok (.iload 4, 2) := by decide +kernel
theorem dX2_there_66 : decode cX2_there 66 = .ok (.ifCond .eq 13, 3) := by decide +kernel
theorem dX2_there_69 : decode cX2_there 69 = .ok (.aload_n 0, 1) := by decide +kernel
theorem dX2_there_70 : decode cX2_there 70 = .ok (.getfield 10, 3) := by decide +kernel
theorem dX2_there_73 : decode cX2_there 73 = .ok (.invokevirtual 55, 3) := by decide +kernel
theorem dX2_there_76 : decode cX2_there 76 = .ok (.goto 4, 3) := by decide +kernel
theorem dX2_there_79 : decode cX2_there 79 = .ok (.iconst 0, 1) := by decide +kernel
theorem dX2_there_80 : decode cX2_there 80 = .ok (.ireturn, 1) := by decide +kernel
set_option maxRecDepth 20000 in
theorem ggX2_read_X2_isReader : GoodIn wsX2_read wsX2_isReader := goodIn_r _ [5] (by decide +kernel) (by decide +kernel)
set_option maxRecDepth 20000 in
theorem gX2_read_X2_isReader : GoodIn wsX2_read (va_wsS RX2 34 yX2_isReader wsX2_isReader) := goodIn_app (goodIn_of _ (by decide +kernel)) ggX2_read_X2_isReader
set_option maxRecDepth 20000 in
theorem ggX2_read_X2_isThing : GoodIn wsX2_read wsX2_isThing := goodIn_r _ [8] (by decide +kernel) (by decide +kernel)
set_option maxRecDepth 20000 in
theorem gX2_read_X2_isThing : GoodIn wsX2_read (va_wsS RX2 58 yX2_isThing wsX2_isThing) := goodIn_app (goodIn_of _ (by decide +kernel)) ggX2_read_X2_isThing
set_option maxRecDepth 20000 in
theorem ggX2_read_X0_readBy : GoodIn wsX2_read wsX0_readBy := goodIn_r _ [12, 13, 14, 15, 10, 16, 17, 18, 19, 20, 21, 22, 23, 24, 25, 26, 27, 28, 29, 30, 31, 32, 4, 33, 34, 35, 36, 37, 38, 39, 40, 41, 42, 43, 44, 45, 46, 47, 48, 49, 50, 51, 52, 53, 54, 55, 56, 57, 58, 59, 60, 61, 62, 63, 64, 65, 66, 67, 68, 69, 70, 71, 72, 73, 74, 75, 76, 77, 78, 79, 80, 101, 102, 103, 104, 105, 106, 107, 108, 109, 110, 111, 112, 113, 84, 85, 86, 87, 88, 89, 90, 91, 92, 93, 94, 95, 96, 97, 98, 99, 100] (by decide +kernel) (by decide +kernel)
set_option maxRecDepth 20000 in
theorem gX2_read_X0_readBy_n61 : GoodIn wsX2_read (wsX0_readBy) := ggX2_read_X0_readBy
theorem dX2_read_0 : decode cX2_read 0 = .ok (.iload_n 1, 1) := by decide +kernel
theorem dX2_read_1 : decode cX2_read 1 = .ok (.invokestatic 34, 3) := by decide +kernel
theorem dX2_read_4 : decode cX2_read 4 = .ok (.ifCond .eq 10, 3) := by decide +kernel
theorem dX2_read_7 : decode cX2_read 7 = .ok (.iload_n 2, 1) := by decide +kernel
theorem dX2_read_8 : decode cX2_read 8 = .ok (.invokestatic 58, 3) := by decide +kernel
theorem dX2_read_11 : decode cX2_read 11 = .ok (.ifCond .ne 5, 3) := by decide +kernel
theorem dX2_read_14 : decode cX2_read 14 = .ok (.iconst (-1), 1) := by decide +kernel
theorem dX2_read_15 : decode cX2_read 15 = .ok (.ireturn, 1) := by decide +kernel
theorem dX2_read_16 : decode cX2_read 16 = .ok (.aload_n 0, 1) := by decide +kernel
theorem dX2_read_17 : decode cX2_read 17 = .ok (.getfield 10, 3) := by decide +kernel
theorem dX2_read_20 : decode cX2_read 20 = .ok (.aload_n 0, 1) := by decide +kernel
theorem dX2_read_21 : decode cX2_read 21 = .ok (.getfield 10, 3) := by decide +kernel
end
section
theorem dX2_read_24 : decode cX2_read 24 = .ok (.getfield 38, 3) := by decide +kernel
theorem dX2_read_27 : decode cX2_read 27 = .ok (.iload_n 1, 1) := by decide +kernel
theorem dX2_read_28 : decode cX2_read 28 = .ok (.aaload, 1) := by decide +kernel
theorem dX2_read_29 : decode cX2_read 29 = .ok (.iload_n 2, 1) := by decide +kernel
theorem dX2_read_30 : decode cX2_read 30 = .ok (.invokevirtual 61, 3) := by decide +kernel
theorem dX2_read_33 : decode cX2_read 33 = .ok (.ireturn, 1) := by decide +kernel
set_option maxRecDepth 20000 in
theorem ggX2_write_X2_isThing : GoodIn wsX2_write wsX2_isThing := goodIn_r _ [5] (by decide +kernel) (by decide +kernel)
set_option maxRecDepth 20000 in
theorem gX2_write_X2_isThing : GoodIn wsX2_write (va_wsS RX2 58 yX2_isThing wsX2_isThing) := goodIn_app (goodIn_of _ (by decide +kernel)) ggX2_write_X2_isThing
set_option maxRecDepth 20000 in
theorem ggX2_write_X0_isWaiting : GoodIn wsX2_write wsX0_isWaiting := goodIn_r _ [9, 10, 100, 101, 102, 103, 104, 105, 106, 107, 108, 109, 110, 111, 112, 113, 114, 115, 116] (by decide +kernel) (by decide +kernel)
set_option maxRecDepth 20000 in
theorem gX2_write_X0_isWaiting_n65 : GoodIn wsX2_write (wsX0_isWaiting) := ggX2_write_X0_isWaiting
set_option maxRecDepth 20000 in
theorem ggX2_write_X0_tellWrite : GoodIn wsX2_write wsX0_tellWrite := goodIn_r _ [13, 14, 10, 15, 16, 17, 18, 7, 19, 20, 21, 22, 23, 24, 25, 26, 27, 28, 29, 30, 31, 32, 33, 34, 35, 36, 4, 37, 38, 39, 40, 41, 42, 43, 44, 45, 46, 47, 48, 49, 50, 51, 52, 53, 54, 55, 56, 57, 58, 59, 60, 61, 62, 63, 64, 65, 66, 67, 68, 69, 70, 71, 72, 73, 74, 75, 76, 77, 78, 79, 80, 81, 82, 83, 84, 85, 86, 87, 88, 89, 90, 91, 92, 93, 94, 95, 96, 100, 101, 102, 103, 104, 105, 106, 107, 108, 109, 110, 111, 112, 113, 114, 115, 116, 117, 118, 119, 120, 121, 122, 123, 124, 125, 126, 127, 128, 129] (by decide +kernel) (by decide +kernel)
set_option maxRecDepth 20000 in
theorem gX2_write_X0_tellWrite_n68 : GoodIn wsX2_write (wsX0_tellWrite) := ggX2_write_X0_tellWrite
theorem dX2_write_0 : decode cX2_write 0 = .ok (.iload_n 1, 1) := by decide +kernel
theorem dX2_write_1 : decode cX2_write 1 = .ok (.invokestatic 58, 3) := by decide +kernel
theorem dX2_write_4 : decode cX2_write 4 = .ok (.ifCond .ne 5, 3) := by decide +kernel
theorem dX2_write_7 : decode cX2_write 7 = .ok (.iconst (-1), 1) := by decide +kernel
theorem dX2_write_8 : decode cX2_write 8 = .ok (.ireturn, 1) := by decide +kernel
theorem dX2_write_9 : decode cX2_write 9 = .ok (.iload_n 2, 1) := by decide +kernel
theorem dX2_write_10 : decode cX2_write 10 = .ok (.ifCond .eq 11, 3) := by decide +kernel
theorem dX2_write_13 : decode cX2_write 13 = .ok (.iload_n 2, 1) := by decide +kernel
theorem dX2_write_14 : decode cX2_write 14 = .ok (.iconst 1, 1) := by decide +kernel
theorem dX2_write_15 : decode cX2_write 15 = .ok (.if_icmp .eq 6, 3) := by decide +kernel
theorem dX2_write_18 : decode cX2_write 18 = .ok (.bipush (-2), 2) := by decide +kernel
theorem dX2_write_20 : decode cX2_write 20 = .ok (.ireturn, 1) := by decide +kernel
theorem dX2_write_21 : decode cX2_write 21 = .ok (.aload_n 0, 1) := by decide +kernel
theorem dX2_write_22 : decode cX2_write 22 = .ok (.getfield 10, 3) := by decide +kernel
theorem dX2_write_25 : decode cX2_write 25 = .ok (.iload_n 1, 1) := by decide +kernel
theorem dX2_write_26 : decode cX2_write 26 = .ok (.invokevirtual 65, 3) := by decide +kernel
theorem dX2_write_29 : decode cX2_write 29 = .ok (.ifCond .eq 6, 3) := by decide +kernel
theorem dX2_write_32 : decode cX2_write 32 = .ok (.bipush (-5), 2) := by decide +kernel
theorem dX2_write_34 : decode cX2_write 34 = .ok (.ireturn, 1) := by decide +kernel
theorem dX2_write_35 : decode cX2_write 35 = .ok (.aload_n 0, 1) := by decide +kernel
theorem dX2_write_36 : decode cX2_write 36 = .ok (.getfield 10, 3) := by decide +kernel
theorem dX2_write_39 : decode cX2_write 39 = .ok (.iload_n 1, 1) := by decide +kernel
theorem dX2_write_40 : decode cX2_write 40 = .ok (.iload_n 2, 1) := by decide +kernel
theorem dX2_write_41 : decode cX2_write 41 = .ok (.invokevirtual 68, 3) := by decide +kernel
theorem dX2_write_44 : decode cX2_write 44 = .ok (.ireturn, 1) := by decide +kernel
set_option maxRecDepth 20000 in
theorem ggX2_pass_X0_settleAll : GoodIn wsX2_pass wsX0_settleAll := goodIn_r _ [5, 6, 7, 8, 9, 10, 3, 11, 12, 13, 14, 15, 16, 17, 18, 19, 20, 21, 22, 23, 24, 25, 26, 27, 28, 29, 30, 31, 32, 33, 34, 35, 36, 37, 38, 39, 40, 41, 42, 43, 44, 45, 46, 47, 48, 49, 50, 51, 52, 53, 54, 55, 56, 57, 58, 59, 60, 64, 65, 66, 67, 68, 69, 70, 71, 72, 73, 74, 75, 76, 77, 78, 79, 80, 81, 82, 83, 84, 85, 86, 87, 88, 89, 90, 91, 92, 93] (by decide +kernel) (by decide +kernel)
set_option maxRecDepth 20000 in
theorem gX2_pass_X0_settleAll_n55 : GoodIn wsX2_pass (wsX0_settleAll) := ggX2_pass_X0_settleAll
theorem dX2_pass_0 : decode cX2_pass 0 = .ok (.iload_n 1, 1) := by decide +kernel
theorem dX2_pass_1 : decode cX2_pass 1 = .ok (.iconst 1, 1) := by decide +kernel
theorem dX2_pass_2 : decode cX2_pass 2 = .ok (.if_icmp .lt 9, 3) := by decide +kernel
theorem dX2_pass_5 : decode cX2_pass 5 = .ok (.iload_n 1, 1) := by decide +kernel
theorem dX2_pass_6 : decode cX2_pass 6 = .ok (.bipush 100, 2) := by decide +kernel
theorem dX2_pass_8 : decode cX2_pass 8 = .ok (.if_icmp .le 6, 3) := by decide +kernel
theorem dX2_pass_11 : decode cX2_pass 11 = .ok (.bipush (-2), 2) := by decide +kernel
theorem dX2_pass_13 : decode cX2_pass 13 = .ok (.ireturn, 1) := by decide +kernel
theorem dX2_pass_14 : decode cX2_pass 14 = .ok (.iconst 0, 1) := by decide +kernel
theorem dX2_pass_15 : decode cX2_pass 15 = .ok (.istore_n 2, 1) := by decide +kernel
theorem dX2_pass_16 : decode cX2_pass 16 = .ok (.iconst 0, 1) := by decide +kernel
theorem dX2_pass_17 : decode cX2_pass 17 = .ok (.istore_n 3, 1) := by decide +kernel
theorem dX2_pass_18 : decode cX2_pass 18 = .ok (.iload_n 3, 1) := by decide +kernel
theorem dX2_pass_19 : decode cX2_pass 19 = .ok (.iload_n 1, 1) := by decide +kernel
theorem dX2_pass_20 : decode cX2_pass 20 = .ok (.if_icmp .ge 32, 3) := by decide +kernel
theorem dX2_pass_23 : decode cX2_pass 23 = .ok (.aload_n 0, 1) := by decide +kernel
theorem dX2_pass_24 : decode cX2_pass 24 = .ok (.getfield 10, 3) := by decide +kernel
theorem dX2_pass_27 : decode cX2_pass 27 = .ok (.dup, 1) := by decide +kernel
theorem dX2_pass_28 : decode cX2_pass 28 = .ok (.getfield 72, 3) := by decide +kernel
theorem dX2_pass_31 : decode cX2_pass 31 = .ok (.iconst 1, 1) := by decide +kernel
theorem dX2_pass_32 : decode cX2_pass 32 = .ok (.iadd, 1) := by decide +kernel
theorem dX2_pass_33 : decode cX2_pass 33 = .ok (.putfield 72, 3) := by decide +kernel
theorem dX2_pass_36 : decode cX2_pass 36 = .ok (.iload_n 2, 1) := by decide +kernel
theorem dX2_pass_37 : decode cX2_pass 37 = .ok (.aload_n 0, 1) := by decide +kernel
theorem dX2_pass_38 : decode cX2_pass 38 = .ok (.getfield 10, 3) := by decide +kernel
theorem dX2_pass_41 : decode cX2_pass 41 = .ok (.invokevirtual 55, 3) := by decide +kernel
theorem dX2_pass_44 : decode cX2_pass 44 = .ok (.iadd, 1) := by decide +kernel
theorem dX2_pass_45 : decode cX2_pass 45 = .ok (.istore_n 2, 1) := by decide +kernel
theorem dX2_pass_46 : decode cX2_pass 46 = .ok (.iinc 3 1, 3) := by decide +kernel
theorem dX2_pass_49 : decode cX2_pass 49 = .ok (.goto (-31), 3) := by decide +kernel
theorem dX2_pass_52 : decode cX2_pass 52 = .ok (.iload_n 2, 1) := by decide +kernel
theorem dX2_pass_53 : decode cX2_pass 53 = .ok (.ireturn, 1) := by decide +kernel
theorem dX2_cause_0 : decode cX2_cause 0 = .ok (.iload_n 1, 1) := by decide +kernel
theorem dX2_cause_1 : decode cX2_cause 1 = .ok (.ifCond .lt 26, 3) := by decide +kernel
theorem dX2_cause_4 : decode cX2_cause 4 = .ok (.iload_n 1, 1) := by decide +kernel
theorem dX2_cause_5 : decode cX2_cause 5 = .ok (.aload_n 0, 1) := by decide +kernel
theorem dX2_cause_6 : decode cX2_cause 6 = .ok (.getfield 10, 3) := by decide +kernel
theorem dX2_cause_9 : decode cX2_cause 9 = .ok (.getfield 75, 3) := by decide +kernel
theorem dX2_cause_12 : decode cX2_cause 12 = .ok (.if_icmp .ge 15, 3) := by decide +kernel
theorem dX2_cause_15 : decode cX2_cause 15 = .ok (.aload_n 0, 1) := by decide +kernel
theorem dX2_cause_16 : decode cX2_cause 16 = .ok (.getfield 10, 3) := by decide +kernel
theorem dX2_cause_19 : decode cX2_cause 19 = .ok (.getfield 78, 3) := by decide +kernel
theorem dX2_cause_22 : decode cX2_cause 22 = .ok (.iload_n 1, 1) := by decide +kernel
theorem dX2_cause_23 : decode cX2_cause 23 = .ok (.iaload, 1) := by decide +kernel
theorem dX2_cause_24 : decode cX2_cause 24 = .ok (.goto 5, 3) := by decide +kernel
theorem dX2_cause_27 : decode cX2_cause 27 = .ok (.bipush (-6), 2) := by decide +kernel
theorem dX2_cause_29 : decode cX2_cause 29 = .ok (.ireturn, 1) := by decide +kernel
theorem dX2_waited_0 : decode cX2_waited 0 = .ok (.iload_n 1, 1) := by decide +kernel
theorem dX2_waited_1 : decode cX2_waited 1 = .ok (.ifCond .lt 26, 3) := by decide +kernel
theorem dX2_waited_4 : decode cX2_waited 4 = .ok (.iload_n 1, 1) := by decide +kernel
theorem dX2_waited_5 : decode cX2_waited 5 = .ok (.aload_n 0, 1) := by decide +kernel
theorem dX2_waited_6 : decode cX2_waited 6 = .ok (.getfield 10, 3) := by decide +kernel
theorem dX2_waited_9 : decode cX2_waited 9 = .ok (.getfield 81, 3) := by decide +kernel
theorem dX2_waited_12 : decode cX2_waited 12 = .ok (.if_icmp .ge 15, 3) := by decide +kernel
theorem dX2_waited_15 : decode cX2_waited 15 = .ok (.aload_n 0, 1) := by decide +kernel
theorem dX2_waited_16 : decode cX2_waited 16 = .ok (.getfield 10, 3) := by decide +kernel
theorem dX2_waited_19 : decode cX2_waited 19 = .ok (.getfield 84, 3) := by decide +kernel
theorem dX2_waited_22 : decode cX2_waited 22 = .ok (.iload_n 1, 1) := by decide +kernel
theorem dX2_waited_23 : decode cX2_waited 23 = .ok (.iaload, 1) := by decide +kernel
theorem dX2_waited_24 : decode cX2_waited 24 = .ok (.goto 5, 3) := by decide +kernel
theorem dX2_waited_27 : decode cX2_waited 27 = .ok (.bipush (-6), 2) := by decide +kernel
theorem dX2_waited_29 : decode cX2_waited 29 = .ok (.ireturn, 1) := by decide +kernel
set_option maxRecDepth 20000 in
theorem ggX2_thing_X2_isThing : GoodIn wsX2_thing wsX2_isThing := goodIn_r _ [5] (by decide +kernel) (by decide +kernel)
set_option maxRecDepth 20000 in
theorem gX2_thing_X2_isThing : GoodIn wsX2_thing (va_wsS RX2 58 yX2_isThing wsX2_isThing) := goodIn_app (goodIn_of _ (by decide +kernel)) ggX2_thing_X2_isThing
set_option maxRecDepth 20000 in
theorem ggX2_thing_X0_isWaiting : GoodIn wsX2_thing wsX0_isWaiting := goodIn_r _ [9, 10, 67, 68, 69, 70, 71, 72, 73, 74, 75, 76, 77, 78, 79, 80, 81, 82, 83] (by decide +kernel) (by decide +kernel)
set_option maxRecDepth 20000 in
theorem gX2_thing_X0_isWaiting_n65 : GoodIn wsX2_thing (wsX0_isWaiting) := ggX2_thing_X0_isWaiting
set_option maxRecDepth 20000 in
theorem ggX2_thing_X2_bit : GoodIn wsX2_thing wsX2_bit := goodIn_r _ [13] (by decide +kernel) (by decide +kernel)
set_option maxRecDepth 20000 in
theorem gX2_thing_X2_bit : GoodIn wsX2_thing (va_wsS RX2 90 yX2_bit wsX2_bit) := goodIn_app (goodIn_of _ (by decide +kernel)) ggX2_thing_X2_bit
set_option maxRecDepth 20000 in
theorem ggX2_thing_X0_dueOf : GoodIn wsX2_thing wsX0_dueOf := goodIn_r _ [16, 17, 18, 19, 20, 21, 22, 23, 24, 25, 7, 26, 27, 28, 29, 30, 31, 32, 33, 34, 35, 36, 37, 38, 39, 40, 4, 41, 67, 68, 69, 70, 71, 72, 73, 74, 75, 76, 77, 78, 79, 80, 81, 82, 83, 84, 85, 86, 87, 88, 89, 90, 91, 92, 93, 94, 95, 96] (by decide +kernel) (by decide +kernel)
set_option maxRecDepth 20000 in
theorem gX2_thing_X0_dueOf_n97 : GoodIn wsX2_thing (wsX0_dueOf) := ggX2_thing_X0_dueOf
set_option maxRecDepth 20000 in
theorem ggX2_thing_X0_holdersOf : GoodIn wsX2_thing wsX0_holdersOf := goodIn_r _ [44, 18, 23, 24, 25, 7, 26, 17, 12, 4, 13, 67, 68, 69, 70, 71, 72, 73, 74, 75, 76, 77, 78, 79, 80, 81, 82, 83, 84, 85, 86, 87, 88, 89, 90, 91, 92, 93, 94, 95, 96] (by decide +kernel) (by decide +kernel)
set_option maxRecDepth 20000 in
theorem gX2_thing_X0_holdersOf_n101 : GoodIn wsX2_thing (wsX0_holdersOf) := ggX2_thing_X0_holdersOf
set_option maxRecDepth 20000 in
theorem ggX2_thing_X0_readersWithCopy : GoodIn wsX2_thing wsX0_readersWithCopy := goodIn_r _ [47, 18, 48, 28, 49, 50, 51, 12, 4, 13, 67, 68, 69, 70, 71, 72, 73, 74, 75, 76, 77, 78, 79, 80, 81, 82, 83, 84, 85, 86, 87, 88, 89, 90, 91, 92, 93, 94, 95, 96] (by decide +kernel) (by decide +kernel)
set_option maxRecDepth 20000 in
theorem gX2_thing_X0_readersWithCopy_n104 : GoodIn wsX2_thing (wsX0_readersWithCopy) := ggX2_thing_X0_readersWithCopy
set_option maxRecDepth 20000 in
theorem ggX2_thing_X0_readersWithUse : GoodIn wsX2_thing wsX0_readersWithUse := goodIn_r _ [54, 18, 55, 56, 57, 7, 58, 48, 28, 49, 50, 51, 59, 60, 61, 62, 17, 63, 36, 37, 38, 39, 40, 4, 41, 12, 13, 67, 68, 69, 70, 71, 72, 73, 74, 75, 76, 77, 78, 79, 80, 81, 82, 83, 84, 85, 86, 87, 88, 89, 90, 91, 92, 93, 94, 95, 96] (by decide +kernel) (by decide +kernel)
set_option maxRecDepth 20000 in
theorem gX2_thing_X0_readersWithUse_n107 : GoodIn wsX2_thing (wsX0_readersWithUse) := ggX2_thing_X0_readersWithUse
theorem dX2_thing_0 : decode cX2_thing 0 = .ok (.iload_n 1, 1) := by decide +kernel
theorem dX2_thing_1 : decode cX2_thing 1 = .ok (.invokestatic 58, 3) := by decide +kernel
theorem dX2_thing_4 : decode cX2_thing 4 = .ok (.ifCond .ne 5, 3) := by decide +kernel
theorem dX2_thing_7 : decode cX2_thing 7 = .ok (.iconst (-1), 1) := by decide +kernel
theorem dX2_thing_8 : decode cX2_thing 8 = .ok (.ireturn, 1) := by decide +kernel
theorem dX2_thing_9 : decode cX2_thing 9 = .ok (.iload_n 2, 1) := by decide +kernel
theorem dX2_thing_10 : decode cX2_thing 10 = .ok (.tableswitch 126 0 6 #[42, 52, 64, 74, 99, 108, 117], 42) := by decide +kernel
theorem dX2_thing_52 : decode cX2_thing 52 = .ok (.aload_n 0, 1) := by decide +kernel
theorem dX2_thing_53 : decode cX2_thing 53 = .ok (.getfield 10, 3) := by decide +kernel
theorem dX2_thing_56 : decode cX2_thing 56 = .ok (.getfield 87, 3) := by decide +kernel
theorem dX2_thing_59 : decode cX2_thing 59 = .ok (.iload_n 1, 1) := by decide +kernel
theorem dX2_thing_60 : decode cX2_thing 60 = .ok (.iaload, 1) := by decide +kernel
theorem dX2_thing_61 : decode cX2_thing 61 = .ok (.ireturn, 1) := by decide +kernel
theorem dX2_thing_62 : decode cX2_thing 62 = .ok (.aload_n 0, 1) := by decide +kernel
theorem dX2_thing_63 : decode cX2_thing 63 = .ok (.getfield 10, 3) := by decide +kernel
theorem dX2_thing_66 : decode cX2_thing 66 = .ok (.iload_n 1, 1) := by decide +kernel
theorem dX2_thing_67 : decode cX2_thing 67 = .ok (.invokevirtual 65, 3) := by decide +kernel
theorem dX2_thing_70 : decode cX2_thing 70 = .ok (.invokestatic 90, 3) := by decide +kernel
theorem dX2_thing_73 : decode cX2_thing 73 = .ok (.ireturn, 1) := by decide +kernel
theorem dX2_thing_74 : decode cX2_thing 74 = .ok (.aload_n 0, 1) := by decide +kernel
theorem dX2_thing_75 : decode cX2_thing 75 = .ok (.getfield 10, 3) := by decide +kernel
theorem dX2_thing_78 : decode cX2_thing 78 = .ok (.getfield 94, 3) := by decide +kernel
theorem dX2_thing_81 : decode cX2_thing 81 = .ok (.iload_n 1, 1) := by decide +kernel
theorem dX2_thing_82 : decode cX2_thing 82 = .ok (.iaload, 1) := by decide +kernel
theorem dX2_thing_83 : decode cX2_thing 83 = .ok (.ireturn, 1) := by decide +kernel
theorem dX2_thing_84 : decode cX2_thing 84 = .ok (.aload_n 0, 1) := by decide +kernel
theorem dX2_thing_85 : decode cX2_thing 85 = .ok (.getfield 10, 3) := by decide +kernel
theorem dX2_thing_88 : decode cX2_thing 88 = .ok (.iload_n 1, 1) := by decide +kernel
theorem dX2_thing_89 : decode cX2_thing 89 = .ok (.invokevirtual 65, 3) := by decide +kernel
theorem dX2_thing_92 : decode cX2_thing 92 = .ok (.ifCond .eq 14, 3) := by decide +kernel
theorem dX2_thing_95 : decode cX2_thing 95 = .ok (.aload_n 0, 1) := by decide +kernel
theorem dX2_thing_96 : decode cX2_thing 96 = .ok (.getfield 10, 3) := by decide +kernel
theorem dX2_thing_99 : decode cX2_thing 99 = .ok (.iload_n 1, 1) := by decide +kernel
theorem dX2_thing_100 : decode cX2_thing 100 = .ok (.invokevirtual 97, 3) := by decide +kernel
theorem dX2_thing_103 : decode cX2_thing 103 = .ok (.goto 5, 3) := by decide +kernel
theorem dX2_thing_106 : decode cX2_thing 106 = .ok (.bipush (-6), 2) := by decide +kernel
theorem dX2_thing_108 : decode cX2_thing 108 = .ok (.ireturn, 1) := by decide +kernel
theorem dX2_thing_109 : decode cX2_thing 109 = .ok (.aload_n 0, 1) := by decide +kernel
theorem dX2_thing_110 : decode cX2_thing 110 = .ok (.getfield 10, 3) := by decide +kernel
theorem dX2_thing_113 : decode cX2_thing 113 = .ok (.iload_n 1, 1) := by decide +kernel
theorem dX2_thing_114 : decode cX2_thing 114 = .ok (.invokevirtual 101, 3) := by decide +kernel
theorem dX2_thing_117 : decode cX2_thing 117 = .ok (.ireturn, 1) := by decide +kernel
theorem dX2_thing_118 : decode cX2_thing 118 = .ok (.aload_n 0, 1) := by decide +kernel
theorem dX2_thing_119 : decode cX2_thing 119 = .ok (.getfield 10, 3) := by decide +kernel
theorem dX2_thing_122 : decode cX2_thing 122 = .ok (.iload_n 1, 1) := by decide +kernel
theorem dX2_thing_123 : decode cX2_thing 123 = .ok (.invokevirtual 104, 3) := by decide +kernel
theorem dX2_thing_126 : decode cX2_thing 126 = .ok (.ireturn, 1) := by decide +kernel
theorem dX2_thing_127 : decode cX2_thing 127 = .ok (.aload_n 0, 1) := by decide +kernel
theorem dX2_thing_128 : decode cX2_thing 128 = .ok (.getfield 10, 3) := by decide +kernel
theorem dX2_thing_131 : decode cX2_thing 131 = .ok (.iload_n 1, 1) := by decide +kernel
theorem dX2_thing_132 : decode cX2_thing 132 = .ok (.invokevirtual 107, 3) := by decide +kernel
theorem dX2_thing_135 : decode cX2_thing 135 = .ok (.ireturn, 1) := by decide +kernel
theorem dX2_thing_136 : decode cX2_thing 136 = .ok (.bipush (-2), 2) := by decide +kernel
theorem dX2_thing_138 : decode cX2_thing 138 = .ok (.ireturn, 1) := by decide +kernel
set_option maxRecDepth 20000 in
theorem ggX2_copy_X2_isReader : GoodIn wsX2_copy wsX2_isReader := goodIn_r _ [5] (by decide +kernel) (by decide +kernel)
set_option maxRecDepth 20000 in
theorem gX2_copy_X2_isReader : GoodIn wsX2_copy (va_wsS RX2 34 yX2_isReader wsX2_isReader) := goodIn_app (goodIn_of _ (by decide +kernel)) ggX2_copy_X2_isReader
set_option maxRecDepth 20000 in
theorem ggX2_copy_X2_isThing : GoodIn wsX2_copy wsX2_isThing := goodIn_r _ [8] (by decide +kernel) (by decide +kernel)
set_option maxRecDepth 20000 in
theorem gX2_copy_X2_isThing : GoodIn wsX2_copy (va_wsS RX2 58 yX2_isThing wsX2_isThing) := goodIn_app (goodIn_of _ (by decide +kernel)) ggX2_copy_X2_isThing
set_option maxRecDepth 20000 in
theorem ggX2_copy_X0_canUse : GoodIn wsX2_copy wsX0_canUse := goodIn_r _ [12, 13, 14, 15, 16, 17, 18, 19, 20, 10, 21, 22, 23, 24, 25, 26, 27, 28, 4, 29, 53, 54, 55, 56, 57, 58, 59, 60, 61, 62, 63, 64, 65, 36, 37, 38, 39, 40, 41, 42, 43, 44, 45, 46, 47, 48, 49, 50, 51, 52] (by decide +kernel) (by decide +kernel)
set_option maxRecDepth 20000 in
theorem gX2_copy_X0_canUse_n119 : GoodIn wsX2_copy (wsX0_canUse) := ggX2_copy_X0_canUse
set_option maxRecDepth 20000 in
theorem ggX2_copy_X2_bit : GoodIn wsX2_copy wsX2_bit := goodIn_r _ [32] (by decide +kernel) (by decide +kernel)
set_option maxRecDepth 20000 in
theorem gX2_copy_X2_bit : GoodIn wsX2_copy (va_wsS RX2 90 yX2_bit wsX2_bit) := goodIn_app (goodIn_of _ (by decide +kernel)) ggX2_copy_X2_bit
theorem dX2_copy_0 : decode cX2_copy 0 = .ok (.iload_n 1, 1) := by decide +kernel
theorem dX2_copy_1 : decode cX2_copy 1 = .ok (.invokestatic 34, 3) := by decide +kernel
theorem dX2_copy_4 : decode cX2_copy 4 = .ok (.ifCond .eq 10, 3) := by decide +kernel
theorem dX2_copy_7 : decode cX2_copy 7 = .ok (.iload_n 2, 1) := by decide +kernel
theorem dX2_copy_8 : decode cX2_copy 8 = .ok (.invokestatic 58, 3) := by decide +kernel
theorem dX2_copy_11 : decode cX2_copy 11 = .ok (.ifCond .ne 5, 3) := by decide +kernel
theorem dX2_copy_14 : decode cX2_copy 14 = .ok (.iconst (-1), 1) := by decide +kernel
theorem dX2_copy_15 : decode cX2_copy 15 = .ok (.ireturn, 1) := by decide +kernel
theorem dX2_copy_16 : decode cX2_copy 16 = .ok (.aload_n 0, 1) := by decide +kernel
theorem dX2_copy_17 : decode cX2_copy 17 = .ok (.getfield 10, 3) := by decide +kernel
theorem dX2_copy_20 : decode cX2_copy 20 = .ok (.getfield 38, 3) := by decide +kernel
theorem dX2_copy_23 : decode cX2_copy 23 = .ok (.iload_n 1, 1) := by decide +kernel
theorem dX2_copy_24 : decode cX2_copy 24 = .ok (.aaload, 1) := by decide +kernel
theorem dX2_copy_25 : decode cX2_copy 25 = .ok (.astore 4, 2) := by decide +kernel
theorem dX2_copy_27 : decode cX2_copy 27 = .ok (.iload_n 3, 1) := by decide +kernel
theorem dX2_copy_28 : decode cX2_copy 28 = .ok (.tableswitch 70 0 3 #[32, 40, 48, 56], 32) := by decide +kernel
theorem dX2_copy_60 : decode cX2_copy 60 = .ok (.aload 4, 2) := by decide +kernel
theorem dX2_copy_62 : decode cX2_copy 62 = .ok (.getfield 110, 3) := by decide +kernel
theorem dX2_copy_65 : decode cX2_copy 65 = .ok (.iload_n 2, 1) := by decide +kernel
theorem dX2_copy_66 : decode cX2_copy 66 = .ok (.iaload, 1) := by decide +kernel
theorem dX2_copy_67 : decode cX2_copy 67 = .ok (.ireturn, 1) := by decide +kernel
theorem dX2_copy_68 : decode cX2_copy 68 = .ok (.aload 4, 2) := by decide +kernel
theorem dX2_copy_70 : decode cX2_copy 70 = .ok (.getfield 113, 3) := by decide +kernel
theorem dX2_copy_73 : decode cX2_copy 73 = .ok (.iload_n 2, 1) := by decide +kernel
theorem dX2_copy_74 : decode cX2_copy 74 = .ok (.iaload, 1) := by decide +kernel
theorem dX2_copy_75 : decode cX2_copy 75 = .ok (.ireturn, 1) := by decide +kernel
theorem dX2_copy_76 : decode cX2_copy 76 = .ok (.aload 4, 2) := by decide +kernel
theorem dX2_copy_78 : decode cX2_copy 78 = .ok (.getfield 116, 3) := by decide +kernel
theorem dX2_copy_81 : decode cX2_copy 81 = .ok (.iload_n 2, 1) := by decide +kernel
theorem dX2_copy_82 : decode cX2_copy 82 = .ok (.iaload, 1) := by decide +kernel
theorem dX2_copy_83 : decode cX2_copy 83 = .ok (.ireturn, 1) := by decide +kernel
theorem dX2_copy_84 : decode cX2_copy 84 = .ok (.aload_n 0, 1) := by decide +kernel
theorem dX2_copy_85 : decode cX2_copy 85 = .ok (.getfield 10, 3) := by decide +kernel
theorem dX2_copy_88 : decode cX2_copy 88 = .ok (.aload 4, 2) := by decide +kernel
theorem dX2_copy_90 : decode cX2_copy 90 = .ok (.iload_n 2, 1) := by decide +kernel
theorem dX2_copy_91 : decode cX2_copy 91 = .ok (.invokevirtual 119, 3) := by decide +kernel
theorem dX2_copy_94 : decode cX2_copy 94 = .ok (.invokestatic 90, 3) := by decide +kernel
theorem dX2_copy_97 : decode cX2_copy 97 = .ok (.ireturn, 1) := by decide +kernel
theorem dX2_copy_98 : decode cX2_copy 98 = .ok (.bipush (-2), 2) := by decide +kernel
theorem dX2_copy_100 : decode cX2_copy 100 = .ok (.ireturn, 1) := by decide +kernel
set_option maxRecDepth 20000 in
theorem ggX2_volume_X2_isReader : GoodIn wsX2_volume wsX2_isReader := goodIn_r _ [5] (by decide +kernel) (by decide +kernel)
set_option maxRecDepth 20000 in
theorem gX2_volume_X2_isReader : GoodIn wsX2_volume (va_wsS RX2 34 yX2_isReader wsX2_isReader) := goodIn_app (goodIn_of _ (by decide +kernel)) ggX2_volume_X2_isReader
set_option maxRecDepth 20000 in
theorem ggX2_volume_X0_isOver : GoodIn wsX2_volume wsX0_isOver := goodIn_r _ [9, 10, 11, 18, 19, 20, 21, 22, 23, 24, 25, 26, 27, 28, 29, 30, 31, 32, 33, 34, 35, 36, 37, 38, 39, 40, 41, 42, 43, 44, 45, 46, 47] (by decide +kernel) (by decide +kernel)
set_option maxRecDepth 20000 in
theorem gX2_volume_X0_isOver_n126 : GoodIn wsX2_volume (wsX0_isOver) := ggX2_volume_X0_isOver
set_option maxRecDepth 20000 in
theorem ggX2_volume_X2_bit : GoodIn wsX2_volume wsX2_bit := goodIn_r _ [14] (by decide +kernel) (by decide +kernel)
set_option maxRecDepth 20000 in
theorem gX2_volume_X2_bit : GoodIn wsX2_volume (va_wsS RX2 90 yX2_bit wsX2_bit) := goodIn_app (goodIn_of _ (by decide +kernel)) ggX2_volume_X2_bit
theorem dX2_volume_0 : decode cX2_volume 0 = .ok (.iload_n 1, 1) := by decide +kernel
theorem dX2_volume_1 : decode cX2_volume 1 = .ok (.invokestatic 34, 3) := by decide +kernel
theorem dX2_volume_4 : decode cX2_volume 4 = .ok (.ifCond .eq 12, 3) := by decide +kernel
theorem dX2_volume_7 : decode cX2_volume 7 = .ok (.iload_n 2, 1) := by decide +kernel
theorem dX2_volume_8 : decode cX2_volume 8 = .ok (.ifCond .lt 8, 3) := by decide +kernel
theorem dX2_volume_11 : decode cX2_volume 11 = .ok (.iload_n 2, 1) := by decide +kernel
theorem dX2_volume_12 : decode cX2_volume 12 = .ok (.iconst 3, 1) := by decide +kernel
theorem dX2_volume_13 : decode cX2_volume 13 = .ok (.if_icmp .lt 5, 3) := by decide +kernel
theorem dX2_volume_16 : decode cX2_volume 16 = .ok (.iconst (-1), 1) := by decide +kernel
theorem dX2_volume_17 : decode cX2_volume 17 = .ok (.ireturn, 1) := by decide +kernel
theorem dX2_volume_18 : decode cX2_volume 18 = .ok (.aload_n 0, 1) := by decide +kernel
theorem dX2_volume_19 : decode cX2_volume 19 = .ok (.getfield 10, 3) := by decide +kernel
theorem dX2_volume_22 : decode cX2_volume 22 = .ok (.getfield 38, 3) := by decide +kernel
theorem dX2_volume_25 : decode cX2_volume 25 = .ok (.iload_n 1, 1) := by decide +kernel
theorem dX2_volume_26 : decode cX2_volume 26 = .ok (.aaload, 1) := by decide +kernel
theorem dX2_volume_27 : decode cX2_volume 27 = .ok (.astore 4, 2) := by decide +kernel
theorem dX2_volume_29 : decode cX2_volume 29 = .ok (.iload_n 3, 1) := by decide +kernel
theorem dX2_volume_30 : decode cX2_volume 30 = .ok (.tableswitch 62 0 2 #[26, 34, 54], 26) := by decide +kernel
theorem dX2_volume_56 : decode cX2_volume 56 = .ok (.aload 4, 2) := by decide +kernel
theorem dX2_volume_58 : decode cX2_volume 58 = .ok (.getfield 123, 3) := by decide +kernel
theorem dX2_volume_61 : decode cX2_volume 61 = .ok (.iload_n 2, 1) := by decide +kernel
theorem dX2_volume_62 : decode cX2_volume 62 = .ok (.iaload, 1) := by decide +kernel
theorem dX2_volume_63 : decode cX2_volume 63 = .ok (.ireturn, 1) := by decide +kernel
theorem dX2_volume_64 : decode cX2_volume 64 = .ok (.aload_n 0, 1) := by decide +kernel
theorem dX2_volume_65 : decode cX2_volume 65 = .ok (.getfield 10, 3) := by decide +kernel
theorem dX2_volume_68 : decode cX2_volume 68 = .ok (.aload 4, 2) := by decide +kernel
theorem dX2_volume_70 : decode cX2_volume 70 = .ok (.aload 4, 2) := by decide +kernel
theorem dX2_volume_72 : decode cX2_volume 72 = .ok (.getfield 123, 3) := by decide +kernel
theorem dX2_volume_75 : decode cX2_volume 75 = .ok (.iload_n 2, 1) := by decide +kernel
theorem dX2_volume_76 : decode cX2_volume 76 = .ok (.iaload, 1) := by decide +kernel
theorem dX2_volume_77 : decode cX2_volume 77 = .ok (.invokevirtual 126, 3) := by decide +kernel
theorem dX2_volume_80 : decode cX2_volume 80 = .ok (.invokestatic 90, 3) := by decide +kernel
theorem dX2_volume_83 : decode cX2_volume 83 = .ok (.ireturn, 1) := by decide +kernel
theorem dX2_volume_84 : decode cX2_volume 84 = .ok (.aload 4, 2) := by decide +kernel
theorem dX2_volume_86 : decode cX2_volume 86 = .ok (.getfield 129, 3) := by decide +kernel
theorem dX2_volume_89 : decode cX2_volume 89 = .ok (.iload_n 2, 1) := by decide +kernel
theorem dX2_volume_90 : decode cX2_volume 90 = .ok (.iaload, 1) := by decide +kernel
theorem dX2_volume_91 : decode cX2_volume 91 = .ok (.ireturn, 1) := by decide +kernel
theorem dX2_volume_92 : decode cX2_volume 92 = .ok (.bipush (-2), 2) := by decide +kernel
theorem dX2_volume_94 : decode cX2_volume 94 = .ok (.ireturn, 1) := by decide +kernel
set_option maxRecDepth 20000 in
theorem ggX2_reader_X2_isReader : GoodIn wsX2_reader wsX2_isReader := goodIn_r _ [5] (by decide +kernel) (by decide +kernel)
set_option maxRecDepth 20000 in
theorem gX2_reader_X2_isReader : GoodIn wsX2_reader (va_wsS RX2 34 yX2_isReader wsX2_isReader) := goodIn_app (goodIn_of _ (by decide +kernel)) ggX2_reader_X2_isReader
set_option maxRecDepth 20000 in
theorem ggX2_reader_X2_bit : GoodIn wsX2_reader wsX2_bit := goodIn_r _ [8] (by decide +kernel) (by decide +kernel)
set_option maxRecDepth 20000 in
theorem gX2_reader_X2_bit : GoodIn wsX2_reader (va_wsS RX2 90 yX2_bit wsX2_bit) := goodIn_app (goodIn_of _ (by decide +kernel)) ggX2_reader_X2_bit
theorem dX2_reader_0 : decode cX2_reader 0 = .ok (.iload_n 1, 1) := by decide +kernel
theorem dX2_reader_1 : decode cX2_reader 1 = .ok (.invokestatic 34, 3) := by decide +kernel
theorem dX2_reader_4 : decode cX2_reader 4 = .ok (.ifCond .ne 5, 3) := by decide +kernel
theorem dX2_reader_7 : decode cX2_reader 7 = .ok (.iconst (-1), 1) := by decide +kernel
theorem dX2_reader_8 : decode cX2_reader 8 = .ok (.ireturn, 1) := by decide +kernel
theorem dX2_reader_9 : decode cX2_reader 9 = .ok (.aload_n 0, 1) := by decide +kernel
theorem dX2_reader_10 : decode cX2_reader 10 = .ok (.getfield 10, 3) := by decide +kernel
theorem dX2_reader_13 : decode cX2_reader 13 = .ok (.getfield 38, 3) := by decide +kernel
theorem dX2_reader_16 : decode cX2_reader 16 = .ok (.iload_n 1, 1) := by decide +kernel
theorem dX2_reader_17 : decode cX2_reader 17 = .ok (.aaload, 1) := by decide +kernel
theorem dX2_reader_18 : decode cX2_reader 18 = .ok (.astore_n 3, 1) := by decide +kernel
theorem dX2_reader_19 : decode cX2_reader 19 = .ok (.iload_n 2, 1) := by decide +kernel
theorem dX2_reader_20 : decode cX2_reader 20 = .ok (.tableswitch 94 0 7 #[48, 56, 64, 69, 74, 79, 84, 89], 48) := by decide +kernel
theorem dX2_reader_68 : decode cX2_reader 68 = .ok (.aload_n 3, 1) := by decide +kernel
theorem dX2_reader_69 : decode cX2_reader 69 = .ok (.getfield 51, 3) := by decide +kernel
theorem dX2_reader_72 : decode cX2_reader 72 = .ok (.invokestatic 90, 3) := by decide +kernel
theorem dX2_reader_75 : decode cX2_reader 75 = .ok (.ireturn, 1) := by decide +kernel
theorem dX2_reader_76 : decode cX2_reader 76 = .ok (.aload_n 3, 1) := by decide +kernel
theorem dX2_reader_77 : decode cX2_reader 77 = .ok (.getfield 42, 3) := by decide +kernel
theorem dX2_reader_80 : decode cX2_reader 80 = .ok (.bipush 100, 2) := by decide +kernel
theorem dX2_reader_82 : decode cX2_reader 82 = .ok (.iadd, 1) := by decide +kernel
theorem dX2_reader_83 : decode cX2_reader 83 = .ok (.ireturn, 1) := by decide +kernel
theorem dX2_reader_84 : decode cX2_reader 84 = .ok (.aload_n 3, 1) := by decide +kernel
theorem dX2_reader_85 : decode cX2_reader 85 = .ok (.getfield 132, 3) := by decide +kernel
theorem dX2_reader_88 : decode cX2_reader 88 = .ok (.ireturn, 1) := by decide +kernel
theorem dX2_reader_89 : decode cX2_reader 89 = .ok (.aload_n 3, 1) := by decide +kernel
theorem dX2_reader_90 : decode cX2_reader 90 = .ok (.getfield 135, 3) := by decide +kernel
theorem dX2_reader_93 : decode cX2_reader 93 = .ok (.ireturn, 1) := by decide +kernel
theorem dX2_reader_94 : decode cX2_reader 94 = .ok (.aload_n 3, 1) := by decide +kernel
theorem dX2_reader_95 : decode cX2_reader 95 = .ok (.getfield 138, 3) := by decide +kernel
theorem dX2_reader_98 : decode cX2_reader 98 = .ok (.ireturn, 1) := by decide +kernel
theorem dX2_reader_99 : decode cX2_reader 99 = .ok (.aload_n 3, 1) := by decide +kernel
theorem dX2_reader_100 : decode cX2_reader 100 = .ok (.getfield 141, 3) := by decide +kernel
theorem dX2_reader_103 : decode cX2_reader 103 = .ok (.ireturn, 1) := by decide +kernel
theorem dX2_reader_104 : decode cX2_reader 104 = .ok (.aload_n 3, 1) := by decide +kernel
theorem dX2_reader_105 : decode cX2_reader 105 = .ok (.getfield 144, 3) := by decide +kernel
theorem dX2_reader_108 : decode cX2_reader 108 = .ok (.ireturn, 1) := by decide +kernel
theorem dX2_reader_109 : decode cX2_reader 109 = .ok (.aload_n 3, 1) := by decide +kernel
theorem dX2_reader_110 : decode cX2_reader 110 = .ok (.getfield 147, 3) := by decide +kernel
theorem dX2_reader_113 : decode cX2_reader 113 = .ok (.ireturn, 1) := by decide +kernel
theorem dX2_reader_114 : decode cX2_reader 114 = .ok (.bipush (-2), 2) := by decide +kernel
theorem dX2_reader_116 : decode cX2_reader 116 = .ok (.ireturn, 1) := by decide +kernel
theorem dX2_waiting_0 : decode cX2_waiting 0 = .ok (.iload_n 1, 1) := by decide +kernel
theorem dX2_waiting_1 : decode cX2_waiting 1 = .ok (.ifCond .lt 26, 3) := by decide +kernel
theorem dX2_waiting_4 : decode cX2_waiting 4 = .ok (.iload_n 1, 1) := by decide +kernel
theorem dX2_waiting_5 : decode cX2_waiting 5 = .ok (.aload_n 0, 1) := by decide +kernel
theorem dX2_waiting_6 : decode cX2_waiting 6 = .ok (.getfield 10, 3) := by decide +kernel
theorem dX2_waiting_9 : decode cX2_waiting 9 = .ok (.getfield 150, 3) := by decide +kernel
theorem dX2_waiting_12 : decode cX2_waiting 12 = .ok (.if_icmp .ge 15, 3) := by decide +kernel
theorem dX2_waiting_15 : decode cX2_waiting 15 = .ok (.aload_n 0, 1) := by decide +kernel
theorem dX2_waiting_16 : decode cX2_waiting 16 = .ok (.getfield 10, 3) := by decide +kernel
theorem dX2_waiting_19 : decode cX2_waiting 19 = .ok (.getfield 153, 3) := by decide +kernel
theorem dX2_waiting_22 : decode cX2_waiting 22 = .ok (.iload_n 1, 1) := by decide +kernel
theorem dX2_waiting_23 : decode cX2_waiting 23 = .ok (.iaload, 1) := by decide +kernel
theorem dX2_waiting_24 : decode cX2_waiting 24 = .ok (.goto 5, 3) := by decide +kernel
theorem dX2_waiting_27 : decode cX2_waiting 27 = .ok (.bipush (-6), 2) := by decide +kernel
theorem dX2_waiting_29 : decode cX2_waiting 29 = .ok (.ireturn, 1) := by decide +kernel
theorem dX2_count_0 : decode cX2_count 0 = .ok (.iload_n 1, 1) := by decide +kernel
theorem dX2_count_1 : decode cX2_count 1 = .ok (.tableswitch 180 0 13 #[71, 79, 87, 95, 103, 111, 119, 127, 135, 180, 140, 150, 160, 170], 71) := by decide +kernel
theorem dX2_count_72 : decode cX2_count 72 = .ok (.aload_n 0, 1) := by decide +kernel
theorem dX2_count_73 : decode cX2_count 73 = .ok (.getfield 10, 3) := by decide +kernel
theorem dX2_count_76 : decode cX2_count 76 = .ok (.getfield 72, 3) := by decide +kernel
theorem dX2_count_79 : decode cX2_count 79 = .ok (.ireturn, 1) := by decide +kernel
theorem dX2_count_80 : decode cX2_count 80 = .ok (.aload_n 0, 1) := by decide +kernel
theorem dX2_count_81 : decode cX2_count 81 = .ok (.getfield 10, 3) := by decide +kernel
theorem dX2_count_84 : decode cX2_count 84 = .ok (.getfield 156, 3) := by decide +kernel
theorem dX2_count_87 : decode cX2_count 87 = .ok (.ireturn, 1) := by decide +kernel
theorem dX2_count_88 : decode cX2_count 88 = .ok (.aload_n 0, 1) := by decide +kernel
theorem dX2_count_89 : decode cX2_count 89 = .ok (.getfield 10, 3) := by decide +kernel
theorem dX2_count_92 : decode cX2_count 92 = .ok (.getfield 159, 3) := by decide +kernel
theorem dX2_count_95 : decode cX2_count 95 = .ok (.ireturn, 1) := by decide +kernel
theorem dX2_count_96 : decode cX2_count 96 = .ok (.aload_n 0, 1) := by decide +kernel
theorem dX2_count_97 : decode cX2_count 97 = .ok (.getfield 10, 3) := by decide +kernel
theorem dX2_count_100 : decode cX2_count 100 = .ok (.getfield 162, 3) := by decide +kernel
theorem dX2_count_103 : decode cX2_count 103 = .ok (.ireturn, 1) := by decide +kernel
theorem dX2_count_104 : decode cX2_count 104 = .ok (.aload_n 0, 1) := by decide +kernel
theorem dX2_count_105 : decode cX2_count 105 = .ok (.getfield 10, 3) := by decide +kernel
theorem dX2_count_108 : decode cX2_count 108 = .ok (.getfield 150, 3) := by decide +kernel
theorem dX2_count_111 : decode cX2_count 111 = .ok (.ireturn, 1) := by decide +kernel
theorem dX2_count_112 : decode cX2_count 112 = .ok (.aload_n 0, 1) := by decide +kernel
theorem dX2_count_113 : decode cX2_count 113 = .ok (.getfield 10, 3) := by decide +kernel
theorem dX2_count_116 : decode cX2_count 116 = .ok (.getfield 165, 3) := by decide +kernel
theorem dX2_count_119 : decode cX2_count 119 = .ok (.ireturn, 1) := by decide +kernel
theorem dX2_count_120 : decode cX2_count 120 = .ok (.aload_n 0, 1) := by decide +kernel
theorem dX2_count_121 : decode cX2_count 121 = .ok (.getfield 10, 3) := by decide +kernel
theorem dX2_count_124 : decode cX2_count 124 = .ok (.getfield 168, 3) := by decide +kernel
theorem dX2_count_127 : decode cX2_count 127 = .ok (.ireturn, 1) := by decide +kernel
theorem dX2_count_128 : decode cX2_count 128 = .ok (.aload_n 0, 1) := by decide +kernel
theorem dX2_count_129 : decode cX2_count 129 = .ok (.getfield 10, 3) := by decide +kernel
theorem dX2_count_132 : decode cX2_count 132 = .ok (.getfield 171, 3) := by decide +kernel
theorem dX2_count_135 : decode cX2_count 135 = .ok (.ireturn, 1) := by decide +kernel
theorem dX2_count_136 : decode cX2_count 136 = .ok (.aload_n 0, 1) := by decide +kernel
theorem dX2_count_137 : decode cX2_count 137 = .ok (.getfield 20, 3) := by decide +kernel
theorem dX2_count_140 : decode cX2_count 140 = .ok (.ireturn, 1) := by decide +kernel
theorem dX2_count_141 : decode cX2_count 141 = .ok (.aload_n 0, 1) := by decide +kernel
theorem dX2_count_142 : decode cX2_count 142 = .ok (.getfield 10, 3) := by decide +kernel
theorem dX2_count_145 : decode cX2_count 145 = .ok (.getfield 31, 3) := by decide +kernel
theorem dX2_count_148 : decode cX2_count 148 = .ok (.iconst 0, 1) := by decide +kernel
theorem dX2_count_149 : decode cX2_count 149 = .ok (.iaload, 1) := by decide +kernel
theorem dX2_count_150 : decode cX2_count 150 = .ok (.ireturn, 1) := by decide +kernel
theorem dX2_count_151 : decode cX2_count 151 = .ok (.aload_n 0, 1) := by decide +kernel
theorem dX2_count_152 : decode cX2_count 152 = .ok (.getfield 10, 3) := by decide +kernel
theorem dX2_count_155 : decode cX2_count 155 = .ok (.getfield 31, 3) := by decide +kernel
theorem dX2_count_158 : decode cX2_count 158 = .ok (.iconst 1, 1) := by decide +kernel
theorem dX2_count_159 : decode cX2_count 159 = .ok (.iaload, 1) := by decide +kernel
theorem dX2_count_160 : decode cX2_count 160 = .ok (.ireturn, 1) := by decide +kernel
theorem dX2_count_161 : decode cX2_count 161 = .ok (.aload_n 0, 1) := by decide +kernel
theorem dX2_count_162 : decode cX2_count 162 = .ok (.getfield 10, 3) := by decide +kernel
theorem dX2_count_165 : decode cX2_count 165 = .ok (.getfield 31, 3) := by decide +kernel
theorem dX2_count_168 : decode cX2_count 168 = .ok (.iconst 2, 1) := by decide +kernel
theorem dX2_count_169 : decode cX2_count 169 = .ok (.iaload, 1) := by decide +kernel
theorem dX2_count_170 : decode cX2_count 170 = .ok (.ireturn, 1) := by decide +kernel
theorem dX2_count_171 : decode cX2_count 171 = .ok (.aload_n 0, 1) := by decide +kernel
theorem dX2_count_172 : decode cX2_count 172 = .ok (.getfield 10, 3) := by decide +kernel
theorem dX2_count_175 : decode cX2_count 175 = .ok (.getfield 31, 3) := by decide +kernel
theorem dX2_count_178 : decode cX2_count 178 = .ok (.iconst 3, 1) := by decide +kernel
theorem dX2_count_179 : decode cX2_count 179 = .ok (.iaload, 1) := by decide +kernel
theorem dX2_count_180 : decode cX2_count 180 = .ok (.ireturn, 1) := by decide +kernel
theorem dX2_count_181 : decode cX2_count 181 = .ok (.bipush (-2), 2) := by decide +kernel
theorem dX2_count_183 : decode cX2_count 183 = .ok (.ireturn, 1) := by decide +kernel
set_option maxRecDepth 20000 in
theorem ggX2_image_X2_isImage : GoodIn wsX2_image wsX2_isImage := goodIn_r _ [7] (by decide +kernel) (by decide +kernel)
set_option maxRecDepth 20000 in
theorem gX2_image_X2_isImage : GoodIn wsX2_image (va_wsS RX2 174 yX2_isImage wsX2_isImage) := goodIn_app (goodIn_of _ (by decide +kernel)) ggX2_image_X2_isImage
set_option maxRecDepth 20000 in
theorem ggX2_image_X0_becomeLike : GoodIn wsX2_image wsX0_becomeLike := goodIn_r _ [11, 12, 13, 14, 15, 16, 17, 18, 19, 20, 21, 22, 23, 24, 25, 26, 27, 28, 29, 6, 30, 31, 32, 33, 34, 35, 36, 37, 38, 39, 40, 41, 42, 43, 44, 45, 46, 47, 48, 49, 50, 51, 52, 53, 54, 55, 59, 60, 61, 62, 63, 64, 65, 66, 67, 68, 69, 70, 71, 72, 73, 74, 75, 76, 77, 78, 79, 80, 81, 82, 83, 84, 85, 86, 87, 88] (by decide +kernel) (by decide +kernel)
set_option maxRecDepth 20000 in
theorem gX2_image_X0_becomeLike_n177 : GoodIn wsX2_image (wsX0_becomeLike) := ggX2_image_X0_becomeLike
theorem dX2_image_0 : decode cX2_image 0 = .ok (.iload_n 1, 1) := by decide +kernel
theorem dX2_image_1 : decode cX2_image 1 = .ok (.invokestatic 174, 3) := by decide +kernel
theorem dX2_image_4 : decode cX2_image 4 = .ok (.ifCond .ne 6, 3) := by decide +kernel
theorem dX2_image_7 : decode cX2_image 7 = .ok (.bipush (-2), 2) := by decide +kernel
theorem dX2_image_9 : decode cX2_image 9 = .ok (.ireturn, 1) := by decide +kernel
theorem dX2_image_10 : decode cX2_image 10 = .ok (.aload_n 0, 1) := by decide +kernel
theorem dX2_image_11 : decode cX2_image 11 = .ok (.getfield 16, 3) := by decide +kernel
theorem dX2_image_14 : decode cX2_image 14 = .ok (.iload_n 1, 1) := by decide +kernel
theorem dX2_image_15 : decode cX2_image 15 = .ok (.aaload, 1) := by decide +kernel
theorem dX2_image_16 : decode cX2_image 16 = .ok (.aload_n 0, 1) := by decide +kernel
theorem dX2_image_17 : decode cX2_image 17 = .ok (.getfield 10, 3) := by decide +kernel
theorem dX2_image_20 : decode cX2_image 20 = .ok (.invokevirtual 177, 3) := by decide +kernel
theorem dX2_image_23 : decode cX2_image 23 = .ok (.aload_n 0, 1) := by decide +kernel
theorem dX2_image_24 : decode cX2_image 24 = .ok (.dup, 1) := by decide +kernel
theorem dX2_image_25 : decode cX2_image 25 = .ok (.getfield 20, 3) := by decide +kernel
theorem dX2_image_28 : decode cX2_image 28 = .ok (.iconst 1, 1) := by decide +kernel
theorem dX2_image_29 : decode cX2_image 29 = .ok (.iload_n 1, 1) := by decide +kernel
theorem dX2_image_30 : decode cX2_image 30 = .ok (.ishl, 1) := by decide +kernel
theorem dX2_image_31 : decode cX2_image 31 = .ok (.ior, 1) := by decide +kernel
theorem dX2_image_32 : decode cX2_image 32 = .ok (.putfield 20, 3) := by decide +kernel
theorem dX2_image_35 : decode cX2_image 35 = .ok (.iconst 1, 1) := by decide +kernel
theorem dX2_image_36 : decode cX2_image 36 = .ok (.ireturn, 1) := by decide +kernel
set_option maxRecDepth 20000 in
theorem ggX2_restore_X2_isImage : GoodIn wsX2_restore wsX2_isImage := goodIn_r _ [7] (by decide +kernel) (by decide +kernel)
set_option maxRecDepth 20000 in
theorem gX2_restore_X2_isImage : GoodIn wsX2_restore (va_wsS RX2 174 yX2_isImage wsX2_isImage) := goodIn_app (goodIn_of _ (by decide +kernel)) ggX2_restore_X2_isImage
set_option maxRecDepth 20000 in
theorem ggX2_restore_X2_isInSet : GoodIn wsX2_restore wsX2_isInSet := goodIn_r _ [10] (by decide +kernel) (by decide +kernel)
set_option maxRecDepth 20000 in
theorem gX2_restore_X2_isInSet : GoodIn wsX2_restore (va_wsS RX2 181 yX2_isInSet wsX2_isInSet) := goodIn_app (goodIn_of _ (by decide +kernel)) ggX2_restore_X2_isInSet
set_option maxRecDepth 20000 in
theorem ggX2_restore_X0_becomeLike : GoodIn wsX2_restore wsX0_becomeLike := goodIn_r _ [14, 15, 16, 17, 18, 19, 20, 21, 22, 23, 24, 25, 26, 27, 28, 29, 30, 31, 32, 6, 33, 34, 35, 36, 37, 38, 39, 40, 41, 42, 43, 44, 45, 46, 47, 48, 49, 50, 51, 52, 53, 54, 55, 56, 57, 58, 62, 63, 64, 65, 66, 67, 68, 69, 70, 71, 72, 73, 74, 75, 76, 77, 78, 79, 80, 81, 82, 83, 84, 85, 86, 87, 88, 89, 90, 91] (by decide +kernel) (by decide +kernel)
set_option maxRecDepth 20000 in
theorem gX2_restore_X0_becomeLike_n177 : GoodIn wsX2_restore (wsX0_becomeLike) := ggX2_restore_X0_becomeLike
theorem dX2_restore_0 : decode cX2_restore 0 = .ok (.iload_n 1, 1) := by decide +kernel
theorem dX2_restore_1 : decode cX2_restore 1 = .ok (.invokestatic 174, 3) := by decide +kernel
theorem dX2_restore_4 : decode cX2_restore 4 = .ok (.ifCond .ne 6, 3) := by decide +kernel
theorem dX2_restore_7 : decode cX2_restore 7 = .ok (.bipush (-2), 2) := by decide +kernel
theorem dX2_restore_9 : decode cX2_restore 9 = .ok (.ireturn, 1) := by decide +kernel
theorem dX2_restore_10 : decode cX2_restore 10 = .ok (.aload_n 0, 1) := by decide +kernel
theorem dX2_restore_11 : decode cX2_restore 11 = .ok (.getfield 20, 3) := by decide +kernel
theorem dX2_restore_14 : decode cX2_restore 14 = .ok (.iload_n 1, 1) := by decide +kernel
theorem dX2_restore_15 : decode cX2_restore 15 = .ok (.invokestatic 181, 3) := by decide +kernel
theorem dX2_restore_18 : decode cX2_restore 18 = .ok (.ifCond .ne 6, 3) := by decide +kernel
theorem dX2_restore_21 : decode cX2_restore 21 = .ok (.bipush (-3), 2) := by decide +kernel
theorem dX2_restore_23 : decode cX2_restore 23 = .ok (.ireturn, 1) := by decide +kernel
theorem dX2_restore_24 : decode cX2_restore 24 = .ok (.aload_n 0, 1) := by decide +kernel
theorem dX2_restore_25 : decode cX2_restore 25 = .ok (.getfield 10, 3) := by decide +kernel
theorem dX2_restore_28 : decode cX2_restore 28 = .ok (.aload_n 0, 1) := by decide +kernel
theorem dX2_restore_29 : decode cX2_restore 29 = .ok (.getfield 16, 3) := by decide +kernel
theorem dX2_restore_32 : decode cX2_restore 32 = .ok (.iload_n 1, 1) := by decide +kernel
theorem dX2_restore_33 : decode cX2_restore 33 = .ok (.aaload, 1) := by decide +kernel
theorem dX2_restore_34 : decode cX2_restore 34 = .ok (.invokevirtual 177, 3) := by decide +kernel
theorem dX2_restore_37 : decode cX2_restore 37 = .ok (.iconst 1, 1) := by decide +kernel
theorem dX2_restore_38 : decode cX2_restore 38 = .ok (.ireturn, 1) := by decide +kernel
theorem dX2_isReader_0 : decode cX2_isReader 0 = .ok (.iload_n 0, 1) := by decide +kernel
theorem dX2_isReader_1 : decode cX2_isReader 1 = .ok (.ifCond .lt 12, 3) := by decide +kernel
theorem dX2_isReader_4 : decode cX2_isReader 4 = .ok (.iload_n 0, 1) := by decide +kernel
theorem dX2_isReader_5 : decode cX2_isReader 5 = .ok (.iconst 5, 1) := by decide +kernel
theorem dX2_isReader_6 : decode cX2_isReader 6 = .ok (.if_icmp .ge 7, 3) := by decide +kernel
theorem dX2_isReader_9 : decode cX2_isReader 9 = .ok (.iconst 1, 1) := by decide +kernel
theorem dX2_isReader_10 : decode cX2_isReader 10 = .ok (.goto 4, 3) := by decide +kernel
theorem dX2_isReader_13 : decode cX2_isReader 13 = .ok (.iconst 0, 1) := by decide +kernel
theorem dX2_isReader_14 : decode cX2_isReader 14 = .ok (.ireturn, 1) := by decide +kernel
theorem dX2_isThing_0 : decode cX2_isThing 0 = .ok (.iload_n 0, 1) := by decide +kernel
theorem dX2_isThing_1 : decode cX2_isThing 1 = .ok (.ifCond .lt 13, 3) := by decide +kernel
theorem dX2_isThing_4 : decode cX2_isThing 4 = .ok (.iload_n 0, 1) := by decide +kernel
theorem dX2_isThing_5 : decode cX2_isThing 5 = .ok (.bipush 12, 2) := by decide +kernel
theorem dX2_isThing_7 : decode cX2_isThing 7 = .ok (.if_icmp .ge 7, 3) := by decide +kernel
theorem dX2_isThing_10 : decode cX2_isThing 10 = .ok (.iconst 1, 1) := by decide +kernel
theorem dX2_isThing_11 : decode cX2_isThing 11 = .ok (.goto 4, 3) := by decide +kernel
theorem dX2_isThing_14 : decode cX2_isThing 14 = .ok (.iconst 0, 1) := by decide +kernel
theorem dX2_isThing_15 : decode cX2_isThing 15 = .ok (.ireturn, 1) := by decide +kernel
theorem dX2_isImage_0 : decode cX2_isImage 0 = .ok (.iload_n 0, 1) := by decide +kernel
theorem dX2_isImage_1 : decode cX2_isImage 1 = .ok (.ifCond .lt 12, 3) := by decide +kernel
theorem dX2_isImage_4 : decode cX2_isImage 4 = .ok (.iload_n 0, 1) := by decide +kernel
theorem dX2_isImage_5 : decode cX2_isImage 5 = .ok (.iconst 2, 1) := by decide +kernel
theorem dX2_isImage_6 : decode cX2_isImage 6 = .ok (.if_icmp .ge 7, 3) := by decide +kernel
theorem dX2_isImage_9 : decode cX2_isImage 9 = .ok (.iconst 1, 1) := by decide +kernel
theorem dX2_isImage_10 : decode cX2_isImage 10 = .ok (.goto 4, 3) := by decide +kernel
theorem dX2_isImage_13 : decode cX2_isImage 13 = .ok (.iconst 0, 1) := by decide +kernel
theorem dX2_isImage_14 : decode cX2_isImage 14 = .ok (.ireturn, 1) := by decide +kernel
theorem dX2_volumeOf_0 : decode cX2_volumeOf 0 = .ok (.iload_n 0, 1) := by decide +kernel
theorem dX2_volumeOf_1 : decode cX2_volumeOf 1 = .ok (.iconst 4, 1) := by decide +kernel
theorem dX2_volumeOf_2 : decode cX2_volumeOf 2 = .ok (.idiv, 1) := by decide +kernel
theorem dX2_volumeOf_3 : decode cX2_volumeOf 3 = .ok (.ireturn, 1) := by decide +kernel
theorem dX2_isInSet_0 : decode cX2_isInSet 0 = .ok (.iload_n 0, 1) := by decide +kernel
theorem dX2_isInSet_1 : decode cX2_isInSet 1 = .ok (.iconst 1, 1) := by decide +kernel
theorem dX2_isInSet_2 : decode cX2_isInSet 2 = .ok (.iload_n 1, 1) := by decide +kernel
theorem dX2_isInSet_3 : decode cX2_isInSet 3 = .ok (.ishl, 1) := by decide +kernel
theorem dX2_isInSet_4 : decode cX2_isInSet 4 = .ok (.iand, 1) := by decide +kernel
theorem dX2_isInSet_5 : decode cX2_isInSet 5 = .ok (.ifCond .eq 7, 3) := by decide +kernel
theorem dX2_isInSet_8 : decode cX2_isInSet 8 = .ok (.iconst 1, 1) := by decide +kernel
theorem dX2_isInSet_9 : decode cX2_isInSet 9 = .ok (.goto 4, 3) := by decide +kernel
theorem dX2_isInSet_12 : decode cX2_isInSet 12 = .ok (.iconst 0, 1) := by decide +kernel
theorem dX2_isInSet_13 : decode cX2_isInSet 13 = .ok (.ireturn, 1) := by decide +kernel
theorem dX2_bit_0 : decode cX2_bit 0 = .ok (.iload_n 0, 1) := by decide +kernel
theorem dX2_bit_1 : decode cX2_bit 1 = .ok (.ifCond .eq 7, 3) := by decide +kernel
theorem dX2_bit_4 : decode cX2_bit 4 = .ok (.iconst 1, 1) := by decide +kernel
theorem dX2_bit_5 : decode cX2_bit 5 = .ok (.goto 4, 3) := by decide +kernel
theorem dX2_bit_8 : decode cX2_bit 8 = .ok (.iconst 0, 1) := by decide +kernel
theorem dX2_bit_9 : decode cX2_bit 9 = .ok (.ireturn, 1) := by decide +kernel
theorem dX2_copyRow_0 : decode cX2_copyRow 0 = .ok (.aload_n 0, 1) := by decide +kernel
theorem dX2_copyRow_1 : decode cX2_copyRow 1 = .ok (.iconst 0, 1) := by decide +kernel
theorem dX2_copyRow_2 : decode cX2_copyRow 2 = .ok (.aload_n 1, 1) := by decide +kernel
theorem dX2_copyRow_3 : decode cX2_copyRow 3 = .ok (.iconst 0, 1) := by decide +kernel
theorem dX2_copyRow_4 : decode cX2_copyRow 4 = .ok (.aload_n 0, 1) := by decide +kernel
theorem dX2_copyRow_5 : decode cX2_copyRow 5 = .ok (.arraylength, 1) := by decide +kernel
theorem dX2_copyRow_6 : decode cX2_copyRow 6 = .ok (.aload_n 1, 1) := by decide +kernel
theorem dX2_copyRow_7 : decode cX2_copyRow 7 = .ok (.arraylength, 1) := by decide +kernel
theorem dX2_copyRow_8 : decode cX2_copyRow 8 = .ok (.invokestatic 185, 3) := by decide +kernel
theorem dX2_copyRow_11 : decode cX2_copyRow 11 = .ok (.invokestatic 190, 3) := by decide +kernel
theorem dX2_copyRow_14 : decode cX2_copyRow 14 = .ok (.return_, 1) := by decide +kernel
set_option maxRecDepth 20000 in
theorem ggX3_init_X3_said : GoodIn wsX3_init wsX3_said := goodIn_r _ [12] (by decide +kernel) (by decide +kernel)
set_option maxRecDepth 20000 in
theorem gX3_init_X3_said : GoodIn wsX3_init (va_wsS RX3 20 yX3_said wsX3_said) := goodIn_app (goodIn_of _ (by decide +kernel)) ggX3_init_X3_said
theorem dX3_init_0 : decode cX3_init 0 = .ok (.aload_n 0, 1) := by decide +kernel
theorem dX3_init_1 : decode cX3_init 1 = .ok (.invokespecial 1, 3) := by decide +kernel
theorem dX3_init_4 : decode cX3_init 4 = .ok (.aload_n 0, 1) := by decide +kernel
theorem dX3_init_5 : decode cX3_init 5 = .ok (.sipush 309, 3) := by decide +kernel
theorem dX3_init_8 : decode cX3_init 8 = .ok (.newarray .int, 2) := by decide +kernel
theorem dX3_init_10 : decode cX3_init 10 = .ok (.putfield 7, 3) := by decide +kernel
theorem dX3_init_13 : decode cX3_init 13 = .ok (.aload_n 0, 1) := by decide +kernel
theorem dX3_init_14 : decode cX3_init 14 = .ok (.sipush 618, 3) := by decide +kernel
theorem dX3_init_17 : decode cX3_init 17 = .ok (.newarray .int, 2) := by decide +kernel
theorem dX3_init_19 : decode cX3_init 19 = .ok (.putfield 13, 3) := by decide +kernel
theorem dX3_init_22 : decode cX3_init 22 = .ok (.aload_n 0, 1) := by decide +kernel
theorem dX3_init_23 : decode cX3_init 23 = .ok (.iconst 2, 1) := by decide +kernel
theorem dX3_init_24 : decode cX3_init 24 = .ok (.newarray .boolean, 2) := by decide +kernel
theorem dX3_init_26 : decode cX3_init 26 = .ok (.putfield 16, 3) := by decide +kernel
theorem dX3_init_29 : decode cX3_init 29 = .ok (.aload_n 0, 1) := by decide +kernel
theorem dX3_init_30 : decode cX3_init 30 = .ok (.getfield 7, 3) := by decide +kernel
theorem dX3_init_33 : decode cX3_init 33 = .ok (.iconst 1, 1) := by decide +kernel
theorem dX3_init_34 : decode cX3_init 34 = .ok (.bipush 40, 2) := by decide +kernel
theorem dX3_init_36 : decode cX3_init 36 = .ok (.iastore, 1) := by decide +kernel
theorem dX3_init_37 : decode cX3_init 37 = .ok (.aload_n 0, 1) := by decide +kernel
theorem dX3_init_38 : decode cX3_init 38 = .ok (.getfield 7, 3) := by decide +kernel
theorem dX3_init_41 : decode cX3_init 41 = .ok (.iconst 2, 1) := by decide +kernel
theorem dX3_init_42 : decode cX3_init 42 = .ok (.bipush 10, 2) := by decide +kernel
theorem dX3_init_44 : decode cX3_init 44 = .ok (.iastore, 1) := by decide +kernel
theorem dX3_init_45 : decode cX3_init 45 = .ok (.aload_n 0, 1) := by decide +kernel
theorem dX3_init_46 : decode cX3_init 46 = .ok (.getfield 7, 3) := by decide +kernel
theorem dX3_init_49 : decode cX3_init 49 = .ok (.iconst 3, 1) := by decide +kernel
theorem dX3_init_50 : decode cX3_init 50 = .ok (.iconst 1, 1) := by decide +kernel
theorem dX3_init_51 : decode cX3_init 51 = .ok (.iastore, 1) := by decide +kernel
theorem dX3_init_52 : decode cX3_init 52 = .ok (.aload_n 0, 1) := by decide +kernel
theorem dX3_init_53 : decode cX3_init 53 = .ok (.getfield 7, 3) := by decide +kernel
theorem dX3_init_56 : decode cX3_init 56 = .ok (.iconst 4, 1) := by decide +kernel
theorem dX3_init_57 : decode cX3_init 57 = .ok (.bipush 100, 2) := by decide +kernel
theorem dX3_init_59 : decode cX3_init 59 = .ok (.iastore, 1) := by decide +kernel
theorem dX3_init_60 : decode cX3_init 60 = .ok (.iconst 0, 1) := by decide +kernel
theorem dX3_init_61 : decode cX3_init 61 = .ok (.istore_n 1, 1) := by decide +kernel
theorem dX3_init_62 : decode cX3_init 62 = .ok (.iload_n 1, 1) := by decide +kernel
theorem dX3_init_63 : decode cX3_init 63 = .ok (.bipush 12, 2) := by decide +kernel
theorem dX3_init_65 : decode cX3_init 65 = .ok (.if_icmp .ge 20, 3) := by decide +kernel
theorem dX3_init_68 : decode cX3_init 68 = .ok (.aload_n 0, 1) := by decide +kernel
theorem dX3_init_69 : decode cX3_init 69 = .ok (.getfield 7, 3) := by decide +kernel
theorem dX3_init_72 : decode cX3_init 72 = .ok (.bipush 17, 2) := by decide +kernel
theorem dX3_init_74 : decode cX3_init 74 = .ok (.iload_n 1, 1) := by decide +kernel
theorem dX3_init_75 : decode cX3_init 75 = .ok (.iadd, 1) := by decide +kernel
theorem dX3_init_76 : decode cX3_init 76 = .ok (.bipush (-6), 2) := by decide +kernel
theorem dX3_init_78 : decode cX3_init 78 = .ok (.iastore, 1) := by decide +kernel
theorem dX3_init_79 : decode cX3_init 79 = .ok (.iinc 1 1, 3) := by decide +kernel
theorem dX3_init_82 : decode cX3_init 82 = .ok (.goto (-20), 3) := by decide +kernel
theorem dX3_init_85 : decode cX3_init 85 = .ok (.iconst 0, 1) := by decide +kernel
theorem dX3_init_86 : decode cX3_init 86 = .ok (.istore_n 1, 1) := by decide +kernel
theorem dX3_init_87 : decode cX3_init 87 = .ok (.iload_n 1, 1) := by decide +kernel
theorem dX3_init_88 : decode cX3_init 88 = .ok (.iconst 5, 1) := by decide +kernel
theorem dX3_init_89 : decode cX3_init 89 = .ok (.if_icmp .ge 61, 3) := by decide +kernel
theorem dX3_init_92 : decode cX3_init 92 = .ok (.aload_n 0, 1) := by decide +kernel
theorem dX3_init_93 : decode cX3_init 93 = .ok (.getfield 7, 3) := by decide +kernel
theorem dX3_init_96 : decode cX3_init 96 = .ok (.bipush 42, 2) := by decide +kernel
theorem dX3_init_98 : decode cX3_init 98 = .ok (.iload_n 1, 1) := by decide +kernel
theorem dX3_init_99 : decode cX3_init 99 = .ok (.iadd, 1) := by decide +kernel
theorem dX3_init_100 : decode cX3_init 100 = .ok (.iconst 1, 1) := by decide +kernel
theorem dX3_init_101 : decode cX3_init 101 = .ok (.iastore, 1) := by decide +kernel
theorem dX3_init_102 : decode cX3_init 102 = .ok (.aload_n 0, 1) := by decide +kernel
theorem dX3_init_103 : decode cX3_init 103 = .ok (.getfield 7, 3) := by decide +kernel
theorem dX3_init_106 : decode cX3_init 106 = .ok (.iload_n 1, 1) := by decide +kernel
theorem dX3_init_107 : decode cX3_init 107 = .ok (.iconst 0, 1) := by decide +kernel
theorem dX3_init_108 : decode cX3_init 108 = .ok (.invokestatic 20, 3) := by decide +kernel
theorem dX3_init_111 : decode cX3_init 111 = .ok (.bipush (-6), 2) := by decide +kernel
theorem dX3_init_113 : decode cX3_init 113 = .ok (.iastore, 1) := by decide +kernel
theorem dX3_init_114 : decode cX3_init 114 = .ok (.iconst 0, 1) := by decide +kernel
theorem dX3_init_115 : decode cX3_init 115 = .ok (.istore_n 2, 1) := by decide +kernel
theorem dX3_init_116 : decode cX3_init 116 = .ok (.iload_n 2, 1) := by decide +kernel
theorem dX3_init_117 : decode cX3_init 117 = .ok (.bipush 12, 2) := by decide +kernel
theorem dX3_init_119 : decode cX3_init 119 = .ok (.if_icmp .ge 25, 3) := by decide +kernel
theorem dX3_init_122 : decode cX3_init 122 = .ok (.aload_n 0, 1) := by decide +kernel
theorem dX3_init_123 : decode cX3_init 123 = .ok (.getfield 7, 3) := by decide +kernel
theorem dX3_init_126 : decode cX3_init 126 = .ok (.bipush 82, 2) := by decide +kernel
theorem dX3_init_128 : decode cX3_init 128 = .ok (.bipush 12, 2) := by decide +kernel
theorem dX3_init_130 : decode cX3_init 130 = .ok (.iload_n 1, 1) := by decide +kernel
theorem dX3_init_131 : decode cX3_init 131 = .ok (.imul, 1) := by decide +kernel
theorem dX3_init_132 : decode cX3_init 132 = .ok (.iadd, 1) := by decide +kernel
theorem dX3_init_133 : decode cX3_init 133 = .ok (.iload_n 2, 1) := by decide +kernel
theorem dX3_init_134 : decode cX3_init 134 = .ok (.iadd, 1) := by decide +kernel
theorem dX3_init_135 : decode cX3_init 135 = .ok (.bipush (-6), 2) := by decide +kernel
theorem dX3_init_137 : decode cX3_init 137 = .ok (.iastore, 1) := by decide +kernel
theorem dX3_init_138 : decode cX3_init 138 = .ok (.iinc 2 1, 3) := by decide +kernel
theorem dX3_init_141 : decode cX3_init 141 = .ok (.goto (-25), 3) := by decide +kernel
theorem dX3_init_144 : decode cX3_init 144 = .ok (.iinc 1 1, 3) := by decide +kernel
theorem dX3_init_147 : decode cX3_init 147 = .ok (.goto (-60), 3) := by decide +kernel
theorem dX3_init_150 : decode cX3_init 150 = .ok (.return_, 1) := by decide +kernel
theorem dX3_in_0 : decode cX3_in 0 = .ok (.iload_n 0, 1) := by decide +kernel
theorem dX3_in_1 : decode cX3_in 1 = .ok (.iload_n 1, 1) := by decide +kernel
theorem dX3_in_2 : decode cX3_in 2 = .ok (.if_icmp .lt 12, 3) := by decide +kernel
theorem dX3_in_5 : decode cX3_in 5 = .ok (.iload_n 0, 1) := by decide +kernel
theorem dX3_in_6 : decode cX3_in 6 = .ok (.iload_n 2, 1) := by decide +kernel
theorem dX3_in_7 : decode cX3_in 7 = .ok (.if_icmp .gt 7, 3) := by decide +kernel
theorem dX3_in_10 : decode cX3_in 10 = .ok (.iconst 1, 1) := by decide +kernel
theorem dX3_in_11 : decode cX3_in 11 = .ok (.goto 4, 3) := by decide +kernel
theorem dX3_in_14 : decode cX3_in 14 = .ok (.iconst 0, 1) := by decide +kernel
theorem dX3_in_15 : decode cX3_in 15 = .ok (.ireturn, 1) := by decide +kernel
set_option maxRecDepth 20000 in
theorem ggX3_isReader_X3_in : GoodIn wsX3_isReader wsX3_in := goodIn_r _ [4] (by decide +kernel) (by decide +kernel)
set_option maxRecDepth 20000 in
theorem gX3_isReader_X3_in : GoodIn wsX3_isReader (va_wsS RX3 24 yX3_in wsX3_in) := goodIn_app (goodIn_of _ (by decide +kernel)) ggX3_isReader_X3_in
theorem dX3_isReader_0 : decode cX3_isReader 0 = .ok (.iload_n 0, 1) := by decide +kernel
theorem dX3_isReader_1 : decode cX3_isReader 1 = .ok (.iconst 0, 1) := by decide +kernel
theorem dX3_isReader_2 : decode cX3_isReader 2 = .ok (.iconst 4, 1) := by decide +kernel
theorem dX3_isReader_3 : decode cX3_isReader 3 = .ok (.invokestatic 24, 3) := by decide +kernel
theorem dX3_isReader_6 : decode cX3_isReader 6 = .ok (.ireturn, 1) := by decide +kernel
set_option maxRecDepth 20000 in
theorem ggX3_isThing_X3_in : GoodIn wsX3_isThing wsX3_in := goodIn_r _ [4] (by decide +kernel) (by decide +kernel)
set_option maxRecDepth 20000 in
theorem gX3_isThing_X3_in : GoodIn wsX3_isThing (va_wsS RX3 24 yX3_in wsX3_in) := goodIn_app (goodIn_of _ (by decide +kernel)) ggX3_isThing_X3_in
theorem dX3_isThing_0 : decode cX3_isThing 0 = .ok (.iload_n 0, 1) := by decide +kernel
theorem dX3_isThing_1 : decode cX3_isThing 1 = .ok (.iconst 0, 1) := by decide +kernel
theorem dX3_isThing_2 : decode cX3_isThing 2 = .ok (.bipush 11, 2) := by decide +kernel
theorem dX3_isThing_4 : decode cX3_isThing 4 = .ok (.invokestatic 24, 3) := by decide +kernel
theorem dX3_isThing_7 : decode cX3_isThing 7 = .ok (.ireturn, 1) := by decide +kernel
theorem dX3_said_0 : decode cX3_said 0 = .ok (.sipush 262, 3) := by decide +kernel
theorem dX3_said_3 : decode cX3_said 3 = .ok (.bipush 6, 2) := by decide +kernel
theorem dX3_said_5 : decode cX3_said 5 = .ok (.iload_n 0, 1) := by decide +kernel
theorem dX3_said_6 : decode cX3_said 6 = .ok (.imul, 1) := by decide +kernel
theorem dX3_said_7 : decode cX3_said 7 = .ok (.iadd, 1) := by decide +kernel
theorem dX3_said_8 : decode cX3_said 8 = .ok (.iload_n 1, 1) := by decide +kernel
theorem dX3_said_9 : decode cX3_said 9 = .ok (.iadd, 1) := by decide +kernel
theorem dX3_said_10 : decode cX3_said 10 = .ok (.ireturn, 1) := by decide +kernel
theorem dX3_volumeAt_0 : decode cX3_volumeAt 0 = .ok (.iload_n 0, 1) := by decide +kernel
theorem dX3_volumeAt_1 : decode cX3_volumeAt 1 = .ok (.iconst 3, 1) := by decide +kernel
theorem dX3_volumeAt_2 : decode cX3_volumeAt 2 = .ok (.iload_n 1, 1) := by decide +kernel
theorem dX3_volumeAt_3 : decode cX3_volumeAt 3 = .ok (.imul, 1) := by decide +kernel
theorem dX3_volumeAt_4 : decode cX3_volumeAt 4 = .ok (.iadd, 1) := by decide +kernel
theorem dX3_volumeAt_5 : decode cX3_volumeAt 5 = .ok (.iload_n 2, 1) := by decide +kernel
theorem dX3_volumeAt_6 : decode cX3_volumeAt 6 = .ok (.iconst 4, 1) := by decide +kernel
theorem dX3_volumeAt_7 : decode cX3_volumeAt 7 = .ok (.idiv, 1) := by decide +kernel
theorem dX3_volumeAt_8 : decode cX3_volumeAt 8 = .ok (.iadd, 1) := by decide +kernel
theorem dX3_volumeAt_9 : decode cX3_volumeAt 9 = .ok (.ireturn, 1) := by decide +kernel
theorem dX3_thingAt_0 : decode cX3_thingAt 0 = .ok (.iload_n 0, 1) := by decide +kernel
theorem dX3_thingAt_1 : decode cX3_thingAt 1 = .ok (.bipush 12, 2) := by decide +kernel
theorem dX3_thingAt_3 : decode cX3_thingAt 3 = .ok (.iload_n 1, 1) := by decide +kernel
theorem dX3_thingAt_4 : decode cX3_thingAt 4 = .ok (.imul, 1) := by decide +kernel
theorem dX3_thingAt_5 : decode cX3_thingAt 5 = .ok (.iadd, 1) := by decide +kernel
theorem dX3_thingAt_6 : decode cX3_thingAt 6 = .ok (.iload_n 2, 1) := by decide +kernel
theorem dX3_thingAt_7 : decode cX3_thingAt 7 = .ok (.iadd, 1) := by decide +kernel
theorem dX3_thingAt_8 : decode cX3_thingAt 8 = .ok (.ireturn, 1) := by decide +kernel
set_option maxRecDepth 20000 in
theorem ggX3_rule_X3_in : GoodIn wsX3_rule wsX3_in := goodIn_r _ [5] (by decide +kernel) (by decide +kernel)
set_option maxRecDepth 20000 in
theorem gX3_rule_X3_in : GoodIn wsX3_rule (va_wsS RX3 24 yX3_in wsX3_in) := goodIn_app (goodIn_of _ (by decide +kernel)) ggX3_rule_X3_in
theorem dX3_rule_0 : decode cX3_rule 0 = .ok (.iload_n 1, 1) := by decide +kernel
theorem dX3_rule_1 : decode cX3_rule 1 = .ok (.iconst 0, 1) := by decide +kernel
theorem dX3_rule_2 : decode cX3_rule 2 = .ok (.iconst 3, 1) := by decide +kernel
theorem dX3_rule_3 : decode cX3_rule 3 = .ok (.invokestatic 24, 3) := by decide +kernel
theorem dX3_rule_6 : decode cX3_rule 6 = .ok (.ifCond .eq 53, 3) := by decide +kernel
theorem dX3_rule_9 : decode cX3_rule 9 = .ok (.iload_n 2, 1) := by decide +kernel
theorem dX3_rule_10 : decode cX3_rule 10 = .ok (.iload_n 1, 1) := by decide +kernel
theorem dX3_rule_11 : decode cX3_rule 11 = .ok (.iconst 2, 1) := by decide +kernel
theorem dX3_rule_12 : decode cX3_rule 12 = .ok (.if_icmp .ge 7, 3) := by decide +kernel
theorem dX3_rule_15 : decode cX3_rule 15 = .ok (.iconst 1, 1) := by decide +kernel
theorem dX3_rule_16 : decode cX3_rule 16 = .ok (.goto 4, 3) := by decide +kernel
theorem dX3_rule_19 : decode cX3_rule 19 = .ok (.iconst 0, 1) := by decide +kernel
theorem dX3_rule_20 : decode cX3_rule 20 = .ok (.iload_n 1, 1) := by decide +kernel
theorem dX3_rule_21 : decode cX3_rule 21 = .ok (.ifCond .ne 9, 3) := by decide +kernel
theorem dX3_rule_24 : decode cX3_rule 24 = .ok (.sipush 200, 3) := by decide +kernel
theorem dX3_rule_27 : decode cX3_rule 27 = .ok (.goto 26, 3) := by decide +kernel
theorem dX3_rule_30 : decode cX3_rule 30 = .ok (.iload_n 1, 1) := by decide +kernel
theorem dX3_rule_31 : decode cX3_rule 31 = .ok (.iconst 1, 1) := by decide +kernel
theorem dX3_rule_32 : decode cX3_rule 32 = .ok (.if_icmp .ne 8, 3) := by decide +kernel
theorem dX3_rule_35 : decode cX3_rule 35 = .ok (.bipush 100, 2) := by decide +kernel
theorem dX3_rule_37 : decode cX3_rule 37 = .ok (.goto 16, 3) := by decide +kernel
theorem dX3_rule_40 : decode cX3_rule 40 = .ok (.iload_n 1, 1) := by decide +kernel
theorem dX3_rule_41 : decode cX3_rule 41 = .ok (.iconst 2, 1) := by decide +kernel
theorem dX3_rule_42 : decode cX3_rule 42 = .ok (.if_icmp .ne 8, 3) := by decide +kernel
theorem dX3_rule_45 : decode cX3_rule 45 = .ok (.bipush 9, 2) := by decide +kernel
theorem dX3_rule_47 : decode cX3_rule 47 = .ok (.goto 6, 3) := by decide +kernel
theorem dX3_rule_50 : decode cX3_rule 50 = .ok (.sipush 500, 3) := by decide +kernel
theorem dX3_rule_53 : decode cX3_rule 53 = .ok (.invokestatic 24, 3) := by decide +kernel
theorem dX3_rule_56 : decode cX3_rule 56 = .ok (.ifCond .ne 6, 3) := by decide +kernel
theorem dX3_rule_59 : decode cX3_rule 59 = .ok (.bipush (-2), 2) := by decide +kernel
theorem dX3_rule_61 : decode cX3_rule 61 = .ok (.ireturn, 1) := by decide +kernel
theorem dX3_rule_62 : decode cX3_rule 62 = .ok (.aload_n 0, 1) := by decide +kernel
theorem dX3_rule_63 : decode cX3_rule 63 = .ok (.getfield 7, 3) := by decide +kernel
theorem dX3_rule_66 : decode cX3_rule 66 = .ok (.iconst 1, 1) := by decide +kernel
theorem dX3_rule_67 : decode cX3_rule 67 = .ok (.iload_n 1, 1) := by decide +kernel
theorem dX3_rule_68 : decode cX3_rule 68 = .ok (.iadd, 1) := by decide +kernel
theorem dX3_rule_69 : decode cX3_rule 69 = .ok (.iaload, 1) := by decide +kernel
theorem dX3_rule_70 : decode cX3_rule 70 = .ok (.istore_n 3, 1) := by decide +kernel
theorem dX3_rule_71 : decode cX3_rule 71 = .ok (.aload_n 0, 1) := by decide +kernel
theorem dX3_rule_72 : decode cX3_rule 72 = .ok (.getfield 7, 3) := by decide +kernel
theorem dX3_rule_75 : decode cX3_rule 75 = .ok (.iconst 1, 1) := by decide +kernel
theorem dX3_rule_76 : decode cX3_rule 76 = .ok (.iload_n 1, 1) := by decide +kernel
theorem dX3_rule_77 : decode cX3_rule 77 = .ok (.iadd, 1) := by decide +kernel
theorem dX3_rule_78 : decode cX3_rule 78 = .ok (.iload_n 2, 1) := by decide +kernel
theorem dX3_rule_79 : decode cX3_rule 79 = .ok (.iastore, 1) := by decide +kernel
theorem dX3_rule_80 : decode cX3_rule 80 = .ok (.iload_n 3, 1) := by decide +kernel
theorem dX3_rule_81 : decode cX3_rule 81 = .ok (.ireturn, 1) := by decide +kernel
set_option maxRecDepth 20000 in
theorem ggX3_skew_X3_isReader : GoodIn wsX3_skew wsX3_isReader := goodIn_r _ [5, 6, 7, 4, 8] (by decide +kernel) (by decide +kernel)
set_option maxRecDepth 20000 in
theorem gX3_skew_X3_isReader : GoodIn wsX3_skew (va_wsS RX3 28 yX3_isReader wsX3_isReader) := goodIn_app (goodIn_of _ (by decide +kernel)) ggX3_skew_X3_isReader
set_option maxRecDepth 20000 in
theorem ggX3_skew_X3_in : GoodIn wsX3_skew wsX3_in := goodIn_r _ [8] (by decide +kernel) (by decide +kernel)
set_option maxRecDepth 20000 in
theorem gX3_skew_X3_in : GoodIn wsX3_skew (va_wsS RX3 24 yX3_in wsX3_in) := goodIn_app (goodIn_of _ (by decide +kernel)) ggX3_skew_X3_in
theorem dX3_skew_0 : decode cX3_skew 0 = .ok (.iload_n 1, 1) := by decide +kernel
theorem dX3_skew_1 : decode cX3_skew 1 = .ok (.invokestatic 28, 3) := by decide +kernel
theorem dX3_skew_4 : decode cX3_skew 4 = .ok (.ifCond .ne 5, 3) := by decide +kernel
theorem dX3_skew_7 : decode cX3_skew 7 = .ok (.iconst (-1), 1) := by decide +kernel
theorem dX3_skew_8 : decode cX3_skew 8 = .ok (.ireturn, 1) := by decide +kernel
theorem dX3_skew_9 : decode cX3_skew 9 = .ok (.iload_n 2, 1) := by decide +kernel
theorem dX3_skew_10 : decode cX3_skew 10 = .ok (.bipush (-20), 2) := by decide +kernel
theorem dX3_skew_12 : decode cX3_skew 12 = .ok (.bipush 20, 2) := by decide +kernel
theorem dX3_skew_14 : decode cX3_skew 14 = .ok (.invokestatic 24, 3) := by decide +kernel
theorem dX3_skew_17 : decode cX3_skew 17 = .ok (.ifCond .ne 6, 3) := by decide +kernel
theorem dX3_skew_20 : decode cX3_skew 20 = .ok (.bipush (-2), 2) := by decide +kernel
theorem dX3_skew_22 : decode cX3_skew 22 = .ok (.ireturn, 1) := by decide +kernel
theorem dX3_skew_23 : decode cX3_skew 23 = .ok (.aload_n 0, 1) := by decide +kernel
theorem dX3_skew_24 : decode cX3_skew 24 = .ok (.getfield 7, 3) := by decide +kernel
theorem dX3_skew_27 : decode cX3_skew 27 = .ok (.bipush 47, 2) := by decide +kernel
theorem dX3_skew_29 : decode cX3_skew 29 = .ok (.iload_n 1, 1) := by decide +kernel
theorem dX3_skew_30 : decode cX3_skew 30 = .ok (.iadd, 1) := by decide +kernel
theorem dX3_skew_31 : decode cX3_skew 31 = .ok (.iload_n 2, 1) := by decide +kernel
theorem dX3_skew_32 : decode cX3_skew 32 = .ok (.iastore, 1) := by decide +kernel
theorem dX3_skew_33 : decode cX3_skew 33 = .ok (.iconst 0, 1) := by decide +kernel
theorem dX3_skew_34 : decode cX3_skew 34 = .ok (.istore_n 3, 1) := by decide +kernel
theorem dX3_skew_35 : decode cX3_skew 35 = .ok (.iconst 0, 1) := by decide +kernel
theorem dX3_skew_36 : decode cX3_skew 36 = .ok (.istore 4, 2) := by decide +kernel
theorem dX3_skew_38 : decode cX3_skew 38 = .ok (.iload 4, 2) := by decide +kernel
theorem dX3_skew_40 : decode cX3_skew 40 = .ok (.iconst 5, 1) := by decide +kernel
theorem dX3_skew_41 : decode cX3_skew 41 = .ok (.if_icmp .ge 56, 3) := by decide +kernel
theorem dX3_skew_44 : decode cX3_skew 44 = .ok (.iload_n 3, 1) := by decide +kernel
theorem dX3_skew_45 : decode cX3_skew 45 = .ok (.aload_n 0, 1) := by decide +kernel
theorem dX3_skew_46 : decode cX3_skew 46 = .ok (.getfield 7, 3) := by decide +kernel
theorem dX3_skew_49 : decode cX3_skew 49 = .ok (.bipush 47, 2) := by decide +kernel
theorem dX3_skew_51 : decode cX3_skew 51 = .ok (.iload 4, 2) := by decide +kernel
theorem dX3_skew_53 : decode cX3_skew 53 = .ok (.iadd, 1) := by decide +kernel
theorem dX3_skew_54 : decode cX3_skew 54 = .ok (.iaload, 1) := by decide +kernel
theorem dX3_skew_55 : decode cX3_skew 55 = .ok (.aload_n 0, 1) := by decide +kernel
theorem dX3_skew_56 : decode cX3_skew 56 = .ok (.getfield 7, 3) := by decide +kernel
theorem dX3_skew_59 : decode cX3_skew 59 = .ok (.iconst 3, 1) := by decide +kernel
theorem dX3_skew_60 : decode cX3_skew 60 = .ok (.iaload, 1) := by decide +kernel
theorem dX3_skew_61 : decode cX3_skew 61 = .ok (.if_icmp .gt 23, 3) := by decide +kernel
theorem dX3_skew_64 : decode cX3_skew 64 = .ok (.aload_n 0, 1) := by decide +kernel
theorem dX3_skew_65 : decode cX3_skew 65 = .ok (.getfield 7, 3) := by decide +kernel
theorem dX3_skew_68 : decode cX3_skew 68 = .ok (.bipush 47, 2) := by decide +kernel
theorem dX3_skew_70 : decode cX3_skew 70 = .ok (.iload 4, 2) := by decide +kernel
theorem dX3_skew_72 : decode cX3_skew 72 = .ok (.iadd, 1) := by decide +kernel
theorem dX3_skew_73 : decode cX3_skew 73 = .ok (.iaload, 1) := by decide +kernel
theorem dX3_skew_74 : decode cX3_skew 74 = .ok (.aload_n 0, 1) := by decide +kernel
theorem dX3_skew_75 : decode cX3_skew 75 = .ok (.getfield 7, 3) := by decide +kernel
theorem dX3_skew_78 : decode cX3_skew 78 = .ok (.iconst 3, 1) := by decide +kernel
theorem dX3_skew_79 : decode cX3_skew 79 = .ok (.iaload, 1) := by decide +kernel
theorem dX3_skew_80 : decode cX3_skew 80 = .ok (.ineg, 1) := by decide +kernel
theorem dX3_skew_81 : decode cX3_skew 81 = .ok (.if_icmp .ge 7, 3) := by decide +kernel
theorem dX3_skew_84 : decode cX3_skew 84 = .ok (.iconst 1, 1) := by decide +kernel
theorem dX3_skew_85 : decode cX3_skew 85 = .ok (.goto 4, 3) := by decide +kernel
theorem dX3_skew_88 : decode cX3_skew 88 = .ok (.iconst 0, 1) := by decide +kernel
theorem dX3_skew_89 : decode cX3_skew 89 = .ok (.iadd, 1) := by decide +kernel
theorem dX3_skew_90 : decode cX3_skew 90 = .ok (.istore_n 3, 1) := by decide +kernel
theorem dX3_skew_91 : decode cX3_skew 91 = .ok (.iinc 4 1, 3) := by decide +kernel
theorem dX3_skew_94 : decode cX3_skew 94 = .ok (.goto (-56), 3) := by decide +kernel
theorem dX3_skew_97 : decode cX3_skew 97 = .ok (.iload_n 3, 1) := by decide +kernel
theorem dX3_skew_98 : decode cX3_skew 98 = .ok (.ireturn, 1) := by decide +kernel
theorem dX3_isOver_0 : decode cX3_isOver 0 = .ok (.aload_n 0, 1) := by decide +kernel
theorem dX3_isOver_1 : decode cX3_isOver 1 = .ok (.getfield 7, 3) := by decide +kernel
theorem dX3_isOver_4 : decode cX3_isOver 4 = .ok (.iconst 0, 1) := by decide +kernel
theorem dX3_isOver_5 : decode cX3_isOver 5 = .ok (.iaload, 1) := by decide +kernel
theorem dX3_isOver_6 : decode cX3_isOver 6 = .ok (.aload_n 0, 1) := by decide +kernel
theorem dX3_isOver_7 : decode cX3_isOver 7 = .ok (.getfield 7, 3) := by decide +kernel
theorem dX3_isOver_10 : decode cX3_isOver 10 = .ok (.bipush 47, 2) := by decide +kernel
theorem dX3_isOver_12 : decode cX3_isOver 12 = .ok (.iload_n 1, 1) := by decide +kernel
theorem dX3_isOver_13 : decode cX3_isOver 13 = .ok (.iadd, 1) := by decide +kernel
theorem dX3_isOver_14 : decode cX3_isOver 14 = .ok (.iaload, 1) := by decide +kernel
theorem dX3_isOver_15 : decode cX3_isOver 15 = .ok (.iadd, 1) := by decide +kernel
theorem dX3_isOver_16 : decode cX3_isOver 16 = .ok (.aload_n 0, 1) := by decide +kernel
theorem dX3_isOver_17 : decode cX3_isOver 17 = .ok (.getfield 7, 3) := by decide +kernel
theorem dX3_isOver_20 : decode cX3_isOver 20 = .ok (.iconst 3, 1) := by decide +kernel
theorem dX3_isOver_21 : decode cX3_isOver 21 = .ok (.iaload, 1) := by decide +kernel
theorem dX3_isOver_22 : decode cX3_isOver 22 = .ok (.iadd, 1) := by decide +kernel
theorem dX3_isOver_23 : decode cX3_isOver 23 = .ok (.iload_n 2, 1) := by decide +kernel
theorem dX3_isOver_24 : decode cX3_isOver 24 = .ok (.if_icmp .lt 7, 3) := by decide +kernel
theorem dX3_isOver_27 : decode cX3_isOver 27 = .ok (.iconst 1, 1) := by decide +kernel
theorem dX3_isOver_28 : decode cX3_isOver 28 = .ok (.goto 4, 3) := by decide +kernel
theorem dX3_isOver_31 : decode cX3_isOver 31 = .ok (.iconst 0, 1) := by decide +kernel
theorem dX3_isOver_32 : decode cX3_isOver 32 = .ok (.ireturn, 1) := by decide +kernel
set_option maxRecDepth 20000 in
theorem ggX3_canUse_X3_thingAt : GoodIn wsX3_canUse wsX3_thingAt := goodIn_r _ [5] (by decide +kernel) (by decide +kernel)
set_option maxRecDepth 20000 in
theorem gX3_canUse_X3_thingAt : GoodIn wsX3_canUse (va_wsS RX3 32 yX3_thingAt wsX3_thingAt) := goodIn_app (goodIn_of _ (by decide +kernel)) ggX3_canUse_X3_thingAt
set_option maxRecDepth 20000 in
theorem ggX3_canUse_X3_isOver : GoodIn wsX3_canUse wsX3_isOver := goodIn_r _ [9, 1, 13, 14, 15] (by decide +kernel) (by decide +kernel)
set_option maxRecDepth 20000 in
theorem gX3_canUse_X3_isOver : GoodIn wsX3_canUse (wsV RX3 36 RX3 yX3_isOver wsX3_isOver) := goodIn_app (goodIn_of _ (by decide +kernel)) ggX3_canUse_X3_isOver
set_option maxRecDepth 20000 in
theorem ggX3_canUse_X3_volumeAt : GoodIn wsX3_canUse wsX3_volumeAt := goodIn_r _ [12] (by decide +kernel) (by decide +kernel)
set_option maxRecDepth 20000 in
theorem gX3_canUse_X3_volumeAt : GoodIn wsX3_canUse (va_wsS RX3 40 yX3_volumeAt wsX3_volumeAt) := goodIn_app (goodIn_of _ (by decide +kernel)) ggX3_canUse_X3_volumeAt
theorem dX3_canUse_0 : decode cX3_canUse 0 = .ok (.aload_n 0, 1) := by decide +kernel
theorem dX3_canUse_1 : decode cX3_canUse 1 = .ok (.getfield 7, 3) := by decide +kernel
theorem dX3_canUse_4 : decode cX3_canUse 4 = .ok (.bipush 82, 2) := by decide +kernel
theorem dX3_canUse_6 : decode cX3_canUse 6 = .ok (.iload_n 1, 1) := by decide +kernel
theorem dX3_canUse_7 : decode cX3_canUse 7 = .ok (.iload_n 2, 1) := by decide +kernel
theorem dX3_canUse_8 : decode cX3_canUse 8 = .ok (.invokestatic 32, 3) := by decide +kernel
theorem dX3_canUse_11 : decode cX3_canUse 11 = .ok (.iaload, 1) := by decide +kernel
theorem dX3_canUse_12 : decode cX3_canUse 12 = .ok (.ifCond .lt 48, 3) := by decide +kernel
theorem dX3_canUse_15 : decode cX3_canUse 15 = .ok (.aload_n 0, 1) := by decide +kernel
theorem dX3_canUse_16 : decode cX3_canUse 16 = .ok (.iload_n 1, 1) := by decide +kernel
theorem dX3_canUse_17 : decode cX3_canUse 17 = .ok (.aload_n 0, 1) := by decide +kernel
theorem dX3_canUse_18 : decode cX3_canUse 18 = .ok (.getfield 7, 3) := by decide +kernel
theorem dX3_canUse_21 : decode cX3_canUse 21 = .ok (.sipush 142, 3) := by decide +kernel
theorem dX3_canUse_24 : decode cX3_canUse 24 = .ok (.iload_n 1, 1) := by decide +kernel
theorem dX3_canUse_25 : decode cX3_canUse 25 = .ok (.iload_n 2, 1) := by decide +kernel
theorem dX3_canUse_26 : decode cX3_canUse 26 = .ok (.invokestatic 32, 3) := by decide +kernel
theorem dX3_canUse_29 : decode cX3_canUse 29 = .ok (.iaload, 1) := by decide +kernel
theorem dX3_canUse_30 : decode cX3_canUse 30 = .ok (.invokevirtual 36, 3) := by decide +kernel
theorem dX3_canUse_33 : decode cX3_canUse 33 = .ok (.ifCond .ne 27, 3) := by decide +kernel
theorem dX3_canUse_36 : decode cX3_canUse 36 = .ok (.aload_n 0, 1) := by decide +kernel
theorem dX3_canUse_37 : decode cX3_canUse 37 = .ok (.iload_n 1, 1) := by decide +kernel
theorem dX3_canUse_38 : decode cX3_canUse 38 = .ok (.aload_n 0, 1) := by decide +kernel
theorem dX3_canUse_39 : decode cX3_canUse 39 = .ok (.getfield 7, 3) := by decide +kernel
theorem dX3_canUse_42 : decode cX3_canUse 42 = .ok (.bipush 52, 2) := by decide +kernel
theorem dX3_canUse_44 : decode cX3_canUse 44 = .ok (.iload_n 1, 1) := by decide +kernel
theorem dX3_canUse_45 : decode cX3_canUse 45 = .ok (.iload_n 2, 1) := by decide +kernel
theorem dX3_canUse_46 : decode cX3_canUse 46 = .ok (.invokestatic 40, 3) := by decide +kernel
theorem dX3_canUse_49 : decode cX3_canUse 49 = .ok (.iaload, 1) := by decide +kernel
theorem dX3_canUse_50 : decode cX3_canUse 50 = .ok (.invokevirtual 36, 3) := by decide +kernel
theorem dX3_canUse_53 : decode cX3_canUse 53 = .ok (.ifCond .ne 7, 3) := by decide +kernel
theorem dX3_canUse_56 : decode cX3_canUse 56 = .ok (.iconst 1, 1) := by decide +kernel
theorem dX3_canUse_57 : decode cX3_canUse 57 = .ok (.goto 4, 3) := by decide +kernel
theorem dX3_canUse_60 : decode cX3_canUse 60 = .ok (.iconst 0, 1) := by decide +kernel
theorem dX3_canUse_61 : decode cX3_canUse 61 = .ok (.ireturn, 1) := by decide +kernel
set_option maxRecDepth 20000 in
theorem ggX3_isHolder_X3_thingAt : GoodIn wsX3_isHolder wsX3_thingAt := goodIn_r _ [5] (by decide +kernel) (by decide +kernel)
set_option maxRecDepth 20000 in
theorem gX3_isHolder_X3_thingAt : GoodIn wsX3_isHolder (va_wsS RX3 32 yX3_thingAt wsX3_thingAt) := goodIn_app (goodIn_of _ (by decide +kernel)) ggX3_isHolder_X3_thingAt
theorem dX3_isHolder_0 : decode cX3_isHolder 0 = .ok (.aload_n 0, 1) := by decide +kernel
theorem dX3_isHolder_1 : decode cX3_isHolder 1 = .ok (.getfield 7, 3) := by decide +kernel
theorem dX3_isHolder_4 : decode cX3_isHolder 4 = .ok (.sipush 202, 3) := by decide +kernel
theorem dX3_isHolder_7 : decode cX3_isHolder 7 = .ok (.iload_n 1, 1) := by decide +kernel
theorem dX3_isHolder_8 : decode cX3_isHolder 8 = .ok (.iload_n 2, 1) := by decide +kernel
theorem dX3_isHolder_9 : decode cX3_isHolder 9 = .ok (.invokestatic 32, 3) := by decide +kernel
theorem dX3_isHolder_12 : decode cX3_isHolder 12 = .ok (.iaload, 1) := by decide +kernel
theorem dX3_isHolder_13 : decode cX3_isHolder 13 = .ok (.aload_n 0, 1) := by decide +kernel
theorem dX3_isHolder_14 : decode cX3_isHolder 14 = .ok (.getfield 7, 3) := by decide +kernel
theorem dX3_isHolder_17 : decode cX3_isHolder 17 = .ok (.iconst 0, 1) := by decide +kernel
theorem dX3_isHolder_18 : decode cX3_isHolder 18 = .ok (.iaload, 1) := by decide +kernel
theorem dX3_isHolder_19 : decode cX3_isHolder 19 = .ok (.if_icmp .le 7, 3) := by decide +kernel
theorem dX3_isHolder_22 : decode cX3_isHolder 22 = .ok (.iconst 1, 1) := by decide +kernel
theorem dX3_isHolder_23 : decode cX3_isHolder 23 = .ok (.goto 4, 3) := by decide +kernel
theorem dX3_isHolder_26 : decode cX3_isHolder 26 = .ok (.iconst 0, 1) := by decide +kernel
theorem dX3_isHolder_27 : decode cX3_isHolder 27 = .ok (.ireturn, 1) := by decide +kernel
set_option maxRecDepth 20000 in
theorem ggX3_clear_X3_thingAt : GoodIn wsX3_clear wsX3_thingAt := goodIn_r _ [5] (by decide +kernel) (by decide +kernel)
set_option maxRecDepth 20000 in
theorem gX3_clear_X3_thingAt : GoodIn wsX3_clear (va_wsS RX3 32 yX3_thingAt wsX3_thingAt) := goodIn_app (goodIn_of _ (by decide +kernel)) ggX3_clear_X3_thingAt
theorem dX3_clear_0 : decode cX3_clear 0 = .ok (.aload_n 0, 1) := by decide +kernel
theorem dX3_clear_1 : decode cX3_clear 1 = .ok (.getfield 7, 3) := by decide +kernel
theorem dX3_clear_4 : decode cX3_clear 4 = .ok (.bipush 82, 2) := by decide +kernel
theorem dX3_clear_6 : decode cX3_clear 6 = .ok (.iload_n 1, 1) := by decide +kernel
theorem dX3_clear_7 : decode cX3_clear 7 = .ok (.iload_n 2, 1) := by decide +kernel
theorem dX3_clear_8 : decode cX3_clear 8 = .ok (.invokestatic 32, 3) := by decide +kernel
theorem dX3_clear_11 : decode cX3_clear 11 = .ok (.bipush (-6), 2) := by decide +kernel
theorem dX3_clear_13 : decode cX3_clear 13 = .ok (.iastore, 1) := by decide +kernel
theorem dX3_clear_14 : decode cX3_clear 14 = .ok (.aload_n 0, 1) := by decide +kernel
theorem dX3_clear_15 : decode cX3_clear 15 = .ok (.getfield 7, 3) := by decide +kernel
theorem dX3_clear_18 : decode cX3_clear 18 = .ok (.sipush 142, 3) := by decide +kernel
theorem dX3_clear_21 : decode cX3_clear 21 = .ok (.iload_n 1, 1) := by decide +kernel
theorem dX3_clear_22 : decode cX3_clear 22 = .ok (.iload_n 2, 1) := by decide +kernel
theorem dX3_clear_23 : decode cX3_clear 23 = .ok (.invokestatic 32, 3) := by decide +kernel
theorem dX3_clear_26 : decode cX3_clear 26 = .ok (.iconst 0, 1) := by decide +kernel
theorem dX3_clear_27 : decode cX3_clear 27 = .ok (.iastore, 1) := by decide +kernel
theorem dX3_clear_28 : decode cX3_clear 28 = .ok (.aload_n 0, 1) := by decide +kernel
theorem dX3_clear_29 : decode cX3_clear 29 = .ok (.getfield 7, 3) := by decide +kernel
theorem dX3_clear_32 : decode cX3_clear 32 = .ok (.sipush 202, 3) := by decide +kernel
theorem dX3_clear_35 : decode cX3_clear 35 = .ok (.iload_n 1, 1) := by decide +kernel
theorem dX3_clear_36 : decode cX3_clear 36 = .ok (.iload_n 2, 1) := by decide +kernel
theorem dX3_clear_37 : decode cX3_clear 37 = .ok (.invokestatic 32, 3) := by decide +kernel
theorem dX3_clear_40 : decode cX3_clear 40 = .ok (.iconst 0, 1) := by decide +kernel
theorem dX3_clear_41 : decode cX3_clear 41 = .ok (.iastore, 1) := by decide +kernel
theorem dX3_clear_42 : decode cX3_clear 42 = .ok (.return_, 1) := by decide +kernel
set_option maxRecDepth 20000 in
theorem ggX3_isSettled_X3_isHolder : GoodIn wsX3_isSettled wsX3_isHolder := goodIn_r _ [6, 1, 7, 8, 5, 9, 20, 21, 22] (by decide +kernel) (by decide +kernel)
set_option maxRecDepth 20000 in
theorem gX3_isSettled_X3_isHolder : GoodIn wsX3_isSettled (wsV RX3 43 RX3 yX3_isHolder wsX3_isHolder) := goodIn_app (goodIn_of _ (by decide +kernel)) ggX3_isSettled_X3_isHolder
set_option maxRecDepth 20000 in
theorem ggX3_isSettled_X3_volumeAt : GoodIn wsX3_isSettled wsX3_volumeAt := goodIn_r _ [12] (by decide +kernel) (by decide +kernel)
set_option maxRecDepth 20000 in
theorem gX3_isSettled_X3_volumeAt : GoodIn wsX3_isSettled (va_wsS RX3 40 yX3_volumeAt wsX3_volumeAt) := goodIn_app (goodIn_of _ (by decide +kernel)) ggX3_isSettled_X3_volumeAt
set_option maxRecDepth 20000 in
theorem ggX3_isSettled_X3_thingAt : GoodIn wsX3_isSettled wsX3_thingAt := goodIn_r _ [9] (by decide +kernel) (by decide +kernel)
set_option maxRecDepth 20000 in
theorem gX3_isSettled_X3_thingAt : GoodIn wsX3_isSettled (va_wsS RX3 32 yX3_thingAt wsX3_thingAt) := goodIn_app (goodIn_of _ (by decide +kernel)) ggX3_isSettled_X3_thingAt
set_option maxRecDepth 20000 in
theorem ggX3_isSettled_X3_said : GoodIn wsX3_isSettled wsX3_said := goodIn_r _ [15] (by decide +kernel) (by decide +kernel)
set_option maxRecDepth 20000 in
theorem gX3_isSettled_X3_said : GoodIn wsX3_isSettled (va_wsS RX3 20 yX3_said wsX3_said) := goodIn_app (goodIn_of _ (by decide +kernel)) ggX3_isSettled_X3_said
set_option maxRecDepth 20000 in
theorem ggX3_isSettled_X3_clear : GoodIn wsX3_isSettled wsX3_clear := goodIn_r _ [19, 1, 7, 8, 5, 9, 20, 21, 22] (by decide +kernel) (by decide +kernel)
set_option maxRecDepth 20000 in
theorem gX3_isSettled_X3_clear : GoodIn wsX3_isSettled (wsV RX3 46 RX3 yX3_clear wsX3_clear) := goodIn_app (goodIn_of _ (by decide +kernel)) ggX3_isSettled_X3_clear
theorem dX3_isSettled_0 : decode cX3_isSettled 0 = .ok (.iconst 1, 1) := by decide +kernel
theorem dX3_isSettled_1 : decode cX3_isSettled 1 = .ok (.istore_n 2, 1) := by decide +kernel
theorem dX3_isSettled_2 : decode cX3_isSettled 2 = .ok (.iconst 0, 1) := by decide +kernel
theorem dX3_isSettled_3 : decode cX3_isSettled 3 = .ok (.istore_n 3, 1) := by decide +kernel
theorem dX3_isSettled_4 : decode cX3_isSettled 4 = .ok (.iload_n 3, 1) := by decide +kernel
theorem dX3_isSettled_5 : decode cX3_isSettled 5 = .ok (.iconst 5, 1) := by decide +kernel
theorem dX3_isSettled_6 : decode cX3_isSettled 6 = .ok (.if_icmp .ge 171, 3) := by decide +kernel
theorem dX3_isSettled_9 : decode cX3_isSettled 9 = .ok (.aload_n 0, 1) := by decide +kernel
theorem dX3_isSettled_10 : decode cX3_isSettled 10 = .ok (.iload_n 3, 1) := by decide +kernel
theorem dX3_isSettled_11 : decode cX3_isSettled 11 = .ok (.iload_n 1, 1) := by decide +kernel
theorem dX3_isSettled_12 : decode cX3_isSettled 12 = .ok (.invokevirtual 43, 3) := by decide +kernel
theorem dX3_isSettled_15 : decode cX3_isSettled 15 = .ok (.ifCond .eq 156, 3) := by decide +kernel
theorem dX3_isSettled_18 : decode cX3_isSettled 18 = .ok (.aload_n 0, 1) := by decide +kernel
theorem dX3_isSettled_19 : decode cX3_isSettled 19 = .ok (.getfield 7, 3) := by decide +kernel
theorem dX3_isSettled_22 : decode cX3_isSettled 22 = .ok (.bipush 52, 2) := by decide +kernel
theorem dX3_isSettled_24 : decode cX3_isSettled 24 = .ok (.iload_n 3, 1) := by decide +kernel
theorem dX3_isSettled_25 : decode cX3_isSettled 25 = .ok (.iload_n 1, 1) := by decide +kernel
theorem dX3_isSettled_26 : decode cX3_isSettled 26 = .ok (.invokestatic 40, 3) := by decide +kernel
theorem dX3_isSettled_29 : decode cX3_isSettled 29 = .ok (.iaload, 1) := by decide +kernel
theorem dX3_isSettled_30 : decode cX3_isSettled 30 = .ok (.aload_n 0, 1) := by decide +kernel
theorem dX3_isSettled_31 : decode cX3_isSettled 31 = .ok (.getfield 7, 3) := by decide +kernel
theorem dX3_isSettled_34 : decode cX3_isSettled 34 = .ok (.iconst 0, 1) := by decide +kernel
theorem dX3_isSettled_35 : decode cX3_isSettled 35 = .ok (.iaload, 1) := by decide +kernel
theorem dX3_isSettled_36 : decode cX3_isSettled 36 = .ok (.if_icmp .gt 72, 3) := by decide +kernel
theorem dX3_isSettled_39 : decode cX3_isSettled 39 = .ok (.bipush 67, 2) := by decide +kernel
theorem dX3_isSettled_41 : decode cX3_isSettled 41 = .ok (.iload_n 3, 1) := by decide +kernel
theorem dX3_isSettled_42 : decode cX3_isSettled 42 = .ok (.iload_n 1, 1) := by decide +kernel
theorem dX3_isSettled_43 : decode cX3_isSettled 43 = .ok (.invokestatic 40, 3) := by decide +kernel
theorem dX3_isSettled_46 : decode cX3_isSettled 46 = .ok (.istore 4, 2) := by decide +kernel
theorem dX3_isSettled_48 : decode cX3_isSettled 48 = .ok (.aload_n 0, 1) := by decide +kernel
theorem dX3_isSettled_49 : decode cX3_isSettled 49 = .ok (.getfield 7, 3) := by decide +kernel
theorem dX3_isSettled_52 : decode cX3_isSettled 52 = .ok (.sipush 307, 3) := by decide +kernel
theorem dX3_isSettled_55 : decode cX3_isSettled 55 = .ok (.dup2, 1) := by decide +kernel
theorem dX3_isSettled_56 : decode cX3_isSettled 56 = .ok (.iaload, 1) := by decide +kernel
theorem dX3_isSettled_57 : decode cX3_isSettled 57 = .ok (.aload_n 0, 1) := by decide +kernel
theorem dX3_isSettled_58 : decode cX3_isSettled 58 = .ok (.getfield 7, 3) := by decide +kernel
theorem dX3_isSettled_61 : decode cX3_isSettled 61 = .ok (.iload 4, 2) := by decide +kernel
theorem dX3_isSettled_63 : decode cX3_isSettled 63 = .ok (.iaload, 1) := by decide +kernel
theorem dX3_isSettled_64 : decode cX3_isSettled 64 = .ok (.iload_n 1, 1) := by decide +kernel
theorem dX3_isSettled_65 : decode cX3_isSettled 65 = .ok (.ishr, 1) := by decide +kernel
theorem dX3_isSettled_66 : decode cX3_isSettled 66 = .ok (.iconst 1, 1) := by decide +kernel
theorem dX3_isSettled_67 : decode cX3_isSettled 67 = .ok (.iand, 1) := by decide +kernel
theorem dX3_isSettled_68 : decode cX3_isSettled 68 = .ok (.ifCond .ne 7, 3) := by decide +kernel
theorem dX3_isSettled_71 : decode cX3_isSettled 71 = .ok (.iconst 1, 1) := by decide +kernel
theorem dX3_isSettled_72 : decode cX3_isSettled 72 = .ok (.goto 4, 3) := by decide +kernel
theorem dX3_isSettled_75 : decode cX3_isSettled 75 = .ok (.iconst 0, 1) := by decide +kernel
theorem dX3_isSettled_76 : decode cX3_isSettled 76 = .ok (.iadd, 1) := by decide +kernel
theorem dX3_isSettled_77 : decode cX3_isSettled 77 = .ok (.iastore, 1) := by decide +kernel
theorem dX3_isSettled_78 : decode cX3_isSettled 78 = .ok (.aload_n 0, 1) := by decide +kernel
theorem dX3_isSettled_79 : decode cX3_isSettled 79 = .ok (.getfield 7, 3) := by decide +kernel
theorem dX3_isSettled_82 : decode cX3_isSettled 82 = .ok (.iload 4, 2) := by decide +kernel
theorem dX3_isSettled_84 : decode cX3_isSettled 84 = .ok (.dup2, 1) := by decide +kernel
theorem dX3_isSettled_85 : decode cX3_isSettled 85 = .ok (.iaload, 1) := by decide +kernel
theorem dX3_isSettled_86 : decode cX3_isSettled 86 = .ok (.iconst 1, 1) := by decide +kernel
theorem dX3_isSettled_87 : decode cX3_isSettled 87 = .ok (.iload_n 1, 1) := by decide +kernel
theorem dX3_isSettled_88 : decode cX3_isSettled 88 = .ok (.ishl, 1) := by decide +kernel
theorem dX3_isSettled_89 : decode cX3_isSettled 89 = .ok (.ior, 1) := by decide +kernel
theorem dX3_isSettled_90 : decode cX3_isSettled 90 = .ok (.iastore, 1) := by decide +kernel
theorem dX3_isSettled_91 : decode cX3_isSettled 91 = .ok (.aload_n 0, 1) := by decide +kernel
theorem dX3_isSettled_92 : decode cX3_isSettled 92 = .ok (.getfield 7, 3) := by decide +kernel
theorem dX3_isSettled_95 : decode cX3_isSettled 95 = .ok (.sipush 202, 3) := by decide +kernel
theorem dX3_isSettled_98 : decode cX3_isSettled 98 = .ok (.iload_n 3, 1) := by decide +kernel
theorem dX3_isSettled_99 : decode cX3_isSettled 99 = .ok (.iload_n 1, 1) := by decide +kernel
theorem dX3_isSettled_100 : decode cX3_isSettled 100 = .ok (.invokestatic 32, 3) := by decide +kernel
theorem dX3_isSettled_103 : decode cX3_isSettled 103 = .ok (.iconst 0, 1) := by decide +kernel
theorem dX3_isSettled_104 : decode cX3_isSettled 104 = .ok (.iastore, 1) := by decide +kernel
theorem dX3_isSettled_105 : decode cX3_isSettled 105 = .ok (.goto 66, 3) := by decide +kernel
theorem dX3_isSettled_108 : decode cX3_isSettled 108 = .ok (.aload_n 0, 1) := by decide +kernel
theorem dX3_isSettled_109 : decode cX3_isSettled 109 = .ok (.getfield 7, 3) := by decide +kernel
theorem dX3_isSettled_112 : decode cX3_isSettled 112 = .ok (.bipush 17, 2) := by decide +kernel
theorem dX3_isSettled_114 : decode cX3_isSettled 114 = .ok (.iload_n 1, 1) := by decide +kernel
theorem dX3_isSettled_115 : decode cX3_isSettled 115 = .ok (.iadd, 1) := by decide +kernel
theorem dX3_isSettled_116 : decode cX3_isSettled 116 = .ok (.iaload, 1) := by decide +kernel
theorem dX3_isSettled_117 : decode cX3_isSettled 117 = .ok (.iconst 1, 1) := by decide +kernel
theorem dX3_isSettled_118 : decode cX3_isSettled 118 = .ok (.if_icmp .ne 51, 3) := by decide +kernel
theorem dX3_isSettled_121 : decode cX3_isSettled 121 = .ok (.aload_n 0, 1) := by decide +kernel
theorem dX3_isSettled_122 : decode cX3_isSettled 122 = .ok (.getfield 7, 3) := by decide +kernel
theorem dX3_isSettled_125 : decode cX3_isSettled 125 = .ok (.bipush 42, 2) := by decide +kernel
theorem dX3_isSettled_127 : decode cX3_isSettled 127 = .ok (.iload_n 3, 1) := by decide +kernel
theorem dX3_isSettled_128 : decode cX3_isSettled 128 = .ok (.iadd, 1) := by decide +kernel
theorem dX3_isSettled_129 : decode cX3_isSettled 129 = .ok (.iaload, 1) := by decide +kernel
theorem dX3_isSettled_130 : decode cX3_isSettled 130 = .ok (.iconst 1, 1) := by decide +kernel
theorem dX3_isSettled_131 : decode cX3_isSettled 131 = .ok (.if_icmp .ne 38, 3) := by decide +kernel
theorem dX3_isSettled_134 : decode cX3_isSettled 134 = .ok (.aload_n 0, 1) := by decide +kernel
theorem dX3_isSettled_135 : decode cX3_isSettled 135 = .ok (.getfield 7, 3) := by decide +kernel
theorem dX3_isSettled_138 : decode cX3_isSettled 138 = .ok (.sipush 306, 3) := by decide +kernel
theorem dX3_isSettled_141 : decode cX3_isSettled 141 = .ok (.dup2, 1) := by decide +kernel
theorem dX3_isSettled_142 : decode cX3_isSettled 142 = .ok (.iaload, 1) := by decide +kernel
theorem dX3_isSettled_143 : decode cX3_isSettled 143 = .ok (.iconst 1, 1) := by decide +kernel
theorem dX3_isSettled_144 : decode cX3_isSettled 144 = .ok (.iadd, 1) := by decide +kernel
theorem dX3_isSettled_145 : decode cX3_isSettled 145 = .ok (.iastore, 1) := by decide +kernel
theorem dX3_isSettled_146 : decode cX3_isSettled 146 = .ok (.aload_n 0, 1) := by decide +kernel
theorem dX3_isSettled_147 : decode cX3_isSettled 147 = .ok (.getfield 7, 3) := by decide +kernel
theorem dX3_isSettled_150 : decode cX3_isSettled 150 = .ok (.iload_n 3, 1) := by decide +kernel
theorem dX3_isSettled_151 : decode cX3_isSettled 151 = .ok (.iconst 4, 1) := by decide +kernel
theorem dX3_isSettled_152 : decode cX3_isSettled 152 = .ok (.invokestatic 20, 3) := by decide +kernel
theorem dX3_isSettled_155 : decode cX3_isSettled 155 = .ok (.dup2, 1) := by decide +kernel
theorem dX3_isSettled_156 : decode cX3_isSettled 156 = .ok (.iaload, 1) := by decide +kernel
theorem dX3_isSettled_157 : decode cX3_isSettled 157 = .ok (.iconst 1, 1) := by decide +kernel
theorem dX3_isSettled_158 : decode cX3_isSettled 158 = .ok (.iadd, 1) := by decide +kernel
theorem dX3_isSettled_159 : decode cX3_isSettled 159 = .ok (.iastore, 1) := by decide +kernel
theorem dX3_isSettled_160 : decode cX3_isSettled 160 = .ok (.aload_n 0, 1) := by decide +kernel
theorem dX3_isSettled_161 : decode cX3_isSettled 161 = .ok (.iload_n 3, 1) := by decide +kernel
theorem dX3_isSettled_162 : decode cX3_isSettled 162 = .ok (.iload_n 1, 1) := by decide +kernel
theorem dX3_isSettled_163 : decode cX3_isSettled 163 = .ok (.invokevirtual 46, 3) := by decide +kernel
theorem dX3_isSettled_166 : decode cX3_isSettled 166 = .ok (.goto 5, 3) := by decide +kernel
theorem dX3_isSettled_169 : decode cX3_isSettled 169 = .ok (.iconst 0, 1) := by decide +kernel
theorem dX3_isSettled_170 : decode cX3_isSettled 170 = .ok (.istore_n 2, 1) := by decide +kernel
theorem dX3_isSettled_171 : decode cX3_isSettled 171 = .ok (.iinc 3 1, 3) := by decide +kernel
theorem dX3_isSettled_174 : decode cX3_isSettled 174 = .ok (.goto (-170), 3) := by decide +kernel
theorem dX3_isSettled_177 : decode cX3_isSettled 177 = .ok (.iload_n 2, 1) := by decide +kernel
theorem dX3_isSettled_178 : decode cX3_isSettled 178 = .ok (.ifCond .eq 38, 3) := by decide +kernel
theorem dX3_isSettled_181 : decode cX3_isSettled 181 = .ok (.aload_n 0, 1) := by decide +kernel
theorem dX3_isSettled_182 : decode cX3_isSettled 182 = .ok (.getfield 7, 3) := by decide +kernel
theorem dX3_isSettled_185 : decode cX3_isSettled 185 = .ok (.iconst 5, 1) := by decide +kernel
theorem dX3_isSettled_186 : decode cX3_isSettled 186 = .ok (.iload_n 1, 1) := by decide +kernel
theorem dX3_isSettled_187 : decode cX3_isSettled 187 = .ok (.iadd, 1) := by decide +kernel
theorem dX3_isSettled_188 : decode cX3_isSettled 188 = .ok (.dup2, 1) := by decide +kernel
theorem dX3_isSettled_189 : decode cX3_isSettled 189 = .ok (.iaload, 1) := by decide +kernel
theorem dX3_isSettled_190 : decode cX3_isSettled 190 = .ok (.iconst 1, 1) := by decide +kernel
theorem dX3_isSettled_191 : decode cX3_isSettled 191 = .ok (.iadd, 1) := by decide +kernel
theorem dX3_isSettled_192 : decode cX3_isSettled 192 = .ok (.iastore, 1) := by decide +kernel
theorem dX3_isSettled_193 : decode cX3_isSettled 193 = .ok (.aload_n 0, 1) := by decide +kernel
theorem dX3_isSettled_194 : decode cX3_isSettled 194 = .ok (.getfield 7, 3) := by decide +kernel
theorem dX3_isSettled_197 : decode cX3_isSettled 197 = .ok (.bipush 17, 2) := by decide +kernel
theorem dX3_isSettled_199 : decode cX3_isSettled 199 = .ok (.iload_n 1, 1) := by decide +kernel
theorem dX3_isSettled_200 : decode cX3_isSettled 200 = .ok (.iadd, 1) := by decide +kernel
theorem dX3_isSettled_201 : decode cX3_isSettled 201 = .ok (.bipush (-6), 2) := by decide +kernel
theorem dX3_isSettled_203 : decode cX3_isSettled 203 = .ok (.iastore, 1) := by decide +kernel
theorem dX3_isSettled_204 : decode cX3_isSettled 204 = .ok (.aload_n 0, 1) := by decide +kernel
theorem dX3_isSettled_205 : decode cX3_isSettled 205 = .ok (.getfield 7, 3) := by decide +kernel
theorem dX3_isSettled_208 : decode cX3_isSettled 208 = .ok (.sipush 305, 3) := by decide +kernel
theorem dX3_isSettled_211 : decode cX3_isSettled 211 = .ok (.dup2, 1) := by decide +kernel
theorem dX3_isSettled_212 : decode cX3_isSettled 212 = .ok (.iaload, 1) := by decide +kernel
theorem dX3_isSettled_213 : decode cX3_isSettled 213 = .ok (.iconst 1, 1) := by decide +kernel
theorem dX3_isSettled_214 : decode cX3_isSettled 214 = .ok (.iadd, 1) := by decide +kernel
theorem dX3_isSettled_215 : decode cX3_isSettled 215 = .ok (.iastore, 1) := by decide +kernel
theorem dX3_isSettled_216 : decode cX3_isSettled 216 = .ok (.iload_n 2, 1) := by decide +kernel
theorem dX3_isSettled_217 : decode cX3_isSettled 217 = .ok (.ireturn, 1) := by decide +kernel
set_option maxRecDepth 20000 in
theorem ggX3_settleAll_X3_isSettled : GoodIn wsX3_settleAll wsX3_isSettled := goodIn_r _ [6, 1, 7, 8, 9, 5, 10, 11, 12, 13, 14, 15, 16, 17, 18, 19, 20, 21, 22, 23, 24, 25, 26] (by decide +kernel) (by decide +kernel)
set_option maxRecDepth 20000 in
theorem gX3_settleAll_X3_isSettled : GoodIn wsX3_settleAll (wsV RX3 50 RX3 yX3_isSettled wsX3_isSettled) := goodIn_app (goodIn_of _ (by decide +kernel)) ggX3_settleAll_X3_isSettled
theorem dX3_settleAll_0 : decode cX3_settleAll 0 = .ok (.iconst 0, 1) := by decide +kernel
theorem dX3_settleAll_1 : decode cX3_settleAll 1 = .ok (.istore_n 1, 1) := by decide +kernel
theorem dX3_settleAll_2 : decode cX3_settleAll 2 = .ok (.aload_n 0, 1) := by decide +kernel
theorem dX3_settleAll_3 : decode cX3_settleAll 3 = .ok (.getfield 7, 3) := by decide +kernel
theorem dX3_settleAll_6 : decode cX3_settleAll 6 = .ok (.bipush 41, 2) := by decide +kernel
theorem dX3_settleAll_8 : decode cX3_settleAll 8 = .ok (.iaload, 1) := by decide +kernel
theorem dX3_settleAll_9 : decode cX3_settleAll 9 = .ok (.istore_n 2, 1) := by decide +kernel
theorem dX3_settleAll_10 : decode cX3_settleAll 10 = .ok (.iconst 0, 1) := by decide +kernel
theorem dX3_settleAll_11 : decode cX3_settleAll 11 = .ok (.istore_n 3, 1) := by decide +kernel
theorem dX3_settleAll_12 : decode cX3_settleAll 12 = .ok (.iload_n 3, 1) := by decide +kernel
theorem dX3_settleAll_13 : decode cX3_settleAll 13 = .ok (.iload_n 2, 1) := by decide +kernel
theorem dX3_settleAll_14 : decode cX3_settleAll 14 = .ok (.if_icmp .ge 43, 3) := by decide +kernel
theorem dX3_settleAll_17 : decode cX3_settleAll 17 = .ok (.aload_n 0, 1) := by decide +kernel
theorem dX3_settleAll_18 : decode cX3_settleAll 18 = .ok (.getfield 7, 3) := by decide +kernel
theorem dX3_settleAll_21 : decode cX3_settleAll 21 = .ok (.bipush 29, 2) := by decide +kernel
theorem dX3_settleAll_23 : decode cX3_settleAll 23 = .ok (.iload_n 3, 1) := by decide +kernel
theorem dX3_settleAll_24 : decode cX3_settleAll 24 = .ok (.iadd, 1) := by decide +kernel
theorem dX3_settleAll_25 : decode cX3_settleAll 25 = .ok (.iaload, 1) := by decide +kernel
theorem dX3_settleAll_26 : decode cX3_settleAll 26 = .ok (.istore 4, 2) := by decide +kernel
theorem dX3_settleAll_28 : decode cX3_settleAll 28 = .ok (.aload_n 0, 1) := by decide +kernel
theorem dX3_settleAll_29 : decode cX3_settleAll 29 = .ok (.iload 4, 2) := by decide +kernel
theorem dX3_settleAll_31 : decode cX3_settleAll 31 = .ok (.invokevirtual 50, 3) := by decide +kernel
theorem dX3_settleAll_34 : decode cX3_settleAll 34 = .ok (.ifCond .ne 17, 3) := by decide +kernel
theorem dX3_settleAll_37 : decode cX3_settleAll 37 = .ok (.aload_n 0, 1) := by decide +kernel
theorem dX3_settleAll_38 : decode cX3_settleAll 38 = .ok (.getfield 7, 3) := by decide +kernel
theorem dX3_settleAll_41 : decode cX3_settleAll 41 = .ok (.bipush 29, 2) := by decide +kernel
theorem dX3_settleAll_43 : decode cX3_settleAll 43 = .ok (.iload_n 1, 1) := by decide +kernel
theorem dX3_settleAll_44 : decode cX3_settleAll 44 = .ok (.iadd, 1) := by decide +kernel
theorem dX3_settleAll_45 : decode cX3_settleAll 45 = .ok (.iload 4, 2) := by decide +kernel
theorem dX3_settleAll_47 : decode cX3_settleAll 47 = .ok (.iastore, 1) := by decide +kernel
theorem dX3_settleAll_48 : decode cX3_settleAll 48 = .ok (.iinc 1 1, 3) := by decide +kernel
theorem dX3_settleAll_51 : decode cX3_settleAll 51 = .ok (.iinc 3 1, 3) := by decide +kernel
theorem dX3_settleAll_54 : decode cX3_settleAll 54 = .ok (.goto (-42), 3) := by decide +kernel
theorem dX3_settleAll_57 : decode cX3_settleAll 57 = .ok (.aload_n 0, 1) := by decide +kernel
theorem dX3_settleAll_58 : decode cX3_settleAll 58 = .ok (.getfield 7, 3) := by decide +kernel
theorem dX3_settleAll_61 : decode cX3_settleAll 61 = .ok (.bipush 41, 2) := by decide +kernel
theorem dX3_settleAll_63 : decode cX3_settleAll 63 = .ok (.iload_n 1, 1) := by decide +kernel
theorem dX3_settleAll_64 : decode cX3_settleAll 64 = .ok (.iastore, 1) := by decide +kernel
theorem dX3_settleAll_65 : decode cX3_settleAll 65 = .ok (.iload_n 2, 1) := by decide +kernel
theorem dX3_settleAll_66 : decode cX3_settleAll 66 = .ok (.iload_n 1, 1) := by decide +kernel
theorem dX3_settleAll_67 : decode cX3_settleAll 67 = .ok (.isub, 1) := by decide +kernel
theorem dX3_settleAll_68 : decode cX3_settleAll 68 = .ok (.ireturn, 1) := by decide +kernel
set_option maxRecDepth 20000 in
theorem ggX3_there_X3_isReader : GoodIn wsX3_there wsX3_isReader := goodIn_r _ [5, 6, 7, 4, 8] (by decide +kernel) (by decide +kernel)
set_option maxRecDepth 20000 in
theorem gX3_there_X3_isReader : GoodIn wsX3_there (va_wsS RX3 28 yX3_isReader wsX3_isReader) := goodIn_app (goodIn_of _ (by decide +kernel)) ggX3_there_X3_isReader
set_option maxRecDepth 20000 in
theorem ggX3_there_X3_in : GoodIn wsX3_there wsX3_in := goodIn_r _ [8] (by decide +kernel) (by decide +kernel)
set_option maxRecDepth 20000 in
theorem gX3_there_X3_in : GoodIn wsX3_there (va_wsS RX3 24 yX3_in wsX3_in) := goodIn_app (goodIn_of _ (by decide +kernel)) ggX3_there_X3_in
set_option maxRecDepth 20000 in
theorem ggX3_there_X3_settleAll : GoodIn wsX3_there wsX3_settleAll := goodIn_r _ [12, 1, 13, 14, 15, 4, 16, 17, 18, 19, 20, 21, 22, 23, 24, 25, 26, 27, 28, 29, 30, 31, 32, 33, 34, 35, 36] (by decide +kernel) (by decide +kernel)
set_option maxRecDepth 20000 in
theorem gX3_there_X3_settleAll : GoodIn wsX3_there (wsV RX3 53 RX3 yX3_settleAll wsX3_settleAll) := goodIn_app (goodIn_of _ (by decide +kernel)) ggX3_there_X3_settleAll
theorem dX3_there_0 : decode cX3_there 0 = .ok (.iload_n 1, 1) := by decide +kernel
theorem dX3_there_1 : decode cX3_there 1 = .ok (.invokestatic 28, 3) := by decide +kernel
theorem dX3_there_4 : decode cX3_there 4 = .ok (.ifCond .ne 5, 3) := by decide +kernel
theorem dX3_there_7 : decode cX3_there 7 = .ok (.iconst (-1), 1) := by decide +kernel
theorem dX3_there_8 : decode cX3_there 8 = .ok (.ireturn, 1) := by decide +kernel
theorem dX3_there_9 : decode cX3_there 9 = .ok (.iload_n 2, 1) := by decide +kernel
theorem dX3_there_10 : decode cX3_there 10 = .ok (.iconst 0, 1) := by decide +kernel
theorem dX3_there_11 : decode cX3_there 11 = .ok (.iconst 1, 1) := by decide +kernel
theorem dX3_there_12 : decode cX3_there 12 = .ok (.invokestatic 24, 3) := by decide +kernel
theorem dX3_there_15 : decode cX3_there 15 = .ok (.ifCond .ne 6, 3) := by decide +kernel
theorem dX3_there_18 : decode cX3_there 18 = .ok (.bipush (-2), 2) := by decide +kernel
theorem dX3_there_20 : decode cX3_there 20 = .ok (.ireturn, 1) := by decide +kernel
theorem dX3_there_21 : decode cX3_there 21 = .ok (.iload_n 2, 1) := by decide +kernel
theorem dX3_there_22 : decode cX3_there 22 = .ok (.iconst 1, 1) := by decide +kernel
theorem dX3_there_23 : decode cX3_there 23 = .ok (.if_icmp .ne 19, 3) := by decide +kernel
theorem dX3_there_26 : decode cX3_there 26 = .ok (.aload_n 0, 1) := by decide +kernel
theorem dX3_there_27 : decode cX3_there 27 = .ok (.getfield 7, 3) := by decide +kernel
theorem dX3_there_30 : decode cX3_there 30 = .ok (.bipush 42, 2) := by decide +kernel
theorem dX3_there_32 : decode cX3_there 32 = .ok (.iload_n 1, 1) := by decide +kernel
theorem dX3_there_33 : decode cX3_there 33 = .ok (.iadd, 1) := by decide +kernel
theorem dX3_there_34 : decode cX3_there 34 = .ok (.iaload, 1) := by decide +kernel
theorem dX3_there_35 : decode cX3_there 35 = .ok (.ifCond .ne 7, 3) := by decide +kernel
theorem dX3_there_38 : decode cX3_there 38 = .ok (.iconst 1, 1) := by decide +kernel
theorem dX3_there_39 : decode cX3_there 39 = .ok (.goto 4, 3) := by decide +kernel
theorem dX3_there_42 : decode cX3_there 42 = .ok (.iconst 0, 1) := by decide +kernel
theorem dX3_there_43 : decode cX3_there 43 = .ok (.istore_n 3, 1) := by decide +kernel
theorem dX3_there_44 : decode cX3_there 44 = .ok (.aload_n 0, 1) := by decide +kernel
theorem dX3_there_45 : decode cX3_there 45 = .ok (.getfield 7, 3) := by decide +kernel
theorem dX3_there_48 : decode cX3_there 48 = .ok (.bipush 42, 2) := by decide +kernel
theorem dX3_there_50 : decode cX3_there 50 = .ok (.iload_n 1, 1) := by decide +kernel
theorem dX3_there_51 : decode cX3_there 51 = .ok (.iadd, 1) := by decide +kernel
theorem dX3_there_52 : decode cX3_there 52 = .ok (.iload_n 2, 1) := by decide +kernel
theorem dX3_there_53 : decode cX3_there 53 = .ok (.iastore, 1) := by decide +kernel
theorem dX3_there_54 : decode cX3_there 54 = .ok (.iload_n 3, 1) := by decide +kernel
theorem dX3_there_55 : decode cX3_there 55 = .ok (.ifCond .eq 10, 3) := by decide +kernel
theorem dX3_there_58 : decode cX3_there 58 = .ok (.aload_n 0, 1) := by decide +kernel
theorem dX3_there_59 : decode cX3_there 59 = .ok (.invokevirtual 53, 3) := by decide +kernel
theorem dX3_there_62 : decode cX3_there 62 = .ok (.goto 4, 3) := by decide +kernel
theorem dX3_there_65 : decode cX3_there 65 = .ok (.iconst 0, 1) := by decide +kernel
theorem dX3_there_66 : decode cX3_there 66 = .ok (.ireturn, 1) := by decide +kernel
set_option maxRecDepth 20000 in
theorem ggX3_dueOf_X3_thingAt : GoodIn wsX3_dueOf wsX3_thingAt := goodIn_r _ [5] (by decide +kernel) (by decide +kernel)
set_option maxRecDepth 20000 in
theorem gX3_dueOf_X3_thingAt : GoodIn wsX3_dueOf (va_wsS RX3 32 yX3_thingAt wsX3_thingAt) := goodIn_app (goodIn_of _ (by decide +kernel)) ggX3_dueOf_X3_thingAt
set_option maxRecDepth 20000 in
theorem ggX3_dueOf_X3_volumeAt : GoodIn wsX3_dueOf wsX3_volumeAt := goodIn_r _ [8] (by decide +kernel) (by decide +kernel)
set_option maxRecDepth 20000 in
theorem gX3_dueOf_X3_volumeAt : GoodIn wsX3_dueOf (va_wsS RX3 40 yX3_volumeAt wsX3_volumeAt) := goodIn_app (goodIn_of _ (by decide +kernel)) ggX3_dueOf_X3_volumeAt
theorem dX3_dueOf_0 : decode cX3_dueOf 0 = .ok (.aload_n 0, 1) := by decide +kernel
theorem dX3_dueOf_1 : decode cX3_dueOf 1 = .ok (.getfield 7, 3) := by decide +kernel
theorem dX3_dueOf_4 : decode cX3_dueOf 4 = .ok (.iconst 0, 1) := by decide +kernel
theorem dX3_dueOf_5 : decode cX3_dueOf 5 = .ok (.iaload, 1) := by decide +kernel
theorem dX3_dueOf_6 : decode cX3_dueOf 6 = .ok (.istore_n 2, 1) := by decide +kernel
theorem dX3_dueOf_7 : decode cX3_dueOf 7 = .ok (.iconst 1, 1) := by decide +kernel
theorem dX3_dueOf_8 : decode cX3_dueOf 8 = .ok (.istore_n 3, 1) := by decide +kernel
theorem dX3_dueOf_9 : decode cX3_dueOf 9 = .ok (.iload_n 3, 1) := by decide +kernel
theorem dX3_dueOf_10 : decode cX3_dueOf 10 = .ok (.ifCond .eq 110, 3) := by decide +kernel
theorem dX3_dueOf_13 : decode cX3_dueOf 13 = .ok (.iinc 2 1, 3) := by decide +kernel
theorem dX3_dueOf_16 : decode cX3_dueOf 16 = .ok (.iconst 0, 1) := by decide +kernel
theorem dX3_dueOf_17 : decode cX3_dueOf 17 = .ok (.istore_n 3, 1) := by decide +kernel
theorem dX3_dueOf_18 : decode cX3_dueOf 18 = .ok (.iconst 0, 1) := by decide +kernel
theorem dX3_dueOf_19 : decode cX3_dueOf 19 = .ok (.istore 4, 2) := by decide +kernel
theorem dX3_dueOf_21 : decode cX3_dueOf 21 = .ok (.iload 4, 2) := by decide +kernel
theorem dX3_dueOf_23 : decode cX3_dueOf 23 = .ok (.iconst 5, 1) := by decide +kernel
theorem dX3_dueOf_24 : decode cX3_dueOf 24 = .ok (.if_icmp .ge 93, 3) := by decide +kernel
theorem dX3_dueOf_27 : decode cX3_dueOf 27 = .ok (.aload_n 0, 1) := by decide +kernel
theorem dX3_dueOf_28 : decode cX3_dueOf 28 = .ok (.getfield 7, 3) := by decide +kernel
theorem dX3_dueOf_31 : decode cX3_dueOf 31 = .ok (.bipush 17, 2) := by decide +kernel
theorem dX3_dueOf_33 : decode cX3_dueOf 33 = .ok (.iload_n 1, 1) := by decide +kernel
theorem dX3_dueOf_34 : decode cX3_dueOf 34 = .ok (.iadd, 1) := by decide +kernel
theorem dX3_dueOf_35 : decode cX3_dueOf 35 = .ok (.iaload, 1) := by decide +kernel
theorem dX3_dueOf_36 : decode cX3_dueOf 36 = .ok (.iconst 1, 1) := by decide +kernel
theorem dX3_dueOf_37 : decode cX3_dueOf 37 = .ok (.if_icmp .ne 21, 3) := by decide +kernel
theorem dX3_dueOf_40 : decode cX3_dueOf 40 = .ok (.aload_n 0, 1) := by decide +kernel
theorem dX3_dueOf_41 : decode cX3_dueOf 41 = .ok (.getfield 7, 3) := by decide +kernel
theorem dX3_dueOf_44 : decode cX3_dueOf 44 = .ok (.bipush 42, 2) := by decide +kernel
theorem dX3_dueOf_46 : decode cX3_dueOf 46 = .ok (.iload 4, 2) := by decide +kernel
theorem dX3_dueOf_48 : decode cX3_dueOf 48 = .ok (.iadd, 1) := by decide +kernel
theorem dX3_dueOf_49 : decode cX3_dueOf 49 = .ok (.iaload, 1) := by decide +kernel
theorem dX3_dueOf_50 : decode cX3_dueOf 50 = .ok (.iconst 1, 1) := by decide +kernel
theorem dX3_dueOf_51 : decode cX3_dueOf 51 = .ok (.if_icmp .ne 7, 3) := by decide +kernel
theorem dX3_dueOf_54 : decode cX3_dueOf 54 = .ok (.iconst 1, 1) := by decide +kernel
theorem dX3_dueOf_55 : decode cX3_dueOf 55 = .ok (.goto 4, 3) := by decide +kernel
theorem dX3_dueOf_58 : decode cX3_dueOf 58 = .ok (.iconst 0, 1) := by decide +kernel
theorem dX3_dueOf_59 : decode cX3_dueOf 59 = .ok (.istore 5, 2) := by decide +kernel
theorem dX3_dueOf_61 : decode cX3_dueOf 61 = .ok (.iload_n 3, 1) := by decide +kernel
theorem dX3_dueOf_62 : decode cX3_dueOf 62 = .ok (.ifCond .ne 43, 3) := by decide +kernel
theorem dX3_dueOf_65 : decode cX3_dueOf 65 = .ok (.aload_n 0, 1) := by decide +kernel
theorem dX3_dueOf_66 : decode cX3_dueOf 66 = .ok (.getfield 7, 3) := by decide +kernel
theorem dX3_dueOf_69 : decode cX3_dueOf 69 = .ok (.sipush 202, 3) := by decide +kernel
theorem dX3_dueOf_72 : decode cX3_dueOf 72 = .ok (.iload 4, 2) := by decide +kernel
theorem dX3_dueOf_74 : decode cX3_dueOf 74 = .ok (.iload_n 1, 1) := by decide +kernel
theorem dX3_dueOf_75 : decode cX3_dueOf 75 = .ok (.invokestatic 32, 3) := by decide +kernel
theorem dX3_dueOf_78 : decode cX3_dueOf 78 = .ok (.iaload, 1) := by decide +kernel
theorem dX3_dueOf_79 : decode cX3_dueOf 79 = .ok (.iload_n 2, 1) := by decide +kernel
theorem dX3_dueOf_80 : decode cX3_dueOf 80 = .ok (.if_icmp .le 29, 3) := by decide +kernel
theorem dX3_dueOf_83 : decode cX3_dueOf 83 = .ok (.aload_n 0, 1) := by decide +kernel
theorem dX3_dueOf_84 : decode cX3_dueOf 84 = .ok (.getfield 7, 3) := by decide +kernel
theorem dX3_dueOf_87 : decode cX3_dueOf 87 = .ok (.bipush 52, 2) := by decide +kernel
theorem dX3_dueOf_89 : decode cX3_dueOf 89 = .ok (.iload 4, 2) := by decide +kernel
theorem dX3_dueOf_91 : decode cX3_dueOf 91 = .ok (.iload_n 1, 1) := by decide +kernel
theorem dX3_dueOf_92 : decode cX3_dueOf 92 = .ok (.invokestatic 40, 3) := by decide +kernel
theorem dX3_dueOf_95 : decode cX3_dueOf 95 = .ok (.iaload, 1) := by decide +kernel
theorem dX3_dueOf_96 : decode cX3_dueOf 96 = .ok (.iload_n 2, 1) := by decide +kernel
theorem dX3_dueOf_97 : decode cX3_dueOf 97 = .ok (.if_icmp .le 12, 3) := by decide +kernel
theorem dX3_dueOf_100 : decode cX3_dueOf 100 = .ok (.iload 5, 2) := by decide +kernel
theorem dX3_dueOf_102 : decode cX3_dueOf 102 = .ok (.ifCond .ne 7, 3) := by decide +kernel
theorem dX3_dueOf_105 : decode cX3_dueOf 105 = .ok (.iconst 1, 1) := by decide +kernel
theorem dX3_dueOf_106 : decode cX3_dueOf 106 = .ok (.goto 4, 3) := by decide +kernel
theorem dX3_dueOf_109 : decode cX3_dueOf 109 = .ok (.iconst 0, 1) := by decide +kernel
theorem dX3_dueOf_110 : decode cX3_dueOf 110 = .ok (.istore_n 3, 1) := by decide +kernel
theorem dX3_dueOf_111 : decode cX3_dueOf 111 = .ok (.iinc 4 1, 3) := by decide +kernel
theorem dX3_dueOf_114 : decode cX3_dueOf 114 = .ok (.goto (-93), 3) := by decide +kernel
theorem dX3_dueOf_117 : decode cX3_dueOf 117 = .ok (.goto (-108), 3) := by decide +kernel
theorem dX3_dueOf_120 : decode cX3_dueOf 120 = .ok (.iload_n 2, 1) := by decide +kernel
theorem dX3_dueOf_121 : decode cX3_dueOf 121 = .ok (.ireturn, 1) := by decide +kernel
set_option maxRecDepth 20000 in
theorem ggX3_lesser_X3_thingAt : GoodIn wsX3_lesser wsX3_thingAt := goodIn_r _ [5] (by decide +kernel) (by decide +kernel)
set_option maxRecDepth 20000 in
theorem gX3_lesser_X3_thingAt : GoodIn wsX3_lesser (va_wsS RX3 32 yX3_thingAt wsX3_thingAt) := goodIn_app (goodIn_of _ (by decide +kernel)) ggX3_lesser_X3_thingAt
set_option maxRecDepth 20000 in
theorem ggX3_lesser_X3_volumeAt : GoodIn wsX3_lesser wsX3_volumeAt := goodIn_r _ [8] (by decide +kernel) (by decide +kernel)
set_option maxRecDepth 20000 in
theorem gX3_lesser_X3_volumeAt : GoodIn wsX3_lesser (va_wsS RX3 40 yX3_volumeAt wsX3_volumeAt) := goodIn_app (goodIn_of _ (by decide +kernel)) ggX3_lesser_X3_volumeAt
theorem dX3_lesser_0 : decode cX3_lesser 0 = .ok (.aload_n 0, 1) := by decide +kernel
theorem dX3_lesser_1 : decode cX3_lesser 1 = .ok (.getfield 7, 3) := by decide +kernel
theorem dX3_lesser_4 : decode cX3_lesser 4 = .ok (.sipush 202, 3) := by decide +kernel
theorem dX3_lesser_7 : decode cX3_lesser 7 = .ok (.iload_n 1, 1) := by decide +kernel
theorem dX3_lesser_8 : decode cX3_lesser 8 = .ok (.iload_n 2, 1) := by decide +kernel
theorem dX3_lesser_9 : decode cX3_lesser 9 = .ok (.invokestatic 32, 3) := by decide +kernel
theorem dX3_lesser_12 : decode cX3_lesser 12 = .ok (.iaload, 1) := by decide +kernel
theorem dX3_lesser_13 : decode cX3_lesser 13 = .ok (.istore_n 3, 1) := by decide +kernel
theorem dX3_lesser_14 : decode cX3_lesser 14 = .ok (.aload_n 0, 1) := by decide +kernel
theorem dX3_lesser_15 : decode cX3_lesser 15 = .ok (.getfield 7, 3) := by decide +kernel
theorem dX3_lesser_18 : decode cX3_lesser 18 = .ok (.bipush 52, 2) := by decide +kernel
theorem dX3_lesser_20 : decode cX3_lesser 20 = .ok (.iload_n 1, 1) := by decide +kernel
theorem dX3_lesser_21 : decode cX3_lesser 21 = .ok (.iload_n 2, 1) := by decide +kernel
theorem dX3_lesser_22 : decode cX3_lesser 22 = .ok (.invokestatic 40, 3) := by decide +kernel
theorem dX3_lesser_25 : decode cX3_lesser 25 = .ok (.iaload, 1) := by decide +kernel
theorem dX3_lesser_26 : decode cX3_lesser 26 = .ok (.istore 4, 2) := by decide +kernel
theorem dX3_lesser_28 : decode cX3_lesser 28 = .ok (.iload_n 3, 1) := by decide +kernel
theorem dX3_lesser_29 : decode cX3_lesser 29 = .ok (.iload 4, 2) := by decide +kernel
theorem dX3_lesser_31 : decode cX3_lesser 31 = .ok (.if_icmp .ge 7, 3) := by decide +kernel
theorem dX3_lesser_34 : decode cX3_lesser 34 = .ok (.iload_n 3, 1) := by decide +kernel
theorem dX3_lesser_35 : decode cX3_lesser 35 = .ok (.goto 5, 3) := by decide +kernel
theorem dX3_lesser_38 : decode cX3_lesser 38 = .ok (.iload 4, 2) := by decide +kernel
theorem dX3_lesser_40 : decode cX3_lesser 40 = .ok (.ireturn, 1) := by decide +kernel
set_option maxRecDepth 20000 in
theorem ggX3_layWaited_X3_isHolder : GoodIn wsX3_layWaited wsX3_isHolder := goodIn_r _ [6, 1, 7, 8, 5, 9, 17, 18, 19] (by decide +kernel) (by decide +kernel)
set_option maxRecDepth 20000 in
theorem gX3_layWaited_X3_isHolder : GoodIn wsX3_layWaited (wsV RX3 43 RX3 yX3_isHolder wsX3_isHolder) := goodIn_app (goodIn_of _ (by decide +kernel)) ggX3_layWaited_X3_isHolder
set_option maxRecDepth 20000 in
theorem ggX3_layWaited_X3_lesser : GoodIn wsX3_layWaited wsX3_lesser := goodIn_r _ [13, 1, 7, 8, 5, 9, 14, 15, 16, 17, 18, 19] (by decide +kernel) (by decide +kernel)
set_option maxRecDepth 20000 in
theorem gX3_layWaited_X3_lesser : GoodIn wsX3_layWaited (wsV RX3 57 RX3 yX3_lesser wsX3_lesser) := goodIn_app (goodIn_of _ (by decide +kernel)) ggX3_layWaited_X3_lesser
theorem dX3_layWaited_0 : decode cX3_layWaited 0 = .ok (.aload_n 0, 1) := by decide +kernel
theorem dX3_layWaited_1 : decode cX3_layWaited 1 = .ok (.getfield 7, 3) := by decide +kernel
theorem dX3_layWaited_4 : decode cX3_layWaited 4 = .ok (.sipush 302, 3) := by decide +kernel
theorem dX3_layWaited_7 : decode cX3_layWaited 7 = .ok (.iconst 0, 1) := by decide +kernel
theorem dX3_layWaited_8 : decode cX3_layWaited 8 = .ok (.iastore, 1) := by decide +kernel
theorem dX3_layWaited_9 : decode cX3_layWaited 9 = .ok (.iconst 0, 1) := by decide +kernel
theorem dX3_layWaited_10 : decode cX3_layWaited 10 = .ok (.istore_n 2, 1) := by decide +kernel
theorem dX3_layWaited_11 : decode cX3_layWaited 11 = .ok (.iload_n 2, 1) := by decide +kernel
theorem dX3_layWaited_12 : decode cX3_layWaited 12 = .ok (.iconst 5, 1) := by decide +kernel
theorem dX3_layWaited_13 : decode cX3_layWaited 13 = .ok (.if_icmp .ge 99, 3) := by decide +kernel
theorem dX3_layWaited_16 : decode cX3_layWaited 16 = .ok (.aload_n 0, 1) := by decide +kernel
theorem dX3_layWaited_17 : decode cX3_layWaited 17 = .ok (.iload_n 2, 1) := by decide +kernel
theorem dX3_layWaited_18 : decode cX3_layWaited 18 = .ok (.iload_n 1, 1) := by decide +kernel
theorem dX3_layWaited_19 : decode cX3_layWaited 19 = .ok (.invokevirtual 43, 3) := by decide +kernel
theorem dX3_layWaited_22 : decode cX3_layWaited 22 = .ok (.ifCond .eq 84, 3) := by decide +kernel
theorem dX3_layWaited_25 : decode cX3_layWaited 25 = .ok (.sipush 297, 3) := by decide +kernel
theorem dX3_layWaited_28 : decode cX3_layWaited 28 = .ok (.aload_n 0, 1) := by decide +kernel
theorem dX3_layWaited_29 : decode cX3_layWaited 29 = .ok (.getfield 7, 3) := by decide +kernel
theorem dX3_layWaited_32 : decode cX3_layWaited 32 = .ok (.sipush 302, 3) := by decide +kernel
theorem dX3_layWaited_35 : decode cX3_layWaited 35 = .ok (.iaload, 1) := by decide +kernel
theorem dX3_layWaited_36 : decode cX3_layWaited 36 = .ok (.iadd, 1) := by decide +kernel
theorem dX3_layWaited_37 : decode cX3_layWaited 37 = .ok (.istore_n 3, 1) := by decide +kernel
theorem dX3_layWaited_38 : decode cX3_layWaited 38 = .ok (.iload_n 3, 1) := by decide +kernel
theorem dX3_layWaited_39 : decode cX3_layWaited 39 = .ok (.sipush 297, 3) := by decide +kernel
theorem dX3_layWaited_42 : decode cX3_layWaited 42 = .ok (.if_icmp .le 45, 3) := by decide +kernel
theorem dX3_layWaited_45 : decode cX3_layWaited 45 = .ok (.aload_n 0, 1) := by decide +kernel
theorem dX3_layWaited_46 : decode cX3_layWaited 46 = .ok (.aload_n 0, 1) := by decide +kernel
theorem dX3_layWaited_47 : decode cX3_layWaited 47 = .ok (.getfield 7, 3) := by decide +kernel
theorem dX3_layWaited_50 : decode cX3_layWaited 50 = .ok (.iload_n 3, 1) := by decide +kernel
theorem dX3_layWaited_51 : decode cX3_layWaited 51 = .ok (.iconst 1, 1) := by decide +kernel
theorem dX3_layWaited_52 : decode cX3_layWaited 52 = .ok (.isub, 1) := by decide +kernel
theorem dX3_layWaited_53 : decode cX3_layWaited 53 = .ok (.iaload, 1) := by decide +kernel
theorem dX3_layWaited_54 : decode cX3_layWaited 54 = .ok (.iload_n 1, 1) := by decide +kernel
theorem dX3_layWaited_55 : decode cX3_layWaited 55 = .ok (.invokevirtual 57, 3) := by decide +kernel
theorem dX3_layWaited_58 : decode cX3_layWaited 58 = .ok (.aload_n 0, 1) := by decide +kernel
theorem dX3_layWaited_59 : decode cX3_layWaited 59 = .ok (.iload_n 2, 1) := by decide +kernel
theorem dX3_layWaited_60 : decode cX3_layWaited 60 = .ok (.iload_n 1, 1) := by decide +kernel
theorem dX3_layWaited_61 : decode cX3_layWaited 61 = .ok (.invokevirtual 57, 3) := by decide +kernel
theorem dX3_layWaited_64 : decode cX3_layWaited 64 = .ok (.if_icmp .ge 23, 3) := by decide +kernel
theorem dX3_layWaited_67 : decode cX3_layWaited 67 = .ok (.aload_n 0, 1) := by decide +kernel
theorem dX3_layWaited_68 : decode cX3_layWaited 68 = .ok (.getfield 7, 3) := by decide +kernel
theorem dX3_layWaited_71 : decode cX3_layWaited 71 = .ok (.iload_n 3, 1) := by decide +kernel
theorem dX3_layWaited_72 : decode cX3_layWaited 72 = .ok (.aload_n 0, 1) := by decide +kernel
theorem dX3_layWaited_73 : decode cX3_layWaited 73 = .ok (.getfield 7, 3) := by decide +kernel
theorem dX3_layWaited_76 : decode cX3_layWaited 76 = .ok (.iload_n 3, 1) := by decide +kernel
theorem dX3_layWaited_77 : decode cX3_layWaited 77 = .ok (.iconst 1, 1) := by decide +kernel
theorem dX3_layWaited_78 : decode cX3_layWaited 78 = .ok (.isub, 1) := by decide +kernel
theorem dX3_layWaited_79 : decode cX3_layWaited 79 = .ok (.iaload, 1) := by decide +kernel
theorem dX3_layWaited_80 : decode cX3_layWaited 80 = .ok (.iastore, 1) := by decide +kernel
theorem dX3_layWaited_81 : decode cX3_layWaited 81 = .ok (.iinc 3 (-1), 3) := by decide +kernel
theorem dX3_layWaited_84 : decode cX3_layWaited 84 = .ok (.goto (-46), 3) := by decide +kernel
theorem dX3_layWaited_87 : decode cX3_layWaited 87 = .ok (.aload_n 0, 1) := by decide +kernel
theorem dX3_layWaited_88 : decode cX3_layWaited 88 = .ok (.getfield 7, 3) := by decide +kernel
theorem dX3_layWaited_91 : decode cX3_layWaited 91 = .ok (.iload_n 3, 1) := by decide +kernel
theorem dX3_layWaited_92 : decode cX3_layWaited 92 = .ok (.iload_n 2, 1) := by decide +kernel
theorem dX3_layWaited_93 : decode cX3_layWaited 93 = .ok (.iastore, 1) := by decide +kernel
theorem dX3_layWaited_94 : decode cX3_layWaited 94 = .ok (.aload_n 0, 1) := by decide +kernel
theorem dX3_layWaited_95 : decode cX3_layWaited 95 = .ok (.getfield 7, 3) := by decide +kernel
theorem dX3_layWaited_98 : decode cX3_layWaited 98 = .ok (.sipush 302, 3) := by decide +kernel
theorem dX3_layWaited_101 : decode cX3_layWaited 101 = .ok (.dup2, 1) := by decide +kernel
theorem dX3_layWaited_102 : decode cX3_layWaited 102 = .ok (.iaload, 1) := by decide +kernel
theorem dX3_layWaited_103 : decode cX3_layWaited 103 = .ok (.iconst 1, 1) := by decide +kernel
theorem dX3_layWaited_104 : decode cX3_layWaited 104 = .ok (.iadd, 1) := by decide +kernel
theorem dX3_layWaited_105 : decode cX3_layWaited 105 = .ok (.iastore, 1) := by decide +kernel
theorem dX3_layWaited_106 : decode cX3_layWaited 106 = .ok (.iinc 2 1, 3) := by decide +kernel
theorem dX3_layWaited_109 : decode cX3_layWaited 109 = .ok (.goto (-98), 3) := by decide +kernel
theorem dX3_layWaited_112 : decode cX3_layWaited 112 = .ok (.return_, 1) := by decide +kernel
set_option maxRecDepth 20000 in
theorem ggX3_write_X3_isThing : GoodIn wsX3_write wsX3_isThing := goodIn_r _ [5, 6, 7, 4, 8] (by decide +kernel) (by decide +kernel)
set_option maxRecDepth 20000 in
theorem gX3_write_X3_isThing : GoodIn wsX3_write (va_wsS RX3 60 yX3_isThing wsX3_isThing) := goodIn_app (goodIn_of _ (by decide +kernel)) ggX3_write_X3_isThing
set_option maxRecDepth 20000 in
theorem ggX3_write_X3_in : GoodIn wsX3_write wsX3_in := goodIn_r _ [8] (by decide +kernel) (by decide +kernel)
set_option maxRecDepth 20000 in
theorem gX3_write_X3_in : GoodIn wsX3_write (va_wsS RX3 24 yX3_in wsX3_in) := goodIn_app (goodIn_of _ (by decide +kernel)) ggX3_write_X3_in
set_option maxRecDepth 20000 in
theorem ggX3_write_X3_isSettled : GoodIn wsX3_write wsX3_isSettled := goodIn_r _ [12, 1, 13, 14, 15, 4, 16, 17, 18, 19, 20, 21, 22, 23, 24, 25, 26, 27, 28, 29, 42, 43, 44] (by decide +kernel) (by decide +kernel)
set_option maxRecDepth 20000 in
theorem gX3_write_X3_isSettled : GoodIn wsX3_write (wsV RX3 50 RX3 yX3_isSettled wsX3_isSettled) := goodIn_app (goodIn_of _ (by decide +kernel)) ggX3_write_X3_isSettled
set_option maxRecDepth 20000 in
theorem ggX3_write_X3_layWaited : GoodIn wsX3_write wsX3_layWaited := goodIn_r _ [33, 1, 13, 14, 15, 4, 16, 17, 18, 19, 34, 35, 36, 37, 20, 21, 22, 42, 43, 44] (by decide +kernel) (by decide +kernel)
set_option maxRecDepth 20000 in
theorem gX3_write_X3_layWaited : GoodIn wsX3_write (wsV RX3 63 RX3 yX3_layWaited wsX3_layWaited) := goodIn_app (goodIn_of _ (by decide +kernel)) ggX3_write_X3_layWaited
set_option maxRecDepth 20000 in
theorem ggX3_write_X3_dueOf : GoodIn wsX3_write wsX3_dueOf := goodIn_r _ [41, 1, 17, 18, 4, 19, 20, 21, 22, 42, 43, 44] (by decide +kernel) (by decide +kernel)
set_option maxRecDepth 20000 in
theorem gX3_write_X3_dueOf : GoodIn wsX3_write (wsV RX3 67 RX3 yX3_dueOf wsX3_dueOf) := goodIn_app (goodIn_of _ (by decide +kernel)) ggX3_write_X3_dueOf
theorem dX3_write_0 : decode cX3_write 0 = .ok (.iload_n 1, 1) := by decide +kernel
theorem dX3_write_1 : decode cX3_write 1 = .ok (.invokestatic 60, 3) := by decide +kernel
theorem dX3_write_4 : decode cX3_write 4 = .ok (.ifCond .ne 5, 3) := by decide +kernel
theorem dX3_write_7 : decode cX3_write 7 = .ok (.iconst (-1), 1) := by decide +kernel
theorem dX3_write_8 : decode cX3_write 8 = .ok (.ireturn, 1) := by decide +kernel
theorem dX3_write_9 : decode cX3_write 9 = .ok (.iload_n 2, 1) := by decide +kernel
theorem dX3_write_10 : decode cX3_write 10 = .ok (.iconst 0, 1) := by decide +kernel
theorem dX3_write_11 : decode cX3_write 11 = .ok (.iconst 1, 1) := by decide +kernel
theorem dX3_write_12 : decode cX3_write 12 = .ok (.invokestatic 24, 3) := by decide +kernel
theorem dX3_write_15 : decode cX3_write 15 = .ok (.ifCond .ne 6, 3) := by decide +kernel
theorem dX3_write_18 : decode cX3_write 18 = .ok (.bipush (-2), 2) := by decide +kernel
theorem dX3_write_20 : decode cX3_write 20 = .ok (.ireturn, 1) := by decide +kernel
theorem dX3_write_21 : decode cX3_write 21 = .ok (.aload_n 0, 1) := by decide +kernel
theorem dX3_write_22 : decode cX3_write 22 = .ok (.getfield 7, 3) := by decide +kernel
theorem dX3_write_25 : decode cX3_write 25 = .ok (.bipush 17, 2) := by decide +kernel
theorem dX3_write_27 : decode cX3_write 27 = .ok (.iload_n 1, 1) := by decide +kernel
theorem dX3_write_28 : decode cX3_write 28 = .ok (.iadd, 1) := by decide +kernel
theorem dX3_write_29 : decode cX3_write 29 = .ok (.iaload, 1) := by decide +kernel
theorem dX3_write_30 : decode cX3_write 30 = .ok (.ifCond .lt 6, 3) := by decide +kernel
theorem dX3_write_33 : decode cX3_write 33 = .ok (.bipush (-5), 2) := by decide +kernel
theorem dX3_write_35 : decode cX3_write 35 = .ok (.ireturn, 1) := by decide +kernel
theorem dX3_write_36 : decode cX3_write 36 = .ok (.aload_n 0, 1) := by decide +kernel
theorem dX3_write_37 : decode cX3_write 37 = .ok (.getfield 7, 3) := by decide +kernel
theorem dX3_write_40 : decode cX3_write 40 = .ok (.sipush 304, 3) := by decide +kernel
theorem dX3_write_43 : decode cX3_write 43 = .ok (.dup2, 1) := by decide +kernel
theorem dX3_write_44 : decode cX3_write 44 = .ok (.iaload, 1) := by decide +kernel
theorem dX3_write_45 : decode cX3_write 45 = .ok (.iconst 1, 1) := by decide +kernel
theorem dX3_write_46 : decode cX3_write 46 = .ok (.iadd, 1) := by decide +kernel
theorem dX3_write_47 : decode cX3_write 47 = .ok (.iastore, 1) := by decide +kernel
theorem dX3_write_48 : decode cX3_write 48 = .ok (.aload_n 0, 1) := by decide +kernel
theorem dX3_write_49 : decode cX3_write 49 = .ok (.getfield 7, 3) := by decide +kernel
theorem dX3_write_52 : decode cX3_write 52 = .ok (.bipush 17, 2) := by decide +kernel
theorem dX3_write_54 : decode cX3_write 54 = .ok (.iload_n 1, 1) := by decide +kernel
theorem dX3_write_55 : decode cX3_write 55 = .ok (.iadd, 1) := by decide +kernel
theorem dX3_write_56 : decode cX3_write 56 = .ok (.iload_n 2, 1) := by decide +kernel
theorem dX3_write_57 : decode cX3_write 57 = .ok (.iastore, 1) := by decide +kernel
theorem dX3_write_58 : decode cX3_write 58 = .ok (.aload_n 0, 1) := by decide +kernel
theorem dX3_write_59 : decode cX3_write 59 = .ok (.iload_n 1, 1) := by decide +kernel
theorem dX3_write_60 : decode cX3_write 60 = .ok (.invokevirtual 50, 3) := by decide +kernel
theorem dX3_write_63 : decode cX3_write 63 = .ok (.istore_n 3, 1) := by decide +kernel
theorem dX3_write_64 : decode cX3_write 64 = .ok (.aload_n 0, 1) := by decide +kernel
theorem dX3_write_65 : decode cX3_write 65 = .ok (.iload_n 1, 1) := by decide +kernel
theorem dX3_write_66 : decode cX3_write 66 = .ok (.invokevirtual 63, 3) := by decide +kernel
theorem dX3_write_69 : decode cX3_write 69 = .ok (.iload_n 3, 1) := by decide +kernel
theorem dX3_write_70 : decode cX3_write 70 = .ok (.ifCond .eq 5, 3) := by decide +kernel
theorem dX3_write_73 : decode cX3_write 73 = .ok (.iconst 0, 1) := by decide +kernel
theorem dX3_write_74 : decode cX3_write 74 = .ok (.ireturn, 1) := by decide +kernel
theorem dX3_write_75 : decode cX3_write 75 = .ok (.aload_n 0, 1) := by decide +kernel
theorem dX3_write_76 : decode cX3_write 76 = .ok (.getfield 7, 3) := by decide +kernel
theorem dX3_write_79 : decode cX3_write 79 = .ok (.bipush 29, 2) := by decide +kernel
theorem dX3_write_81 : decode cX3_write 81 = .ok (.aload_n 0, 1) := by decide +kernel
theorem dX3_write_82 : decode cX3_write 82 = .ok (.getfield 7, 3) := by decide +kernel
theorem dX3_write_85 : decode cX3_write 85 = .ok (.bipush 41, 2) := by decide +kernel
theorem dX3_write_87 : decode cX3_write 87 = .ok (.iaload, 1) := by decide +kernel
theorem dX3_write_88 : decode cX3_write 88 = .ok (.iadd, 1) := by decide +kernel
theorem dX3_write_89 : decode cX3_write 89 = .ok (.iload_n 1, 1) := by decide +kernel
theorem dX3_write_90 : decode cX3_write 90 = .ok (.iastore, 1) := by decide +kernel
theorem dX3_write_91 : decode cX3_write 91 = .ok (.aload_n 0, 1) := by decide +kernel
theorem dX3_write_92 : decode cX3_write 92 = .ok (.getfield 7, 3) := by decide +kernel
theorem dX3_write_95 : decode cX3_write 95 = .ok (.bipush 41, 2) := by decide +kernel
theorem dX3_write_97 : decode cX3_write 97 = .ok (.dup2, 1) := by decide +kernel
theorem dX3_write_98 : decode cX3_write 98 = .ok (.iaload, 1) := by decide +kernel
theorem dX3_write_99 : decode cX3_write 99 = .ok (.iconst 1, 1) := by decide +kernel
theorem dX3_write_100 : decode cX3_write 100 = .ok (.iadd, 1) := by decide +kernel
theorem dX3_write_101 : decode cX3_write 101 = .ok (.iastore, 1) := by decide +kernel
theorem dX3_write_102 : decode cX3_write 102 = .ok (.aload_n 0, 1) := by decide +kernel
theorem dX3_write_103 : decode cX3_write 103 = .ok (.iload_n 1, 1) := by decide +kernel
theorem dX3_write_104 : decode cX3_write 104 = .ok (.invokevirtual 67, 3) := by decide +kernel
theorem dX3_write_107 : decode cX3_write 107 = .ok (.aload_n 0, 1) := by decide +kernel
theorem dX3_write_108 : decode cX3_write 108 = .ok (.getfield 7, 3) := by decide +kernel
theorem dX3_write_111 : decode cX3_write 111 = .ok (.iconst 0, 1) := by decide +kernel
theorem dX3_write_112 : decode cX3_write 112 = .ok (.iaload, 1) := by decide +kernel
theorem dX3_write_113 : decode cX3_write 113 = .ok (.isub, 1) := by decide +kernel
theorem dX3_write_114 : decode cX3_write 114 = .ok (.ireturn, 1) := by decide +kernel
set_option maxRecDepth 20000 in
theorem ggX3_pass_X3_in : GoodIn wsX3_pass wsX3_in := goodIn_r _ [5] (by decide +kernel) (by decide +kernel)
set_option maxRecDepth 20000 in
theorem gX3_pass_X3_in : GoodIn wsX3_pass (va_wsS RX3 24 yX3_in wsX3_in) := goodIn_app (goodIn_of _ (by decide +kernel)) ggX3_pass_X3_in
set_option maxRecDepth 20000 in
theorem ggX3_pass_X3_settleAll : GoodIn wsX3_pass wsX3_settleAll := goodIn_r _ [9, 1, 10, 11, 12, 4, 13, 14, 15, 16, 17, 18, 19, 20, 21, 22, 23, 24, 25, 26, 27, 28, 29, 30, 31, 32, 33] (by decide +kernel) (by decide +kernel)
set_option maxRecDepth 20000 in
theorem gX3_pass_X3_settleAll : GoodIn wsX3_pass (wsV RX3 53 RX3 yX3_settleAll wsX3_settleAll) := goodIn_app (goodIn_of _ (by decide +kernel)) ggX3_pass_X3_settleAll
theorem dX3_pass_0 : decode cX3_pass 0 = .ok (.iload_n 1, 1) := by decide +kernel
theorem dX3_pass_1 : decode cX3_pass 1 = .ok (.iconst 1, 1) := by decide +kernel
theorem dX3_pass_2 : decode cX3_pass 2 = .ok (.bipush 100, 2) := by decide +kernel
theorem dX3_pass_4 : decode cX3_pass 4 = .ok (.invokestatic 24, 3) := by decide +kernel
theorem dX3_pass_7 : decode cX3_pass 7 = .ok (.ifCond .ne 6, 3) := by decide +kernel
theorem dX3_pass_10 : decode cX3_pass 10 = .ok (.bipush (-2), 2) := by decide +kernel
theorem dX3_pass_12 : decode cX3_pass 12 = .ok (.ireturn, 1) := by decide +kernel
theorem dX3_pass_13 : decode cX3_pass 13 = .ok (.iconst 0, 1) := by decide +kernel
theorem dX3_pass_14 : decode cX3_pass 14 = .ok (.istore_n 2, 1) := by decide +kernel
theorem dX3_pass_15 : decode cX3_pass 15 = .ok (.iconst 0, 1) := by decide +kernel
theorem dX3_pass_16 : decode cX3_pass 16 = .ok (.istore_n 3, 1) := by decide +kernel
theorem dX3_pass_17 : decode cX3_pass 17 = .ok (.iload_n 3, 1) := by decide +kernel
theorem dX3_pass_18 : decode cX3_pass 18 = .ok (.iload_n 1, 1) := by decide +kernel
theorem dX3_pass_19 : decode cX3_pass 19 = .ok (.if_icmp .ge 26, 3) := by decide +kernel
theorem dX3_pass_22 : decode cX3_pass 22 = .ok (.aload_n 0, 1) := by decide +kernel
theorem dX3_pass_23 : decode cX3_pass 23 = .ok (.getfield 7, 3) := by decide +kernel
theorem dX3_pass_26 : decode cX3_pass 26 = .ok (.iconst 0, 1) := by decide +kernel
theorem dX3_pass_27 : decode cX3_pass 27 = .ok (.dup2, 1) := by decide +kernel
theorem dX3_pass_28 : decode cX3_pass 28 = .ok (.iaload, 1) := by decide +kernel
theorem dX3_pass_29 : decode cX3_pass 29 = .ok (.iconst 1, 1) := by decide +kernel
theorem dX3_pass_30 : decode cX3_pass 30 = .ok (.iadd, 1) := by decide +kernel
theorem dX3_pass_31 : decode cX3_pass 31 = .ok (.iastore, 1) := by decide +kernel
theorem dX3_pass_32 : decode cX3_pass 32 = .ok (.iload_n 2, 1) := by decide +kernel
theorem dX3_pass_33 : decode cX3_pass 33 = .ok (.aload_n 0, 1) := by decide +kernel
theorem dX3_pass_34 : decode cX3_pass 34 = .ok (.invokevirtual 53, 3) := by decide +kernel
theorem dX3_pass_37 : decode cX3_pass 37 = .ok (.iadd, 1) := by decide +kernel
theorem dX3_pass_38 : decode cX3_pass 38 = .ok (.istore_n 2, 1) := by decide +kernel
theorem dX3_pass_39 : decode cX3_pass 39 = .ok (.iinc 3 1, 3) := by decide +kernel
theorem dX3_pass_42 : decode cX3_pass 42 = .ok (.goto (-25), 3) := by decide +kernel
theorem dX3_pass_45 : decode cX3_pass 45 = .ok (.iload_n 2, 1) := by decide +kernel
end
section
theorem dX3_pass_46 : decode cX3_pass 46 = .ok (.ireturn, 1) := by decide +kernel
theorem dX3_addCause_0 : decode cX3_addCause 0 = .ok (.iload_n 1, 1) := by decide +kernel
theorem dX3_addCause_1 : decode cX3_addCause 1 = .ok (.ifCond .eq 33, 3) := by decide +kernel
theorem dX3_addCause_4 : decode cX3_addCause 4 = .ok (.aload_n 0, 1) := by decide +kernel
theorem dX3_addCause_5 : decode cX3_addCause 5 = .ok (.getfield 7, 3) := by decide +kernel
theorem dX3_addCause_8 : decode cX3_addCause 8 = .ok (.sipush 292, 3) := by decide +kernel
theorem dX3_addCause_11 : decode cX3_addCause 11 = .ok (.aload_n 0, 1) := by decide +kernel
theorem dX3_addCause_12 : decode cX3_addCause 12 = .ok (.getfield 7, 3) := by decide +kernel
theorem dX3_addCause_15 : decode cX3_addCause 15 = .ok (.sipush 296, 3) := by decide +kernel
theorem dX3_addCause_18 : decode cX3_addCause 18 = .ok (.iaload, 1) := by decide +kernel
theorem dX3_addCause_19 : decode cX3_addCause 19 = .ok (.iadd, 1) := by decide +kernel
theorem dX3_addCause_20 : decode cX3_addCause 20 = .ok (.iload_n 2, 1) := by decide +kernel
theorem dX3_addCause_21 : decode cX3_addCause 21 = .ok (.iastore, 1) := by decide +kernel
theorem dX3_addCause_22 : decode cX3_addCause 22 = .ok (.aload_n 0, 1) := by decide +kernel
theorem dX3_addCause_23 : decode cX3_addCause 23 = .ok (.getfield 7, 3) := by decide +kernel
theorem dX3_addCause_26 : decode cX3_addCause 26 = .ok (.sipush 296, 3) := by decide +kernel
theorem dX3_addCause_29 : decode cX3_addCause 29 = .ok (.dup2, 1) := by decide +kernel
theorem dX3_addCause_30 : decode cX3_addCause 30 = .ok (.iaload, 1) := by decide +kernel
theorem dX3_addCause_31 : decode cX3_addCause 31 = .ok (.iconst 1, 1) := by decide +kernel
theorem dX3_addCause_32 : decode cX3_addCause 32 = .ok (.iadd, 1) := by decide +kernel
theorem dX3_addCause_33 : decode cX3_addCause 33 = .ok (.iastore, 1) := by decide +kernel
theorem dX3_addCause_34 : decode cX3_addCause 34 = .ok (.return_, 1) := by decide +kernel
set_option maxRecDepth 20000 in
theorem ggX3_renew_X3_volumeAt : GoodIn wsX3_renew wsX3_volumeAt := goodIn_r _ [5] (by decide +kernel) (by decide +kernel)
set_option maxRecDepth 20000 in
theorem gX3_renew_X3_volumeAt : GoodIn wsX3_renew (va_wsS RX3 40 yX3_volumeAt wsX3_volumeAt) := goodIn_app (goodIn_of _ (by decide +kernel)) ggX3_renew_X3_volumeAt
set_option maxRecDepth 20000 in
theorem ggX3_renew_X3_said : GoodIn wsX3_renew wsX3_said := goodIn_r _ [8] (by decide +kernel) (by decide +kernel)
set_option maxRecDepth 20000 in
theorem gX3_renew_X3_said : GoodIn wsX3_renew (va_wsS RX3 20 yX3_said wsX3_said) := goodIn_app (goodIn_of _ (by decide +kernel)) ggX3_renew_X3_said
set_option maxRecDepth 20000 in
theorem ggX3_renew_X3_thingAt : GoodIn wsX3_renew wsX3_thingAt := goodIn_r _ [11] (by decide +kernel) (by decide +kernel)
set_option maxRecDepth 20000 in
theorem gX3_renew_X3_thingAt : GoodIn wsX3_renew (va_wsS RX3 32 yX3_thingAt wsX3_thingAt) := goodIn_app (goodIn_of _ (by decide +kernel)) ggX3_renew_X3_thingAt
set_option maxRecDepth 20000 in
theorem ggX3_renew_X3_clear : GoodIn wsX3_renew wsX3_clear := goodIn_r _ [15, 1, 9, 10, 4, 11, 16, 17, 18] (by decide +kernel) (by decide +kernel)
set_option maxRecDepth 20000 in
theorem gX3_renew_X3_clear : GoodIn wsX3_renew (wsV RX3 46 RX3 yX3_clear wsX3_clear) := goodIn_app (goodIn_of _ (by decide +kernel)) ggX3_renew_X3_clear
theorem dX3_renew_0 : decode cX3_renew 0 = .ok (.bipush 52, 2) := by decide +kernel
theorem dX3_renew_2 : decode cX3_renew 2 = .ok (.iload_n 1, 1) := by decide +kernel
theorem dX3_renew_3 : decode cX3_renew 3 = .ok (.iload_n 2, 1) := by decide +kernel
theorem dX3_renew_4 : decode cX3_renew 4 = .ok (.invokestatic 40, 3) := by decide +kernel
theorem dX3_renew_7 : decode cX3_renew 7 = .ok (.istore_n 3, 1) := by decide +kernel
theorem dX3_renew_8 : decode cX3_renew 8 = .ok (.bipush 67, 2) := by decide +kernel
theorem dX3_renew_10 : decode cX3_renew 10 = .ok (.iload_n 1, 1) := by decide +kernel
theorem dX3_renew_11 : decode cX3_renew 11 = .ok (.iload_n 2, 1) := by decide +kernel
theorem dX3_renew_12 : decode cX3_renew 12 = .ok (.invokestatic 40, 3) := by decide +kernel
theorem dX3_renew_15 : decode cX3_renew 15 = .ok (.istore 4, 2) := by decide +kernel
theorem dX3_renew_17 : decode cX3_renew 17 = .ok (.aload_n 0, 1) := by decide +kernel
theorem dX3_renew_18 : decode cX3_renew 18 = .ok (.getfield 7, 3) := by decide +kernel
theorem dX3_renew_21 : decode cX3_renew 21 = .ok (.iconst 0, 1) := by decide +kernel
theorem dX3_renew_22 : decode cX3_renew 22 = .ok (.iaload, 1) := by decide +kernel
theorem dX3_renew_23 : decode cX3_renew 23 = .ok (.aload_n 0, 1) := by decide +kernel
theorem dX3_renew_24 : decode cX3_renew 24 = .ok (.getfield 7, 3) := by decide +kernel
theorem dX3_renew_27 : decode cX3_renew 27 = .ok (.iload_n 3, 1) := by decide +kernel
theorem dX3_renew_28 : decode cX3_renew 28 = .ok (.iaload, 1) := by decide +kernel
theorem dX3_renew_29 : decode cX3_renew 29 = .ok (.isub, 1) := by decide +kernel
theorem dX3_renew_30 : decode cX3_renew 30 = .ok (.aload_n 0, 1) := by decide +kernel
theorem dX3_renew_31 : decode cX3_renew 31 = .ok (.getfield 7, 3) := by decide +kernel
theorem dX3_renew_34 : decode cX3_renew 34 = .ok (.iconst 4, 1) := by decide +kernel
theorem dX3_renew_35 : decode cX3_renew 35 = .ok (.iaload, 1) := by decide +kernel
theorem dX3_renew_36 : decode cX3_renew 36 = .ok (.if_icmp .le 7, 3) := by decide +kernel
theorem dX3_renew_39 : decode cX3_renew 39 = .ok (.iconst 1, 1) := by decide +kernel
theorem dX3_renew_40 : decode cX3_renew 40 = .ok (.goto 4, 3) := by decide +kernel
theorem dX3_renew_43 : decode cX3_renew 43 = .ok (.iconst 0, 1) := by decide +kernel
theorem dX3_renew_44 : decode cX3_renew 44 = .ok (.istore 5, 2) := by decide +kernel
theorem dX3_renew_46 : decode cX3_renew 46 = .ok (.aload_n 0, 1) := by decide +kernel
theorem dX3_renew_47 : decode cX3_renew 47 = .ok (.getfield 7, 3) := by decide +kernel
theorem dX3_renew_50 : decode cX3_renew 50 = .ok (.iload 4, 2) := by decide +kernel
theorem dX3_renew_52 : decode cX3_renew 52 = .ok (.iaload, 1) := by decide +kernel
theorem dX3_renew_53 : decode cX3_renew 53 = .ok (.ifCond .eq 98, 3) := by decide +kernel
theorem dX3_renew_56 : decode cX3_renew 56 = .ok (.iload_n 2, 1) := by decide +kernel
theorem dX3_renew_57 : decode cX3_renew 57 = .ok (.iconst 4, 1) := by decide +kernel
theorem dX3_renew_58 : decode cX3_renew 58 = .ok (.idiv, 1) := by decide +kernel
theorem dX3_renew_59 : decode cX3_renew 59 = .ok (.iconst 4, 1) := by decide +kernel
theorem dX3_renew_60 : decode cX3_renew 60 = .ok (.imul, 1) := by decide +kernel
theorem dX3_renew_61 : decode cX3_renew 61 = .ok (.istore 6, 2) := by decide +kernel
theorem dX3_renew_63 : decode cX3_renew 63 = .ok (.iload 6, 2) := by decide +kernel
theorem dX3_renew_65 : decode cX3_renew 65 = .ok (.iload_n 2, 1) := by decide +kernel
theorem dX3_renew_66 : decode cX3_renew 66 = .ok (.iconst 4, 1) := by decide +kernel
theorem dX3_renew_67 : decode cX3_renew 67 = .ok (.idiv, 1) := by decide +kernel
theorem dX3_renew_68 : decode cX3_renew 68 = .ok (.iconst 4, 1) := by decide +kernel
theorem dX3_renew_69 : decode cX3_renew 69 = .ok (.imul, 1) := by decide +kernel
theorem dX3_renew_70 : decode cX3_renew 70 = .ok (.iconst 4, 1) := by decide +kernel
theorem dX3_renew_71 : decode cX3_renew 71 = .ok (.iadd, 1) := by decide +kernel
theorem dX3_renew_72 : decode cX3_renew 72 = .ok (.if_icmp .ge 71, 3) := by decide +kernel
theorem dX3_renew_75 : decode cX3_renew 75 = .ok (.iload 5, 2) := by decide +kernel
theorem dX3_renew_77 : decode cX3_renew 77 = .ok (.ifCond .ne 19, 3) := by decide +kernel
theorem dX3_renew_80 : decode cX3_renew 80 = .ok (.aload_n 0, 1) := by decide +kernel
theorem dX3_renew_81 : decode cX3_renew 81 = .ok (.getfield 7, 3) := by decide +kernel
theorem dX3_renew_84 : decode cX3_renew 84 = .ok (.iload 4, 2) := by decide +kernel
theorem dX3_renew_86 : decode cX3_renew 86 = .ok (.iaload, 1) := by decide +kernel
theorem dX3_renew_87 : decode cX3_renew 87 = .ok (.iload 6, 2) := by decide +kernel
theorem dX3_renew_89 : decode cX3_renew 89 = .ok (.ishr, 1) := by decide +kernel
theorem dX3_renew_90 : decode cX3_renew 90 = .ok (.iconst 1, 1) := by decide +kernel
theorem dX3_renew_91 : decode cX3_renew 91 = .ok (.iand, 1) := by decide +kernel
theorem dX3_renew_92 : decode cX3_renew 92 = .ok (.iconst 1, 1) := by decide +kernel
theorem dX3_renew_93 : decode cX3_renew 93 = .ok (.if_icmp .ne 44, 3) := by decide +kernel
theorem dX3_renew_96 : decode cX3_renew 96 = .ok (.aload_n 0, 1) := by decide +kernel
theorem dX3_renew_97 : decode cX3_renew 97 = .ok (.getfield 7, 3) := by decide +kernel
theorem dX3_renew_100 : decode cX3_renew 100 = .ok (.iload_n 1, 1) := by decide +kernel
theorem dX3_renew_101 : decode cX3_renew 101 = .ok (.iconst 5, 1) := by decide +kernel
theorem dX3_renew_102 : decode cX3_renew 102 = .ok (.invokestatic 20, 3) := by decide +kernel
theorem dX3_renew_105 : decode cX3_renew 105 = .ok (.dup2, 1) := by decide +kernel
theorem dX3_renew_106 : decode cX3_renew 106 = .ok (.iaload, 1) := by decide +kernel
theorem dX3_renew_107 : decode cX3_renew 107 = .ok (.aload_n 0, 1) := by decide +kernel
theorem dX3_renew_108 : decode cX3_renew 108 = .ok (.getfield 7, 3) := by decide +kernel
theorem dX3_renew_111 : decode cX3_renew 111 = .ok (.bipush 82, 2) := by decide +kernel
theorem dX3_renew_113 : decode cX3_renew 113 = .ok (.iload_n 1, 1) := by decide +kernel
theorem dX3_renew_114 : decode cX3_renew 114 = .ok (.iload 6, 2) := by decide +kernel
theorem dX3_renew_116 : decode cX3_renew 116 = .ok (.invokestatic 32, 3) := by decide +kernel
theorem dX3_renew_119 : decode cX3_renew 119 = .ok (.iaload, 1) := by decide +kernel
theorem dX3_renew_120 : decode cX3_renew 120 = .ok (.ifCond .lt 7, 3) := by decide +kernel
theorem dX3_renew_123 : decode cX3_renew 123 = .ok (.iconst 1, 1) := by decide +kernel
theorem dX3_renew_124 : decode cX3_renew 124 = .ok (.goto 4, 3) := by decide +kernel
theorem dX3_renew_127 : decode cX3_renew 127 = .ok (.iconst 0, 1) := by decide +kernel
theorem dX3_renew_128 : decode cX3_renew 128 = .ok (.iadd, 1) := by decide +kernel
theorem dX3_renew_129 : decode cX3_renew 129 = .ok (.iastore, 1) := by decide +kernel
theorem dX3_renew_130 : decode cX3_renew 130 = .ok (.aload_n 0, 1) := by decide +kernel
theorem dX3_renew_131 : decode cX3_renew 131 = .ok (.iload_n 1, 1) := by decide +kernel
theorem dX3_renew_132 : decode cX3_renew 132 = .ok (.iload 6, 2) := by decide +kernel
theorem dX3_renew_134 : decode cX3_renew 134 = .ok (.invokevirtual 46, 3) := by decide +kernel
theorem dX3_renew_137 : decode cX3_renew 137 = .ok (.iinc 6 1, 3) := by decide +kernel
theorem dX3_renew_140 : decode cX3_renew 140 = .ok (.goto (-77), 3) := by decide +kernel
theorem dX3_renew_143 : decode cX3_renew 143 = .ok (.aload_n 0, 1) := by decide +kernel
theorem dX3_renew_144 : decode cX3_renew 144 = .ok (.getfield 7, 3) := by decide +kernel
theorem dX3_renew_147 : decode cX3_renew 147 = .ok (.iload 4, 2) := by decide +kernel
theorem dX3_renew_149 : decode cX3_renew 149 = .ok (.iconst 0, 1) := by decide +kernel
theorem dX3_renew_150 : decode cX3_renew 150 = .ok (.iastore, 1) := by decide +kernel
theorem dX3_renew_151 : decode cX3_renew 151 = .ok (.aload_n 0, 1) := by decide +kernel
theorem dX3_renew_152 : decode cX3_renew 152 = .ok (.getfield 7, 3) := by decide +kernel
theorem dX3_renew_155 : decode cX3_renew 155 = .ok (.iload_n 3, 1) := by decide +kernel
theorem dX3_renew_156 : decode cX3_renew 156 = .ok (.aload_n 0, 1) := by decide +kernel
theorem dX3_renew_157 : decode cX3_renew 157 = .ok (.getfield 7, 3) := by decide +kernel
theorem dX3_renew_160 : decode cX3_renew 160 = .ok (.iconst 0, 1) := by decide +kernel
theorem dX3_renew_161 : decode cX3_renew 161 = .ok (.iaload, 1) := by decide +kernel
theorem dX3_renew_162 : decode cX3_renew 162 = .ok (.aload_n 0, 1) := by decide +kernel
theorem dX3_renew_163 : decode cX3_renew 163 = .ok (.getfield 7, 3) := by decide +kernel
theorem dX3_renew_166 : decode cX3_renew 166 = .ok (.iconst 2, 1) := by decide +kernel
theorem dX3_renew_167 : decode cX3_renew 167 = .ok (.iaload, 1) := by decide +kernel
theorem dX3_renew_168 : decode cX3_renew 168 = .ok (.iadd, 1) := by decide +kernel
theorem dX3_renew_169 : decode cX3_renew 169 = .ok (.iastore, 1) := by decide +kernel
theorem dX3_renew_170 : decode cX3_renew 170 = .ok (.aload_n 0, 1) := by decide +kernel
theorem dX3_renew_171 : decode cX3_renew 171 = .ok (.getfield 7, 3) := by decide +kernel
theorem dX3_renew_174 : decode cX3_renew 174 = .ok (.sipush 308, 3) := by decide +kernel
theorem dX3_renew_177 : decode cX3_renew 177 = .ok (.dup2, 1) := by decide +kernel
theorem dX3_renew_178 : decode cX3_renew 178 = .ok (.iaload, 1) := by decide +kernel
theorem dX3_renew_179 : decode cX3_renew 179 = .ok (.iconst 1, 1) := by decide +kernel
theorem dX3_renew_180 : decode cX3_renew 180 = .ok (.iadd, 1) := by decide +kernel
theorem dX3_renew_181 : decode cX3_renew 181 = .ok (.iastore, 1) := by decide +kernel
theorem dX3_renew_182 : decode cX3_renew 182 = .ok (.return_, 1) := by decide +kernel
set_option maxRecDepth 20000 in
theorem ggX3_read_X3_isReader : GoodIn wsX3_read wsX3_isReader := goodIn_r _ [5, 6, 7, 4, 8] (by decide +kernel) (by decide +kernel)
set_option maxRecDepth 20000 in
theorem gX3_read_X3_isReader : GoodIn wsX3_read (va_wsS RX3 28 yX3_isReader wsX3_isReader) := goodIn_app (goodIn_of _ (by decide +kernel)) ggX3_read_X3_isReader
set_option maxRecDepth 20000 in
theorem ggX3_read_X3_isThing : GoodIn wsX3_read wsX3_isThing := goodIn_r _ [11, 6, 7, 4, 8] (by decide +kernel) (by decide +kernel)
set_option maxRecDepth 20000 in
theorem gX3_read_X3_isThing : GoodIn wsX3_read (va_wsS RX3 60 yX3_isThing wsX3_isThing) := goodIn_app (goodIn_of _ (by decide +kernel)) ggX3_read_X3_isThing
set_option maxRecDepth 20000 in
theorem ggX3_read_X3_thingAt : GoodIn wsX3_read wsX3_thingAt := goodIn_r _ [14] (by decide +kernel) (by decide +kernel)
set_option maxRecDepth 20000 in
theorem gX3_read_X3_thingAt : GoodIn wsX3_read (va_wsS RX3 32 yX3_thingAt wsX3_thingAt) := goodIn_app (goodIn_of _ (by decide +kernel)) ggX3_read_X3_thingAt
set_option maxRecDepth 20000 in
theorem ggX3_read_X3_volumeAt : GoodIn wsX3_read wsX3_volumeAt := goodIn_r _ [17] (by decide +kernel) (by decide +kernel)
set_option maxRecDepth 20000 in
theorem gX3_read_X3_volumeAt : GoodIn wsX3_read (va_wsS RX3 40 yX3_volumeAt wsX3_volumeAt) := goodIn_app (goodIn_of _ (by decide +kernel)) ggX3_read_X3_volumeAt
set_option maxRecDepth 20000 in
theorem ggX3_read_X3_canUse : GoodIn wsX3_read wsX3_canUse := goodIn_r _ [21, 1, 12, 13, 4, 14, 22, 23, 24, 25, 15, 16, 17, 41, 42, 43] (by decide +kernel) (by decide +kernel)
set_option maxRecDepth 20000 in
theorem gX3_read_X3_canUse : GoodIn wsX3_read (wsV RX3 71 RX3 yX3_canUse wsX3_canUse) := goodIn_app (goodIn_of _ (by decide +kernel)) ggX3_read_X3_canUse
set_option maxRecDepth 20000 in
theorem ggX3_read_X3_said : GoodIn wsX3_read wsX3_said := goodIn_r _ [28] (by decide +kernel) (by decide +kernel)
set_option maxRecDepth 20000 in
theorem gX3_read_X3_said : GoodIn wsX3_read (va_wsS RX3 20 yX3_said wsX3_said) := goodIn_app (goodIn_of _ (by decide +kernel)) ggX3_read_X3_said
set_option maxRecDepth 20000 in
theorem ggX3_read_X3_addCause : GoodIn wsX3_read wsX3_addCause := goodIn_r _ [32, 1, 41, 42, 43] (by decide +kernel) (by decide +kernel)
set_option maxRecDepth 20000 in
theorem gX3_read_X3_addCause : GoodIn wsX3_read (wsV RX3 74 RX3 yX3_addCause wsX3_addCause) := goodIn_app (goodIn_of _ (by decide +kernel)) ggX3_read_X3_addCause
set_option maxRecDepth 20000 in
theorem ggX3_read_X3_isOver : GoodIn wsX3_read wsX3_isOver := goodIn_r _ [25, 1, 41, 42, 43] (by decide +kernel) (by decide +kernel)
set_option maxRecDepth 20000 in
theorem gX3_read_X3_isOver : GoodIn wsX3_read (wsV RX3 36 RX3 yX3_isOver wsX3_isOver) := goodIn_app (goodIn_of _ (by decide +kernel)) ggX3_read_X3_isOver
set_option maxRecDepth 20000 in
theorem ggX3_read_X3_renew : GoodIn wsX3_read wsX3_renew := goodIn_r _ [36, 1, 15, 16, 4, 17, 26, 27, 28, 12, 13, 14, 37, 38, 39, 40, 41, 42, 43] (by decide +kernel) (by decide +kernel)
set_option maxRecDepth 20000 in
theorem gX3_read_X3_renew : GoodIn wsX3_read (wsV RX3 78 RX3 yX3_renew wsX3_renew) := goodIn_app (goodIn_of _ (by decide +kernel)) ggX3_read_X3_renew
theorem dX3_read_0 : decode cX3_read 0 = .ok (.iload_n 1, 1) := by decide +kernel
theorem dX3_read_1 : decode cX3_read 1 = .ok (.invokestatic 28, 3) := by decide +kernel
theorem dX3_read_4 : decode cX3_read 4 = .ok (.ifCond .eq 10, 3) := by decide +kernel
theorem dX3_read_7 : decode cX3_read 7 = .ok (.iload_n 2, 1) := by decide +kernel
theorem dX3_read_8 : decode cX3_read 8 = .ok (.invokestatic 60, 3) := by decide +kernel
theorem dX3_read_11 : decode cX3_read 11 = .ok (.ifCond .ne 5, 3) := by decide +kernel
theorem dX3_read_14 : decode cX3_read 14 = .ok (.iconst (-1), 1) := by decide +kernel
theorem dX3_read_15 : decode cX3_read 15 = .ok (.ireturn, 1) := by decide +kernel
theorem dX3_read_16 : decode cX3_read 16 = .ok (.aload_n 0, 1) := by decide +kernel
theorem dX3_read_17 : decode cX3_read 17 = .ok (.getfield 7, 3) := by decide +kernel
theorem dX3_read_20 : decode cX3_read 20 = .ok (.bipush 82, 2) := by decide +kernel
theorem dX3_read_22 : decode cX3_read 22 = .ok (.iload_n 1, 1) := by decide +kernel
theorem dX3_read_23 : decode cX3_read 23 = .ok (.iload_n 2, 1) := by decide +kernel
theorem dX3_read_24 : decode cX3_read 24 = .ok (.invokestatic 32, 3) := by decide +kernel
theorem dX3_read_27 : decode cX3_read 27 = .ok (.iaload, 1) := by decide +kernel
theorem dX3_read_28 : decode cX3_read 28 = .ok (.istore_n 3, 1) := by decide +kernel
theorem dX3_read_29 : decode cX3_read 29 = .ok (.aload_n 0, 1) := by decide +kernel
theorem dX3_read_30 : decode cX3_read 30 = .ok (.getfield 7, 3) := by decide +kernel
theorem dX3_read_33 : decode cX3_read 33 = .ok (.bipush 52, 2) := by decide +kernel
theorem dX3_read_35 : decode cX3_read 35 = .ok (.iload_n 1, 1) := by decide +kernel
theorem dX3_read_36 : decode cX3_read 36 = .ok (.iload_n 2, 1) := by decide +kernel
theorem dX3_read_37 : decode cX3_read 37 = .ok (.invokestatic 40, 3) := by decide +kernel
theorem dX3_read_40 : decode cX3_read 40 = .ok (.iaload, 1) := by decide +kernel
theorem dX3_read_41 : decode cX3_read 41 = .ok (.istore 4, 2) := by decide +kernel
theorem dX3_read_43 : decode cX3_read 43 = .ok (.aload_n 0, 1) := by decide +kernel
theorem dX3_read_44 : decode cX3_read 44 = .ok (.iload_n 1, 1) := by decide +kernel
theorem dX3_read_45 : decode cX3_read 45 = .ok (.iload_n 2, 1) := by decide +kernel
theorem dX3_read_46 : decode cX3_read 46 = .ok (.invokevirtual 71, 3) := by decide +kernel
theorem dX3_read_49 : decode cX3_read 49 = .ok (.ifCond .eq 79, 3) := by decide +kernel
theorem dX3_read_52 : decode cX3_read 52 = .ok (.aload_n 0, 1) := by decide +kernel
theorem dX3_read_53 : decode cX3_read 53 = .ok (.getfield 7, 3) := by decide +kernel
theorem dX3_read_56 : decode cX3_read 56 = .ok (.iload_n 1, 1) := by decide +kernel
theorem dX3_read_57 : decode cX3_read 57 = .ok (.iconst 0, 1) := by decide +kernel
theorem dX3_read_58 : decode cX3_read 58 = .ok (.invokestatic 20, 3) := by decide +kernel
theorem dX3_read_61 : decode cX3_read 61 = .ok (.iload_n 3, 1) := by decide +kernel
theorem dX3_read_62 : decode cX3_read 62 = .ok (.iastore, 1) := by decide +kernel
theorem dX3_read_63 : decode cX3_read 63 = .ok (.aload_n 0, 1) := by decide +kernel
theorem dX3_read_64 : decode cX3_read 64 = .ok (.getfield 7, 3) := by decide +kernel
theorem dX3_read_67 : decode cX3_read 67 = .ok (.iload_n 1, 1) := by decide +kernel
theorem dX3_read_68 : decode cX3_read 68 = .ok (.iconst 1, 1) := by decide +kernel
theorem dX3_read_69 : decode cX3_read 69 = .ok (.invokestatic 20, 3) := by decide +kernel
theorem dX3_read_72 : decode cX3_read 72 = .ok (.dup2, 1) := by decide +kernel
theorem dX3_read_73 : decode cX3_read 73 = .ok (.iaload, 1) := by decide +kernel
theorem dX3_read_74 : decode cX3_read 74 = .ok (.iconst 1, 1) := by decide +kernel
theorem dX3_read_75 : decode cX3_read 75 = .ok (.iadd, 1) := by decide +kernel
theorem dX3_read_76 : decode cX3_read 76 = .ok (.iastore, 1) := by decide +kernel
theorem dX3_read_77 : decode cX3_read 77 = .ok (.iload_n 3, 1) := by decide +kernel
theorem dX3_read_78 : decode cX3_read 78 = .ok (.aload_n 0, 1) := by decide +kernel
theorem dX3_read_79 : decode cX3_read 79 = .ok (.getfield 7, 3) := by decide +kernel
theorem dX3_read_82 : decode cX3_read 82 = .ok (.iconst 5, 1) := by decide +kernel
theorem dX3_read_83 : decode cX3_read 83 = .ok (.iload_n 2, 1) := by decide +kernel
theorem dX3_read_84 : decode cX3_read 84 = .ok (.iadd, 1) := by decide +kernel
theorem dX3_read_85 : decode cX3_read 85 = .ok (.iaload, 1) := by decide +kernel
theorem dX3_read_86 : decode cX3_read 86 = .ok (.if_icmp .eq 7, 3) := by decide +kernel
theorem dX3_read_89 : decode cX3_read 89 = .ok (.iconst 1, 1) := by decide +kernel
theorem dX3_read_90 : decode cX3_read 90 = .ok (.goto 4, 3) := by decide +kernel
theorem dX3_read_93 : decode cX3_read 93 = .ok (.iconst 0, 1) := by decide +kernel
theorem dX3_read_94 : decode cX3_read 94 = .ok (.istore 5, 2) := by decide +kernel
theorem dX3_read_96 : decode cX3_read 96 = .ok (.aload_n 0, 1) := by decide +kernel
theorem dX3_read_97 : decode cX3_read 97 = .ok (.getfield 7, 3) := by decide +kernel
theorem dX3_read_100 : decode cX3_read 100 = .ok (.sipush 303, 3) := by decide +kernel
theorem dX3_read_103 : decode cX3_read 103 = .ok (.dup2, 1) := by decide +kernel
theorem dX3_read_104 : decode cX3_read 104 = .ok (.iaload, 1) := by decide +kernel
theorem dX3_read_105 : decode cX3_read 105 = .ok (.iload 5, 2) := by decide +kernel
theorem dX3_read_107 : decode cX3_read 107 = .ok (.ifCond .eq 7, 3) := by decide +kernel
theorem dX3_read_110 : decode cX3_read 110 = .ok (.iconst 1, 1) := by decide +kernel
theorem dX3_read_111 : decode cX3_read 111 = .ok (.goto 4, 3) := by decide +kernel
theorem dX3_read_114 : decode cX3_read 114 = .ok (.iconst 0, 1) := by decide +kernel
theorem dX3_read_115 : decode cX3_read 115 = .ok (.iadd, 1) := by decide +kernel
theorem dX3_read_116 : decode cX3_read 116 = .ok (.iastore, 1) := by decide +kernel
theorem dX3_read_117 : decode cX3_read 117 = .ok (.iload 5, 2) := by decide +kernel
theorem dX3_read_119 : decode cX3_read 119 = .ok (.ifCond .eq 7, 3) := by decide +kernel
theorem dX3_read_122 : decode cX3_read 122 = .ok (.iconst 1, 1) := by decide +kernel
theorem dX3_read_123 : decode cX3_read 123 = .ok (.goto 4, 3) := by decide +kernel
theorem dX3_read_126 : decode cX3_read 126 = .ok (.iconst 0, 1) := by decide +kernel
theorem dX3_read_127 : decode cX3_read 127 = .ok (.ireturn, 1) := by decide +kernel
theorem dX3_read_128 : decode cX3_read 128 = .ok (.aload_n 0, 1) := by decide +kernel
theorem dX3_read_129 : decode cX3_read 129 = .ok (.getfield 7, 3) := by decide +kernel
theorem dX3_read_132 : decode cX3_read 132 = .ok (.sipush 296, 3) := by decide +kernel
theorem dX3_read_135 : decode cX3_read 135 = .ok (.iconst 0, 1) := by decide +kernel
theorem dX3_read_136 : decode cX3_read 136 = .ok (.iastore, 1) := by decide +kernel
theorem dX3_read_137 : decode cX3_read 137 = .ok (.aload_n 0, 1) := by decide +kernel
theorem dX3_read_138 : decode cX3_read 138 = .ok (.aload_n 0, 1) := by decide +kernel
theorem dX3_read_139 : decode cX3_read 139 = .ok (.getfield 7, 3) := by decide +kernel
theorem dX3_read_142 : decode cX3_read 142 = .ok (.bipush 42, 2) := by decide +kernel
theorem dX3_read_144 : decode cX3_read 144 = .ok (.iload_n 1, 1) := by decide +kernel
theorem dX3_read_145 : decode cX3_read 145 = .ok (.iadd, 1) := by decide +kernel
theorem dX3_read_146 : decode cX3_read 146 = .ok (.iaload, 1) := by decide +kernel
theorem dX3_read_147 : decode cX3_read 147 = .ok (.ifCond .ne 7, 3) := by decide +kernel
theorem dX3_read_150 : decode cX3_read 150 = .ok (.iconst 1, 1) := by decide +kernel
theorem dX3_read_151 : decode cX3_read 151 = .ok (.goto 4, 3) := by decide +kernel
theorem dX3_read_154 : decode cX3_read 154 = .ok (.iconst 0, 1) := by decide +kernel
theorem dX3_read_155 : decode cX3_read 155 = .ok (.iconst 1, 1) := by decide +kernel
theorem dX3_read_156 : decode cX3_read 156 = .ok (.invokevirtual 74, 3) := by decide +kernel
theorem dX3_read_159 : decode cX3_read 159 = .ok (.aload_n 0, 1) := by decide +kernel
theorem dX3_read_160 : decode cX3_read 160 = .ok (.aload_n 0, 1) := by decide +kernel
theorem dX3_read_161 : decode cX3_read 161 = .ok (.iload_n 1, 1) := by decide +kernel
theorem dX3_read_162 : decode cX3_read 162 = .ok (.iload 4, 2) := by decide +kernel
theorem dX3_read_164 : decode cX3_read 164 = .ok (.invokevirtual 36, 3) := by decide +kernel
theorem dX3_read_167 : decode cX3_read 167 = .ok (.iconst 2, 1) := by decide +kernel
theorem dX3_read_168 : decode cX3_read 168 = .ok (.invokevirtual 74, 3) := by decide +kernel
theorem dX3_read_171 : decode cX3_read 171 = .ok (.aload_n 0, 1) := by decide +kernel
theorem dX3_read_172 : decode cX3_read 172 = .ok (.aload_n 0, 1) := by decide +kernel
theorem dX3_read_173 : decode cX3_read 173 = .ok (.iload_n 1, 1) := by decide +kernel
theorem dX3_read_174 : decode cX3_read 174 = .ok (.aload_n 0, 1) := by decide +kernel
theorem dX3_read_175 : decode cX3_read 175 = .ok (.getfield 7, 3) := by decide +kernel
theorem dX3_read_178 : decode cX3_read 178 = .ok (.sipush 142, 3) := by decide +kernel
theorem dX3_read_181 : decode cX3_read 181 = .ok (.iload_n 1, 1) := by decide +kernel
theorem dX3_read_182 : decode cX3_read 182 = .ok (.iload_n 2, 1) := by decide +kernel
theorem dX3_read_183 : decode cX3_read 183 = .ok (.invokestatic 32, 3) := by decide +kernel
theorem dX3_read_186 : decode cX3_read 186 = .ok (.iaload, 1) := by decide +kernel
theorem dX3_read_187 : decode cX3_read 187 = .ok (.invokevirtual 36, 3) := by decide +kernel
theorem dX3_read_190 : decode cX3_read 190 = .ok (.iconst 3, 1) := by decide +kernel
theorem dX3_read_191 : decode cX3_read 191 = .ok (.invokevirtual 74, 3) := by decide +kernel
theorem dX3_read_194 : decode cX3_read 194 = .ok (.aload_n 0, 1) := by decide +kernel
theorem dX3_read_195 : decode cX3_read 195 = .ok (.iload_n 3, 1) := by decide +kernel
theorem dX3_read_196 : decode cX3_read 196 = .ok (.ifCond .ge 7, 3) := by decide +kernel
theorem dX3_read_199 : decode cX3_read 199 = .ok (.iconst 1, 1) := by decide +kernel
theorem dX3_read_200 : decode cX3_read 200 = .ok (.goto 4, 3) := by decide +kernel
theorem dX3_read_203 : decode cX3_read 203 = .ok (.iconst 0, 1) := by decide +kernel
theorem dX3_read_204 : decode cX3_read 204 = .ok (.iconst 4, 1) := by decide +kernel
theorem dX3_read_205 : decode cX3_read 205 = .ok (.invokevirtual 74, 3) := by decide +kernel
theorem dX3_read_208 : decode cX3_read 208 = .ok (.aload_n 0, 1) := by decide +kernel
theorem dX3_read_209 : decode cX3_read 209 = .ok (.getfield 7, 3) := by decide +kernel
theorem dX3_read_212 : decode cX3_read 212 = .ok (.bipush 42, 2) := by decide +kernel
theorem dX3_read_214 : decode cX3_read 214 = .ok (.iload_n 1, 1) := by decide +kernel
theorem dX3_read_215 : decode cX3_read 215 = .ok (.iadd, 1) := by decide +kernel
theorem dX3_read_216 : decode cX3_read 216 = .ok (.iaload, 1) := by decide +kernel
theorem dX3_read_217 : decode cX3_read 217 = .ok (.ifCond .ne 19, 3) := by decide +kernel
theorem dX3_read_220 : decode cX3_read 220 = .ok (.aload_n 0, 1) := by decide +kernel
theorem dX3_read_221 : decode cX3_read 221 = .ok (.getfield 7, 3) := by decide +kernel
theorem dX3_read_224 : decode cX3_read 224 = .ok (.iload_n 1, 1) := by decide +kernel
theorem dX3_read_225 : decode cX3_read 225 = .ok (.iconst 3, 1) := by decide +kernel
theorem dX3_read_226 : decode cX3_read 226 = .ok (.invokestatic 20, 3) := by decide +kernel
theorem dX3_read_229 : decode cX3_read 229 = .ok (.dup2, 1) := by decide +kernel
theorem dX3_read_230 : decode cX3_read 230 = .ok (.iaload, 1) := by decide +kernel
theorem dX3_read_231 : decode cX3_read 231 = .ok (.iconst 1, 1) := by decide +kernel
theorem dX3_read_232 : decode cX3_read 232 = .ok (.iadd, 1) := by decide +kernel
theorem dX3_read_233 : decode cX3_read 233 = .ok (.iastore, 1) := by decide +kernel
theorem dX3_read_234 : decode cX3_read 234 = .ok (.iconst 4, 1) := by decide +kernel
theorem dX3_read_235 : decode cX3_read 235 = .ok (.ireturn, 1) := by decide +kernel
theorem dX3_read_236 : decode cX3_read 236 = .ok (.aload_n 0, 1) := by decide +kernel
theorem dX3_read_237 : decode cX3_read 237 = .ok (.getfield 7, 3) := by decide +kernel
theorem dX3_read_240 : decode cX3_read 240 = .ok (.iload_n 1, 1) := by decide +kernel
theorem dX3_read_241 : decode cX3_read 241 = .ok (.iconst 2, 1) := by decide +kernel
theorem dX3_read_242 : decode cX3_read 242 = .ok (.invokestatic 20, 3) := by decide +kernel
theorem dX3_read_245 : decode cX3_read 245 = .ok (.dup2, 1) := by decide +kernel
theorem dX3_read_246 : decode cX3_read 246 = .ok (.iaload, 1) := by decide +kernel
theorem dX3_read_247 : decode cX3_read 247 = .ok (.iconst 1, 1) := by decide +kernel
theorem dX3_read_248 : decode cX3_read 248 = .ok (.iadd, 1) := by decide +kernel
theorem dX3_read_249 : decode cX3_read 249 = .ok (.iastore, 1) := by decide +kernel
theorem dX3_read_250 : decode cX3_read 250 = .ok (.aload_n 0, 1) := by decide +kernel
theorem dX3_read_251 : decode cX3_read 251 = .ok (.iload_n 1, 1) := by decide +kernel
theorem dX3_read_252 : decode cX3_read 252 = .ok (.iload 4, 2) := by decide +kernel
theorem dX3_read_254 : decode cX3_read 254 = .ok (.invokevirtual 36, 3) := by decide +kernel
theorem dX3_read_257 : decode cX3_read 257 = .ok (.ifCond .ne 14, 3) := by decide +kernel
theorem dX3_read_260 : decode cX3_read 260 = .ok (.iload 4, 2) := by decide +kernel
theorem dX3_read_262 : decode cX3_read 262 = .ok (.aload_n 0, 1) := by decide +kernel
theorem dX3_read_263 : decode cX3_read 263 = .ok (.getfield 7, 3) := by decide +kernel
theorem dX3_read_266 : decode cX3_read 266 = .ok (.iconst 0, 1) := by decide +kernel
theorem dX3_read_267 : decode cX3_read 267 = .ok (.iaload, 1) := by decide +kernel
theorem dX3_read_268 : decode cX3_read 268 = .ok (.if_icmp .gt 9, 3) := by decide +kernel
theorem dX3_read_271 : decode cX3_read 271 = .ok (.aload_n 0, 1) := by decide +kernel
theorem dX3_read_272 : decode cX3_read 272 = .ok (.iload_n 1, 1) := by decide +kernel
theorem dX3_read_273 : decode cX3_read 273 = .ok (.iload_n 2, 1) := by decide +kernel
theorem dX3_read_274 : decode cX3_read 274 = .ok (.invokevirtual 78, 3) := by decide +kernel
theorem dX3_read_277 : decode cX3_read 277 = .ok (.aload_n 0, 1) := by decide +kernel
theorem dX3_read_278 : decode cX3_read 278 = .ok (.getfield 7, 3) := by decide +kernel
theorem dX3_read_281 : decode cX3_read 281 = .ok (.iload_n 1, 1) := by decide +kernel
theorem dX3_read_282 : decode cX3_read 282 = .ok (.iconst 0, 1) := by decide +kernel
theorem dX3_read_283 : decode cX3_read 283 = .ok (.invokestatic 20, 3) := by decide +kernel
theorem dX3_read_286 : decode cX3_read 286 = .ok (.aload_n 0, 1) := by decide +kernel
theorem dX3_read_287 : decode cX3_read 287 = .ok (.getfield 7, 3) := by decide +kernel
theorem dX3_read_290 : decode cX3_read 290 = .ok (.iconst 5, 1) := by decide +kernel
theorem dX3_read_291 : decode cX3_read 291 = .ok (.iload_n 2, 1) := by decide +kernel
theorem dX3_read_292 : decode cX3_read 292 = .ok (.iadd, 1) := by decide +kernel
theorem dX3_read_293 : decode cX3_read 293 = .ok (.iaload, 1) := by decide +kernel
theorem dX3_read_294 : decode cX3_read 294 = .ok (.iastore, 1) := by decide +kernel
theorem dX3_read_295 : decode cX3_read 295 = .ok (.aload_n 0, 1) := by decide +kernel
theorem dX3_read_296 : decode cX3_read 296 = .ok (.getfield 7, 3) := by decide +kernel
theorem dX3_read_299 : decode cX3_read 299 = .ok (.bipush 17, 2) := by decide +kernel
theorem dX3_read_301 : decode cX3_read 301 = .ok (.iload_n 2, 1) := by decide +kernel
theorem dX3_read_302 : decode cX3_read 302 = .ok (.iadd, 1) := by decide +kernel
theorem dX3_read_303 : decode cX3_read 303 = .ok (.iaload, 1) := by decide +kernel
theorem dX3_read_304 : decode cX3_read 304 = .ok (.ifCond .lt 5, 3) := by decide +kernel
theorem dX3_read_307 : decode cX3_read 307 = .ok (.iconst 3, 1) := by decide +kernel
theorem dX3_read_308 : decode cX3_read 308 = .ok (.ireturn, 1) := by decide +kernel
theorem dX3_read_309 : decode cX3_read 309 = .ok (.aload_n 0, 1) := by decide +kernel
theorem dX3_read_310 : decode cX3_read 310 = .ok (.getfield 7, 3) := by decide +kernel
theorem dX3_read_313 : decode cX3_read 313 = .ok (.bipush 82, 2) := by decide +kernel
theorem dX3_read_315 : decode cX3_read 315 = .ok (.iload_n 1, 1) := by decide +kernel
theorem dX3_read_316 : decode cX3_read 316 = .ok (.iload_n 2, 1) := by decide +kernel
theorem dX3_read_317 : decode cX3_read 317 = .ok (.invokestatic 32, 3) := by decide +kernel
theorem dX3_read_320 : decode cX3_read 320 = .ok (.aload_n 0, 1) := by decide +kernel
theorem dX3_read_321 : decode cX3_read 321 = .ok (.getfield 7, 3) := by decide +kernel
theorem dX3_read_324 : decode cX3_read 324 = .ok (.iconst 5, 1) := by decide +kernel
theorem dX3_read_325 : decode cX3_read 325 = .ok (.iload_n 2, 1) := by decide +kernel
theorem dX3_read_326 : decode cX3_read 326 = .ok (.iadd, 1) := by decide +kernel
theorem dX3_read_327 : decode cX3_read 327 = .ok (.iaload, 1) := by decide +kernel
theorem dX3_read_328 : decode cX3_read 328 = .ok (.iastore, 1) := by decide +kernel
theorem dX3_read_329 : decode cX3_read 329 = .ok (.aload_n 0, 1) := by decide +kernel
theorem dX3_read_330 : decode cX3_read 330 = .ok (.getfield 7, 3) := by decide +kernel
theorem dX3_read_333 : decode cX3_read 333 = .ok (.sipush 142, 3) := by decide +kernel
theorem dX3_read_336 : decode cX3_read 336 = .ok (.iload_n 1, 1) := by decide +kernel
theorem dX3_read_337 : decode cX3_read 337 = .ok (.iload_n 2, 1) := by decide +kernel
theorem dX3_read_338 : decode cX3_read 338 = .ok (.invokestatic 32, 3) := by decide +kernel
theorem dX3_read_341 : decode cX3_read 341 = .ok (.aload_n 0, 1) := by decide +kernel
theorem dX3_read_342 : decode cX3_read 342 = .ok (.getfield 7, 3) := by decide +kernel
theorem dX3_read_345 : decode cX3_read 345 = .ok (.iconst 0, 1) := by decide +kernel
theorem dX3_read_346 : decode cX3_read 346 = .ok (.iaload, 1) := by decide +kernel
theorem dX3_read_347 : decode cX3_read 347 = .ok (.aload_n 0, 1) := by decide +kernel
theorem dX3_read_348 : decode cX3_read 348 = .ok (.getfield 7, 3) := by decide +kernel
theorem dX3_read_351 : decode cX3_read 351 = .ok (.iconst 1, 1) := by decide +kernel
theorem dX3_read_352 : decode cX3_read 352 = .ok (.iaload, 1) := by decide +kernel
theorem dX3_read_353 : decode cX3_read 353 = .ok (.iadd, 1) := by decide +kernel
theorem dX3_read_354 : decode cX3_read 354 = .ok (.iastore, 1) := by decide +kernel
theorem dX3_read_355 : decode cX3_read 355 = .ok (.aload_n 0, 1) := by decide +kernel
theorem dX3_read_356 : decode cX3_read 356 = .ok (.getfield 7, 3) := by decide +kernel
theorem dX3_read_359 : decode cX3_read 359 = .ok (.sipush 202, 3) := by decide +kernel
theorem dX3_read_362 : decode cX3_read 362 = .ok (.iload_n 1, 1) := by decide +kernel
theorem dX3_read_363 : decode cX3_read 363 = .ok (.iload_n 2, 1) := by decide +kernel
theorem dX3_read_364 : decode cX3_read 364 = .ok (.invokestatic 32, 3) := by decide +kernel
theorem dX3_read_367 : decode cX3_read 367 = .ok (.aload_n 0, 1) := by decide +kernel
theorem dX3_read_368 : decode cX3_read 368 = .ok (.getfield 7, 3) := by decide +kernel
theorem dX3_read_371 : decode cX3_read 371 = .ok (.iconst 0, 1) := by decide +kernel
theorem dX3_read_372 : decode cX3_read 372 = .ok (.iaload, 1) := by decide +kernel
theorem dX3_read_373 : decode cX3_read 373 = .ok (.aload_n 0, 1) := by decide +kernel
theorem dX3_read_374 : decode cX3_read 374 = .ok (.getfield 7, 3) := by decide +kernel
theorem dX3_read_377 : decode cX3_read 377 = .ok (.iconst 1, 1) := by decide +kernel
theorem dX3_read_378 : decode cX3_read 378 = .ok (.iaload, 1) := by decide +kernel
theorem dX3_read_379 : decode cX3_read 379 = .ok (.iadd, 1) := by decide +kernel
theorem dX3_read_380 : decode cX3_read 380 = .ok (.iastore, 1) := by decide +kernel
theorem dX3_read_381 : decode cX3_read 381 = .ok (.iconst 2, 1) := by decide +kernel
theorem dX3_read_382 : decode cX3_read 382 = .ok (.ireturn, 1) := by decide +kernel
set_option maxRecDepth 20000 in
theorem ggX3_cause_X3_in : GoodIn wsX3_cause wsX3_in := goodIn_r _ [5] (by decide +kernel) (by decide +kernel)
set_option maxRecDepth 20000 in
theorem gX3_cause_X3_in : GoodIn wsX3_cause (va_wsS RX3 24 yX3_in wsX3_in) := goodIn_app (goodIn_of _ (by decide +kernel)) ggX3_cause_X3_in
theorem dX3_cause_0 : decode cX3_cause 0 = .ok (.iload_n 1, 1) := by decide +kernel
theorem dX3_cause_1 : decode cX3_cause 1 = .ok (.iconst 0, 1) := by decide +kernel
theorem dX3_cause_2 : decode cX3_cause 2 = .ok (.aload_n 0, 1) := by decide +kernel
theorem dX3_cause_3 : decode cX3_cause 3 = .ok (.getfield 7, 3) := by decide +kernel
theorem dX3_cause_6 : decode cX3_cause 6 = .ok (.sipush 296, 3) := by decide +kernel
theorem dX3_cause_9 : decode cX3_cause 9 = .ok (.iaload, 1) := by decide +kernel
theorem dX3_cause_10 : decode cX3_cause 10 = .ok (.iconst 1, 1) := by decide +kernel
theorem dX3_cause_11 : decode cX3_cause 11 = .ok (.isub, 1) := by decide +kernel
theorem dX3_cause_12 : decode cX3_cause 12 = .ok (.invokestatic 24, 3) := by decide +kernel
theorem dX3_cause_15 : decode cX3_cause 15 = .ok (.ifCond .eq 16, 3) := by decide +kernel
theorem dX3_cause_18 : decode cX3_cause 18 = .ok (.aload_n 0, 1) := by decide +kernel
theorem dX3_cause_19 : decode cX3_cause 19 = .ok (.getfield 7, 3) := by decide +kernel
theorem dX3_cause_22 : decode cX3_cause 22 = .ok (.sipush 292, 3) := by decide +kernel
theorem dX3_cause_25 : decode cX3_cause 25 = .ok (.iload_n 1, 1) := by decide +kernel
theorem dX3_cause_26 : decode cX3_cause 26 = .ok (.iadd, 1) := by decide +kernel
theorem dX3_cause_27 : decode cX3_cause 27 = .ok (.iaload, 1) := by decide +kernel
theorem dX3_cause_28 : decode cX3_cause 28 = .ok (.goto 5, 3) := by decide +kernel
theorem dX3_cause_31 : decode cX3_cause 31 = .ok (.bipush (-6), 2) := by decide +kernel
theorem dX3_cause_33 : decode cX3_cause 33 = .ok (.ireturn, 1) := by decide +kernel
set_option maxRecDepth 20000 in
theorem ggX3_waited_X3_in : GoodIn wsX3_waited wsX3_in := goodIn_r _ [5] (by decide +kernel) (by decide +kernel)
set_option maxRecDepth 20000 in
theorem gX3_waited_X3_in : GoodIn wsX3_waited (va_wsS RX3 24 yX3_in wsX3_in) := goodIn_app (goodIn_of _ (by decide +kernel)) ggX3_waited_X3_in
theorem dX3_waited_0 : decode cX3_waited 0 = .ok (.iload_n 1, 1) := by decide +kernel
theorem dX3_waited_1 : decode cX3_waited 1 = .ok (.iconst 0, 1) := by decide +kernel
theorem dX3_waited_2 : decode cX3_waited 2 = .ok (.aload_n 0, 1) := by decide +kernel
theorem dX3_waited_3 : decode cX3_waited 3 = .ok (.getfield 7, 3) := by decide +kernel
theorem dX3_waited_6 : decode cX3_waited 6 = .ok (.sipush 302, 3) := by decide +kernel
theorem dX3_waited_9 : decode cX3_waited 9 = .ok (.iaload, 1) := by decide +kernel
theorem dX3_waited_10 : decode cX3_waited 10 = .ok (.iconst 1, 1) := by decide +kernel
theorem dX3_waited_11 : decode cX3_waited 11 = .ok (.isub, 1) := by decide +kernel
theorem dX3_waited_12 : decode cX3_waited 12 = .ok (.invokestatic 24, 3) := by decide +kernel
theorem dX3_waited_15 : decode cX3_waited 15 = .ok (.ifCond .eq 16, 3) := by decide +kernel
theorem dX3_waited_18 : decode cX3_waited 18 = .ok (.aload_n 0, 1) := by decide +kernel
theorem dX3_waited_19 : decode cX3_waited 19 = .ok (.getfield 7, 3) := by decide +kernel
theorem dX3_waited_22 : decode cX3_waited 22 = .ok (.sipush 297, 3) := by decide +kernel
theorem dX3_waited_25 : decode cX3_waited 25 = .ok (.iload_n 1, 1) := by decide +kernel
theorem dX3_waited_26 : decode cX3_waited 26 = .ok (.iadd, 1) := by decide +kernel
theorem dX3_waited_27 : decode cX3_waited 27 = .ok (.iaload, 1) := by decide +kernel
theorem dX3_waited_28 : decode cX3_waited 28 = .ok (.goto 5, 3) := by decide +kernel
theorem dX3_waited_31 : decode cX3_waited 31 = .ok (.bipush (-6), 2) := by decide +kernel
theorem dX3_waited_33 : decode cX3_waited 33 = .ok (.ireturn, 1) := by decide +kernel
set_option maxRecDepth 20000 in
theorem ggX3_thing_X3_isThing : GoodIn wsX3_thing wsX3_isThing := goodIn_r _ [5, 6, 7, 4, 8] (by decide +kernel) (by decide +kernel)
set_option maxRecDepth 20000 in
theorem gX3_thing_X3_isThing : GoodIn wsX3_thing (va_wsS RX3 60 yX3_isThing wsX3_isThing) := goodIn_app (goodIn_of _ (by decide +kernel)) ggX3_thing_X3_isThing
set_option maxRecDepth 20000 in
theorem ggX3_thing_X3_in : GoodIn wsX3_thing wsX3_in := goodIn_r _ [8] (by decide +kernel) (by decide +kernel)
set_option maxRecDepth 20000 in
theorem gX3_thing_X3_in : GoodIn wsX3_thing (va_wsS RX3 24 yX3_in wsX3_in) := goodIn_app (goodIn_of _ (by decide +kernel)) ggX3_thing_X3_in
set_option maxRecDepth 20000 in
theorem ggX3_thing_X3_dueOf : GoodIn wsX3_thing wsX3_dueOf := goodIn_r _ [12, 1, 13, 14, 4, 15, 16, 17, 18, 31, 32, 33] (by decide +kernel) (by decide +kernel)
set_option maxRecDepth 20000 in
theorem gX3_thing_X3_dueOf : GoodIn wsX3_thing (wsV RX3 67 RX3 yX3_dueOf wsX3_dueOf) := goodIn_app (goodIn_of _ (by decide +kernel)) ggX3_thing_X3_dueOf
set_option maxRecDepth 20000 in
theorem ggX3_thing_X3_isHolder : GoodIn wsX3_thing wsX3_isHolder := goodIn_r _ [22, 1, 13, 14, 4, 15, 31, 32, 33] (by decide +kernel) (by decide +kernel)
set_option maxRecDepth 20000 in
theorem gX3_thing_X3_isHolder : GoodIn wsX3_thing (wsV RX3 43 RX3 yX3_isHolder wsX3_isHolder) := goodIn_app (goodIn_of _ (by decide +kernel)) ggX3_thing_X3_isHolder
set_option maxRecDepth 20000 in
theorem ggX3_thing_X3_thingAt : GoodIn wsX3_thing wsX3_thingAt := goodIn_r _ [15] (by decide +kernel) (by decide +kernel)
set_option maxRecDepth 20000 in
theorem gX3_thing_X3_thingAt : GoodIn wsX3_thing (va_wsS RX3 32 yX3_thingAt wsX3_thingAt) := goodIn_app (goodIn_of _ (by decide +kernel)) ggX3_thing_X3_thingAt
set_option maxRecDepth 20000 in
theorem ggX3_thing_X3_canUse : GoodIn wsX3_thing wsX3_canUse := goodIn_r _ [26, 1, 13, 14, 4, 15, 27, 28, 29, 30, 16, 17, 18, 31, 32, 33] (by decide +kernel) (by decide +kernel)
set_option maxRecDepth 20000 in
theorem gX3_thing_X3_canUse : GoodIn wsX3_thing (wsV RX3 71 RX3 yX3_canUse wsX3_canUse) := goodIn_app (goodIn_of _ (by decide +kernel)) ggX3_thing_X3_canUse
theorem dX3_thing_0 : decode cX3_thing 0 = .ok (.iload_n 1, 1) := by decide +kernel
theorem dX3_thing_1 : decode cX3_thing 1 = .ok (.invokestatic 60, 3) := by decide +kernel
theorem dX3_thing_4 : decode cX3_thing 4 = .ok (.ifCond .ne 5, 3) := by decide +kernel
theorem dX3_thing_7 : decode cX3_thing 7 = .ok (.iconst (-1), 1) := by decide +kernel
theorem dX3_thing_8 : decode cX3_thing 8 = .ok (.ireturn, 1) := by decide +kernel
theorem dX3_thing_9 : decode cX3_thing 9 = .ok (.iload_n 2, 1) := by decide +kernel
theorem dX3_thing_10 : decode cX3_thing 10 = .ok (.iconst 0, 1) := by decide +kernel
theorem dX3_thing_11 : decode cX3_thing 11 = .ok (.bipush 6, 2) := by decide +kernel
theorem dX3_thing_13 : decode cX3_thing 13 = .ok (.invokestatic 24, 3) := by decide +kernel
theorem dX3_thing_16 : decode cX3_thing 16 = .ok (.ifCond .ne 6, 3) := by decide +kernel
theorem dX3_thing_19 : decode cX3_thing 19 = .ok (.bipush (-2), 2) := by decide +kernel
theorem dX3_thing_21 : decode cX3_thing 21 = .ok (.ireturn, 1) := by decide +kernel
theorem dX3_thing_22 : decode cX3_thing 22 = .ok (.aload_n 0, 1) := by decide +kernel
theorem dX3_thing_23 : decode cX3_thing 23 = .ok (.getfield 7, 3) := by decide +kernel
theorem dX3_thing_26 : decode cX3_thing 26 = .ok (.bipush 17, 2) := by decide +kernel
theorem dX3_thing_28 : decode cX3_thing 28 = .ok (.iload_n 1, 1) := by decide +kernel
theorem dX3_thing_29 : decode cX3_thing 29 = .ok (.iadd, 1) := by decide +kernel
theorem dX3_thing_30 : decode cX3_thing 30 = .ok (.iaload, 1) := by decide +kernel
theorem dX3_thing_31 : decode cX3_thing 31 = .ok (.ifCond .lt 7, 3) := by decide +kernel
theorem dX3_thing_34 : decode cX3_thing 34 = .ok (.iconst 1, 1) := by decide +kernel
theorem dX3_thing_35 : decode cX3_thing 35 = .ok (.goto 4, 3) := by decide +kernel
theorem dX3_thing_38 : decode cX3_thing 38 = .ok (.iconst 0, 1) := by decide +kernel
theorem dX3_thing_39 : decode cX3_thing 39 = .ok (.istore_n 3, 1) := by decide +kernel
theorem dX3_thing_40 : decode cX3_thing 40 = .ok (.iload_n 2, 1) := by decide +kernel
theorem dX3_thing_41 : decode cX3_thing 41 = .ok (.iconst 4, 1) := by decide +kernel
theorem dX3_thing_42 : decode cX3_thing 42 = .ok (.if_icmp .ge 67, 3) := by decide +kernel
theorem dX3_thing_45 : decode cX3_thing 45 = .ok (.iload_n 2, 1) := by decide +kernel
theorem dX3_thing_46 : decode cX3_thing 46 = .ok (.ifCond .ne 14, 3) := by decide +kernel
theorem dX3_thing_49 : decode cX3_thing 49 = .ok (.aload_n 0, 1) := by decide +kernel
theorem dX3_thing_50 : decode cX3_thing 50 = .ok (.getfield 7, 3) := by decide +kernel
theorem dX3_thing_53 : decode cX3_thing 53 = .ok (.iconst 5, 1) := by decide +kernel
theorem dX3_thing_54 : decode cX3_thing 54 = .ok (.iload_n 1, 1) := by decide +kernel
theorem dX3_thing_55 : decode cX3_thing 55 = .ok (.iadd, 1) := by decide +kernel
theorem dX3_thing_56 : decode cX3_thing 56 = .ok (.iaload, 1) := by decide +kernel
theorem dX3_thing_57 : decode cX3_thing 57 = .ok (.goto 51, 3) := by decide +kernel
theorem dX3_thing_60 : decode cX3_thing 60 = .ok (.iload_n 2, 1) := by decide +kernel
theorem dX3_thing_61 : decode cX3_thing 61 = .ok (.iconst 1, 1) := by decide +kernel
theorem dX3_thing_62 : decode cX3_thing 62 = .ok (.if_icmp .ne 15, 3) := by decide +kernel
theorem dX3_thing_65 : decode cX3_thing 65 = .ok (.iload_n 3, 1) := by decide +kernel
theorem dX3_thing_66 : decode cX3_thing 66 = .ok (.ifCond .eq 7, 3) := by decide +kernel
theorem dX3_thing_69 : decode cX3_thing 69 = .ok (.iconst 1, 1) := by decide +kernel
theorem dX3_thing_70 : decode cX3_thing 70 = .ok (.goto 38, 3) := by decide +kernel
theorem dX3_thing_73 : decode cX3_thing 73 = .ok (.iconst 0, 1) := by decide +kernel
theorem dX3_thing_74 : decode cX3_thing 74 = .ok (.goto 34, 3) := by decide +kernel
theorem dX3_thing_77 : decode cX3_thing 77 = .ok (.iload_n 2, 1) := by decide +kernel
theorem dX3_thing_78 : decode cX3_thing 78 = .ok (.iconst 2, 1) := by decide +kernel
theorem dX3_thing_79 : decode cX3_thing 79 = .ok (.if_icmp .ne 15, 3) := by decide +kernel
theorem dX3_thing_82 : decode cX3_thing 82 = .ok (.aload_n 0, 1) := by decide +kernel
theorem dX3_thing_83 : decode cX3_thing 83 = .ok (.getfield 7, 3) := by decide +kernel
theorem dX3_thing_86 : decode cX3_thing 86 = .ok (.bipush 17, 2) := by decide +kernel
theorem dX3_thing_88 : decode cX3_thing 88 = .ok (.iload_n 1, 1) := by decide +kernel
theorem dX3_thing_89 : decode cX3_thing 89 = .ok (.iadd, 1) := by decide +kernel
theorem dX3_thing_90 : decode cX3_thing 90 = .ok (.iaload, 1) := by decide +kernel
theorem dX3_thing_91 : decode cX3_thing 91 = .ok (.goto 17, 3) := by decide +kernel
theorem dX3_thing_94 : decode cX3_thing 94 = .ok (.iload_n 3, 1) := by decide +kernel
theorem dX3_thing_95 : decode cX3_thing 95 = .ok (.ifCond .eq 11, 3) := by decide +kernel
theorem dX3_thing_98 : decode cX3_thing 98 = .ok (.aload_n 0, 1) := by decide +kernel
theorem dX3_thing_99 : decode cX3_thing 99 = .ok (.iload_n 1, 1) := by decide +kernel
theorem dX3_thing_100 : decode cX3_thing 100 = .ok (.invokevirtual 67, 3) := by decide +kernel
theorem dX3_thing_103 : decode cX3_thing 103 = .ok (.goto 5, 3) := by decide +kernel
theorem dX3_thing_106 : decode cX3_thing 106 = .ok (.bipush (-6), 2) := by decide +kernel
theorem dX3_thing_108 : decode cX3_thing 108 = .ok (.ireturn, 1) := by decide +kernel
theorem dX3_thing_109 : decode cX3_thing 109 = .ok (.iconst 0, 1) := by decide +kernel
theorem dX3_thing_110 : decode cX3_thing 110 = .ok (.istore 4, 2) := by decide +kernel
theorem dX3_thing_112 : decode cX3_thing 112 = .ok (.iconst 0, 1) := by decide +kernel
theorem dX3_thing_113 : decode cX3_thing 113 = .ok (.istore 5, 2) := by decide +kernel
theorem dX3_thing_115 : decode cX3_thing 115 = .ok (.iload 5, 2) := by decide +kernel
theorem dX3_thing_117 : decode cX3_thing 117 = .ok (.iconst 5, 1) := by decide +kernel
theorem dX3_thing_118 : decode cX3_thing 118 = .ok (.if_icmp .ge 80, 3) := by decide +kernel
theorem dX3_thing_121 : decode cX3_thing 121 = .ok (.iload_n 2, 1) := by decide +kernel
theorem dX3_thing_122 : decode cX3_thing 122 = .ok (.iconst 4, 1) := by decide +kernel
theorem dX3_thing_123 : decode cX3_thing 123 = .ok (.if_icmp .ne 13, 3) := by decide +kernel
theorem dX3_thing_126 : decode cX3_thing 126 = .ok (.aload_n 0, 1) := by decide +kernel
theorem dX3_thing_127 : decode cX3_thing 127 = .ok (.iload 5, 2) := by decide +kernel
theorem dX3_thing_129 : decode cX3_thing 129 = .ok (.iload_n 1, 1) := by decide +kernel
theorem dX3_thing_130 : decode cX3_thing 130 = .ok (.invokevirtual 43, 3) := by decide +kernel
theorem dX3_thing_133 : decode cX3_thing 133 = .ok (.goto 39, 3) := by decide +kernel
theorem dX3_thing_136 : decode cX3_thing 136 = .ok (.iload_n 2, 1) := by decide +kernel
theorem dX3_thing_137 : decode cX3_thing 137 = .ok (.iconst 5, 1) := by decide +kernel
theorem dX3_thing_138 : decode cX3_thing 138 = .ok (.if_icmp .ne 27, 3) := by decide +kernel
theorem dX3_thing_141 : decode cX3_thing 141 = .ok (.aload_n 0, 1) := by decide +kernel
theorem dX3_thing_142 : decode cX3_thing 142 = .ok (.getfield 7, 3) := by decide +kernel
theorem dX3_thing_145 : decode cX3_thing 145 = .ok (.bipush 82, 2) := by decide +kernel
theorem dX3_thing_147 : decode cX3_thing 147 = .ok (.iload 5, 2) := by decide +kernel
theorem dX3_thing_149 : decode cX3_thing 149 = .ok (.iload_n 1, 1) := by decide +kernel
theorem dX3_thing_150 : decode cX3_thing 150 = .ok (.invokestatic 32, 3) := by decide +kernel
theorem dX3_thing_153 : decode cX3_thing 153 = .ok (.iaload, 1) := by decide +kernel
theorem dX3_thing_154 : decode cX3_thing 154 = .ok (.ifCond .lt 7, 3) := by decide +kernel
theorem dX3_thing_157 : decode cX3_thing 157 = .ok (.iconst 1, 1) := by decide +kernel
theorem dX3_thing_158 : decode cX3_thing 158 = .ok (.goto 14, 3) := by decide +kernel
theorem dX3_thing_161 : decode cX3_thing 161 = .ok (.iconst 0, 1) := by decide +kernel
theorem dX3_thing_162 : decode cX3_thing 162 = .ok (.goto 10, 3) := by decide +kernel
theorem dX3_thing_165 : decode cX3_thing 165 = .ok (.aload_n 0, 1) := by decide +kernel
theorem dX3_thing_166 : decode cX3_thing 166 = .ok (.iload 5, 2) := by decide +kernel
theorem dX3_thing_168 : decode cX3_thing 168 = .ok (.iload_n 1, 1) := by decide +kernel
theorem dX3_thing_169 : decode cX3_thing 169 = .ok (.invokevirtual 71, 3) := by decide +kernel
theorem dX3_thing_172 : decode cX3_thing 172 = .ok (.istore 6, 2) := by decide +kernel
theorem dX3_thing_174 : decode cX3_thing 174 = .ok (.iload 4, 2) := by decide +kernel
theorem dX3_thing_176 : decode cX3_thing 176 = .ok (.iload 6, 2) := by decide +kernel
theorem dX3_thing_178 : decode cX3_thing 178 = .ok (.ifCond .eq 10, 3) := by decide +kernel
theorem dX3_thing_181 : decode cX3_thing 181 = .ok (.iconst 1, 1) := by decide +kernel
theorem dX3_thing_182 : decode cX3_thing 182 = .ok (.iload 5, 2) := by decide +kernel
theorem dX3_thing_184 : decode cX3_thing 184 = .ok (.ishl, 1) := by decide +kernel
theorem dX3_thing_185 : decode cX3_thing 185 = .ok (.goto 4, 3) := by decide +kernel
theorem dX3_thing_188 : decode cX3_thing 188 = .ok (.iconst 0, 1) := by decide +kernel
theorem dX3_thing_189 : decode cX3_thing 189 = .ok (.ior, 1) := by decide +kernel
theorem dX3_thing_190 : decode cX3_thing 190 = .ok (.istore 4, 2) := by decide +kernel
theorem dX3_thing_192 : decode cX3_thing 192 = .ok (.iinc 5 1, 3) := by decide +kernel
theorem dX3_thing_195 : decode cX3_thing 195 = .ok (.goto (-80), 3) := by decide +kernel
theorem dX3_thing_198 : decode cX3_thing 198 = .ok (.iload 4, 2) := by decide +kernel
theorem dX3_thing_200 : decode cX3_thing 200 = .ok (.ireturn, 1) := by decide +kernel
set_option maxRecDepth 20000 in
theorem ggX3_copy_X3_isReader : GoodIn wsX3_copy wsX3_isReader := goodIn_r _ [5, 6, 7, 4, 8] (by decide +kernel) (by decide +kernel)
set_option maxRecDepth 20000 in
theorem gX3_copy_X3_isReader : GoodIn wsX3_copy (va_wsS RX3 28 yX3_isReader wsX3_isReader) := goodIn_app (goodIn_of _ (by decide +kernel)) ggX3_copy_X3_isReader
set_option maxRecDepth 20000 in
theorem ggX3_copy_X3_isThing : GoodIn wsX3_copy wsX3_isThing := goodIn_r _ [11, 6, 7, 4, 8] (by decide +kernel) (by decide +kernel)
set_option maxRecDepth 20000 in
theorem gX3_copy_X3_isThing : GoodIn wsX3_copy (va_wsS RX3 60 yX3_isThing wsX3_isThing) := goodIn_app (goodIn_of _ (by decide +kernel)) ggX3_copy_X3_isThing
set_option maxRecDepth 20000 in
theorem ggX3_copy_X3_thingAt : GoodIn wsX3_copy wsX3_thingAt := goodIn_r _ [14] (by decide +kernel) (by decide +kernel)
set_option maxRecDepth 20000 in
theorem gX3_copy_X3_thingAt : GoodIn wsX3_copy (va_wsS RX3 32 yX3_thingAt wsX3_thingAt) := goodIn_app (goodIn_of _ (by decide +kernel)) ggX3_copy_X3_thingAt
set_option maxRecDepth 20000 in
theorem ggX3_copy_X3_canUse : GoodIn wsX3_copy wsX3_canUse := goodIn_r _ [18, 1, 12, 13, 4, 14, 19, 20, 21, 22, 23, 24, 25, 26, 27, 28] (by decide +kernel) (by decide +kernel)
set_option maxRecDepth 20000 in
theorem gX3_copy_X3_canUse : GoodIn wsX3_copy (wsV RX3 71 RX3 yX3_canUse wsX3_canUse) := goodIn_app (goodIn_of _ (by decide +kernel)) ggX3_copy_X3_canUse
theorem dX3_copy_0 : decode cX3_copy 0 = .ok (.iload_n 1, 1) := by decide +kernel
theorem dX3_copy_1 : decode cX3_copy 1 = .ok (.invokestatic 28, 3) := by decide +kernel
theorem dX3_copy_4 : decode cX3_copy 4 = .ok (.ifCond .eq 10, 3) := by decide +kernel
theorem dX3_copy_7 : decode cX3_copy 7 = .ok (.iload_n 2, 1) := by decide +kernel
theorem dX3_copy_8 : decode cX3_copy 8 = .ok (.invokestatic 60, 3) := by decide +kernel
theorem dX3_copy_11 : decode cX3_copy 11 = .ok (.ifCond .ne 5, 3) := by decide +kernel
theorem dX3_copy_14 : decode cX3_copy 14 = .ok (.iconst (-1), 1) := by decide +kernel
theorem dX3_copy_15 : decode cX3_copy 15 = .ok (.ireturn, 1) := by decide +kernel
theorem dX3_copy_16 : decode cX3_copy 16 = .ok (.iload_n 3, 1) := by decide +kernel
theorem dX3_copy_17 : decode cX3_copy 17 = .ok (.tableswitch 87 0 3 #[31, 44, 58, 72], 31) := by decide +kernel
theorem dX3_copy_48 : decode cX3_copy 48 = .ok (.aload_n 0, 1) := by decide +kernel
theorem dX3_copy_49 : decode cX3_copy 49 = .ok (.getfield 7, 3) := by decide +kernel
theorem dX3_copy_52 : decode cX3_copy 52 = .ok (.bipush 82, 2) := by decide +kernel
theorem dX3_copy_54 : decode cX3_copy 54 = .ok (.iload_n 1, 1) := by decide +kernel
theorem dX3_copy_55 : decode cX3_copy 55 = .ok (.iload_n 2, 1) := by decide +kernel
theorem dX3_copy_56 : decode cX3_copy 56 = .ok (.invokestatic 32, 3) := by decide +kernel
theorem dX3_copy_59 : decode cX3_copy 59 = .ok (.iaload, 1) := by decide +kernel
theorem dX3_copy_60 : decode cX3_copy 60 = .ok (.ireturn, 1) := by decide +kernel
theorem dX3_copy_61 : decode cX3_copy 61 = .ok (.aload_n 0, 1) := by decide +kernel
theorem dX3_copy_62 : decode cX3_copy 62 = .ok (.getfield 7, 3) := by decide +kernel
theorem dX3_copy_65 : decode cX3_copy 65 = .ok (.sipush 142, 3) := by decide +kernel
theorem dX3_copy_68 : decode cX3_copy 68 = .ok (.iload_n 1, 1) := by decide +kernel
theorem dX3_copy_69 : decode cX3_copy 69 = .ok (.iload_n 2, 1) := by decide +kernel
theorem dX3_copy_70 : decode cX3_copy 70 = .ok (.invokestatic 32, 3) := by decide +kernel
theorem dX3_copy_73 : decode cX3_copy 73 = .ok (.iaload, 1) := by decide +kernel
theorem dX3_copy_74 : decode cX3_copy 74 = .ok (.ireturn, 1) := by decide +kernel
theorem dX3_copy_75 : decode cX3_copy 75 = .ok (.aload_n 0, 1) := by decide +kernel
theorem dX3_copy_76 : decode cX3_copy 76 = .ok (.getfield 7, 3) := by decide +kernel
theorem dX3_copy_79 : decode cX3_copy 79 = .ok (.sipush 202, 3) := by decide +kernel
theorem dX3_copy_82 : decode cX3_copy 82 = .ok (.iload_n 1, 1) := by decide +kernel
theorem dX3_copy_83 : decode cX3_copy 83 = .ok (.iload_n 2, 1) := by decide +kernel
theorem dX3_copy_84 : decode cX3_copy 84 = .ok (.invokestatic 32, 3) := by decide +kernel
theorem dX3_copy_87 : decode cX3_copy 87 = .ok (.iaload, 1) := by decide +kernel
theorem dX3_copy_88 : decode cX3_copy 88 = .ok (.ireturn, 1) := by decide +kernel
theorem dX3_copy_89 : decode cX3_copy 89 = .ok (.aload_n 0, 1) := by decide +kernel
theorem dX3_copy_90 : decode cX3_copy 90 = .ok (.iload_n 1, 1) := by decide +kernel
theorem dX3_copy_91 : decode cX3_copy 91 = .ok (.iload_n 2, 1) := by decide +kernel
theorem dX3_copy_92 : decode cX3_copy 92 = .ok (.invokevirtual 71, 3) := by decide +kernel
theorem dX3_copy_95 : decode cX3_copy 95 = .ok (.ifCond .eq 7, 3) := by decide +kernel
theorem dX3_copy_98 : decode cX3_copy 98 = .ok (.iconst 1, 1) := by decide +kernel
theorem dX3_copy_99 : decode cX3_copy 99 = .ok (.goto 4, 3) := by decide +kernel
theorem dX3_copy_102 : decode cX3_copy 102 = .ok (.iconst 0, 1) := by decide +kernel
theorem dX3_copy_103 : decode cX3_copy 103 = .ok (.ireturn, 1) := by decide +kernel
theorem dX3_copy_104 : decode cX3_copy 104 = .ok (.bipush (-2), 2) := by decide +kernel
theorem dX3_copy_106 : decode cX3_copy 106 = .ok (.ireturn, 1) := by decide +kernel
set_option maxRecDepth 20000 in
theorem ggX3_volume_X3_isReader : GoodIn wsX3_volume wsX3_isReader := goodIn_r _ [5, 6, 7, 4, 8] (by decide +kernel) (by decide +kernel)
set_option maxRecDepth 20000 in
theorem gX3_volume_X3_isReader : GoodIn wsX3_volume (va_wsS RX3 28 yX3_isReader wsX3_isReader) := goodIn_app (goodIn_of _ (by decide +kernel)) ggX3_volume_X3_isReader
set_option maxRecDepth 20000 in
theorem ggX3_volume_X3_in : GoodIn wsX3_volume wsX3_in := goodIn_r _ [8] (by decide +kernel) (by decide +kernel)
set_option maxRecDepth 20000 in
theorem gX3_volume_X3_in : GoodIn wsX3_volume (va_wsS RX3 24 yX3_in wsX3_in) := goodIn_app (goodIn_of _ (by decide +kernel)) ggX3_volume_X3_in
set_option maxRecDepth 20000 in
theorem ggX3_volume_X3_isOver : GoodIn wsX3_volume wsX3_isOver := goodIn_r _ [12, 1, 13, 14, 15] (by decide +kernel) (by decide +kernel)
set_option maxRecDepth 20000 in
theorem gX3_volume_X3_isOver : GoodIn wsX3_volume (wsV RX3 36 RX3 yX3_isOver wsX3_isOver) := goodIn_app (goodIn_of _ (by decide +kernel)) ggX3_volume_X3_isOver
theorem dX3_volume_0 : decode cX3_volume 0 = .ok (.iload_n 1, 1) := by decide +kernel
theorem dX3_volume_1 : decode cX3_volume 1 = .ok (.invokestatic 28, 3) := by decide +kernel
theorem dX3_volume_4 : decode cX3_volume 4 = .ok (.ifCond .eq 12, 3) := by decide +kernel
theorem dX3_volume_7 : decode cX3_volume 7 = .ok (.iload_n 2, 1) := by decide +kernel
theorem dX3_volume_8 : decode cX3_volume 8 = .ok (.iconst 0, 1) := by decide +kernel
theorem dX3_volume_9 : decode cX3_volume 9 = .ok (.iconst 2, 1) := by decide +kernel
theorem dX3_volume_10 : decode cX3_volume 10 = .ok (.invokestatic 24, 3) := by decide +kernel
theorem dX3_volume_13 : decode cX3_volume 13 = .ok (.ifCond .ne 5, 3) := by decide +kernel
theorem dX3_volume_16 : decode cX3_volume 16 = .ok (.iconst (-1), 1) := by decide +kernel
theorem dX3_volume_17 : decode cX3_volume 17 = .ok (.ireturn, 1) := by decide +kernel
theorem dX3_volume_18 : decode cX3_volume 18 = .ok (.iload_n 3, 1) := by decide +kernel
theorem dX3_volume_19 : decode cX3_volume 19 = .ok (.iconst 0, 1) := by decide +kernel
theorem dX3_volume_20 : decode cX3_volume 20 = .ok (.iconst 2, 1) := by decide +kernel
theorem dX3_volume_21 : decode cX3_volume 21 = .ok (.invokestatic 24, 3) := by decide +kernel
theorem dX3_volume_24 : decode cX3_volume 24 = .ok (.ifCond .ne 6, 3) := by decide +kernel
theorem dX3_volume_27 : decode cX3_volume 27 = .ok (.bipush (-2), 2) := by decide +kernel
theorem dX3_volume_29 : decode cX3_volume 29 = .ok (.ireturn, 1) := by decide +kernel
theorem dX3_volume_30 : decode cX3_volume 30 = .ok (.aload_n 0, 1) := by decide +kernel
theorem dX3_volume_31 : decode cX3_volume 31 = .ok (.getfield 7, 3) := by decide +kernel
theorem dX3_volume_34 : decode cX3_volume 34 = .ok (.bipush 52, 2) := by decide +kernel
theorem dX3_volume_36 : decode cX3_volume 36 = .ok (.iconst 3, 1) := by decide +kernel
theorem dX3_volume_37 : decode cX3_volume 37 = .ok (.iload_n 1, 1) := by decide +kernel
theorem dX3_volume_38 : decode cX3_volume 38 = .ok (.imul, 1) := by decide +kernel
theorem dX3_volume_39 : decode cX3_volume 39 = .ok (.iadd, 1) := by decide +kernel
theorem dX3_volume_40 : decode cX3_volume 40 = .ok (.iload_n 2, 1) := by decide +kernel
theorem dX3_volume_41 : decode cX3_volume 41 = .ok (.iadd, 1) := by decide +kernel
theorem dX3_volume_42 : decode cX3_volume 42 = .ok (.iaload, 1) := by decide +kernel
theorem dX3_volume_43 : decode cX3_volume 43 = .ok (.istore 4, 2) := by decide +kernel
theorem dX3_volume_45 : decode cX3_volume 45 = .ok (.iload_n 3, 1) := by decide +kernel
theorem dX3_volume_46 : decode cX3_volume 46 = .ok (.ifCond .ne 8, 3) := by decide +kernel
theorem dX3_volume_49 : decode cX3_volume 49 = .ok (.iload 4, 2) := by decide +kernel
theorem dX3_volume_51 : decode cX3_volume 51 = .ok (.goto 39, 3) := by decide +kernel
theorem dX3_volume_54 : decode cX3_volume 54 = .ok (.iload_n 3, 1) := by decide +kernel
theorem dX3_volume_55 : decode cX3_volume 55 = .ok (.iconst 1, 1) := by decide +kernel
theorem dX3_volume_56 : decode cX3_volume 56 = .ok (.if_icmp .ne 21, 3) := by decide +kernel
theorem dX3_volume_59 : decode cX3_volume 59 = .ok (.aload_n 0, 1) := by decide +kernel
theorem dX3_volume_60 : decode cX3_volume 60 = .ok (.iload_n 1, 1) := by decide +kernel
theorem dX3_volume_61 : decode cX3_volume 61 = .ok (.iload 4, 2) := by decide +kernel
theorem dX3_volume_63 : decode cX3_volume 63 = .ok (.invokevirtual 36, 3) := by decide +kernel
theorem dX3_volume_66 : decode cX3_volume 66 = .ok (.ifCond .eq 7, 3) := by decide +kernel
theorem dX3_volume_69 : decode cX3_volume 69 = .ok (.iconst 1, 1) := by decide +kernel
theorem dX3_volume_70 : decode cX3_volume 70 = .ok (.goto 20, 3) := by decide +kernel
theorem dX3_volume_73 : decode cX3_volume 73 = .ok (.iconst 0, 1) := by decide +kernel
theorem dX3_volume_74 : decode cX3_volume 74 = .ok (.goto 16, 3) := by decide +kernel
theorem dX3_volume_77 : decode cX3_volume 77 = .ok (.aload_n 0, 1) := by decide +kernel
theorem dX3_volume_78 : decode cX3_volume 78 = .ok (.getfield 7, 3) := by decide +kernel
theorem dX3_volume_81 : decode cX3_volume 81 = .ok (.bipush 67, 2) := by decide +kernel
theorem dX3_volume_83 : decode cX3_volume 83 = .ok (.iconst 3, 1) := by decide +kernel
theorem dX3_volume_84 : decode cX3_volume 84 = .ok (.iload_n 1, 1) := by decide +kernel
theorem dX3_volume_85 : decode cX3_volume 85 = .ok (.imul, 1) := by decide +kernel
theorem dX3_volume_86 : decode cX3_volume 86 = .ok (.iadd, 1) := by decide +kernel
theorem dX3_volume_87 : decode cX3_volume 87 = .ok (.iload_n 2, 1) := by decide +kernel
theorem dX3_volume_88 : decode cX3_volume 88 = .ok (.iadd, 1) := by decide +kernel
theorem dX3_volume_89 : decode cX3_volume 89 = .ok (.iaload, 1) := by decide +kernel
theorem dX3_volume_90 : decode cX3_volume 90 = .ok (.ireturn, 1) := by decide +kernel
set_option maxRecDepth 20000 in
theorem ggX3_reader_X3_isReader : GoodIn wsX3_reader wsX3_isReader := goodIn_r _ [5, 6, 7, 4, 8] (by decide +kernel) (by decide +kernel)
set_option maxRecDepth 20000 in
theorem gX3_reader_X3_isReader : GoodIn wsX3_reader (va_wsS RX3 28 yX3_isReader wsX3_isReader) := goodIn_app (goodIn_of _ (by decide +kernel)) ggX3_reader_X3_isReader
set_option maxRecDepth 20000 in
theorem ggX3_reader_X3_in : GoodIn wsX3_reader wsX3_in := goodIn_r _ [8] (by decide +kernel) (by decide +kernel)
set_option maxRecDepth 20000 in
theorem gX3_reader_X3_in : GoodIn wsX3_reader (va_wsS RX3 24 yX3_in wsX3_in) := goodIn_app (goodIn_of _ (by decide +kernel)) ggX3_reader_X3_in
set_option maxRecDepth 20000 in
theorem ggX3_reader_X3_said : GoodIn wsX3_reader wsX3_said := goodIn_r _ [11] (by decide +kernel) (by decide +kernel)
set_option maxRecDepth 20000 in
theorem gX3_reader_X3_said : GoodIn wsX3_reader (va_wsS RX3 20 yX3_said wsX3_said) := goodIn_app (goodIn_of _ (by decide +kernel)) ggX3_reader_X3_said
theorem dX3_reader_0 : decode cX3_reader 0 = .ok (.iload_n 1, 1) := by decide +kernel
theorem dX3_reader_1 : decode cX3_reader 1 = .ok (.invokestatic 28, 3) := by decide +kernel
theorem dX3_reader_4 : decode cX3_reader 4 = .ok (.ifCond .ne 5, 3) := by decide +kernel
theorem dX3_reader_7 : decode cX3_reader 7 = .ok (.iconst (-1), 1) := by decide +kernel
theorem dX3_reader_8 : decode cX3_reader 8 = .ok (.ireturn, 1) := by decide +kernel
theorem dX3_reader_9 : decode cX3_reader 9 = .ok (.iload_n 2, 1) := by decide +kernel
theorem dX3_reader_10 : decode cX3_reader 10 = .ok (.iconst 0, 1) := by decide +kernel
theorem dX3_reader_11 : decode cX3_reader 11 = .ok (.bipush 7, 2) := by decide +kernel
theorem dX3_reader_13 : decode cX3_reader 13 = .ok (.invokestatic 24, 3) := by decide +kernel
theorem dX3_reader_16 : decode cX3_reader 16 = .ok (.ifCond .ne 6, 3) := by decide +kernel
theorem dX3_reader_19 : decode cX3_reader 19 = .ok (.bipush (-2), 2) := by decide +kernel
theorem dX3_reader_21 : decode cX3_reader 21 = .ok (.ireturn, 1) := by decide +kernel
theorem dX3_reader_22 : decode cX3_reader 22 = .ok (.iload_n 2, 1) := by decide +kernel
theorem dX3_reader_23 : decode cX3_reader 23 = .ok (.ifCond .ne 15, 3) := by decide +kernel
theorem dX3_reader_26 : decode cX3_reader 26 = .ok (.aload_n 0, 1) := by decide +kernel
theorem dX3_reader_27 : decode cX3_reader 27 = .ok (.getfield 7, 3) := by decide +kernel
theorem dX3_reader_30 : decode cX3_reader 30 = .ok (.bipush 42, 2) := by decide +kernel
theorem dX3_reader_32 : decode cX3_reader 32 = .ok (.iload_n 1, 1) := by decide +kernel
theorem dX3_reader_33 : decode cX3_reader 33 = .ok (.iadd, 1) := by decide +kernel
theorem dX3_reader_34 : decode cX3_reader 34 = .ok (.iaload, 1) := by decide +kernel
theorem dX3_reader_35 : decode cX3_reader 35 = .ok (.goto 35, 3) := by decide +kernel
theorem dX3_reader_38 : decode cX3_reader 38 = .ok (.iload_n 2, 1) := by decide +kernel
theorem dX3_reader_39 : decode cX3_reader 39 = .ok (.iconst 1, 1) := by decide +kernel
theorem dX3_reader_40 : decode cX3_reader 40 = .ok (.if_icmp .ne 18, 3) := by decide +kernel
theorem dX3_reader_43 : decode cX3_reader 43 = .ok (.aload_n 0, 1) := by decide +kernel
theorem dX3_reader_44 : decode cX3_reader 44 = .ok (.getfield 7, 3) := by decide +kernel
theorem dX3_reader_47 : decode cX3_reader 47 = .ok (.bipush 47, 2) := by decide +kernel
theorem dX3_reader_49 : decode cX3_reader 49 = .ok (.iload_n 1, 1) := by decide +kernel
theorem dX3_reader_50 : decode cX3_reader 50 = .ok (.iadd, 1) := by decide +kernel
theorem dX3_reader_51 : decode cX3_reader 51 = .ok (.iaload, 1) := by decide +kernel
theorem dX3_reader_52 : decode cX3_reader 52 = .ok (.bipush 100, 2) := by decide +kernel
theorem dX3_reader_54 : decode cX3_reader 54 = .ok (.iadd, 1) := by decide +kernel
theorem dX3_reader_55 : decode cX3_reader 55 = .ok (.goto 15, 3) := by decide +kernel
theorem dX3_reader_58 : decode cX3_reader 58 = .ok (.aload_n 0, 1) := by decide +kernel
theorem dX3_reader_59 : decode cX3_reader 59 = .ok (.getfield 7, 3) := by decide +kernel
theorem dX3_reader_62 : decode cX3_reader 62 = .ok (.iload_n 1, 1) := by decide +kernel
theorem dX3_reader_63 : decode cX3_reader 63 = .ok (.iload_n 2, 1) := by decide +kernel
theorem dX3_reader_64 : decode cX3_reader 64 = .ok (.iconst 2, 1) := by decide +kernel
theorem dX3_reader_65 : decode cX3_reader 65 = .ok (.isub, 1) := by decide +kernel
theorem dX3_reader_66 : decode cX3_reader 66 = .ok (.invokestatic 20, 3) := by decide +kernel
theorem dX3_reader_69 : decode cX3_reader 69 = .ok (.iaload, 1) := by decide +kernel
theorem dX3_reader_70 : decode cX3_reader 70 = .ok (.ireturn, 1) := by decide +kernel
set_option maxRecDepth 20000 in
theorem ggX3_waiting_X3_in : GoodIn wsX3_waiting wsX3_in := goodIn_r _ [5] (by decide +kernel) (by decide +kernel)
set_option maxRecDepth 20000 in
theorem gX3_waiting_X3_in : GoodIn wsX3_waiting (va_wsS RX3 24 yX3_in wsX3_in) := goodIn_app (goodIn_of _ (by decide +kernel)) ggX3_waiting_X3_in
theorem dX3_waiting_0 : decode cX3_waiting 0 = .ok (.iload_n 1, 1) := by decide +kernel
theorem dX3_waiting_1 : decode cX3_waiting 1 = .ok (.iconst 0, 1) := by decide +kernel
theorem dX3_waiting_2 : decode cX3_waiting 2 = .ok (.aload_n 0, 1) := by decide +kernel
theorem dX3_waiting_3 : decode cX3_waiting 3 = .ok (.getfield 7, 3) := by decide +kernel
theorem dX3_waiting_6 : decode cX3_waiting 6 = .ok (.bipush 41, 2) := by decide +kernel
theorem dX3_waiting_8 : decode cX3_waiting 8 = .ok (.iaload, 1) := by decide +kernel
theorem dX3_waiting_9 : decode cX3_waiting 9 = .ok (.iconst 1, 1) := by decide +kernel
theorem dX3_waiting_10 : decode cX3_waiting 10 = .ok (.isub, 1) := by decide +kernel
theorem dX3_waiting_11 : decode cX3_waiting 11 = .ok (.invokestatic 24, 3) := by decide +kernel
theorem dX3_waiting_14 : decode cX3_waiting 14 = .ok (.ifCond .eq 15, 3) := by decide +kernel
theorem dX3_waiting_17 : decode cX3_waiting 17 = .ok (.aload_n 0, 1) := by decide +kernel
theorem dX3_waiting_18 : decode cX3_waiting 18 = .ok (.getfield 7, 3) := by decide +kernel
theorem dX3_waiting_21 : decode cX3_waiting 21 = .ok (.bipush 29, 2) := by decide +kernel
theorem dX3_waiting_23 : decode cX3_waiting 23 = .ok (.iload_n 1, 1) := by decide +kernel
theorem dX3_waiting_24 : decode cX3_waiting 24 = .ok (.iadd, 1) := by decide +kernel
theorem dX3_waiting_25 : decode cX3_waiting 25 = .ok (.iaload, 1) := by decide +kernel
theorem dX3_waiting_26 : decode cX3_waiting 26 = .ok (.goto 5, 3) := by decide +kernel
theorem dX3_waiting_29 : decode cX3_waiting 29 = .ok (.bipush (-6), 2) := by decide +kernel
theorem dX3_waiting_31 : decode cX3_waiting 31 = .ok (.ireturn, 1) := by decide +kernel
set_option maxRecDepth 20000 in
theorem ggX3_count_X3_in : GoodIn wsX3_count wsX3_in := goodIn_r _ [6] (by decide +kernel) (by decide +kernel)
set_option maxRecDepth 20000 in
theorem gX3_count_X3_in : GoodIn wsX3_count (va_wsS RX3 24 yX3_in wsX3_in) := goodIn_app (goodIn_of _ (by decide +kernel)) ggX3_count_X3_in
theorem dX3_count_0 : decode cX3_count 0 = .ok (.iload_n 1, 1) := by decide +kernel
theorem dX3_count_1 : decode cX3_count 1 = .ok (.tableswitch 150 0 8 #[51, 58, 67, 76, 85, 93, 102, 111, 120], 51) := by decide +kernel
theorem dX3_count_52 : decode cX3_count 52 = .ok (.aload_n 0, 1) := by decide +kernel
theorem dX3_count_53 : decode cX3_count 53 = .ok (.getfield 7, 3) := by decide +kernel
theorem dX3_count_56 : decode cX3_count 56 = .ok (.iconst 0, 1) := by decide +kernel
theorem dX3_count_57 : decode cX3_count 57 = .ok (.iaload, 1) := by decide +kernel
theorem dX3_count_58 : decode cX3_count 58 = .ok (.ireturn, 1) := by decide +kernel
theorem dX3_count_59 : decode cX3_count 59 = .ok (.aload_n 0, 1) := by decide +kernel
theorem dX3_count_60 : decode cX3_count 60 = .ok (.getfield 7, 3) := by decide +kernel
theorem dX3_count_63 : decode cX3_count 63 = .ok (.sipush 303, 3) := by decide +kernel
theorem dX3_count_66 : decode cX3_count 66 = .ok (.iaload, 1) := by decide +kernel
theorem dX3_count_67 : decode cX3_count 67 = .ok (.ireturn, 1) := by decide +kernel
theorem dX3_count_68 : decode cX3_count 68 = .ok (.aload_n 0, 1) := by decide +kernel
theorem dX3_count_69 : decode cX3_count 69 = .ok (.getfield 7, 3) := by decide +kernel
theorem dX3_count_72 : decode cX3_count 72 = .ok (.sipush 304, 3) := by decide +kernel
theorem dX3_count_75 : decode cX3_count 75 = .ok (.iaload, 1) := by decide +kernel
theorem dX3_count_76 : decode cX3_count 76 = .ok (.ireturn, 1) := by decide +kernel
theorem dX3_count_77 : decode cX3_count 77 = .ok (.aload_n 0, 1) := by decide +kernel
theorem dX3_count_78 : decode cX3_count 78 = .ok (.getfield 7, 3) := by decide +kernel
theorem dX3_count_81 : decode cX3_count 81 = .ok (.sipush 305, 3) := by decide +kernel
theorem dX3_count_84 : decode cX3_count 84 = .ok (.iaload, 1) := by decide +kernel
theorem dX3_count_85 : decode cX3_count 85 = .ok (.ireturn, 1) := by decide +kernel
theorem dX3_count_86 : decode cX3_count 86 = .ok (.aload_n 0, 1) := by decide +kernel
theorem dX3_count_87 : decode cX3_count 87 = .ok (.getfield 7, 3) := by decide +kernel
theorem dX3_count_90 : decode cX3_count 90 = .ok (.bipush 41, 2) := by decide +kernel
theorem dX3_count_92 : decode cX3_count 92 = .ok (.iaload, 1) := by decide +kernel
theorem dX3_count_93 : decode cX3_count 93 = .ok (.ireturn, 1) := by decide +kernel
theorem dX3_count_94 : decode cX3_count 94 = .ok (.aload_n 0, 1) := by decide +kernel
theorem dX3_count_95 : decode cX3_count 95 = .ok (.getfield 7, 3) := by decide +kernel
theorem dX3_count_98 : decode cX3_count 98 = .ok (.sipush 306, 3) := by decide +kernel
theorem dX3_count_101 : decode cX3_count 101 = .ok (.iaload, 1) := by decide +kernel
theorem dX3_count_102 : decode cX3_count 102 = .ok (.ireturn, 1) := by decide +kernel
theorem dX3_count_103 : decode cX3_count 103 = .ok (.aload_n 0, 1) := by decide +kernel
theorem dX3_count_104 : decode cX3_count 104 = .ok (.getfield 7, 3) := by decide +kernel
theorem dX3_count_107 : decode cX3_count 107 = .ok (.sipush 307, 3) := by decide +kernel
theorem dX3_count_110 : decode cX3_count 110 = .ok (.iaload, 1) := by decide +kernel
theorem dX3_count_111 : decode cX3_count 111 = .ok (.ireturn, 1) := by decide +kernel
theorem dX3_count_112 : decode cX3_count 112 = .ok (.aload_n 0, 1) := by decide +kernel
theorem dX3_count_113 : decode cX3_count 113 = .ok (.getfield 7, 3) := by decide +kernel
theorem dX3_count_116 : decode cX3_count 116 = .ok (.sipush 308, 3) := by decide +kernel
theorem dX3_count_119 : decode cX3_count 119 = .ok (.iaload, 1) := by decide +kernel
theorem dX3_count_120 : decode cX3_count 120 = .ok (.ireturn, 1) := by decide +kernel
theorem dX3_count_121 : decode cX3_count 121 = .ok (.aload_n 0, 1) := by decide +kernel
theorem dX3_count_122 : decode cX3_count 122 = .ok (.getfield 16, 3) := by decide +kernel
theorem dX3_count_125 : decode cX3_count 125 = .ok (.iconst 0, 1) := by decide +kernel
theorem dX3_count_126 : decode cX3_count 126 = .ok (.baload, 1) := by decide +kernel
theorem dX3_count_127 : decode cX3_count 127 = .ok (.ifCond .eq 7, 3) := by decide +kernel
theorem dX3_count_130 : decode cX3_count 130 = .ok (.iconst 1, 1) := by decide +kernel
theorem dX3_count_131 : decode cX3_count 131 = .ok (.goto 4, 3) := by decide +kernel
theorem dX3_count_134 : decode cX3_count 134 = .ok (.iconst 0, 1) := by decide +kernel
theorem dX3_count_135 : decode cX3_count 135 = .ok (.aload_n 0, 1) := by decide +kernel
theorem dX3_count_136 : decode cX3_count 136 = .ok (.getfield 16, 3) := by decide +kernel
theorem dX3_count_139 : decode cX3_count 139 = .ok (.iconst 1, 1) := by decide +kernel
theorem dX3_count_140 : decode cX3_count 140 = .ok (.baload, 1) := by decide +kernel
theorem dX3_count_141 : decode cX3_count 141 = .ok (.ifCond .eq 7, 3) := by decide +kernel
theorem dX3_count_144 : decode cX3_count 144 = .ok (.iconst 2, 1) := by decide +kernel
theorem dX3_count_145 : decode cX3_count 145 = .ok (.goto 4, 3) := by decide +kernel
theorem dX3_count_148 : decode cX3_count 148 = .ok (.iconst 0, 1) := by decide +kernel
theorem dX3_count_149 : decode cX3_count 149 = .ok (.iadd, 1) := by decide +kernel
theorem dX3_count_150 : decode cX3_count 150 = .ok (.ireturn, 1) := by decide +kernel
theorem dX3_count_151 : decode cX3_count 151 = .ok (.iload_n 1, 1) := by decide +kernel
theorem dX3_count_152 : decode cX3_count 152 = .ok (.bipush 10, 2) := by decide +kernel
theorem dX3_count_154 : decode cX3_count 154 = .ok (.bipush 13, 2) := by decide +kernel
theorem dX3_count_156 : decode cX3_count 156 = .ok (.invokestatic 24, 3) := by decide +kernel
theorem dX3_count_159 : decode cX3_count 159 = .ok (.ifCond .eq 17, 3) := by decide +kernel
theorem dX3_count_162 : decode cX3_count 162 = .ok (.aload_n 0, 1) := by decide +kernel
theorem dX3_count_163 : decode cX3_count 163 = .ok (.getfield 7, 3) := by decide +kernel
theorem dX3_count_166 : decode cX3_count 166 = .ok (.iconst 1, 1) := by decide +kernel
theorem dX3_count_167 : decode cX3_count 167 = .ok (.iload_n 1, 1) := by decide +kernel
theorem dX3_count_168 : decode cX3_count 168 = .ok (.iadd, 1) := by decide +kernel
theorem dX3_count_169 : decode cX3_count 169 = .ok (.bipush 10, 2) := by decide +kernel
theorem dX3_count_171 : decode cX3_count 171 = .ok (.isub, 1) := by decide +kernel
theorem dX3_count_172 : decode cX3_count 172 = .ok (.iaload, 1) := by decide +kernel
theorem dX3_count_173 : decode cX3_count 173 = .ok (.goto 5, 3) := by decide +kernel
theorem dX3_count_176 : decode cX3_count 176 = .ok (.bipush (-2), 2) := by decide +kernel
theorem dX3_count_178 : decode cX3_count 178 = .ok (.ireturn, 1) := by decide +kernel
set_option maxRecDepth 20000 in
theorem ggX3_image_X3_in : GoodIn wsX3_image wsX3_in := goodIn_r _ [7] (by decide +kernel) (by decide +kernel)
set_option maxRecDepth 20000 in
theorem gX3_image_X3_in : GoodIn wsX3_image (va_wsS RX3 24 yX3_in wsX3_in) := goodIn_app (goodIn_of _ (by decide +kernel)) ggX3_image_X3_in
theorem dX3_image_0 : decode cX3_image 0 = .ok (.iload_n 1, 1) := by decide +kernel
theorem dX3_image_1 : decode cX3_image 1 = .ok (.iconst 0, 1) := by decide +kernel
theorem dX3_image_2 : decode cX3_image 2 = .ok (.iconst 1, 1) := by decide +kernel
theorem dX3_image_3 : decode cX3_image 3 = .ok (.invokestatic 24, 3) := by decide +kernel
theorem dX3_image_6 : decode cX3_image 6 = .ok (.ifCond .ne 6, 3) := by decide +kernel
theorem dX3_image_9 : decode cX3_image 9 = .ok (.bipush (-2), 2) := by decide +kernel
theorem dX3_image_11 : decode cX3_image 11 = .ok (.ireturn, 1) := by decide +kernel
theorem dX3_image_12 : decode cX3_image 12 = .ok (.iconst 0, 1) := by decide +kernel
theorem dX3_image_13 : decode cX3_image 13 = .ok (.istore_n 2, 1) := by decide +kernel
theorem dX3_image_14 : decode cX3_image 14 = .ok (.iload_n 2, 1) := by decide +kernel
theorem dX3_image_15 : decode cX3_image 15 = .ok (.sipush 309, 3) := by decide +kernel
theorem dX3_image_18 : decode cX3_image 18 = .ok (.if_icmp .ge 27, 3) := by decide +kernel
theorem dX3_image_21 : decode cX3_image 21 = .ok (.aload_n 0, 1) := by decide +kernel
theorem dX3_image_22 : decode cX3_image 22 = .ok (.getfield 13, 3) := by decide +kernel
theorem dX3_image_25 : decode cX3_image 25 = .ok (.sipush 309, 3) := by decide +kernel
theorem dX3_image_28 : decode cX3_image 28 = .ok (.iload_n 1, 1) := by decide +kernel
theorem dX3_image_29 : decode cX3_image 29 = .ok (.imul, 1) := by decide +kernel
theorem dX3_image_30 : decode cX3_image 30 = .ok (.iload_n 2, 1) := by decide +kernel
theorem dX3_image_31 : decode cX3_image 31 = .ok (.iadd, 1) := by decide +kernel
theorem dX3_image_32 : decode cX3_image 32 = .ok (.aload_n 0, 1) := by decide +kernel
theorem dX3_image_33 : decode cX3_image 33 = .ok (.getfield 7, 3) := by decide +kernel
theorem dX3_image_36 : decode cX3_image 36 = .ok (.iload_n 2, 1) := by decide +kernel
theorem dX3_image_37 : decode cX3_image 37 = .ok (.iaload, 1) := by decide +kernel
theorem dX3_image_38 : decode cX3_image 38 = .ok (.iastore, 1) := by decide +kernel
theorem dX3_image_39 : decode cX3_image 39 = .ok (.iinc 2 1, 3) := by decide +kernel
theorem dX3_image_42 : decode cX3_image 42 = .ok (.goto (-28), 3) := by decide +kernel
theorem dX3_image_45 : decode cX3_image 45 = .ok (.aload_n 0, 1) := by decide +kernel
theorem dX3_image_46 : decode cX3_image 46 = .ok (.getfield 16, 3) := by decide +kernel
theorem dX3_image_49 : decode cX3_image 49 = .ok (.iload_n 1, 1) := by decide +kernel
theorem dX3_image_50 : decode cX3_image 50 = .ok (.iconst 1, 1) := by decide +kernel
theorem dX3_image_51 : decode cX3_image 51 = .ok (.bastore, 1) := by decide +kernel
theorem dX3_image_52 : decode cX3_image 52 = .ok (.iconst 1, 1) := by decide +kernel
theorem dX3_image_53 : decode cX3_image 53 = .ok (.ireturn, 1) := by decide +kernel
set_option maxRecDepth 20000 in
theorem ggX3_restore_X3_in : GoodIn wsX3_restore wsX3_in := goodIn_r _ [7] (by decide +kernel) (by decide +kernel)
set_option maxRecDepth 20000 in
theorem gX3_restore_X3_in : GoodIn wsX3_restore (va_wsS RX3 24 yX3_in wsX3_in) := goodIn_app (goodIn_of _ (by decide +kernel)) ggX3_restore_X3_in
theorem dX3_restore_0 : decode cX3_restore 0 = .ok (.iload_n 1, 1) := by decide +kernel
theorem dX3_restore_1 : decode cX3_restore 1 = .ok (.iconst 0, 1) := by decide +kernel
theorem dX3_restore_2 : decode cX3_restore 2 = .ok (.iconst 1, 1) := by decide +kernel
theorem dX3_restore_3 : decode cX3_restore 3 = .ok (.invokestatic 24, 3) := by decide +kernel
theorem dX3_restore_6 : decode cX3_restore 6 = .ok (.ifCond .ne 6, 3) := by decide +kernel
theorem dX3_restore_9 : decode cX3_restore 9 = .ok (.bipush (-2), 2) := by decide +kernel
theorem dX3_restore_11 : decode cX3_restore 11 = .ok (.ireturn, 1) := by decide +kernel
theorem dX3_restore_12 : decode cX3_restore 12 = .ok (.aload_n 0, 1) := by decide +kernel
theorem dX3_restore_13 : decode cX3_restore 13 = .ok (.getfield 16, 3) := by decide +kernel
theorem dX3_restore_16 : decode cX3_restore 16 = .ok (.iload_n 1, 1) := by decide +kernel
theorem dX3_restore_17 : decode cX3_restore 17 = .ok (.baload, 1) := by decide +kernel
theorem dX3_restore_18 : decode cX3_restore 18 = .ok (.ifCond .ne 6, 3) := by decide +kernel
theorem dX3_restore_21 : decode cX3_restore 21 = .ok (.bipush (-3), 2) := by decide +kernel
theorem dX3_restore_23 : decode cX3_restore 23 = .ok (.ireturn, 1) := by decide +kernel
theorem dX3_restore_24 : decode cX3_restore 24 = .ok (.iconst 0, 1) := by decide +kernel
theorem dX3_restore_25 : decode cX3_restore 25 = .ok (.istore_n 2, 1) := by decide +kernel
theorem dX3_restore_26 : decode cX3_restore 26 = .ok (.iload_n 2, 1) := by decide +kernel
theorem dX3_restore_27 : decode cX3_restore 27 = .ok (.sipush 309, 3) := by decide +kernel
theorem dX3_restore_30 : decode cX3_restore 30 = .ok (.if_icmp .ge 27, 3) := by decide +kernel
theorem dX3_restore_33 : decode cX3_restore 33 = .ok (.aload_n 0, 1) := by decide +kernel
theorem dX3_restore_34 : decode cX3_restore 34 = .ok (.getfield 7, 3) := by decide +kernel
theorem dX3_restore_37 : decode cX3_restore 37 = .ok (.iload_n 2, 1) := by decide +kernel
theorem dX3_restore_38 : decode cX3_restore 38 = .ok (.aload_n 0, 1) := by decide +kernel
theorem dX3_restore_39 : decode cX3_restore 39 = .ok (.getfield 13, 3) := by decide +kernel
theorem dX3_restore_42 : decode cX3_restore 42 = .ok (.sipush 309, 3) := by decide +kernel
theorem dX3_restore_45 : decode cX3_restore 45 = .ok (.iload_n 1, 1) := by decide +kernel
theorem dX3_restore_46 : decode cX3_restore 46 = .ok (.imul, 1) := by decide +kernel
theorem dX3_restore_47 : decode cX3_restore 47 = .ok (.iload_n 2, 1) := by decide +kernel
theorem dX3_restore_48 : decode cX3_restore 48 = .ok (.iadd, 1) := by decide +kernel
theorem dX3_restore_49 : decode cX3_restore 49 = .ok (.iaload, 1) := by decide +kernel
theorem dX3_restore_50 : decode cX3_restore 50 = .ok (.iastore, 1) := by decide +kernel
theorem dX3_restore_51 : decode cX3_restore 51 = .ok (.iinc 2 1, 3) := by decide +kernel
theorem dX3_restore_54 : decode cX3_restore 54 = .ok (.goto (-28), 3) := by decide +kernel
theorem dX3_restore_57 : decode cX3_restore 57 = .ok (.iconst 1, 1) := by decide +kernel
theorem dX3_restore_58 : decode cX3_restore 58 = .ok (.ireturn, 1) := by decide +kernel
theorem dJ9_abs_0f7a4_0 : decode cJ9_abs_0f7a4 0 = .ok (.iload_n 0, 1) := by decide +kernel
theorem dJ9_abs_0f7a4_1 : decode cJ9_abs_0f7a4 1 = .ok (.ifCond .ge 8, 3) := by decide +kernel
theorem dJ9_abs_0f7a4_4 : decode cJ9_abs_0f7a4 4 = .ok (.iload_n 0, 1) := by decide +kernel
theorem dJ9_abs_0f7a4_5 : decode cJ9_abs_0f7a4 5 = .ok (.ineg, 1) := by decide +kernel
theorem dJ9_abs_0f7a4_6 : decode cJ9_abs_0f7a4 6 = .ok (.goto 4, 3) := by decide +kernel
theorem dJ9_abs_0f7a4_9 : decode cJ9_abs_0f7a4 9 = .ok (.iload_n 0, 1) := by decide +kernel
theorem dJ9_abs_0f7a4_10 : decode cJ9_abs_0f7a4 10 = .ok (.ireturn, 1) := by decide +kernel
theorem dJ9_max_7cf53_0 : decode cJ9_max_7cf53 0 = .ok (.iload_n 0, 1) := by decide +kernel
theorem dJ9_max_7cf53_1 : decode cJ9_max_7cf53 1 = .ok (.iload_n 1, 1) := by decide +kernel
theorem dJ9_max_7cf53_2 : decode cJ9_max_7cf53 2 = .ok (.if_icmp .lt 7, 3) := by decide +kernel
theorem dJ9_max_7cf53_5 : decode cJ9_max_7cf53 5 = .ok (.iload_n 0, 1) := by decide +kernel
theorem dJ9_max_7cf53_6 : decode cJ9_max_7cf53 6 = .ok (.goto 4, 3) := by decide +kernel
theorem dJ9_max_7cf53_9 : decode cJ9_max_7cf53 9 = .ok (.iload_n 1, 1) := by decide +kernel
theorem dJ9_max_7cf53_10 : decode cJ9_max_7cf53 10 = .ok (.ireturn, 1) := by decide +kernel
theorem dJ9_min_7cf53_0 : decode cJ9_min_7cf53 0 = .ok (.iload_n 0, 1) := by decide +kernel
theorem dJ9_min_7cf53_1 : decode cJ9_min_7cf53 1 = .ok (.iload_n 1, 1) := by decide +kernel
theorem dJ9_min_7cf53_2 : decode cJ9_min_7cf53 2 = .ok (.if_icmp .gt 7, 3) := by decide +kernel
theorem dJ9_min_7cf53_5 : decode cJ9_min_7cf53 5 = .ok (.iload_n 0, 1) := by decide +kernel
theorem dJ9_min_7cf53_6 : decode cJ9_min_7cf53 6 = .ok (.goto 4, 3) := by decide +kernel
theorem dJ9_min_7cf53_9 : decode cJ9_min_7cf53 9 = .ok (.iload_n 1, 1) := by decide +kernel
theorem dJ9_min_7cf53_10 : decode cJ9_min_7cf53 10 = .ok (.ireturn, 1) := by decide +kernel
theorem dJ7_fill_53178_0 : decode cJ7_fill_53178 0 = .ok (.iconst 0, 1) := by decide +kernel
theorem dJ7_fill_53178_1 : decode cJ7_fill_53178 1 = .ok (.istore_n 2, 1) := by decide +kernel
theorem dJ7_fill_53178_2 : decode cJ7_fill_53178 2 = .ok (.aload_n 0, 1) := by decide +kernel
theorem dJ7_fill_53178_3 : decode cJ7_fill_53178 3 = .ok (.arraylength, 1) := by decide +kernel
theorem dJ7_fill_53178_4 : decode cJ7_fill_53178 4 = .ok (.istore_n 3, 1) := by decide +kernel
theorem dJ7_fill_53178_5 : decode cJ7_fill_53178 5 = .ok (.iload_n 2, 1) := by decide +kernel
theorem dJ7_fill_53178_6 : decode cJ7_fill_53178 6 = .ok (.iload_n 3, 1) := by decide +kernel
theorem dJ7_fill_53178_7 : decode cJ7_fill_53178 7 = .ok (.if_icmp .ge 13, 3) := by decide +kernel
theorem dJ7_fill_53178_10 : decode cJ7_fill_53178 10 = .ok (.aload_n 0, 1) := by decide +kernel
theorem dJ7_fill_53178_11 : decode cJ7_fill_53178 11 = .ok (.iload_n 2, 1) := by decide +kernel
theorem dJ7_fill_53178_12 : decode cJ7_fill_53178 12 = .ok (.iload_n 1, 1) := by decide +kernel
theorem dJ7_fill_53178_13 : decode cJ7_fill_53178 13 = .ok (.iastore, 1) := by decide +kernel
theorem dJ7_fill_53178_14 : decode cJ7_fill_53178 14 = .ok (.iinc 2 1, 3) := by decide +kernel
theorem dJ7_fill_53178_17 : decode cJ7_fill_53178 17 = .ok (.goto (-12), 3) := by decide +kernel
theorem dJ7_fill_53178_20 : decode cJ7_fill_53178 20 = .ok (.return_, 1) := by decide +kernel
set_option maxRecDepth 20000 in
theorem ggL_law_X2_init : GoodIn wsL_law wsX2_init := goodIn_r _ [8, 9, 10, 11, 12, 13, 14, 15, 16, 17, 18, 19, 20, 21, 22, 23, 24, 25, 26, 27, 28, 29, 30, 31, 32, 33, 34, 35, 36, 37, 38, 39, 40, 41, 42, 43, 44, 45, 46, 47, 48, 49, 50, 51, 52, 53, 54, 55, 56, 57, 58, 59, 60, 61, 62, 2, 63, 64, 65, 66, 67, 68, 69, 70, 71, 72, 420, 421, 422, 423, 424, 425, 426, 427, 428, 429, 430, 431, 432, 433, 434, 435, 436, 414, 415, 416, 437, 438, 439, 440, 441, 442, 443, 444, 445, 446, 447, 448, 449] (by decide +kernel) (by decide +kernel)
set_option maxRecDepth 20000 in
theorem gL_law_X2_init : GoodIn wsL_law (wsX2_init) := ggL_law_X2_init
set_option maxRecDepth 20000 in
theorem ggL_law_X3_init : GoodIn wsL_law wsX3_init := goodIn_r _ [75, 76, 10, 11, 22, 77, 78, 79, 80, 81, 82, 5, 83, 417, 418, 419] (by decide +kernel) (by decide +kernel)
set_option maxRecDepth 20000 in
theorem gL_law_X3_init : GoodIn wsL_law (wsX3_init) := ggL_law_X3_init
set_option maxRecDepth 20000 in
theorem ggL_law_X2_rule : GoodIn wsL_law wsX2_rule := goodIn_r _ [87, 88, 89, 15, 414, 415, 416, 420, 421, 422, 423, 424, 425, 426, 427, 428, 429, 430, 431, 432, 433, 434, 435, 436] (by decide +kernel) (by decide +kernel)
set_option maxRecDepth 20000 in
theorem gL_law_X2_rule : GoodIn wsL_law (wsV RL 13 RX2 yX2_rule wsX2_rule) := goodIn_app (goodIn_of _ (by decide +kernel)) ggL_law_X2_rule
set_option maxRecDepth 20000 in
theorem ggL_law_X3_rule : GoodIn wsL_law wsX3_rule := goodIn_r _ [93, 77, 94, 95, 5, 96, 417, 418, 419] (by decide +kernel) (by decide +kernel)
set_option maxRecDepth 20000 in
theorem gL_law_X3_rule : GoodIn wsL_law (wsV RL 17 RX3 yX3_rule wsX3_rule) := goodIn_app (goodIn_of _ (by decide +kernel)) ggL_law_X3_rule
set_option maxRecDepth 20000 in
theorem ggL_law_X2_skew : GoodIn wsL_law wsX2_skew := goodIn_r _ [100, 15, 101, 102, 2, 103, 104, 14, 105, 106, 27, 107, 108, 66, 109, 23, 110, 111, 414, 415, 416, 420, 421, 422, 423, 424, 425, 426, 427, 428, 429, 430, 431, 432, 433, 434, 435, 436, 437, 438, 439, 440, 441, 442, 443, 444, 445, 446, 447, 448, 449] (by decide +kernel) (by decide +kernel)
set_option maxRecDepth 20000 in
theorem gL_law_X2_skew : GoodIn wsL_law (wsV RL 18 RX2 yX2_skew wsX2_skew) := goodIn_app (goodIn_of _ (by decide +kernel)) ggL_law_X2_skew
set_option maxRecDepth 20000 in
theorem ggL_law_X3_skew : GoodIn wsL_law wsX3_skew := goodIn_r _ [115, 77, 116, 117, 5, 118, 94, 95, 96, 417, 418, 419] (by decide +kernel) (by decide +kernel)
set_option maxRecDepth 20000 in
theorem gL_law_X3_skew : GoodIn wsL_law (wsV RL 21 RX3 yX3_skew wsX3_skew) := goodIn_app (goodIn_of _ (by decide +kernel)) ggL_law_X3_skew
set_option maxRecDepth 20000 in
theorem ggL_law_X2_there : GoodIn wsL_law wsX2_there := goodIn_r _ [122, 15, 101, 102, 2, 103, 123, 14, 124, 125, 31, 30, 126, 127, 128, 129, 27, 28, 29, 38, 130, 131, 132, 133, 21, 134, 135, 136, 137, 138, 26, 139, 140, 50, 141, 142, 143, 144, 145, 146, 40, 147, 148, 149, 150, 151, 152, 39, 153, 154, 155, 156, 157, 158, 159, 47, 48, 49, 160, 161, 162, 163, 110, 111, 414, 415, 416, 420, 421, 422, 423, 424, 425, 426, 427, 428, 429, 430, 431, 432, 433, 434, 435, 436, 437, 438, 439, 440, 441, 442, 443, 444, 445, 446, 447, 448, 449] (by decide +kernel) (by decide +kernel)
set_option maxRecDepth 20000 in
theorem gL_law_X2_there : GoodIn wsL_law (wsV RL 22 RX2 yX2_there wsX2_there) := goodIn_app (goodIn_of _ (by decide +kernel)) ggL_law_X2_there
set_option maxRecDepth 20000 in
theorem ggL_law_X3_there : GoodIn wsL_law wsX3_there := goodIn_r _ [167, 77, 116, 117, 5, 118, 94, 95, 96, 168, 169, 170, 171, 172, 173, 174, 175, 176, 177, 178, 179, 180, 181, 182, 183, 184, 185, 81, 82, 83, 186, 187, 188, 189, 417, 418, 419] (by decide +kernel) (by decide +kernel)
set_option maxRecDepth 20000 in
theorem gL_law_X3_there : GoodIn wsL_law (wsV RL 25 RX3 yX3_there wsX3_there) := goodIn_app (goodIn_of _ (by decide +kernel)) ggL_law_X3_there
set_option maxRecDepth 20000 in
theorem ggL_law_X2_read : GoodIn wsL_law wsX2_read := goodIn_r _ [193, 15, 101, 102, 2, 103, 194, 195, 196, 197, 14, 198, 199, 200, 201, 202, 203, 204, 26, 205, 206, 47, 207, 208, 209, 210, 21, 23, 138, 139, 140, 50, 141, 142, 211, 212, 213, 214, 28, 36, 215, 216, 217, 218, 33, 219, 220, 221, 222, 32, 223, 224, 225, 226, 227, 228, 229, 230, 41, 231, 232, 233, 234, 147, 148, 110, 111, 153, 154, 155, 156, 157, 158, 159, 48, 49, 235, 236, 237, 238, 29, 414, 415, 416, 420, 421, 422, 423, 424, 425, 426, 427, 428, 429, 430, 431, 432, 433, 434, 435, 436, 437, 438, 439, 440, 441, 442, 443, 444, 445, 446, 447, 448, 449] (by decide +kernel) (by decide +kernel)
set_option maxRecDepth 20000 in
theorem gL_law_X2_read : GoodIn wsL_law (wsV RL 26 RX2 yX2_read wsX2_read) := goodIn_app (goodIn_of _ (by decide +kernel)) ggL_law_X2_read
set_option maxRecDepth 20000 in
theorem ggL_law_X3_read : GoodIn wsL_law wsX3_read := goodIn_r _ [242, 77, 116, 117, 5, 118, 94, 95, 96, 243, 244, 245, 180, 181, 182, 183, 184, 185, 246, 247, 248, 249, 250, 251, 252, 253, 81, 82, 83, 254, 255, 256, 257, 258, 259, 260, 261, 186, 187, 188, 189, 417, 418, 419] (by decide +kernel) (by decide +kernel)
set_option maxRecDepth 20000 in
theorem gL_law_X3_read : GoodIn wsL_law (wsV RL 29 RX3 yX3_read wsX3_read) := goodIn_app (goodIn_of _ (by decide +kernel)) ggL_law_X3_read
set_option maxRecDepth 20000 in
theorem ggL_law_X2_write : GoodIn wsL_law wsX2_write := goodIn_r _ [265, 15, 194, 195, 2, 196, 236, 14, 237, 238, 29, 266, 267, 268, 37, 21, 126, 127, 128, 129, 27, 28, 38, 130, 131, 132, 133, 134, 135, 136, 137, 138, 26, 139, 140, 50, 141, 142, 143, 144, 145, 146, 40, 147, 148, 149, 150, 151, 152, 39, 153, 154, 155, 156, 157, 158, 159, 47, 48, 49, 160, 161, 162, 163, 110, 111, 269, 270, 271, 272, 35, 273, 274, 275, 276, 34, 277, 278, 279, 280, 65, 66, 67, 281, 282, 283, 284, 285, 31, 30, 286, 287, 288, 289, 290, 291, 292, 414, 415, 416, 420, 421, 422, 423, 424, 425, 426, 427, 428, 429, 430, 431, 432, 433, 434, 435, 436, 437, 438, 439, 440, 441, 442, 443, 444, 445, 446, 447, 448, 449] (by decide +kernel) (by decide +kernel)
set_option maxRecDepth 20000 in
theorem gL_law_X2_write : GoodIn wsL_law (wsV RL 30 RX2 yX2_write wsX2_write) := goodIn_app (goodIn_of _ (by decide +kernel)) ggL_law_X2_write
set_option maxRecDepth 20000 in
theorem ggL_law_X3_write : GoodIn wsL_law wsX3_write := goodIn_r _ [296, 77, 243, 244, 5, 245, 94, 95, 96, 172, 173, 174, 175, 176, 177, 178, 179, 180, 181, 182, 183, 184, 185, 81, 82, 83, 186, 187, 188, 189, 297, 298, 299, 300, 301, 302, 303, 304, 305, 306, 307, 308, 417, 418, 419] (by decide +kernel) (by decide +kernel)
set_option maxRecDepth 20000 in
theorem gL_law_X3_write : GoodIn wsL_law (wsV RL 33 RX3 yX3_write wsX3_write) := goodIn_app (goodIn_of _ (by decide +kernel)) ggL_law_X3_write
set_option maxRecDepth 20000 in
theorem ggL_law_X2_pass : GoodIn wsL_law wsX2_pass := goodIn_r _ [312, 15, 123, 14, 124, 125, 31, 30, 126, 127, 128, 129, 27, 28, 29, 38, 130, 131, 132, 133, 21, 134, 135, 136, 137, 138, 26, 139, 140, 50, 141, 2, 142, 143, 144, 145, 146, 40, 147, 148, 149, 150, 151, 152, 39, 153, 154, 155, 156, 157, 158, 159, 47, 48, 49, 160, 161, 162, 163, 110, 111, 414, 415, 416, 420, 421, 422, 423, 424, 425, 426, 427, 428, 429, 430, 431, 432, 433, 434, 435, 436, 437, 438, 439, 440, 441, 442, 443, 444, 445, 446, 447, 448, 449] (by decide +kernel) (by decide +kernel)
set_option maxRecDepth 20000 in
theorem gL_law_X2_pass : GoodIn wsL_law (wsV RL 34 RX2 yX2_pass wsX2_pass) := goodIn_app (goodIn_of _ (by decide +kernel)) ggL_law_X2_pass
set_option maxRecDepth 20000 in
theorem ggL_law_X3_pass : GoodIn wsL_law wsX3_pass := goodIn_r _ [316, 77, 94, 95, 5, 96, 168, 169, 170, 171, 172, 173, 174, 175, 176, 177, 178, 179, 180, 181, 182, 183, 184, 185, 81, 82, 83, 186, 187, 188, 189, 417, 418, 419] (by decide +kernel) (by decide +kernel)
set_option maxRecDepth 20000 in
theorem gL_law_X3_pass : GoodIn wsL_law (wsV RL 38 RX3 yX3_pass wsX3_pass) := goodIn_app (goodIn_of _ (by decide +kernel)) ggL_law_X3_pass
set_option maxRecDepth 20000 in
theorem ggL_law_X2_cause : GoodIn wsL_law wsX2_cause := goodIn_r _ [320, 15, 414, 415, 416, 420, 421, 422, 423, 424, 425, 426, 427, 428, 429, 430, 431, 432, 433, 434, 435, 436] (by decide +kernel) (by decide +kernel)
set_option maxRecDepth 20000 in
theorem gL_law_X2_cause : GoodIn wsL_law (wsV RL 39 RX2 yX2_cause wsX2_cause) := goodIn_app (goodIn_of _ (by decide +kernel)) ggL_law_X2_cause
set_option maxRecDepth 20000 in
theorem ggL_law_X3_cause : GoodIn wsL_law wsX3_cause := goodIn_r _ [324, 77, 94, 95, 5, 96, 417, 418, 419] (by decide +kernel) (by decide +kernel)
set_option maxRecDepth 20000 in
theorem gL_law_X3_cause : GoodIn wsL_law (wsV RL 42 RX3 yX3_cause wsX3_cause) := goodIn_app (goodIn_of _ (by decide +kernel)) ggL_law_X3_cause
set_option maxRecDepth 20000 in
theorem ggL_law_X2_waited : GoodIn wsL_law wsX2_waited := goodIn_r _ [328, 15, 414, 415, 416, 420, 421, 422, 423, 424, 425, 426, 427, 428, 429, 430, 431, 432, 433, 434, 435, 436] (by decide +kernel) (by decide +kernel)
set_option maxRecDepth 20000 in
theorem gL_law_X2_waited : GoodIn wsL_law (wsV RL 43 RX2 yX2_waited wsX2_waited) := goodIn_app (goodIn_of _ (by decide +kernel)) ggL_law_X2_waited
set_option maxRecDepth 20000 in
theorem ggL_law_X3_waited : GoodIn wsL_law wsX3_waited := goodIn_r _ [332, 77, 94, 95, 5, 96, 417, 418, 419] (by decide +kernel) (by decide +kernel)
set_option maxRecDepth 20000 in
theorem gL_law_X3_waited : GoodIn wsL_law (wsV RL 46 RX3 yX3_waited wsX3_waited) := goodIn_app (goodIn_of _ (by decide +kernel)) ggL_law_X3_waited
set_option maxRecDepth 20000 in
theorem ggL_law_X2_thing : GoodIn wsL_law wsX2_thing := goodIn_r _ [336, 15, 194, 195, 2, 196, 236, 14, 237, 238, 29, 337, 110, 111, 287, 288, 289, 21, 27, 290, 291, 66, 292, 130, 131, 132, 133, 277, 26, 278, 279, 49, 280, 65, 67, 281, 138, 139, 140, 50, 141, 142, 161, 162, 163, 338, 339, 340, 204, 205, 206, 47, 341, 342, 343, 200, 201, 202, 203, 207, 208, 209, 210, 23, 414, 415, 416, 420, 421, 422, 423, 424, 425, 426, 427, 428, 429, 430, 431, 432, 433, 434, 435, 436, 437, 438, 439, 440, 441, 442, 443, 444, 445, 446, 447, 448, 449] (by decide +kernel) (by decide +kernel)
set_option maxRecDepth 20000 in
theorem gL_law_X2_thing : GoodIn wsL_law (wsV RL 47 RX2 yX2_thing wsX2_thing) := goodIn_app (goodIn_of _ (by decide +kernel)) ggL_law_X2_thing
set_option maxRecDepth 20000 in
theorem ggL_law_X3_thing : GoodIn wsL_law wsX3_thing := goodIn_r _ [347, 77, 243, 244, 5, 245, 94, 95, 96, 305, 306, 307, 308, 180, 181, 182, 183, 184, 185, 176, 177, 178, 179, 246, 247, 248, 249, 250, 251, 252, 253, 417, 418, 419] (by decide +kernel) (by decide +kernel)
set_option maxRecDepth 20000 in
theorem gL_law_X3_thing : GoodIn wsL_law (wsV RL 50 RX3 yX3_thing wsX3_thing) := goodIn_app (goodIn_of _ (by decide +kernel)) ggL_law_X3_thing
set_option maxRecDepth 20000 in
theorem ggL_law_X2_copy : GoodIn wsL_law wsX2_copy := goodIn_r _ [351, 15, 101, 102, 2, 103, 194, 195, 196, 201, 14, 202, 203, 204, 26, 205, 206, 47, 207, 208, 209, 210, 21, 23, 138, 139, 140, 50, 141, 142, 337, 110, 111, 414, 415, 416, 420, 421, 422, 423, 424, 425, 426, 427, 428, 429, 430, 431, 432, 433, 434, 435, 436, 437, 438, 439, 440, 441, 442, 443, 444, 445, 446, 447, 448, 449] (by decide +kernel) (by decide +kernel)
set_option maxRecDepth 20000 in
theorem gL_law_X2_copy : GoodIn wsL_law (wsV RL 51 RX2 yX2_copy wsX2_copy) := goodIn_app (goodIn_of _ (by decide +kernel)) ggL_law_X2_copy
set_option maxRecDepth 20000 in
theorem ggL_law_X3_copy : GoodIn wsL_law wsX3_copy := goodIn_r _ [355, 77, 116, 117, 5, 118, 94, 95, 96, 243, 244, 245, 180, 181, 182, 246, 247, 248, 249, 250, 251, 252, 253, 183, 184, 185, 417, 418, 419] (by decide +kernel) (by decide +kernel)
set_option maxRecDepth 20000 in
theorem gL_law_X3_copy : GoodIn wsL_law (wsV RL 55 RX3 yX3_copy wsX3_copy) := goodIn_app (goodIn_of _ (by decide +kernel)) ggL_law_X3_copy
set_option maxRecDepth 20000 in
theorem ggL_law_X2_volume : GoodIn wsL_law wsX2_volume := goodIn_r _ [359, 15, 101, 102, 2, 103, 208, 14, 209, 210, 21, 23, 337, 110, 111, 414, 415, 416, 420, 421, 422, 423, 424, 425, 426, 427, 428, 429, 430, 431, 432, 433, 434, 435, 436, 437, 438, 439, 440, 441, 442, 443, 444, 445, 446, 447, 448, 449] (by decide +kernel) (by decide +kernel)
set_option maxRecDepth 20000 in
theorem gL_law_X2_volume : GoodIn wsL_law (wsV RL 56 RX2 yX2_volume wsX2_volume) := goodIn_app (goodIn_of _ (by decide +kernel)) ggL_law_X2_volume
set_option maxRecDepth 20000 in
theorem ggL_law_X3_volume : GoodIn wsL_law wsX3_volume := goodIn_r _ [363, 77, 116, 117, 5, 118, 94, 95, 96, 250, 251, 252, 253, 417, 418, 419] (by decide +kernel) (by decide +kernel)
set_option maxRecDepth 20000 in
theorem gL_law_X3_volume : GoodIn wsL_law (wsV RL 59 RX3 yX3_volume wsX3_volume) := goodIn_app (goodIn_of _ (by decide +kernel)) ggL_law_X3_volume
set_option maxRecDepth 20000 in
theorem ggL_law_X2_reader : GoodIn wsL_law wsX2_reader := goodIn_r _ [367, 15, 101, 102, 2, 103, 337, 110, 111, 414, 415, 416, 420, 421, 422, 423, 424, 425, 426, 427, 428, 429, 430, 431, 432, 433, 434, 435, 436, 437, 438, 439, 440, 441, 442, 443, 444, 445, 446, 447, 448, 449] (by decide +kernel) (by decide +kernel)
set_option maxRecDepth 20000 in
theorem gL_law_X2_reader : GoodIn wsL_law (wsV RL 60 RX2 yX2_reader wsX2_reader) := goodIn_app (goodIn_of _ (by decide +kernel)) ggL_law_X2_reader
set_option maxRecDepth 20000 in
theorem ggL_law_X3_reader : GoodIn wsL_law wsX3_reader := goodIn_r _ [371, 77, 116, 117, 5, 118, 94, 95, 96, 81, 82, 83, 417, 418, 419] (by decide +kernel) (by decide +kernel)
set_option maxRecDepth 20000 in
theorem gL_law_X3_reader : GoodIn wsL_law (wsV RL 63 RX3 yX3_reader wsX3_reader) := goodIn_app (goodIn_of _ (by decide +kernel)) ggL_law_X3_reader
set_option maxRecDepth 20000 in
theorem ggL_law_X2_waiting : GoodIn wsL_law wsX2_waiting := goodIn_r _ [375, 15, 414, 415, 416, 420, 421, 422, 423, 424, 425, 426, 427, 428, 429, 430, 431, 432, 433, 434, 435, 436] (by decide +kernel) (by decide +kernel)
set_option maxRecDepth 20000 in
theorem gL_law_X2_waiting : GoodIn wsL_law (wsV RL 64 RX2 yX2_waiting wsX2_waiting) := goodIn_app (goodIn_of _ (by decide +kernel)) ggL_law_X2_waiting
set_option maxRecDepth 20000 in
theorem ggL_law_X3_waiting : GoodIn wsL_law wsX3_waiting := goodIn_r _ [379, 77, 94, 95, 5, 96, 417, 418, 419] (by decide +kernel) (by decide +kernel)
set_option maxRecDepth 20000 in
theorem gL_law_X3_waiting : GoodIn wsL_law (wsV RL 67 RX3 yX3_waiting wsX3_waiting) := goodIn_app (goodIn_of _ (by decide +kernel)) ggL_law_X3_waiting
set_option maxRecDepth 20000 in
theorem ggL_law_X2_count : GoodIn wsL_law wsX2_count := goodIn_r _ [383, 15, 17, 414, 415, 416, 420, 421, 422, 423, 424, 425, 426, 427, 428, 429, 430, 431, 432, 433, 434, 435, 436] (by decide +kernel) (by decide +kernel)
set_option maxRecDepth 20000 in
theorem gL_law_X2_count : GoodIn wsL_law (wsV RL 68 RX2 yX2_count wsX2_count) := goodIn_app (goodIn_of _ (by decide +kernel)) ggL_law_X2_count
set_option maxRecDepth 20000 in
theorem ggL_law_X3_count : GoodIn wsL_law wsX3_count := goodIn_r _ [387, 77, 80, 94, 95, 5, 96, 417, 418, 419] (by decide +kernel) (by decide +kernel)
set_option maxRecDepth 20000 in
theorem gL_law_X3_count : GoodIn wsL_law (wsV RL 71 RX3 yX3_count wsX3_count) := goodIn_app (goodIn_of _ (by decide +kernel)) ggL_law_X3_count
set_option maxRecDepth 20000 in
theorem ggL_law_X2_image : GoodIn wsL_law wsX2_image := goodIn_r _ [391, 16, 15, 17, 392, 393, 2, 394, 395, 14, 396, 397, 21, 23, 27, 28, 29, 30, 31, 32, 33, 34, 35, 36, 37, 38, 39, 40, 41, 62, 63, 64, 65, 66, 67, 68, 69, 70, 71, 398, 26, 399, 400, 45, 46, 47, 48, 49, 50, 51, 52, 53, 54, 55, 56, 57, 414, 415, 416, 420, 421, 422, 423, 424, 425, 426, 427, 428, 429, 430, 431, 432, 433, 434, 435, 436, 437, 438, 439, 440, 441, 442, 443, 444, 445, 446, 447, 448, 449] (by decide +kernel) (by decide +kernel)
set_option maxRecDepth 20000 in
theorem gL_law_X2_image : GoodIn wsL_law (wsV RL 72 RX2 yX2_image wsX2_image) := goodIn_app (goodIn_of _ (by decide +kernel)) ggL_law_X2_image
set_option maxRecDepth 20000 in
theorem ggL_law_X3_image : GoodIn wsL_law wsX3_image := goodIn_r _ [404, 78, 77, 80, 94, 95, 5, 96, 417, 418, 419] (by decide +kernel) (by decide +kernel)
set_option maxRecDepth 20000 in
theorem gL_law_X3_image : GoodIn wsL_law (wsV RL 75 RX3 yX3_image wsX3_image) := goodIn_app (goodIn_of _ (by decide +kernel)) ggL_law_X3_image
set_option maxRecDepth 20000 in
theorem ggL_law_X2_restore : GoodIn wsL_law wsX2_restore := goodIn_r _ [408, 17, 15, 16, 392, 393, 2, 394, 409, 147, 148, 395, 14, 396, 397, 21, 23, 27, 28, 29, 30, 31, 32, 33, 34, 35, 36, 37, 38, 39, 40, 41, 62, 63, 64, 65, 66, 67, 68, 69, 70, 71, 398, 26, 399, 400, 45, 46, 47, 48, 49, 50, 51, 52, 53, 54, 55, 56, 57, 414, 415, 416, 420, 421, 422, 423, 424, 425, 426, 427, 428, 429, 430, 431, 432, 433, 434, 435, 436, 437, 438, 439, 440, 441, 442, 443, 444, 445, 446, 447, 448, 449] (by decide +kernel) (by decide +kernel)
set_option maxRecDepth 20000 in
theorem gL_law_X2_restore : GoodIn wsL_law (wsV RL 76 RX2 yX2_restore wsX2_restore) := goodIn_app (goodIn_of _ (by decide +kernel)) ggL_law_X2_restore
set_option maxRecDepth 20000 in
theorem ggL_law_X3_restore : GoodIn wsL_law wsX3_restore := goodIn_r _ [413, 80, 77, 78, 94, 95, 5, 96, 417, 418, 419] (by decide +kernel) (by decide +kernel)
set_option maxRecDepth 20000 in
theorem gL_law_X3_restore : GoodIn wsL_law (wsV RL 79 RX3 yX3_restore wsX3_restore) := goodIn_app (goodIn_of _ (by decide +kernel)) ggL_law_X3_restore
theorem dL_law_0 : decode cL_law 0 = .ok (.new 7, 3) := by decide +kernel
theorem dL_law_3 : decode cL_law 3 = .ok (.dup, 1) := by decide +kernel
theorem dL_law_4 : decode cL_law 4 = .ok (.invokespecial 9, 3) := by decide +kernel
theorem dL_law_7 : decode cL_law 7 = .ok (.astore_n 1, 1) := by decide +kernel
theorem dL_law_8 : decode cL_law 8 = .ok (.new 10, 3) := by decide +kernel
theorem dL_law_11 : decode cL_law 11 = .ok (.dup, 1) := by decide +kernel
theorem dL_law_12 : decode cL_law 12 = .ok (.invokespecial 12, 3) := by decide +kernel
theorem dL_law_15 : decode cL_law 15 = .ok (.astore_n 2, 1) := by decide +kernel
theorem dL_law_16 : decode cL_law 16 = .ok (.iconst 0, 1) := by decide +kernel
theorem dL_law_17 : decode cL_law 17 = .ok (.istore_n 3, 1) := by decide +kernel
theorem dL_law_18 : decode cL_law 18 = .ok (.iload_n 3, 1) := by decide +kernel
theorem dL_law_19 : decode cL_law 19 = .ok (.aload_n 0, 1) := by decide +kernel
theorem dL_law_20 : decode cL_law 20 = .ok (.arraylength, 1) := by decide +kernel
theorem dL_law_21 : decode cL_law 21 = .ok (.iconst 4, 1) := by decide +kernel
theorem dL_law_22 : decode cL_law 22 = .ok (.isub, 1) := by decide +kernel
theorem dL_law_23 : decode cL_law 23 = .ok (.if_icmp .gt 573, 3) := by decide +kernel
theorem dL_law_26 : decode cL_law 26 = .ok (.aload_n 0, 1) := by decide +kernel
theorem dL_law_27 : decode cL_law 27 = .ok (.iload_n 3, 1) := by decide +kernel
theorem dL_law_28 : decode cL_law 28 = .ok (.iaload, 1) := by decide +kernel
theorem dL_law_29 : decode cL_law 29 = .ok (.bipush 15, 2) := by decide +kernel
theorem dL_law_31 : decode cL_law 31 = .ok (.iand, 1) := by decide +kernel
theorem dL_law_32 : decode cL_law 32 = .ok (.tableswitch 558 0 15 #[80, 113, 146, 179, 212, 245, 268, 291, 314, 347, 390, 433, 466, 489, 512, 535], 80) := by decide +kernel
theorem dL_law_112 : decode cL_law 112 = .ok (.aload_n 1, 1) := by decide +kernel
theorem dL_law_113 : decode cL_law 113 = .ok (.aload_n 0, 1) := by decide +kernel
theorem dL_law_114 : decode cL_law 114 = .ok (.iload_n 3, 1) := by decide +kernel
theorem dL_law_115 : decode cL_law 115 = .ok (.iconst 1, 1) := by decide +kernel
theorem dL_law_116 : decode cL_law 116 = .ok (.iadd, 1) := by decide +kernel
theorem dL_law_117 : decode cL_law 117 = .ok (.iaload, 1) := by decide +kernel
theorem dL_law_118 : decode cL_law 118 = .ok (.aload_n 0, 1) := by decide +kernel
theorem dL_law_119 : decode cL_law 119 = .ok (.iload_n 3, 1) := by decide +kernel
theorem dL_law_120 : decode cL_law 120 = .ok (.iconst 2, 1) := by decide +kernel
theorem dL_law_121 : decode cL_law 121 = .ok (.iadd, 1) := by decide +kernel
theorem dL_law_122 : decode cL_law 122 = .ok (.iaload, 1) := by decide +kernel
theorem dL_law_123 : decode cL_law 123 = .ok (.invokevirtual 13, 3) := by decide +kernel
theorem dL_law_126 : decode cL_law 126 = .ok (.aload_n 2, 1) := by decide +kernel
theorem dL_law_127 : decode cL_law 127 = .ok (.aload_n 0, 1) := by decide +kernel
theorem dL_law_128 : decode cL_law 128 = .ok (.iload_n 3, 1) := by decide +kernel
theorem dL_law_129 : decode cL_law 129 = .ok (.iconst 1, 1) := by decide +kernel
theorem dL_law_130 : decode cL_law 130 = .ok (.iadd, 1) := by decide +kernel
theorem dL_law_131 : decode cL_law 131 = .ok (.iaload, 1) := by decide +kernel
theorem dL_law_132 : decode cL_law 132 = .ok (.aload_n 0, 1) := by decide +kernel
theorem dL_law_133 : decode cL_law 133 = .ok (.iload_n 3, 1) := by decide +kernel
theorem dL_law_134 : decode cL_law 134 = .ok (.iconst 2, 1) := by decide +kernel
theorem dL_law_135 : decode cL_law 135 = .ok (.iadd, 1) := by decide +kernel
theorem dL_law_136 : decode cL_law 136 = .ok (.iaload, 1) := by decide +kernel
theorem dL_law_137 : decode cL_law 137 = .ok (.invokevirtual 17, 3) := by decide +kernel
theorem dL_law_140 : decode cL_law 140 = .ok (.if_icmp .eq 450, 3) := by decide +kernel
theorem dL_law_143 : decode cL_law 143 = .ok (.iconst 0, 1) := by decide +kernel
theorem dL_law_144 : decode cL_law 144 = .ok (.ireturn, 1) := by decide +kernel
theorem dL_law_145 : decode cL_law 145 = .ok (.aload_n 1, 1) := by decide +kernel
theorem dL_law_146 : decode cL_law 146 = .ok (.aload_n 0, 1) := by decide +kernel
theorem dL_law_147 : decode cL_law 147 = .ok (.iload_n 3, 1) := by decide +kernel
theorem dL_law_148 : decode cL_law 148 = .ok (.iconst 1, 1) := by decide +kernel
theorem dL_law_149 : decode cL_law 149 = .ok (.iadd, 1) := by decide +kernel
theorem dL_law_150 : decode cL_law 150 = .ok (.iaload, 1) := by decide +kernel
theorem dL_law_151 : decode cL_law 151 = .ok (.aload_n 0, 1) := by decide +kernel
theorem dL_law_152 : decode cL_law 152 = .ok (.iload_n 3, 1) := by decide +kernel
theorem dL_law_153 : decode cL_law 153 = .ok (.iconst 2, 1) := by decide +kernel
theorem dL_law_154 : decode cL_law 154 = .ok (.iadd, 1) := by decide +kernel
theorem dL_law_155 : decode cL_law 155 = .ok (.iaload, 1) := by decide +kernel
theorem dL_law_156 : decode cL_law 156 = .ok (.invokevirtual 18, 3) := by decide +kernel
theorem dL_law_159 : decode cL_law 159 = .ok (.aload_n 2, 1) := by decide +kernel
theorem dL_law_160 : decode cL_law 160 = .ok (.aload_n 0, 1) := by decide +kernel
theorem dL_law_161 : decode cL_law 161 = .ok (.iload_n 3, 1) := by decide +kernel
theorem dL_law_162 : decode cL_law 162 = .ok (.iconst 1, 1) := by decide +kernel
theorem dL_law_163 : decode cL_law 163 = .ok (.iadd, 1) := by decide +kernel
theorem dL_law_164 : decode cL_law 164 = .ok (.iaload, 1) := by decide +kernel
theorem dL_law_165 : decode cL_law 165 = .ok (.aload_n 0, 1) := by decide +kernel
theorem dL_law_166 : decode cL_law 166 = .ok (.iload_n 3, 1) := by decide +kernel
theorem dL_law_167 : decode cL_law 167 = .ok (.iconst 2, 1) := by decide +kernel
theorem dL_law_168 : decode cL_law 168 = .ok (.iadd, 1) := by decide +kernel
theorem dL_law_169 : decode cL_law 169 = .ok (.iaload, 1) := by decide +kernel
theorem dL_law_170 : decode cL_law 170 = .ok (.invokevirtual 21, 3) := by decide +kernel
theorem dL_law_173 : decode cL_law 173 = .ok (.if_icmp .eq 417, 3) := by decide +kernel
theorem dL_law_176 : decode cL_law 176 = .ok (.iconst 0, 1) := by decide +kernel
theorem dL_law_177 : decode cL_law 177 = .ok (.ireturn, 1) := by decide +kernel
theorem dL_law_178 : decode cL_law 178 = .ok (.aload_n 1, 1) := by decide +kernel
theorem dL_law_179 : decode cL_law 179 = .ok (.aload_n 0, 1) := by decide +kernel
theorem dL_law_180 : decode cL_law 180 = .ok (.iload_n 3, 1) := by decide +kernel
theorem dL_law_181 : decode cL_law 181 = .ok (.iconst 1, 1) := by decide +kernel
theorem dL_law_182 : decode cL_law 182 = .ok (.iadd, 1) := by decide +kernel
theorem dL_law_183 : decode cL_law 183 = .ok (.iaload, 1) := by decide +kernel
theorem dL_law_184 : decode cL_law 184 = .ok (.aload_n 0, 1) := by decide +kernel
theorem dL_law_185 : decode cL_law 185 = .ok (.iload_n 3, 1) := by decide +kernel
theorem dL_law_186 : decode cL_law 186 = .ok (.iconst 2, 1) := by decide +kernel
theorem dL_law_187 : decode cL_law 187 = .ok (.iadd, 1) := by decide +kernel
theorem dL_law_188 : decode cL_law 188 = .ok (.iaload, 1) := by decide +kernel
theorem dL_law_189 : decode cL_law 189 = .ok (.invokevirtual 22, 3) := by decide +kernel
theorem dL_law_192 : decode cL_law 192 = .ok (.aload_n 2, 1) := by decide +kernel
theorem dL_law_193 : decode cL_law 193 = .ok (.aload_n 0, 1) := by decide +kernel
theorem dL_law_194 : decode cL_law 194 = .ok (.iload_n 3, 1) := by decide +kernel
theorem dL_law_195 : decode cL_law 195 = .ok (.iconst 1, 1) := by decide +kernel
theorem dL_law_196 : decode cL_law 196 = .ok (.iadd, 1) := by decide +kernel
theorem dL_law_197 : decode cL_law 197 = .ok (.iaload, 1) := by decide +kernel
theorem dL_law_198 : decode cL_law 198 = .ok (.aload_n 0, 1) := by decide +kernel
theorem dL_law_199 : decode cL_law 199 = .ok (.iload_n 3, 1) := by decide +kernel
theorem dL_law_200 : decode cL_law 200 = .ok (.iconst 2, 1) := by decide +kernel
theorem dL_law_201 : decode cL_law 201 = .ok (.iadd, 1) := by decide +kernel
theorem dL_law_202 : decode cL_law 202 = .ok (.iaload, 1) := by decide +kernel
theorem dL_law_203 : decode cL_law 203 = .ok (.invokevirtual 25, 3) := by decide +kernel
theorem dL_law_206 : decode cL_law 206 = .ok (.if_icmp .eq 384, 3) := by decide +kernel
theorem dL_law_209 : decode cL_law 209 = .ok (.iconst 0, 1) := by decide +kernel
theorem dL_law_210 : decode cL_law 210 = .ok (.ireturn, 1) := by decide +kernel
theorem dL_law_211 : decode cL_law 211 = .ok (.aload_n 1, 1) := by decide +kernel
theorem dL_law_212 : decode cL_law 212 = .ok (.aload_n 0, 1) := by decide +kernel
theorem dL_law_213 : decode cL_law 213 = .ok (.iload_n 3, 1) := by decide +kernel
theorem dL_law_214 : decode cL_law 214 = .ok (.iconst 1, 1) := by decide +kernel
theorem dL_law_215 : decode cL_law 215 = .ok (.iadd, 1) := by decide +kernel
theorem dL_law_216 : decode cL_law 216 = .ok (.iaload, 1) := by decide +kernel
theorem dL_law_217 : decode cL_law 217 = .ok (.aload_n 0, 1) := by decide +kernel
theorem dL_law_218 : decode cL_law 218 = .ok (.iload_n 3, 1) := by decide +kernel
theorem dL_law_219 : decode cL_law 219 = .ok (.iconst 2, 1) := by decide +kernel
theorem dL_law_220 : decode cL_law 220 = .ok (.iadd, 1) := by decide +kernel
theorem dL_law_221 : decode cL_law 221 = .ok (.iaload, 1) := by decide +kernel
theorem dL_law_222 : decode cL_law 222 = .ok (.invokevirtual 26, 3) := by decide +kernel
theorem dL_law_225 : decode cL_law 225 = .ok (.aload_n 2, 1) := by decide +kernel
theorem dL_law_226 : decode cL_law 226 = .ok (.aload_n 0, 1) := by decide +kernel
theorem dL_law_227 : decode cL_law 227 = .ok (.iload_n 3, 1) := by decide +kernel
theorem dL_law_228 : decode cL_law 228 = .ok (.iconst 1, 1) := by decide +kernel
theorem dL_law_229 : decode cL_law 229 = .ok (.iadd, 1) := by decide +kernel
theorem dL_law_230 : decode cL_law 230 = .ok (.iaload, 1) := by decide +kernel
theorem dL_law_231 : decode cL_law 231 = .ok (.aload_n 0, 1) := by decide +kernel
theorem dL_law_232 : decode cL_law 232 = .ok (.iload_n 3, 1) := by decide +kernel
theorem dL_law_233 : decode cL_law 233 = .ok (.iconst 2, 1) := by decide +kernel
theorem dL_law_234 : decode cL_law 234 = .ok (.iadd, 1) := by decide +kernel
theorem dL_law_235 : decode cL_law 235 = .ok (.iaload, 1) := by decide +kernel
theorem dL_law_236 : decode cL_law 236 = .ok (.invokevirtual 29, 3) := by decide +kernel
theorem dL_law_239 : decode cL_law 239 = .ok (.if_icmp .eq 351, 3) := by decide +kernel
theorem dL_law_242 : decode cL_law 242 = .ok (.iconst 0, 1) := by decide +kernel
theorem dL_law_243 : decode cL_law 243 = .ok (.ireturn, 1) := by decide +kernel
theorem dL_law_244 : decode cL_law 244 = .ok (.aload_n 1, 1) := by decide +kernel
theorem dL_law_245 : decode cL_law 245 = .ok (.aload_n 0, 1) := by decide +kernel
theorem dL_law_246 : decode cL_law 246 = .ok (.iload_n 3, 1) := by decide +kernel
theorem dL_law_247 : decode cL_law 247 = .ok (.iconst 1, 1) := by decide +kernel
theorem dL_law_248 : decode cL_law 248 = .ok (.iadd, 1) := by decide +kernel
theorem dL_law_249 : decode cL_law 249 = .ok (.iaload, 1) := by decide +kernel
theorem dL_law_250 : decode cL_law 250 = .ok (.aload_n 0, 1) := by decide +kernel
theorem dL_law_251 : decode cL_law 251 = .ok (.iload_n 3, 1) := by decide +kernel
theorem dL_law_252 : decode cL_law 252 = .ok (.iconst 2, 1) := by decide +kernel
theorem dL_law_253 : decode cL_law 253 = .ok (.iadd, 1) := by decide +kernel
theorem dL_law_254 : decode cL_law 254 = .ok (.iaload, 1) := by decide +kernel
theorem dL_law_255 : decode cL_law 255 = .ok (.invokevirtual 30, 3) := by decide +kernel
theorem dL_law_258 : decode cL_law 258 = .ok (.aload_n 2, 1) := by decide +kernel
theorem dL_law_259 : decode cL_law 259 = .ok (.aload_n 0, 1) := by decide +kernel
theorem dL_law_260 : decode cL_law 260 = .ok (.iload_n 3, 1) := by decide +kernel
theorem dL_law_261 : decode cL_law 261 = .ok (.iconst 1, 1) := by decide +kernel
theorem dL_law_262 : decode cL_law 262 = .ok (.iadd, 1) := by decide +kernel
theorem dL_law_263 : decode cL_law 263 = .ok (.iaload, 1) := by decide +kernel
theorem dL_law_264 : decode cL_law 264 = .ok (.aload_n 0, 1) := by decide +kernel
theorem dL_law_265 : decode cL_law 265 = .ok (.iload_n 3, 1) := by decide +kernel
theorem dL_law_266 : decode cL_law 266 = .ok (.iconst 2, 1) := by decide +kernel
theorem dL_law_267 : decode cL_law 267 = .ok (.iadd, 1) := by decide +kernel
theorem dL_law_268 : decode cL_law 268 = .ok (.iaload, 1) := by decide +kernel
theorem dL_law_269 : decode cL_law 269 = .ok (.invokevirtual 33, 3) := by decide +kernel
theorem dL_law_272 : decode cL_law 272 = .ok (.if_icmp .eq 318, 3) := by decide +kernel
theorem dL_law_275 : decode cL_law 275 = .ok (.iconst 0, 1) := by decide +kernel
theorem dL_law_276 : decode cL_law 276 = .ok (.ireturn, 1) := by decide +kernel
theorem dL_law_277 : decode cL_law 277 = .ok (.aload_n 1, 1) := by decide +kernel
theorem dL_law_278 : decode cL_law 278 = .ok (.aload_n 0, 1) := by decide +kernel
theorem dL_law_279 : decode cL_law 279 = .ok (.iload_n 3, 1) := by decide +kernel
theorem dL_law_280 : decode cL_law 280 = .ok (.iconst 1, 1) := by decide +kernel
theorem dL_law_281 : decode cL_law 281 = .ok (.iadd, 1) := by decide +kernel
theorem dL_law_282 : decode cL_law 282 = .ok (.iaload, 1) := by decide +kernel
theorem dL_law_283 : decode cL_law 283 = .ok (.invokevirtual 34, 3) := by decide +kernel
theorem dL_law_286 : decode cL_law 286 = .ok (.aload_n 2, 1) := by decide +kernel
theorem dL_law_287 : decode cL_law 287 = .ok (.aload_n 0, 1) := by decide +kernel
theorem dL_law_288 : decode cL_law 288 = .ok (.iload_n 3, 1) := by decide +kernel
theorem dL_law_289 : decode cL_law 289 = .ok (.iconst 1, 1) := by decide +kernel
theorem dL_law_290 : decode cL_law 290 = .ok (.iadd, 1) := by decide +kernel
theorem dL_law_291 : decode cL_law 291 = .ok (.iaload, 1) := by decide +kernel
theorem dL_law_292 : decode cL_law 292 = .ok (.invokevirtual 38, 3) := by decide +kernel
theorem dL_law_295 : decode cL_law 295 = .ok (.if_icmp .eq 295, 3) := by decide +kernel
theorem dL_law_298 : decode cL_law 298 = .ok (.iconst 0, 1) := by decide +kernel
theorem dL_law_299 : decode cL_law 299 = .ok (.ireturn, 1) := by decide +kernel
theorem dL_law_300 : decode cL_law 300 = .ok (.aload_n 1, 1) := by decide +kernel
theorem dL_law_301 : decode cL_law 301 = .ok (.aload_n 0, 1) := by decide +kernel
theorem dL_law_302 : decode cL_law 302 = .ok (.iload_n 3, 1) := by decide +kernel
theorem dL_law_303 : decode cL_law 303 = .ok (.iconst 1, 1) := by decide +kernel
theorem dL_law_304 : decode cL_law 304 = .ok (.iadd, 1) := by decide +kernel
theorem dL_law_305 : decode cL_law 305 = .ok (.iaload, 1) := by decide +kernel
theorem dL_law_306 : decode cL_law 306 = .ok (.invokevirtual 39, 3) := by decide +kernel
theorem dL_law_309 : decode cL_law 309 = .ok (.aload_n 2, 1) := by decide +kernel
theorem dL_law_310 : decode cL_law 310 = .ok (.aload_n 0, 1) := by decide +kernel
theorem dL_law_311 : decode cL_law 311 = .ok (.iload_n 3, 1) := by decide +kernel
theorem dL_law_312 : decode cL_law 312 = .ok (.iconst 1, 1) := by decide +kernel
theorem dL_law_313 : decode cL_law 313 = .ok (.iadd, 1) := by decide +kernel
theorem dL_law_314 : decode cL_law 314 = .ok (.iaload, 1) := by decide +kernel
theorem dL_law_315 : decode cL_law 315 = .ok (.invokevirtual 42, 3) := by decide +kernel
theorem dL_law_318 : decode cL_law 318 = .ok (.if_icmp .eq 272, 3) := by decide +kernel
theorem dL_law_321 : decode cL_law 321 = .ok (.iconst 0, 1) := by decide +kernel
theorem dL_law_322 : decode cL_law 322 = .ok (.ireturn, 1) := by decide +kernel
theorem dL_law_323 : decode cL_law 323 = .ok (.aload_n 1, 1) := by decide +kernel
theorem dL_law_324 : decode cL_law 324 = .ok (.aload_n 0, 1) := by decide +kernel
theorem dL_law_325 : decode cL_law 325 = .ok (.iload_n 3, 1) := by decide +kernel
theorem dL_law_326 : decode cL_law 326 = .ok (.iconst 1, 1) := by decide +kernel
theorem dL_law_327 : decode cL_law 327 = .ok (.iadd, 1) := by decide +kernel
theorem dL_law_328 : decode cL_law 328 = .ok (.iaload, 1) := by decide +kernel
theorem dL_law_329 : decode cL_law 329 = .ok (.invokevirtual 43, 3) := by decide +kernel
theorem dL_law_332 : decode cL_law 332 = .ok (.aload_n 2, 1) := by decide +kernel
theorem dL_law_333 : decode cL_law 333 = .ok (.aload_n 0, 1) := by decide +kernel
theorem dL_law_334 : decode cL_law 334 = .ok (.iload_n 3, 1) := by decide +kernel
theorem dL_law_335 : decode cL_law 335 = .ok (.iconst 1, 1) := by decide +kernel
theorem dL_law_336 : decode cL_law 336 = .ok (.iadd, 1) := by decide +kernel
theorem dL_law_337 : decode cL_law 337 = .ok (.iaload, 1) := by decide +kernel
theorem dL_law_338 : decode cL_law 338 = .ok (.invokevirtual 46, 3) := by decide +kernel
theorem dL_law_341 : decode cL_law 341 = .ok (.if_icmp .eq 249, 3) := by decide +kernel
theorem dL_law_344 : decode cL_law 344 = .ok (.iconst 0, 1) := by decide +kernel
theorem dL_law_345 : decode cL_law 345 = .ok (.ireturn, 1) := by decide +kernel
theorem dL_law_346 : decode cL_law 346 = .ok (.aload_n 1, 1) := by decide +kernel
theorem dL_law_347 : decode cL_law 347 = .ok (.aload_n 0, 1) := by decide +kernel
theorem dL_law_348 : decode cL_law 348 = .ok (.iload_n 3, 1) := by decide +kernel
theorem dL_law_349 : decode cL_law 349 = .ok (.iconst 1, 1) := by decide +kernel
theorem dL_law_350 : decode cL_law 350 = .ok (.iadd, 1) := by decide +kernel
theorem dL_law_351 : decode cL_law 351 = .ok (.iaload, 1) := by decide +kernel
theorem dL_law_352 : decode cL_law 352 = .ok (.aload_n 0, 1) := by decide +kernel
theorem dL_law_353 : decode cL_law 353 = .ok (.iload_n 3, 1) := by decide +kernel
theorem dL_law_354 : decode cL_law 354 = .ok (.iconst 2, 1) := by decide +kernel
theorem dL_law_355 : decode cL_law 355 = .ok (.iadd, 1) := by decide +kernel
theorem dL_law_356 : decode cL_law 356 = .ok (.iaload, 1) := by decide +kernel
theorem dL_law_357 : decode cL_law 357 = .ok (.invokevirtual 47, 3) := by decide +kernel
theorem dL_law_360 : decode cL_law 360 = .ok (.aload_n 2, 1) := by decide +kernel
theorem dL_law_361 : decode cL_law 361 = .ok (.aload_n 0, 1) := by decide +kernel
theorem dL_law_362 : decode cL_law 362 = .ok (.iload_n 3, 1) := by decide +kernel
theorem dL_law_363 : decode cL_law 363 = .ok (.iconst 1, 1) := by decide +kernel
theorem dL_law_364 : decode cL_law 364 = .ok (.iadd, 1) := by decide +kernel
theorem dL_law_365 : decode cL_law 365 = .ok (.iaload, 1) := by decide +kernel
theorem dL_law_366 : decode cL_law 366 = .ok (.aload_n 0, 1) := by decide +kernel
theorem dL_law_367 : decode cL_law 367 = .ok (.iload_n 3, 1) := by decide +kernel
theorem dL_law_368 : decode cL_law 368 = .ok (.iconst 2, 1) := by decide +kernel
theorem dL_law_369 : decode cL_law 369 = .ok (.iadd, 1) := by decide +kernel
theorem dL_law_370 : decode cL_law 370 = .ok (.iaload, 1) := by decide +kernel
theorem dL_law_371 : decode cL_law 371 = .ok (.invokevirtual 50, 3) := by decide +kernel
theorem dL_law_374 : decode cL_law 374 = .ok (.if_icmp .eq 216, 3) := by decide +kernel
theorem dL_law_377 : decode cL_law 377 = .ok (.iconst 0, 1) := by decide +kernel
theorem dL_law_378 : decode cL_law 378 = .ok (.ireturn, 1) := by decide +kernel
theorem dL_law_379 : decode cL_law 379 = .ok (.aload_n 1, 1) := by decide +kernel
theorem dL_law_380 : decode cL_law 380 = .ok (.aload_n 0, 1) := by decide +kernel
theorem dL_law_381 : decode cL_law 381 = .ok (.iload_n 3, 1) := by decide +kernel
theorem dL_law_382 : decode cL_law 382 = .ok (.iconst 1, 1) := by decide +kernel
theorem dL_law_383 : decode cL_law 383 = .ok (.iadd, 1) := by decide +kernel
theorem dL_law_384 : decode cL_law 384 = .ok (.iaload, 1) := by decide +kernel
theorem dL_law_385 : decode cL_law 385 = .ok (.aload_n 0, 1) := by decide +kernel
theorem dL_law_386 : decode cL_law 386 = .ok (.iload_n 3, 1) := by decide +kernel
theorem dL_law_387 : decode cL_law 387 = .ok (.iconst 2, 1) := by decide +kernel
theorem dL_law_388 : decode cL_law 388 = .ok (.iadd, 1) := by decide +kernel
theorem dL_law_389 : decode cL_law 389 = .ok (.iaload, 1) := by decide +kernel
theorem dL_law_390 : decode cL_law 390 = .ok (.aload_n 0, 1) := by decide +kernel
theorem dL_law_391 : decode cL_law 391 = .ok (.iload_n 3, 1) := by decide +kernel
theorem dL_law_392 : decode cL_law 392 = .ok (.iconst 3, 1) := by decide +kernel
theorem dL_law_393 : decode cL_law 393 = .ok (.iadd, 1) := by decide +kernel
theorem dL_law_394 : decode cL_law 394 = .ok (.iaload, 1) := by decide +kernel
theorem dL_law_395 : decode cL_law 395 = .ok (.invokevirtual 51, 3) := by decide +kernel
theorem dL_law_398 : decode cL_law 398 = .ok (.aload_n 2, 1) := by decide +kernel
theorem dL_law_399 : decode cL_law 399 = .ok (.aload_n 0, 1) := by decide +kernel
theorem dL_law_400 : decode cL_law 400 = .ok (.iload_n 3, 1) := by decide +kernel
theorem dL_law_401 : decode cL_law 401 = .ok (.iconst 1, 1) := by decide +kernel
theorem dL_law_402 : decode cL_law 402 = .ok (.iadd, 1) := by decide +kernel
theorem dL_law_403 : decode cL_law 403 = .ok (.iaload, 1) := by decide +kernel
theorem dL_law_404 : decode cL_law 404 = .ok (.aload_n 0, 1) := by decide +kernel
theorem dL_law_405 : decode cL_law 405 = .ok (.iload_n 3, 1) := by decide +kernel
theorem dL_law_406 : decode cL_law 406 = .ok (.iconst 2, 1) := by decide +kernel
theorem dL_law_407 : decode cL_law 407 = .ok (.iadd, 1) := by decide +kernel
theorem dL_law_408 : decode cL_law 408 = .ok (.iaload, 1) := by decide +kernel
theorem dL_law_409 : decode cL_law 409 = .ok (.aload_n 0, 1) := by decide +kernel
theorem dL_law_410 : decode cL_law 410 = .ok (.iload_n 3, 1) := by decide +kernel
theorem dL_law_411 : decode cL_law 411 = .ok (.iconst 3, 1) := by decide +kernel
theorem dL_law_412 : decode cL_law 412 = .ok (.iadd, 1) := by decide +kernel
theorem dL_law_413 : decode cL_law 413 = .ok (.iaload, 1) := by decide +kernel
theorem dL_law_414 : decode cL_law 414 = .ok (.invokevirtual 55, 3) := by decide +kernel
theorem dL_law_417 : decode cL_law 417 = .ok (.if_icmp .eq 173, 3) := by decide +kernel
theorem dL_law_420 : decode cL_law 420 = .ok (.iconst 0, 1) := by decide +kernel
theorem dL_law_421 : decode cL_law 421 = .ok (.ireturn, 1) := by decide +kernel
theorem dL_law_422 : decode cL_law 422 = .ok (.aload_n 1, 1) := by decide +kernel
theorem dL_law_423 : decode cL_law 423 = .ok (.aload_n 0, 1) := by decide +kernel
theorem dL_law_424 : decode cL_law 424 = .ok (.iload_n 3, 1) := by decide +kernel
theorem dL_law_425 : decode cL_law 425 = .ok (.iconst 1, 1) := by decide +kernel
theorem dL_law_426 : decode cL_law 426 = .ok (.iadd, 1) := by decide +kernel
theorem dL_law_427 : decode cL_law 427 = .ok (.iaload, 1) := by decide +kernel
theorem dL_law_428 : decode cL_law 428 = .ok (.aload_n 0, 1) := by decide +kernel
theorem dL_law_429 : decode cL_law 429 = .ok (.iload_n 3, 1) := by decide +kernel
theorem dL_law_430 : decode cL_law 430 = .ok (.iconst 2, 1) := by decide +kernel
theorem dL_law_431 : decode cL_law 431 = .ok (.iadd, 1) := by decide +kernel
theorem dL_law_432 : decode cL_law 432 = .ok (.iaload, 1) := by decide +kernel
theorem dL_law_433 : decode cL_law 433 = .ok (.aload_n 0, 1) := by decide +kernel
theorem dL_law_434 : decode cL_law 434 = .ok (.iload_n 3, 1) := by decide +kernel
theorem dL_law_435 : decode cL_law 435 = .ok (.iconst 3, 1) := by decide +kernel
theorem dL_law_436 : decode cL_law 436 = .ok (.iadd, 1) := by decide +kernel
theorem dL_law_437 : decode cL_law 437 = .ok (.iaload, 1) := by decide +kernel
theorem dL_law_438 : decode cL_law 438 = .ok (.invokevirtual 56, 3) := by decide +kernel
theorem dL_law_441 : decode cL_law 441 = .ok (.aload_n 2, 1) := by decide +kernel
theorem dL_law_442 : decode cL_law 442 = .ok (.aload_n 0, 1) := by decide +kernel
theorem dL_law_443 : decode cL_law 443 = .ok (.iload_n 3, 1) := by decide +kernel
theorem dL_law_444 : decode cL_law 444 = .ok (.iconst 1, 1) := by decide +kernel
theorem dL_law_445 : decode cL_law 445 = .ok (.iadd, 1) := by decide +kernel
theorem dL_law_446 : decode cL_law 446 = .ok (.iaload, 1) := by decide +kernel
theorem dL_law_447 : decode cL_law 447 = .ok (.aload_n 0, 1) := by decide +kernel
theorem dL_law_448 : decode cL_law 448 = .ok (.iload_n 3, 1) := by decide +kernel
theorem dL_law_449 : decode cL_law 449 = .ok (.iconst 2, 1) := by decide +kernel
theorem dL_law_450 : decode cL_law 450 = .ok (.iadd, 1) := by decide +kernel
theorem dL_law_451 : decode cL_law 451 = .ok (.iaload, 1) := by decide +kernel
theorem dL_law_452 : decode cL_law 452 = .ok (.aload_n 0, 1) := by decide +kernel
theorem dL_law_453 : decode cL_law 453 = .ok (.iload_n 3, 1) := by decide +kernel
theorem dL_law_454 : decode cL_law 454 = .ok (.iconst 3, 1) := by decide +kernel
theorem dL_law_455 : decode cL_law 455 = .ok (.iadd, 1) := by decide +kernel
theorem dL_law_456 : decode cL_law 456 = .ok (.iaload, 1) := by decide +kernel
theorem dL_law_457 : decode cL_law 457 = .ok (.invokevirtual 59, 3) := by decide +kernel
theorem dL_law_460 : decode cL_law 460 = .ok (.if_icmp .eq 130, 3) := by decide +kernel
theorem dL_law_463 : decode cL_law 463 = .ok (.iconst 0, 1) := by decide +kernel
theorem dL_law_464 : decode cL_law 464 = .ok (.ireturn, 1) := by decide +kernel
theorem dL_law_465 : decode cL_law 465 = .ok (.aload_n 1, 1) := by decide +kernel
theorem dL_law_466 : decode cL_law 466 = .ok (.aload_n 0, 1) := by decide +kernel
theorem dL_law_467 : decode cL_law 467 = .ok (.iload_n 3, 1) := by decide +kernel
theorem dL_law_468 : decode cL_law 468 = .ok (.iconst 1, 1) := by decide +kernel
theorem dL_law_469 : decode cL_law 469 = .ok (.iadd, 1) := by decide +kernel
theorem dL_law_470 : decode cL_law 470 = .ok (.iaload, 1) := by decide +kernel
theorem dL_law_471 : decode cL_law 471 = .ok (.aload_n 0, 1) := by decide +kernel
theorem dL_law_472 : decode cL_law 472 = .ok (.iload_n 3, 1) := by decide +kernel
theorem dL_law_473 : decode cL_law 473 = .ok (.iconst 2, 1) := by decide +kernel
theorem dL_law_474 : decode cL_law 474 = .ok (.iadd, 1) := by decide +kernel
theorem dL_law_475 : decode cL_law 475 = .ok (.iaload, 1) := by decide +kernel
theorem dL_law_476 : decode cL_law 476 = .ok (.invokevirtual 60, 3) := by decide +kernel
theorem dL_law_479 : decode cL_law 479 = .ok (.aload_n 2, 1) := by decide +kernel
theorem dL_law_480 : decode cL_law 480 = .ok (.aload_n 0, 1) := by decide +kernel
theorem dL_law_481 : decode cL_law 481 = .ok (.iload_n 3, 1) := by decide +kernel
theorem dL_law_482 : decode cL_law 482 = .ok (.iconst 1, 1) := by decide +kernel
theorem dL_law_483 : decode cL_law 483 = .ok (.iadd, 1) := by decide +kernel
theorem dL_law_484 : decode cL_law 484 = .ok (.iaload, 1) := by decide +kernel
theorem dL_law_485 : decode cL_law 485 = .ok (.aload_n 0, 1) := by decide +kernel
theorem dL_law_486 : decode cL_law 486 = .ok (.iload_n 3, 1) := by decide +kernel
theorem dL_law_487 : decode cL_law 487 = .ok (.iconst 2, 1) := by decide +kernel
theorem dL_law_488 : decode cL_law 488 = .ok (.iadd, 1) := by decide +kernel
theorem dL_law_489 : decode cL_law 489 = .ok (.iaload, 1) := by decide +kernel
theorem dL_law_490 : decode cL_law 490 = .ok (.invokevirtual 63, 3) := by decide +kernel
theorem dL_law_493 : decode cL_law 493 = .ok (.if_icmp .eq 97, 3) := by decide +kernel
theorem dL_law_496 : decode cL_law 496 = .ok (.iconst 0, 1) := by decide +kernel
theorem dL_law_497 : decode cL_law 497 = .ok (.ireturn, 1) := by decide +kernel
theorem dL_law_498 : decode cL_law 498 = .ok (.aload_n 1, 1) := by decide +kernel
theorem dL_law_499 : decode cL_law 499 = .ok (.aload_n 0, 1) := by decide +kernel
theorem dL_law_500 : decode cL_law 500 = .ok (.iload_n 3, 1) := by decide +kernel
theorem dL_law_501 : decode cL_law 501 = .ok (.iconst 1, 1) := by decide +kernel
theorem dL_law_502 : decode cL_law 502 = .ok (.iadd, 1) := by decide +kernel
theorem dL_law_503 : decode cL_law 503 = .ok (.iaload, 1) := by decide +kernel
theorem dL_law_504 : decode cL_law 504 = .ok (.invokevirtual 64, 3) := by decide +kernel
theorem dL_law_507 : decode cL_law 507 = .ok (.aload_n 2, 1) := by decide +kernel
theorem dL_law_508 : decode cL_law 508 = .ok (.aload_n 0, 1) := by decide +kernel
theorem dL_law_509 : decode cL_law 509 = .ok (.iload_n 3, 1) := by decide +kernel
theorem dL_law_510 : decode cL_law 510 = .ok (.iconst 1, 1) := by decide +kernel
theorem dL_law_511 : decode cL_law 511 = .ok (.iadd, 1) := by decide +kernel
theorem dL_law_512 : decode cL_law 512 = .ok (.iaload, 1) := by decide +kernel
theorem dL_law_513 : decode cL_law 513 = .ok (.invokevirtual 67, 3) := by decide +kernel
theorem dL_law_516 : decode cL_law 516 = .ok (.if_icmp .eq 74, 3) := by decide +kernel
theorem dL_law_519 : decode cL_law 519 = .ok (.iconst 0, 1) := by decide +kernel
theorem dL_law_520 : decode cL_law 520 = .ok (.ireturn, 1) := by decide +kernel
theorem dL_law_521 : decode cL_law 521 = .ok (.aload_n 1, 1) := by decide +kernel
theorem dL_law_522 : decode cL_law 522 = .ok (.aload_n 0, 1) := by decide +kernel
theorem dL_law_523 : decode cL_law 523 = .ok (.iload_n 3, 1) := by decide +kernel
theorem dL_law_524 : decode cL_law 524 = .ok (.iconst 1, 1) := by decide +kernel
theorem dL_law_525 : decode cL_law 525 = .ok (.iadd, 1) := by decide +kernel
theorem dL_law_526 : decode cL_law 526 = .ok (.iaload, 1) := by decide +kernel
theorem dL_law_527 : decode cL_law 527 = .ok (.invokevirtual 68, 3) := by decide +kernel
theorem dL_law_530 : decode cL_law 530 = .ok (.aload_n 2, 1) := by decide +kernel
theorem dL_law_531 : decode cL_law 531 = .ok (.aload_n 0, 1) := by decide +kernel
theorem dL_law_532 : decode cL_law 532 = .ok (.iload_n 3, 1) := by decide +kernel
theorem dL_law_533 : decode cL_law 533 = .ok (.iconst 1, 1) := by decide +kernel
theorem dL_law_534 : decode cL_law 534 = .ok (.iadd, 1) := by decide +kernel
theorem dL_law_535 : decode cL_law 535 = .ok (.iaload, 1) := by decide +kernel
theorem dL_law_536 : decode cL_law 536 = .ok (.invokevirtual 71, 3) := by decide +kernel
theorem dL_law_539 : decode cL_law 539 = .ok (.if_icmp .eq 51, 3) := by decide +kernel
theorem dL_law_542 : decode cL_law 542 = .ok (.iconst 0, 1) := by decide +kernel
theorem dL_law_543 : decode cL_law 543 = .ok (.ireturn, 1) := by decide +kernel
theorem dL_law_544 : decode cL_law 544 = .ok (.aload_n 1, 1) := by decide +kernel
theorem dL_law_545 : decode cL_law 545 = .ok (.aload_n 0, 1) := by decide +kernel
theorem dL_law_546 : decode cL_law 546 = .ok (.iload_n 3, 1) := by decide +kernel
theorem dL_law_547 : decode cL_law 547 = .ok (.iconst 1, 1) := by decide +kernel
theorem dL_law_548 : decode cL_law 548 = .ok (.iadd, 1) := by decide +kernel
theorem dL_law_549 : decode cL_law 549 = .ok (.iaload, 1) := by decide +kernel
theorem dL_law_550 : decode cL_law 550 = .ok (.invokevirtual 72, 3) := by decide +kernel
theorem dL_law_553 : decode cL_law 553 = .ok (.aload_n 2, 1) := by decide +kernel
theorem dL_law_554 : decode cL_law 554 = .ok (.aload_n 0, 1) := by decide +kernel
theorem dL_law_555 : decode cL_law 555 = .ok (.iload_n 3, 1) := by decide +kernel
theorem dL_law_556 : decode cL_law 556 = .ok (.iconst 1, 1) := by decide +kernel
theorem dL_law_557 : decode cL_law 557 = .ok (.iadd, 1) := by decide +kernel
theorem dL_law_558 : decode cL_law 558 = .ok (.iaload, 1) := by decide +kernel
theorem dL_law_559 : decode cL_law 559 = .ok (.invokevirtual 75, 3) := by decide +kernel
theorem dL_law_562 : decode cL_law 562 = .ok (.if_icmp .eq 28, 3) := by decide +kernel
theorem dL_law_565 : decode cL_law 565 = .ok (.iconst 0, 1) := by decide +kernel
theorem dL_law_566 : decode cL_law 566 = .ok (.ireturn, 1) := by decide +kernel
theorem dL_law_567 : decode cL_law 567 = .ok (.aload_n 1, 1) := by decide +kernel
theorem dL_law_568 : decode cL_law 568 = .ok (.aload_n 0, 1) := by decide +kernel
theorem dL_law_569 : decode cL_law 569 = .ok (.iload_n 3, 1) := by decide +kernel
theorem dL_law_570 : decode cL_law 570 = .ok (.iconst 1, 1) := by decide +kernel
theorem dL_law_571 : decode cL_law 571 = .ok (.iadd, 1) := by decide +kernel
theorem dL_law_572 : decode cL_law 572 = .ok (.iaload, 1) := by decide +kernel
theorem dL_law_573 : decode cL_law 573 = .ok (.invokevirtual 76, 3) := by decide +kernel
theorem dL_law_576 : decode cL_law 576 = .ok (.aload_n 2, 1) := by decide +kernel
theorem dL_law_577 : decode cL_law 577 = .ok (.aload_n 0, 1) := by decide +kernel
theorem dL_law_578 : decode cL_law 578 = .ok (.iload_n 3, 1) := by decide +kernel
theorem dL_law_579 : decode cL_law 579 = .ok (.iconst 1, 1) := by decide +kernel
theorem dL_law_580 : decode cL_law 580 = .ok (.iadd, 1) := by decide +kernel
theorem dL_law_581 : decode cL_law 581 = .ok (.iaload, 1) := by decide +kernel
theorem dL_law_582 : decode cL_law 582 = .ok (.invokevirtual 79, 3) := by decide +kernel
theorem dL_law_585 : decode cL_law 585 = .ok (.if_icmp .eq 5, 3) := by decide +kernel
theorem dL_law_588 : decode cL_law 588 = .ok (.iconst 0, 1) := by decide +kernel
theorem dL_law_589 : decode cL_law 589 = .ok (.ireturn, 1) := by decide +kernel
theorem dL_law_590 : decode cL_law 590 = .ok (.iinc 3 4, 3) := by decide +kernel
theorem dL_law_593 : decode cL_law 593 = .ok (.goto (-575), 3) := by decide +kernel
theorem dL_law_596 : decode cL_law 596 = .ok (.iconst 1, 1) := by decide +kernel
theorem dL_law_597 : decode cL_law 597 = .ok (.ireturn, 1) := by decide +kernel
end
section
/-! BASE: the environment that rides along (classes, array classes, the nest mates' words), contracts of methods that make nothing, their begin and end, calls -/
abbrev EE : Type := va_G × (Nat → ClassId)
abbrev kt (E : EE) : List (ClassId × FieldType) := [(E.2 0, .int), (E.2 1, .object RX1), (E.2 2, .object RX0), (E.2 3, .boolean)]
def isNest : Cond → Bool
  | .fieldLinkNest _ _ _ _ _ _ => true
  | .methodLinkNest _ _ _ _ => true
  | _ => false
def nW : List Cond := lw_tbl.filter isNest
def ev (E : EE) (U : State) : Prop := va_K E.1 vwCl (kt E) U ∧ ∀ w ∈ nW, va_Nw w U
theorem nest_warm {w : Cond} (h : isNest w = true) {s U : State} (hW : s.WarmedH U.vm) (hZ : va_Nw w s) : va_Nw w U := by
  cases w <;> first | exact va_Nw.warmF hW hZ | exact va_Nw.warmM hW hZ | (simp [isNest] at h; done)
theorem nest_tab {w : Cond} (h : isNest w = true) : w.onTables = true := by
  cases w <;> first | (simp [isNest] at h; done) | rfl
theorem nW_nest {w : Cond} (h : w ∈ nW) : isNest w = true := (List.mem_filter.mp h).2
theorem ev_warm {E : EE} {s U : State} (h : ev E s) (hW : s.WarmedH U.vm) : ev E U := ⟨va_K.moved hW.alike h.1, fun w hw => nest_warm (nW_nest hw) hW (h.2 w hw)⟩
theorem ev_same {E : EE} {s U : State} (h : ev E s) (hvm : s.vm = U.vm) : ev E U := ⟨va_K.moved (by rw [hvm]; exact Vm.Alike.refl U.vm) h.1, fun w hw => va_Nw.same (nest_tab (nW_nest hw)) hvm (h.2 w hw)⟩
theorem ev_link {E : EE} {s : State} (h : ev E s) {w : Cond} (hw : w ∈ lw_tbl) (hn : isNest w = true) : va_Nw w s := h.2 w (List.mem_filter.mpr ⟨hw, hn⟩)
theorem ev_use {E : EE} {s : State} {args : Array Value} (h : ev E s) {w : Cond} (hw : w ∈ lw_tbl) (hn : isNest w = true) : w.before args s = true := va_Nw.use (nest_tab hn) (ev_link h hw hn)
/-- the start and the end of a method that holds the world w -/
def Pw (E : EE) (w : va_W) (sz : Nat) (U : State) : Prop := U.heap.size = sz ∧ va_P E.1 vwCl w U.heap ∧ ev E U ∧ va_D (fun _ => True) w
def Bw (E : EE) (w : va_W) (A : Nat → Prop) : Unit → State → Prop := fun _ t => va_P E.1 vwCl w t.heap ∧ va_D A w
/-- y, in the world w with arguments av, answers r; the world is w' then -/
def Ci (l : Launch) (E : EE) (y : MethodName) (ws : List Cond) (rm : Room) (av : List Value) (w : va_W) (r : Int32) (w' : va_W) : Prop :=
  ∀ sz : Nat, Met l y ws rm (va_Pc av (Pw E w sz)) (va_Qi (fun x (_ : Unit) => x = r) (Bw E w' (va_A w sz)) (va_A w sz)) 0 0 (va_A w sz)
def Cv (l : Launch) (E : EE) (y : MethodName) (ws : List Cond) (rm : Room) (av : List Value) (w w' : va_W) : Prop :=
  ∀ sz : Nat, Met l y ws rm (va_Pc av (Pw E w sz)) (va_Qv (fun (_ : Unit) => True) (Bw E w' (va_A w sz)) (va_A w sz)) 0 0 (va_A w sz)
theorem Ci.of {l : Launch} {E : EE} {y : MethodName} {ws ws' : List Cond} {rm : Room} {av : List Value} {w w' : va_W} {r : Int32} {cc : ByteArray} {maxL : Nat} {rt : FieldType} (hy : plainName y.cls = true) (hw : ws = Cond.code y cc maxL (some rt) :: ws') (hn : narrow rt (.int r) = .int r) (hmx : (lg_sl av).length ≤ maxL)
    (body : ∀ (p : Program) (e : Env) (s : State) (m : MethodId) (args : Array Value) (below : List Frame) (meth : Method) (c : Code) (A : Nat → Prop) (Q : State → Prop), CallFix p m c cc maxL s args ws y.cls → ev E s → (∀ q, s.heap.size ≤ q → A q) →
      (∀ (H : Heap) (locs : List Loc) (pc : Nat) (ls : Array Slot) (v : Int32), va_P E.1 vwCl w' H → va_D A w' → va_S A s.heap H locs → v = r → decode cc pc = .ok (.ireturn, 1) → W p l e rm s m args below meth c H locs 0 0 Q (F0 m pc ls [.int v])) →
      va_P E.1 vwCl w s.heap → va_D A w → ∀ ls : Array Slot, lv_has ls maxL (lv_args 0 av) → W p l e rm s m args below meth c s.heap [] 0 0 Q (F0 m 0 ls [])) : Ci l E y ws rm av w r w' := by
  intro sz
  refine Met.ofW (cc := cc) (maxL := maxL) (ret := some rt) hy hw ?_
  intro p e s m args below meth c s₁ B hml hv
  obtain ⟨rfl, hsz, hP, hE, hD0⟩ := hv
  subst hsz
  have hlocks := B.notSynchronized
  have hl := lv_entry av (n := maxL) hmx
  rw [lg_entry_eq]
  refine body p e s m _ below meth c (va_A w s.heap.size) _ ⟨B.exec, B.bytes, hml, findClass_of_methodNamed B.named, atoms_spec (ws := ws) B.pre⟩ hE (fun q h => Or.inr h) ?_ hP (hD0.self (sz := s.heap.size)) _ hl
  intro H locs pc ls v hP1 hD1 hS hvr hdg
  subst hvr
  exact W.zret B.exec B.bytes B.returns hn (fun t ht hW => ⟨⟨_, (), rfl, rfl, by rw [ht]; exact hP1, hD1⟩, hS.F ht⟩) hS.2.2 hdg
theorem Cv.of {l : Launch} {E : EE} {y : MethodName} {ws ws' : List Cond} {rm : Room} {av : List Value} {w w' : va_W} {cc : ByteArray} {maxL : Nat} (hy : plainName y.cls = true) (hw : ws = Cond.code y cc maxL none :: ws') (hmx : (lg_sl av).length ≤ maxL)
    (body : ∀ (p : Program) (e : Env) (s : State) (m : MethodId) (args : Array Value) (below : List Frame) (meth : Method) (c : Code) (A : Nat → Prop) (Q : State → Prop), CallFix p m c cc maxL s args ws y.cls → ev E s → (∀ q, s.heap.size ≤ q → A q) →
      (∀ (H : Heap) (locs : List Loc) (pc : Nat) (ls : Array Slot), va_P E.1 vwCl w' H → va_D A w' → va_S A s.heap H locs → decode cc pc = .ok (.return_, 1) → W p l e rm s m args below meth c H locs 0 0 Q (F0 m pc ls [])) →
      va_P E.1 vwCl w s.heap → va_D A w → ∀ ls : Array Slot, lv_has ls maxL (lv_args 0 av) → W p l e rm s m args below meth c s.heap [] 0 0 Q (F0 m 0 ls [])) : Cv l E y ws rm av w w' := by
  intro sz
  refine Met.ofW (cc := cc) (maxL := maxL) (ret := none) hy hw ?_
  intro p e s m args below meth c s₁ B hml hv
  obtain ⟨rfl, hsz, hP, hE, hD0⟩ := hv
  subst hsz
  have hlocks := B.notSynchronized
  have hl := lv_entry av (n := maxL) hmx
  rw [lg_entry_eq]
  refine body p e s m _ below meth c (va_A w s.heap.size) _ ⟨B.exec, B.bytes, hml, findClass_of_methodNamed B.named, atoms_spec (ws := ws) B.pre⟩ hE (fun q h => Or.inr h) ?_ hP (hD0.self (sz := s.heap.size)) _ hl
  intro H locs pc ls hP1 hD1 hS hdg
  exact W.vret B.exec B.bytes B.returns (fun t ht hW => ⟨⟨(), rfl, trivial, by rw [ht]; exact hP1, hD1⟩, hS.F ht⟩) hS.2.2 hdg
/-- wd holds wc; with w1 in its place it is wd' -/
def Fr (wd wc w1 wd' : va_W) : Prop := ∃ x z : va_W, wd = x ++ (wc ++ z) ∧ wd' = x ++ (w1 ++ z)
theorem Fr.all {w w' : va_W} : Fr w w w' w' := ⟨[], [], by simp, by simp⟩
theorem Fr.pre {w w' r : va_W} : Fr (w ++ r) w w' (w' ++ r) := ⟨[], r, by simp, by simp⟩
theorem Fr.suf {w w' r : va_W} : Fr (r ++ w) w w' (r ++ w') := ⟨r, [], by simp, by simp⟩
theorem ap_l {x z : va_W} {k : Nat} {q : Nat × va_E} (h : x[k]? = some q) : (x ++ z)[k]? = some q := by
  have hk : k < x.length := (List.getElem?_eq_some_iff.mp h).1
  rw [List.getElem?_append_left hk]; exact h
theorem ap_r {x z : va_W} {k : Nat} {q : Nat × va_E} (h : z[k]? = some q) : (x ++ z)[x.length + k]? = some q := by
  rw [List.getElem?_append_right (Nat.le_add_right _ _), Nat.add_sub_cancel_left]; exact h
theorem ap_or {x z : va_W} {k : Nat} {q : Nat × va_E} (h : (x ++ z)[k]? = some q) : x[k]? = some q ∨ (x.length ≤ k ∧ z[k - x.length]? = some q) := by
  by_cases hk : k < x.length
  · rw [List.getElem?_append_left hk] at h; exact Or.inl h
  · rw [List.getElem?_append_right (by omega)] at h; exact Or.inr ⟨by omega, h⟩
theorem Pl {D : va_G} {cl : List vw_C} {x z : va_W} {H : Heap} (h : va_P D cl (x ++ z) H) : va_P D cl x H := fun k q hk => h k q (ap_l hk)
theorem Pr {D : va_G} {cl : List vw_C} {x z : va_W} {H : Heap} (h : va_P D cl (x ++ z) H) : va_P D cl z H := fun k q hk => h (x.length + k) q (ap_r hk)
theorem Dl {A : Nat → Prop} {x z : va_W} (h : va_D A (x ++ z)) : va_D A x := ⟨fun i j p q hi hj e => h.1 i j p q (ap_l hi) (ap_l hj) e, fun k q hk => h.2 k q (ap_l hk)⟩
theorem Dr {A : Nat → Prop} {x z : va_W} (h : va_D A (x ++ z)) : va_D A z := ⟨fun i j p q hi hj e => by have := h.1 (x.length + i) (x.length + j) p q (ap_r hi) (ap_r hj) e; omega, fun k q hk => h.2 _ q (ap_r hk)⟩
theorem Dx {A : Nat → Prop} {x z : va_W} (h : va_D A (x ++ z)) (i j : Nat) (p q : Nat × va_E) (hi : x[i]? = some p) (hj : z[j]? = some q) : p.1 ≠ q.1 := fun e => by
  have := h.1 i (x.length + j) p q (ap_l hi) (ap_r hj) e
  have := (List.getElem?_eq_some_iff.mp hi).1
  omega
theorem Fr.part {wd wc w1 wd' : va_W} (h : Fr wd wc w1 wd') {D : va_G} {cl : List vw_C} {A : Nat → Prop} {H : Heap} (hP : va_P D cl wd H) (hD : va_D A wd) : va_P D cl wc H ∧ va_D A wc := by
  obtain ⟨x, z, rfl, -⟩ := h
  exact ⟨Pl (Pr hP), Dl (Dr hD)⟩
theorem Fr.free {wd wc w1 wd' : va_W} (h : Fr wd wc w1 wd') {A : Nat → Prop} {H0 H : Heap} {locs : List Loc} (hD : va_D A wd) (hS : va_S A H0 H locs) (hA : ∀ q, H0.size ≤ q → A q) : ∀ q, va_A wc H.size q → A q := by
  obtain ⟨x, z, rfl, -⟩ := h
  rintro q (⟨k, e, hk⟩ | hq)
  · exact hD.2 _ (q, e) (ap_r (ap_l hk))
  · exact hA q (Nat.le_trans hS.1 hq)
theorem Fr.join {wd wc w1 wd' : va_W} (h : Fr wd wc w1 wd') {D : va_G} {cl : List vw_C} {A : Nat → Prop} {H H1 : Heap} (hP : va_P D cl wd H) (hD : va_D A wd) (hk : ∀ q : Nat, q < H.size → ¬ va_A wc H.size q → H1[q]? = H[q]?) (hF : ∀ q, va_A wc H.size q → A q) (hP1 : va_P D cl w1 H1) (hD1 : va_D (va_A wc H.size) w1) : va_P D cl wd' H1 ∧ va_D A wd' := by
  obtain ⟨x, z, rfl, rfl⟩ := h
  have ax : ∀ (k : Nat) (q : Nat × va_E), x[k]? = some q → q.1 < H.size ∧ ¬ va_A wc H.size q.1 := by
    intro k q hq
    have hl := (hP k q (ap_l hq)).lt
    refine ⟨hl, ?_⟩
    rintro (⟨j, e, hj⟩ | hs)
    · exact Dx hD k j q (q.1, e) hq (ap_l hj) rfl
    · omega
  have az : ∀ (k : Nat) (q : Nat × va_E), z[k]? = some q → q.1 < H.size ∧ ¬ va_A wc H.size q.1 := by
    intro k q hq
    have hl := (Pr (Pr hP) k q hq).lt
    refine ⟨hl, ?_⟩
    rintro (⟨j, e, hj⟩ | hs)
    · exact Dx (Dr hD) j k (q.1, e) q hj hq rfl
    · omega
  have hx : va_P D cl x H1 := (Pl hP).kept (fun k q hq => hk q.1 (ax k q hq).1 (ax k q hq).2)
  have hz : va_P D cl z H1 := (Pr (Pr hP)).kept (fun k q hq => hk q.1 (az k q hq).1 (az k q hq).2)
  refine ⟨hx.app (hP1.app hz), (Dl hD).app ((hD1.weaken (fun k q _ h => hF q.1 h)).app (Dr (Dr hD)) ?_) ?_⟩
  · intro i j p q hi hj e
    exact (az j q hj).2 (by rw [← e]; exact hD1.2 i p hi)
  · intro i j p q hi hj e
    rcases ap_or hj with h | ⟨-, h⟩
    · exact (ax i p hi).2 (by rw [e]; exact hD1.2 j q h)
    · exact Dx hD i (wc.length + (j - w1.length)) p q hi (ap_r h) e
section CLB
variable {p : Program} {l : Launch} {e : Env} {R : Room} {s : State} {m : MethodId} {args : Array Value} {below : List Frame} {meth : Method} {c : Code} {H H0 : Heap} {locs : List Loc} {Q : State → Prop} {cc : ByteArray} {pc : Nat} {ls : Array Slot} {rest st0 : List Value} {A : Nat → Prop} {E : EE} {wd wc w1 wd' : va_W} {aa : Array Value} {r : Int32} {cells slots : Nat}
/-- behind a call that answers an int -/
theorem cl_i (hr : va_Run p l e R s m args below meth c H locs cells slots 0 0 (F0 m pc ls st0) rest (va_Qi (fun x (_ : Unit) => x = r) (Bw E w1 (va_A wc H.size)) (va_A wc H.size) aa) (va_A wc H.size)) (hF : Fr wd wc w1 wd') (hP : va_P E.1 vwCl wd H) (hD : va_D A wd) (hS : va_S A H0 H locs) (hA : ∀ q, H0.size ≤ q → A q)
    (kk : ∀ (H1 : Heap) (locs1 : List Loc), va_P E.1 vwCl wd' H1 → va_D A wd' → va_S A H0 H1 locs1 → W p l e R s m args below meth c H1 locs1 cells slots Q (F0 m (pc + 3) ls (.int r :: rest))) : W p l e R s m args below meth c H locs cells slots Q (F0 m pc ls st0) := by
  have hf := hF.free hD hS hA
  refine va_calli hr hS (fun q _ h => hf q h) hf (fun x u t H1 locs1 ht hvm hw hB hz1 hk1 hS1 => ?_)
  subst hw
  obtain ⟨hP1, hD1⟩ := hB
  rw [ht] at hP1
  obtain ⟨hP2, hD2⟩ := hF.join hP hD hk1 hf hP1 hD1
  exact kk H1 locs1 hP2 hD2 hS1
theorem cl_v (hr : va_Run p l e R s m args below meth c H locs cells slots 0 0 (F0 m pc ls st0) rest (va_Qv (fun (_ : Unit) => True) (Bw E w1 (va_A wc H.size)) (va_A wc H.size) aa) (va_A wc H.size)) (hF : Fr wd wc w1 wd') (hP : va_P E.1 vwCl wd H) (hD : va_D A wd) (hS : va_S A H0 H locs) (hA : ∀ q, H0.size ≤ q → A q)
    (kk : ∀ (H1 : Heap) (locs1 : List Loc), va_P E.1 vwCl wd' H1 → va_D A wd' → va_S A H0 H1 locs1 → W p l e R s m args below meth c H1 locs1 cells slots Q (F0 m (pc + 3) ls rest)) : W p l e R s m args below meth c H locs cells slots Q (F0 m pc ls st0) := by
  have hf := hF.free hD hS hA
  refine va_callv hr hS (fun q _ h => hf q h) hf (fun u t H1 locs1 ht hvm hw hB hz1 hk1 hS1 => ?_)
  obtain ⟨hP1, hD1⟩ := hB
  rw [ht] at hP1
  obtain ⟨hP2, hD2⟩ := hF.join hP hD hk1 hf hP1 hD1
  exact kk H1 locs1 hP2 hD2 hS1
theorem Pw_blind {av : List Value} {w : va_W} {sz : Nat} : FrameBlind (va_Pc av (Pw E w sz)) := fun a U g mk q => by
  obtain ⟨q0, q1, qP, qE, qD⟩ := q
  exact ⟨q0, q1, qP, ev_same (s := U) (U := U.calling g mk a) qE rfl, qD⟩
theorem Pw_of {w : va_W} (hE : ev E s) (hP : va_P E.1 vwCl w H) (hD : va_D A w) (av : List Value) : ∀ U : State, U.heap = H → s.WarmedH U.vm → va_Pc av (Pw E w H.size) av.toArray U := fun U hU hW => ⟨rfl, by rw [hU], by rw [hU]; exact hP, ev_warm hE hW, hD.weaken (fun _ _ _ _ => trivial)⟩
variable {y : MethodName} {bytes : ByteArray} {maxL nL n index : Nat} {ret : Option FieldType} {ws : List Cond} {rm : Room} {Qc : Array Value → State → Outcome → State → Prop} {free : Addr → Prop} {Ts : List Cond} {own C host : String} {b : Addr} {As : List Value} {fs : List Value} {tq : vw_C}
theorem ci_V (S : CallFix p m c cc nL s args Ts own) (hE : ev E s) (hM : Ci l E y ws rm (.ref b :: As) wc r w1) (cw : CallW R s args own C index y bytes maxL ret ws rm 0 0 n) (hF : Fr wd wc w1 wd') (q0 ci : Nat) (he : wc[q0]? = some (b, .inr (ci, fs))) (hc : vwCl[ci]? = some tq) (hC : tq.1 = C) (hP : va_P E.1 vwCl wd H) (hD : va_D A wd) (hS : va_S A H0 H locs) (hA : ∀ q, H0.size ≤ q → A q)
    (hn : As.length = n) (hsize : ls.size = nL) (hstack : st0 = As.reverse ++ .ref b :: rest) (hW : (rest.map fun v => v.category).sum ≤ 8) (hdg : decode cc pc = .ok (.invokevirtual index, 3)) (hf : cells ≤ R.cells ∧ slots ≤ R.slots)
    (kk : ∀ (H1 : Heap) (locs1 : List Loc), va_P E.1 vwCl wd' H1 → va_D A wd' → va_S A H0 H1 locs1 → W p l e R s m args below meth c H1 locs1 cells slots Q (F0 m (pc + 3) ls (.int r :: rest))) : W p l e R s m args below meth c H locs cells slots Q (F0 m pc ls st0) := by
  obtain ⟨hPc, hDc⟩ := hF.part hP hD
  have hrec : ∃ cellB : Cell, H[b]? = some cellB ∧ cellB.vm.isStatics = false ∧ s.vm.findClass C = some cellB.cls := by
    rw [← hC]
    exact va_recv hE.1 hPc hc he
  exact cl_i (va_runV S (hM H.size) cw ⟨Pw_blind, hrec, Pw_of hE hPc hDc _⟩ rfl hn hsize hstack (lv_room hW) hdg hf) hF hP hD hS hA kk
theorem cv_V (S : CallFix p m c cc nL s args Ts own) (hE : ev E s) (hM : Cv l E y ws rm (.ref b :: As) wc w1) (cw : CallW R s args own C index y bytes maxL ret ws rm 0 0 n) (hF : Fr wd wc w1 wd') (q0 ci : Nat) (he : wc[q0]? = some (b, .inr (ci, fs))) (hc : vwCl[ci]? = some tq) (hC : tq.1 = C) (hP : va_P E.1 vwCl wd H) (hD : va_D A wd) (hS : va_S A H0 H locs) (hA : ∀ q, H0.size ≤ q → A q)
    (hn : As.length = n) (hsize : ls.size = nL) (hstack : st0 = As.reverse ++ .ref b :: rest) (hW : (rest.map fun v => v.category).sum ≤ 8) (hdg : decode cc pc = .ok (.invokevirtual index, 3)) (hf : cells ≤ R.cells ∧ slots ≤ R.slots)
    (kk : ∀ (H1 : Heap) (locs1 : List Loc), va_P E.1 vwCl wd' H1 → va_D A wd' → va_S A H0 H1 locs1 → W p l e R s m args below meth c H1 locs1 cells slots Q (F0 m (pc + 3) ls (rest))) : W p l e R s m args below meth c H locs cells slots Q (F0 m pc ls st0) := by
  obtain ⟨hPc, hDc⟩ := hF.part hP hD
  have hrec : ∃ cellB : Cell, H[b]? = some cellB ∧ cellB.vm.isStatics = false ∧ s.vm.findClass C = some cellB.cls := by
    rw [← hC]
    exact va_recv hE.1 hPc hc he
  exact cl_v (va_runV S (hM H.size) cw ⟨Pw_blind, hrec, Pw_of hE hPc hDc _⟩ rfl hn hsize hstack (lv_room hW) hdg hf) hF hP hD hS hA kk
theorem ci_VN (S : CallFix p m c cc nL s args Ts own) (hE : ev E s) (hM : Ci l E y ws rm (.ref b :: As) wc r w1) (cw : va_CN R s args own index y host bytes maxL ret ws rm 0 0 n ∧ (Cond.instanceMethod y).before args s = true ∧ (Cond.selects C y y).before args s = true) (hF : Fr wd wc w1 wd') (q0 ci : Nat) (he : wc[q0]? = some (b, .inr (ci, fs))) (hc : vwCl[ci]? = some tq) (hC : tq.1 = C) (hP : va_P E.1 vwCl wd H) (hD : va_D A wd) (hS : va_S A H0 H locs) (hA : ∀ q, H0.size ≤ q → A q)
    (hn : As.length = n) (hsize : ls.size = nL) (hstack : st0 = As.reverse ++ .ref b :: rest) (hW : (rest.map fun v => v.category).sum ≤ 8) (hdg : decode cc pc = .ok (.invokevirtual index, 3)) (hf : cells ≤ R.cells ∧ slots ≤ R.slots)
    (kk : ∀ (H1 : Heap) (locs1 : List Loc), va_P E.1 vwCl wd' H1 → va_D A wd' → va_S A H0 H1 locs1 → W p l e R s m args below meth c H1 locs1 cells slots Q (F0 m (pc + 3) ls (.int r :: rest))) : W p l e R s m args below meth c H locs cells slots Q (F0 m pc ls st0) := by
  obtain ⟨hPc, hDc⟩ := hF.part hP hD
  have hrec : ∃ cellB : Cell, H[b]? = some cellB ∧ cellB.vm.isStatics = false ∧ s.vm.findClass C = some cellB.cls := by
    rw [← hC]
    exact va_recv hE.1 hPc hc he
  exact cl_i (va_runVN S (hM H.size) cw ⟨Pw_blind, hrec, Pw_of hE hPc hDc _⟩ rfl hn hsize hstack (lv_room hW) hdg hf) hF hP hD hS hA kk
theorem cv_VN (S : CallFix p m c cc nL s args Ts own) (hE : ev E s) (hM : Cv l E y ws rm (.ref b :: As) wc w1) (cw : va_CN R s args own index y host bytes maxL ret ws rm 0 0 n ∧ (Cond.instanceMethod y).before args s = true ∧ (Cond.selects C y y).before args s = true) (hF : Fr wd wc w1 wd') (q0 ci : Nat) (he : wc[q0]? = some (b, .inr (ci, fs))) (hc : vwCl[ci]? = some tq) (hC : tq.1 = C) (hP : va_P E.1 vwCl wd H) (hD : va_D A wd) (hS : va_S A H0 H locs) (hA : ∀ q, H0.size ≤ q → A q)
    (hn : As.length = n) (hsize : ls.size = nL) (hstack : st0 = As.reverse ++ .ref b :: rest) (hW : (rest.map fun v => v.category).sum ≤ 8) (hdg : decode cc pc = .ok (.invokevirtual index, 3)) (hf : cells ≤ R.cells ∧ slots ≤ R.slots)
    (kk : ∀ (H1 : Heap) (locs1 : List Loc), va_P E.1 vwCl wd' H1 → va_D A wd' → va_S A H0 H1 locs1 → W p l e R s m args below meth c H1 locs1 cells slots Q (F0 m (pc + 3) ls (rest))) : W p l e R s m args below meth c H locs cells slots Q (F0 m pc ls st0) := by
  obtain ⟨hPc, hDc⟩ := hF.part hP hD
  have hrec : ∃ cellB : Cell, H[b]? = some cellB ∧ cellB.vm.isStatics = false ∧ s.vm.findClass C = some cellB.cls := by
    rw [← hC]
    exact va_recv hE.1 hPc hc he
  exact cl_v (va_runVN S (hM H.size) cw ⟨Pw_blind, hrec, Pw_of hE hPc hDc _⟩ rfl hn hsize hstack (lv_room hW) hdg hf) hF hP hD hS hA kk
theorem ci_S (S : CallFix p m c cc nL s args Ts own) (hE : ev E s) (hM : Ci l E y ws rm (As) wc r w1) (cw : CallB R s args own index y bytes maxL ret ws rm 0 0 n ∧ (Cond.static y).before args s = true) (hF : Fr wd wc w1 wd') (hP : va_P E.1 vwCl wd H) (hD : va_D A wd) (hS : va_S A H0 H locs) (hA : ∀ q, H0.size ≤ q → A q)
    (hn : As.length = n) (hsize : ls.size = nL) (hstack : st0 = As.reverse ++ rest) (hW : (rest.map fun v => v.category).sum ≤ 8) (hdg : decode cc pc = .ok (.invokestatic index, 3)) (hf : cells ≤ R.cells ∧ slots ≤ R.slots)
    (kk : ∀ (H1 : Heap) (locs1 : List Loc), va_P E.1 vwCl wd' H1 → va_D A wd' → va_S A H0 H1 locs1 → W p l e R s m args below meth c H1 locs1 cells slots Q (F0 m (pc + 3) ls (.int r :: rest))) : W p l e R s m args below meth c H locs cells slots Q (F0 m pc ls st0) := by
  obtain ⟨hPc, hDc⟩ := hF.part hP hD
  exact cl_i (va_runS S (hM H.size) cw ⟨Pw_blind, Pw_of hE hPc hDc _⟩ rfl hn hsize hstack (lv_room hW) hdg hf) hF hP hD hS hA kk
theorem cv_S (S : CallFix p m c cc nL s args Ts own) (hE : ev E s) (hM : Cv l E y ws rm (As) wc w1) (cw : CallB R s args own index y bytes maxL ret ws rm 0 0 n ∧ (Cond.static y).before args s = true) (hF : Fr wd wc w1 wd') (hP : va_P E.1 vwCl wd H) (hD : va_D A wd) (hS : va_S A H0 H locs) (hA : ∀ q, H0.size ≤ q → A q)
    (hn : As.length = n) (hsize : ls.size = nL) (hstack : st0 = As.reverse ++ rest) (hW : (rest.map fun v => v.category).sum ≤ 8) (hdg : decode cc pc = .ok (.invokestatic index, 3)) (hf : cells ≤ R.cells ∧ slots ≤ R.slots)
    (kk : ∀ (H1 : Heap) (locs1 : List Loc), va_P E.1 vwCl wd' H1 → va_D A wd' → va_S A H0 H1 locs1 → W p l e R s m args below meth c H1 locs1 cells slots Q (F0 m (pc + 3) ls (rest))) : W p l e R s m args below meth c H locs cells slots Q (F0 m pc ls st0) := by
  obtain ⟨hPc, hDc⟩ := hF.part hP hD
  exact cl_v (va_runS S (hM H.size) cw ⟨Pw_blind, Pw_of hE hPc hDc _⟩ rfl hn hsize hstack (lv_room hW) hdg hf) hF hP hD hS hA kk
theorem ci_SN (S : CallFix p m c cc nL s args Ts own) (hE : ev E s) (hM : Ci l E y ws rm (As) wc r w1) (cw : va_CN R s args own index y host bytes maxL ret ws rm 0 0 n ∧ (Cond.static y).before args s = true ∧ True) (hF : Fr wd wc w1 wd') (hP : va_P E.1 vwCl wd H) (hD : va_D A wd) (hS : va_S A H0 H locs) (hA : ∀ q, H0.size ≤ q → A q)
    (hn : As.length = n) (hsize : ls.size = nL) (hstack : st0 = As.reverse ++ rest) (hW : (rest.map fun v => v.category).sum ≤ 8) (hdg : decode cc pc = .ok (.invokestatic index, 3)) (hf : cells ≤ R.cells ∧ slots ≤ R.slots)
    (kk : ∀ (H1 : Heap) (locs1 : List Loc), va_P E.1 vwCl wd' H1 → va_D A wd' → va_S A H0 H1 locs1 → W p l e R s m args below meth c H1 locs1 cells slots Q (F0 m (pc + 3) ls (.int r :: rest))) : W p l e R s m args below meth c H locs cells slots Q (F0 m pc ls st0) := by
  obtain ⟨hPc, hDc⟩ := hF.part hP hD
  exact cl_i (va_runSN S (hM H.size) cw ⟨Pw_blind, Pw_of hE hPc hDc _⟩ rfl hn hsize hstack (lv_room hW) hdg hf) hF hP hD hS hA kk
theorem cv_SN (S : CallFix p m c cc nL s args Ts own) (hE : ev E s) (hM : Cv l E y ws rm (As) wc w1) (cw : va_CN R s args own index y host bytes maxL ret ws rm 0 0 n ∧ (Cond.static y).before args s = true ∧ True) (hF : Fr wd wc w1 wd') (hP : va_P E.1 vwCl wd H) (hD : va_D A wd) (hS : va_S A H0 H locs) (hA : ∀ q, H0.size ≤ q → A q)
    (hn : As.length = n) (hsize : ls.size = nL) (hstack : st0 = As.reverse ++ rest) (hW : (rest.map fun v => v.category).sum ≤ 8) (hdg : decode cc pc = .ok (.invokestatic index, 3)) (hf : cells ≤ R.cells ∧ slots ≤ R.slots)
    (kk : ∀ (H1 : Heap) (locs1 : List Loc), va_P E.1 vwCl wd' H1 → va_D A wd' → va_S A H0 H1 locs1 → W p l e R s m args below meth c H1 locs1 cells slots Q (F0 m (pc + 3) ls (rest))) : W p l e R s m args below meth c H locs cells slots Q (F0 m pc ls st0) := by
  obtain ⟨hPc, hDc⟩ := hF.part hP hD
  exact cl_v (va_runSN S (hM H.size) cw ⟨Pw_blind, Pw_of hE hPc hDc _⟩ rfl hn hsize hstack (lv_room hW) hdg hf) hF hP hD hS hA kk
/-- the top of the stack, by another name -/
theorem tpe {x y : Int32} (h : x = y) (k : W p l e R s m args below meth c H locs cells slots Q (F0 m pc ls (.int y :: rest))) : W p l e R s m args below meth c H locs cells slots Q (F0 m pc ls (.int x :: rest)) := by rw [h]; exact k
variable {tys : List (ClassId × FieldType)} {a N : Nat} {cA : ClassId}
/-- an element of a row of ints, at a number -/
theorem q_iald (hx : p.tables.exec = Jvm.exec) (hb : c.code = cc) (hE : ev E s) (hP : va_P E.1 vwCl wd H) (q0 : Nat) {f : Nat → Int32} (ha : wd[q0]? = some (a, .inl (E.2 0, N, .inl f))) {i v : Int32} {j : Nat} (hi : i = nI j) (hj : j < N) (hN : N < 2 ^ 31) (hv : f j = v) (hdg : decode cc pc = .ok (.iaload, 1))
    (kk : W p l e R s m args below meth c H locs cells slots Q (F0 m (pc + 1) ls (.int v :: rest))) : W p l e R s m args below meth c H locs cells slots Q (F0 m pc ls (.int i :: .ref a :: rest)) := by
  subst hi
  refine va_iald hx hb hE.1 hP q0 0 ha rfl (vp_in_nI hj hN) hdg ?_
  rw [nI_clamp (Nat.lt_trans hj hN), hv]
  exact kk
theorem q_iast (hx : p.tables.exec = Jvm.exec) (hb : c.code = cc) (hE : ev E s) (hP : va_P E.1 vwCl wd H) (hD : va_D A wd) (hS : va_S A H0 H locs) (q0 : Nat) {f : Nat → Int32} (ha : wd[q0]? = some (a, .inl (E.2 0, N, .inl f))) {i v : Int32} {j : Nat} (hi : i = nI j) (hj : j < N) (hN : N < 2 ^ 31) (hs : wd.set q0 (a, .inl (E.2 0, N, .inl (upd f j v))) = wd') (hdg : decode cc pc = .ok (.iastore, 1))
    (kk : ∀ (H1 : Heap) (locs1 : List Loc), va_P E.1 vwCl wd' H1 → va_D A wd' → va_S A H0 H1 locs1 → W p l e R s m args below meth c H1 locs1 cells slots Q (F0 m (pc + 1) ls rest)) : W p l e R s m args below meth c H locs cells slots Q (F0 m pc ls (.int v :: .int i :: .ref a :: rest)) := by
  subst hi
  subst hs
  refine va_iast hx hb hE.1 hP hD hS q0 0 ha rfl (vp_in_nI hj hN) hdg ?_
  rw [nI_clamp (Nat.lt_trans hj hN)]
  exact kk
theorem q_zald (hx : p.tables.exec = Jvm.exec) (hb : c.code = cc) (hE : ev E s) (hP : va_P E.1 vwCl wd H) (q0 : Nat) {f : Nat → Int32} (ha : wd[q0]? = some (a, .inl (E.2 3, N, .inl f))) {i v : Int32} {j : Nat} (hi : i = nI j) (hj : j < N) (hN : N < 2 ^ 31) (hv : f j = v) (hdg : decode cc pc = .ok (.baload, 1))
    (kk : W p l e R s m args below meth c H locs cells slots Q (F0 m (pc + 1) ls (.int v :: rest))) : W p l e R s m args below meth c H locs cells slots Q (F0 m pc ls (.int i :: .ref a :: rest)) := by
  subst hi
  refine va_zald hx hb hE.1 hP q0 3 ha rfl (vp_in_nI hj hN) hdg ?_
  rw [nI_clamp (Nat.lt_trans hj hN), hv]
  exact kk
theorem q_zast (hx : p.tables.exec = Jvm.exec) (hb : c.code = cc) (hE : ev E s) (hP : va_P E.1 vwCl wd H) (hD : va_D A wd) (hS : va_S A H0 H locs) (q0 : Nat) {f : Nat → Int32} (ha : wd[q0]? = some (a, .inl (E.2 3, N, .inl f))) {i v : Int32} {j : Nat} (hi : i = nI j) (hj : j < N) (hN : N < 2 ^ 31) (hnar : vp_nar .boolean v = v) (hs : wd.set q0 (a, .inl (E.2 3, N, .inl (upd f j v))) = wd') (hdg : decode cc pc = .ok (.bastore, 1))
    (kk : ∀ (H1 : Heap) (locs1 : List Loc), va_P E.1 vwCl wd' H1 → va_D A wd' → va_S A H0 H1 locs1 → W p l e R s m args below meth c H1 locs1 cells slots Q (F0 m (pc + 1) ls rest)) : W p l e R s m args below meth c H locs cells slots Q (F0 m pc ls (.int v :: .int i :: .ref a :: rest)) := by
  subst hi
  subst hs
  refine va_zast hx hb hE.1 hP hD hS q0 3 ha rfl (vp_in_nI hj hN) hdg ?_
  rw [nI_clamp (Nat.lt_trans hj hN), hnar]
  exact kk
theorem q_aald (hx : p.tables.exec = Jvm.exec) (hb : c.code = cc) (hE : ev E s) (hP : va_P E.1 vwCl wd H) (q0 t0 : Nat) {f : Nat → Option Nat} (ha : wd[q0]? = some (a, .inl (cA, N, .inr (.inr (.inr (.inr f)))))) {C0 : String} (ht : (kt E)[t0]? = some (cA, .object C0)) {i : Int32} {j v : Nat} (hi : i = nI j) (hj : j < N) (hN : N < 2 ^ 31) (hv : f j = some v) (hdg : decode cc pc = .ok (.aaload, 1))
    (kk : W p l e R s m args below meth c H locs cells slots Q (F0 m (pc + 1) ls (.ref v :: rest))) : W p l e R s m args below meth c H locs cells slots Q (F0 m pc ls (.int i :: .ref a :: rest)) := by
  subst hi
  refine va_aldq hx hb hE.1 hP q0 t0 ha ht (vp_in_nI hj hN) hdg ?_
  rw [nI_clamp (Nat.lt_trans hj hN), hv]
  exact kk
end CLB
end
section
/-! the nest mates' words, by their places in the tables -/
theorem nk_X2_9 : Cond.methodLinkNest RX2 9 yX0_init "PromiseHours" ∈ lw_tbl := List.mem_of_getElem? (i := 61) (by decide +kernel)
theorem nk_X0_21 : Cond.methodLinkNest RX0 21 yX1_init "PromiseHours" ∈ lw_tbl := List.mem_of_getElem? (i := 68) (by decide +kernel)
theorem nk_X2_51 : Cond.fieldLinkNest RX2 51 "PromiseHours$Reader" "isThere" "Z" "PromiseHours" ∈ lw_tbl := List.mem_of_getElem? (i := 76) (by decide +kernel)
theorem nk_X0_122 : Cond.fieldLinkNest RX0 122 "PromiseHours$Reader" "isThere" "Z" "PromiseHours" ∈ lw_tbl := List.mem_of_getElem? (i := 77) (by decide +kernel)
theorem nk_X0_81 : Cond.fieldLinkNest RX0 81 "PromiseHours$Reader" "skew" "I" "PromiseHours" ∈ lw_tbl := List.mem_of_getElem? (i := 79) (by decide +kernel)
theorem nk_X2_42 : Cond.fieldLinkNest RX2 42 "PromiseHours$Reader" "skew" "I" "PromiseHours" ∈ lw_tbl := List.mem_of_getElem? (i := 80) (by decide +kernel)
theorem nk_X0_135 : Cond.fieldLinkNest RX0 135 "PromiseHours$Reader" "copies" "[I" "PromiseHours" ∈ lw_tbl := List.mem_of_getElem? (i := 82) (by decide +kernel)
theorem nk_X2_110 : Cond.fieldLinkNest RX2 110 "PromiseHours$Reader" "copies" "[I" "PromiseHours" ∈ lw_tbl := List.mem_of_getElem? (i := 83) (by decide +kernel)
theorem nk_X0_88 : Cond.fieldLinkNest RX0 88 "PromiseHours$Reader" "terms" "[I" "PromiseHours" ∈ lw_tbl := List.mem_of_getElem? (i := 85) (by decide +kernel)
theorem nk_X2_113 : Cond.fieldLinkNest RX2 113 "PromiseHours$Reader" "terms" "[I" "PromiseHours" ∈ lw_tbl := List.mem_of_getElem? (i := 86) (by decide +kernel)
theorem nk_X0_99 : Cond.fieldLinkNest RX0 99 "PromiseHours$Reader" "promises" "[I" "PromiseHours" ∈ lw_tbl := List.mem_of_getElem? (i := 88) (by decide +kernel)
theorem nk_X2_116 : Cond.fieldLinkNest RX2 116 "PromiseHours$Reader" "promises" "[I" "PromiseHours" ∈ lw_tbl := List.mem_of_getElem? (i := 89) (by decide +kernel)
theorem nk_X0_167 : Cond.fieldLinkNest RX0 167 "PromiseHours$Reader" "volumeTerms" "[I" "PromiseHours" ∈ lw_tbl := List.mem_of_getElem? (i := 91) (by decide +kernel)
theorem nk_X2_123 : Cond.fieldLinkNest RX2 123 "PromiseHours$Reader" "volumeTerms" "[I" "PromiseHours" ∈ lw_tbl := List.mem_of_getElem? (i := 92) (by decide +kernel)
theorem nk_X0_161 : Cond.fieldLinkNest RX0 161 "PromiseHours$Reader" "lists" "[I" "PromiseHours" ∈ lw_tbl := List.mem_of_getElem? (i := 94) (by decide +kernel)
theorem nk_X2_129 : Cond.fieldLinkNest RX2 129 "PromiseHours$Reader" "lists" "[I" "PromiseHours" ∈ lw_tbl := List.mem_of_getElem? (i := 95) (by decide +kernel)
theorem nk_X0_138 : Cond.fieldLinkNest RX0 138 "PromiseHours$Reader" "lastVersion" "I" "PromiseHours" ∈ lw_tbl := List.mem_of_getElem? (i := 97) (by decide +kernel)
theorem nk_X2_132 : Cond.fieldLinkNest RX2 132 "PromiseHours$Reader" "lastVersion" "I" "PromiseHours" ∈ lw_tbl := List.mem_of_getElem? (i := 98) (by decide +kernel)
theorem nk_X0_132 : Cond.fieldLinkNest RX0 132 "PromiseHours$Reader" "timesUsed" "I" "PromiseHours" ∈ lw_tbl := List.mem_of_getElem? (i := 100) (by decide +kernel)
theorem nk_X2_135 : Cond.fieldLinkNest RX2 135 "PromiseHours$Reader" "timesUsed" "I" "PromiseHours" ∈ lw_tbl := List.mem_of_getElem? (i := 101) (by decide +kernel)
theorem nk_X0_145 : Cond.fieldLinkNest RX0 145 "PromiseHours$Reader" "timesAsked" "I" "PromiseHours" ∈ lw_tbl := List.mem_of_getElem? (i := 103) (by decide +kernel)
theorem nk_X2_138 : Cond.fieldLinkNest RX2 138 "PromiseHours$Reader" "timesAsked" "I" "PromiseHours" ∈ lw_tbl := List.mem_of_getElem? (i := 104) (by decide +kernel)
theorem nk_X0_126 : Cond.fieldLinkNest RX0 126 "PromiseHours$Reader" "timesNothing" "I" "PromiseHours" ∈ lw_tbl := List.mem_of_getElem? (i := 106) (by decide +kernel)
theorem nk_X2_141 : Cond.fieldLinkNest RX2 141 "PromiseHours$Reader" "timesNothing" "I" "PromiseHours" ∈ lw_tbl := List.mem_of_getElem? (i := 107) (by decide +kernel)
theorem nk_X2_144 : Cond.fieldLinkNest RX2 144 "PromiseHours$Reader" "letters" "I" "PromiseHours" ∈ lw_tbl := List.mem_of_getElem? (i := 109) (by decide +kernel)
theorem nk_X0_208 : Cond.fieldLinkNest RX0 208 "PromiseHours$Reader" "letters" "I" "PromiseHours" ∈ lw_tbl := List.mem_of_getElem? (i := 110) (by decide +kernel)
theorem nk_X0_174 : Cond.fieldLinkNest RX0 174 "PromiseHours$Reader" "copiesLost" "I" "PromiseHours" ∈ lw_tbl := List.mem_of_getElem? (i := 112) (by decide +kernel)
theorem nk_X2_147 : Cond.fieldLinkNest RX2 147 "PromiseHours$Reader" "copiesLost" "I" "PromiseHours" ∈ lw_tbl := List.mem_of_getElem? (i := 113) (by decide +kernel)
theorem nk_X0_68 : Cond.fieldLinkNest RX0 68 "PromiseHours" "FIRST_RULES" "[I" "PromiseHours" ∈ lw_tbl := List.mem_of_getElem? (i := 142) (by decide +kernel)
theorem nk_X0_71 : Cond.methodLinkNest RX0 71 yX2_copyRow "PromiseHours" ∈ lw_tbl := List.mem_of_getElem? (i := 144) (by decide +kernel)
theorem nk_X2_72 : Cond.fieldLinkNest RX2 72 "PromiseHours$House" "tick" "I" "PromiseHours" ∈ lw_tbl := List.mem_of_getElem? (i := 155) (by decide +kernel)
theorem nk_X2_31 : Cond.fieldLinkNest RX2 31 "PromiseHours$House" "rules" "[I" "PromiseHours" ∈ lw_tbl := List.mem_of_getElem? (i := 157) (by decide +kernel)
theorem nk_X2_38 : Cond.fieldLinkNest RX2 38 "PromiseHours$House" "readers" "[LPromiseHours$Reader;" "PromiseHours" ∈ lw_tbl := List.mem_of_getElem? (i := 159) (by decide +kernel)
theorem nk_X2_87 : Cond.fieldLinkNest RX2 87 "PromiseHours$House" "versions" "[I" "PromiseHours" ∈ lw_tbl := List.mem_of_getElem? (i := 161) (by decide +kernel)
theorem nk_X2_94 : Cond.fieldLinkNest RX2 94 "PromiseHours$House" "ways" "[I" "PromiseHours" ∈ lw_tbl := List.mem_of_getElem? (i := 163) (by decide +kernel)
theorem nk_X2_153 : Cond.fieldLinkNest RX2 153 "PromiseHours$House" "line" "[I" "PromiseHours" ∈ lw_tbl := List.mem_of_getElem? (i := 165) (by decide +kernel)
theorem nk_X2_150 : Cond.fieldLinkNest RX2 150 "PromiseHours$House" "lineLength" "I" "PromiseHours" ∈ lw_tbl := List.mem_of_getElem? (i := 167) (by decide +kernel)
theorem nk_X2_78 : Cond.fieldLinkNest RX2 78 "PromiseHours$House" "causes" "[I" "PromiseHours" ∈ lw_tbl := List.mem_of_getElem? (i := 169) (by decide +kernel)
theorem nk_X2_75 : Cond.fieldLinkNest RX2 75 "PromiseHours$House" "causeCount" "I" "PromiseHours" ∈ lw_tbl := List.mem_of_getElem? (i := 171) (by decide +kernel)
theorem nk_X2_84 : Cond.fieldLinkNest RX2 84 "PromiseHours$House" "waitedFor" "[I" "PromiseHours" ∈ lw_tbl := List.mem_of_getElem? (i := 173) (by decide +kernel)
theorem nk_X2_81 : Cond.fieldLinkNest RX2 81 "PromiseHours$House" "waitedCount" "I" "PromiseHours" ∈ lw_tbl := List.mem_of_getElem? (i := 175) (by decide +kernel)
theorem nk_X2_156 : Cond.fieldLinkNest RX2 156 "PromiseHours$House" "staleReads" "I" "PromiseHours" ∈ lw_tbl := List.mem_of_getElem? (i := 177) (by decide +kernel)
theorem nk_X2_159 : Cond.fieldLinkNest RX2 159 "PromiseHours$House" "writesTold" "I" "PromiseHours" ∈ lw_tbl := List.mem_of_getElem? (i := 179) (by decide +kernel)
theorem nk_X2_162 : Cond.fieldLinkNest RX2 162 "PromiseHours$House" "writesDone" "I" "PromiseHours" ∈ lw_tbl := List.mem_of_getElem? (i := 181) (by decide +kernel)
theorem nk_X2_165 : Cond.fieldLinkNest RX2 165 "PromiseHours$House" "lettersSent" "I" "PromiseHours" ∈ lw_tbl := List.mem_of_getElem? (i := 183) (by decide +kernel)
theorem nk_X2_168 : Cond.fieldLinkNest RX2 168 "PromiseHours$House" "timesListed" "I" "PromiseHours" ∈ lw_tbl := List.mem_of_getElem? (i := 185) (by decide +kernel)
theorem nk_X2_171 : Cond.fieldLinkNest RX2 171 "PromiseHours$House" "timesRenewed" "I" "PromiseHours" ∈ lw_tbl := List.mem_of_getElem? (i := 187) (by decide +kernel)
theorem nk_X2_47 : Cond.methodLinkNest RX2 47 yX0_countSkewedBeyondDoubt "PromiseHours" ∈ lw_tbl := List.mem_of_getElem? (i := 249) (by decide +kernel)
theorem nk_X0_107 : Cond.methodLinkNest RX0 107 yX2_bit "PromiseHours" ∈ lw_tbl := List.mem_of_getElem? (i := 256) (by decide +kernel)
theorem nk_X2_55 : Cond.methodLinkNest RX2 55 yX0_settleAll "PromiseHours" ∈ lw_tbl := List.mem_of_getElem? (i := 263) (by decide +kernel)
theorem nk_X0_95 : Cond.methodLinkNest RX0 95 yX1_volumeTermFor "PromiseHours" ∈ lw_tbl := List.mem_of_getElem? (i := 279) (by decide +kernel)
theorem nk_X1_63 : Cond.methodLinkNest RX1 63 yX2_volumeOf "PromiseHours" ∈ lw_tbl := List.mem_of_getElem? (i := 283) (by decide +kernel)
theorem nk_X0_148 : Cond.methodLinkNest RX0 148 yX2_volumeOf "PromiseHours" ∈ lw_tbl := List.mem_of_getElem? (i := 290) (by decide +kernel)
theorem nk_X0_170 : Cond.methodLinkNest RX0 170 yX2_isInSet "PromiseHours" ∈ lw_tbl := List.mem_of_getElem? (i := 291) (by decide +kernel)
theorem nk_X0_177 : Cond.methodLinkNest RX0 177 yX1_dropCopy "PromiseHours" ∈ lw_tbl := List.mem_of_getElem? (i := 298) (by decide +kernel)
theorem nk_X2_61 : Cond.methodLinkNest RX2 61 yX0_readBy "PromiseHours" ∈ lw_tbl := List.mem_of_getElem? (i := 317) (by decide +kernel)
theorem nk_X0_84 : Cond.methodLinkNest RX0 84 yX1_hasCopy "PromiseHours" ∈ lw_tbl := List.mem_of_getElem? (i := 325) (by decide +kernel)
theorem nk_X0_157 : Cond.methodLinkNest RX0 157 yX1_takeCopy "PromiseHours" ∈ lw_tbl := List.mem_of_getElem? (i := 361) (by decide +kernel)
theorem nk_X2_65 : Cond.methodLinkNest RX2 65 yX0_isWaiting "PromiseHours" ∈ lw_tbl := List.mem_of_getElem? (i := 366) (by decide +kernel)
theorem nk_X2_68 : Cond.methodLinkNest RX2 68 yX0_tellWrite "PromiseHours" ∈ lw_tbl := List.mem_of_getElem? (i := 367) (by decide +kernel)
theorem nk_X0_211 : Cond.methodLinkNest RX0 211 yX1_holdsUntil "PromiseHours" ∈ lw_tbl := List.mem_of_getElem? (i := 379) (by decide +kernel)
theorem nk_X2_97 : Cond.methodLinkNest RX2 97 yX0_dueOf "PromiseHours" ∈ lw_tbl := List.mem_of_getElem? (i := 413) (by decide +kernel)
theorem nk_X2_101 : Cond.methodLinkNest RX2 101 yX0_holdersOf "PromiseHours" ∈ lw_tbl := List.mem_of_getElem? (i := 414) (by decide +kernel)
theorem nk_X2_104 : Cond.methodLinkNest RX2 104 yX0_readersWithCopy "PromiseHours" ∈ lw_tbl := List.mem_of_getElem? (i := 415) (by decide +kernel)
theorem nk_X2_107 : Cond.methodLinkNest RX2 107 yX0_readersWithUse "PromiseHours" ∈ lw_tbl := List.mem_of_getElem? (i := 419) (by decide +kernel)
theorem nk_X2_119 : Cond.methodLinkNest RX2 119 yX0_canUse "PromiseHours" ∈ lw_tbl := List.mem_of_getElem? (i := 427) (by decide +kernel)
theorem nk_X2_126 : Cond.methodLinkNest RX2 126 yX0_isOver "PromiseHours" ∈ lw_tbl := List.mem_of_getElem? (i := 432) (by decide +kernel)
theorem nk_X2_177 : Cond.methodLinkNest RX2 177 yX0_becomeLike "PromiseHours" ∈ lw_tbl := List.mem_of_getElem? (i := 452) (by decide +kernel)
theorem nk_X0_222 : Cond.methodLinkNest RX0 222 yX1_becomeLike "PromiseHours" ∈ lw_tbl := List.mem_of_getElem? (i := 456) (by decide +kernel)
theorem nk_X1_76 : Cond.methodLinkNest RX1 76 yX2_copyRow "PromiseHours" ∈ lw_tbl := List.mem_of_getElem? (i := 460) (by decide +kernel)
end
section
/-! WORLDS. One row g of 309 numbers is the state of a house, laid out as the reference lays it:
0 TICK, 1-4 rules, 5+t versions, 17+t ways, 29+k line, 41 its length, 42+r there, 47+r skew, 52+3r+v terms of volumes, 67+3r+v lists, 82+12r+t copies, 142+12r+t terms, 202+12r+t promises, 262+6r+k what a reader is told, 292+i causes, 296 how many, 297+i waited, 302 how many, 303-308 counts -/
def ix (x : Int32) : Nat := x.toNatClampNeg
def seg (g : Nat → Int32) (o n : Nat) : Nat → Int32 := fun j => if j < n then g (o + j) else 0
theorem seg_at {g : Nat → Int32} {o n j : Nat} (h : j < n) : seg g o n j = g (o + j) := by simp only [seg, if_pos h]
theorem seg_in {g : Nat → Int32} {o n j : Nat} {v : Int32} (h : j < n) : upd (seg g o n) j v = seg (upd g (o + j) v) o n := by
  funext k
  unfold seg upd
  by_cases hk : k = j
  · subst hk; simp [h]
  · have : ¬ o + k = o + j := by omega
    simp [hk, this]
theorem seg_out {g : Nat → Int32} {o n i : Nat} {v : Int32} (h : i < o ∨ o + n ≤ i) : seg (upd g i v) o n = seg g o n := by
  funext k
  unfold seg upd
  by_cases hk : k < n
  · have : ¬ o + k = i := by omega
    simp [hk, this]
  · simp [hk]
theorem seg_eq {g g' : Nat → Int32} {o n : Nat} (h : ∀ k, k < n → g (o + k) = g' (o + k)) : seg g o n = seg g' o n := by
  funext k
  unfold seg
  by_cases hk : k < n
  · rw [if_pos hk, if_pos hk, h k hk]
  · rw [if_neg hk, if_neg hk]
theorem up_n {g : Nat → Int32} {i j : Nat} {v : Int32} (h : j ≠ i) : upd g i v j = g j := pk_un h
theorem up_s {g : Nat → Int32} {i : Nat} {v : Int32} : upd g i v i = v := pk_us
abbrev rI (E : EE) (n : Nat) (f : Nat → Int32) : va_E := .inl (E.2 0, n, .inl f)
def hf (a : Nat → Nat) (g : Nat → Int32) : List Value := [.int (g 0), .ref (a 1), .ref (a 2), .ref (a 3), .ref (a 4), .ref (a 5), .int (g 41), .ref (a 6), .int (g 296), .ref (a 7), .int (g 302), .int (g 303), .int (g 304), .int (g 305), .int (g 306), .int (g 307), .int (g 308)]
def rf (a : Nat → Nat) (g : Nat → Int32) (r : Nat) : List Value := [.int (g (42 + r)), .int (g (47 + r)), .ref (a (8 + 6 * r + 1)), .ref (a (8 + 6 * r + 2)), .ref (a (8 + 6 * r + 3)), .ref (a (8 + 6 * r + 4)), .ref (a (8 + 6 * r + 5)), .int (g (262 + 6 * r + 0)), .int (g (262 + 6 * r + 1)), .int (g (262 + 6 * r + 2)), .int (g (262 + 6 * r + 3)), .int (g (262 + 6 * r + 4)), .int (g (262 + 6 * r + 5))]
def rdA (a : Nat → Nat) : Nat → Option Nat := fun j => some (a (8 + 6 * j))
def hc0 (E : EE) (a : Nat → Nat) (g : Nat → Int32) : Nat → va_E
  | 0 => .inr (0, hf a g)
  | 1 => rI E 4 (seg g 1 4)
  | 2 => .inl (E.2 1, 5, .inr (.inr (.inr (.inr (rdA a)))))
  | 3 => rI E 12 (seg g 5 12)
  | 4 => rI E 12 (seg g 17 12)
  | 5 => rI E 12 (seg g 29 12)
  | 6 => rI E 4 (seg g 292 4)
  | _ => rI E 5 (seg g 297 5)
def hc1 (E : EE) (a : Nat → Nat) (g : Nat → Int32) (r : Nat) : Nat → va_E
  | 0 => .inr (1, rf a g r)
  | 1 => rI E 12 (seg g (82 + 12 * r) 12)
  | 2 => rI E 12 (seg g (142 + 12 * r) 12)
  | 3 => rI E 12 (seg g (202 + 12 * r) 12)
  | 4 => rI E 3 (seg g (52 + 3 * r) 3)
  | _ => rI E 3 (seg g (67 + 3 * r) 3)
def hc (E : EE) (a : Nat → Nat) (g : Nat → Int32) (k : Nat) : va_E := if k < 8 then hc0 E a g k else hc1 E a g ((k - 8) / 6) ((k - 8) % 6)
def hs (E : EE) (a : Nat → Nat) (g : Nat → Int32) : va_W := (List.range 38).map (fun k => (a k, hc E a g k))
theorem hs_len {E : EE} {a : Nat → Nat} {g : Nat → Int32} : (hs E a g).length = 38 := by simp [hs]
theorem hs_at {E : EE} {a : Nat → Nat} {g : Nat → Int32} {k : Nat} (h : k < 38) : (hs E a g)[k]? = some (a k, hc E a g k) := by
  unfold hs
  rw [List.getElem?_map, List.getElem?_range h]
  rfl
theorem hc_lo {E : EE} {a : Nat → Nat} {g : Nat → Int32} {k : Nat} (h : k < 8) : hc E a g k = hc0 E a g k := by simp only [hc, if_pos h]
theorem hc_hi {E : EE} {a : Nat → Nat} {g : Nat → Int32} {r j : Nat} (h : j < 6) : hc E a g (8 + 6 * r + j) = hc1 E a g r j := by
  have h1 : ¬ 8 + 6 * r + j < 8 := by omega
  have h2 : (8 + 6 * r + j - 8) / 6 = r := by omega
  have h3 : (8 + 6 * r + j - 8) % 6 = j := by omega
  simp only [hc, if_neg h1, h2, h3]
theorem hs_lo {E : EE} {a : Nat → Nat} {g : Nat → Int32} (k : Nat) (h : k < 8) {e : va_E} (he : hc0 E a g k = e) : (hs E a g)[k]? = some (a k, e) := by
  rw [hs_at (by omega), hc_lo h, he]
theorem hs_hi {E : EE} {a : Nat → Nat} {g : Nat → Int32} (j : Nat) {r : Nat} (hr : r < 5) (h : j < 6) {e : va_E} (he : hc1 E a g r j = e) : (hs E a g)[8 + 6 * r + j]? = some (a (8 + 6 * r + j), e) := by
  rw [hs_at (by omega), hc_hi h, he]
theorem hs_hi0 {E : EE} {a : Nat → Nat} {g : Nat → Int32} {r : Nat} (hr : r < 5) : (hs E a g)[8 + 6 * r]? = some (a (8 + 6 * r), .inr (1, rf a g r)) := hs_hi 0 hr (by decide) rfl
/-- which cell a number of the row lies in -/
def dep0 : Nat → Nat → Prop
  | 0, i => i = 0 ∨ i = 41 ∨ i = 296 ∨ 302 ≤ i
  | 1, i => 1 ≤ i ∧ i < 1 + 4
  | 3, i => 5 ≤ i ∧ i < 5 + 12
  | 4, i => 17 ≤ i ∧ i < 17 + 12
  | 5, i => 29 ≤ i ∧ i < 29 + 12
  | 6, i => 292 ≤ i ∧ i < 292 + 4
  | 7, i => 297 ≤ i ∧ i < 297 + 5
  | _, _ => False
def dep1 (r : Nat) : Nat → Nat → Prop
  | 0, i => i = 42 + r ∨ i = 47 + r ∨ (262 + 6 * r ≤ i ∧ i < 262 + 6 * r + 6)
  | 1, i => 82 + 12 * r ≤ i ∧ i < 82 + 12 * r + 12
  | 2, i => 142 + 12 * r ≤ i ∧ i < 142 + 12 * r + 12
  | 3, i => 202 + 12 * r ≤ i ∧ i < 202 + 12 * r + 12
  | 4, i => 52 + 3 * r ≤ i ∧ i < 52 + 3 * r + 3
  | 5, i => 67 + 3 * r ≤ i ∧ i < 67 + 3 * r + 3
  | _, _ => False
theorem hf_eq {a : Nat → Nat} {g g' : Nat → Int32} (h : g 0 = g' 0 ∧ g 41 = g' 41 ∧ g 296 = g' 296 ∧ g 302 = g' 302 ∧ g 303 = g' 303 ∧ g 304 = g' 304 ∧ g 305 = g' 305 ∧ g 306 = g' 306 ∧ g 307 = g' 307 ∧ g 308 = g' 308) : hf a g = hf a g' := by
  obtain ⟨h0, h41, h296, h302, h303, h304, h305, h306, h307, h308⟩ := h
  unfold hf
  rw [h0, h41, h296, h302, h303, h304, h305, h306, h307, h308]
theorem rf_eq {a : Nat → Nat} {g g' : Nat → Int32} {r : Nat} (h : g (42 + r) = g' (42 + r) ∧ g (47 + r) = g' (47 + r) ∧ g (262 + 6 * r + 0) = g' (262 + 6 * r + 0) ∧ g (262 + 6 * r + 1) = g' (262 + 6 * r + 1) ∧ g (262 + 6 * r + 2) = g' (262 + 6 * r + 2) ∧ g (262 + 6 * r + 3) = g' (262 + 6 * r + 3) ∧ g (262 + 6 * r + 4) = g' (262 + 6 * r + 4) ∧ g (262 + 6 * r + 5) = g' (262 + 6 * r + 5)) : rf a g r = rf a g' r := by
  obtain ⟨h0, h1, h2, h3, h4, h5, h6, h7⟩ := h
  unfold rf
  rw [h0, h1, h2, h3, h4, h5, h6, h7]
theorem hc0_off {E : EE} {a : Nat → Nat} {g : Nat → Int32} {i : Nat} {v : Int32} : ∀ k : Nat, k < 8 → ¬ dep0 k i → hc0 E a (upd g i v) k = hc0 E a g k
  | 0, _, h => by
    have h : ¬ (i = 0 ∨ i = 41 ∨ i = 296 ∨ 302 ≤ i) := h
    exact congrArg (fun f => (.inr (0, f) : va_E)) (hf_eq ⟨up_n (by omega), up_n (by omega), up_n (by omega), up_n (by omega), up_n (by omega), up_n (by omega), up_n (by omega), up_n (by omega), up_n (by omega), up_n (by omega)⟩)
  | 2, _, _ => rfl
  | 1, _, h => by
    have h : ¬ (1 ≤ i ∧ i < 1 + 4) := h
    exact congrArg (rI E 4) (seg_out (by omega))
  | 3, _, h => by
    have h : ¬ (5 ≤ i ∧ i < 5 + 12) := h
    exact congrArg (rI E 12) (seg_out (by omega))
  | 4, _, h => by
    have h : ¬ (17 ≤ i ∧ i < 17 + 12) := h
    exact congrArg (rI E 12) (seg_out (by omega))
  | 5, _, h => by
    have h : ¬ (29 ≤ i ∧ i < 29 + 12) := h
    exact congrArg (rI E 12) (seg_out (by omega))
  | 6, _, h => by
    have h : ¬ (292 ≤ i ∧ i < 292 + 4) := h
    exact congrArg (rI E 4) (seg_out (by omega))
  | 7, _, h => by
    have h : ¬ (297 ≤ i ∧ i < 297 + 5) := h
    exact congrArg (rI E 5) (seg_out (by omega))
  | k + 8, hk, _ => absurd hk (by omega)
theorem hc1_off {E : EE} {a : Nat → Nat} {g : Nat → Int32} {i r : Nat} {v : Int32} : ∀ j : Nat, j < 6 → ¬ dep1 r j i → hc1 E a (upd g i v) r j = hc1 E a g r j
  | 0, _, h => by
    have h : ¬ (i = 42 + r ∨ i = 47 + r ∨ (262 + 6 * r ≤ i ∧ i < 262 + 6 * r + 6)) := h
    exact congrArg (fun f => (.inr (1, f) : va_E)) (rf_eq ⟨up_n (by omega), up_n (by omega), up_n (by omega), up_n (by omega), up_n (by omega), up_n (by omega), up_n (by omega), up_n (by omega)⟩)
  | 1, _, h => by
    have h : ¬ (82 + 12 * r ≤ i ∧ i < 82 + 12 * r + 12) := h
    exact congrArg (rI E 12) (seg_out (by omega))
  | 2, _, h => by
    have h : ¬ (142 + 12 * r ≤ i ∧ i < 142 + 12 * r + 12) := h
    exact congrArg (rI E 12) (seg_out (by omega))
  | 3, _, h => by
    have h : ¬ (202 + 12 * r ≤ i ∧ i < 202 + 12 * r + 12) := h
    exact congrArg (rI E 12) (seg_out (by omega))
  | 4, _, h => by
    have h : ¬ (52 + 3 * r ≤ i ∧ i < 52 + 3 * r + 3) := h
    exact congrArg (rI E 3) (seg_out (by omega))
  | 5, _, h => by
    have h : ¬ (67 + 3 * r ≤ i ∧ i < 67 + 3 * r + 3) := h
    exact congrArg (rI E 3) (seg_out (by omega))
  | j + 6, hj, _ => absurd hj (by omega)
theorem hs_put {E : EE} {a : Nat → Nat} {g : Nat → Int32} {i q : Nat} {v : Int32} {e : va_E} (hq : q < 38) (h0 : ∀ k, k < 8 → k ≠ q → ¬ dep0 k i) (h1 : ∀ r j, r < 5 → j < 6 → 8 + 6 * r + j ≠ q → ¬ dep1 r j i) (he : e = hc E a (upd g i v) q) : (hs E a g).set q (a q, e) = hs E a (upd g i v) := by
  apply List.ext_getElem?
  intro k
  by_cases hk : k < 38
  · rw [hs_at hk]
    by_cases hkq : k = q
    · subst hkq
      rw [List.getElem?_set_self (by rw [hs_len]; exact hk), he]
    · rw [List.getElem?_set_ne (fun z => hkq z.symm), hs_at hk]
      by_cases h8 : k < 8
      · rw [hc_lo h8, hc_lo h8, hc0_off k h8 (h0 k h8 hkq)]
      · have e : k = 8 + 6 * ((k - 8) / 6) + (k - 8) % 6 := by omega
        have hn := h1 ((k - 8) / 6) ((k - 8) % 6) (by omega) (by omega) (by omega)
        have hj : (k - 8) % 6 < 6 := by omega
        generalize (k - 8) / 6 = r at *
        generalize (k - 8) % 6 = j at *
        subst e
        rw [hc_hi hj, hc_hi hj, hc1_off j hj hn]
  · rw [List.getElem?_eq_none (by rw [List.length_set, hs_len]; omega), List.getElem?_eq_none (by rw [hs_len]; omega)]
theorem hc0_same {E : EE} {a : Nat → Nat} {g g' : Nat → Int32} (h : ∀ i, i < 309 → g i = g' i) : ∀ k : Nat, k < 8 → hc0 E a g k = hc0 E a g' k
  | 0, _ => congrArg (fun f => (.inr (0, f) : va_E)) (hf_eq ⟨h _ (by omega), h _ (by omega), h _ (by omega), h _ (by omega), h _ (by omega), h _ (by omega), h _ (by omega), h _ (by omega), h _ (by omega), h _ (by omega)⟩)
  | 2, _ => rfl
  | 1, _ => congrArg (rI E 4) (seg_eq (fun j hj => h _ (by omega)))
  | 3, _ => congrArg (rI E 12) (seg_eq (fun j hj => h _ (by omega)))
  | 4, _ => congrArg (rI E 12) (seg_eq (fun j hj => h _ (by omega)))
  | 5, _ => congrArg (rI E 12) (seg_eq (fun j hj => h _ (by omega)))
  | 6, _ => congrArg (rI E 4) (seg_eq (fun j hj => h _ (by omega)))
  | 7, _ => congrArg (rI E 5) (seg_eq (fun j hj => h _ (by omega)))
  | k + 8, hk => absurd hk (by omega)
theorem hc1_same {E : EE} {a : Nat → Nat} {g g' : Nat → Int32} (h : ∀ i, i < 309 → g i = g' i) {r : Nat} (hr : r < 5) : ∀ j : Nat, j < 6 → hc1 E a g r j = hc1 E a g' r j
  | 0, _ => congrArg (fun f => (.inr (1, f) : va_E)) (rf_eq ⟨h _ (by omega), h _ (by omega), h _ (by omega), h _ (by omega), h _ (by omega), h _ (by omega), h _ (by omega), h _ (by omega)⟩)
  | 1, _ => congrArg (rI E 12) (seg_eq (fun j hj => h _ (by omega)))
  | 2, _ => congrArg (rI E 12) (seg_eq (fun j hj => h _ (by omega)))
  | 3, _ => congrArg (rI E 12) (seg_eq (fun j hj => h _ (by omega)))
  | 4, _ => congrArg (rI E 3) (seg_eq (fun j hj => h _ (by omega)))
  | 5, _ => congrArg (rI E 3) (seg_eq (fun j hj => h _ (by omega)))
  | j + 6, hj => absurd hj (by omega)
theorem hs_same {E : EE} {a : Nat → Nat} {g g' : Nat → Int32} (h : ∀ i, i < 309 → g i = g' i) : hs E a g = hs E a g' := by
  unfold hs
  refine List.map_congr_left fun k hk => ?_
  have hk : k < 38 := List.mem_range.mp hk
  refine congrArg (fun x => (a k, x)) ?_
  by_cases h8 : k < 8
  · rw [hc_lo h8, hc_lo h8, hc0_same h k h8]
  · have e : k = 8 + 6 * ((k - 8) / 6) + (k - 8) % 6 := by omega
    have hr : (k - 8) / 6 < 5 := by omega
    have hj : (k - 8) % 6 < 6 := by omega
    generalize (k - 8) / 6 = r at *
    generalize (k - 8) % 6 = j at *
    subst e
    rw [hc_hi hj, hc_hi hj, hc1_same h hr j hj]
theorem hs_w1 {E : EE} {a : Nat → Nat} {g : Nat → Int32} {j : Nat} {v : Int32} (hj : j < 4) : (hs E a g).set 1 (a 1, rI E 4 (upd (seg g 1 4) j v)) = hs E a (upd g (1 + j) v) := hs_put (by decide)
  (fun k hk hq => match k, hk, hq with
    | 0, _, hq => by show ¬ (1 + j = 0 ∨ 1 + j = 41 ∨ 1 + j = 296 ∨ 302 ≤ 1 + j); omega
    | 2, _, _ => fun h => h
    | 1, _, hq => by show ¬ (1 ≤ 1 + j ∧ 1 + j < 1 + 4); omega
    | 3, _, hq => by show ¬ (5 ≤ 1 + j ∧ 1 + j < 5 + 12); omega
    | 4, _, hq => by show ¬ (17 ≤ 1 + j ∧ 1 + j < 17 + 12); omega
    | 5, _, hq => by show ¬ (29 ≤ 1 + j ∧ 1 + j < 29 + 12); omega
    | 6, _, hq => by show ¬ (292 ≤ 1 + j ∧ 1 + j < 292 + 4); omega
    | 7, _, hq => by show ¬ (297 ≤ 1 + j ∧ 1 + j < 297 + 5); omega
    | k + 8, hk, _ => absurd hk (by omega))
  (fun r0 j0 hr0 hj0 hq0 => match r0, j0, hr0, hj0, hq0 with
    | r', 0, hr', _, hq => by show ¬ (1 + j = 42 + r' ∨ 1 + j = 47 + r' ∨ (262 + 6 * r' ≤ 1 + j ∧ 1 + j < 262 + 6 * r' + 6)); omega
    | r', 1, hr', _, hq => by show ¬ (82 + 12 * r' ≤ 1 + j ∧ 1 + j < 82 + 12 * r' + 12); omega
    | r', 2, hr', _, hq => by show ¬ (142 + 12 * r' ≤ 1 + j ∧ 1 + j < 142 + 12 * r' + 12); omega
    | r', 3, hr', _, hq => by show ¬ (202 + 12 * r' ≤ 1 + j ∧ 1 + j < 202 + 12 * r' + 12); omega
    | r', 4, hr', _, hq => by show ¬ (52 + 3 * r' ≤ 1 + j ∧ 1 + j < 52 + 3 * r' + 3); omega
    | r', 5, hr', _, hq => by show ¬ (67 + 3 * r' ≤ 1 + j ∧ 1 + j < 67 + 3 * r' + 3); omega
    | _, j + 6, _, hj, _ => absurd hj (by omega))
  (by rw [hc_lo (by decide), seg_in hj]; rfl)
theorem hs_w3 {E : EE} {a : Nat → Nat} {g : Nat → Int32} {j : Nat} {v : Int32} (hj : j < 12) : (hs E a g).set 3 (a 3, rI E 12 (upd (seg g 5 12) j v)) = hs E a (upd g (5 + j) v) := hs_put (by decide)
  (fun k hk hq => match k, hk, hq with
    | 0, _, hq => by show ¬ (5 + j = 0 ∨ 5 + j = 41 ∨ 5 + j = 296 ∨ 302 ≤ 5 + j); omega
    | 2, _, _ => fun h => h
    | 1, _, hq => by show ¬ (1 ≤ 5 + j ∧ 5 + j < 1 + 4); omega
    | 3, _, hq => by show ¬ (5 ≤ 5 + j ∧ 5 + j < 5 + 12); omega
    | 4, _, hq => by show ¬ (17 ≤ 5 + j ∧ 5 + j < 17 + 12); omega
    | 5, _, hq => by show ¬ (29 ≤ 5 + j ∧ 5 + j < 29 + 12); omega
    | 6, _, hq => by show ¬ (292 ≤ 5 + j ∧ 5 + j < 292 + 4); omega
    | 7, _, hq => by show ¬ (297 ≤ 5 + j ∧ 5 + j < 297 + 5); omega
    | k + 8, hk, _ => absurd hk (by omega))
  (fun r0 j0 hr0 hj0 hq0 => match r0, j0, hr0, hj0, hq0 with
    | r', 0, hr', _, hq => by show ¬ (5 + j = 42 + r' ∨ 5 + j = 47 + r' ∨ (262 + 6 * r' ≤ 5 + j ∧ 5 + j < 262 + 6 * r' + 6)); omega
    | r', 1, hr', _, hq => by show ¬ (82 + 12 * r' ≤ 5 + j ∧ 5 + j < 82 + 12 * r' + 12); omega
    | r', 2, hr', _, hq => by show ¬ (142 + 12 * r' ≤ 5 + j ∧ 5 + j < 142 + 12 * r' + 12); omega
    | r', 3, hr', _, hq => by show ¬ (202 + 12 * r' ≤ 5 + j ∧ 5 + j < 202 + 12 * r' + 12); omega
    | r', 4, hr', _, hq => by show ¬ (52 + 3 * r' ≤ 5 + j ∧ 5 + j < 52 + 3 * r' + 3); omega
    | r', 5, hr', _, hq => by show ¬ (67 + 3 * r' ≤ 5 + j ∧ 5 + j < 67 + 3 * r' + 3); omega
    | _, j + 6, _, hj, _ => absurd hj (by omega))
  (by rw [hc_lo (by decide), seg_in hj]; rfl)
theorem hs_w4 {E : EE} {a : Nat → Nat} {g : Nat → Int32} {j : Nat} {v : Int32} (hj : j < 12) : (hs E a g).set 4 (a 4, rI E 12 (upd (seg g 17 12) j v)) = hs E a (upd g (17 + j) v) := hs_put (by decide)
  (fun k hk hq => match k, hk, hq with
    | 0, _, hq => by show ¬ (17 + j = 0 ∨ 17 + j = 41 ∨ 17 + j = 296 ∨ 302 ≤ 17 + j); omega
    | 2, _, _ => fun h => h
    | 1, _, hq => by show ¬ (1 ≤ 17 + j ∧ 17 + j < 1 + 4); omega
    | 3, _, hq => by show ¬ (5 ≤ 17 + j ∧ 17 + j < 5 + 12); omega
    | 4, _, hq => by show ¬ (17 ≤ 17 + j ∧ 17 + j < 17 + 12); omega
    | 5, _, hq => by show ¬ (29 ≤ 17 + j ∧ 17 + j < 29 + 12); omega
    | 6, _, hq => by show ¬ (292 ≤ 17 + j ∧ 17 + j < 292 + 4); omega
    | 7, _, hq => by show ¬ (297 ≤ 17 + j ∧ 17 + j < 297 + 5); omega
    | k + 8, hk, _ => absurd hk (by omega))
  (fun r0 j0 hr0 hj0 hq0 => match r0, j0, hr0, hj0, hq0 with
    | r', 0, hr', _, hq => by show ¬ (17 + j = 42 + r' ∨ 17 + j = 47 + r' ∨ (262 + 6 * r' ≤ 17 + j ∧ 17 + j < 262 + 6 * r' + 6)); omega
    | r', 1, hr', _, hq => by show ¬ (82 + 12 * r' ≤ 17 + j ∧ 17 + j < 82 + 12 * r' + 12); omega
    | r', 2, hr', _, hq => by show ¬ (142 + 12 * r' ≤ 17 + j ∧ 17 + j < 142 + 12 * r' + 12); omega
    | r', 3, hr', _, hq => by show ¬ (202 + 12 * r' ≤ 17 + j ∧ 17 + j < 202 + 12 * r' + 12); omega
    | r', 4, hr', _, hq => by show ¬ (52 + 3 * r' ≤ 17 + j ∧ 17 + j < 52 + 3 * r' + 3); omega
    | r', 5, hr', _, hq => by show ¬ (67 + 3 * r' ≤ 17 + j ∧ 17 + j < 67 + 3 * r' + 3); omega
    | _, j + 6, _, hj, _ => absurd hj (by omega))
  (by rw [hc_lo (by decide), seg_in hj]; rfl)
theorem hs_w5 {E : EE} {a : Nat → Nat} {g : Nat → Int32} {j : Nat} {v : Int32} (hj : j < 12) : (hs E a g).set 5 (a 5, rI E 12 (upd (seg g 29 12) j v)) = hs E a (upd g (29 + j) v) := hs_put (by decide)
  (fun k hk hq => match k, hk, hq with
    | 0, _, hq => by show ¬ (29 + j = 0 ∨ 29 + j = 41 ∨ 29 + j = 296 ∨ 302 ≤ 29 + j); omega
    | 2, _, _ => fun h => h
    | 1, _, hq => by show ¬ (1 ≤ 29 + j ∧ 29 + j < 1 + 4); omega
    | 3, _, hq => by show ¬ (5 ≤ 29 + j ∧ 29 + j < 5 + 12); omega
    | 4, _, hq => by show ¬ (17 ≤ 29 + j ∧ 29 + j < 17 + 12); omega
    | 5, _, hq => by show ¬ (29 ≤ 29 + j ∧ 29 + j < 29 + 12); omega
    | 6, _, hq => by show ¬ (292 ≤ 29 + j ∧ 29 + j < 292 + 4); omega
    | 7, _, hq => by show ¬ (297 ≤ 29 + j ∧ 29 + j < 297 + 5); omega
    | k + 8, hk, _ => absurd hk (by omega))
  (fun r0 j0 hr0 hj0 hq0 => match r0, j0, hr0, hj0, hq0 with
    | r', 0, hr', _, hq => by show ¬ (29 + j = 42 + r' ∨ 29 + j = 47 + r' ∨ (262 + 6 * r' ≤ 29 + j ∧ 29 + j < 262 + 6 * r' + 6)); omega
    | r', 1, hr', _, hq => by show ¬ (82 + 12 * r' ≤ 29 + j ∧ 29 + j < 82 + 12 * r' + 12); omega
    | r', 2, hr', _, hq => by show ¬ (142 + 12 * r' ≤ 29 + j ∧ 29 + j < 142 + 12 * r' + 12); omega
    | r', 3, hr', _, hq => by show ¬ (202 + 12 * r' ≤ 29 + j ∧ 29 + j < 202 + 12 * r' + 12); omega
    | r', 4, hr', _, hq => by show ¬ (52 + 3 * r' ≤ 29 + j ∧ 29 + j < 52 + 3 * r' + 3); omega
    | r', 5, hr', _, hq => by show ¬ (67 + 3 * r' ≤ 29 + j ∧ 29 + j < 67 + 3 * r' + 3); omega
    | _, j + 6, _, hj, _ => absurd hj (by omega))
  (by rw [hc_lo (by decide), seg_in hj]; rfl)
theorem hs_w6 {E : EE} {a : Nat → Nat} {g : Nat → Int32} {j : Nat} {v : Int32} (hj : j < 4) : (hs E a g).set 6 (a 6, rI E 4 (upd (seg g 292 4) j v)) = hs E a (upd g (292 + j) v) := hs_put (by decide)
  (fun k hk hq => match k, hk, hq with
    | 0, _, hq => by show ¬ (292 + j = 0 ∨ 292 + j = 41 ∨ 292 + j = 296 ∨ 302 ≤ 292 + j); omega
    | 2, _, _ => fun h => h
    | 1, _, hq => by show ¬ (1 ≤ 292 + j ∧ 292 + j < 1 + 4); omega
    | 3, _, hq => by show ¬ (5 ≤ 292 + j ∧ 292 + j < 5 + 12); omega
    | 4, _, hq => by show ¬ (17 ≤ 292 + j ∧ 292 + j < 17 + 12); omega
    | 5, _, hq => by show ¬ (29 ≤ 292 + j ∧ 292 + j < 29 + 12); omega
    | 6, _, hq => by show ¬ (292 ≤ 292 + j ∧ 292 + j < 292 + 4); omega
    | 7, _, hq => by show ¬ (297 ≤ 292 + j ∧ 292 + j < 297 + 5); omega
    | k + 8, hk, _ => absurd hk (by omega))
  (fun r0 j0 hr0 hj0 hq0 => match r0, j0, hr0, hj0, hq0 with
    | r', 0, hr', _, hq => by show ¬ (292 + j = 42 + r' ∨ 292 + j = 47 + r' ∨ (262 + 6 * r' ≤ 292 + j ∧ 292 + j < 262 + 6 * r' + 6)); omega
    | r', 1, hr', _, hq => by show ¬ (82 + 12 * r' ≤ 292 + j ∧ 292 + j < 82 + 12 * r' + 12); omega
    | r', 2, hr', _, hq => by show ¬ (142 + 12 * r' ≤ 292 + j ∧ 292 + j < 142 + 12 * r' + 12); omega
    | r', 3, hr', _, hq => by show ¬ (202 + 12 * r' ≤ 292 + j ∧ 292 + j < 202 + 12 * r' + 12); omega
    | r', 4, hr', _, hq => by show ¬ (52 + 3 * r' ≤ 292 + j ∧ 292 + j < 52 + 3 * r' + 3); omega
    | r', 5, hr', _, hq => by show ¬ (67 + 3 * r' ≤ 292 + j ∧ 292 + j < 67 + 3 * r' + 3); omega
    | _, j + 6, _, hj, _ => absurd hj (by omega))
  (by rw [hc_lo (by decide), seg_in hj]; rfl)
theorem hs_w7 {E : EE} {a : Nat → Nat} {g : Nat → Int32} {j : Nat} {v : Int32} (hj : j < 5) : (hs E a g).set 7 (a 7, rI E 5 (upd (seg g 297 5) j v)) = hs E a (upd g (297 + j) v) := hs_put (by decide)
  (fun k hk hq => match k, hk, hq with
    | 0, _, hq => by show ¬ (297 + j = 0 ∨ 297 + j = 41 ∨ 297 + j = 296 ∨ 302 ≤ 297 + j); omega
    | 2, _, _ => fun h => h
    | 1, _, hq => by show ¬ (1 ≤ 297 + j ∧ 297 + j < 1 + 4); omega
    | 3, _, hq => by show ¬ (5 ≤ 297 + j ∧ 297 + j < 5 + 12); omega
    | 4, _, hq => by show ¬ (17 ≤ 297 + j ∧ 297 + j < 17 + 12); omega
    | 5, _, hq => by show ¬ (29 ≤ 297 + j ∧ 297 + j < 29 + 12); omega
    | 6, _, hq => by show ¬ (292 ≤ 297 + j ∧ 297 + j < 292 + 4); omega
    | 7, _, hq => by show ¬ (297 ≤ 297 + j ∧ 297 + j < 297 + 5); omega
    | k + 8, hk, _ => absurd hk (by omega))
  (fun r0 j0 hr0 hj0 hq0 => match r0, j0, hr0, hj0, hq0 with
    | r', 0, hr', _, hq => by show ¬ (297 + j = 42 + r' ∨ 297 + j = 47 + r' ∨ (262 + 6 * r' ≤ 297 + j ∧ 297 + j < 262 + 6 * r' + 6)); omega
    | r', 1, hr', _, hq => by show ¬ (82 + 12 * r' ≤ 297 + j ∧ 297 + j < 82 + 12 * r' + 12); omega
    | r', 2, hr', _, hq => by show ¬ (142 + 12 * r' ≤ 297 + j ∧ 297 + j < 142 + 12 * r' + 12); omega
    | r', 3, hr', _, hq => by show ¬ (202 + 12 * r' ≤ 297 + j ∧ 297 + j < 202 + 12 * r' + 12); omega
    | r', 4, hr', _, hq => by show ¬ (52 + 3 * r' ≤ 297 + j ∧ 297 + j < 52 + 3 * r' + 3); omega
    | r', 5, hr', _, hq => by show ¬ (67 + 3 * r' ≤ 297 + j ∧ 297 + j < 67 + 3 * r' + 3); omega
    | _, j + 6, _, hj, _ => absurd hj (by omega))
  (by rw [hc_lo (by decide), seg_in hj]; rfl)
theorem hs_u1 {E : EE} {a : Nat → Nat} {g : Nat → Int32} {r j : Nat} {v : Int32} (hr : r < 5) (hj : j < 12) : (hs E a g).set (8 + 6 * r + 1) (a (8 + 6 * r + 1), rI E 12 (upd (seg g (82 + 12 * r) 12) j v)) = hs E a (upd g (82 + 12 * r + j) v) := hs_put (by omega)
  (fun k hk hq => match k, hk, hq with
    | 0, _, hq => by show ¬ (82 + 12 * r + j = 0 ∨ 82 + 12 * r + j = 41 ∨ 82 + 12 * r + j = 296 ∨ 302 ≤ 82 + 12 * r + j); omega
    | 2, _, _ => fun h => h
    | 1, _, hq => by show ¬ (1 ≤ 82 + 12 * r + j ∧ 82 + 12 * r + j < 1 + 4); omega
    | 3, _, hq => by show ¬ (5 ≤ 82 + 12 * r + j ∧ 82 + 12 * r + j < 5 + 12); omega
    | 4, _, hq => by show ¬ (17 ≤ 82 + 12 * r + j ∧ 82 + 12 * r + j < 17 + 12); omega
    | 5, _, hq => by show ¬ (29 ≤ 82 + 12 * r + j ∧ 82 + 12 * r + j < 29 + 12); omega
    | 6, _, hq => by show ¬ (292 ≤ 82 + 12 * r + j ∧ 82 + 12 * r + j < 292 + 4); omega
    | 7, _, hq => by show ¬ (297 ≤ 82 + 12 * r + j ∧ 82 + 12 * r + j < 297 + 5); omega
    | k + 8, hk, _ => absurd hk (by omega))
  (fun r0 j0 hr0 hj0 hq0 => match r0, j0, hr0, hj0, hq0 with
    | r', 0, hr', _, hq => by show ¬ (82 + 12 * r + j = 42 + r' ∨ 82 + 12 * r + j = 47 + r' ∨ (262 + 6 * r' ≤ 82 + 12 * r + j ∧ 82 + 12 * r + j < 262 + 6 * r' + 6)); omega
    | r', 1, hr', _, hq => by show ¬ (82 + 12 * r' ≤ 82 + 12 * r + j ∧ 82 + 12 * r + j < 82 + 12 * r' + 12); omega
    | r', 2, hr', _, hq => by show ¬ (142 + 12 * r' ≤ 82 + 12 * r + j ∧ 82 + 12 * r + j < 142 + 12 * r' + 12); omega
    | r', 3, hr', _, hq => by show ¬ (202 + 12 * r' ≤ 82 + 12 * r + j ∧ 82 + 12 * r + j < 202 + 12 * r' + 12); omega
    | r', 4, hr', _, hq => by show ¬ (52 + 3 * r' ≤ 82 + 12 * r + j ∧ 82 + 12 * r + j < 52 + 3 * r' + 3); omega
    | r', 5, hr', _, hq => by show ¬ (67 + 3 * r' ≤ 82 + 12 * r + j ∧ 82 + 12 * r + j < 67 + 3 * r' + 3); omega
    | _, j + 6, _, hj, _ => absurd hj (by omega))
  (by rw [hc_hi (by decide), seg_in hj]; rfl)
theorem hs_u2 {E : EE} {a : Nat → Nat} {g : Nat → Int32} {r j : Nat} {v : Int32} (hr : r < 5) (hj : j < 12) : (hs E a g).set (8 + 6 * r + 2) (a (8 + 6 * r + 2), rI E 12 (upd (seg g (142 + 12 * r) 12) j v)) = hs E a (upd g (142 + 12 * r + j) v) := hs_put (by omega)
  (fun k hk hq => match k, hk, hq with
    | 0, _, hq => by show ¬ (142 + 12 * r + j = 0 ∨ 142 + 12 * r + j = 41 ∨ 142 + 12 * r + j = 296 ∨ 302 ≤ 142 + 12 * r + j); omega
    | 2, _, _ => fun h => h
    | 1, _, hq => by show ¬ (1 ≤ 142 + 12 * r + j ∧ 142 + 12 * r + j < 1 + 4); omega
    | 3, _, hq => by show ¬ (5 ≤ 142 + 12 * r + j ∧ 142 + 12 * r + j < 5 + 12); omega
    | 4, _, hq => by show ¬ (17 ≤ 142 + 12 * r + j ∧ 142 + 12 * r + j < 17 + 12); omega
    | 5, _, hq => by show ¬ (29 ≤ 142 + 12 * r + j ∧ 142 + 12 * r + j < 29 + 12); omega
    | 6, _, hq => by show ¬ (292 ≤ 142 + 12 * r + j ∧ 142 + 12 * r + j < 292 + 4); omega
    | 7, _, hq => by show ¬ (297 ≤ 142 + 12 * r + j ∧ 142 + 12 * r + j < 297 + 5); omega
    | k + 8, hk, _ => absurd hk (by omega))
  (fun r0 j0 hr0 hj0 hq0 => match r0, j0, hr0, hj0, hq0 with
    | r', 0, hr', _, hq => by show ¬ (142 + 12 * r + j = 42 + r' ∨ 142 + 12 * r + j = 47 + r' ∨ (262 + 6 * r' ≤ 142 + 12 * r + j ∧ 142 + 12 * r + j < 262 + 6 * r' + 6)); omega
    | r', 1, hr', _, hq => by show ¬ (82 + 12 * r' ≤ 142 + 12 * r + j ∧ 142 + 12 * r + j < 82 + 12 * r' + 12); omega
    | r', 2, hr', _, hq => by show ¬ (142 + 12 * r' ≤ 142 + 12 * r + j ∧ 142 + 12 * r + j < 142 + 12 * r' + 12); omega
    | r', 3, hr', _, hq => by show ¬ (202 + 12 * r' ≤ 142 + 12 * r + j ∧ 142 + 12 * r + j < 202 + 12 * r' + 12); omega
    | r', 4, hr', _, hq => by show ¬ (52 + 3 * r' ≤ 142 + 12 * r + j ∧ 142 + 12 * r + j < 52 + 3 * r' + 3); omega
    | r', 5, hr', _, hq => by show ¬ (67 + 3 * r' ≤ 142 + 12 * r + j ∧ 142 + 12 * r + j < 67 + 3 * r' + 3); omega
    | _, j + 6, _, hj, _ => absurd hj (by omega))
  (by rw [hc_hi (by decide), seg_in hj]; rfl)
theorem hs_u3 {E : EE} {a : Nat → Nat} {g : Nat → Int32} {r j : Nat} {v : Int32} (hr : r < 5) (hj : j < 12) : (hs E a g).set (8 + 6 * r + 3) (a (8 + 6 * r + 3), rI E 12 (upd (seg g (202 + 12 * r) 12) j v)) = hs E a (upd g (202 + 12 * r + j) v) := hs_put (by omega)
  (fun k hk hq => match k, hk, hq with
    | 0, _, hq => by show ¬ (202 + 12 * r + j = 0 ∨ 202 + 12 * r + j = 41 ∨ 202 + 12 * r + j = 296 ∨ 302 ≤ 202 + 12 * r + j); omega
    | 2, _, _ => fun h => h
    | 1, _, hq => by show ¬ (1 ≤ 202 + 12 * r + j ∧ 202 + 12 * r + j < 1 + 4); omega
    | 3, _, hq => by show ¬ (5 ≤ 202 + 12 * r + j ∧ 202 + 12 * r + j < 5 + 12); omega
    | 4, _, hq => by show ¬ (17 ≤ 202 + 12 * r + j ∧ 202 + 12 * r + j < 17 + 12); omega
    | 5, _, hq => by show ¬ (29 ≤ 202 + 12 * r + j ∧ 202 + 12 * r + j < 29 + 12); omega
    | 6, _, hq => by show ¬ (292 ≤ 202 + 12 * r + j ∧ 202 + 12 * r + j < 292 + 4); omega
    | 7, _, hq => by show ¬ (297 ≤ 202 + 12 * r + j ∧ 202 + 12 * r + j < 297 + 5); omega
    | k + 8, hk, _ => absurd hk (by omega))
  (fun r0 j0 hr0 hj0 hq0 => match r0, j0, hr0, hj0, hq0 with
    | r', 0, hr', _, hq => by show ¬ (202 + 12 * r + j = 42 + r' ∨ 202 + 12 * r + j = 47 + r' ∨ (262 + 6 * r' ≤ 202 + 12 * r + j ∧ 202 + 12 * r + j < 262 + 6 * r' + 6)); omega
    | r', 1, hr', _, hq => by show ¬ (82 + 12 * r' ≤ 202 + 12 * r + j ∧ 202 + 12 * r + j < 82 + 12 * r' + 12); omega
    | r', 2, hr', _, hq => by show ¬ (142 + 12 * r' ≤ 202 + 12 * r + j ∧ 202 + 12 * r + j < 142 + 12 * r' + 12); omega
    | r', 3, hr', _, hq => by show ¬ (202 + 12 * r' ≤ 202 + 12 * r + j ∧ 202 + 12 * r + j < 202 + 12 * r' + 12); omega
    | r', 4, hr', _, hq => by show ¬ (52 + 3 * r' ≤ 202 + 12 * r + j ∧ 202 + 12 * r + j < 52 + 3 * r' + 3); omega
    | r', 5, hr', _, hq => by show ¬ (67 + 3 * r' ≤ 202 + 12 * r + j ∧ 202 + 12 * r + j < 67 + 3 * r' + 3); omega
    | _, j + 6, _, hj, _ => absurd hj (by omega))
  (by rw [hc_hi (by decide), seg_in hj]; rfl)
theorem hs_u4 {E : EE} {a : Nat → Nat} {g : Nat → Int32} {r j : Nat} {v : Int32} (hr : r < 5) (hj : j < 3) : (hs E a g).set (8 + 6 * r + 4) (a (8 + 6 * r + 4), rI E 3 (upd (seg g (52 + 3 * r) 3) j v)) = hs E a (upd g (52 + 3 * r + j) v) := hs_put (by omega)
  (fun k hk hq => match k, hk, hq with
    | 0, _, hq => by show ¬ (52 + 3 * r + j = 0 ∨ 52 + 3 * r + j = 41 ∨ 52 + 3 * r + j = 296 ∨ 302 ≤ 52 + 3 * r + j); omega
    | 2, _, _ => fun h => h
    | 1, _, hq => by show ¬ (1 ≤ 52 + 3 * r + j ∧ 52 + 3 * r + j < 1 + 4); omega
    | 3, _, hq => by show ¬ (5 ≤ 52 + 3 * r + j ∧ 52 + 3 * r + j < 5 + 12); omega
    | 4, _, hq => by show ¬ (17 ≤ 52 + 3 * r + j ∧ 52 + 3 * r + j < 17 + 12); omega
    | 5, _, hq => by show ¬ (29 ≤ 52 + 3 * r + j ∧ 52 + 3 * r + j < 29 + 12); omega
    | 6, _, hq => by show ¬ (292 ≤ 52 + 3 * r + j ∧ 52 + 3 * r + j < 292 + 4); omega
    | 7, _, hq => by show ¬ (297 ≤ 52 + 3 * r + j ∧ 52 + 3 * r + j < 297 + 5); omega
    | k + 8, hk, _ => absurd hk (by omega))
  (fun r0 j0 hr0 hj0 hq0 => match r0, j0, hr0, hj0, hq0 with
    | r', 0, hr', _, hq => by show ¬ (52 + 3 * r + j = 42 + r' ∨ 52 + 3 * r + j = 47 + r' ∨ (262 + 6 * r' ≤ 52 + 3 * r + j ∧ 52 + 3 * r + j < 262 + 6 * r' + 6)); omega
    | r', 1, hr', _, hq => by show ¬ (82 + 12 * r' ≤ 52 + 3 * r + j ∧ 52 + 3 * r + j < 82 + 12 * r' + 12); omega
    | r', 2, hr', _, hq => by show ¬ (142 + 12 * r' ≤ 52 + 3 * r + j ∧ 52 + 3 * r + j < 142 + 12 * r' + 12); omega
    | r', 3, hr', _, hq => by show ¬ (202 + 12 * r' ≤ 52 + 3 * r + j ∧ 52 + 3 * r + j < 202 + 12 * r' + 12); omega
    | r', 4, hr', _, hq => by show ¬ (52 + 3 * r' ≤ 52 + 3 * r + j ∧ 52 + 3 * r + j < 52 + 3 * r' + 3); omega
    | r', 5, hr', _, hq => by show ¬ (67 + 3 * r' ≤ 52 + 3 * r + j ∧ 52 + 3 * r + j < 67 + 3 * r' + 3); omega
    | _, j + 6, _, hj, _ => absurd hj (by omega))
  (by rw [hc_hi (by decide), seg_in hj]; rfl)
theorem hs_u5 {E : EE} {a : Nat → Nat} {g : Nat → Int32} {r j : Nat} {v : Int32} (hr : r < 5) (hj : j < 3) : (hs E a g).set (8 + 6 * r + 5) (a (8 + 6 * r + 5), rI E 3 (upd (seg g (67 + 3 * r) 3) j v)) = hs E a (upd g (67 + 3 * r + j) v) := hs_put (by omega)
  (fun k hk hq => match k, hk, hq with
    | 0, _, hq => by show ¬ (67 + 3 * r + j = 0 ∨ 67 + 3 * r + j = 41 ∨ 67 + 3 * r + j = 296 ∨ 302 ≤ 67 + 3 * r + j); omega
    | 2, _, _ => fun h => h
    | 1, _, hq => by show ¬ (1 ≤ 67 + 3 * r + j ∧ 67 + 3 * r + j < 1 + 4); omega
    | 3, _, hq => by show ¬ (5 ≤ 67 + 3 * r + j ∧ 67 + 3 * r + j < 5 + 12); omega
    | 4, _, hq => by show ¬ (17 ≤ 67 + 3 * r + j ∧ 67 + 3 * r + j < 17 + 12); omega
    | 5, _, hq => by show ¬ (29 ≤ 67 + 3 * r + j ∧ 67 + 3 * r + j < 29 + 12); omega
    | 6, _, hq => by show ¬ (292 ≤ 67 + 3 * r + j ∧ 67 + 3 * r + j < 292 + 4); omega
    | 7, _, hq => by show ¬ (297 ≤ 67 + 3 * r + j ∧ 67 + 3 * r + j < 297 + 5); omega
    | k + 8, hk, _ => absurd hk (by omega))
  (fun r0 j0 hr0 hj0 hq0 => match r0, j0, hr0, hj0, hq0 with
    | r', 0, hr', _, hq => by show ¬ (67 + 3 * r + j = 42 + r' ∨ 67 + 3 * r + j = 47 + r' ∨ (262 + 6 * r' ≤ 67 + 3 * r + j ∧ 67 + 3 * r + j < 262 + 6 * r' + 6)); omega
    | r', 1, hr', _, hq => by show ¬ (82 + 12 * r' ≤ 67 + 3 * r + j ∧ 67 + 3 * r + j < 82 + 12 * r' + 12); omega
    | r', 2, hr', _, hq => by show ¬ (142 + 12 * r' ≤ 67 + 3 * r + j ∧ 67 + 3 * r + j < 142 + 12 * r' + 12); omega
    | r', 3, hr', _, hq => by show ¬ (202 + 12 * r' ≤ 67 + 3 * r + j ∧ 67 + 3 * r + j < 202 + 12 * r' + 12); omega
    | r', 4, hr', _, hq => by show ¬ (52 + 3 * r' ≤ 67 + 3 * r + j ∧ 67 + 3 * r + j < 52 + 3 * r' + 3); omega
    | r', 5, hr', _, hq => by show ¬ (67 + 3 * r' ≤ 67 + 3 * r + j ∧ 67 + 3 * r + j < 67 + 3 * r' + 3); omega
    | _, j + 6, _, hj, _ => absurd hj (by omega))
  (by rw [hc_hi (by decide), seg_in hj]; rfl)
theorem hs_f0 {E : EE} {a : Nat → Nat} {g : Nat → Int32} {v : Int32} : (hs E a g).set 0 (a 0, .inr (0, (hf a g).set 0 (.int v))) = hs E a (upd g 0 v) := hs_put (by decide)
  (fun k hk hq => match k, hk, hq with
    | 0, _, hq => by show ¬ (0 = 0 ∨ 0 = 41 ∨ 0 = 296 ∨ 302 ≤ 0); omega
    | 2, _, _ => fun h => h
    | 1, _, hq => by show ¬ (1 ≤ 0 ∧ 0 < 1 + 4); omega
    | 3, _, hq => by show ¬ (5 ≤ 0 ∧ 0 < 5 + 12); omega
    | 4, _, hq => by show ¬ (17 ≤ 0 ∧ 0 < 17 + 12); omega
    | 5, _, hq => by show ¬ (29 ≤ 0 ∧ 0 < 29 + 12); omega
    | 6, _, hq => by show ¬ (292 ≤ 0 ∧ 0 < 292 + 4); omega
    | 7, _, hq => by show ¬ (297 ≤ 0 ∧ 0 < 297 + 5); omega
    | k + 8, hk, _ => absurd hk (by omega))
  (fun r0 j0 hr0 hj0 hq0 => match r0, j0, hr0, hj0, hq0 with
    | r', 0, hr', _, hq => by show ¬ (0 = 42 + r' ∨ 0 = 47 + r' ∨ (262 + 6 * r' ≤ 0 ∧ 0 < 262 + 6 * r' + 6)); omega
    | r', 1, hr', _, hq => by show ¬ (82 + 12 * r' ≤ 0 ∧ 0 < 82 + 12 * r' + 12); omega
    | r', 2, hr', _, hq => by show ¬ (142 + 12 * r' ≤ 0 ∧ 0 < 142 + 12 * r' + 12); omega
    | r', 3, hr', _, hq => by show ¬ (202 + 12 * r' ≤ 0 ∧ 0 < 202 + 12 * r' + 12); omega
    | r', 4, hr', _, hq => by show ¬ (52 + 3 * r' ≤ 0 ∧ 0 < 52 + 3 * r' + 3); omega
    | r', 5, hr', _, hq => by show ¬ (67 + 3 * r' ≤ 0 ∧ 0 < 67 + 3 * r' + 3); omega
    | _, j + 6, _, hj, _ => absurd hj (by omega))
  (by
    rw [hc_lo (by decide)]
    show (.inr (0, (hf a g).set 0 (.int v)) : va_E) = .inr (0, hf a (upd g 0 v))
    unfold hf
    rw [up_s, up_n (show 41 ≠ 0 by decide), up_n (show 296 ≠ 0 by decide), up_n (show 302 ≠ 0 by decide), up_n (show 303 ≠ 0 by decide), up_n (show 304 ≠ 0 by decide), up_n (show 305 ≠ 0 by decide), up_n (show 306 ≠ 0 by decide), up_n (show 307 ≠ 0 by decide), up_n (show 308 ≠ 0 by decide)]
    rfl)
theorem hs_f6 {E : EE} {a : Nat → Nat} {g : Nat → Int32} {v : Int32} : (hs E a g).set 0 (a 0, .inr (0, (hf a g).set 6 (.int v))) = hs E a (upd g 41 v) := hs_put (by decide)
  (fun k hk hq => match k, hk, hq with
    | 0, _, hq => by show ¬ (41 = 0 ∨ 41 = 41 ∨ 41 = 296 ∨ 302 ≤ 41); omega
    | 2, _, _ => fun h => h
    | 1, _, hq => by show ¬ (1 ≤ 41 ∧ 41 < 1 + 4); omega
    | 3, _, hq => by show ¬ (5 ≤ 41 ∧ 41 < 5 + 12); omega
    | 4, _, hq => by show ¬ (17 ≤ 41 ∧ 41 < 17 + 12); omega
    | 5, _, hq => by show ¬ (29 ≤ 41 ∧ 41 < 29 + 12); omega
    | 6, _, hq => by show ¬ (292 ≤ 41 ∧ 41 < 292 + 4); omega
    | 7, _, hq => by show ¬ (297 ≤ 41 ∧ 41 < 297 + 5); omega
    | k + 8, hk, _ => absurd hk (by omega))
  (fun r0 j0 hr0 hj0 hq0 => match r0, j0, hr0, hj0, hq0 with
    | r', 0, hr', _, hq => by show ¬ (41 = 42 + r' ∨ 41 = 47 + r' ∨ (262 + 6 * r' ≤ 41 ∧ 41 < 262 + 6 * r' + 6)); omega
    | r', 1, hr', _, hq => by show ¬ (82 + 12 * r' ≤ 41 ∧ 41 < 82 + 12 * r' + 12); omega
    | r', 2, hr', _, hq => by show ¬ (142 + 12 * r' ≤ 41 ∧ 41 < 142 + 12 * r' + 12); omega
    | r', 3, hr', _, hq => by show ¬ (202 + 12 * r' ≤ 41 ∧ 41 < 202 + 12 * r' + 12); omega
    | r', 4, hr', _, hq => by show ¬ (52 + 3 * r' ≤ 41 ∧ 41 < 52 + 3 * r' + 3); omega
    | r', 5, hr', _, hq => by show ¬ (67 + 3 * r' ≤ 41 ∧ 41 < 67 + 3 * r' + 3); omega
    | _, j + 6, _, hj, _ => absurd hj (by omega))
  (by
    rw [hc_lo (by decide)]
    show (.inr (0, (hf a g).set 6 (.int v)) : va_E) = .inr (0, hf a (upd g 41 v))
    unfold hf
    rw [up_n (show 0 ≠ 41 by decide), up_s, up_n (show 296 ≠ 41 by decide), up_n (show 302 ≠ 41 by decide), up_n (show 303 ≠ 41 by decide), up_n (show 304 ≠ 41 by decide), up_n (show 305 ≠ 41 by decide), up_n (show 306 ≠ 41 by decide), up_n (show 307 ≠ 41 by decide), up_n (show 308 ≠ 41 by decide)]
    rfl)
theorem hs_f8 {E : EE} {a : Nat → Nat} {g : Nat → Int32} {v : Int32} : (hs E a g).set 0 (a 0, .inr (0, (hf a g).set 8 (.int v))) = hs E a (upd g 296 v) := hs_put (by decide)
  (fun k hk hq => match k, hk, hq with
    | 0, _, hq => by show ¬ (296 = 0 ∨ 296 = 41 ∨ 296 = 296 ∨ 302 ≤ 296); omega
    | 2, _, _ => fun h => h
    | 1, _, hq => by show ¬ (1 ≤ 296 ∧ 296 < 1 + 4); omega
    | 3, _, hq => by show ¬ (5 ≤ 296 ∧ 296 < 5 + 12); omega
    | 4, _, hq => by show ¬ (17 ≤ 296 ∧ 296 < 17 + 12); omega
    | 5, _, hq => by show ¬ (29 ≤ 296 ∧ 296 < 29 + 12); omega
    | 6, _, hq => by show ¬ (292 ≤ 296 ∧ 296 < 292 + 4); omega
    | 7, _, hq => by show ¬ (297 ≤ 296 ∧ 296 < 297 + 5); omega
    | k + 8, hk, _ => absurd hk (by omega))
  (fun r0 j0 hr0 hj0 hq0 => match r0, j0, hr0, hj0, hq0 with
    | r', 0, hr', _, hq => by show ¬ (296 = 42 + r' ∨ 296 = 47 + r' ∨ (262 + 6 * r' ≤ 296 ∧ 296 < 262 + 6 * r' + 6)); omega
    | r', 1, hr', _, hq => by show ¬ (82 + 12 * r' ≤ 296 ∧ 296 < 82 + 12 * r' + 12); omega
    | r', 2, hr', _, hq => by show ¬ (142 + 12 * r' ≤ 296 ∧ 296 < 142 + 12 * r' + 12); omega
    | r', 3, hr', _, hq => by show ¬ (202 + 12 * r' ≤ 296 ∧ 296 < 202 + 12 * r' + 12); omega
    | r', 4, hr', _, hq => by show ¬ (52 + 3 * r' ≤ 296 ∧ 296 < 52 + 3 * r' + 3); omega
    | r', 5, hr', _, hq => by show ¬ (67 + 3 * r' ≤ 296 ∧ 296 < 67 + 3 * r' + 3); omega
    | _, j + 6, _, hj, _ => absurd hj (by omega))
  (by
    rw [hc_lo (by decide)]
    show (.inr (0, (hf a g).set 8 (.int v)) : va_E) = .inr (0, hf a (upd g 296 v))
    unfold hf
    rw [up_n (show 0 ≠ 296 by decide), up_n (show 41 ≠ 296 by decide), up_s, up_n (show 302 ≠ 296 by decide), up_n (show 303 ≠ 296 by decide), up_n (show 304 ≠ 296 by decide), up_n (show 305 ≠ 296 by decide), up_n (show 306 ≠ 296 by decide), up_n (show 307 ≠ 296 by decide), up_n (show 308 ≠ 296 by decide)]
    rfl)
theorem hs_f10 {E : EE} {a : Nat → Nat} {g : Nat → Int32} {v : Int32} : (hs E a g).set 0 (a 0, .inr (0, (hf a g).set 10 (.int v))) = hs E a (upd g 302 v) := hs_put (by decide)
  (fun k hk hq => match k, hk, hq with
    | 0, _, hq => by show ¬ (302 = 0 ∨ 302 = 41 ∨ 302 = 296 ∨ 302 ≤ 302); omega
    | 2, _, _ => fun h => h
    | 1, _, hq => by show ¬ (1 ≤ 302 ∧ 302 < 1 + 4); omega
    | 3, _, hq => by show ¬ (5 ≤ 302 ∧ 302 < 5 + 12); omega
    | 4, _, hq => by show ¬ (17 ≤ 302 ∧ 302 < 17 + 12); omega
    | 5, _, hq => by show ¬ (29 ≤ 302 ∧ 302 < 29 + 12); omega
    | 6, _, hq => by show ¬ (292 ≤ 302 ∧ 302 < 292 + 4); omega
    | 7, _, hq => by show ¬ (297 ≤ 302 ∧ 302 < 297 + 5); omega
    | k + 8, hk, _ => absurd hk (by omega))
  (fun r0 j0 hr0 hj0 hq0 => match r0, j0, hr0, hj0, hq0 with
    | r', 0, hr', _, hq => by show ¬ (302 = 42 + r' ∨ 302 = 47 + r' ∨ (262 + 6 * r' ≤ 302 ∧ 302 < 262 + 6 * r' + 6)); omega
    | r', 1, hr', _, hq => by show ¬ (82 + 12 * r' ≤ 302 ∧ 302 < 82 + 12 * r' + 12); omega
    | r', 2, hr', _, hq => by show ¬ (142 + 12 * r' ≤ 302 ∧ 302 < 142 + 12 * r' + 12); omega
    | r', 3, hr', _, hq => by show ¬ (202 + 12 * r' ≤ 302 ∧ 302 < 202 + 12 * r' + 12); omega
    | r', 4, hr', _, hq => by show ¬ (52 + 3 * r' ≤ 302 ∧ 302 < 52 + 3 * r' + 3); omega
    | r', 5, hr', _, hq => by show ¬ (67 + 3 * r' ≤ 302 ∧ 302 < 67 + 3 * r' + 3); omega
    | _, j + 6, _, hj, _ => absurd hj (by omega))
  (by
    rw [hc_lo (by decide)]
    show (.inr (0, (hf a g).set 10 (.int v)) : va_E) = .inr (0, hf a (upd g 302 v))
    unfold hf
    rw [up_n (show 0 ≠ 302 by decide), up_n (show 41 ≠ 302 by decide), up_n (show 296 ≠ 302 by decide), up_s, up_n (show 303 ≠ 302 by decide), up_n (show 304 ≠ 302 by decide), up_n (show 305 ≠ 302 by decide), up_n (show 306 ≠ 302 by decide), up_n (show 307 ≠ 302 by decide), up_n (show 308 ≠ 302 by decide)]
    rfl)
theorem hs_f11 {E : EE} {a : Nat → Nat} {g : Nat → Int32} {v : Int32} : (hs E a g).set 0 (a 0, .inr (0, (hf a g).set 11 (.int v))) = hs E a (upd g 303 v) := hs_put (by decide)
  (fun k hk hq => match k, hk, hq with
    | 0, _, hq => by show ¬ (303 = 0 ∨ 303 = 41 ∨ 303 = 296 ∨ 302 ≤ 303); omega
    | 2, _, _ => fun h => h
    | 1, _, hq => by show ¬ (1 ≤ 303 ∧ 303 < 1 + 4); omega
    | 3, _, hq => by show ¬ (5 ≤ 303 ∧ 303 < 5 + 12); omega
    | 4, _, hq => by show ¬ (17 ≤ 303 ∧ 303 < 17 + 12); omega
    | 5, _, hq => by show ¬ (29 ≤ 303 ∧ 303 < 29 + 12); omega
    | 6, _, hq => by show ¬ (292 ≤ 303 ∧ 303 < 292 + 4); omega
    | 7, _, hq => by show ¬ (297 ≤ 303 ∧ 303 < 297 + 5); omega
    | k + 8, hk, _ => absurd hk (by omega))
  (fun r0 j0 hr0 hj0 hq0 => match r0, j0, hr0, hj0, hq0 with
    | r', 0, hr', _, hq => by show ¬ (303 = 42 + r' ∨ 303 = 47 + r' ∨ (262 + 6 * r' ≤ 303 ∧ 303 < 262 + 6 * r' + 6)); omega
    | r', 1, hr', _, hq => by show ¬ (82 + 12 * r' ≤ 303 ∧ 303 < 82 + 12 * r' + 12); omega
    | r', 2, hr', _, hq => by show ¬ (142 + 12 * r' ≤ 303 ∧ 303 < 142 + 12 * r' + 12); omega
    | r', 3, hr', _, hq => by show ¬ (202 + 12 * r' ≤ 303 ∧ 303 < 202 + 12 * r' + 12); omega
    | r', 4, hr', _, hq => by show ¬ (52 + 3 * r' ≤ 303 ∧ 303 < 52 + 3 * r' + 3); omega
    | r', 5, hr', _, hq => by show ¬ (67 + 3 * r' ≤ 303 ∧ 303 < 67 + 3 * r' + 3); omega
    | _, j + 6, _, hj, _ => absurd hj (by omega))
  (by
    rw [hc_lo (by decide)]
    show (.inr (0, (hf a g).set 11 (.int v)) : va_E) = .inr (0, hf a (upd g 303 v))
    unfold hf
    rw [up_n (show 0 ≠ 303 by decide), up_n (show 41 ≠ 303 by decide), up_n (show 296 ≠ 303 by decide), up_n (show 302 ≠ 303 by decide), up_s, up_n (show 304 ≠ 303 by decide), up_n (show 305 ≠ 303 by decide), up_n (show 306 ≠ 303 by decide), up_n (show 307 ≠ 303 by decide), up_n (show 308 ≠ 303 by decide)]
    rfl)
theorem hs_f12 {E : EE} {a : Nat → Nat} {g : Nat → Int32} {v : Int32} : (hs E a g).set 0 (a 0, .inr (0, (hf a g).set 12 (.int v))) = hs E a (upd g 304 v) := hs_put (by decide)
  (fun k hk hq => match k, hk, hq with
    | 0, _, hq => by show ¬ (304 = 0 ∨ 304 = 41 ∨ 304 = 296 ∨ 302 ≤ 304); omega
    | 2, _, _ => fun h => h
    | 1, _, hq => by show ¬ (1 ≤ 304 ∧ 304 < 1 + 4); omega
    | 3, _, hq => by show ¬ (5 ≤ 304 ∧ 304 < 5 + 12); omega
    | 4, _, hq => by show ¬ (17 ≤ 304 ∧ 304 < 17 + 12); omega
    | 5, _, hq => by show ¬ (29 ≤ 304 ∧ 304 < 29 + 12); omega
    | 6, _, hq => by show ¬ (292 ≤ 304 ∧ 304 < 292 + 4); omega
    | 7, _, hq => by show ¬ (297 ≤ 304 ∧ 304 < 297 + 5); omega
    | k + 8, hk, _ => absurd hk (by omega))
  (fun r0 j0 hr0 hj0 hq0 => match r0, j0, hr0, hj0, hq0 with
    | r', 0, hr', _, hq => by show ¬ (304 = 42 + r' ∨ 304 = 47 + r' ∨ (262 + 6 * r' ≤ 304 ∧ 304 < 262 + 6 * r' + 6)); omega
    | r', 1, hr', _, hq => by show ¬ (82 + 12 * r' ≤ 304 ∧ 304 < 82 + 12 * r' + 12); omega
    | r', 2, hr', _, hq => by show ¬ (142 + 12 * r' ≤ 304 ∧ 304 < 142 + 12 * r' + 12); omega
    | r', 3, hr', _, hq => by show ¬ (202 + 12 * r' ≤ 304 ∧ 304 < 202 + 12 * r' + 12); omega
    | r', 4, hr', _, hq => by show ¬ (52 + 3 * r' ≤ 304 ∧ 304 < 52 + 3 * r' + 3); omega
    | r', 5, hr', _, hq => by show ¬ (67 + 3 * r' ≤ 304 ∧ 304 < 67 + 3 * r' + 3); omega
    | _, j + 6, _, hj, _ => absurd hj (by omega))
  (by
    rw [hc_lo (by decide)]
    show (.inr (0, (hf a g).set 12 (.int v)) : va_E) = .inr (0, hf a (upd g 304 v))
    unfold hf
    rw [up_n (show 0 ≠ 304 by decide), up_n (show 41 ≠ 304 by decide), up_n (show 296 ≠ 304 by decide), up_n (show 302 ≠ 304 by decide), up_n (show 303 ≠ 304 by decide), up_s, up_n (show 305 ≠ 304 by decide), up_n (show 306 ≠ 304 by decide), up_n (show 307 ≠ 304 by decide), up_n (show 308 ≠ 304 by decide)]
    rfl)
theorem hs_f13 {E : EE} {a : Nat → Nat} {g : Nat → Int32} {v : Int32} : (hs E a g).set 0 (a 0, .inr (0, (hf a g).set 13 (.int v))) = hs E a (upd g 305 v) := hs_put (by decide)
  (fun k hk hq => match k, hk, hq with
    | 0, _, hq => by show ¬ (305 = 0 ∨ 305 = 41 ∨ 305 = 296 ∨ 302 ≤ 305); omega
    | 2, _, _ => fun h => h
    | 1, _, hq => by show ¬ (1 ≤ 305 ∧ 305 < 1 + 4); omega
    | 3, _, hq => by show ¬ (5 ≤ 305 ∧ 305 < 5 + 12); omega
    | 4, _, hq => by show ¬ (17 ≤ 305 ∧ 305 < 17 + 12); omega
    | 5, _, hq => by show ¬ (29 ≤ 305 ∧ 305 < 29 + 12); omega
    | 6, _, hq => by show ¬ (292 ≤ 305 ∧ 305 < 292 + 4); omega
    | 7, _, hq => by show ¬ (297 ≤ 305 ∧ 305 < 297 + 5); omega
    | k + 8, hk, _ => absurd hk (by omega))
  (fun r0 j0 hr0 hj0 hq0 => match r0, j0, hr0, hj0, hq0 with
    | r', 0, hr', _, hq => by show ¬ (305 = 42 + r' ∨ 305 = 47 + r' ∨ (262 + 6 * r' ≤ 305 ∧ 305 < 262 + 6 * r' + 6)); omega
    | r', 1, hr', _, hq => by show ¬ (82 + 12 * r' ≤ 305 ∧ 305 < 82 + 12 * r' + 12); omega
    | r', 2, hr', _, hq => by show ¬ (142 + 12 * r' ≤ 305 ∧ 305 < 142 + 12 * r' + 12); omega
    | r', 3, hr', _, hq => by show ¬ (202 + 12 * r' ≤ 305 ∧ 305 < 202 + 12 * r' + 12); omega
    | r', 4, hr', _, hq => by show ¬ (52 + 3 * r' ≤ 305 ∧ 305 < 52 + 3 * r' + 3); omega
    | r', 5, hr', _, hq => by show ¬ (67 + 3 * r' ≤ 305 ∧ 305 < 67 + 3 * r' + 3); omega
    | _, j + 6, _, hj, _ => absurd hj (by omega))
  (by
    rw [hc_lo (by decide)]
    show (.inr (0, (hf a g).set 13 (.int v)) : va_E) = .inr (0, hf a (upd g 305 v))
    unfold hf
    rw [up_n (show 0 ≠ 305 by decide), up_n (show 41 ≠ 305 by decide), up_n (show 296 ≠ 305 by decide), up_n (show 302 ≠ 305 by decide), up_n (show 303 ≠ 305 by decide), up_n (show 304 ≠ 305 by decide), up_s, up_n (show 306 ≠ 305 by decide), up_n (show 307 ≠ 305 by decide), up_n (show 308 ≠ 305 by decide)]
    rfl)
theorem hs_f14 {E : EE} {a : Nat → Nat} {g : Nat → Int32} {v : Int32} : (hs E a g).set 0 (a 0, .inr (0, (hf a g).set 14 (.int v))) = hs E a (upd g 306 v) := hs_put (by decide)
  (fun k hk hq => match k, hk, hq with
    | 0, _, hq => by show ¬ (306 = 0 ∨ 306 = 41 ∨ 306 = 296 ∨ 302 ≤ 306); omega
    | 2, _, _ => fun h => h
    | 1, _, hq => by show ¬ (1 ≤ 306 ∧ 306 < 1 + 4); omega
    | 3, _, hq => by show ¬ (5 ≤ 306 ∧ 306 < 5 + 12); omega
    | 4, _, hq => by show ¬ (17 ≤ 306 ∧ 306 < 17 + 12); omega
    | 5, _, hq => by show ¬ (29 ≤ 306 ∧ 306 < 29 + 12); omega
    | 6, _, hq => by show ¬ (292 ≤ 306 ∧ 306 < 292 + 4); omega
    | 7, _, hq => by show ¬ (297 ≤ 306 ∧ 306 < 297 + 5); omega
    | k + 8, hk, _ => absurd hk (by omega))
  (fun r0 j0 hr0 hj0 hq0 => match r0, j0, hr0, hj0, hq0 with
    | r', 0, hr', _, hq => by show ¬ (306 = 42 + r' ∨ 306 = 47 + r' ∨ (262 + 6 * r' ≤ 306 ∧ 306 < 262 + 6 * r' + 6)); omega
    | r', 1, hr', _, hq => by show ¬ (82 + 12 * r' ≤ 306 ∧ 306 < 82 + 12 * r' + 12); omega
    | r', 2, hr', _, hq => by show ¬ (142 + 12 * r' ≤ 306 ∧ 306 < 142 + 12 * r' + 12); omega
    | r', 3, hr', _, hq => by show ¬ (202 + 12 * r' ≤ 306 ∧ 306 < 202 + 12 * r' + 12); omega
    | r', 4, hr', _, hq => by show ¬ (52 + 3 * r' ≤ 306 ∧ 306 < 52 + 3 * r' + 3); omega
    | r', 5, hr', _, hq => by show ¬ (67 + 3 * r' ≤ 306 ∧ 306 < 67 + 3 * r' + 3); omega
    | _, j + 6, _, hj, _ => absurd hj (by omega))
  (by
    rw [hc_lo (by decide)]
    show (.inr (0, (hf a g).set 14 (.int v)) : va_E) = .inr (0, hf a (upd g 306 v))
    unfold hf
    rw [up_n (show 0 ≠ 306 by decide), up_n (show 41 ≠ 306 by decide), up_n (show 296 ≠ 306 by decide), up_n (show 302 ≠ 306 by decide), up_n (show 303 ≠ 306 by decide), up_n (show 304 ≠ 306 by decide), up_n (show 305 ≠ 306 by decide), up_s, up_n (show 307 ≠ 306 by decide), up_n (show 308 ≠ 306 by decide)]
    rfl)
theorem hs_f15 {E : EE} {a : Nat → Nat} {g : Nat → Int32} {v : Int32} : (hs E a g).set 0 (a 0, .inr (0, (hf a g).set 15 (.int v))) = hs E a (upd g 307 v) := hs_put (by decide)
  (fun k hk hq => match k, hk, hq with
    | 0, _, hq => by show ¬ (307 = 0 ∨ 307 = 41 ∨ 307 = 296 ∨ 302 ≤ 307); omega
    | 2, _, _ => fun h => h
    | 1, _, hq => by show ¬ (1 ≤ 307 ∧ 307 < 1 + 4); omega
    | 3, _, hq => by show ¬ (5 ≤ 307 ∧ 307 < 5 + 12); omega
    | 4, _, hq => by show ¬ (17 ≤ 307 ∧ 307 < 17 + 12); omega
    | 5, _, hq => by show ¬ (29 ≤ 307 ∧ 307 < 29 + 12); omega
    | 6, _, hq => by show ¬ (292 ≤ 307 ∧ 307 < 292 + 4); omega
    | 7, _, hq => by show ¬ (297 ≤ 307 ∧ 307 < 297 + 5); omega
    | k + 8, hk, _ => absurd hk (by omega))
  (fun r0 j0 hr0 hj0 hq0 => match r0, j0, hr0, hj0, hq0 with
    | r', 0, hr', _, hq => by show ¬ (307 = 42 + r' ∨ 307 = 47 + r' ∨ (262 + 6 * r' ≤ 307 ∧ 307 < 262 + 6 * r' + 6)); omega
    | r', 1, hr', _, hq => by show ¬ (82 + 12 * r' ≤ 307 ∧ 307 < 82 + 12 * r' + 12); omega
    | r', 2, hr', _, hq => by show ¬ (142 + 12 * r' ≤ 307 ∧ 307 < 142 + 12 * r' + 12); omega
    | r', 3, hr', _, hq => by show ¬ (202 + 12 * r' ≤ 307 ∧ 307 < 202 + 12 * r' + 12); omega
    | r', 4, hr', _, hq => by show ¬ (52 + 3 * r' ≤ 307 ∧ 307 < 52 + 3 * r' + 3); omega
    | r', 5, hr', _, hq => by show ¬ (67 + 3 * r' ≤ 307 ∧ 307 < 67 + 3 * r' + 3); omega
    | _, j + 6, _, hj, _ => absurd hj (by omega))
  (by
    rw [hc_lo (by decide)]
    show (.inr (0, (hf a g).set 15 (.int v)) : va_E) = .inr (0, hf a (upd g 307 v))
    unfold hf
    rw [up_n (show 0 ≠ 307 by decide), up_n (show 41 ≠ 307 by decide), up_n (show 296 ≠ 307 by decide), up_n (show 302 ≠ 307 by decide), up_n (show 303 ≠ 307 by decide), up_n (show 304 ≠ 307 by decide), up_n (show 305 ≠ 307 by decide), up_n (show 306 ≠ 307 by decide), up_s, up_n (show 308 ≠ 307 by decide)]
    rfl)
theorem hs_f16 {E : EE} {a : Nat → Nat} {g : Nat → Int32} {v : Int32} : (hs E a g).set 0 (a 0, .inr (0, (hf a g).set 16 (.int v))) = hs E a (upd g 308 v) := hs_put (by decide)
  (fun k hk hq => match k, hk, hq with
    | 0, _, hq => by show ¬ (308 = 0 ∨ 308 = 41 ∨ 308 = 296 ∨ 302 ≤ 308); omega
    | 2, _, _ => fun h => h
    | 1, _, hq => by show ¬ (1 ≤ 308 ∧ 308 < 1 + 4); omega
    | 3, _, hq => by show ¬ (5 ≤ 308 ∧ 308 < 5 + 12); omega
    | 4, _, hq => by show ¬ (17 ≤ 308 ∧ 308 < 17 + 12); omega
    | 5, _, hq => by show ¬ (29 ≤ 308 ∧ 308 < 29 + 12); omega
    | 6, _, hq => by show ¬ (292 ≤ 308 ∧ 308 < 292 + 4); omega
    | 7, _, hq => by show ¬ (297 ≤ 308 ∧ 308 < 297 + 5); omega
    | k + 8, hk, _ => absurd hk (by omega))
  (fun r0 j0 hr0 hj0 hq0 => match r0, j0, hr0, hj0, hq0 with
    | r', 0, hr', _, hq => by show ¬ (308 = 42 + r' ∨ 308 = 47 + r' ∨ (262 + 6 * r' ≤ 308 ∧ 308 < 262 + 6 * r' + 6)); omega
    | r', 1, hr', _, hq => by show ¬ (82 + 12 * r' ≤ 308 ∧ 308 < 82 + 12 * r' + 12); omega
    | r', 2, hr', _, hq => by show ¬ (142 + 12 * r' ≤ 308 ∧ 308 < 142 + 12 * r' + 12); omega
    | r', 3, hr', _, hq => by show ¬ (202 + 12 * r' ≤ 308 ∧ 308 < 202 + 12 * r' + 12); omega
    | r', 4, hr', _, hq => by show ¬ (52 + 3 * r' ≤ 308 ∧ 308 < 52 + 3 * r' + 3); omega
    | r', 5, hr', _, hq => by show ¬ (67 + 3 * r' ≤ 308 ∧ 308 < 67 + 3 * r' + 3); omega
    | _, j + 6, _, hj, _ => absurd hj (by omega))
  (by
    rw [hc_lo (by decide)]
    show (.inr (0, (hf a g).set 16 (.int v)) : va_E) = .inr (0, hf a (upd g 308 v))
    unfold hf
    rw [up_n (show 0 ≠ 308 by decide), up_n (show 41 ≠ 308 by decide), up_n (show 296 ≠ 308 by decide), up_n (show 302 ≠ 308 by decide), up_n (show 303 ≠ 308 by decide), up_n (show 304 ≠ 308 by decide), up_n (show 305 ≠ 308 by decide), up_n (show 306 ≠ 308 by decide), up_n (show 307 ≠ 308 by decide), up_s]
    rfl)
theorem hs_r0 {E : EE} {a : Nat → Nat} {g : Nat → Int32} {r : Nat} {v : Int32} (hr : r < 5) : (hs E a g).set (8 + 6 * r) (a (8 + 6 * r), .inr (1, (rf a g r).set 0 (.int v))) = hs E a (upd g (42 + r) v) := hs_put (by omega)
  (fun k hk hq => match k, hk, hq with
    | 0, _, hq => by show ¬ (42 + r = 0 ∨ 42 + r = 41 ∨ 42 + r = 296 ∨ 302 ≤ 42 + r); omega
    | 2, _, _ => fun h => h
    | 1, _, hq => by show ¬ (1 ≤ 42 + r ∧ 42 + r < 1 + 4); omega
    | 3, _, hq => by show ¬ (5 ≤ 42 + r ∧ 42 + r < 5 + 12); omega
    | 4, _, hq => by show ¬ (17 ≤ 42 + r ∧ 42 + r < 17 + 12); omega
    | 5, _, hq => by show ¬ (29 ≤ 42 + r ∧ 42 + r < 29 + 12); omega
    | 6, _, hq => by show ¬ (292 ≤ 42 + r ∧ 42 + r < 292 + 4); omega
    | 7, _, hq => by show ¬ (297 ≤ 42 + r ∧ 42 + r < 297 + 5); omega
    | k + 8, hk, _ => absurd hk (by omega))
  (fun r0 j0 hr0 hj0 hq0 => match r0, j0, hr0, hj0, hq0 with
    | r', 0, hr', _, hq => by show ¬ (42 + r = 42 + r' ∨ 42 + r = 47 + r' ∨ (262 + 6 * r' ≤ 42 + r ∧ 42 + r < 262 + 6 * r' + 6)); omega
    | r', 1, hr', _, hq => by show ¬ (82 + 12 * r' ≤ 42 + r ∧ 42 + r < 82 + 12 * r' + 12); omega
    | r', 2, hr', _, hq => by show ¬ (142 + 12 * r' ≤ 42 + r ∧ 42 + r < 142 + 12 * r' + 12); omega
    | r', 3, hr', _, hq => by show ¬ (202 + 12 * r' ≤ 42 + r ∧ 42 + r < 202 + 12 * r' + 12); omega
    | r', 4, hr', _, hq => by show ¬ (52 + 3 * r' ≤ 42 + r ∧ 42 + r < 52 + 3 * r' + 3); omega
    | r', 5, hr', _, hq => by show ¬ (67 + 3 * r' ≤ 42 + r ∧ 42 + r < 67 + 3 * r' + 3); omega
    | _, j + 6, _, hj, _ => absurd hj (by omega))
  (by
    rw [show hc E a (upd g (42 + r) v) (8 + 6 * r) = hc1 E a (upd g (42 + r) v) r 0 from hc_hi (j := 0) (by decide)]
    show (.inr (1, (rf a g r).set 0 (.int v)) : va_E) = .inr (1, rf a (upd g (42 + r) v) r)
    unfold rf
    rw [up_s, up_n (show 47 + r ≠ 42 + r by omega), up_n (show 262 + 6 * r + 0 ≠ 42 + r by omega), up_n (show 262 + 6 * r + 1 ≠ 42 + r by omega), up_n (show 262 + 6 * r + 2 ≠ 42 + r by omega), up_n (show 262 + 6 * r + 3 ≠ 42 + r by omega), up_n (show 262 + 6 * r + 4 ≠ 42 + r by omega), up_n (show 262 + 6 * r + 5 ≠ 42 + r by omega)]
    rfl)
theorem hs_r1 {E : EE} {a : Nat → Nat} {g : Nat → Int32} {r : Nat} {v : Int32} (hr : r < 5) : (hs E a g).set (8 + 6 * r) (a (8 + 6 * r), .inr (1, (rf a g r).set 1 (.int v))) = hs E a (upd g (47 + r) v) := hs_put (by omega)
  (fun k hk hq => match k, hk, hq with
    | 0, _, hq => by show ¬ (47 + r = 0 ∨ 47 + r = 41 ∨ 47 + r = 296 ∨ 302 ≤ 47 + r); omega
    | 2, _, _ => fun h => h
    | 1, _, hq => by show ¬ (1 ≤ 47 + r ∧ 47 + r < 1 + 4); omega
    | 3, _, hq => by show ¬ (5 ≤ 47 + r ∧ 47 + r < 5 + 12); omega
    | 4, _, hq => by show ¬ (17 ≤ 47 + r ∧ 47 + r < 17 + 12); omega
    | 5, _, hq => by show ¬ (29 ≤ 47 + r ∧ 47 + r < 29 + 12); omega
    | 6, _, hq => by show ¬ (292 ≤ 47 + r ∧ 47 + r < 292 + 4); omega
    | 7, _, hq => by show ¬ (297 ≤ 47 + r ∧ 47 + r < 297 + 5); omega
    | k + 8, hk, _ => absurd hk (by omega))
  (fun r0 j0 hr0 hj0 hq0 => match r0, j0, hr0, hj0, hq0 with
    | r', 0, hr', _, hq => by show ¬ (47 + r = 42 + r' ∨ 47 + r = 47 + r' ∨ (262 + 6 * r' ≤ 47 + r ∧ 47 + r < 262 + 6 * r' + 6)); omega
    | r', 1, hr', _, hq => by show ¬ (82 + 12 * r' ≤ 47 + r ∧ 47 + r < 82 + 12 * r' + 12); omega
    | r', 2, hr', _, hq => by show ¬ (142 + 12 * r' ≤ 47 + r ∧ 47 + r < 142 + 12 * r' + 12); omega
    | r', 3, hr', _, hq => by show ¬ (202 + 12 * r' ≤ 47 + r ∧ 47 + r < 202 + 12 * r' + 12); omega
    | r', 4, hr', _, hq => by show ¬ (52 + 3 * r' ≤ 47 + r ∧ 47 + r < 52 + 3 * r' + 3); omega
    | r', 5, hr', _, hq => by show ¬ (67 + 3 * r' ≤ 47 + r ∧ 47 + r < 67 + 3 * r' + 3); omega
    | _, j + 6, _, hj, _ => absurd hj (by omega))
  (by
    rw [show hc E a (upd g (47 + r) v) (8 + 6 * r) = hc1 E a (upd g (47 + r) v) r 0 from hc_hi (j := 0) (by decide)]
    show (.inr (1, (rf a g r).set 1 (.int v)) : va_E) = .inr (1, rf a (upd g (47 + r) v) r)
    unfold rf
    rw [up_n (show 42 + r ≠ 47 + r by omega), up_s, up_n (show 262 + 6 * r + 0 ≠ 47 + r by omega), up_n (show 262 + 6 * r + 1 ≠ 47 + r by omega), up_n (show 262 + 6 * r + 2 ≠ 47 + r by omega), up_n (show 262 + 6 * r + 3 ≠ 47 + r by omega), up_n (show 262 + 6 * r + 4 ≠ 47 + r by omega), up_n (show 262 + 6 * r + 5 ≠ 47 + r by omega)]
    rfl)
theorem hs_r7 {E : EE} {a : Nat → Nat} {g : Nat → Int32} {r : Nat} {v : Int32} (hr : r < 5) : (hs E a g).set (8 + 6 * r) (a (8 + 6 * r), .inr (1, (rf a g r).set 7 (.int v))) = hs E a (upd g (262 + 6 * r + 0) v) := hs_put (by omega)
  (fun k hk hq => match k, hk, hq with
    | 0, _, hq => by show ¬ (262 + 6 * r + 0 = 0 ∨ 262 + 6 * r + 0 = 41 ∨ 262 + 6 * r + 0 = 296 ∨ 302 ≤ 262 + 6 * r + 0); omega
    | 2, _, _ => fun h => h
    | 1, _, hq => by show ¬ (1 ≤ 262 + 6 * r + 0 ∧ 262 + 6 * r + 0 < 1 + 4); omega
    | 3, _, hq => by show ¬ (5 ≤ 262 + 6 * r + 0 ∧ 262 + 6 * r + 0 < 5 + 12); omega
    | 4, _, hq => by show ¬ (17 ≤ 262 + 6 * r + 0 ∧ 262 + 6 * r + 0 < 17 + 12); omega
    | 5, _, hq => by show ¬ (29 ≤ 262 + 6 * r + 0 ∧ 262 + 6 * r + 0 < 29 + 12); omega
    | 6, _, hq => by show ¬ (292 ≤ 262 + 6 * r + 0 ∧ 262 + 6 * r + 0 < 292 + 4); omega
    | 7, _, hq => by show ¬ (297 ≤ 262 + 6 * r + 0 ∧ 262 + 6 * r + 0 < 297 + 5); omega
    | k + 8, hk, _ => absurd hk (by omega))
  (fun r0 j0 hr0 hj0 hq0 => match r0, j0, hr0, hj0, hq0 with
    | r', 0, hr', _, hq => by show ¬ (262 + 6 * r + 0 = 42 + r' ∨ 262 + 6 * r + 0 = 47 + r' ∨ (262 + 6 * r' ≤ 262 + 6 * r + 0 ∧ 262 + 6 * r + 0 < 262 + 6 * r' + 6)); omega
    | r', 1, hr', _, hq => by show ¬ (82 + 12 * r' ≤ 262 + 6 * r + 0 ∧ 262 + 6 * r + 0 < 82 + 12 * r' + 12); omega
    | r', 2, hr', _, hq => by show ¬ (142 + 12 * r' ≤ 262 + 6 * r + 0 ∧ 262 + 6 * r + 0 < 142 + 12 * r' + 12); omega
    | r', 3, hr', _, hq => by show ¬ (202 + 12 * r' ≤ 262 + 6 * r + 0 ∧ 262 + 6 * r + 0 < 202 + 12 * r' + 12); omega
    | r', 4, hr', _, hq => by show ¬ (52 + 3 * r' ≤ 262 + 6 * r + 0 ∧ 262 + 6 * r + 0 < 52 + 3 * r' + 3); omega
    | r', 5, hr', _, hq => by show ¬ (67 + 3 * r' ≤ 262 + 6 * r + 0 ∧ 262 + 6 * r + 0 < 67 + 3 * r' + 3); omega
    | _, j + 6, _, hj, _ => absurd hj (by omega))
  (by
    rw [show hc E a (upd g (262 + 6 * r + 0) v) (8 + 6 * r) = hc1 E a (upd g (262 + 6 * r + 0) v) r 0 from hc_hi (j := 0) (by decide)]
    show (.inr (1, (rf a g r).set 7 (.int v)) : va_E) = .inr (1, rf a (upd g (262 + 6 * r + 0) v) r)
    unfold rf
    rw [up_n (show 42 + r ≠ 262 + 6 * r + 0 by omega), up_n (show 47 + r ≠ 262 + 6 * r + 0 by omega), up_s, up_n (show 262 + 6 * r + 1 ≠ 262 + 6 * r + 0 by omega), up_n (show 262 + 6 * r + 2 ≠ 262 + 6 * r + 0 by omega), up_n (show 262 + 6 * r + 3 ≠ 262 + 6 * r + 0 by omega), up_n (show 262 + 6 * r + 4 ≠ 262 + 6 * r + 0 by omega), up_n (show 262 + 6 * r + 5 ≠ 262 + 6 * r + 0 by omega)]
    rfl)
theorem hs_r8 {E : EE} {a : Nat → Nat} {g : Nat → Int32} {r : Nat} {v : Int32} (hr : r < 5) : (hs E a g).set (8 + 6 * r) (a (8 + 6 * r), .inr (1, (rf a g r).set 8 (.int v))) = hs E a (upd g (262 + 6 * r + 1) v) := hs_put (by omega)
  (fun k hk hq => match k, hk, hq with
    | 0, _, hq => by show ¬ (262 + 6 * r + 1 = 0 ∨ 262 + 6 * r + 1 = 41 ∨ 262 + 6 * r + 1 = 296 ∨ 302 ≤ 262 + 6 * r + 1); omega
    | 2, _, _ => fun h => h
    | 1, _, hq => by show ¬ (1 ≤ 262 + 6 * r + 1 ∧ 262 + 6 * r + 1 < 1 + 4); omega
    | 3, _, hq => by show ¬ (5 ≤ 262 + 6 * r + 1 ∧ 262 + 6 * r + 1 < 5 + 12); omega
    | 4, _, hq => by show ¬ (17 ≤ 262 + 6 * r + 1 ∧ 262 + 6 * r + 1 < 17 + 12); omega
    | 5, _, hq => by show ¬ (29 ≤ 262 + 6 * r + 1 ∧ 262 + 6 * r + 1 < 29 + 12); omega
    | 6, _, hq => by show ¬ (292 ≤ 262 + 6 * r + 1 ∧ 262 + 6 * r + 1 < 292 + 4); omega
    | 7, _, hq => by show ¬ (297 ≤ 262 + 6 * r + 1 ∧ 262 + 6 * r + 1 < 297 + 5); omega
    | k + 8, hk, _ => absurd hk (by omega))
  (fun r0 j0 hr0 hj0 hq0 => match r0, j0, hr0, hj0, hq0 with
    | r', 0, hr', _, hq => by show ¬ (262 + 6 * r + 1 = 42 + r' ∨ 262 + 6 * r + 1 = 47 + r' ∨ (262 + 6 * r' ≤ 262 + 6 * r + 1 ∧ 262 + 6 * r + 1 < 262 + 6 * r' + 6)); omega
    | r', 1, hr', _, hq => by show ¬ (82 + 12 * r' ≤ 262 + 6 * r + 1 ∧ 262 + 6 * r + 1 < 82 + 12 * r' + 12); omega
    | r', 2, hr', _, hq => by show ¬ (142 + 12 * r' ≤ 262 + 6 * r + 1 ∧ 262 + 6 * r + 1 < 142 + 12 * r' + 12); omega
    | r', 3, hr', _, hq => by show ¬ (202 + 12 * r' ≤ 262 + 6 * r + 1 ∧ 262 + 6 * r + 1 < 202 + 12 * r' + 12); omega
    | r', 4, hr', _, hq => by show ¬ (52 + 3 * r' ≤ 262 + 6 * r + 1 ∧ 262 + 6 * r + 1 < 52 + 3 * r' + 3); omega
    | r', 5, hr', _, hq => by show ¬ (67 + 3 * r' ≤ 262 + 6 * r + 1 ∧ 262 + 6 * r + 1 < 67 + 3 * r' + 3); omega
    | _, j + 6, _, hj, _ => absurd hj (by omega))
  (by
    rw [show hc E a (upd g (262 + 6 * r + 1) v) (8 + 6 * r) = hc1 E a (upd g (262 + 6 * r + 1) v) r 0 from hc_hi (j := 0) (by decide)]
    show (.inr (1, (rf a g r).set 8 (.int v)) : va_E) = .inr (1, rf a (upd g (262 + 6 * r + 1) v) r)
    unfold rf
    rw [up_n (show 42 + r ≠ 262 + 6 * r + 1 by omega), up_n (show 47 + r ≠ 262 + 6 * r + 1 by omega), up_n (show 262 + 6 * r + 0 ≠ 262 + 6 * r + 1 by omega), up_s, up_n (show 262 + 6 * r + 2 ≠ 262 + 6 * r + 1 by omega), up_n (show 262 + 6 * r + 3 ≠ 262 + 6 * r + 1 by omega), up_n (show 262 + 6 * r + 4 ≠ 262 + 6 * r + 1 by omega), up_n (show 262 + 6 * r + 5 ≠ 262 + 6 * r + 1 by omega)]
    rfl)
theorem hs_r9 {E : EE} {a : Nat → Nat} {g : Nat → Int32} {r : Nat} {v : Int32} (hr : r < 5) : (hs E a g).set (8 + 6 * r) (a (8 + 6 * r), .inr (1, (rf a g r).set 9 (.int v))) = hs E a (upd g (262 + 6 * r + 2) v) := hs_put (by omega)
  (fun k hk hq => match k, hk, hq with
    | 0, _, hq => by show ¬ (262 + 6 * r + 2 = 0 ∨ 262 + 6 * r + 2 = 41 ∨ 262 + 6 * r + 2 = 296 ∨ 302 ≤ 262 + 6 * r + 2); omega
    | 2, _, _ => fun h => h
    | 1, _, hq => by show ¬ (1 ≤ 262 + 6 * r + 2 ∧ 262 + 6 * r + 2 < 1 + 4); omega
    | 3, _, hq => by show ¬ (5 ≤ 262 + 6 * r + 2 ∧ 262 + 6 * r + 2 < 5 + 12); omega
    | 4, _, hq => by show ¬ (17 ≤ 262 + 6 * r + 2 ∧ 262 + 6 * r + 2 < 17 + 12); omega
    | 5, _, hq => by show ¬ (29 ≤ 262 + 6 * r + 2 ∧ 262 + 6 * r + 2 < 29 + 12); omega
    | 6, _, hq => by show ¬ (292 ≤ 262 + 6 * r + 2 ∧ 262 + 6 * r + 2 < 292 + 4); omega
    | 7, _, hq => by show ¬ (297 ≤ 262 + 6 * r + 2 ∧ 262 + 6 * r + 2 < 297 + 5); omega
    | k + 8, hk, _ => absurd hk (by omega))
  (fun r0 j0 hr0 hj0 hq0 => match r0, j0, hr0, hj0, hq0 with
    | r', 0, hr', _, hq => by show ¬ (262 + 6 * r + 2 = 42 + r' ∨ 262 + 6 * r + 2 = 47 + r' ∨ (262 + 6 * r' ≤ 262 + 6 * r + 2 ∧ 262 + 6 * r + 2 < 262 + 6 * r' + 6)); omega
    | r', 1, hr', _, hq => by show ¬ (82 + 12 * r' ≤ 262 + 6 * r + 2 ∧ 262 + 6 * r + 2 < 82 + 12 * r' + 12); omega
    | r', 2, hr', _, hq => by show ¬ (142 + 12 * r' ≤ 262 + 6 * r + 2 ∧ 262 + 6 * r + 2 < 142 + 12 * r' + 12); omega
    | r', 3, hr', _, hq => by show ¬ (202 + 12 * r' ≤ 262 + 6 * r + 2 ∧ 262 + 6 * r + 2 < 202 + 12 * r' + 12); omega
    | r', 4, hr', _, hq => by show ¬ (52 + 3 * r' ≤ 262 + 6 * r + 2 ∧ 262 + 6 * r + 2 < 52 + 3 * r' + 3); omega
    | r', 5, hr', _, hq => by show ¬ (67 + 3 * r' ≤ 262 + 6 * r + 2 ∧ 262 + 6 * r + 2 < 67 + 3 * r' + 3); omega
    | _, j + 6, _, hj, _ => absurd hj (by omega))
  (by
    rw [show hc E a (upd g (262 + 6 * r + 2) v) (8 + 6 * r) = hc1 E a (upd g (262 + 6 * r + 2) v) r 0 from hc_hi (j := 0) (by decide)]
    show (.inr (1, (rf a g r).set 9 (.int v)) : va_E) = .inr (1, rf a (upd g (262 + 6 * r + 2) v) r)
    unfold rf
    rw [up_n (show 42 + r ≠ 262 + 6 * r + 2 by omega), up_n (show 47 + r ≠ 262 + 6 * r + 2 by omega), up_n (show 262 + 6 * r + 0 ≠ 262 + 6 * r + 2 by omega), up_n (show 262 + 6 * r + 1 ≠ 262 + 6 * r + 2 by omega), up_s, up_n (show 262 + 6 * r + 3 ≠ 262 + 6 * r + 2 by omega), up_n (show 262 + 6 * r + 4 ≠ 262 + 6 * r + 2 by omega), up_n (show 262 + 6 * r + 5 ≠ 262 + 6 * r + 2 by omega)]
    rfl)
theorem hs_r10 {E : EE} {a : Nat → Nat} {g : Nat → Int32} {r : Nat} {v : Int32} (hr : r < 5) : (hs E a g).set (8 + 6 * r) (a (8 + 6 * r), .inr (1, (rf a g r).set 10 (.int v))) = hs E a (upd g (262 + 6 * r + 3) v) := hs_put (by omega)
  (fun k hk hq => match k, hk, hq with
    | 0, _, hq => by show ¬ (262 + 6 * r + 3 = 0 ∨ 262 + 6 * r + 3 = 41 ∨ 262 + 6 * r + 3 = 296 ∨ 302 ≤ 262 + 6 * r + 3); omega
    | 2, _, _ => fun h => h
    | 1, _, hq => by show ¬ (1 ≤ 262 + 6 * r + 3 ∧ 262 + 6 * r + 3 < 1 + 4); omega
    | 3, _, hq => by show ¬ (5 ≤ 262 + 6 * r + 3 ∧ 262 + 6 * r + 3 < 5 + 12); omega
    | 4, _, hq => by show ¬ (17 ≤ 262 + 6 * r + 3 ∧ 262 + 6 * r + 3 < 17 + 12); omega
    | 5, _, hq => by show ¬ (29 ≤ 262 + 6 * r + 3 ∧ 262 + 6 * r + 3 < 29 + 12); omega
    | 6, _, hq => by show ¬ (292 ≤ 262 + 6 * r + 3 ∧ 262 + 6 * r + 3 < 292 + 4); omega
    | 7, _, hq => by show ¬ (297 ≤ 262 + 6 * r + 3 ∧ 262 + 6 * r + 3 < 297 + 5); omega
    | k + 8, hk, _ => absurd hk (by omega))
  (fun r0 j0 hr0 hj0 hq0 => match r0, j0, hr0, hj0, hq0 with
    | r', 0, hr', _, hq => by show ¬ (262 + 6 * r + 3 = 42 + r' ∨ 262 + 6 * r + 3 = 47 + r' ∨ (262 + 6 * r' ≤ 262 + 6 * r + 3 ∧ 262 + 6 * r + 3 < 262 + 6 * r' + 6)); omega
    | r', 1, hr', _, hq => by show ¬ (82 + 12 * r' ≤ 262 + 6 * r + 3 ∧ 262 + 6 * r + 3 < 82 + 12 * r' + 12); omega
    | r', 2, hr', _, hq => by show ¬ (142 + 12 * r' ≤ 262 + 6 * r + 3 ∧ 262 + 6 * r + 3 < 142 + 12 * r' + 12); omega
    | r', 3, hr', _, hq => by show ¬ (202 + 12 * r' ≤ 262 + 6 * r + 3 ∧ 262 + 6 * r + 3 < 202 + 12 * r' + 12); omega
    | r', 4, hr', _, hq => by show ¬ (52 + 3 * r' ≤ 262 + 6 * r + 3 ∧ 262 + 6 * r + 3 < 52 + 3 * r' + 3); omega
    | r', 5, hr', _, hq => by show ¬ (67 + 3 * r' ≤ 262 + 6 * r + 3 ∧ 262 + 6 * r + 3 < 67 + 3 * r' + 3); omega
    | _, j + 6, _, hj, _ => absurd hj (by omega))
  (by
    rw [show hc E a (upd g (262 + 6 * r + 3) v) (8 + 6 * r) = hc1 E a (upd g (262 + 6 * r + 3) v) r 0 from hc_hi (j := 0) (by decide)]
    show (.inr (1, (rf a g r).set 10 (.int v)) : va_E) = .inr (1, rf a (upd g (262 + 6 * r + 3) v) r)
    unfold rf
    rw [up_n (show 42 + r ≠ 262 + 6 * r + 3 by omega), up_n (show 47 + r ≠ 262 + 6 * r + 3 by omega), up_n (show 262 + 6 * r + 0 ≠ 262 + 6 * r + 3 by omega), up_n (show 262 + 6 * r + 1 ≠ 262 + 6 * r + 3 by omega), up_n (show 262 + 6 * r + 2 ≠ 262 + 6 * r + 3 by omega), up_s, up_n (show 262 + 6 * r + 4 ≠ 262 + 6 * r + 3 by omega), up_n (show 262 + 6 * r + 5 ≠ 262 + 6 * r + 3 by omega)]
    rfl)
theorem hs_r11 {E : EE} {a : Nat → Nat} {g : Nat → Int32} {r : Nat} {v : Int32} (hr : r < 5) : (hs E a g).set (8 + 6 * r) (a (8 + 6 * r), .inr (1, (rf a g r).set 11 (.int v))) = hs E a (upd g (262 + 6 * r + 4) v) := hs_put (by omega)
  (fun k hk hq => match k, hk, hq with
    | 0, _, hq => by show ¬ (262 + 6 * r + 4 = 0 ∨ 262 + 6 * r + 4 = 41 ∨ 262 + 6 * r + 4 = 296 ∨ 302 ≤ 262 + 6 * r + 4); omega
    | 2, _, _ => fun h => h
    | 1, _, hq => by show ¬ (1 ≤ 262 + 6 * r + 4 ∧ 262 + 6 * r + 4 < 1 + 4); omega
    | 3, _, hq => by show ¬ (5 ≤ 262 + 6 * r + 4 ∧ 262 + 6 * r + 4 < 5 + 12); omega
    | 4, _, hq => by show ¬ (17 ≤ 262 + 6 * r + 4 ∧ 262 + 6 * r + 4 < 17 + 12); omega
    | 5, _, hq => by show ¬ (29 ≤ 262 + 6 * r + 4 ∧ 262 + 6 * r + 4 < 29 + 12); omega
    | 6, _, hq => by show ¬ (292 ≤ 262 + 6 * r + 4 ∧ 262 + 6 * r + 4 < 292 + 4); omega
    | 7, _, hq => by show ¬ (297 ≤ 262 + 6 * r + 4 ∧ 262 + 6 * r + 4 < 297 + 5); omega
    | k + 8, hk, _ => absurd hk (by omega))
  (fun r0 j0 hr0 hj0 hq0 => match r0, j0, hr0, hj0, hq0 with
    | r', 0, hr', _, hq => by show ¬ (262 + 6 * r + 4 = 42 + r' ∨ 262 + 6 * r + 4 = 47 + r' ∨ (262 + 6 * r' ≤ 262 + 6 * r + 4 ∧ 262 + 6 * r + 4 < 262 + 6 * r' + 6)); omega
    | r', 1, hr', _, hq => by show ¬ (82 + 12 * r' ≤ 262 + 6 * r + 4 ∧ 262 + 6 * r + 4 < 82 + 12 * r' + 12); omega
    | r', 2, hr', _, hq => by show ¬ (142 + 12 * r' ≤ 262 + 6 * r + 4 ∧ 262 + 6 * r + 4 < 142 + 12 * r' + 12); omega
    | r', 3, hr', _, hq => by show ¬ (202 + 12 * r' ≤ 262 + 6 * r + 4 ∧ 262 + 6 * r + 4 < 202 + 12 * r' + 12); omega
    | r', 4, hr', _, hq => by show ¬ (52 + 3 * r' ≤ 262 + 6 * r + 4 ∧ 262 + 6 * r + 4 < 52 + 3 * r' + 3); omega
    | r', 5, hr', _, hq => by show ¬ (67 + 3 * r' ≤ 262 + 6 * r + 4 ∧ 262 + 6 * r + 4 < 67 + 3 * r' + 3); omega
    | _, j + 6, _, hj, _ => absurd hj (by omega))
  (by
    rw [show hc E a (upd g (262 + 6 * r + 4) v) (8 + 6 * r) = hc1 E a (upd g (262 + 6 * r + 4) v) r 0 from hc_hi (j := 0) (by decide)]
    show (.inr (1, (rf a g r).set 11 (.int v)) : va_E) = .inr (1, rf a (upd g (262 + 6 * r + 4) v) r)
    unfold rf
    rw [up_n (show 42 + r ≠ 262 + 6 * r + 4 by omega), up_n (show 47 + r ≠ 262 + 6 * r + 4 by omega), up_n (show 262 + 6 * r + 0 ≠ 262 + 6 * r + 4 by omega), up_n (show 262 + 6 * r + 1 ≠ 262 + 6 * r + 4 by omega), up_n (show 262 + 6 * r + 2 ≠ 262 + 6 * r + 4 by omega), up_n (show 262 + 6 * r + 3 ≠ 262 + 6 * r + 4 by omega), up_s, up_n (show 262 + 6 * r + 5 ≠ 262 + 6 * r + 4 by omega)]
    rfl)
theorem hs_r12 {E : EE} {a : Nat → Nat} {g : Nat → Int32} {r : Nat} {v : Int32} (hr : r < 5) : (hs E a g).set (8 + 6 * r) (a (8 + 6 * r), .inr (1, (rf a g r).set 12 (.int v))) = hs E a (upd g (262 + 6 * r + 5) v) := hs_put (by omega)
  (fun k hk hq => match k, hk, hq with
    | 0, _, hq => by show ¬ (262 + 6 * r + 5 = 0 ∨ 262 + 6 * r + 5 = 41 ∨ 262 + 6 * r + 5 = 296 ∨ 302 ≤ 262 + 6 * r + 5); omega
    | 2, _, _ => fun h => h
    | 1, _, hq => by show ¬ (1 ≤ 262 + 6 * r + 5 ∧ 262 + 6 * r + 5 < 1 + 4); omega
    | 3, _, hq => by show ¬ (5 ≤ 262 + 6 * r + 5 ∧ 262 + 6 * r + 5 < 5 + 12); omega
    | 4, _, hq => by show ¬ (17 ≤ 262 + 6 * r + 5 ∧ 262 + 6 * r + 5 < 17 + 12); omega
    | 5, _, hq => by show ¬ (29 ≤ 262 + 6 * r + 5 ∧ 262 + 6 * r + 5 < 29 + 12); omega
    | 6, _, hq => by show ¬ (292 ≤ 262 + 6 * r + 5 ∧ 262 + 6 * r + 5 < 292 + 4); omega
    | 7, _, hq => by show ¬ (297 ≤ 262 + 6 * r + 5 ∧ 262 + 6 * r + 5 < 297 + 5); omega
    | k + 8, hk, _ => absurd hk (by omega))
  (fun r0 j0 hr0 hj0 hq0 => match r0, j0, hr0, hj0, hq0 with
    | r', 0, hr', _, hq => by show ¬ (262 + 6 * r + 5 = 42 + r' ∨ 262 + 6 * r + 5 = 47 + r' ∨ (262 + 6 * r' ≤ 262 + 6 * r + 5 ∧ 262 + 6 * r + 5 < 262 + 6 * r' + 6)); omega
    | r', 1, hr', _, hq => by show ¬ (82 + 12 * r' ≤ 262 + 6 * r + 5 ∧ 262 + 6 * r + 5 < 82 + 12 * r' + 12); omega
    | r', 2, hr', _, hq => by show ¬ (142 + 12 * r' ≤ 262 + 6 * r + 5 ∧ 262 + 6 * r + 5 < 142 + 12 * r' + 12); omega
    | r', 3, hr', _, hq => by show ¬ (202 + 12 * r' ≤ 262 + 6 * r + 5 ∧ 262 + 6 * r + 5 < 202 + 12 * r' + 12); omega
    | r', 4, hr', _, hq => by show ¬ (52 + 3 * r' ≤ 262 + 6 * r + 5 ∧ 262 + 6 * r + 5 < 52 + 3 * r' + 3); omega
    | r', 5, hr', _, hq => by show ¬ (67 + 3 * r' ≤ 262 + 6 * r + 5 ∧ 262 + 6 * r + 5 < 67 + 3 * r' + 3); omega
    | _, j + 6, _, hj, _ => absurd hj (by omega))
  (by
    rw [show hc E a (upd g (262 + 6 * r + 5) v) (8 + 6 * r) = hc1 E a (upd g (262 + 6 * r + 5) v) r 0 from hc_hi (j := 0) (by decide)]
    show (.inr (1, (rf a g r).set 12 (.int v)) : va_E) = .inr (1, rf a (upd g (262 + 6 * r + 5) v) r)
    unfold rf
    rw [up_n (show 42 + r ≠ 262 + 6 * r + 5 by omega), up_n (show 47 + r ≠ 262 + 6 * r + 5 by omega), up_n (show 262 + 6 * r + 0 ≠ 262 + 6 * r + 5 by omega), up_n (show 262 + 6 * r + 1 ≠ 262 + 6 * r + 5 by omega), up_n (show 262 + 6 * r + 2 ≠ 262 + 6 * r + 5 by omega), up_n (show 262 + 6 * r + 3 ≠ 262 + 6 * r + 5 by omega), up_n (show 262 + 6 * r + 4 ≠ 262 + 6 * r + 5 by omega), up_s]
    rfl)
theorem set_l {x x' z : va_W} {q : Nat} {e : Nat × va_E} (hq : q < x.length) (h : x.set q e = x') : (x ++ z).set q e = x' ++ z := by
  rw [List.set_append_left _ _ hq, h]
theorem set_h {E : EE} {a : Nat → Nat} {g : Nat → Int32} {x' z : va_W} {q : Nat} {e : Nat × va_E} (hq : q < 38) (h : (hs E a g).set q e = x') : (hs E a g ++ z).set q e = x' ++ z := set_l (by rw [hs_len]; exact hq) h
/-- the reference's cells: itself, its row, its images, which are kept -/
def ms (E : EE) (a : Nat → Nat) (g im kp : Nat → Int32) : va_W := [(a 0, .inr (3, [.ref (a 1), .ref (a 2), .ref (a 3)])), (a 1, rI E 309 g), (a 2, rI E 618 im), (a 3, .inl (E.2 3, 2, .inl kp))]
theorem Fr.nil {w : va_W} : Fr w [] [] w := ⟨[], w, by simp, by simp⟩
end
section
def f_X3_in (v : Int32) (lo : Int32) (hi : Int32) : Int32 := (if v < lo then 0 else (if hi < v then 0 else 1) : Int32)
theorem nar_X3_in (v : Int32) (lo : Int32) (hi : Int32) : narrow .boolean (.int (f_X3_in v lo hi)) = .int (f_X3_in v lo hi) := by unfold f_X3_in; (repeat' split) <;> rfl
set_option maxHeartbeats 4000000 in
set_option maxRecDepth 100000 in
theorem k_X3_in (l : Launch) (E : EE)  (v : Int32) (lo : Int32) (hi : Int32)  : Ci l E yX3_in wsX3_in { frames := 0, cells := 0, slots := 0, locals := 0 } [.int v, .int lo, .int hi] [] (f_X3_in v lo hi) [] := by
  refine Ci.of (cc := cX3_in) (maxL := 3) (rt := .boolean) (by decide) rfl (nar_X3_in v lo hi) (Nat.le_of_ble_eq_true rfl) ?_
  intro p e s m args below meth c A Q F hE hA hret hP hD ls hl
  obtain ⟨hx, hb, hml, hown, hts⟩ := id F
  have hS : va_S A s.heap s.heap [] := va_S.rf
  have hl : lv_has ls 3 [(0, .int v), (1, .int lo), (2, .int hi)] := hl
  refine lv_iload_n hx hb dX3_in_0 rfl (lv_at hl 0 rfl) ?_
  refine lv_iload_n hx hb dX3_in_1 rfl (lv_at hl 1 rfl) ?_
  have J_15_1 : ∀ (w : Int32) (H : Heap) (locs : List Loc), va_P E.1 vwCl [] H → va_D A [] → va_S A s.heap H locs → w = (if v < lo then 0 else (if hi < v then 0 else 1) : Int32) → W p l e { frames := 0, cells := 0, slots := 0, locals := 0 } s m args below meth c H locs 0 0 Q (F0 m 15 ls [.int w]) := by
    intro w H locs hP hD hS ew
    subst ew
    exact hret _ _ _ _ _ hP hD hS rfl dX3_in_15
  refine lv_icmp_lt (tgt := 14) hx hb dX3_in_2 (by decide) (fun c_2 => ?_) (fun c_2 => ?_)
  · refine lv_iconst (v := 0) hx hb dX3_in_14 (by decide) ?_
    exact J_15_1 _ _ _ hP hD hS (by rw [if_pos c_2])
  · refine lv_iload_n hx hb dX3_in_5 rfl (lv_at hl 0 rfl) ?_
    refine lv_iload_n hx hb dX3_in_6 rfl (lv_at hl 2 rfl) ?_
    refine lv_icmp_gt (tgt := 14) hx hb dX3_in_7 (by decide) (fun c_3 => ?_) (fun c_3 => ?_)
    · refine lv_iconst (v := 0) hx hb dX3_in_14 (by decide) ?_
      exact J_15_1 _ _ _ hP hD hS (by rw [if_neg c_2, if_pos c_3])
    · refine lv_iconst (v := 1) hx hb dX3_in_10 (by decide) ?_
      refine lv_goto (tgt := 15) hx hb dX3_in_11 (by decide) ?_
      exact J_15_1 _ _ _ hP hD hS (by rw [if_neg c_2, if_neg c_3])
set_option maxHeartbeats 4000000 in
set_option maxRecDepth 100000 in
theorem k_X3_isReader (l : Launch) (E : EE)  (x : Int32)  : Ci l E yX3_isReader wsX3_isReader { frames := 1, cells := 0, slots := 0, locals := 22 } [.int x] [] (f_X3_in x 0 4) [] := by
  refine Ci.of (cc := cX3_isReader) (maxL := 1) (rt := .boolean) (by decide) rfl (nar_X3_in _ _ _) (Nat.le_of_ble_eq_true rfl) ?_
  intro p e s m args below meth c A Q F hE hA hret hP hD ls hl
  obtain ⟨hx, hb, hml, hown, hts⟩ := id F
  have hS : va_S A s.heap s.heap [] := va_S.rf
  have hl : lv_has ls 1 [(0, .int x)] := hl
  refine lv_iload_n hx hb dX3_isReader_0 rfl (lv_at hl 0 rfl) ?_
  refine lv_iconst (v := 0) hx hb dX3_isReader_1 (by decide) ?_
  refine lv_iconst (v := 4) hx hb dX3_isReader_2 (by decide) ?_
  refine ci_S F hE (k_X3_in l E x 0 4) (va_cwS 3 hts gX3_isReader_X3_in rfl rfl rfl (by decide +kernel) ⟨Nat.le_of_ble_eq_true rfl, Nat.le_of_ble_eq_true rfl⟩) Fr.nil hP hD hS hA rfl hl.1 rfl (Nat.le_of_ble_eq_true rfl) dX3_isReader_3 ⟨Nat.zero_le _, Nat.zero_le _⟩ (fun H locs hP hD hS => ?_)
  exact hret _ _ _ _ _ hP hD hS rfl dX3_isReader_6
set_option maxHeartbeats 4000000 in
set_option maxRecDepth 100000 in
theorem k_X3_isThing (l : Launch) (E : EE)  (x : Int32)  : Ci l E yX3_isThing wsX3_isThing { frames := 1, cells := 0, slots := 0, locals := 22 } [.int x] [] (f_X3_in x 0 11) [] := by
  refine Ci.of (cc := cX3_isThing) (maxL := 1) (rt := .boolean) (by decide) rfl (nar_X3_in _ _ _) (Nat.le_of_ble_eq_true rfl) ?_
  intro p e s m args below meth c A Q F hE hA hret hP hD ls hl
  obtain ⟨hx, hb, hml, hown, hts⟩ := id F
  have hS : va_S A s.heap s.heap [] := va_S.rf
  have hl : lv_has ls 1 [(0, .int x)] := hl
  refine lv_iload_n hx hb dX3_isThing_0 rfl (lv_at hl 0 rfl) ?_
  refine lv_iconst (v := 0) hx hb dX3_isThing_1 (by decide) ?_
  refine lv_bipush (v := 11) hx hb dX3_isThing_2 (by decide) ?_
  refine ci_S F hE (k_X3_in l E x 0 11) (va_cwS 3 hts gX3_isThing_X3_in rfl rfl rfl (by decide +kernel) ⟨Nat.le_of_ble_eq_true rfl, Nat.le_of_ble_eq_true rfl⟩) Fr.nil hP hD hS hA rfl hl.1 rfl (Nat.le_of_ble_eq_true rfl) dX3_isThing_4 ⟨Nat.zero_le _, Nat.zero_le _⟩ (fun H locs hP hD hS => ?_)
  exact hret _ _ _ _ _ hP hD hS rfl dX3_isThing_7
set_option maxHeartbeats 4000000 in
set_option maxRecDepth 100000 in
theorem k_X3_said (l : Launch) (E : EE)  (r : Nat) (k : Nat)  : Ci l E yX3_said wsX3_said { frames := 0, cells := 0, slots := 0, locals := 0 } [.int (nI r), .int (nI k)] [] (nI (262 + 6 * r + k)) [] := by
  refine Ci.of (cc := cX3_said) (maxL := 2) (rt := .int) (by decide) rfl rfl (Nat.le_of_ble_eq_true rfl) ?_
  intro p e s m args below meth c A Q F hE hA hret hP hD ls hl
  obtain ⟨hx, hb, hml, hown, hts⟩ := id F
  have hS : va_S A s.heap s.heap [] := va_S.rf
  have hl : lv_has ls 2 [(0, .int (nI r)), (1, .int (nI k))] := hl
  refine lv_sipush (v := 262) hx hb dX3_said_0 (by decide) ?_
  refine lv_bipush (v := 6) hx hb dX3_said_3 (by decide) ?_
  refine lv_iload_n hx hb dX3_said_5 rfl (lv_at hl 0 rfl) ?_
  refine lv_imul hx hb dX3_said_6 ?_
  refine tpe (y := nI (6 * r)) (pk_mul 6 r) ?_
  refine lv_iadd hx hb dX3_said_7 ?_
  refine tpe (y := nI (262 + 6 * r)) (nI_add 262 (6 * r)) ?_
  refine lv_iload_n hx hb dX3_said_8 rfl (lv_at hl 1 rfl) ?_
  refine lv_iadd hx hb dX3_said_9 ?_
  refine tpe (y := nI (262 + 6 * r + k)) (nI_add (262 + 6 * r) k) ?_
  exact hret _ _ _ _ _ hP hD hS rfl dX3_said_10
set_option maxHeartbeats 4000000 in
set_option maxRecDepth 100000 in
theorem k_X3_volumeAt (l : Launch) (E : EE)  (o : Nat) (r : Nat) (t : Nat) (ht : t < 2 ^ 31) : Ci l E yX3_volumeAt wsX3_volumeAt { frames := 0, cells := 0, slots := 0, locals := 0 } [.int (nI o), .int (nI r), .int (nI t)] [] (nI (o + 3 * r + t / 4)) [] := by
  refine Ci.of (cc := cX3_volumeAt) (maxL := 3) (rt := .int) (by decide) rfl rfl (Nat.le_of_ble_eq_true rfl) ?_
  intro p e s m args below meth c A Q F hE hA hret hP hD ls hl
  obtain ⟨hx, hb, hml, hown, hts⟩ := id F
  have hS : va_S A s.heap s.heap [] := va_S.rf
  have hl : lv_has ls 3 [(0, .int (nI o)), (1, .int (nI r)), (2, .int (nI t))] := hl
  refine lv_iload_n hx hb dX3_volumeAt_0 rfl (lv_at hl 0 rfl) ?_
  refine lv_iconst (v := 3) hx hb dX3_volumeAt_1 (by decide) ?_
  refine lv_iload_n hx hb dX3_volumeAt_2 rfl (lv_at hl 1 rfl) ?_
  refine lv_imul hx hb dX3_volumeAt_3 ?_
  refine tpe (y := nI (3 * r)) (pk_mul 3 r) ?_
  refine lv_iadd hx hb dX3_volumeAt_4 ?_
  refine tpe (y := nI (o + 3 * r)) (nI_add o (3 * r)) ?_
  refine lv_iload_n hx hb dX3_volumeAt_5 rfl (lv_at hl 2 rfl) ?_
  refine lv_iconst (v := 4) hx hb dX3_volumeAt_6 (by decide) ?_
  refine lv_idiv hx hb dX3_volumeAt_7 (by decide) ?_
  refine tpe (y := nI (t / 4)) (pk_div (d := 4) (by omega) (by decide) (by decide)) ?_
  refine lv_iadd hx hb dX3_volumeAt_8 ?_
  refine tpe (y := nI (o + 3 * r + t / 4)) (nI_add (o + 3 * r) (t / 4)) ?_
  exact hret _ _ _ _ _ hP hD hS rfl dX3_volumeAt_9
set_option maxHeartbeats 4000000 in
set_option maxRecDepth 100000 in
theorem k_X3_thingAt (l : Launch) (E : EE)  (o : Nat) (r : Nat) (t : Nat)  : Ci l E yX3_thingAt wsX3_thingAt { frames := 0, cells := 0, slots := 0, locals := 0 } [.int (nI o), .int (nI r), .int (nI t)] [] (nI (o + 12 * r + t)) [] := by
  refine Ci.of (cc := cX3_thingAt) (maxL := 3) (rt := .int) (by decide) rfl rfl (Nat.le_of_ble_eq_true rfl) ?_
  intro p e s m args below meth c A Q F hE hA hret hP hD ls hl
  obtain ⟨hx, hb, hml, hown, hts⟩ := id F
  have hS : va_S A s.heap s.heap [] := va_S.rf
  have hl : lv_has ls 3 [(0, .int (nI o)), (1, .int (nI r)), (2, .int (nI t))] := hl
  refine lv_iload_n hx hb dX3_thingAt_0 rfl (lv_at hl 0 rfl) ?_
  refine lv_bipush (v := 12) hx hb dX3_thingAt_1 (by decide) ?_
  refine lv_iload_n hx hb dX3_thingAt_3 rfl (lv_at hl 1 rfl) ?_
  refine lv_imul hx hb dX3_thingAt_4 ?_
  refine tpe (y := nI (12 * r)) (pk_mul 12 r) ?_
  refine lv_iadd hx hb dX3_thingAt_5 ?_
  refine tpe (y := nI (o + 12 * r)) (nI_add o (12 * r)) ?_
  refine lv_iload_n hx hb dX3_thingAt_6 rfl (lv_at hl 2 rfl) ?_
  refine lv_iadd hx hb dX3_thingAt_7 ?_
  refine tpe (y := nI (o + 12 * r + t)) (nI_add (o + 12 * r) t) ?_
  exact hret _ _ _ _ _ hP hD hS rfl dX3_thingAt_8
def f_X3_isOver (g : Nat → Int32) (r : Nat) (x : Int32) : Int32 := (if (((g 0) + (g (47 + r))) + (g 3)) < x then 0 else 1 : Int32)
theorem nar_X3_isOver (g : Nat → Int32) (r : Nat) (x : Int32) : narrow .boolean (.int (f_X3_isOver g r x)) = .int (f_X3_isOver g r x) := by unfold f_X3_isOver; (repeat' split) <;> rfl
set_option maxHeartbeats 4000000 in
set_option maxRecDepth 100000 in
theorem k_X3_isOver (l : Launch) (E : EE) (a : Nat → Nat) (g im kp : Nat → Int32) (r : Nat) (x : Int32) (hr : r < 5) : Ci l E yX3_isOver wsX3_isOver { frames := 0, cells := 0, slots := 0, locals := 0 } [.ref (a 0), .int (nI r), .int x] (ms E a g im kp) (f_X3_isOver g r x) (ms E a g im kp) := by
  refine Ci.of (cc := cX3_isOver) (maxL := 3) (rt := .boolean) (by decide) rfl (nar_X3_isOver g r x) (Nat.le_of_ble_eq_true rfl) ?_
  intro p e s m args below meth c A Q F hE hA hret hP hD ls hl
  obtain ⟨hx, hb, hml, hown, hts⟩ := id F
  have hS : va_S A s.heap s.heap [] := va_S.rf
  have hl : lv_has ls 3 [(0, .ref (a 0)), (1, .int (nI r)), (2, .int x)] := hl
  have in3 : ∀ w ∈ wsX30, w ∈ wsX3_isOver := fun w h => List.mem_cons_of_mem _ (List.mem_append_right _ h)
  have K7 := hts (.fieldLink RX3 7 "PromiseHoursModel" "state" "[I") (by decide +kernel)
  refine lv_aload_n hx hb dX3_isOver_0 rfl (lv_at hl 0 rfl) ?_
  refine va_get (D := E.1) (ci := 3) (v := .ref (a 1)) (C := RX3) (T := TX3) (N := 3) hx hb hts in3 hown hE.1 hP 0 rfl rfl 0 (by decide) K7 (fun _ h9 => h9) rfl dX3_isOver_1 ?_
  refine lv_iconst (v := 0) hx hb dX3_isOver_4 (by decide) ?_
  refine q_iald hx hb hE hP 1 rfl (j := 0) (v := (g 0)) rfl (by omega) (by decide) rfl dX3_isOver_5 ?_
  refine lv_aload_n hx hb dX3_isOver_6 rfl (lv_at hl 0 rfl) ?_
  refine va_get (D := E.1) (ci := 3) (v := .ref (a 1)) (C := RX3) (T := TX3) (N := 3) hx hb hts in3 hown hE.1 hP 0 rfl rfl 0 (by decide) K7 (fun _ h9 => h9) rfl dX3_isOver_7 ?_
  refine lv_bipush (v := 47) hx hb dX3_isOver_10 (by decide) ?_
  refine lv_iload_n hx hb dX3_isOver_12 rfl (lv_at hl 1 rfl) ?_
  refine lv_iadd hx hb dX3_isOver_13 ?_
  refine tpe (y := nI (47 + r)) (nI_add 47 r) ?_
  refine q_iald hx hb hE hP 1 rfl (j := (47 + r)) (v := (g (47 + r))) rfl (by omega) (by decide) rfl dX3_isOver_14 ?_
  refine lv_iadd hx hb dX3_isOver_15 ?_
  refine lv_aload_n hx hb dX3_isOver_16 rfl (lv_at hl 0 rfl) ?_
  refine va_get (D := E.1) (ci := 3) (v := .ref (a 1)) (C := RX3) (T := TX3) (N := 3) hx hb hts in3 hown hE.1 hP 0 rfl rfl 0 (by decide) K7 (fun _ h9 => h9) rfl dX3_isOver_17 ?_
  refine lv_iconst (v := 3) hx hb dX3_isOver_20 (by decide) ?_
  refine q_iald hx hb hE hP 1 rfl (j := 3) (v := (g 3)) rfl (by omega) (by decide) rfl dX3_isOver_21 ?_
  refine lv_iadd hx hb dX3_isOver_22 ?_
  refine lv_iload_n hx hb dX3_isOver_23 rfl (lv_at hl 2 rfl) ?_
  have J_32_1 : ∀ (w : Int32) (H : Heap) (locs : List Loc), va_P E.1 vwCl (ms E a g im kp) H → va_D A (ms E a g im kp) → va_S A s.heap H locs → w = (if (((g 0) + (g (47 + r))) + (g 3)) < x then 0 else 1 : Int32) → W p l e { frames := 0, cells := 0, slots := 0, locals := 0 } s m args below meth c H locs 0 0 Q (F0 m 32 ls [.int w]) := by
    intro w H locs hP hD hS ew
    subst ew
    exact hret _ _ _ _ _ hP hD hS rfl dX3_isOver_32
  refine lv_icmp_lt (tgt := 31) hx hb dX3_isOver_24 (by decide) (fun c_2 => ?_) (fun c_2 => ?_)
  · refine lv_iconst (v := 0) hx hb dX3_isOver_31 (by decide) ?_
    exact J_32_1 _ _ _ hP hD hS (by rw [if_pos c_2])
  · refine lv_iconst (v := 1) hx hb dX3_isOver_27 (by decide) ?_
    refine lv_goto (tgt := 32) hx hb dX3_isOver_28 (by decide) ?_
    exact J_32_1 _ _ _ hP hD hS (by rw [if_neg c_2])
def f_X3_canUse (g : Nat → Int32) (r : Nat) (t : Nat) : Int32 := (if (g (82 + 12 * r + t)) < 0 then 0 else (if (f_X3_isOver g r (g (142 + 12 * r + t))) = 0 then (if (f_X3_isOver g r (g (52 + 3 * r + t / 4))) = 0 then 1 else 0) else 0) : Int32)
theorem nar_X3_canUse (g : Nat → Int32) (r : Nat) (t : Nat) : narrow .boolean (.int (f_X3_canUse g r t)) = .int (f_X3_canUse g r t) := by unfold f_X3_canUse; (repeat' split) <;> rfl
set_option maxHeartbeats 4000000 in
set_option maxRecDepth 100000 in
theorem k_X3_canUse (l : Launch) (E : EE) (a : Nat → Nat) (g im kp : Nat → Int32) (r : Nat) (t : Nat) (hr : r < 5) (ht : t < 12) : Ci l E yX3_canUse wsX3_canUse { frames := 1, cells := 0, slots := 0, locals := 22 } [.ref (a 0), .int (nI r), .int (nI t)] (ms E a g im kp) (f_X3_canUse g r t) (ms E a g im kp) := by
  refine Ci.of (cc := cX3_canUse) (maxL := 3) (rt := .boolean) (by decide) rfl (nar_X3_canUse g r t) (Nat.le_of_ble_eq_true rfl) ?_
  intro p e s m args below meth c A Q F hE hA hret hP hD ls hl
  obtain ⟨hx, hb, hml, hown, hts⟩ := id F
  have hS : va_S A s.heap s.heap [] := va_S.rf
  have hl : lv_has ls 3 [(0, .ref (a 0)), (1, .int (nI r)), (2, .int (nI t))] := hl
  have in3 : ∀ w ∈ wsX30, w ∈ wsX3_canUse := fun w h => List.mem_cons_of_mem _ (List.mem_append_right _ h)
  have K7 := hts (.fieldLink RX3 7 "PromiseHoursModel" "state" "[I") (by decide +kernel)
  refine lv_aload_n hx hb dX3_canUse_0 rfl (lv_at hl 0 rfl) ?_
  refine va_get (D := E.1) (ci := 3) (v := .ref (a 1)) (C := RX3) (T := TX3) (N := 3) hx hb hts in3 hown hE.1 hP 0 rfl rfl 0 (by decide) K7 (fun _ h9 => h9) rfl dX3_canUse_1 ?_
  refine lv_bipush (v := 82) hx hb dX3_canUse_4 (by decide) ?_
  refine lv_iload_n hx hb dX3_canUse_6 rfl (lv_at hl 1 rfl) ?_
  refine lv_iload_n hx hb dX3_canUse_7 rfl (lv_at hl 2 rfl) ?_
  refine ci_S F hE (k_X3_thingAt l E 82 r t) (va_cwS 3 hts gX3_canUse_X3_thingAt rfl rfl rfl (by decide +kernel) ⟨Nat.le_of_ble_eq_true rfl, Nat.le_of_ble_eq_true rfl⟩) Fr.nil hP hD hS hA rfl hl.1 rfl (Nat.le_of_ble_eq_true rfl) dX3_canUse_8 ⟨Nat.zero_le _, Nat.zero_le _⟩ (fun H locs hP hD hS => ?_)
  refine q_iald hx hb hE hP 1 rfl (j := (82 + 12 * r + t)) (v := (g (82 + 12 * r + t))) rfl (by omega) (by decide) rfl dX3_canUse_11 ?_
  have J_61_1 : ∀ (w : Int32) (H : Heap) (locs : List Loc), va_P E.1 vwCl (ms E a g im kp) H → va_D A (ms E a g im kp) → va_S A s.heap H locs → w = (if (g (82 + 12 * r + t)) < 0 then 0 else (if (f_X3_isOver g r (g (142 + 12 * r + t))) = 0 then (if (f_X3_isOver g r (g (52 + 3 * r + t / 4))) = 0 then 1 else 0) else 0) : Int32) → W p l e { frames := 1, cells := 0, slots := 0, locals := 22 } s m args below meth c H locs 0 0 Q (F0 m 61 ls [.int w]) := by
    intro w H locs hP hD hS ew
    subst ew
    exact hret _ _ _ _ _ hP hD hS rfl dX3_canUse_61
  refine lv_if_lt (tgt := 60) hx hb dX3_canUse_12 (by decide) (fun c_2 => ?_) (fun c_2 => ?_)
  · refine lv_iconst (v := 0) hx hb dX3_canUse_60 (by decide) ?_
    exact J_61_1 _ _ _ hP hD hS (by rw [if_pos c_2])
  · refine lv_aload_n hx hb dX3_canUse_15 rfl (lv_at hl 0 rfl) ?_
    refine lv_iload_n hx hb dX3_canUse_16 rfl (lv_at hl 1 rfl) ?_
    refine lv_aload_n hx hb dX3_canUse_17 rfl (lv_at hl 0 rfl) ?_
    refine va_get (D := E.1) (ci := 3) (v := .ref (a 1)) (C := RX3) (T := TX3) (N := 3) hx hb hts in3 hown hE.1 hP 0 rfl rfl 0 (by decide) K7 (fun _ h9 => h9) rfl dX3_canUse_18 ?_
    refine lv_sipush (v := 142) hx hb dX3_canUse_21 (by decide) ?_
    refine lv_iload_n hx hb dX3_canUse_24 rfl (lv_at hl 1 rfl) ?_
    refine lv_iload_n hx hb dX3_canUse_25 rfl (lv_at hl 2 rfl) ?_
    refine ci_S F hE (k_X3_thingAt l E 142 r t) (va_cwS 3 hts gX3_canUse_X3_thingAt rfl rfl rfl (by decide +kernel) ⟨Nat.le_of_ble_eq_true rfl, Nat.le_of_ble_eq_true rfl⟩) Fr.nil hP hD hS hA rfl hl.1 rfl (Nat.le_of_ble_eq_true rfl) dX3_canUse_26 ⟨Nat.zero_le _, Nat.zero_le _⟩ (fun H locs hP hD hS => ?_)
    refine q_iald hx hb hE hP 1 rfl (j := (142 + 12 * r + t)) (v := (g (142 + 12 * r + t))) rfl (by omega) (by decide) rfl dX3_canUse_29 ?_
    refine ci_V F hE (k_X3_isOver l E a g im kp r (g (142 + 12 * r + t)) (by omega)) (cwV 2 hts gX3_canUse_X3_isOver rfl rfl rfl (by decide +kernel) ⟨Nat.le_of_ble_eq_true rfl, Nat.le_of_ble_eq_true rfl⟩) Fr.all 0 3 rfl rfl rfl hP hD hS hA rfl hl.1 rfl (Nat.le_of_ble_eq_true rfl) dX3_canUse_30 ⟨Nat.zero_le _, Nat.zero_le _⟩ (fun H locs hP hD hS => ?_)
    refine lv_if_ne (tgt := 60) hx hb dX3_canUse_33 (by decide) (fun c_3 => ?_) (fun c_3 => ?_)
    · refine lv_iconst (v := 0) hx hb dX3_canUse_60 (by decide) ?_
      exact J_61_1 _ _ _ hP hD hS (by rw [if_neg c_2, if_neg c_3])
    · refine lv_aload_n hx hb dX3_canUse_36 rfl (lv_at hl 0 rfl) ?_
      refine lv_iload_n hx hb dX3_canUse_37 rfl (lv_at hl 1 rfl) ?_
      refine lv_aload_n hx hb dX3_canUse_38 rfl (lv_at hl 0 rfl) ?_
      refine va_get (D := E.1) (ci := 3) (v := .ref (a 1)) (C := RX3) (T := TX3) (N := 3) hx hb hts in3 hown hE.1 hP 0 rfl rfl 0 (by decide) K7 (fun _ h9 => h9) rfl dX3_canUse_39 ?_
      refine lv_bipush (v := 52) hx hb dX3_canUse_42 (by decide) ?_
      refine lv_iload_n hx hb dX3_canUse_44 rfl (lv_at hl 1 rfl) ?_
      refine lv_iload_n hx hb dX3_canUse_45 rfl (lv_at hl 2 rfl) ?_
      refine ci_S F hE (k_X3_volumeAt l E 52 r t (by omega)) (va_cwS 3 hts gX3_canUse_X3_volumeAt rfl rfl rfl (by decide +kernel) ⟨Nat.le_of_ble_eq_true rfl, Nat.le_of_ble_eq_true rfl⟩) Fr.nil hP hD hS hA rfl hl.1 rfl (Nat.le_of_ble_eq_true rfl) dX3_canUse_46 ⟨Nat.zero_le _, Nat.zero_le _⟩ (fun H locs hP hD hS => ?_)
      refine q_iald hx hb hE hP 1 rfl (j := (52 + 3 * r + t / 4)) (v := (g (52 + 3 * r + t / 4))) rfl (by omega) (by decide) rfl dX3_canUse_49 ?_
      refine ci_V F hE (k_X3_isOver l E a g im kp r (g (52 + 3 * r + t / 4)) (by omega)) (cwV 2 hts gX3_canUse_X3_isOver rfl rfl rfl (by decide +kernel) ⟨Nat.le_of_ble_eq_true rfl, Nat.le_of_ble_eq_true rfl⟩) Fr.all 0 3 rfl rfl rfl hP hD hS hA rfl hl.1 rfl (Nat.le_of_ble_eq_true rfl) dX3_canUse_50 ⟨Nat.zero_le _, Nat.zero_le _⟩ (fun H locs hP hD hS => ?_)
      refine lv_if_ne (tgt := 60) hx hb dX3_canUse_53 (by decide) (fun c_4 => ?_) (fun c_4 => ?_)
      · refine lv_iconst (v := 0) hx hb dX3_canUse_60 (by decide) ?_
        exact J_61_1 _ _ _ hP hD hS (by rw [if_neg c_2, if_pos c_3, if_neg c_4])
      · refine lv_iconst (v := 1) hx hb dX3_canUse_56 (by decide) ?_
        refine lv_goto (tgt := 61) hx hb dX3_canUse_57 (by decide) ?_
        exact J_61_1 _ _ _ hP hD hS (by rw [if_neg c_2, if_pos c_3, if_pos c_4])
def f_X3_isHolder (g : Nat → Int32) (r : Nat) (t : Nat) : Int32 := (if (g (202 + 12 * r + t)) ≤ (g 0) then 0 else 1 : Int32)
theorem nar_X3_isHolder (g : Nat → Int32) (r : Nat) (t : Nat) : narrow .boolean (.int (f_X3_isHolder g r t)) = .int (f_X3_isHolder g r t) := by unfold f_X3_isHolder; (repeat' split) <;> rfl
set_option maxHeartbeats 4000000 in
set_option maxRecDepth 100000 in
theorem k_X3_isHolder (l : Launch) (E : EE) (a : Nat → Nat) (g im kp : Nat → Int32) (r : Nat) (t : Nat) (hr : r < 5) (ht : t < 12) : Ci l E yX3_isHolder wsX3_isHolder { frames := 1, cells := 0, slots := 0, locals := 22 } [.ref (a 0), .int (nI r), .int (nI t)] (ms E a g im kp) (f_X3_isHolder g r t) (ms E a g im kp) := by
  refine Ci.of (cc := cX3_isHolder) (maxL := 3) (rt := .boolean) (by decide) rfl (nar_X3_isHolder g r t) (Nat.le_of_ble_eq_true rfl) ?_
  intro p e s m args below meth c A Q F hE hA hret hP hD ls hl
  obtain ⟨hx, hb, hml, hown, hts⟩ := id F
  have hS : va_S A s.heap s.heap [] := va_S.rf
  have hl : lv_has ls 3 [(0, .ref (a 0)), (1, .int (nI r)), (2, .int (nI t))] := hl
  have in3 : ∀ w ∈ wsX30, w ∈ wsX3_isHolder := fun w h => List.mem_cons_of_mem _ (List.mem_append_right _ h)
  have K7 := hts (.fieldLink RX3 7 "PromiseHoursModel" "state" "[I") (by decide +kernel)
  refine lv_aload_n hx hb dX3_isHolder_0 rfl (lv_at hl 0 rfl) ?_
  refine va_get (D := E.1) (ci := 3) (v := .ref (a 1)) (C := RX3) (T := TX3) (N := 3) hx hb hts in3 hown hE.1 hP 0 rfl rfl 0 (by decide) K7 (fun _ h9 => h9) rfl dX3_isHolder_1 ?_
  refine lv_sipush (v := 202) hx hb dX3_isHolder_4 (by decide) ?_
  refine lv_iload_n hx hb dX3_isHolder_7 rfl (lv_at hl 1 rfl) ?_
  refine lv_iload_n hx hb dX3_isHolder_8 rfl (lv_at hl 2 rfl) ?_
  refine ci_S F hE (k_X3_thingAt l E 202 r t) (va_cwS 3 hts gX3_isHolder_X3_thingAt rfl rfl rfl (by decide +kernel) ⟨Nat.le_of_ble_eq_true rfl, Nat.le_of_ble_eq_true rfl⟩) Fr.nil hP hD hS hA rfl hl.1 rfl (Nat.le_of_ble_eq_true rfl) dX3_isHolder_9 ⟨Nat.zero_le _, Nat.zero_le _⟩ (fun H locs hP hD hS => ?_)
  refine q_iald hx hb hE hP 1 rfl (j := (202 + 12 * r + t)) (v := (g (202 + 12 * r + t))) rfl (by omega) (by decide) rfl dX3_isHolder_12 ?_
  refine lv_aload_n hx hb dX3_isHolder_13 rfl (lv_at hl 0 rfl) ?_
  refine va_get (D := E.1) (ci := 3) (v := .ref (a 1)) (C := RX3) (T := TX3) (N := 3) hx hb hts in3 hown hE.1 hP 0 rfl rfl 0 (by decide) K7 (fun _ h9 => h9) rfl dX3_isHolder_14 ?_
  refine lv_iconst (v := 0) hx hb dX3_isHolder_17 (by decide) ?_
  refine q_iald hx hb hE hP 1 rfl (j := 0) (v := (g 0)) rfl (by omega) (by decide) rfl dX3_isHolder_18 ?_
  have J_27_1 : ∀ (w : Int32) (H : Heap) (locs : List Loc), va_P E.1 vwCl (ms E a g im kp) H → va_D A (ms E a g im kp) → va_S A s.heap H locs → w = (if (g (202 + 12 * r + t)) ≤ (g 0) then 0 else 1 : Int32) → W p l e { frames := 1, cells := 0, slots := 0, locals := 22 } s m args below meth c H locs 0 0 Q (F0 m 27 ls [.int w]) := by
    intro w H locs hP hD hS ew
    subst ew
    exact hret _ _ _ _ _ hP hD hS rfl dX3_isHolder_27
  refine lv_icmp_le (tgt := 26) hx hb dX3_isHolder_19 (by decide) (fun c_2 => ?_) (fun c_2 => ?_)
  · refine lv_iconst (v := 0) hx hb dX3_isHolder_26 (by decide) ?_
    exact J_27_1 _ _ _ hP hD hS (by rw [if_pos c_2])
  · refine lv_iconst (v := 1) hx hb dX3_isHolder_22 (by decide) ?_
    refine lv_goto (tgt := 27) hx hb dX3_isHolder_23 (by decide) ?_
    exact J_27_1 _ _ _ hP hD hS (by rw [if_neg c_2])
set_option maxHeartbeats 4000000 in
set_option maxRecDepth 100000 in
theorem k_X3_clear (l : Launch) (E : EE) (a : Nat → Nat) (g im kp : Nat → Int32) (r : Nat) (t : Nat) (hr : r < 5) (ht : t < 12) : Cv l E yX3_clear wsX3_clear { frames := 1, cells := 0, slots := 0, locals := 22 } [.ref (a 0), .int (nI r), .int (nI t)] (ms E a g im kp) (ms E a (upd (upd (upd g (82 + 12 * r + t) (-6)) (142 + 12 * r + t) 0) (202 + 12 * r + t) 0) im kp) := by
  refine Cv.of (cc := cX3_clear) (maxL := 3) (by decide) rfl (Nat.le_of_ble_eq_true rfl) ?_
  intro p e s m args below meth c A Q F hE hA hret hP hD ls hl
  obtain ⟨hx, hb, hml, hown, hts⟩ := id F
  have hS : va_S A s.heap s.heap [] := va_S.rf
  have hl : lv_has ls 3 [(0, .ref (a 0)), (1, .int (nI r)), (2, .int (nI t))] := hl
  have in3 : ∀ w ∈ wsX30, w ∈ wsX3_clear := fun w h => List.mem_cons_of_mem _ (List.mem_append_right _ h)
  have K7 := hts (.fieldLink RX3 7 "PromiseHoursModel" "state" "[I") (by decide +kernel)
  refine lv_aload_n hx hb dX3_clear_0 rfl (lv_at hl 0 rfl) ?_
  refine va_get (D := E.1) (ci := 3) (v := .ref (a 1)) (C := RX3) (T := TX3) (N := 3) hx hb hts in3 hown hE.1 hP 0 rfl rfl 0 (by decide) K7 (fun _ h9 => h9) rfl dX3_clear_1 ?_
  refine lv_bipush (v := 82) hx hb dX3_clear_4 (by decide) ?_
  refine lv_iload_n hx hb dX3_clear_6 rfl (lv_at hl 1 rfl) ?_
  refine lv_iload_n hx hb dX3_clear_7 rfl (lv_at hl 2 rfl) ?_
  refine ci_S F hE (k_X3_thingAt l E 82 r t) (va_cwS 3 hts gX3_clear_X3_thingAt rfl rfl rfl (by decide +kernel) ⟨Nat.le_of_ble_eq_true rfl, Nat.le_of_ble_eq_true rfl⟩) Fr.nil hP hD hS hA rfl hl.1 rfl (Nat.le_of_ble_eq_true rfl) dX3_clear_8 ⟨Nat.zero_le _, Nat.zero_le _⟩ (fun H locs hP hD hS => ?_)
  refine lv_bipush (v := -6) hx hb dX3_clear_11 (by decide) ?_
  refine q_iast hx hb hE hP hD hS 1 rfl (j := (82 + 12 * r + t)) (wd' := (ms E a (upd g (82 + 12 * r + t) (-6)) im kp)) rfl (by omega) (by decide) rfl dX3_clear_13 (fun H locs hP hD hS => ?_)
  refine lv_aload_n hx hb dX3_clear_14 rfl (lv_at hl 0 rfl) ?_
  refine va_get (D := E.1) (ci := 3) (v := .ref (a 1)) (C := RX3) (T := TX3) (N := 3) hx hb hts in3 hown hE.1 hP 0 rfl rfl 0 (by decide) K7 (fun _ h9 => h9) rfl dX3_clear_15 ?_
  refine lv_sipush (v := 142) hx hb dX3_clear_18 (by decide) ?_
  refine lv_iload_n hx hb dX3_clear_21 rfl (lv_at hl 1 rfl) ?_
  refine lv_iload_n hx hb dX3_clear_22 rfl (lv_at hl 2 rfl) ?_
  refine ci_S F hE (k_X3_thingAt l E 142 r t) (va_cwS 3 hts gX3_clear_X3_thingAt rfl rfl rfl (by decide +kernel) ⟨Nat.le_of_ble_eq_true rfl, Nat.le_of_ble_eq_true rfl⟩) Fr.nil hP hD hS hA rfl hl.1 rfl (Nat.le_of_ble_eq_true rfl) dX3_clear_23 ⟨Nat.zero_le _, Nat.zero_le _⟩ (fun H locs hP hD hS => ?_)
  refine lv_iconst (v := 0) hx hb dX3_clear_26 (by decide) ?_
  refine q_iast hx hb hE hP hD hS 1 rfl (j := (142 + 12 * r + t)) (wd' := (ms E a (upd (upd g (82 + 12 * r + t) (-6)) (142 + 12 * r + t) 0) im kp)) rfl (by omega) (by decide) rfl dX3_clear_27 (fun H locs hP hD hS => ?_)
  refine lv_aload_n hx hb dX3_clear_28 rfl (lv_at hl 0 rfl) ?_
  refine va_get (D := E.1) (ci := 3) (v := .ref (a 1)) (C := RX3) (T := TX3) (N := 3) hx hb hts in3 hown hE.1 hP 0 rfl rfl 0 (by decide) K7 (fun _ h9 => h9) rfl dX3_clear_29 ?_
  refine lv_sipush (v := 202) hx hb dX3_clear_32 (by decide) ?_
  refine lv_iload_n hx hb dX3_clear_35 rfl (lv_at hl 1 rfl) ?_
  refine lv_iload_n hx hb dX3_clear_36 rfl (lv_at hl 2 rfl) ?_
  refine ci_S F hE (k_X3_thingAt l E 202 r t) (va_cwS 3 hts gX3_clear_X3_thingAt rfl rfl rfl (by decide +kernel) ⟨Nat.le_of_ble_eq_true rfl, Nat.le_of_ble_eq_true rfl⟩) Fr.nil hP hD hS hA rfl hl.1 rfl (Nat.le_of_ble_eq_true rfl) dX3_clear_37 ⟨Nat.zero_le _, Nat.zero_le _⟩ (fun H locs hP hD hS => ?_)
  refine lv_iconst (v := 0) hx hb dX3_clear_40 (by decide) ?_
  refine q_iast hx hb hE hP hD hS 1 rfl (j := (202 + 12 * r + t)) (wd' := (ms E a (upd (upd (upd g (82 + 12 * r + t) (-6)) (142 + 12 * r + t) 0) (202 + 12 * r + t) 0) im kp)) rfl (by omega) (by decide) rfl dX3_clear_41 (fun H locs hP hD hS => ?_)
  exact hret _ _ _ _ hP hD hS dX3_clear_42
def f_X3_lesser (g : Nat → Int32) (r : Nat) (t : Nat) : Int32 := (if (g (52 + 3 * r + t / 4)) ≤ (g (202 + 12 * r + t)) then (g (52 + 3 * r + t / 4)) else (g (202 + 12 * r + t)) : Int32)
set_option maxHeartbeats 4000000 in
set_option maxRecDepth 100000 in
theorem k_X3_lesser (l : Launch) (E : EE) (a : Nat → Nat) (g im kp : Nat → Int32) (r : Nat) (t : Nat) (hr : r < 5) (ht : t < 12) : Ci l E yX3_lesser wsX3_lesser { frames := 1, cells := 0, slots := 0, locals := 22 } [.ref (a 0), .int (nI r), .int (nI t)] (ms E a g im kp) (f_X3_lesser g r t) (ms E a g im kp) := by
  refine Ci.of (cc := cX3_lesser) (maxL := 5) (rt := .int) (by decide) rfl rfl (Nat.le_of_ble_eq_true rfl) ?_
  intro p e s m args below meth c A Q F hE hA hret hP hD ls hl
  obtain ⟨hx, hb, hml, hown, hts⟩ := id F
  have hS : va_S A s.heap s.heap [] := va_S.rf
  have hl : lv_has ls 5 [(0, .ref (a 0)), (1, .int (nI r)), (2, .int (nI t))] := hl
  have in3 : ∀ w ∈ wsX30, w ∈ wsX3_lesser := fun w h => List.mem_cons_of_mem _ (List.mem_append_right _ h)
  have K7 := hts (.fieldLink RX3 7 "PromiseHoursModel" "state" "[I") (by decide +kernel)
  refine lv_aload_n hx hb dX3_lesser_0 rfl (lv_at hl 0 rfl) ?_
  refine va_get (D := E.1) (ci := 3) (v := .ref (a 1)) (C := RX3) (T := TX3) (N := 3) hx hb hts in3 hown hE.1 hP 0 rfl rfl 0 (by decide) K7 (fun _ h9 => h9) rfl dX3_lesser_1 ?_
  refine lv_sipush (v := 202) hx hb dX3_lesser_4 (by decide) ?_
  refine lv_iload_n hx hb dX3_lesser_7 rfl (lv_at hl 1 rfl) ?_
  refine lv_iload_n hx hb dX3_lesser_8 rfl (lv_at hl 2 rfl) ?_
  refine ci_S F hE (k_X3_thingAt l E 202 r t) (va_cwS 3 hts gX3_lesser_X3_thingAt rfl rfl rfl (by decide +kernel) ⟨Nat.le_of_ble_eq_true rfl, Nat.le_of_ble_eq_true rfl⟩) Fr.nil hP hD hS hA rfl hl.1 rfl (Nat.le_of_ble_eq_true rfl) dX3_lesser_9 ⟨Nat.zero_le _, Nat.zero_le _⟩ (fun H locs hP hD hS => ?_)
  refine q_iald hx hb hE hP 1 rfl (j := (202 + 12 * r + t)) (v := (g (202 + 12 * r + t))) rfl (by omega) (by decide) rfl dX3_lesser_12 ?_
  refine lv_istore_n (lv' := [(3, .int (g (202 + 12 * r + t))), (0, .ref (a 0)), (1, .int (nI r)), (2, .int (nI t))]) hx hb dX3_lesser_13 rfl hl (by decide) rfl (fun ls hl => ?_)
  refine lv_aload_n hx hb dX3_lesser_14 rfl (lv_at hl 1 rfl) ?_
  refine va_get (D := E.1) (ci := 3) (v := .ref (a 1)) (C := RX3) (T := TX3) (N := 3) hx hb hts in3 hown hE.1 hP 0 rfl rfl 0 (by decide) K7 (fun _ h9 => h9) rfl dX3_lesser_15 ?_
  refine lv_bipush (v := 52) hx hb dX3_lesser_18 (by decide) ?_
  refine lv_iload_n hx hb dX3_lesser_20 rfl (lv_at hl 2 rfl) ?_
  refine lv_iload_n hx hb dX3_lesser_21 rfl (lv_at hl 3 rfl) ?_
  refine ci_S F hE (k_X3_volumeAt l E 52 r t (by omega)) (va_cwS 3 hts gX3_lesser_X3_volumeAt rfl rfl rfl (by decide +kernel) ⟨Nat.le_of_ble_eq_true rfl, Nat.le_of_ble_eq_true rfl⟩) Fr.nil hP hD hS hA rfl hl.1 rfl (Nat.le_of_ble_eq_true rfl) dX3_lesser_22 ⟨Nat.zero_le _, Nat.zero_le _⟩ (fun H locs hP hD hS => ?_)
  refine q_iald hx hb hE hP 1 rfl (j := (52 + 3 * r + t / 4)) (v := (g (52 + 3 * r + t / 4))) rfl (by omega) (by decide) rfl dX3_lesser_25 ?_
  refine lv_istore (lv' := [(4, .int (g (52 + 3 * r + t / 4))), (3, .int (g (202 + 12 * r + t))), (0, .ref (a 0)), (1, .int (nI r)), (2, .int (nI t))]) hx hb dX3_lesser_26 hl (by decide) rfl (fun ls hl => ?_)
  refine lv_iload_n hx hb dX3_lesser_28 rfl (lv_at hl 1 rfl) ?_
  refine lv_iload hx hb dX3_lesser_29 (lv_at hl 0 rfl) ?_
  have J_40_1 : ∀ (w : Int32) (H : Heap) (locs : List Loc), va_P E.1 vwCl (ms E a g im kp) H → va_D A (ms E a g im kp) → va_S A s.heap H locs → w = (if (g (52 + 3 * r + t / 4)) ≤ (g (202 + 12 * r + t)) then (g (52 + 3 * r + t / 4)) else (g (202 + 12 * r + t)) : Int32) → W p l e { frames := 1, cells := 0, slots := 0, locals := 22 } s m args below meth c H locs 0 0 Q (F0 m 40 ls [.int w]) := by
    intro w H locs hP hD hS ew
    subst ew
    exact hret _ _ _ _ _ hP hD hS rfl dX3_lesser_40
  refine lv_icmp_ge (tgt := 38) hx hb dX3_lesser_31 (by decide) (fun c_2 => ?_) (fun c_2 => ?_)
  · refine lv_iload hx hb dX3_lesser_38 (lv_at hl 0 rfl) ?_
    exact J_40_1 _ _ _ hP hD hS (by rw [if_pos c_2])
  · refine lv_iload_n hx hb dX3_lesser_34 rfl (lv_at hl 1 rfl) ?_
    refine lv_goto (tgt := 40) hx hb dX3_lesser_35 (by decide) ?_
    exact J_40_1 _ _ _ hP hD hS (by rw [if_neg c_2])
theorem in_ix {x hi : Int32} {n : Nat} (h : ¬ f_X3_in x 0 hi = 0) (hh : hi = nI n) (hn : n < 2 ^ 31) : ix x < n + 1 ∧ x = nI (ix x) := by
  unfold f_X3_in at h
  by_cases h1 : x < 0
  · rw [if_pos h1] at h; exact absurd rfl h
  rw [if_neg h1] at h
  by_cases h2 : hi < x
  · rw [if_pos h2] at h; exact absurd rfl h
  obtain ⟨j, hj, e⟩ := nI_of h1
  subst e
  subst hh
  have h3 : j ≤ n := by
    rcases Nat.lt_or_ge n j with q | q
    · exact absurd (nI_lt q hj) h2
    · exact q
  have e2 : ix (nI j) = j := nI_clamp hj
  rw [e2]
  exact ⟨by omega, rfl⟩
theorem in_cnt {x c : Int32} {m : Nat} (h : ¬ f_X3_in x 0 (c - 1) = 0) (hc : c = nI m) (hm : m < 2 ^ 31) : ix x < m ∧ x = nI (ix x) := by
  subst hc
  cases m with
  | zero =>
    unfold f_X3_in at h
    by_cases h1 : x < 0
    · rw [if_pos h1] at h; exact absurd rfl h
    rw [if_neg h1] at h
    by_cases h2 : nI 0 - 1 < x
    · rw [if_pos h2] at h; exact absurd rfl h
    obtain ⟨j, hj, e⟩ := nI_of h1
    subst e
    exfalso
    apply h2
    rw [Int32.lt_iff_toInt_lt, nI_toInt hj]
    have : (nI 0 - 1 : Int32).toInt = -1 := by decide
    omega
  | succ m =>
    rw [nI_pred] at h
    obtain ⟨a, b⟩ := in_ix h rfl (by omega)
    exact ⟨a, b⟩
end
section
def s_X3_rule (g : Nat → Int32) (x : Int32) (n : Int32) : Nat → Int32 := (if (f_X3_in x 0 3) = 0 then g else (if (f_X3_in n (if 2 ≤ x then 0 else 1 : Int32) (if x = 0 then 200 else (if x = 1 then 100 else (if x = 2 then 9 else 500)) : Int32)) = 0 then g else (upd g (1 + (ix x)) n)))
def f_X3_rule (g : Nat → Int32) (x : Int32) (n : Int32) : Int32 := (if (f_X3_in x 0 3) = 0 then (-2) else (if (f_X3_in n (if 2 ≤ x then 0 else 1 : Int32) (if x = 0 then 200 else (if x = 1 then 100 else (if x = 2 then 9 else 500)) : Int32)) = 0 then (-2) else (g (1 + (ix x)))))
set_option maxHeartbeats 4000000 in
set_option maxRecDepth 100000 in
theorem k_X3_rule (l : Launch) (E : EE) (a : Nat → Nat) (g im kp : Nat → Int32) (x : Int32) (n : Int32)  : Ci l E yX3_rule wsX3_rule { frames := 1, cells := 0, slots := 0, locals := 22 } [.ref (a 0), .int x, .int n] (ms E a g im kp) (f_X3_rule g x n) (ms E a (s_X3_rule g x n) im kp) := by
  refine Ci.of (cc := cX3_rule) (maxL := 4) (rt := .int) (by decide) rfl rfl (Nat.le_of_ble_eq_true rfl) ?_
  intro p e s m args below meth c A Q F hE hA hret hP hD ls hl
  obtain ⟨hx, hb, hml, hown, hts⟩ := id F
  have hS : va_S A s.heap s.heap [] := va_S.rf
  have hl : lv_has ls 4 [(0, .ref (a 0)), (1, .int x), (2, .int n)] := hl
  have in3 : ∀ w ∈ wsX30, w ∈ wsX3_rule := fun w h => List.mem_cons_of_mem _ (List.mem_append_right _ h)
  have K7 := hts (.fieldLink RX3 7 "PromiseHoursModel" "state" "[I") (by decide +kernel)
  refine lv_iload_n hx hb dX3_rule_0 rfl (lv_at hl 1 rfl) ?_
  refine lv_iconst (v := 0) hx hb dX3_rule_1 (by decide) ?_
  refine lv_iconst (v := 3) hx hb dX3_rule_2 (by decide) ?_
  refine ci_S F hE (k_X3_in l E x 0 3) (va_cwS 3 hts gX3_rule_X3_in rfl rfl rfl (by decide +kernel) ⟨Nat.le_of_ble_eq_true rfl, Nat.le_of_ble_eq_true rfl⟩) Fr.nil hP hD hS hA rfl hl.1 rfl (Nat.le_of_ble_eq_true rfl) dX3_rule_3 ⟨Nat.zero_le _, Nat.zero_le _⟩ (fun H locs hP hD hS => ?_)
  refine lv_if_eq (tgt := 59) hx hb dX3_rule_6 (by decide) (fun c_1 => ?_) (fun c_1 => ?_)
  · refine lv_bipush (v := -2) hx hb dX3_rule_59 (by decide) ?_
    have eg : g = (s_X3_rule g x n) := (by unfold s_X3_rule; rw [if_pos c_1])
    exact hret _ _ _ _ _ (by rw [← eg]; exact hP) (by rw [← eg]; exact hD) hS (by unfold f_X3_rule; rw [if_pos c_1]) dX3_rule_61
  · refine lv_iload_n hx hb dX3_rule_9 rfl (lv_at hl 2 rfl) ?_
    refine lv_iload_n hx hb dX3_rule_10 rfl (lv_at hl 1 rfl) ?_
    refine lv_iconst (v := 2) hx hb dX3_rule_11 (by decide) ?_
    have J_20_2 : ∀ (w : Int32) (H : Heap) (locs : List Loc), va_P E.1 vwCl (ms E a g im kp) H → va_D A (ms E a g im kp) → va_S A s.heap H locs → w = (if 2 ≤ x then 0 else 1 : Int32) → W p l e { frames := 1, cells := 0, slots := 0, locals := 22 } s m args below meth c H locs 0 0 Q (F0 m 20 ls [.int w, .int n]) := by
      intro w H locs hP hD hS ew
      subst ew
      refine lv_iload_n hx hb dX3_rule_20 rfl (lv_at hl 1 rfl) ?_
      have J_53_4 : ∀ (w : Int32) (H : Heap) (locs : List Loc), va_P E.1 vwCl (ms E a g im kp) H → va_D A (ms E a g im kp) → va_S A s.heap H locs → w = (if x = 0 then 200 else (if x = 1 then 100 else (if x = 2 then 9 else 500)) : Int32) → W p l e { frames := 1, cells := 0, slots := 0, locals := 22 } s m args below meth c H locs 0 0 Q (F0 m 53 ls [.int w, .int (if 2 ≤ x then 0 else 1 : Int32), .int n]) := by
        intro w H locs hP hD hS ew
        subst ew
        refine ci_S F hE (k_X3_in l E n (if 2 ≤ x then 0 else 1 : Int32) (if x = 0 then 200 else (if x = 1 then 100 else (if x = 2 then 9 else 500)) : Int32)) (va_cwS 3 hts gX3_rule_X3_in rfl rfl rfl (by decide +kernel) ⟨Nat.le_of_ble_eq_true rfl, Nat.le_of_ble_eq_true rfl⟩) Fr.nil hP hD hS hA rfl hl.1 rfl (Nat.le_of_ble_eq_true rfl) dX3_rule_53 ⟨Nat.zero_le _, Nat.zero_le _⟩ (fun H locs hP hD hS => ?_)
        refine lv_if_ne (tgt := 62) hx hb dX3_rule_56 (by decide) (fun c_8 => ?_) (fun c_8 => ?_)
        · obtain ⟨b_x, e_x⟩ := in_ix (n := 3) c_1 (by decide) (by decide)
          refine lv_aload_n hx hb dX3_rule_62 rfl (lv_at hl 0 rfl) ?_
          refine va_get (D := E.1) (ci := 3) (v := .ref (a 1)) (C := RX3) (T := TX3) (N := 3) hx hb hts in3 hown hE.1 hP 0 rfl rfl 0 (by decide) K7 (fun _ h9 => h9) rfl dX3_rule_63 ?_
          refine lv_iconst (v := 1) hx hb dX3_rule_66 (by decide) ?_
          refine lv_iload_n hx hb dX3_rule_67 rfl (lv_at hl 1 rfl) ?_
          refine tpe e_x ?_
          refine lv_iadd hx hb dX3_rule_68 ?_
          refine tpe (y := nI (1 + (ix x))) (nI_add 1 (ix x)) ?_
          refine q_iald hx hb hE hP 1 rfl (j := (1 + (ix x))) (v := (g (1 + (ix x)))) rfl (by omega) (by decide) rfl dX3_rule_69 ?_
          refine lv_istore_n (lv' := [(3, .int (g (1 + (ix x)))), (0, .ref (a 0)), (1, .int x), (2, .int n)]) hx hb dX3_rule_70 rfl hl (by decide) rfl (fun ls hl => ?_)
          refine lv_aload_n hx hb dX3_rule_71 rfl (lv_at hl 1 rfl) ?_
          refine va_get (D := E.1) (ci := 3) (v := .ref (a 1)) (C := RX3) (T := TX3) (N := 3) hx hb hts in3 hown hE.1 hP 0 rfl rfl 0 (by decide) K7 (fun _ h9 => h9) rfl dX3_rule_72 ?_
          refine lv_iconst (v := 1) hx hb dX3_rule_75 (by decide) ?_
          refine lv_iload_n hx hb dX3_rule_76 rfl (lv_at hl 2 rfl) ?_
          refine tpe e_x ?_
          refine lv_iadd hx hb dX3_rule_77 ?_
          refine tpe (y := nI (1 + (ix x))) (nI_add 1 (ix x)) ?_
          refine lv_iload_n hx hb dX3_rule_78 rfl (lv_at hl 3 rfl) ?_
          refine q_iast hx hb hE hP hD hS 1 rfl (j := (1 + (ix x))) (wd' := (ms E a (upd g (1 + (ix x)) n) im kp)) rfl (by omega) (by decide) rfl dX3_rule_79 (fun H locs hP hD hS => ?_)
          refine lv_iload_n hx hb dX3_rule_80 rfl (lv_at hl 0 rfl) ?_
          have eg : (upd g (1 + (ix x)) n) = (s_X3_rule g x n) := (by unfold s_X3_rule; rw [if_neg c_1, if_neg c_8])
          exact hret _ _ _ _ _ (by rw [← eg]; exact hP) (by rw [← eg]; exact hD) hS (by unfold f_X3_rule; rw [if_neg c_1, if_neg c_8]) dX3_rule_81
        · refine lv_bipush (v := -2) hx hb dX3_rule_59 (by decide) ?_
          have eg : g = (s_X3_rule g x n) := (by unfold s_X3_rule; rw [if_neg c_1, if_pos c_8])
          exact hret _ _ _ _ _ (by rw [← eg]; exact hP) (by rw [← eg]; exact hD) hS (by unfold f_X3_rule; rw [if_neg c_1, if_pos c_8]) dX3_rule_61
      refine lv_if_ne (tgt := 30) hx hb dX3_rule_21 (by decide) (fun c_5 => ?_) (fun c_5 => ?_)
      · refine lv_iload_n hx hb dX3_rule_30 rfl (lv_at hl 1 rfl) ?_
        refine lv_iconst (v := 1) hx hb dX3_rule_31 (by decide) ?_
        refine lv_icmp_ne (tgt := 40) hx hb dX3_rule_32 (by decide) (fun c_6 => ?_) (fun c_6 => ?_)
        · refine lv_iload_n hx hb dX3_rule_40 rfl (lv_at hl 1 rfl) ?_
          refine lv_iconst (v := 2) hx hb dX3_rule_41 (by decide) ?_
          refine lv_icmp_ne (tgt := 50) hx hb dX3_rule_42 (by decide) (fun c_7 => ?_) (fun c_7 => ?_)
          · refine lv_sipush (v := 500) hx hb dX3_rule_50 (by decide) ?_
            exact J_53_4 _ _ _ hP hD hS (by rw [if_neg c_5, if_neg c_6, if_neg c_7])
          · refine lv_bipush (v := 9) hx hb dX3_rule_45 (by decide) ?_
            refine lv_goto (tgt := 53) hx hb dX3_rule_47 (by decide) ?_
            exact J_53_4 _ _ _ hP hD hS (by rw [if_neg c_5, if_neg c_6, if_pos c_7])
        · refine lv_bipush (v := 100) hx hb dX3_rule_35 (by decide) ?_
          refine lv_goto (tgt := 53) hx hb dX3_rule_37 (by decide) ?_
          exact J_53_4 _ _ _ hP hD hS (by rw [if_neg c_5, if_pos c_6])
      · refine lv_sipush (v := 200) hx hb dX3_rule_24 (by decide) ?_
        refine lv_goto (tgt := 53) hx hb dX3_rule_27 (by decide) ?_
        exact J_53_4 _ _ _ hP hD hS (by rw [if_pos c_5])
    refine lv_icmp_ge (tgt := 19) hx hb dX3_rule_12 (by decide) (fun c_3 => ?_) (fun c_3 => ?_)
    · refine lv_iconst (v := 0) hx hb dX3_rule_19 (by decide) ?_
      exact J_20_2 _ _ _ hP hD hS (by rw [if_pos c_3])
    · refine lv_iconst (v := 1) hx hb dX3_rule_15 (by decide) ?_
      refine lv_goto (tgt := 20) hx hb dX3_rule_16 (by decide) ?_
      exact J_20_2 _ _ _ hP hD hS (by rw [if_neg c_3])
def p_X3_skew_38 (g : Nat → Int32) (x : Int32) (n : Int32) (S38 : Int32) (i : Nat) : Int32 := (S38 + (if (g 3) < ((upd g (47 + (ix x)) n) (47 + i)) then 1 else (if (-(g 3)) ≤ ((upd g (47 + (ix x)) n) (47 + i)) then 0 else 1) : Int32))
def q_X3_skew_38 (g : Nat → Int32) (x : Int32) (n : Int32) (S0 : Int32) : Nat → Int32
  | 0 => S0
  | i + 1 => p_X3_skew_38 g x n (q_X3_skew_38 g x n S0 i) i
def s_X3_skew (g : Nat → Int32) (x : Int32) (n : Int32) : Nat → Int32 := (if (f_X3_in x 0 4) = 0 then g else (if (f_X3_in n (-20) 20) = 0 then g else (upd g (47 + (ix x)) n)))
def f_X3_skew (g : Nat → Int32) (x : Int32) (n : Int32) : Int32 := (if (f_X3_in x 0 4) = 0 then (-1) else (if (f_X3_in n (-20) 20) = 0 then (-2) else (q_X3_skew_38 g x n 0 5)))
set_option maxHeartbeats 4000000 in
set_option maxRecDepth 100000 in
theorem k_X3_skew (l : Launch) (E : EE) (a : Nat → Nat) (g im kp : Nat → Int32) (x : Int32) (n : Int32)  : Ci l E yX3_skew wsX3_skew { frames := 2, cells := 0, slots := 0, locals := 42 } [.ref (a 0), .int x, .int n] (ms E a g im kp) (f_X3_skew g x n) (ms E a (s_X3_skew g x n) im kp) := by
  refine Ci.of (cc := cX3_skew) (maxL := 5) (rt := .int) (by decide) rfl rfl (Nat.le_of_ble_eq_true rfl) ?_
  intro p e s m args below meth c A Q F hE hA hret hP hD ls hl
  obtain ⟨hx, hb, hml, hown, hts⟩ := id F
  have hS : va_S A s.heap s.heap [] := va_S.rf
  have hl : lv_has ls 5 [(0, .ref (a 0)), (1, .int x), (2, .int n)] := hl
  have in3 : ∀ w ∈ wsX30, w ∈ wsX3_skew := fun w h => List.mem_cons_of_mem _ (List.mem_append_right _ h)
  have K7 := hts (.fieldLink RX3 7 "PromiseHoursModel" "state" "[I") (by decide +kernel)
  refine lv_iload_n hx hb dX3_skew_0 rfl (lv_at hl 1 rfl) ?_
  refine ci_S F hE (k_X3_isReader l E x) (va_cwS 1 hts gX3_skew_X3_isReader rfl rfl rfl (by decide +kernel) ⟨Nat.le_of_ble_eq_true rfl, Nat.le_of_ble_eq_true rfl⟩) Fr.nil hP hD hS hA rfl hl.1 rfl (Nat.le_of_ble_eq_true rfl) dX3_skew_1 ⟨Nat.zero_le _, Nat.zero_le _⟩ (fun H locs hP hD hS => ?_)
  refine lv_if_ne (tgt := 9) hx hb dX3_skew_4 (by decide) (fun c_1 => ?_) (fun c_1 => ?_)
  · obtain ⟨b_x, e_x⟩ := in_ix (n := 4) c_1 (by decide) (by decide)
    refine lv_iload_n hx hb dX3_skew_9 rfl (lv_at hl 2 rfl) ?_
    refine lv_bipush (v := -20) hx hb dX3_skew_10 (by decide) ?_
    refine lv_bipush (v := 20) hx hb dX3_skew_12 (by decide) ?_
    refine ci_S F hE (k_X3_in l E n (-20) 20) (va_cwS 3 hts gX3_skew_X3_in rfl rfl rfl (by decide +kernel) ⟨Nat.le_of_ble_eq_true rfl, Nat.le_of_ble_eq_true rfl⟩) Fr.nil hP hD hS hA rfl hl.1 rfl (Nat.le_of_ble_eq_true rfl) dX3_skew_14 ⟨Nat.zero_le _, Nat.zero_le _⟩ (fun H locs hP hD hS => ?_)
    refine lv_if_ne (tgt := 23) hx hb dX3_skew_17 (by decide) (fun c_2 => ?_) (fun c_2 => ?_)
    · refine lv_aload_n hx hb dX3_skew_23 rfl (lv_at hl 0 rfl) ?_
      refine va_get (D := E.1) (ci := 3) (v := .ref (a 1)) (C := RX3) (T := TX3) (N := 3) hx hb hts in3 hown hE.1 hP 0 rfl rfl 0 (by decide) K7 (fun _ h9 => h9) rfl dX3_skew_24 ?_
      refine lv_bipush (v := 47) hx hb dX3_skew_27 (by decide) ?_
      refine lv_iload_n hx hb dX3_skew_29 rfl (lv_at hl 1 rfl) ?_
      refine tpe e_x ?_
      refine lv_iadd hx hb dX3_skew_30 ?_
      refine tpe (y := nI (47 + (ix x))) (nI_add 47 (ix x)) ?_
      refine lv_iload_n hx hb dX3_skew_31 rfl (lv_at hl 2 rfl) ?_
      refine q_iast hx hb hE hP hD hS 1 rfl (j := (47 + (ix x))) (wd' := (ms E a (upd g (47 + (ix x)) n) im kp)) rfl (by omega) (by decide) rfl dX3_skew_32 (fun H locs hP hD hS => ?_)
      refine lv_iconst (v := 0) hx hb dX3_skew_33 (by decide) ?_
      refine lv_istore_n (lv' := [(3, .int 0), (0, .ref (a 0)), (1, .int x), (2, .int n)]) hx hb dX3_skew_34 rfl hl (by decide) rfl (fun ls hl => ?_)
      refine lv_iconst (v := 0) hx hb dX3_skew_35 (by decide) ?_
      refine lv_istore (lv' := [(4, .int 0), (3, .int 0), (0, .ref (a 0)), (1, .int x), (2, .int n)]) hx hb dX3_skew_36 hl (by decide) rfl (fun ls hl => ?_)
      have lp38 : ∀ (fu i : Nat), i ≤ 5 → 5 + 1 ≤ i + fu → ∀ (S38 : Int32), S38 = (q_X3_skew_38 g x n 0 i) → ∀ (H : Heap) (locs : List Loc), va_P E.1 vwCl (ms E a (upd g (47 + (ix x)) n) im kp) H → va_D A (ms E a (upd g (47 + (ix x)) n) im kp) → va_S A s.heap H locs → ∀ ls : Array Slot, lv_has ls 5 [(0, .ref (a 0)), (1, .int x), (2, .int n), (3, .int S38), (4, .int (nI i))] → W p l e { frames := 2, cells := 0, slots := 0, locals := 42 } s m args below meth c H locs 0 0 Q (F0 m 38 ls []) := by
        intro fu
        induction fu with
        | zero => intro i h1 h2; exact absurd h2 (by omega)
        | succ fu ih =>
          intro i hi hin S38 eS38 H locs hP hD hS ls hl
          refine lv_iload hx hb dX3_skew_38 (lv_at hl 4 rfl) ?_
          refine lv_iconst (v := 5) hx hb dX3_skew_40 (by decide) ?_
          refine lv_icmp_ge (tgt := 97) hx hb dX3_skew_41 (by decide) (fun c_3 => ?_) (fun c_3 => ?_)
          · have hiN : i = 5 := by have := (nI_leI (a := 5) (b := i) (by omega) (by omega)).mp c_3; omega
            rw [hiN] at eS38 hl
            refine lv_iload_n hx hb dX3_skew_97 rfl (lv_at hl 3 rfl) ?_
            have eg : (upd g (47 + (ix x)) n) = (s_X3_skew g x n) := (by unfold s_X3_skew; (try rw [← eS38]); rw [if_neg c_1, if_neg c_2])
            exact hret _ _ _ _ _ (by rw [← eg]; exact hP) (by rw [← eg]; exact hD) hS (by unfold f_X3_skew; (try rw [← eS38]); rw [if_neg c_1, if_neg c_2]) dX3_skew_98
          · have hlt : i < 5 := Nat.lt_of_not_le (fun h => c_3 (nI_le (a := 5) (b := i) (by omega) (by omega)))
            refine lv_iload_n hx hb dX3_skew_44 rfl (lv_at hl 3 rfl) ?_
            refine lv_aload_n hx hb dX3_skew_45 rfl (lv_at hl 0 rfl) ?_
            refine va_get (D := E.1) (ci := 3) (v := .ref (a 1)) (C := RX3) (T := TX3) (N := 3) hx hb hts in3 hown hE.1 hP 0 rfl rfl 0 (by decide) K7 (fun _ h9 => h9) rfl dX3_skew_46 ?_
            refine lv_bipush (v := 47) hx hb dX3_skew_49 (by decide) ?_
            refine lv_iload hx hb dX3_skew_51 (lv_at hl 4 rfl) ?_
            refine lv_iadd hx hb dX3_skew_53 ?_
            refine tpe (y := nI (47 + i)) (nI_add 47 i) ?_
            refine q_iald hx hb hE hP 1 rfl (j := (47 + i)) (v := ((upd g (47 + (ix x)) n) (47 + i))) rfl (by omega) (by decide) rfl dX3_skew_54 ?_
            refine lv_aload_n hx hb dX3_skew_55 rfl (lv_at hl 0 rfl) ?_
            refine va_get (D := E.1) (ci := 3) (v := .ref (a 1)) (C := RX3) (T := TX3) (N := 3) hx hb hts in3 hown hE.1 hP 0 rfl rfl 0 (by decide) K7 (fun _ h9 => h9) rfl dX3_skew_56 ?_
            refine lv_iconst (v := 3) hx hb dX3_skew_59 (by decide) ?_
            refine q_iald hx hb hE hP 1 rfl (j := 3) (v := (g 3)) rfl (by omega) (by decide) (up_n (by omega)) dX3_skew_60 ?_
            have J_89_4 : ∀ (w : Int32) (H : Heap) (locs : List Loc), va_P E.1 vwCl (ms E a (upd g (47 + (ix x)) n) im kp) H → va_D A (ms E a (upd g (47 + (ix x)) n) im kp) → va_S A s.heap H locs → w = (if (g 3) < ((upd g (47 + (ix x)) n) (47 + i)) then 1 else (if (-(g 3)) ≤ ((upd g (47 + (ix x)) n) (47 + i)) then 0 else 1) : Int32) → W p l e { frames := 2, cells := 0, slots := 0, locals := 42 } s m args below meth c H locs 0 0 Q (F0 m 89 ls [.int w, .int S38]) := by
              intro w H locs hP hD hS ew
              subst ew
              refine lv_iadd hx hb dX3_skew_89 ?_
              refine lv_istore_n (lv' := [(3, .int (S38 + (if (g 3) < ((upd g (47 + (ix x)) n) (47 + i)) then 1 else (if (-(g 3)) ≤ ((upd g (47 + (ix x)) n) (47 + i)) then 0 else 1) : Int32))), (0, .ref (a 0)), (1, .int x), (2, .int n), (4, .int (nI i))]) hx hb dX3_skew_90 rfl hl (by decide) rfl (fun ls hl => ?_)
              refine lv_iinc (v := (nI (i + 1))) (lv' := [(4, .int (nI (i + 1))), (3, .int (S38 + (if (g 3) < ((upd g (47 + (ix x)) n) (47 + i)) then 1 else (if (-(g 3)) ≤ ((upd g (47 + (ix x)) n) (47 + i)) then 0 else 1) : Int32))), (0, .ref (a 0)), (1, .int x), (2, .int n)]) hx hb dX3_skew_91 hl (k := 4) rfl (nI_1 i) (by decide) rfl (fun ls hl => ?_)
              refine lv_goto (tgt := 38) hx hb dX3_skew_94 (by decide) ?_
              have eS1 : ((S38 + (if (g 3) < ((upd g (47 + (ix x)) n) (47 + i)) then 1 else (if (-(g 3)) ≤ ((upd g (47 + (ix x)) n) (47 + i)) then 0 else 1) : Int32)) : Int32) = (q_X3_skew_38 g x n 0 (i + 1)) := by
                show _ = p_X3_skew_38 g x n (q_X3_skew_38 g x n 0 i) i
                rw [← eS38]
                rfl
              exact ih (i + 1) (by omega) (by omega) (S38 + (if (g 3) < ((upd g (47 + (ix x)) n) (47 + i)) then 1 else (if (-(g 3)) ≤ ((upd g (47 + (ix x)) n) (47 + i)) then 0 else 1) : Int32)) eS1 _ _ hP hD hS ls (lv_sub hl [2, 3, 4, 1, 0] rfl)
            refine lv_icmp_gt (tgt := 84) hx hb dX3_skew_61 (by decide) (fun c_5 => ?_) (fun c_5 => ?_)
            · refine lv_iconst (v := 1) hx hb dX3_skew_84 (by decide) ?_
              refine lv_goto (tgt := 89) hx hb dX3_skew_85 (by decide) ?_
              exact J_89_4 _ _ _ hP hD hS (by rw [if_pos c_5])
            · refine lv_aload_n hx hb dX3_skew_64 rfl (lv_at hl 0 rfl) ?_
              refine va_get (D := E.1) (ci := 3) (v := .ref (a 1)) (C := RX3) (T := TX3) (N := 3) hx hb hts in3 hown hE.1 hP 0 rfl rfl 0 (by decide) K7 (fun _ h9 => h9) rfl dX3_skew_65 ?_
              refine lv_bipush (v := 47) hx hb dX3_skew_68 (by decide) ?_
              refine lv_iload hx hb dX3_skew_70 (lv_at hl 4 rfl) ?_
              refine lv_iadd hx hb dX3_skew_72 ?_
              refine tpe (y := nI (47 + i)) (nI_add 47 i) ?_
              refine q_iald hx hb hE hP 1 rfl (j := (47 + i)) (v := ((upd g (47 + (ix x)) n) (47 + i))) rfl (by omega) (by decide) rfl dX3_skew_73 ?_
              refine lv_aload_n hx hb dX3_skew_74 rfl (lv_at hl 0 rfl) ?_
              refine va_get (D := E.1) (ci := 3) (v := .ref (a 1)) (C := RX3) (T := TX3) (N := 3) hx hb hts in3 hown hE.1 hP 0 rfl rfl 0 (by decide) K7 (fun _ h9 => h9) rfl dX3_skew_75 ?_
              refine lv_iconst (v := 3) hx hb dX3_skew_78 (by decide) ?_
              refine q_iald hx hb hE hP 1 rfl (j := 3) (v := (g 3)) rfl (by omega) (by decide) (up_n (by omega)) dX3_skew_79 ?_
              refine lv_ineg hx hb dX3_skew_80 ?_
              refine lv_icmp_ge (tgt := 88) hx hb dX3_skew_81 (by decide) (fun c_6 => ?_) (fun c_6 => ?_)
              · refine lv_iconst (v := 0) hx hb dX3_skew_88 (by decide) ?_
                exact J_89_4 _ _ _ hP hD hS (by rw [if_neg c_5, if_pos c_6])
              · refine lv_iconst (v := 1) hx hb dX3_skew_84 (by decide) ?_
                refine lv_goto (tgt := 89) hx hb dX3_skew_85 (by decide) ?_
                exact J_89_4 _ _ _ hP hD hS (by rw [if_neg c_5, if_neg c_6])
      exact lp38 (5 + 1) 0 (Nat.zero_le _) (by omega) 0 rfl _ _ hP hD hS ls (lv_sub hl [2, 3, 4, 1, 0] rfl)
    · refine lv_bipush (v := -2) hx hb dX3_skew_20 (by decide) ?_
      have eg : g = (s_X3_skew g x n) := (by unfold s_X3_skew; rw [if_neg c_1, if_pos c_2])
      exact hret _ _ _ _ _ (by rw [← eg]; exact hP) (by rw [← eg]; exact hD) hS (by unfold f_X3_skew; rw [if_neg c_1, if_pos c_2]) dX3_skew_22
  · refine lv_iconst (v := -1) hx hb dX3_skew_7 (by decide) ?_
    have eg : g = (s_X3_skew g x n) := (by unfold s_X3_skew; rw [if_pos c_1])
    exact hret _ _ _ _ _ (by rw [← eg]; exact hP) (by rw [← eg]; exact hD) hS (by unfold f_X3_skew; rw [if_pos c_1]) dX3_skew_8
def p_X3_isSettled_4 (g : Nat → Int32) (t : Nat) (S4 : (Nat → Int32) × Int32) (i : Nat) : (Nat → Int32) × Int32 := (if (f_X3_isHolder S4.1 i t) = 0 then (S4.1, S4.2) else (if (S4.1 0) < (S4.1 (52 + 3 * i + t / 4)) then (if (S4.1 (17 + t)) = 1 then (if (S4.1 (42 + i)) = 1 then ((upd (upd (upd (upd (upd S4.1 306 ((S4.1 306) + 1)) (262 + 6 * i + 4) ((S4.1 (262 + 6 * i + 4)) + 1)) (82 + 12 * i + t) (-6)) (142 + 12 * i + t) 0) (202 + 12 * i + t) 0), S4.2) else (S4.1, 0)) else (S4.1, 0)) else ((upd (upd (upd S4.1 307 ((S4.1 307) + (if (((S4.1 (67 + 3 * i + t / 4)) >>> ((nI t) &&& 31)) &&& 1) = 0 then 1 else 0 : Int32))) (67 + 3 * i + t / 4) ((S4.1 (67 + 3 * i + t / 4)) ||| (1 <<< ((nI t) &&& 31)))) (202 + 12 * i + t) 0), S4.2)))
def q_X3_isSettled_4 (g : Nat → Int32) (t : Nat) (S0 : (Nat → Int32) × Int32) : Nat → (Nat → Int32) × Int32
  | 0 => S0
  | i + 1 => p_X3_isSettled_4 g t (q_X3_isSettled_4 g t S0 i) i
def s_X3_isSettled (g : Nat → Int32) (t : Nat) : Nat → Int32 := (if (q_X3_isSettled_4 g t (g, 1) 5).2 = 0 then (q_X3_isSettled_4 g t (g, 1) 5).1 else (upd (upd (upd (q_X3_isSettled_4 g t (g, 1) 5).1 (5 + t) (((q_X3_isSettled_4 g t (g, 1) 5).1 (5 + t)) + 1)) (17 + t) (-6)) 305 (((q_X3_isSettled_4 g t (g, 1) 5).1 305) + 1)))
def f_X3_isSettled (g : Nat → Int32) (t : Nat) : Int32 := (if (q_X3_isSettled_4 g t (g, 1) 5).2 = 0 then (q_X3_isSettled_4 g t (g, 1) 5).2 else (q_X3_isSettled_4 g t (g, 1) 5).2)
theorem fr_X3_isSettled (g : Nat → Int32) (t : Nat) (S0 : (Nat → Int32) × Int32) (h0 : S0.2 = 0 ∨ S0.2 = 1) : ∀ i, (q_X3_isSettled_4 g t S0 i).2 = 0 ∨ (q_X3_isSettled_4 g t S0 i).2 = 1
  | 0 => h0
  | i + 1 => by
    have ih := fr_X3_isSettled g t S0 h0 i
    show (p_X3_isSettled_4 g t (q_X3_isSettled_4 g t S0 i) i).2 = 0 ∨ (p_X3_isSettled_4 g t (q_X3_isSettled_4 g t S0 i) i).2 = 1
    generalize q_X3_isSettled_4 g t S0 i = S at ih ⊢
    unfold p_X3_isSettled_4
    (repeat' split) <;> first | exact ih | exact Or.inl rfl
theorem nar_X3_isSettled (g : Nat → Int32) (t : Nat) : narrow .boolean (.int (f_X3_isSettled g t)) = .int (f_X3_isSettled g t) := by
  unfold f_X3_isSettled
  have h := fr_X3_isSettled g t (g, 1) (Or.inr rfl) 5
  generalize (q_X3_isSettled_4 g t (g, 1) 5).2 = z at h ⊢
  rcases h with rfl | rfl <;> rfl
theorem kq_X3_isSettled (g : Nat → Int32) (t : Nat) {j : Nat} (h : j < 67) : ∀ i, (q_X3_isSettled_4 g t (g, 1) i).1 j = g j
  | 0 => rfl
  | i + 1 => by
    have ih := kq_X3_isSettled g t h i
    show (p_X3_isSettled_4 g t (q_X3_isSettled_4 g t (g, 1) i) i).1 j = g j
    generalize q_X3_isSettled_4 g t (g, 1) i = S at ih ⊢
    unfold p_X3_isSettled_4
    (repeat' split) <;> dsimp only <;> (repeat rw [up_n (by omega)]) <;> exact ih
theorem ks_X3_isSettled (g : Nat → Int32) {t j : Nat} (h : j < 67) (h1 : j ≠ 5 + t) (h2 : j ≠ 17 + t) : s_X3_isSettled g t j = g j := by
  unfold s_X3_isSettled
  have e := kq_X3_isSettled g t h 5
  generalize q_X3_isSettled_4 g t (g, 1) 5 = S at e ⊢
  split
  · exact e
  · (repeat rw [up_n (by omega)]); exact e
set_option maxHeartbeats 4000000 in
set_option maxRecDepth 100000 in
theorem k_X3_isSettled (l : Launch) (E : EE) (a : Nat → Nat) (g im kp : Nat → Int32) (t : Nat) (ht : t < 12) : Ci l E yX3_isSettled wsX3_isSettled { frames := 2, cells := 0, slots := 0, locals := 44 } [.ref (a 0), .int (nI t)] (ms E a g im kp) (f_X3_isSettled g t) (ms E a (s_X3_isSettled g t) im kp) := by
  refine Ci.of (cc := cX3_isSettled) (maxL := 5) (rt := .boolean) (by decide) rfl (nar_X3_isSettled g t) (Nat.le_of_ble_eq_true rfl) ?_
  intro p e s m args below meth c A Q F hE hA hret hP hD ls hl
  obtain ⟨hx, hb, hml, hown, hts⟩ := id F
  have hS : va_S A s.heap s.heap [] := va_S.rf
  have hl : lv_has ls 5 [(0, .ref (a 0)), (1, .int (nI t))] := hl
  have in3 : ∀ w ∈ wsX30, w ∈ wsX3_isSettled := fun w h => List.mem_cons_of_mem _ (List.mem_append_right _ h)
  have K7 := hts (.fieldLink RX3 7 "PromiseHoursModel" "state" "[I") (by decide +kernel)
  refine lv_iconst (v := 1) hx hb dX3_isSettled_0 (by decide) ?_
  refine lv_istore_n (lv' := [(2, .int 1), (0, .ref (a 0)), (1, .int (nI t))]) hx hb dX3_isSettled_1 rfl hl (by decide) rfl (fun ls hl => ?_)
  refine lv_iconst (v := 0) hx hb dX3_isSettled_2 (by decide) ?_
  refine lv_istore_n (lv' := [(3, .int 0), (2, .int 1), (0, .ref (a 0)), (1, .int (nI t))]) hx hb dX3_isSettled_3 rfl hl (by decide) rfl (fun ls hl => ?_)
  have lp4 : ∀ (fu i : Nat), i ≤ 5 → 5 + 1 ≤ i + fu → ∀ (S4a : (Nat → Int32)) (S4b : Int32), (S4a, S4b) = (q_X3_isSettled_4 g t (g, 1) i) → ∀ (H : Heap) (locs : List Loc), va_P E.1 vwCl (ms E a S4a im kp) H → va_D A (ms E a S4a im kp) → va_S A s.heap H locs → ∀ ls : Array Slot, lv_has ls 5 [(0, .ref (a 0)), (1, .int (nI t)), (2, .int S4b), (3, .int (nI i))] → W p l e { frames := 2, cells := 0, slots := 0, locals := 44 } s m args below meth c H locs 0 0 Q (F0 m 4 ls []) := by
    intro fu
    induction fu with
    | zero => intro i h1 h2; exact absurd h2 (by omega)
    | succ fu ih =>
      intro i hi hin S4a S4b eS4 H locs hP hD hS ls hl
      refine lv_iload_n hx hb dX3_isSettled_4 rfl (lv_at hl 3 rfl) ?_
      refine lv_iconst (v := 5) hx hb dX3_isSettled_5 (by decide) ?_
      refine lv_icmp_ge (tgt := 177) hx hb dX3_isSettled_6 (by decide) (fun c_1 => ?_) (fun c_1 => ?_)
      · have hiN : i = 5 := by have := (nI_leI (a := 5) (b := i) (by omega) (by omega)).mp c_1; omega
        rw [hiN] at eS4 hl
        have eS4a : S4a = (q_X3_isSettled_4 g t (g, 1) 5).1 := by rw [← eS4]
        have eS4b : S4b = (q_X3_isSettled_4 g t (g, 1) 5).2 := by rw [← eS4]
        refine lv_iload_n hx hb dX3_isSettled_177 rfl (lv_at hl 2 rfl) ?_
        refine lv_if_eq (tgt := 216) hx hb dX3_isSettled_178 (by decide) (fun c_2 => ?_) (fun c_2 => ?_)
        · refine lv_iload_n hx hb dX3_isSettled_216 rfl (lv_at hl 2 rfl) ?_
          have eg : S4a = (s_X3_isSettled g t) := (by unfold s_X3_isSettled; (try rw [← eS4b]); (try rw [← eS4a]); rw [if_pos c_2])
          exact hret _ _ _ _ _ (by rw [← eg]; exact hP) (by rw [← eg]; exact hD) hS (by unfold f_X3_isSettled; (try rw [← eS4b]); (try rw [← eS4a]); rw [if_pos c_2]) dX3_isSettled_217
        · refine lv_aload_n hx hb dX3_isSettled_181 rfl (lv_at hl 0 rfl) ?_
          refine va_get (D := E.1) (ci := 3) (v := .ref (a 1)) (C := RX3) (T := TX3) (N := 3) hx hb hts in3 hown hE.1 hP 0 rfl rfl 0 (by decide) K7 (fun _ h9 => h9) rfl dX3_isSettled_182 ?_
          refine lv_iconst (v := 5) hx hb dX3_isSettled_185 (by decide) ?_
          refine lv_iload_n hx hb dX3_isSettled_186 rfl (lv_at hl 1 rfl) ?_
          refine lv_iadd hx hb dX3_isSettled_187 ?_
          refine tpe (y := nI (5 + t)) (nI_add 5 t) ?_
          refine lv_dup2_11 hx hb dX3_isSettled_188 rfl rfl ?_
          refine q_iald hx hb hE hP 1 rfl (j := (5 + t)) (v := (S4a (5 + t))) rfl (by omega) (by decide) rfl dX3_isSettled_189 ?_
          refine lv_iconst (v := 1) hx hb dX3_isSettled_190 (by decide) ?_
          refine lv_iadd hx hb dX3_isSettled_191 ?_
          refine q_iast hx hb hE hP hD hS 1 rfl (j := (5 + t)) (wd' := (ms E a (upd S4a (5 + t) ((S4a (5 + t)) + 1)) im kp)) rfl (by omega) (by decide) rfl dX3_isSettled_192 (fun H locs hP hD hS => ?_)
          refine lv_aload_n hx hb dX3_isSettled_193 rfl (lv_at hl 0 rfl) ?_
          refine va_get (D := E.1) (ci := 3) (v := .ref (a 1)) (C := RX3) (T := TX3) (N := 3) hx hb hts in3 hown hE.1 hP 0 rfl rfl 0 (by decide) K7 (fun _ h9 => h9) rfl dX3_isSettled_194 ?_
          refine lv_bipush (v := 17) hx hb dX3_isSettled_197 (by decide) ?_
          refine lv_iload_n hx hb dX3_isSettled_199 rfl (lv_at hl 1 rfl) ?_
          refine lv_iadd hx hb dX3_isSettled_200 ?_
          refine tpe (y := nI (17 + t)) (nI_add 17 t) ?_
          refine lv_bipush (v := -6) hx hb dX3_isSettled_201 (by decide) ?_
          refine q_iast hx hb hE hP hD hS 1 rfl (j := (17 + t)) (wd' := (ms E a (upd (upd S4a (5 + t) ((S4a (5 + t)) + 1)) (17 + t) (-6)) im kp)) rfl (by omega) (by decide) rfl dX3_isSettled_203 (fun H locs hP hD hS => ?_)
          refine lv_aload_n hx hb dX3_isSettled_204 rfl (lv_at hl 0 rfl) ?_
          refine va_get (D := E.1) (ci := 3) (v := .ref (a 1)) (C := RX3) (T := TX3) (N := 3) hx hb hts in3 hown hE.1 hP 0 rfl rfl 0 (by decide) K7 (fun _ h9 => h9) rfl dX3_isSettled_205 ?_
          refine lv_sipush (v := 305) hx hb dX3_isSettled_208 (by decide) ?_
          refine lv_dup2_11 hx hb dX3_isSettled_211 rfl rfl ?_
          refine q_iald hx hb hE hP 1 rfl (j := 305) (v := (S4a 305)) rfl (by omega) (by decide) ((up_n (by omega)).trans (up_n (by omega))) dX3_isSettled_212 ?_
          refine lv_iconst (v := 1) hx hb dX3_isSettled_213 (by decide) ?_
          refine lv_iadd hx hb dX3_isSettled_214 ?_
          refine q_iast hx hb hE hP hD hS 1 rfl (j := 305) (wd' := (ms E a (upd (upd (upd S4a (5 + t) ((S4a (5 + t)) + 1)) (17 + t) (-6)) 305 ((S4a 305) + 1)) im kp)) rfl (by omega) (by decide) rfl dX3_isSettled_215 (fun H locs hP hD hS => ?_)
          refine lv_iload_n hx hb dX3_isSettled_216 rfl (lv_at hl 2 rfl) ?_
          have eg : (upd (upd (upd S4a (5 + t) ((S4a (5 + t)) + 1)) (17 + t) (-6)) 305 ((S4a 305) + 1)) = (s_X3_isSettled g t) := (by unfold s_X3_isSettled; (try rw [← eS4b]); (try rw [← eS4a]); rw [if_neg c_2])
          exact hret _ _ _ _ _ (by rw [← eg]; exact hP) (by rw [← eg]; exact hD) hS (by unfold f_X3_isSettled; (try rw [← eS4b]); (try rw [← eS4a]); rw [if_neg c_2]) dX3_isSettled_217
      · have hlt : i < 5 := Nat.lt_of_not_le (fun h => c_1 (nI_le (a := 5) (b := i) (by omega) (by omega)))
        refine lv_aload_n hx hb dX3_isSettled_9 rfl (lv_at hl 0 rfl) ?_
        refine lv_iload_n hx hb dX3_isSettled_10 rfl (lv_at hl 3 rfl) ?_
        refine lv_iload_n hx hb dX3_isSettled_11 rfl (lv_at hl 1 rfl) ?_
        refine ci_V F hE (k_X3_isHolder l E a S4a im kp i t (by omega) (by omega)) (cwV 2 hts gX3_isSettled_X3_isHolder rfl rfl rfl (by decide +kernel) ⟨Nat.le_of_ble_eq_true rfl, Nat.le_of_ble_eq_true rfl⟩) Fr.all 0 3 rfl rfl rfl hP hD hS hA rfl hl.1 rfl (Nat.le_of_ble_eq_true rfl) dX3_isSettled_12 ⟨Nat.zero_le _, Nat.zero_le _⟩ (fun H locs hP hD hS => ?_)
        refine lv_if_eq (tgt := 171) hx hb dX3_isSettled_15 (by decide) (fun c_3 => ?_) (fun c_3 => ?_)
        · refine lv_iinc (v := (nI (i + 1))) (lv' := [(3, .int (nI (i + 1))), (0, .ref (a 0)), (1, .int (nI t)), (2, .int S4b)]) hx hb dX3_isSettled_171 hl (k := 3) rfl (nI_1 i) (by decide) rfl (fun ls hl => ?_)
          refine lv_goto (tgt := 4) hx hb dX3_isSettled_174 (by decide) ?_
          have eS1 : ((S4a, S4b) : (Nat → Int32) × Int32) = (q_X3_isSettled_4 g t (g, 1) (i + 1)) := by
            show _ = p_X3_isSettled_4 g t (q_X3_isSettled_4 g t (g, 1) i) i
            rw [← eS4]
            unfold p_X3_isSettled_4; dsimp only; rw [if_pos c_3]
          exact ih (i + 1) (by omega) (by omega) S4a S4b eS1 _ _ hP hD hS ls (lv_sub hl [1, 2, 3, 0] rfl)
        · refine lv_aload_n hx hb dX3_isSettled_18 rfl (lv_at hl 0 rfl) ?_
          refine va_get (D := E.1) (ci := 3) (v := .ref (a 1)) (C := RX3) (T := TX3) (N := 3) hx hb hts in3 hown hE.1 hP 0 rfl rfl 0 (by decide) K7 (fun _ h9 => h9) rfl dX3_isSettled_19 ?_
          refine lv_bipush (v := 52) hx hb dX3_isSettled_22 (by decide) ?_
          refine lv_iload_n hx hb dX3_isSettled_24 rfl (lv_at hl 3 rfl) ?_
          refine lv_iload_n hx hb dX3_isSettled_25 rfl (lv_at hl 1 rfl) ?_
          refine ci_S F hE (k_X3_volumeAt l E 52 i t (by omega)) (va_cwS 3 hts gX3_isSettled_X3_volumeAt rfl rfl rfl (by decide +kernel) ⟨Nat.le_of_ble_eq_true rfl, Nat.le_of_ble_eq_true rfl⟩) Fr.nil hP hD hS hA rfl hl.1 rfl (Nat.le_of_ble_eq_true rfl) dX3_isSettled_26 ⟨Nat.zero_le _, Nat.zero_le _⟩ (fun H locs hP hD hS => ?_)
          refine q_iald hx hb hE hP 1 rfl (j := (52 + 3 * i + t / 4)) (v := (S4a (52 + 3 * i + t / 4))) rfl (by omega) (by decide) rfl dX3_isSettled_29 ?_
          refine lv_aload_n hx hb dX3_isSettled_30 rfl (lv_at hl 0 rfl) ?_
          refine va_get (D := E.1) (ci := 3) (v := .ref (a 1)) (C := RX3) (T := TX3) (N := 3) hx hb hts in3 hown hE.1 hP 0 rfl rfl 0 (by decide) K7 (fun _ h9 => h9) rfl dX3_isSettled_31 ?_
          refine lv_iconst (v := 0) hx hb dX3_isSettled_34 (by decide) ?_
          refine q_iald hx hb hE hP 1 rfl (j := 0) (v := (S4a 0)) rfl (by omega) (by decide) rfl dX3_isSettled_35 ?_
          refine lv_icmp_gt (tgt := 108) hx hb dX3_isSettled_36 (by decide) (fun c_4 => ?_) (fun c_4 => ?_)
          · refine lv_aload_n hx hb dX3_isSettled_108 rfl (lv_at hl 0 rfl) ?_
            refine va_get (D := E.1) (ci := 3) (v := .ref (a 1)) (C := RX3) (T := TX3) (N := 3) hx hb hts in3 hown hE.1 hP 0 rfl rfl 0 (by decide) K7 (fun _ h9 => h9) rfl dX3_isSettled_109 ?_
            refine lv_bipush (v := 17) hx hb dX3_isSettled_112 (by decide) ?_
            refine lv_iload_n hx hb dX3_isSettled_114 rfl (lv_at hl 1 rfl) ?_
            refine lv_iadd hx hb dX3_isSettled_115 ?_
            refine tpe (y := nI (17 + t)) (nI_add 17 t) ?_
            refine q_iald hx hb hE hP 1 rfl (j := (17 + t)) (v := (S4a (17 + t))) rfl (by omega) (by decide) rfl dX3_isSettled_116 ?_
            refine lv_iconst (v := 1) hx hb dX3_isSettled_117 (by decide) ?_
            refine lv_icmp_ne (tgt := 169) hx hb dX3_isSettled_118 (by decide) (fun c_5 => ?_) (fun c_5 => ?_)
            · refine lv_iconst (v := 0) hx hb dX3_isSettled_169 (by decide) ?_
              refine lv_istore_n (lv' := [(2, .int 0), (0, .ref (a 0)), (1, .int (nI t)), (3, .int (nI i))]) hx hb dX3_isSettled_170 rfl hl (by decide) rfl (fun ls hl => ?_)
              refine lv_iinc (v := (nI (i + 1))) (lv' := [(3, .int (nI (i + 1))), (2, .int 0), (0, .ref (a 0)), (1, .int (nI t))]) hx hb dX3_isSettled_171 hl (k := 3) rfl (nI_1 i) (by decide) rfl (fun ls hl => ?_)
              refine lv_goto (tgt := 4) hx hb dX3_isSettled_174 (by decide) ?_
              have eS1 : ((S4a, 0) : (Nat → Int32) × Int32) = (q_X3_isSettled_4 g t (g, 1) (i + 1)) := by
                show _ = p_X3_isSettled_4 g t (q_X3_isSettled_4 g t (g, 1) i) i
                rw [← eS4]
                unfold p_X3_isSettled_4; dsimp only; rw [if_neg c_3, if_pos c_4, if_neg c_5]
              exact ih (i + 1) (by omega) (by omega) S4a 0 eS1 _ _ hP hD hS ls (lv_sub hl [2, 3, 1, 0] rfl)
            · refine lv_aload_n hx hb dX3_isSettled_121 rfl (lv_at hl 0 rfl) ?_
              refine va_get (D := E.1) (ci := 3) (v := .ref (a 1)) (C := RX3) (T := TX3) (N := 3) hx hb hts in3 hown hE.1 hP 0 rfl rfl 0 (by decide) K7 (fun _ h9 => h9) rfl dX3_isSettled_122 ?_
              refine lv_bipush (v := 42) hx hb dX3_isSettled_125 (by decide) ?_
              refine lv_iload_n hx hb dX3_isSettled_127 rfl (lv_at hl 3 rfl) ?_
              refine lv_iadd hx hb dX3_isSettled_128 ?_
              refine tpe (y := nI (42 + i)) (nI_add 42 i) ?_
              refine q_iald hx hb hE hP 1 rfl (j := (42 + i)) (v := (S4a (42 + i))) rfl (by omega) (by decide) rfl dX3_isSettled_129 ?_
              refine lv_iconst (v := 1) hx hb dX3_isSettled_130 (by decide) ?_
              refine lv_icmp_ne (tgt := 169) hx hb dX3_isSettled_131 (by decide) (fun c_6 => ?_) (fun c_6 => ?_)
              · refine lv_iconst (v := 0) hx hb dX3_isSettled_169 (by decide) ?_
                refine lv_istore_n (lv' := [(2, .int 0), (0, .ref (a 0)), (1, .int (nI t)), (3, .int (nI i))]) hx hb dX3_isSettled_170 rfl hl (by decide) rfl (fun ls hl => ?_)
                refine lv_iinc (v := (nI (i + 1))) (lv' := [(3, .int (nI (i + 1))), (2, .int 0), (0, .ref (a 0)), (1, .int (nI t))]) hx hb dX3_isSettled_171 hl (k := 3) rfl (nI_1 i) (by decide) rfl (fun ls hl => ?_)
                refine lv_goto (tgt := 4) hx hb dX3_isSettled_174 (by decide) ?_
                have eS1 : ((S4a, 0) : (Nat → Int32) × Int32) = (q_X3_isSettled_4 g t (g, 1) (i + 1)) := by
                  show _ = p_X3_isSettled_4 g t (q_X3_isSettled_4 g t (g, 1) i) i
                  rw [← eS4]
                  unfold p_X3_isSettled_4; dsimp only; rw [if_neg c_3, if_pos c_4, if_pos c_5, if_neg c_6]
                exact ih (i + 1) (by omega) (by omega) S4a 0 eS1 _ _ hP hD hS ls (lv_sub hl [2, 3, 1, 0] rfl)
              · refine lv_aload_n hx hb dX3_isSettled_134 rfl (lv_at hl 0 rfl) ?_
                refine va_get (D := E.1) (ci := 3) (v := .ref (a 1)) (C := RX3) (T := TX3) (N := 3) hx hb hts in3 hown hE.1 hP 0 rfl rfl 0 (by decide) K7 (fun _ h9 => h9) rfl dX3_isSettled_135 ?_
                refine lv_sipush (v := 306) hx hb dX3_isSettled_138 (by decide) ?_
                refine lv_dup2_11 hx hb dX3_isSettled_141 rfl rfl ?_
                refine q_iald hx hb hE hP 1 rfl (j := 306) (v := (S4a 306)) rfl (by omega) (by decide) rfl dX3_isSettled_142 ?_
                refine lv_iconst (v := 1) hx hb dX3_isSettled_143 (by decide) ?_
                refine lv_iadd hx hb dX3_isSettled_144 ?_
                refine q_iast hx hb hE hP hD hS 1 rfl (j := 306) (wd' := (ms E a (upd S4a 306 ((S4a 306) + 1)) im kp)) rfl (by omega) (by decide) rfl dX3_isSettled_145 (fun H locs hP hD hS => ?_)
                refine lv_aload_n hx hb dX3_isSettled_146 rfl (lv_at hl 0 rfl) ?_
                refine va_get (D := E.1) (ci := 3) (v := .ref (a 1)) (C := RX3) (T := TX3) (N := 3) hx hb hts in3 hown hE.1 hP 0 rfl rfl 0 (by decide) K7 (fun _ h9 => h9) rfl dX3_isSettled_147 ?_
                refine lv_iload_n hx hb dX3_isSettled_150 rfl (lv_at hl 3 rfl) ?_
                refine lv_iconst (v := 4) hx hb dX3_isSettled_151 (by decide) ?_
                refine ci_S F hE (k_X3_said l E i 4) (va_cwS 2 hts gX3_isSettled_X3_said rfl rfl rfl (by decide +kernel) ⟨Nat.le_of_ble_eq_true rfl, Nat.le_of_ble_eq_true rfl⟩) Fr.nil hP hD hS hA rfl hl.1 rfl (Nat.le_of_ble_eq_true rfl) dX3_isSettled_152 ⟨Nat.zero_le _, Nat.zero_le _⟩ (fun H locs hP hD hS => ?_)
                refine lv_dup2_11 hx hb dX3_isSettled_155 rfl rfl ?_
                refine q_iald hx hb hE hP 1 rfl (j := (262 + 6 * i + 4)) (v := (S4a (262 + 6 * i + 4))) rfl (by omega) (by decide) (up_n (by omega)) dX3_isSettled_156 ?_
                refine lv_iconst (v := 1) hx hb dX3_isSettled_157 (by decide) ?_
                refine lv_iadd hx hb dX3_isSettled_158 ?_
                refine q_iast hx hb hE hP hD hS 1 rfl (j := (262 + 6 * i + 4)) (wd' := (ms E a (upd (upd S4a 306 ((S4a 306) + 1)) (262 + 6 * i + 4) ((S4a (262 + 6 * i + 4)) + 1)) im kp)) rfl (by omega) (by decide) rfl dX3_isSettled_159 (fun H locs hP hD hS => ?_)
                refine lv_aload_n hx hb dX3_isSettled_160 rfl (lv_at hl 0 rfl) ?_
                refine lv_iload_n hx hb dX3_isSettled_161 rfl (lv_at hl 3 rfl) ?_
                refine lv_iload_n hx hb dX3_isSettled_162 rfl (lv_at hl 1 rfl) ?_
                refine cv_V F hE (k_X3_clear l E a (upd (upd S4a 306 ((S4a 306) + 1)) (262 + 6 * i + 4) ((S4a (262 + 6 * i + 4)) + 1)) im kp i t (by omega) (by omega)) (cwV 2 hts gX3_isSettled_X3_clear rfl rfl rfl (by decide +kernel) ⟨Nat.le_of_ble_eq_true rfl, Nat.le_of_ble_eq_true rfl⟩) Fr.all 0 3 rfl rfl rfl hP hD hS hA rfl hl.1 rfl (Nat.le_of_ble_eq_true rfl) dX3_isSettled_163 ⟨Nat.zero_le _, Nat.zero_le _⟩ (fun H locs hP hD hS => ?_)
                have hP : va_P E.1 vwCl (ms E a (upd (upd (upd (upd (upd S4a 306 ((S4a 306) + 1)) (262 + 6 * i + 4) ((S4a (262 + 6 * i + 4)) + 1)) (82 + 12 * i + t) (-6)) (142 + 12 * i + t) 0) (202 + 12 * i + t) 0) im kp) H := hP
                have hD : va_D A (ms E a (upd (upd (upd (upd (upd S4a 306 ((S4a 306) + 1)) (262 + 6 * i + 4) ((S4a (262 + 6 * i + 4)) + 1)) (82 + 12 * i + t) (-6)) (142 + 12 * i + t) 0) (202 + 12 * i + t) 0) im kp) := hD
                refine lv_goto (tgt := 171) hx hb dX3_isSettled_166 (by decide) ?_
                refine lv_iinc (v := (nI (i + 1))) (lv' := [(3, .int (nI (i + 1))), (0, .ref (a 0)), (1, .int (nI t)), (2, .int S4b)]) hx hb dX3_isSettled_171 hl (k := 3) rfl (nI_1 i) (by decide) rfl (fun ls hl => ?_)
                refine lv_goto (tgt := 4) hx hb dX3_isSettled_174 (by decide) ?_
                have eS1 : (((upd (upd (upd (upd (upd S4a 306 ((S4a 306) + 1)) (262 + 6 * i + 4) ((S4a (262 + 6 * i + 4)) + 1)) (82 + 12 * i + t) (-6)) (142 + 12 * i + t) 0) (202 + 12 * i + t) 0), S4b) : (Nat → Int32) × Int32) = (q_X3_isSettled_4 g t (g, 1) (i + 1)) := by
                  show _ = p_X3_isSettled_4 g t (q_X3_isSettled_4 g t (g, 1) i) i
                  rw [← eS4]
                  unfold p_X3_isSettled_4; dsimp only; rw [if_neg c_3, if_pos c_4, if_pos c_5, if_pos c_6]
                exact ih (i + 1) (by omega) (by omega) (upd (upd (upd (upd (upd S4a 306 ((S4a 306) + 1)) (262 + 6 * i + 4) ((S4a (262 + 6 * i + 4)) + 1)) (82 + 12 * i + t) (-6)) (142 + 12 * i + t) 0) (202 + 12 * i + t) 0) S4b eS1 _ _ hP hD hS ls (lv_sub hl [1, 2, 3, 0] rfl)
          · refine lv_bipush (v := 67) hx hb dX3_isSettled_39 (by decide) ?_
            refine lv_iload_n hx hb dX3_isSettled_41 rfl (lv_at hl 3 rfl) ?_
            refine lv_iload_n hx hb dX3_isSettled_42 rfl (lv_at hl 1 rfl) ?_
            refine ci_S F hE (k_X3_volumeAt l E 67 i t (by omega)) (va_cwS 3 hts gX3_isSettled_X3_volumeAt rfl rfl rfl (by decide +kernel) ⟨Nat.le_of_ble_eq_true rfl, Nat.le_of_ble_eq_true rfl⟩) Fr.nil hP hD hS hA rfl hl.1 rfl (Nat.le_of_ble_eq_true rfl) dX3_isSettled_43 ⟨Nat.zero_le _, Nat.zero_le _⟩ (fun H locs hP hD hS => ?_)
            refine lv_istore (lv' := [(4, .int (nI (67 + 3 * i + t / 4))), (0, .ref (a 0)), (1, .int (nI t)), (2, .int S4b), (3, .int (nI i))]) hx hb dX3_isSettled_46 hl (by decide) rfl (fun ls hl => ?_)
            refine lv_aload_n hx hb dX3_isSettled_48 rfl (lv_at hl 1 rfl) ?_
            refine va_get (D := E.1) (ci := 3) (v := .ref (a 1)) (C := RX3) (T := TX3) (N := 3) hx hb hts in3 hown hE.1 hP 0 rfl rfl 0 (by decide) K7 (fun _ h9 => h9) rfl dX3_isSettled_49 ?_
            refine lv_sipush (v := 307) hx hb dX3_isSettled_52 (by decide) ?_
            refine lv_dup2_11 hx hb dX3_isSettled_55 rfl rfl ?_
            refine q_iald hx hb hE hP 1 rfl (j := 307) (v := (S4a 307)) rfl (by omega) (by decide) rfl dX3_isSettled_56 ?_
            refine lv_aload_n hx hb dX3_isSettled_57 rfl (lv_at hl 1 rfl) ?_
            refine va_get (D := E.1) (ci := 3) (v := .ref (a 1)) (C := RX3) (T := TX3) (N := 3) hx hb hts in3 hown hE.1 hP 0 rfl rfl 0 (by decide) K7 (fun _ h9 => h9) rfl dX3_isSettled_58 ?_
            refine lv_iload hx hb dX3_isSettled_61 (lv_at hl 0 rfl) ?_
            refine q_iald hx hb hE hP 1 rfl (j := (67 + 3 * i + t / 4)) (v := (S4a (67 + 3 * i + t / 4))) rfl (by omega) (by decide) rfl dX3_isSettled_63 ?_
            refine lv_iload_n hx hb dX3_isSettled_64 rfl (lv_at hl 2 rfl) ?_
            refine lv_ishr hx hb dX3_isSettled_65 ?_
            refine lv_iconst (v := 1) hx hb dX3_isSettled_66 (by decide) ?_
            refine lv_iand hx hb dX3_isSettled_67 ?_
            have J_76_7 : ∀ (w : Int32) (H : Heap) (locs : List Loc), va_P E.1 vwCl (ms E a S4a im kp) H → va_D A (ms E a S4a im kp) → va_S A s.heap H locs → w = (if (((S4a (67 + 3 * i + t / 4)) >>> ((nI t) &&& 31)) &&& 1) = 0 then 1 else 0 : Int32) → W p l e { frames := 2, cells := 0, slots := 0, locals := 44 } s m args below meth c H locs 0 0 Q (F0 m 76 ls [.int w, .int (S4a 307), .int 307, .ref (a 1)]) := by
              intro w H locs hP hD hS ew
              subst ew
              refine lv_iadd hx hb dX3_isSettled_76 ?_
              refine q_iast hx hb hE hP hD hS 1 rfl (j := 307) (wd' := (ms E a (upd S4a 307 ((S4a 307) + (if (((S4a (67 + 3 * i + t / 4)) >>> ((nI t) &&& 31)) &&& 1) = 0 then 1 else 0 : Int32))) im kp)) rfl (by omega) (by decide) rfl dX3_isSettled_77 (fun H locs hP hD hS => ?_)
              refine lv_aload_n hx hb dX3_isSettled_78 rfl (lv_at hl 1 rfl) ?_
              refine va_get (D := E.1) (ci := 3) (v := .ref (a 1)) (C := RX3) (T := TX3) (N := 3) hx hb hts in3 hown hE.1 hP 0 rfl rfl 0 (by decide) K7 (fun _ h9 => h9) rfl dX3_isSettled_79 ?_
              refine lv_iload hx hb dX3_isSettled_82 (lv_at hl 0 rfl) ?_
              refine lv_dup2_11 hx hb dX3_isSettled_84 rfl rfl ?_
              refine q_iald hx hb hE hP 1 rfl (j := (67 + 3 * i + t / 4)) (v := (S4a (67 + 3 * i + t / 4))) rfl (by omega) (by decide) (up_n (by omega)) dX3_isSettled_85 ?_
              refine lv_iconst (v := 1) hx hb dX3_isSettled_86 (by decide) ?_
              refine lv_iload_n hx hb dX3_isSettled_87 rfl (lv_at hl 2 rfl) ?_
              refine lv_ishl hx hb dX3_isSettled_88 ?_
              refine lv_ior hx hb dX3_isSettled_89 ?_
              refine q_iast hx hb hE hP hD hS 1 rfl (j := (67 + 3 * i + t / 4)) (wd' := (ms E a (upd (upd S4a 307 ((S4a 307) + (if (((S4a (67 + 3 * i + t / 4)) >>> ((nI t) &&& 31)) &&& 1) = 0 then 1 else 0 : Int32))) (67 + 3 * i + t / 4) ((S4a (67 + 3 * i + t / 4)) ||| (1 <<< ((nI t) &&& 31)))) im kp)) rfl (by omega) (by decide) rfl dX3_isSettled_90 (fun H locs hP hD hS => ?_)
              refine lv_aload_n hx hb dX3_isSettled_91 rfl (lv_at hl 1 rfl) ?_
              refine va_get (D := E.1) (ci := 3) (v := .ref (a 1)) (C := RX3) (T := TX3) (N := 3) hx hb hts in3 hown hE.1 hP 0 rfl rfl 0 (by decide) K7 (fun _ h9 => h9) rfl dX3_isSettled_92 ?_
              refine lv_sipush (v := 202) hx hb dX3_isSettled_95 (by decide) ?_
              refine lv_iload_n hx hb dX3_isSettled_98 rfl (lv_at hl 4 rfl) ?_
              refine lv_iload_n hx hb dX3_isSettled_99 rfl (lv_at hl 2 rfl) ?_
              refine ci_S F hE (k_X3_thingAt l E 202 i t) (va_cwS 3 hts gX3_isSettled_X3_thingAt rfl rfl rfl (by decide +kernel) ⟨Nat.le_of_ble_eq_true rfl, Nat.le_of_ble_eq_true rfl⟩) Fr.nil hP hD hS hA rfl hl.1 rfl (Nat.le_of_ble_eq_true rfl) dX3_isSettled_100 ⟨Nat.zero_le _, Nat.zero_le _⟩ (fun H locs hP hD hS => ?_)
              refine lv_iconst (v := 0) hx hb dX3_isSettled_103 (by decide) ?_
              refine q_iast hx hb hE hP hD hS 1 rfl (j := (202 + 12 * i + t)) (wd' := (ms E a (upd (upd (upd S4a 307 ((S4a 307) + (if (((S4a (67 + 3 * i + t / 4)) >>> ((nI t) &&& 31)) &&& 1) = 0 then 1 else 0 : Int32))) (67 + 3 * i + t / 4) ((S4a (67 + 3 * i + t / 4)) ||| (1 <<< ((nI t) &&& 31)))) (202 + 12 * i + t) 0) im kp)) rfl (by omega) (by decide) rfl dX3_isSettled_104 (fun H locs hP hD hS => ?_)
              refine lv_goto (tgt := 171) hx hb dX3_isSettled_105 (by decide) ?_
              refine lv_iinc (v := (nI (i + 1))) (lv' := [(3, .int (nI (i + 1))), (4, .int (nI (67 + 3 * i + t / 4))), (0, .ref (a 0)), (1, .int (nI t)), (2, .int S4b)]) hx hb dX3_isSettled_171 hl (k := 4) rfl (nI_1 i) (by decide) rfl (fun ls hl => ?_)
              refine lv_goto (tgt := 4) hx hb dX3_isSettled_174 (by decide) ?_
              have eS1 : (((upd (upd (upd S4a 307 ((S4a 307) + (if (((S4a (67 + 3 * i + t / 4)) >>> ((nI t) &&& 31)) &&& 1) = 0 then 1 else 0 : Int32))) (67 + 3 * i + t / 4) ((S4a (67 + 3 * i + t / 4)) ||| (1 <<< ((nI t) &&& 31)))) (202 + 12 * i + t) 0), S4b) : (Nat → Int32) × Int32) = (q_X3_isSettled_4 g t (g, 1) (i + 1)) := by
                show _ = p_X3_isSettled_4 g t (q_X3_isSettled_4 g t (g, 1) i) i
                rw [← eS4]
                unfold p_X3_isSettled_4; dsimp only; rw [if_neg c_3, if_neg c_4]
              exact ih (i + 1) (by omega) (by omega) (upd (upd (upd S4a 307 ((S4a 307) + (if (((S4a (67 + 3 * i + t / 4)) >>> ((nI t) &&& 31)) &&& 1) = 0 then 1 else 0 : Int32))) (67 + 3 * i + t / 4) ((S4a (67 + 3 * i + t / 4)) ||| (1 <<< ((nI t) &&& 31)))) (202 + 12 * i + t) 0) S4b eS1 _ _ hP hD hS ls (lv_sub hl [2, 3, 4, 0] rfl)
            refine lv_if_ne (tgt := 75) hx hb dX3_isSettled_68 (by decide) (fun c_8 => ?_) (fun c_8 => ?_)
            · refine lv_iconst (v := 0) hx hb dX3_isSettled_75 (by decide) ?_
              exact J_76_7 _ _ _ hP hD hS (by rw [if_neg c_8])
            · refine lv_iconst (v := 1) hx hb dX3_isSettled_71 (by decide) ?_
              refine lv_goto (tgt := 76) hx hb dX3_isSettled_72 (by decide) ?_
              exact J_76_7 _ _ _ hP hD hS (by rw [if_pos c_8])
  exact lp4 (5 + 1) 0 (Nat.zero_le _) (by omega) g 1 rfl _ _ hP hD hS ls (lv_sub hl [2, 3, 1, 0] rfl)
def s_X3_addCause (g : Nat → Int32) (b : Int32) (k : Int32) : Nat → Int32 := (if b = 0 then g else (upd (upd g (292 + (ix (g 296))) k) 296 ((g 296) + 1)))
set_option maxHeartbeats 4000000 in
set_option maxRecDepth 100000 in
theorem k_X3_addCause (l : Launch) (E : EE) (a : Nat → Nat) (g im kp : Nat → Int32) (b : Int32) (k : Int32) (hm : ¬ b = 0 → ix (g 296) < 4 ∧ g 296 = nI (ix (g 296))) : Cv l E yX3_addCause wsX3_addCause { frames := 0, cells := 0, slots := 0, locals := 0 } [.ref (a 0), .int b, .int k] (ms E a g im kp) (ms E a (s_X3_addCause g b k) im kp) := by
  refine Cv.of (cc := cX3_addCause) (maxL := 3) (by decide) rfl (Nat.le_of_ble_eq_true rfl) ?_
  intro p e s m args below meth c A Q F hE hA hret hP hD ls hl
  obtain ⟨hx, hb, hml, hown, hts⟩ := id F
  have hS : va_S A s.heap s.heap [] := va_S.rf
  have hl : lv_has ls 3 [(0, .ref (a 0)), (1, .int b), (2, .int k)] := hl
  have in3 : ∀ w ∈ wsX30, w ∈ wsX3_addCause := fun w h => List.mem_cons_of_mem _ (List.mem_append_right _ h)
  have K7 := hts (.fieldLink RX3 7 "PromiseHoursModel" "state" "[I") (by decide +kernel)
  refine lv_iload_n hx hb dX3_addCause_0 rfl (lv_at hl 1 rfl) ?_
  refine lv_if_eq (tgt := 34) hx hb dX3_addCause_1 (by decide) (fun c_1 => ?_) (fun c_1 => ?_)
  · skip
    have eg : g = (s_X3_addCause g b k) := (by unfold s_X3_addCause; rw [if_pos c_1])
    exact hret _ _ _ _ (by rw [← eg]; exact hP) (by rw [← eg]; exact hD) hS dX3_addCause_34
  · obtain ⟨hm1, hm2⟩ := hm c_1
    refine lv_aload_n hx hb dX3_addCause_4 rfl (lv_at hl 0 rfl) ?_
    refine va_get (D := E.1) (ci := 3) (v := .ref (a 1)) (C := RX3) (T := TX3) (N := 3) hx hb hts in3 hown hE.1 hP 0 rfl rfl 0 (by decide) K7 (fun _ h9 => h9) rfl dX3_addCause_5 ?_
    refine lv_sipush (v := 292) hx hb dX3_addCause_8 (by decide) ?_
    refine lv_aload_n hx hb dX3_addCause_11 rfl (lv_at hl 0 rfl) ?_
    refine va_get (D := E.1) (ci := 3) (v := .ref (a 1)) (C := RX3) (T := TX3) (N := 3) hx hb hts in3 hown hE.1 hP 0 rfl rfl 0 (by decide) K7 (fun _ h9 => h9) rfl dX3_addCause_12 ?_
    refine lv_sipush (v := 296) hx hb dX3_addCause_15 (by decide) ?_
    refine q_iald hx hb hE hP 1 rfl (j := 296) (v := (g 296)) rfl (by omega) (by decide) rfl dX3_addCause_18 ?_
    refine tpe (y := nI (ix (g 296))) hm2 ?_
    refine lv_iadd hx hb dX3_addCause_19 ?_
    refine tpe (y := nI (292 + (ix (g 296)))) (nI_add 292 (ix (g 296))) ?_
    refine lv_iload_n hx hb dX3_addCause_20 rfl (lv_at hl 2 rfl) ?_
    refine q_iast hx hb hE hP hD hS 1 rfl (j := (292 + (ix (g 296)))) (wd' := (ms E a (upd g (292 + (ix (g 296))) k) im kp)) rfl (by omega) (by decide) rfl dX3_addCause_21 (fun H locs hP hD hS => ?_)
    refine lv_aload_n hx hb dX3_addCause_22 rfl (lv_at hl 0 rfl) ?_
    refine va_get (D := E.1) (ci := 3) (v := .ref (a 1)) (C := RX3) (T := TX3) (N := 3) hx hb hts in3 hown hE.1 hP 0 rfl rfl 0 (by decide) K7 (fun _ h9 => h9) rfl dX3_addCause_23 ?_
    refine lv_sipush (v := 296) hx hb dX3_addCause_26 (by decide) ?_
    refine lv_dup2_11 hx hb dX3_addCause_29 rfl rfl ?_
    refine q_iald hx hb hE hP 1 rfl (j := 296) (v := (g 296)) rfl (by omega) (by decide) (up_n (by omega)) dX3_addCause_30 ?_
    refine lv_iconst (v := 1) hx hb dX3_addCause_31 (by decide) ?_
    refine lv_iadd hx hb dX3_addCause_32 ?_
    refine q_iast hx hb hE hP hD hS 1 rfl (j := 296) (wd' := (ms E a (upd (upd g (292 + (ix (g 296))) k) 296 ((g 296) + 1)) im kp)) rfl (by omega) (by decide) rfl dX3_addCause_33 (fun H locs hP hD hS => ?_)
    have eg : (upd (upd g (292 + (ix (g 296))) k) 296 ((g 296) + 1)) = (s_X3_addCause g b k) := (by unfold s_X3_addCause; rw [if_neg c_1])
    exact hret _ _ _ _ (by rw [← eg]; exact hP) (by rw [← eg]; exact hD) hS dX3_addCause_34
end
section
theorem sub_2 {k : Int32} (e : k = nI (ix k)) (h0 : ¬ k = 0) (h1 : ¬ k = 1) : k - 2 = nI (ix k - 2) ∧ 2 ≤ ix k := by
  have h2 : 2 ≤ ix k := by
    rcases Nat.lt_or_ge (ix k) 2 with q | q
    · exfalso
      rcases (show ix k = 0 ∨ ix k = 1 by omega) with z | z
      · rw [z] at e; exact h0 e
      · rw [z] at e; exact h1 e
    · exact q
  refine ⟨?_, h2⟩
  have := pk_sub (a := ix k) (b := 2) h2
  rw [← e] at this
  exact this
theorem in_lo {x lo hi : Int32} {a b : Nat} (h : ¬ f_X3_in x lo hi = 0) (hl : lo = nI a) (hh : hi = nI b) (ha : a < 2 ^ 31) (hb : b < 2 ^ 31) : a ≤ ix x ∧ ix x ≤ b ∧ x = nI (ix x) := by
  unfold f_X3_in at h
  by_cases h1 : x < lo
  · rw [if_pos h1] at h; exact absurd rfl h
  rw [if_neg h1] at h
  by_cases h2 : hi < x
  · rw [if_pos h2] at h; exact absurd rfl h
  subst hl
  subst hh
  have h0 : ¬ x < 0 := fun q => h1 (Int32.lt_of_lt_of_le q (nI_pos' ha))
  obtain ⟨j, hj, e⟩ := nI_of h0
  subst e
  have e2 : ix (nI j) = j := nI_clamp hj
  rw [e2]
  refine ⟨?_, ?_, rfl⟩
  · rcases Nat.lt_or_ge j a with q | q
    · exact absurd (nI_lt q ha) h1
    · exact q
  · rcases Nat.lt_or_ge b j with q | q
    · exact absurd (nI_lt q hj) h2
    · exact q
theorem in_10 {k : Int32} (h : ¬ f_X3_in k 10 13 = 0) : 1 + k - 10 = nI (ix k - 9) ∧ 10 ≤ ix k ∧ ix k ≤ 13 := by
  obtain ⟨h1, h2, e⟩ := in_lo (a := 10) (b := 13) h (by decide) (by decide) (by decide) (by decide)
  refine ⟨?_, h1, h2⟩
  have e1 : (1 : Int32) + nI (ix k) = nI (1 + ix k) := nI_add 1 (ix k)
  have e2 := pk_sub (a := 1 + ix k) (b := 10) (by omega)
  rw [show 1 + ix k - 10 = ix k - 9 by omega] at e2
  rw [← e1, ← e] at e2
  exact e2
def f_X3_cause (g : Nat → Int32) (x : Int32) : Int32 := (if (f_X3_in x 0 ((g 296) - 1)) = 0 then (-6) else (g (292 + (ix x))) : Int32)
set_option maxHeartbeats 4000000 in
set_option maxRecDepth 100000 in
theorem k_X3_cause (l : Launch) (E : EE) (a : Nat → Nat) (g im kp : Nat → Int32) (x : Int32) (hm : ix (g 296) ≤ 4 ∧ g 296 = nI (ix (g 296))) : Ci l E yX3_cause wsX3_cause { frames := 1, cells := 0, slots := 0, locals := 22 } [.ref (a 0), .int x] (ms E a g im kp) (f_X3_cause g x) (ms E a g im kp) := by
  refine Ci.of (cc := cX3_cause) (maxL := 2) (rt := .int) (by decide) rfl rfl (Nat.le_of_ble_eq_true rfl) ?_
  intro p e s m args below meth c A Q F hE hA hret hP hD ls hl
  obtain ⟨hx, hb, hml, hown, hts⟩ := id F
  have hS : va_S A s.heap s.heap [] := va_S.rf
  have hl : lv_has ls 2 [(0, .ref (a 0)), (1, .int x)] := hl
  have in3 : ∀ w ∈ wsX30, w ∈ wsX3_cause := fun w h => List.mem_cons_of_mem _ (List.mem_append_right _ h)
  have K7 := hts (.fieldLink RX3 7 "PromiseHoursModel" "state" "[I") (by decide +kernel)
  obtain ⟨hm1, hm2⟩ := hm
  refine lv_iload_n hx hb dX3_cause_0 rfl (lv_at hl 1 rfl) ?_
  refine lv_iconst (v := 0) hx hb dX3_cause_1 (by decide) ?_
  refine lv_aload_n hx hb dX3_cause_2 rfl (lv_at hl 0 rfl) ?_
  refine va_get (D := E.1) (ci := 3) (v := .ref (a 1)) (C := RX3) (T := TX3) (N := 3) hx hb hts in3 hown hE.1 hP 0 rfl rfl 0 (by decide) K7 (fun _ h9 => h9) rfl dX3_cause_3 ?_
  refine lv_sipush (v := 296) hx hb dX3_cause_6 (by decide) ?_
  refine q_iald hx hb hE hP 1 rfl (j := 296) (v := (g 296)) rfl (by omega) (by decide) rfl dX3_cause_9 ?_
  refine lv_iconst (v := 1) hx hb dX3_cause_10 (by decide) ?_
  refine lv_isub hx hb dX3_cause_11 ?_
  refine ci_S F hE (k_X3_in l E x 0 ((g 296) - 1)) (va_cwS 3 hts gX3_cause_X3_in rfl rfl rfl (by decide +kernel) ⟨Nat.le_of_ble_eq_true rfl, Nat.le_of_ble_eq_true rfl⟩) Fr.nil hP hD hS hA rfl hl.1 rfl (Nat.le_of_ble_eq_true rfl) dX3_cause_12 ⟨Nat.zero_le _, Nat.zero_le _⟩ (fun H locs hP hD hS => ?_)
  have J_33_1 : ∀ (w : Int32) (H : Heap) (locs : List Loc), va_P E.1 vwCl (ms E a g im kp) H → va_D A (ms E a g im kp) → va_S A s.heap H locs → w = (if (f_X3_in x 0 ((g 296) - 1)) = 0 then (-6) else (g (292 + (ix x))) : Int32) → W p l e { frames := 1, cells := 0, slots := 0, locals := 22 } s m args below meth c H locs 0 0 Q (F0 m 33 ls [.int w]) := by
    intro w H locs hP hD hS ew
    subst ew
    exact hret _ _ _ _ _ hP hD hS rfl dX3_cause_33
  refine lv_if_eq (tgt := 31) hx hb dX3_cause_15 (by decide) (fun c_2 => ?_) (fun c_2 => ?_)
  · refine lv_bipush (v := -6) hx hb dX3_cause_31 (by decide) ?_
    exact J_33_1 _ _ _ hP hD hS (by rw [if_pos c_2])
  · obtain ⟨b_x, e_x⟩ := in_cnt c_2 hm2 (by omega)
    refine lv_aload_n hx hb dX3_cause_18 rfl (lv_at hl 0 rfl) ?_
    refine va_get (D := E.1) (ci := 3) (v := .ref (a 1)) (C := RX3) (T := TX3) (N := 3) hx hb hts in3 hown hE.1 hP 0 rfl rfl 0 (by decide) K7 (fun _ h9 => h9) rfl dX3_cause_19 ?_
    refine lv_sipush (v := 292) hx hb dX3_cause_22 (by decide) ?_
    refine lv_iload_n hx hb dX3_cause_25 rfl (lv_at hl 1 rfl) ?_
    refine tpe e_x ?_
    refine lv_iadd hx hb dX3_cause_26 ?_
    refine tpe (y := nI (292 + (ix x))) (nI_add 292 (ix x)) ?_
    refine q_iald hx hb hE hP 1 rfl (j := (292 + (ix x))) (v := (g (292 + (ix x)))) rfl (by omega) (by decide) rfl dX3_cause_27 ?_
    refine lv_goto (tgt := 33) hx hb dX3_cause_28 (by decide) ?_
    exact J_33_1 _ _ _ hP hD hS (by rw [if_neg c_2])
def f_X3_waited (g : Nat → Int32) (x : Int32) : Int32 := (if (f_X3_in x 0 ((g 302) - 1)) = 0 then (-6) else (g (297 + (ix x))) : Int32)
set_option maxHeartbeats 4000000 in
set_option maxRecDepth 100000 in
theorem k_X3_waited (l : Launch) (E : EE) (a : Nat → Nat) (g im kp : Nat → Int32) (x : Int32) (hm : ix (g 302) ≤ 5 ∧ g 302 = nI (ix (g 302))) : Ci l E yX3_waited wsX3_waited { frames := 1, cells := 0, slots := 0, locals := 22 } [.ref (a 0), .int x] (ms E a g im kp) (f_X3_waited g x) (ms E a g im kp) := by
  refine Ci.of (cc := cX3_waited) (maxL := 2) (rt := .int) (by decide) rfl rfl (Nat.le_of_ble_eq_true rfl) ?_
  intro p e s m args below meth c A Q F hE hA hret hP hD ls hl
  obtain ⟨hx, hb, hml, hown, hts⟩ := id F
  have hS : va_S A s.heap s.heap [] := va_S.rf
  have hl : lv_has ls 2 [(0, .ref (a 0)), (1, .int x)] := hl
  have in3 : ∀ w ∈ wsX30, w ∈ wsX3_waited := fun w h => List.mem_cons_of_mem _ (List.mem_append_right _ h)
  have K7 := hts (.fieldLink RX3 7 "PromiseHoursModel" "state" "[I") (by decide +kernel)
  obtain ⟨hm1, hm2⟩ := hm
  refine lv_iload_n hx hb dX3_waited_0 rfl (lv_at hl 1 rfl) ?_
  refine lv_iconst (v := 0) hx hb dX3_waited_1 (by decide) ?_
  refine lv_aload_n hx hb dX3_waited_2 rfl (lv_at hl 0 rfl) ?_
  refine va_get (D := E.1) (ci := 3) (v := .ref (a 1)) (C := RX3) (T := TX3) (N := 3) hx hb hts in3 hown hE.1 hP 0 rfl rfl 0 (by decide) K7 (fun _ h9 => h9) rfl dX3_waited_3 ?_
  refine lv_sipush (v := 302) hx hb dX3_waited_6 (by decide) ?_
  refine q_iald hx hb hE hP 1 rfl (j := 302) (v := (g 302)) rfl (by omega) (by decide) rfl dX3_waited_9 ?_
  refine lv_iconst (v := 1) hx hb dX3_waited_10 (by decide) ?_
  refine lv_isub hx hb dX3_waited_11 ?_
  refine ci_S F hE (k_X3_in l E x 0 ((g 302) - 1)) (va_cwS 3 hts gX3_waited_X3_in rfl rfl rfl (by decide +kernel) ⟨Nat.le_of_ble_eq_true rfl, Nat.le_of_ble_eq_true rfl⟩) Fr.nil hP hD hS hA rfl hl.1 rfl (Nat.le_of_ble_eq_true rfl) dX3_waited_12 ⟨Nat.zero_le _, Nat.zero_le _⟩ (fun H locs hP hD hS => ?_)
  have J_33_1 : ∀ (w : Int32) (H : Heap) (locs : List Loc), va_P E.1 vwCl (ms E a g im kp) H → va_D A (ms E a g im kp) → va_S A s.heap H locs → w = (if (f_X3_in x 0 ((g 302) - 1)) = 0 then (-6) else (g (297 + (ix x))) : Int32) → W p l e { frames := 1, cells := 0, slots := 0, locals := 22 } s m args below meth c H locs 0 0 Q (F0 m 33 ls [.int w]) := by
    intro w H locs hP hD hS ew
    subst ew
    exact hret _ _ _ _ _ hP hD hS rfl dX3_waited_33
  refine lv_if_eq (tgt := 31) hx hb dX3_waited_15 (by decide) (fun c_2 => ?_) (fun c_2 => ?_)
  · refine lv_bipush (v := -6) hx hb dX3_waited_31 (by decide) ?_
    exact J_33_1 _ _ _ hP hD hS (by rw [if_pos c_2])
  · obtain ⟨b_x, e_x⟩ := in_cnt c_2 hm2 (by omega)
    refine lv_aload_n hx hb dX3_waited_18 rfl (lv_at hl 0 rfl) ?_
    refine va_get (D := E.1) (ci := 3) (v := .ref (a 1)) (C := RX3) (T := TX3) (N := 3) hx hb hts in3 hown hE.1 hP 0 rfl rfl 0 (by decide) K7 (fun _ h9 => h9) rfl dX3_waited_19 ?_
    refine lv_sipush (v := 297) hx hb dX3_waited_22 (by decide) ?_
    refine lv_iload_n hx hb dX3_waited_25 rfl (lv_at hl 1 rfl) ?_
    refine tpe e_x ?_
    refine lv_iadd hx hb dX3_waited_26 ?_
    refine tpe (y := nI (297 + (ix x))) (nI_add 297 (ix x)) ?_
    refine q_iald hx hb hE hP 1 rfl (j := (297 + (ix x))) (v := (g (297 + (ix x)))) rfl (by omega) (by decide) rfl dX3_waited_27 ?_
    refine lv_goto (tgt := 33) hx hb dX3_waited_28 (by decide) ?_
    exact J_33_1 _ _ _ hP hD hS (by rw [if_neg c_2])
def f_X3_waiting (g : Nat → Int32) (x : Int32) : Int32 := (if (f_X3_in x 0 ((g 41) - 1)) = 0 then (-6) else (g (29 + (ix x))) : Int32)
set_option maxHeartbeats 4000000 in
set_option maxRecDepth 100000 in
theorem k_X3_waiting (l : Launch) (E : EE) (a : Nat → Nat) (g im kp : Nat → Int32) (x : Int32) (hm : ix (g 41) ≤ 12 ∧ g 41 = nI (ix (g 41))) : Ci l E yX3_waiting wsX3_waiting { frames := 1, cells := 0, slots := 0, locals := 22 } [.ref (a 0), .int x] (ms E a g im kp) (f_X3_waiting g x) (ms E a g im kp) := by
  refine Ci.of (cc := cX3_waiting) (maxL := 2) (rt := .int) (by decide) rfl rfl (Nat.le_of_ble_eq_true rfl) ?_
  intro p e s m args below meth c A Q F hE hA hret hP hD ls hl
  obtain ⟨hx, hb, hml, hown, hts⟩ := id F
  have hS : va_S A s.heap s.heap [] := va_S.rf
  have hl : lv_has ls 2 [(0, .ref (a 0)), (1, .int x)] := hl
  have in3 : ∀ w ∈ wsX30, w ∈ wsX3_waiting := fun w h => List.mem_cons_of_mem _ (List.mem_append_right _ h)
  have K7 := hts (.fieldLink RX3 7 "PromiseHoursModel" "state" "[I") (by decide +kernel)
  obtain ⟨hm1, hm2⟩ := hm
  refine lv_iload_n hx hb dX3_waiting_0 rfl (lv_at hl 1 rfl) ?_
  refine lv_iconst (v := 0) hx hb dX3_waiting_1 (by decide) ?_
  refine lv_aload_n hx hb dX3_waiting_2 rfl (lv_at hl 0 rfl) ?_
  refine va_get (D := E.1) (ci := 3) (v := .ref (a 1)) (C := RX3) (T := TX3) (N := 3) hx hb hts in3 hown hE.1 hP 0 rfl rfl 0 (by decide) K7 (fun _ h9 => h9) rfl dX3_waiting_3 ?_
  refine lv_bipush (v := 41) hx hb dX3_waiting_6 (by decide) ?_
  refine q_iald hx hb hE hP 1 rfl (j := 41) (v := (g 41)) rfl (by omega) (by decide) rfl dX3_waiting_8 ?_
  refine lv_iconst (v := 1) hx hb dX3_waiting_9 (by decide) ?_
  refine lv_isub hx hb dX3_waiting_10 ?_
  refine ci_S F hE (k_X3_in l E x 0 ((g 41) - 1)) (va_cwS 3 hts gX3_waiting_X3_in rfl rfl rfl (by decide +kernel) ⟨Nat.le_of_ble_eq_true rfl, Nat.le_of_ble_eq_true rfl⟩) Fr.nil hP hD hS hA rfl hl.1 rfl (Nat.le_of_ble_eq_true rfl) dX3_waiting_11 ⟨Nat.zero_le _, Nat.zero_le _⟩ (fun H locs hP hD hS => ?_)
  have J_31_1 : ∀ (w : Int32) (H : Heap) (locs : List Loc), va_P E.1 vwCl (ms E a g im kp) H → va_D A (ms E a g im kp) → va_S A s.heap H locs → w = (if (f_X3_in x 0 ((g 41) - 1)) = 0 then (-6) else (g (29 + (ix x))) : Int32) → W p l e { frames := 1, cells := 0, slots := 0, locals := 22 } s m args below meth c H locs 0 0 Q (F0 m 31 ls [.int w]) := by
    intro w H locs hP hD hS ew
    subst ew
    exact hret _ _ _ _ _ hP hD hS rfl dX3_waiting_31
  refine lv_if_eq (tgt := 29) hx hb dX3_waiting_14 (by decide) (fun c_2 => ?_) (fun c_2 => ?_)
  · refine lv_bipush (v := -6) hx hb dX3_waiting_29 (by decide) ?_
    exact J_31_1 _ _ _ hP hD hS (by rw [if_pos c_2])
  · obtain ⟨b_x, e_x⟩ := in_cnt c_2 hm2 (by omega)
    refine lv_aload_n hx hb dX3_waiting_17 rfl (lv_at hl 0 rfl) ?_
    refine va_get (D := E.1) (ci := 3) (v := .ref (a 1)) (C := RX3) (T := TX3) (N := 3) hx hb hts in3 hown hE.1 hP 0 rfl rfl 0 (by decide) K7 (fun _ h9 => h9) rfl dX3_waiting_18 ?_
    refine lv_bipush (v := 29) hx hb dX3_waiting_21 (by decide) ?_
    refine lv_iload_n hx hb dX3_waiting_23 rfl (lv_at hl 1 rfl) ?_
    refine tpe e_x ?_
    refine lv_iadd hx hb dX3_waiting_24 ?_
    refine tpe (y := nI (29 + (ix x))) (nI_add 29 (ix x)) ?_
    refine q_iald hx hb hE hP 1 rfl (j := (29 + (ix x))) (v := (g (29 + (ix x)))) rfl (by omega) (by decide) rfl dX3_waiting_25 ?_
    refine lv_goto (tgt := 31) hx hb dX3_waiting_26 (by decide) ?_
    exact J_31_1 _ _ _ hP hD hS (by rw [if_neg c_2])
def f_X3_copy (g : Nat → Int32) (x : Int32) (y : Int32) (k : Int32) : Int32 := (if (f_X3_in x 0 4) = 0 then (-1) else (if (f_X3_in y 0 11) = 0 then (-1) else (if k = 0 then (g (82 + 12 * (ix x) + (ix y))) else (if k = 1 then (g (142 + 12 * (ix x) + (ix y))) else (if k = 2 then (g (202 + 12 * (ix x) + (ix y))) else (if k = 3 then (if (f_X3_canUse g (ix x) (ix y)) = 0 then 0 else 1 : Int32) else (-2)))))))
set_option maxHeartbeats 4000000 in
set_option maxRecDepth 100000 in
theorem k_X3_copy (l : Launch) (E : EE) (a : Nat → Nat) (g im kp : Nat → Int32) (x : Int32) (y : Int32) (k : Int32)  : Ci l E yX3_copy wsX3_copy { frames := 2, cells := 0, slots := 0, locals := 44 } [.ref (a 0), .int x, .int y, .int k] (ms E a g im kp) (f_X3_copy g x y k) (ms E a g im kp) := by
  refine Ci.of (cc := cX3_copy) (maxL := 4) (rt := .int) (by decide) rfl rfl (Nat.le_of_ble_eq_true rfl) ?_
  intro p e s m args below meth c A Q F hE hA hret hP hD ls hl
  obtain ⟨hx, hb, hml, hown, hts⟩ := id F
  have hS : va_S A s.heap s.heap [] := va_S.rf
  have hl : lv_has ls 4 [(0, .ref (a 0)), (1, .int x), (2, .int y), (3, .int k)] := hl
  have in3 : ∀ w ∈ wsX30, w ∈ wsX3_copy := fun w h => List.mem_cons_of_mem _ (List.mem_append_right _ h)
  have K7 := hts (.fieldLink RX3 7 "PromiseHoursModel" "state" "[I") (by decide +kernel)
  refine lv_iload_n hx hb dX3_copy_0 rfl (lv_at hl 1 rfl) ?_
  refine ci_S F hE (k_X3_isReader l E x) (va_cwS 1 hts gX3_copy_X3_isReader rfl rfl rfl (by decide +kernel) ⟨Nat.le_of_ble_eq_true rfl, Nat.le_of_ble_eq_true rfl⟩) Fr.nil hP hD hS hA rfl hl.1 rfl (Nat.le_of_ble_eq_true rfl) dX3_copy_1 ⟨Nat.zero_le _, Nat.zero_le _⟩ (fun H locs hP hD hS => ?_)
  refine lv_if_eq (tgt := 14) hx hb dX3_copy_4 (by decide) (fun c_1 => ?_) (fun c_1 => ?_)
  · refine lv_iconst (v := -1) hx hb dX3_copy_14 (by decide) ?_
    exact hret _ _ _ _ _ hP hD hS (by unfold f_X3_copy; rw [if_pos c_1]) dX3_copy_15
  · obtain ⟨b_x, e_x⟩ := in_ix (n := 4) c_1 (by decide) (by decide)
    refine lv_iload_n hx hb dX3_copy_7 rfl (lv_at hl 2 rfl) ?_
    refine ci_S F hE (k_X3_isThing l E y) (va_cwS 1 hts gX3_copy_X3_isThing rfl rfl rfl (by decide +kernel) ⟨Nat.le_of_ble_eq_true rfl, Nat.le_of_ble_eq_true rfl⟩) Fr.nil hP hD hS hA rfl hl.1 rfl (Nat.le_of_ble_eq_true rfl) dX3_copy_8 ⟨Nat.zero_le _, Nat.zero_le _⟩ (fun H locs hP hD hS => ?_)
    refine lv_if_ne (tgt := 16) hx hb dX3_copy_11 (by decide) (fun c_2 => ?_) (fun c_2 => ?_)
    · obtain ⟨b_y, e_y⟩ := in_ix (n := 11) c_2 (by decide) (by decide)
      refine lv_iload_n hx hb dX3_copy_16 rfl (lv_at hl 3 rfl) ?_
      by_cases c_3 : k = 0
      · refine lv_tableIn (off := 31) (tgt := 48) hx hb dX3_copy_17 (by rw [c_3]; decide) (by rw [c_3]; decide) (by rw [c_3]; decide) (by decide) ?_
        refine lv_aload_n hx hb dX3_copy_48 rfl (lv_at hl 0 rfl) ?_
        refine va_get (D := E.1) (ci := 3) (v := .ref (a 1)) (C := RX3) (T := TX3) (N := 3) hx hb hts in3 hown hE.1 hP 0 rfl rfl 0 (by decide) K7 (fun _ h9 => h9) rfl dX3_copy_49 ?_
        refine lv_bipush (v := 82) hx hb dX3_copy_52 (by decide) ?_
        refine lv_iload_n hx hb dX3_copy_54 rfl (lv_at hl 1 rfl) ?_
        refine tpe e_x ?_
        refine lv_iload_n hx hb dX3_copy_55 rfl (lv_at hl 2 rfl) ?_
        refine tpe e_y ?_
        refine ci_S F hE (k_X3_thingAt l E 82 (ix x) (ix y)) (va_cwS 3 hts gX3_copy_X3_thingAt rfl rfl rfl (by decide +kernel) ⟨Nat.le_of_ble_eq_true rfl, Nat.le_of_ble_eq_true rfl⟩) Fr.nil hP hD hS hA rfl hl.1 rfl (Nat.le_of_ble_eq_true rfl) dX3_copy_56 ⟨Nat.zero_le _, Nat.zero_le _⟩ (fun H locs hP hD hS => ?_)
        refine q_iald hx hb hE hP 1 rfl (j := (82 + 12 * (ix x) + (ix y))) (v := (g (82 + 12 * (ix x) + (ix y)))) rfl (by omega) (by decide) rfl dX3_copy_59 ?_
        exact hret _ _ _ _ _ hP hD hS (by unfold f_X3_copy; rw [if_neg c_1, if_neg c_2, if_pos c_3]) dX3_copy_60
      · have nc_3 : k.toInt ≠ 0 := fun h => c_3 (Int32.toInt_inj.mp h)
        by_cases c_4 : k = 1
        · refine lv_tableIn (off := 44) (tgt := 61) hx hb dX3_copy_17 (by rw [c_4]; decide) (by rw [c_4]; decide) (by rw [c_4]; decide) (by decide) ?_
          refine lv_aload_n hx hb dX3_copy_61 rfl (lv_at hl 0 rfl) ?_
          refine va_get (D := E.1) (ci := 3) (v := .ref (a 1)) (C := RX3) (T := TX3) (N := 3) hx hb hts in3 hown hE.1 hP 0 rfl rfl 0 (by decide) K7 (fun _ h9 => h9) rfl dX3_copy_62 ?_
          refine lv_sipush (v := 142) hx hb dX3_copy_65 (by decide) ?_
          refine lv_iload_n hx hb dX3_copy_68 rfl (lv_at hl 1 rfl) ?_
          refine tpe e_x ?_
          refine lv_iload_n hx hb dX3_copy_69 rfl (lv_at hl 2 rfl) ?_
          refine tpe e_y ?_
          refine ci_S F hE (k_X3_thingAt l E 142 (ix x) (ix y)) (va_cwS 3 hts gX3_copy_X3_thingAt rfl rfl rfl (by decide +kernel) ⟨Nat.le_of_ble_eq_true rfl, Nat.le_of_ble_eq_true rfl⟩) Fr.nil hP hD hS hA rfl hl.1 rfl (Nat.le_of_ble_eq_true rfl) dX3_copy_70 ⟨Nat.zero_le _, Nat.zero_le _⟩ (fun H locs hP hD hS => ?_)
          refine q_iald hx hb hE hP 1 rfl (j := (142 + 12 * (ix x) + (ix y))) (v := (g (142 + 12 * (ix x) + (ix y)))) rfl (by omega) (by decide) rfl dX3_copy_73 ?_
          exact hret _ _ _ _ _ hP hD hS (by unfold f_X3_copy; rw [if_neg c_1, if_neg c_2, if_neg c_3, if_pos c_4]) dX3_copy_74
        · have nc_4 : k.toInt ≠ 1 := fun h => c_4 (Int32.toInt_inj.mp h)
          by_cases c_5 : k = 2
          · refine lv_tableIn (off := 58) (tgt := 75) hx hb dX3_copy_17 (by rw [c_5]; decide) (by rw [c_5]; decide) (by rw [c_5]; decide) (by decide) ?_
            refine lv_aload_n hx hb dX3_copy_75 rfl (lv_at hl 0 rfl) ?_
            refine va_get (D := E.1) (ci := 3) (v := .ref (a 1)) (C := RX3) (T := TX3) (N := 3) hx hb hts in3 hown hE.1 hP 0 rfl rfl 0 (by decide) K7 (fun _ h9 => h9) rfl dX3_copy_76 ?_
            refine lv_sipush (v := 202) hx hb dX3_copy_79 (by decide) ?_
            refine lv_iload_n hx hb dX3_copy_82 rfl (lv_at hl 1 rfl) ?_
            refine tpe e_x ?_
            refine lv_iload_n hx hb dX3_copy_83 rfl (lv_at hl 2 rfl) ?_
            refine tpe e_y ?_
            refine ci_S F hE (k_X3_thingAt l E 202 (ix x) (ix y)) (va_cwS 3 hts gX3_copy_X3_thingAt rfl rfl rfl (by decide +kernel) ⟨Nat.le_of_ble_eq_true rfl, Nat.le_of_ble_eq_true rfl⟩) Fr.nil hP hD hS hA rfl hl.1 rfl (Nat.le_of_ble_eq_true rfl) dX3_copy_84 ⟨Nat.zero_le _, Nat.zero_le _⟩ (fun H locs hP hD hS => ?_)
            refine q_iald hx hb hE hP 1 rfl (j := (202 + 12 * (ix x) + (ix y))) (v := (g (202 + 12 * (ix x) + (ix y)))) rfl (by omega) (by decide) rfl dX3_copy_87 ?_
            exact hret _ _ _ _ _ hP hD hS (by unfold f_X3_copy; rw [if_neg c_1, if_neg c_2, if_neg c_3, if_neg c_4, if_pos c_5]) dX3_copy_88
          · have nc_5 : k.toInt ≠ 2 := fun h => c_5 (Int32.toInt_inj.mp h)
            by_cases c_6 : k = 3
            · refine lv_tableIn (off := 72) (tgt := 89) hx hb dX3_copy_17 (by rw [c_6]; decide) (by rw [c_6]; decide) (by rw [c_6]; decide) (by decide) ?_
              refine lv_aload_n hx hb dX3_copy_89 rfl (lv_at hl 0 rfl) ?_
              refine lv_iload_n hx hb dX3_copy_90 rfl (lv_at hl 1 rfl) ?_
              refine tpe e_x ?_
              refine lv_iload_n hx hb dX3_copy_91 rfl (lv_at hl 2 rfl) ?_
              refine tpe e_y ?_
              refine ci_V F hE (k_X3_canUse l E a g im kp (ix x) (ix y) (by omega) (by omega)) (cwV 2 hts gX3_copy_X3_canUse rfl rfl rfl (by decide +kernel) ⟨Nat.le_of_ble_eq_true rfl, Nat.le_of_ble_eq_true rfl⟩) Fr.all 0 3 rfl rfl rfl hP hD hS hA rfl hl.1 rfl (Nat.le_of_ble_eq_true rfl) dX3_copy_92 ⟨Nat.zero_le _, Nat.zero_le _⟩ (fun H locs hP hD hS => ?_)
              have J_103_7 : ∀ (w : Int32) (H : Heap) (locs : List Loc), va_P E.1 vwCl (ms E a g im kp) H → va_D A (ms E a g im kp) → va_S A s.heap H locs → w = (if (f_X3_canUse g (ix x) (ix y)) = 0 then 0 else 1 : Int32) → W p l e { frames := 2, cells := 0, slots := 0, locals := 44 } s m args below meth c H locs 0 0 Q (F0 m 103 ls [.int w]) := by
                intro w H locs hP hD hS ew
                subst ew
                exact hret _ _ _ _ _ hP hD hS (by unfold f_X3_copy; rw [if_neg c_1, if_neg c_2, if_neg c_3, if_neg c_4, if_neg c_5, if_pos c_6]) dX3_copy_103
              refine lv_if_eq (tgt := 102) hx hb dX3_copy_95 (by decide) (fun c_8 => ?_) (fun c_8 => ?_)
              · refine lv_iconst (v := 0) hx hb dX3_copy_102 (by decide) ?_
                exact J_103_7 _ _ _ hP hD hS (by rw [if_pos c_8])
              · refine lv_iconst (v := 1) hx hb dX3_copy_98 (by decide) ?_
                refine lv_goto (tgt := 103) hx hb dX3_copy_99 (by decide) ?_
                exact J_103_7 _ _ _ hP hD hS (by rw [if_neg c_8])
            · have nc_6 : k.toInt ≠ 3 := fun h => c_6 (Int32.toInt_inj.mp h)
              refine lv_tableOut (tgt := 104) hx hb dX3_copy_17 (by omega) (by decide) ?_
              refine lv_bipush (v := -2) hx hb dX3_copy_104 (by decide) ?_
              exact hret _ _ _ _ _ hP hD hS (by unfold f_X3_copy; rw [if_neg c_1, if_neg c_2, if_neg c_3, if_neg c_4, if_neg c_5, if_neg c_6]) dX3_copy_106
    · refine lv_iconst (v := -1) hx hb dX3_copy_14 (by decide) ?_
      exact hret _ _ _ _ _ hP hD hS (by unfold f_X3_copy; rw [if_neg c_1, if_pos c_2]) dX3_copy_15
def f_X3_volume (g : Nat → Int32) (x : Int32) (y : Int32) (k : Int32) : Int32 := (if (f_X3_in x 0 4) = 0 then (-1) else (if (f_X3_in y 0 2) = 0 then (-1) else (if (f_X3_in k 0 2) = 0 then (-2) else (if k = 0 then (g (52 + 3 * (ix x) + (ix y))) else (if k = 1 then (if (f_X3_isOver g (ix x) (g (52 + 3 * (ix x) + (ix y)))) = 0 then 0 else 1) else (g (67 + 3 * (ix x) + (ix y)))) : Int32))))
set_option maxHeartbeats 4000000 in
set_option maxRecDepth 100000 in
theorem k_X3_volume (l : Launch) (E : EE) (a : Nat → Nat) (g im kp : Nat → Int32) (x : Int32) (y : Int32) (k : Int32)  : Ci l E yX3_volume wsX3_volume { frames := 2, cells := 0, slots := 0, locals := 42 } [.ref (a 0), .int x, .int y, .int k] (ms E a g im kp) (f_X3_volume g x y k) (ms E a g im kp) := by
  refine Ci.of (cc := cX3_volume) (maxL := 5) (rt := .int) (by decide) rfl rfl (Nat.le_of_ble_eq_true rfl) ?_
  intro p e s m args below meth c A Q F hE hA hret hP hD ls hl
  obtain ⟨hx, hb, hml, hown, hts⟩ := id F
  have hS : va_S A s.heap s.heap [] := va_S.rf
  have hl : lv_has ls 5 [(0, .ref (a 0)), (1, .int x), (2, .int y), (3, .int k)] := hl
  have in3 : ∀ w ∈ wsX30, w ∈ wsX3_volume := fun w h => List.mem_cons_of_mem _ (List.mem_append_right _ h)
  have K7 := hts (.fieldLink RX3 7 "PromiseHoursModel" "state" "[I") (by decide +kernel)
  refine lv_iload_n hx hb dX3_volume_0 rfl (lv_at hl 1 rfl) ?_
  refine ci_S F hE (k_X3_isReader l E x) (va_cwS 1 hts gX3_volume_X3_isReader rfl rfl rfl (by decide +kernel) ⟨Nat.le_of_ble_eq_true rfl, Nat.le_of_ble_eq_true rfl⟩) Fr.nil hP hD hS hA rfl hl.1 rfl (Nat.le_of_ble_eq_true rfl) dX3_volume_1 ⟨Nat.zero_le _, Nat.zero_le _⟩ (fun H locs hP hD hS => ?_)
  refine lv_if_eq (tgt := 16) hx hb dX3_volume_4 (by decide) (fun c_1 => ?_) (fun c_1 => ?_)
  · refine lv_iconst (v := -1) hx hb dX3_volume_16 (by decide) ?_
    exact hret _ _ _ _ _ hP hD hS (by unfold f_X3_volume; rw [if_pos c_1]) dX3_volume_17
  · obtain ⟨b_x, e_x⟩ := in_ix (n := 4) c_1 (by decide) (by decide)
    refine lv_iload_n hx hb dX3_volume_7 rfl (lv_at hl 2 rfl) ?_
    refine lv_iconst (v := 0) hx hb dX3_volume_8 (by decide) ?_
    refine lv_iconst (v := 2) hx hb dX3_volume_9 (by decide) ?_
    refine ci_S F hE (k_X3_in l E y 0 2) (va_cwS 3 hts gX3_volume_X3_in rfl rfl rfl (by decide +kernel) ⟨Nat.le_of_ble_eq_true rfl, Nat.le_of_ble_eq_true rfl⟩) Fr.nil hP hD hS hA rfl hl.1 rfl (Nat.le_of_ble_eq_true rfl) dX3_volume_10 ⟨Nat.zero_le _, Nat.zero_le _⟩ (fun H locs hP hD hS => ?_)
    refine lv_if_ne (tgt := 18) hx hb dX3_volume_13 (by decide) (fun c_2 => ?_) (fun c_2 => ?_)
    · obtain ⟨b_y, e_y⟩ := in_ix (n := 2) c_2 (by decide) (by decide)
      refine lv_iload_n hx hb dX3_volume_18 rfl (lv_at hl 3 rfl) ?_
      refine lv_iconst (v := 0) hx hb dX3_volume_19 (by decide) ?_
      refine lv_iconst (v := 2) hx hb dX3_volume_20 (by decide) ?_
      refine ci_S F hE (k_X3_in l E k 0 2) (va_cwS 3 hts gX3_volume_X3_in rfl rfl rfl (by decide +kernel) ⟨Nat.le_of_ble_eq_true rfl, Nat.le_of_ble_eq_true rfl⟩) Fr.nil hP hD hS hA rfl hl.1 rfl (Nat.le_of_ble_eq_true rfl) dX3_volume_21 ⟨Nat.zero_le _, Nat.zero_le _⟩ (fun H locs hP hD hS => ?_)
      refine lv_if_ne (tgt := 30) hx hb dX3_volume_24 (by decide) (fun c_3 => ?_) (fun c_3 => ?_)
      · refine lv_aload_n hx hb dX3_volume_30 rfl (lv_at hl 0 rfl) ?_
        refine va_get (D := E.1) (ci := 3) (v := .ref (a 1)) (C := RX3) (T := TX3) (N := 3) hx hb hts in3 hown hE.1 hP 0 rfl rfl 0 (by decide) K7 (fun _ h9 => h9) rfl dX3_volume_31 ?_
        refine lv_bipush (v := 52) hx hb dX3_volume_34 (by decide) ?_
        refine lv_iconst (v := 3) hx hb dX3_volume_36 (by decide) ?_
        refine lv_iload_n hx hb dX3_volume_37 rfl (lv_at hl 1 rfl) ?_
        refine tpe e_x ?_
        refine lv_imul hx hb dX3_volume_38 ?_
        refine tpe (y := nI (3 * (ix x))) (pk_mul 3 (ix x)) ?_
        refine lv_iadd hx hb dX3_volume_39 ?_
        refine tpe (y := nI (52 + 3 * (ix x))) (nI_add 52 (3 * (ix x))) ?_
        refine lv_iload_n hx hb dX3_volume_40 rfl (lv_at hl 2 rfl) ?_
        refine tpe e_y ?_
        refine lv_iadd hx hb dX3_volume_41 ?_
        refine tpe (y := nI (52 + 3 * (ix x) + (ix y))) (nI_add (52 + 3 * (ix x)) (ix y)) ?_
        refine q_iald hx hb hE hP 1 rfl (j := (52 + 3 * (ix x) + (ix y))) (v := (g (52 + 3 * (ix x) + (ix y)))) rfl (by omega) (by decide) rfl dX3_volume_42 ?_
        refine lv_istore (lv' := [(4, .int (g (52 + 3 * (ix x) + (ix y)))), (0, .ref (a 0)), (1, .int x), (2, .int y), (3, .int k)]) hx hb dX3_volume_43 hl (by decide) rfl (fun ls hl => ?_)
        refine lv_iload_n hx hb dX3_volume_45 rfl (lv_at hl 4 rfl) ?_
        have J_90_4 : ∀ (w : Int32) (H : Heap) (locs : List Loc), va_P E.1 vwCl (ms E a g im kp) H → va_D A (ms E a g im kp) → va_S A s.heap H locs → w = (if k = 0 then (g (52 + 3 * (ix x) + (ix y))) else (if k = 1 then (if (f_X3_isOver g (ix x) (g (52 + 3 * (ix x) + (ix y)))) = 0 then 0 else 1) else (g (67 + 3 * (ix x) + (ix y)))) : Int32) → W p l e { frames := 2, cells := 0, slots := 0, locals := 42 } s m args below meth c H locs 0 0 Q (F0 m 90 ls [.int w]) := by
          intro w H locs hP hD hS ew
          subst ew
          exact hret _ _ _ _ _ hP hD hS (by unfold f_X3_volume; rw [if_neg c_1, if_neg c_2, if_neg c_3]) dX3_volume_90
        refine lv_if_ne (tgt := 54) hx hb dX3_volume_46 (by decide) (fun c_5 => ?_) (fun c_5 => ?_)
        · refine lv_iload_n hx hb dX3_volume_54 rfl (lv_at hl 4 rfl) ?_
          refine lv_iconst (v := 1) hx hb dX3_volume_55 (by decide) ?_
          refine lv_icmp_ne (tgt := 77) hx hb dX3_volume_56 (by decide) (fun c_6 => ?_) (fun c_6 => ?_)
          · refine lv_aload_n hx hb dX3_volume_77 rfl (lv_at hl 1 rfl) ?_
            refine va_get (D := E.1) (ci := 3) (v := .ref (a 1)) (C := RX3) (T := TX3) (N := 3) hx hb hts in3 hown hE.1 hP 0 rfl rfl 0 (by decide) K7 (fun _ h9 => h9) rfl dX3_volume_78 ?_
            refine lv_bipush (v := 67) hx hb dX3_volume_81 (by decide) ?_
            refine lv_iconst (v := 3) hx hb dX3_volume_83 (by decide) ?_
            refine lv_iload_n hx hb dX3_volume_84 rfl (lv_at hl 2 rfl) ?_
            refine tpe e_x ?_
            refine lv_imul hx hb dX3_volume_85 ?_
            refine tpe (y := nI (3 * (ix x))) (pk_mul 3 (ix x)) ?_
            refine lv_iadd hx hb dX3_volume_86 ?_
            refine tpe (y := nI (67 + 3 * (ix x))) (nI_add 67 (3 * (ix x))) ?_
            refine lv_iload_n hx hb dX3_volume_87 rfl (lv_at hl 3 rfl) ?_
            refine tpe e_y ?_
            refine lv_iadd hx hb dX3_volume_88 ?_
            refine tpe (y := nI (67 + 3 * (ix x) + (ix y))) (nI_add (67 + 3 * (ix x)) (ix y)) ?_
            refine q_iald hx hb hE hP 1 rfl (j := (67 + 3 * (ix x) + (ix y))) (v := (g (67 + 3 * (ix x) + (ix y)))) rfl (by omega) (by decide) rfl dX3_volume_89 ?_
            exact J_90_4 _ _ _ hP hD hS (by rw [if_neg c_5, if_neg c_6])
          · refine lv_aload_n hx hb dX3_volume_59 rfl (lv_at hl 1 rfl) ?_
            refine lv_iload_n hx hb dX3_volume_60 rfl (lv_at hl 2 rfl) ?_
            refine tpe e_x ?_
            refine lv_iload hx hb dX3_volume_61 (lv_at hl 0 rfl) ?_
            refine ci_V F hE (k_X3_isOver l E a g im kp (ix x) (g (52 + 3 * (ix x) + (ix y))) (by omega)) (cwV 2 hts gX3_volume_X3_isOver rfl rfl rfl (by decide +kernel) ⟨Nat.le_of_ble_eq_true rfl, Nat.le_of_ble_eq_true rfl⟩) Fr.all 0 3 rfl rfl rfl hP hD hS hA rfl hl.1 rfl (Nat.le_of_ble_eq_true rfl) dX3_volume_63 ⟨Nat.zero_le _, Nat.zero_le _⟩ (fun H locs hP hD hS => ?_)
            refine lv_if_eq (tgt := 73) hx hb dX3_volume_66 (by decide) (fun c_7 => ?_) (fun c_7 => ?_)
            · refine lv_iconst (v := 0) hx hb dX3_volume_73 (by decide) ?_
              refine lv_goto (tgt := 90) hx hb dX3_volume_74 (by decide) ?_
              exact J_90_4 _ _ _ hP hD hS (by rw [if_neg c_5, if_pos c_6, if_pos c_7])
            · refine lv_iconst (v := 1) hx hb dX3_volume_69 (by decide) ?_
              refine lv_goto (tgt := 90) hx hb dX3_volume_70 (by decide) ?_
              exact J_90_4 _ _ _ hP hD hS (by rw [if_neg c_5, if_pos c_6, if_neg c_7])
        · refine lv_iload hx hb dX3_volume_49 (lv_at hl 0 rfl) ?_
          refine lv_goto (tgt := 90) hx hb dX3_volume_51 (by decide) ?_
          exact J_90_4 _ _ _ hP hD hS (by rw [if_pos c_5])
      · refine lv_bipush (v := -2) hx hb dX3_volume_27 (by decide) ?_
        exact hret _ _ _ _ _ hP hD hS (by unfold f_X3_volume; rw [if_neg c_1, if_neg c_2, if_pos c_3]) dX3_volume_29
    · refine lv_iconst (v := -1) hx hb dX3_volume_16 (by decide) ?_
      exact hret _ _ _ _ _ hP hD hS (by unfold f_X3_volume; rw [if_neg c_1, if_pos c_2]) dX3_volume_17
def f_X3_reader (g : Nat → Int32) (x : Int32) (k : Int32) : Int32 := (if (f_X3_in x 0 4) = 0 then (-1) else (if (f_X3_in k 0 7) = 0 then (-2) else (if k = 0 then (g (42 + (ix x))) else (if k = 1 then ((g (47 + (ix x))) + 100) else (g (262 + 6 * (ix x) + (ix k - 2)))) : Int32)))
set_option maxHeartbeats 4000000 in
set_option maxRecDepth 100000 in
theorem k_X3_reader (l : Launch) (E : EE) (a : Nat → Nat) (g im kp : Nat → Int32) (x : Int32) (k : Int32)  : Ci l E yX3_reader wsX3_reader { frames := 2, cells := 0, slots := 0, locals := 42 } [.ref (a 0), .int x, .int k] (ms E a g im kp) (f_X3_reader g x k) (ms E a g im kp) := by
  refine Ci.of (cc := cX3_reader) (maxL := 3) (rt := .int) (by decide) rfl rfl (Nat.le_of_ble_eq_true rfl) ?_
  intro p e s m args below meth c A Q F hE hA hret hP hD ls hl
  obtain ⟨hx, hb, hml, hown, hts⟩ := id F
  have hS : va_S A s.heap s.heap [] := va_S.rf
  have hl : lv_has ls 3 [(0, .ref (a 0)), (1, .int x), (2, .int k)] := hl
  have in3 : ∀ w ∈ wsX30, w ∈ wsX3_reader := fun w h => List.mem_cons_of_mem _ (List.mem_append_right _ h)
  have K7 := hts (.fieldLink RX3 7 "PromiseHoursModel" "state" "[I") (by decide +kernel)
  refine lv_iload_n hx hb dX3_reader_0 rfl (lv_at hl 1 rfl) ?_
  refine ci_S F hE (k_X3_isReader l E x) (va_cwS 1 hts gX3_reader_X3_isReader rfl rfl rfl (by decide +kernel) ⟨Nat.le_of_ble_eq_true rfl, Nat.le_of_ble_eq_true rfl⟩) Fr.nil hP hD hS hA rfl hl.1 rfl (Nat.le_of_ble_eq_true rfl) dX3_reader_1 ⟨Nat.zero_le _, Nat.zero_le _⟩ (fun H locs hP hD hS => ?_)
  refine lv_if_ne (tgt := 9) hx hb dX3_reader_4 (by decide) (fun c_1 => ?_) (fun c_1 => ?_)
  · obtain ⟨b_x, e_x⟩ := in_ix (n := 4) c_1 (by decide) (by decide)
    refine lv_iload_n hx hb dX3_reader_9 rfl (lv_at hl 2 rfl) ?_
    refine lv_iconst (v := 0) hx hb dX3_reader_10 (by decide) ?_
    refine lv_bipush (v := 7) hx hb dX3_reader_11 (by decide) ?_
    refine ci_S F hE (k_X3_in l E k 0 7) (va_cwS 3 hts gX3_reader_X3_in rfl rfl rfl (by decide +kernel) ⟨Nat.le_of_ble_eq_true rfl, Nat.le_of_ble_eq_true rfl⟩) Fr.nil hP hD hS hA rfl hl.1 rfl (Nat.le_of_ble_eq_true rfl) dX3_reader_13 ⟨Nat.zero_le _, Nat.zero_le _⟩ (fun H locs hP hD hS => ?_)
    refine lv_if_ne (tgt := 22) hx hb dX3_reader_16 (by decide) (fun c_2 => ?_) (fun c_2 => ?_)
    · refine lv_iload_n hx hb dX3_reader_22 rfl (lv_at hl 2 rfl) ?_
      have J_70_3 : ∀ (w : Int32) (H : Heap) (locs : List Loc), va_P E.1 vwCl (ms E a g im kp) H → va_D A (ms E a g im kp) → va_S A s.heap H locs → w = (if k = 0 then (g (42 + (ix x))) else (if k = 1 then ((g (47 + (ix x))) + 100) else (g (262 + 6 * (ix x) + (ix k - 2)))) : Int32) → W p l e { frames := 2, cells := 0, slots := 0, locals := 42 } s m args below meth c H locs 0 0 Q (F0 m 70 ls [.int w]) := by
        intro w H locs hP hD hS ew
        subst ew
        exact hret _ _ _ _ _ hP hD hS (by unfold f_X3_reader; rw [if_neg c_1, if_neg c_2]) dX3_reader_70
      refine lv_if_ne (tgt := 38) hx hb dX3_reader_23 (by decide) (fun c_4 => ?_) (fun c_4 => ?_)
      · refine lv_iload_n hx hb dX3_reader_38 rfl (lv_at hl 2 rfl) ?_
        refine lv_iconst (v := 1) hx hb dX3_reader_39 (by decide) ?_
        refine lv_icmp_ne (tgt := 58) hx hb dX3_reader_40 (by decide) (fun c_5 => ?_) (fun c_5 => ?_)
        · obtain ⟨b_k, e_k⟩ := in_ix (n := 7) c_2 (by decide) (by decide)
          obtain ⟨e_2, b_2⟩ := sub_2 e_k c_4 c_5
          refine lv_aload_n hx hb dX3_reader_58 rfl (lv_at hl 0 rfl) ?_
          refine va_get (D := E.1) (ci := 3) (v := .ref (a 1)) (C := RX3) (T := TX3) (N := 3) hx hb hts in3 hown hE.1 hP 0 rfl rfl 0 (by decide) K7 (fun _ h9 => h9) rfl dX3_reader_59 ?_
          refine lv_iload_n hx hb dX3_reader_62 rfl (lv_at hl 1 rfl) ?_
          refine tpe e_x ?_
          refine lv_iload_n hx hb dX3_reader_63 rfl (lv_at hl 2 rfl) ?_
          refine lv_iconst (v := 2) hx hb dX3_reader_64 (by decide) ?_
          refine lv_isub hx hb dX3_reader_65 ?_
          refine tpe (y := nI (ix k - 2)) e_2 ?_
          refine ci_S F hE (k_X3_said l E (ix x) (ix k - 2)) (va_cwS 2 hts gX3_reader_X3_said rfl rfl rfl (by decide +kernel) ⟨Nat.le_of_ble_eq_true rfl, Nat.le_of_ble_eq_true rfl⟩) Fr.nil hP hD hS hA rfl hl.1 rfl (Nat.le_of_ble_eq_true rfl) dX3_reader_66 ⟨Nat.zero_le _, Nat.zero_le _⟩ (fun H locs hP hD hS => ?_)
          refine q_iald hx hb hE hP 1 rfl (j := (262 + 6 * (ix x) + (ix k - 2))) (v := (g (262 + 6 * (ix x) + (ix k - 2)))) rfl (by omega) (by decide) rfl dX3_reader_69 ?_
          exact J_70_3 _ _ _ hP hD hS (by rw [if_neg c_4, if_neg c_5])
        · refine lv_aload_n hx hb dX3_reader_43 rfl (lv_at hl 0 rfl) ?_
          refine va_get (D := E.1) (ci := 3) (v := .ref (a 1)) (C := RX3) (T := TX3) (N := 3) hx hb hts in3 hown hE.1 hP 0 rfl rfl 0 (by decide) K7 (fun _ h9 => h9) rfl dX3_reader_44 ?_
          refine lv_bipush (v := 47) hx hb dX3_reader_47 (by decide) ?_
          refine lv_iload_n hx hb dX3_reader_49 rfl (lv_at hl 1 rfl) ?_
          refine tpe e_x ?_
          refine lv_iadd hx hb dX3_reader_50 ?_
          refine tpe (y := nI (47 + (ix x))) (nI_add 47 (ix x)) ?_
          refine q_iald hx hb hE hP 1 rfl (j := (47 + (ix x))) (v := (g (47 + (ix x)))) rfl (by omega) (by decide) rfl dX3_reader_51 ?_
          refine lv_bipush (v := 100) hx hb dX3_reader_52 (by decide) ?_
          refine lv_iadd hx hb dX3_reader_54 ?_
          refine lv_goto (tgt := 70) hx hb dX3_reader_55 (by decide) ?_
          exact J_70_3 _ _ _ hP hD hS (by rw [if_neg c_4, if_pos c_5])
      · refine lv_aload_n hx hb dX3_reader_26 rfl (lv_at hl 0 rfl) ?_
        refine va_get (D := E.1) (ci := 3) (v := .ref (a 1)) (C := RX3) (T := TX3) (N := 3) hx hb hts in3 hown hE.1 hP 0 rfl rfl 0 (by decide) K7 (fun _ h9 => h9) rfl dX3_reader_27 ?_
        refine lv_bipush (v := 42) hx hb dX3_reader_30 (by decide) ?_
        refine lv_iload_n hx hb dX3_reader_32 rfl (lv_at hl 1 rfl) ?_
        refine tpe e_x ?_
        refine lv_iadd hx hb dX3_reader_33 ?_
        refine tpe (y := nI (42 + (ix x))) (nI_add 42 (ix x)) ?_
        refine q_iald hx hb hE hP 1 rfl (j := (42 + (ix x))) (v := (g (42 + (ix x)))) rfl (by omega) (by decide) rfl dX3_reader_34 ?_
        refine lv_goto (tgt := 70) hx hb dX3_reader_35 (by decide) ?_
        exact J_70_3 _ _ _ hP hD hS (by rw [if_pos c_4])
    · refine lv_bipush (v := -2) hx hb dX3_reader_19 (by decide) ?_
      exact hret _ _ _ _ _ hP hD hS (by unfold f_X3_reader; rw [if_neg c_1, if_pos c_2]) dX3_reader_21
  · refine lv_iconst (v := -1) hx hb dX3_reader_7 (by decide) ?_
    exact hret _ _ _ _ _ hP hD hS (by unfold f_X3_reader; rw [if_pos c_1]) dX3_reader_8
def f_X3_count (g : Nat → Int32) (k : Int32) (kp : Nat → Int32) : Int32 := (if k = 0 then (g 0) else (if k = 1 then (g 303) else (if k = 2 then (g 304) else (if k = 3 then (g 305) else (if k = 4 then (g 41) else (if k = 5 then (g 306) else (if k = 6 then (g 307) else (if k = 7 then (g 308) else (if k = 8 then ((if (kp 0) = 0 then 0 else 1 : Int32) + (if (kp 1) = 0 then 0 else 2 : Int32)) else (if (f_X3_in k 10 13) = 0 then (-2) else (g (ix k - 9)) : Int32))))))))))
set_option maxHeartbeats 4000000 in
set_option maxRecDepth 100000 in
theorem k_X3_count (l : Launch) (E : EE) (a : Nat → Nat) (g im kp : Nat → Int32) (k : Int32)  : Ci l E yX3_count wsX3_count { frames := 1, cells := 0, slots := 0, locals := 22 } [.ref (a 0), .int k] (ms E a g im kp) (f_X3_count g k kp) (ms E a g im kp) := by
  refine Ci.of (cc := cX3_count) (maxL := 2) (rt := .int) (by decide) rfl rfl (Nat.le_of_ble_eq_true rfl) ?_
  intro p e s m args below meth c A Q F hE hA hret hP hD ls hl
  obtain ⟨hx, hb, hml, hown, hts⟩ := id F
  have hS : va_S A s.heap s.heap [] := va_S.rf
  have hl : lv_has ls 2 [(0, .ref (a 0)), (1, .int k)] := hl
  have in3 : ∀ w ∈ wsX30, w ∈ wsX3_count := fun w h => List.mem_cons_of_mem _ (List.mem_append_right _ h)
  have K16 := hts (.fieldLink RX3 16 "PromiseHoursModel" "isKept" "[Z") (by decide +kernel)
  have K7 := hts (.fieldLink RX3 7 "PromiseHoursModel" "state" "[I") (by decide +kernel)
  refine lv_iload_n hx hb dX3_count_0 rfl (lv_at hl 1 rfl) ?_
  by_cases c_1 : k = 0
  · refine lv_tableIn (off := 51) (tgt := 52) hx hb dX3_count_1 (by rw [c_1]; decide) (by rw [c_1]; decide) (by rw [c_1]; decide) (by decide) ?_
    refine lv_aload_n hx hb dX3_count_52 rfl (lv_at hl 0 rfl) ?_
    refine va_get (D := E.1) (ci := 3) (v := .ref (a 1)) (C := RX3) (T := TX3) (N := 3) hx hb hts in3 hown hE.1 hP 0 rfl rfl 0 (by decide) K7 (fun _ h9 => h9) rfl dX3_count_53 ?_
    refine lv_iconst (v := 0) hx hb dX3_count_56 (by decide) ?_
    refine q_iald hx hb hE hP 1 rfl (j := 0) (v := (g 0)) rfl (by omega) (by decide) rfl dX3_count_57 ?_
    exact hret _ _ _ _ _ hP hD hS (by unfold f_X3_count; rw [if_pos c_1]) dX3_count_58
  · have nc_1 : k.toInt ≠ 0 := fun h => c_1 (Int32.toInt_inj.mp h)
    by_cases c_2 : k = 1
    · refine lv_tableIn (off := 58) (tgt := 59) hx hb dX3_count_1 (by rw [c_2]; decide) (by rw [c_2]; decide) (by rw [c_2]; decide) (by decide) ?_
      refine lv_aload_n hx hb dX3_count_59 rfl (lv_at hl 0 rfl) ?_
      refine va_get (D := E.1) (ci := 3) (v := .ref (a 1)) (C := RX3) (T := TX3) (N := 3) hx hb hts in3 hown hE.1 hP 0 rfl rfl 0 (by decide) K7 (fun _ h9 => h9) rfl dX3_count_60 ?_
      refine lv_sipush (v := 303) hx hb dX3_count_63 (by decide) ?_
      refine q_iald hx hb hE hP 1 rfl (j := 303) (v := (g 303)) rfl (by omega) (by decide) rfl dX3_count_66 ?_
      exact hret _ _ _ _ _ hP hD hS (by unfold f_X3_count; rw [if_neg c_1, if_pos c_2]) dX3_count_67
    · have nc_2 : k.toInt ≠ 1 := fun h => c_2 (Int32.toInt_inj.mp h)
      by_cases c_3 : k = 2
      · refine lv_tableIn (off := 67) (tgt := 68) hx hb dX3_count_1 (by rw [c_3]; decide) (by rw [c_3]; decide) (by rw [c_3]; decide) (by decide) ?_
        refine lv_aload_n hx hb dX3_count_68 rfl (lv_at hl 0 rfl) ?_
        refine va_get (D := E.1) (ci := 3) (v := .ref (a 1)) (C := RX3) (T := TX3) (N := 3) hx hb hts in3 hown hE.1 hP 0 rfl rfl 0 (by decide) K7 (fun _ h9 => h9) rfl dX3_count_69 ?_
        refine lv_sipush (v := 304) hx hb dX3_count_72 (by decide) ?_
        refine q_iald hx hb hE hP 1 rfl (j := 304) (v := (g 304)) rfl (by omega) (by decide) rfl dX3_count_75 ?_
        exact hret _ _ _ _ _ hP hD hS (by unfold f_X3_count; rw [if_neg c_1, if_neg c_2, if_pos c_3]) dX3_count_76
      · have nc_3 : k.toInt ≠ 2 := fun h => c_3 (Int32.toInt_inj.mp h)
        by_cases c_4 : k = 3
        · refine lv_tableIn (off := 76) (tgt := 77) hx hb dX3_count_1 (by rw [c_4]; decide) (by rw [c_4]; decide) (by rw [c_4]; decide) (by decide) ?_
          refine lv_aload_n hx hb dX3_count_77 rfl (lv_at hl 0 rfl) ?_
          refine va_get (D := E.1) (ci := 3) (v := .ref (a 1)) (C := RX3) (T := TX3) (N := 3) hx hb hts in3 hown hE.1 hP 0 rfl rfl 0 (by decide) K7 (fun _ h9 => h9) rfl dX3_count_78 ?_
          refine lv_sipush (v := 305) hx hb dX3_count_81 (by decide) ?_
          refine q_iald hx hb hE hP 1 rfl (j := 305) (v := (g 305)) rfl (by omega) (by decide) rfl dX3_count_84 ?_
          exact hret _ _ _ _ _ hP hD hS (by unfold f_X3_count; rw [if_neg c_1, if_neg c_2, if_neg c_3, if_pos c_4]) dX3_count_85
        · have nc_4 : k.toInt ≠ 3 := fun h => c_4 (Int32.toInt_inj.mp h)
          by_cases c_5 : k = 4
          · refine lv_tableIn (off := 85) (tgt := 86) hx hb dX3_count_1 (by rw [c_5]; decide) (by rw [c_5]; decide) (by rw [c_5]; decide) (by decide) ?_
            refine lv_aload_n hx hb dX3_count_86 rfl (lv_at hl 0 rfl) ?_
            refine va_get (D := E.1) (ci := 3) (v := .ref (a 1)) (C := RX3) (T := TX3) (N := 3) hx hb hts in3 hown hE.1 hP 0 rfl rfl 0 (by decide) K7 (fun _ h9 => h9) rfl dX3_count_87 ?_
            refine lv_bipush (v := 41) hx hb dX3_count_90 (by decide) ?_
            refine q_iald hx hb hE hP 1 rfl (j := 41) (v := (g 41)) rfl (by omega) (by decide) rfl dX3_count_92 ?_
            exact hret _ _ _ _ _ hP hD hS (by unfold f_X3_count; rw [if_neg c_1, if_neg c_2, if_neg c_3, if_neg c_4, if_pos c_5]) dX3_count_93
          · have nc_5 : k.toInt ≠ 4 := fun h => c_5 (Int32.toInt_inj.mp h)
            by_cases c_6 : k = 5
            · refine lv_tableIn (off := 93) (tgt := 94) hx hb dX3_count_1 (by rw [c_6]; decide) (by rw [c_6]; decide) (by rw [c_6]; decide) (by decide) ?_
              refine lv_aload_n hx hb dX3_count_94 rfl (lv_at hl 0 rfl) ?_
              refine va_get (D := E.1) (ci := 3) (v := .ref (a 1)) (C := RX3) (T := TX3) (N := 3) hx hb hts in3 hown hE.1 hP 0 rfl rfl 0 (by decide) K7 (fun _ h9 => h9) rfl dX3_count_95 ?_
              refine lv_sipush (v := 306) hx hb dX3_count_98 (by decide) ?_
              refine q_iald hx hb hE hP 1 rfl (j := 306) (v := (g 306)) rfl (by omega) (by decide) rfl dX3_count_101 ?_
              exact hret _ _ _ _ _ hP hD hS (by unfold f_X3_count; rw [if_neg c_1, if_neg c_2, if_neg c_3, if_neg c_4, if_neg c_5, if_pos c_6]) dX3_count_102
            · have nc_6 : k.toInt ≠ 5 := fun h => c_6 (Int32.toInt_inj.mp h)
              by_cases c_7 : k = 6
              · refine lv_tableIn (off := 102) (tgt := 103) hx hb dX3_count_1 (by rw [c_7]; decide) (by rw [c_7]; decide) (by rw [c_7]; decide) (by decide) ?_
                refine lv_aload_n hx hb dX3_count_103 rfl (lv_at hl 0 rfl) ?_
                refine va_get (D := E.1) (ci := 3) (v := .ref (a 1)) (C := RX3) (T := TX3) (N := 3) hx hb hts in3 hown hE.1 hP 0 rfl rfl 0 (by decide) K7 (fun _ h9 => h9) rfl dX3_count_104 ?_
                refine lv_sipush (v := 307) hx hb dX3_count_107 (by decide) ?_
                refine q_iald hx hb hE hP 1 rfl (j := 307) (v := (g 307)) rfl (by omega) (by decide) rfl dX3_count_110 ?_
                exact hret _ _ _ _ _ hP hD hS (by unfold f_X3_count; rw [if_neg c_1, if_neg c_2, if_neg c_3, if_neg c_4, if_neg c_5, if_neg c_6, if_pos c_7]) dX3_count_111
              · have nc_7 : k.toInt ≠ 6 := fun h => c_7 (Int32.toInt_inj.mp h)
                by_cases c_8 : k = 7
                · refine lv_tableIn (off := 111) (tgt := 112) hx hb dX3_count_1 (by rw [c_8]; decide) (by rw [c_8]; decide) (by rw [c_8]; decide) (by decide) ?_
                  refine lv_aload_n hx hb dX3_count_112 rfl (lv_at hl 0 rfl) ?_
                  refine va_get (D := E.1) (ci := 3) (v := .ref (a 1)) (C := RX3) (T := TX3) (N := 3) hx hb hts in3 hown hE.1 hP 0 rfl rfl 0 (by decide) K7 (fun _ h9 => h9) rfl dX3_count_113 ?_
                  refine lv_sipush (v := 308) hx hb dX3_count_116 (by decide) ?_
                  refine q_iald hx hb hE hP 1 rfl (j := 308) (v := (g 308)) rfl (by omega) (by decide) rfl dX3_count_119 ?_
                  exact hret _ _ _ _ _ hP hD hS (by unfold f_X3_count; rw [if_neg c_1, if_neg c_2, if_neg c_3, if_neg c_4, if_neg c_5, if_neg c_6, if_neg c_7, if_pos c_8]) dX3_count_120
                · have nc_8 : k.toInt ≠ 7 := fun h => c_8 (Int32.toInt_inj.mp h)
                  by_cases c_9 : k = 8
                  · refine lv_tableIn (off := 120) (tgt := 121) hx hb dX3_count_1 (by rw [c_9]; decide) (by rw [c_9]; decide) (by rw [c_9]; decide) (by decide) ?_
                    refine lv_aload_n hx hb dX3_count_121 rfl (lv_at hl 0 rfl) ?_
                    refine va_get (D := E.1) (ci := 3) (v := .ref (a 3)) (C := RX3) (T := TX3) (N := 3) hx hb hts in3 hown hE.1 hP 0 rfl rfl 2 (by decide) K16 (fun _ h9 => h9) rfl dX3_count_122 ?_
                    refine lv_iconst (v := 0) hx hb dX3_count_125 (by decide) ?_
                    refine q_zald hx hb hE hP 3 rfl (j := 0) (v := (kp 0)) rfl (by omega) (by decide) rfl dX3_count_126 ?_
                    have J_135_10 : ∀ (w : Int32) (H : Heap) (locs : List Loc), va_P E.1 vwCl (ms E a g im kp) H → va_D A (ms E a g im kp) → va_S A s.heap H locs → w = (if (kp 0) = 0 then 0 else 1 : Int32) → W p l e { frames := 1, cells := 0, slots := 0, locals := 22 } s m args below meth c H locs 0 0 Q (F0 m 135 ls [.int w]) := by
                      intro w H locs hP hD hS ew
                      subst ew
                      refine lv_aload_n hx hb dX3_count_135 rfl (lv_at hl 0 rfl) ?_
                      refine va_get (D := E.1) (ci := 3) (v := .ref (a 3)) (C := RX3) (T := TX3) (N := 3) hx hb hts in3 hown hE.1 hP 0 rfl rfl 2 (by decide) K16 (fun _ h9 => h9) rfl dX3_count_136 ?_
                      refine lv_iconst (v := 1) hx hb dX3_count_139 (by decide) ?_
                      refine q_zald hx hb hE hP 3 rfl (j := 1) (v := (kp 1)) rfl (by omega) (by decide) rfl dX3_count_140 ?_
                      have J_149_12 : ∀ (w : Int32) (H : Heap) (locs : List Loc), va_P E.1 vwCl (ms E a g im kp) H → va_D A (ms E a g im kp) → va_S A s.heap H locs → w = (if (kp 1) = 0 then 0 else 2 : Int32) → W p l e { frames := 1, cells := 0, slots := 0, locals := 22 } s m args below meth c H locs 0 0 Q (F0 m 149 ls [.int w, .int (if (kp 0) = 0 then 0 else 1 : Int32)]) := by
                        intro w H locs hP hD hS ew
                        subst ew
                        refine lv_iadd hx hb dX3_count_149 ?_
                        exact hret _ _ _ _ _ hP hD hS (by unfold f_X3_count; rw [if_neg c_1, if_neg c_2, if_neg c_3, if_neg c_4, if_neg c_5, if_neg c_6, if_neg c_7, if_neg c_8, if_pos c_9]) dX3_count_150
                      refine lv_if_eq (tgt := 148) hx hb dX3_count_141 (by decide) (fun c_13 => ?_) (fun c_13 => ?_)
                      · refine lv_iconst (v := 0) hx hb dX3_count_148 (by decide) ?_
                        exact J_149_12 _ _ _ hP hD hS (by rw [if_pos c_13])
                      · refine lv_iconst (v := 2) hx hb dX3_count_144 (by decide) ?_
                        refine lv_goto (tgt := 149) hx hb dX3_count_145 (by decide) ?_
                        exact J_149_12 _ _ _ hP hD hS (by rw [if_neg c_13])
                    refine lv_if_eq (tgt := 134) hx hb dX3_count_127 (by decide) (fun c_11 => ?_) (fun c_11 => ?_)
                    · refine lv_iconst (v := 0) hx hb dX3_count_134 (by decide) ?_
                      exact J_135_10 _ _ _ hP hD hS (by rw [if_pos c_11])
                    · refine lv_iconst (v := 1) hx hb dX3_count_130 (by decide) ?_
                      refine lv_goto (tgt := 135) hx hb dX3_count_131 (by decide) ?_
                      exact J_135_10 _ _ _ hP hD hS (by rw [if_neg c_11])
                  · have nc_9 : k.toInt ≠ 8 := fun h => c_9 (Int32.toInt_inj.mp h)
                    refine lv_tableOut (tgt := 151) hx hb dX3_count_1 (by omega) (by decide) ?_
                    refine lv_iload_n hx hb dX3_count_151 rfl (lv_at hl 1 rfl) ?_
                    refine lv_bipush (v := 10) hx hb dX3_count_152 (by decide) ?_
                    refine lv_bipush (v := 13) hx hb dX3_count_154 (by decide) ?_
                    refine ci_S F hE (k_X3_in l E k 10 13) (va_cwS 3 hts gX3_count_X3_in rfl rfl rfl (by decide +kernel) ⟨Nat.le_of_ble_eq_true rfl, Nat.le_of_ble_eq_true rfl⟩) Fr.nil hP hD hS hA rfl hl.1 rfl (Nat.le_of_ble_eq_true rfl) dX3_count_156 ⟨Nat.zero_le _, Nat.zero_le _⟩ (fun H locs hP hD hS => ?_)
                    have J_178_14 : ∀ (w : Int32) (H : Heap) (locs : List Loc), va_P E.1 vwCl (ms E a g im kp) H → va_D A (ms E a g im kp) → va_S A s.heap H locs → w = (if (f_X3_in k 10 13) = 0 then (-2) else (g (ix k - 9)) : Int32) → W p l e { frames := 1, cells := 0, slots := 0, locals := 22 } s m args below meth c H locs 0 0 Q (F0 m 178 ls [.int w]) := by
                      intro w H locs hP hD hS ew
                      subst ew
                      exact hret _ _ _ _ _ hP hD hS (by unfold f_X3_count; rw [if_neg c_1, if_neg c_2, if_neg c_3, if_neg c_4, if_neg c_5, if_neg c_6, if_neg c_7, if_neg c_8, if_neg c_9]) dX3_count_178
                    refine lv_if_eq (tgt := 176) hx hb dX3_count_159 (by decide) (fun c_15 => ?_) (fun c_15 => ?_)
                    · refine lv_bipush (v := -2) hx hb dX3_count_176 (by decide) ?_
                      exact J_178_14 _ _ _ hP hD hS (by rw [if_pos c_15])
                    · obtain ⟨e_k, b_k, b_l⟩ := in_10 c_15
                      refine lv_aload_n hx hb dX3_count_162 rfl (lv_at hl 0 rfl) ?_
                      refine va_get (D := E.1) (ci := 3) (v := .ref (a 1)) (C := RX3) (T := TX3) (N := 3) hx hb hts in3 hown hE.1 hP 0 rfl rfl 0 (by decide) K7 (fun _ h9 => h9) rfl dX3_count_163 ?_
                      refine lv_iconst (v := 1) hx hb dX3_count_166 (by decide) ?_
                      refine lv_iload_n hx hb dX3_count_167 rfl (lv_at hl 1 rfl) ?_
                      refine lv_iadd hx hb dX3_count_168 ?_
                      refine lv_bipush (v := 10) hx hb dX3_count_169 (by decide) ?_
                      refine lv_isub hx hb dX3_count_171 ?_
                      refine tpe (y := nI (ix k - 9)) e_k ?_
                      refine q_iald hx hb hE hP 1 rfl (j := (ix k - 9)) (v := (g (ix k - 9))) rfl (by omega) (by decide) rfl dX3_count_172 ?_
                      refine lv_goto (tgt := 178) hx hb dX3_count_173 (by decide) ?_
                      exact J_178_14 _ _ _ hP hD hS (by rw [if_neg c_15])
def p_X3_renew_63 (g : Nat → Int32) (r : Nat) (t : Nat) (S63 : (Nat → Int32)) (i : Nat) : (Nat → Int32) := (if (if ((g 0) - (g (52 + 3 * r + t / 4))) ≤ (g 4) then 0 else 1 : Int32) = 0 then (if (((S63 (67 + 3 * r + t / 4)) >>> ((nI (t / 4 * 4 + i)) &&& 31)) &&& 1) = 1 then (upd (upd (upd (upd S63 (262 + 6 * r + 5) ((S63 (262 + 6 * r + 5)) + (if (S63 (82 + 12 * r + (t / 4 * 4 + i))) < 0 then 0 else 1 : Int32))) (82 + 12 * r + (t / 4 * 4 + i)) (-6)) (142 + 12 * r + (t / 4 * 4 + i)) 0) (202 + 12 * r + (t / 4 * 4 + i)) 0) else S63) else (upd (upd (upd (upd S63 (262 + 6 * r + 5) ((S63 (262 + 6 * r + 5)) + (if (S63 (82 + 12 * r + (t / 4 * 4 + i))) < 0 then 0 else 1 : Int32))) (82 + 12 * r + (t / 4 * 4 + i)) (-6)) (142 + 12 * r + (t / 4 * 4 + i)) 0) (202 + 12 * r + (t / 4 * 4 + i)) 0))
def q_X3_renew_63 (g : Nat → Int32) (r : Nat) (t : Nat) (S0 : (Nat → Int32)) : Nat → (Nat → Int32)
  | 0 => S0
  | i + 1 => p_X3_renew_63 g r t (q_X3_renew_63 g r t S0 i) i
def s_X3_renew (g : Nat → Int32) (r : Nat) (t : Nat) : Nat → Int32 := (if (g (67 + 3 * r + t / 4)) = 0 then (upd (upd g (52 + 3 * r + t / 4) ((g 0) + (g 2))) 308 ((g 308) + 1)) else (upd (upd (upd (q_X3_renew_63 g r t g 4) (67 + 3 * r + t / 4) 0) (52 + 3 * r + t / 4) (((q_X3_renew_63 g r t g 4) 0) + ((q_X3_renew_63 g r t g 4) 2))) 308 (((q_X3_renew_63 g r t g 4) 308) + 1)))
set_option maxHeartbeats 4000000 in
set_option maxRecDepth 100000 in
theorem k_X3_renew (l : Launch) (E : EE) (a : Nat → Nat) (g im kp : Nat → Int32) (r : Nat) (t : Nat) (hr : r < 5) (ht : t < 12) : Cv l E yX3_renew wsX3_renew { frames := 2, cells := 0, slots := 0, locals := 44 } [.ref (a 0), .int (nI r), .int (nI t)] (ms E a g im kp) (ms E a (s_X3_renew g r t) im kp) := by
  refine Cv.of (cc := cX3_renew) (maxL := 7) (by decide) rfl (Nat.le_of_ble_eq_true rfl) ?_
  intro p e s m args below meth c A Q F hE hA hret hP hD ls hl
  obtain ⟨hx, hb, hml, hown, hts⟩ := id F
  have hS : va_S A s.heap s.heap [] := va_S.rf
  have hl : lv_has ls 7 [(0, .ref (a 0)), (1, .int (nI r)), (2, .int (nI t))] := hl
  have in3 : ∀ w ∈ wsX30, w ∈ wsX3_renew := fun w h => List.mem_cons_of_mem _ (List.mem_append_right _ h)
  have K7 := hts (.fieldLink RX3 7 "PromiseHoursModel" "state" "[I") (by decide +kernel)
  refine lv_bipush (v := 52) hx hb dX3_renew_0 (by decide) ?_
  refine lv_iload_n hx hb dX3_renew_2 rfl (lv_at hl 1 rfl) ?_
  refine lv_iload_n hx hb dX3_renew_3 rfl (lv_at hl 2 rfl) ?_
  refine ci_S F hE (k_X3_volumeAt l E 52 r t (by omega)) (va_cwS 3 hts gX3_renew_X3_volumeAt rfl rfl rfl (by decide +kernel) ⟨Nat.le_of_ble_eq_true rfl, Nat.le_of_ble_eq_true rfl⟩) Fr.nil hP hD hS hA rfl hl.1 rfl (Nat.le_of_ble_eq_true rfl) dX3_renew_4 ⟨Nat.zero_le _, Nat.zero_le _⟩ (fun H locs hP hD hS => ?_)
  refine lv_istore_n (lv' := [(3, .int (nI (52 + 3 * r + t / 4))), (0, .ref (a 0)), (1, .int (nI r)), (2, .int (nI t))]) hx hb dX3_renew_7 rfl hl (by decide) rfl (fun ls hl => ?_)
  refine lv_bipush (v := 67) hx hb dX3_renew_8 (by decide) ?_
  refine lv_iload_n hx hb dX3_renew_10 rfl (lv_at hl 2 rfl) ?_
  refine lv_iload_n hx hb dX3_renew_11 rfl (lv_at hl 3 rfl) ?_
  refine ci_S F hE (k_X3_volumeAt l E 67 r t (by omega)) (va_cwS 3 hts gX3_renew_X3_volumeAt rfl rfl rfl (by decide +kernel) ⟨Nat.le_of_ble_eq_true rfl, Nat.le_of_ble_eq_true rfl⟩) Fr.nil hP hD hS hA rfl hl.1 rfl (Nat.le_of_ble_eq_true rfl) dX3_renew_12 ⟨Nat.zero_le _, Nat.zero_le _⟩ (fun H locs hP hD hS => ?_)
  refine lv_istore (lv' := [(4, .int (nI (67 + 3 * r + t / 4))), (3, .int (nI (52 + 3 * r + t / 4))), (0, .ref (a 0)), (1, .int (nI r)), (2, .int (nI t))]) hx hb dX3_renew_15 hl (by decide) rfl (fun ls hl => ?_)
  refine lv_aload_n hx hb dX3_renew_17 rfl (lv_at hl 2 rfl) ?_
  refine va_get (D := E.1) (ci := 3) (v := .ref (a 1)) (C := RX3) (T := TX3) (N := 3) hx hb hts in3 hown hE.1 hP 0 rfl rfl 0 (by decide) K7 (fun _ h9 => h9) rfl dX3_renew_18 ?_
  refine lv_iconst (v := 0) hx hb dX3_renew_21 (by decide) ?_
  refine q_iald hx hb hE hP 1 rfl (j := 0) (v := (g 0)) rfl (by omega) (by decide) rfl dX3_renew_22 ?_
  refine lv_aload_n hx hb dX3_renew_23 rfl (lv_at hl 2 rfl) ?_
  refine va_get (D := E.1) (ci := 3) (v := .ref (a 1)) (C := RX3) (T := TX3) (N := 3) hx hb hts in3 hown hE.1 hP 0 rfl rfl 0 (by decide) K7 (fun _ h9 => h9) rfl dX3_renew_24 ?_
  refine lv_iload_n hx hb dX3_renew_27 rfl (lv_at hl 1 rfl) ?_
  refine q_iald hx hb hE hP 1 rfl (j := (52 + 3 * r + t / 4)) (v := (g (52 + 3 * r + t / 4))) rfl (by omega) (by decide) rfl dX3_renew_28 ?_
  refine lv_isub hx hb dX3_renew_29 ?_
  refine lv_aload_n hx hb dX3_renew_30 rfl (lv_at hl 2 rfl) ?_
  refine va_get (D := E.1) (ci := 3) (v := .ref (a 1)) (C := RX3) (T := TX3) (N := 3) hx hb hts in3 hown hE.1 hP 0 rfl rfl 0 (by decide) K7 (fun _ h9 => h9) rfl dX3_renew_31 ?_
  refine lv_iconst (v := 4) hx hb dX3_renew_34 (by decide) ?_
  refine q_iald hx hb hE hP 1 rfl (j := 4) (v := (g 4)) rfl (by omega) (by decide) rfl dX3_renew_35 ?_
  have J_44_1 : ∀ (w : Int32) (H : Heap) (locs : List Loc), va_P E.1 vwCl (ms E a g im kp) H → va_D A (ms E a g im kp) → va_S A s.heap H locs → w = (if ((g 0) - (g (52 + 3 * r + t / 4))) ≤ (g 4) then 0 else 1 : Int32) → W p l e { frames := 2, cells := 0, slots := 0, locals := 44 } s m args below meth c H locs 0 0 Q (F0 m 44 ls [.int w]) := by
    intro w H locs hP hD hS ew
    subst ew
    refine lv_istore (lv' := [(5, .int (if ((g 0) - (g (52 + 3 * r + t / 4))) ≤ (g 4) then 0 else 1 : Int32)), (4, .int (nI (67 + 3 * r + t / 4))), (3, .int (nI (52 + 3 * r + t / 4))), (0, .ref (a 0)), (1, .int (nI r)), (2, .int (nI t))]) hx hb dX3_renew_44 hl (by decide) rfl (fun ls hl => ?_)
    refine lv_aload_n hx hb dX3_renew_46 rfl (lv_at hl 3 rfl) ?_
    refine va_get (D := E.1) (ci := 3) (v := .ref (a 1)) (C := RX3) (T := TX3) (N := 3) hx hb hts in3 hown hE.1 hP 0 rfl rfl 0 (by decide) K7 (fun _ h9 => h9) rfl dX3_renew_47 ?_
    refine lv_iload hx hb dX3_renew_50 (lv_at hl 1 rfl) ?_
    refine q_iald hx hb hE hP 1 rfl (j := (67 + 3 * r + t / 4)) (v := (g (67 + 3 * r + t / 4))) rfl (by omega) (by decide) rfl dX3_renew_52 ?_
    refine lv_if_eq (tgt := 151) hx hb dX3_renew_53 (by decide) (fun c_3 => ?_) (fun c_3 => ?_)
    · refine lv_aload_n hx hb dX3_renew_151 rfl (lv_at hl 3 rfl) ?_
      refine va_get (D := E.1) (ci := 3) (v := .ref (a 1)) (C := RX3) (T := TX3) (N := 3) hx hb hts in3 hown hE.1 hP 0 rfl rfl 0 (by decide) K7 (fun _ h9 => h9) rfl dX3_renew_152 ?_
      refine lv_iload_n hx hb dX3_renew_155 rfl (lv_at hl 2 rfl) ?_
      refine lv_aload_n hx hb dX3_renew_156 rfl (lv_at hl 3 rfl) ?_
      refine va_get (D := E.1) (ci := 3) (v := .ref (a 1)) (C := RX3) (T := TX3) (N := 3) hx hb hts in3 hown hE.1 hP 0 rfl rfl 0 (by decide) K7 (fun _ h9 => h9) rfl dX3_renew_157 ?_
      refine lv_iconst (v := 0) hx hb dX3_renew_160 (by decide) ?_
      refine q_iald hx hb hE hP 1 rfl (j := 0) (v := (g 0)) rfl (by omega) (by decide) rfl dX3_renew_161 ?_
      refine lv_aload_n hx hb dX3_renew_162 rfl (lv_at hl 3 rfl) ?_
      refine va_get (D := E.1) (ci := 3) (v := .ref (a 1)) (C := RX3) (T := TX3) (N := 3) hx hb hts in3 hown hE.1 hP 0 rfl rfl 0 (by decide) K7 (fun _ h9 => h9) rfl dX3_renew_163 ?_
      refine lv_iconst (v := 2) hx hb dX3_renew_166 (by decide) ?_
      refine q_iald hx hb hE hP 1 rfl (j := 2) (v := (g 2)) rfl (by omega) (by decide) rfl dX3_renew_167 ?_
      refine lv_iadd hx hb dX3_renew_168 ?_
      refine q_iast hx hb hE hP hD hS 1 rfl (j := (52 + 3 * r + t / 4)) (wd' := (ms E a (upd g (52 + 3 * r + t / 4) ((g 0) + (g 2))) im kp)) rfl (by omega) (by decide) rfl dX3_renew_169 (fun H locs hP hD hS => ?_)
      refine lv_aload_n hx hb dX3_renew_170 rfl (lv_at hl 3 rfl) ?_
      refine va_get (D := E.1) (ci := 3) (v := .ref (a 1)) (C := RX3) (T := TX3) (N := 3) hx hb hts in3 hown hE.1 hP 0 rfl rfl 0 (by decide) K7 (fun _ h9 => h9) rfl dX3_renew_171 ?_
      refine lv_sipush (v := 308) hx hb dX3_renew_174 (by decide) ?_
      refine lv_dup2_11 hx hb dX3_renew_177 rfl rfl ?_
      refine q_iald hx hb hE hP 1 rfl (j := 308) (v := (g 308)) rfl (by omega) (by decide) (up_n (by omega)) dX3_renew_178 ?_
      refine lv_iconst (v := 1) hx hb dX3_renew_179 (by decide) ?_
      refine lv_iadd hx hb dX3_renew_180 ?_
      refine q_iast hx hb hE hP hD hS 1 rfl (j := 308) (wd' := (ms E a (upd (upd g (52 + 3 * r + t / 4) ((g 0) + (g 2))) 308 ((g 308) + 1)) im kp)) rfl (by omega) (by decide) rfl dX3_renew_181 (fun H locs hP hD hS => ?_)
      have eg : (upd (upd g (52 + 3 * r + t / 4) ((g 0) + (g 2))) 308 ((g 308) + 1)) = (s_X3_renew g r t) := (by unfold s_X3_renew; rw [if_pos c_3])
      exact hret _ _ _ _ (by rw [← eg]; exact hP) (by rw [← eg]; exact hD) hS dX3_renew_182
    · refine lv_iload_n hx hb dX3_renew_56 rfl (lv_at hl 5 rfl) ?_
      refine lv_iconst (v := 4) hx hb dX3_renew_57 (by decide) ?_
      refine lv_idiv hx hb dX3_renew_58 (by decide) ?_
      refine tpe (y := nI (t / 4)) (pk_div (d := 4) (by omega) (by decide) (by decide)) ?_
      refine lv_iconst (v := 4) hx hb dX3_renew_59 (by decide) ?_
      refine lv_imul hx hb dX3_renew_60 ?_
      refine tpe (y := nI ((t / 4) * 4)) (pk_mul (t / 4) 4) ?_
      refine lv_istore (lv' := [(6, .int (nI ((t / 4) * 4))), (5, .int (if ((g 0) - (g (52 + 3 * r + t / 4))) ≤ (g 4) then 0 else 1 : Int32)), (4, .int (nI (67 + 3 * r + t / 4))), (3, .int (nI (52 + 3 * r + t / 4))), (0, .ref (a 0)), (1, .int (nI r)), (2, .int (nI t))]) hx hb dX3_renew_61 hl (by decide) rfl (fun ls hl => ?_)
      have lp63 : ∀ (fu i : Nat), i ≤ 4 → 4 + 1 ≤ i + fu → ∀ (S63 : (Nat → Int32)), S63 = (q_X3_renew_63 g r t g i) → ∀ (H : Heap) (locs : List Loc), va_P E.1 vwCl (ms E a S63 im kp) H → va_D A (ms E a S63 im kp) → va_S A s.heap H locs → ∀ ls : Array Slot, lv_has ls 7 [(0, .ref (a 0)), (1, .int (nI r)), (2, .int (nI t)), (3, .int (nI (52 + 3 * r + t / 4))), (4, .int (nI (67 + 3 * r + t / 4))), (5, .int (if ((g 0) - (g (52 + 3 * r + t / 4))) ≤ (g 4) then 0 else 1 : Int32)), (6, .int (nI (t / 4 * 4 + i)))] → W p l e { frames := 2, cells := 0, slots := 0, locals := 44 } s m args below meth c H locs 0 0 Q (F0 m 63 ls []) := by
        intro fu
        induction fu with
        | zero => intro i h1 h2; exact absurd h2 (by omega)
        | succ fu ih =>
          intro i hi hin S63 eS63 H locs hP hD hS ls hl
          refine lv_iload hx hb dX3_renew_63 (lv_at hl 6 rfl) ?_
          refine lv_iload_n hx hb dX3_renew_65 rfl (lv_at hl 2 rfl) ?_
          refine lv_iconst (v := 4) hx hb dX3_renew_66 (by decide) ?_
          refine lv_idiv hx hb dX3_renew_67 (by decide) ?_
          refine tpe (y := nI (t / 4)) (pk_div (d := 4) (by omega) (by decide) (by decide)) ?_
          refine lv_iconst (v := 4) hx hb dX3_renew_68 (by decide) ?_
          refine lv_imul hx hb dX3_renew_69 ?_
          refine tpe (y := nI ((t / 4) * 4)) (pk_mul (t / 4) 4) ?_
          refine lv_iconst (v := 4) hx hb dX3_renew_70 (by decide) ?_
          refine lv_iadd hx hb dX3_renew_71 ?_
          refine tpe (y := nI ((t / 4) * 4 + 4)) (nI_add ((t / 4) * 4) 4) ?_
          refine lv_icmp_ge (tgt := 143) hx hb dX3_renew_72 (by decide) (fun c_4 => ?_) (fun c_4 => ?_)
          · have hiN : i = 4 := by have := (nI_leI (a := (t / 4 * 4 + 4)) (b := (t / 4 * 4 + i)) (by omega) (by omega)).mp c_4; omega
            rw [hiN] at eS63 hl
            refine lv_aload_n hx hb dX3_renew_143 rfl (lv_at hl 0 rfl) ?_
            refine va_get (D := E.1) (ci := 3) (v := .ref (a 1)) (C := RX3) (T := TX3) (N := 3) hx hb hts in3 hown hE.1 hP 0 rfl rfl 0 (by decide) K7 (fun _ h9 => h9) rfl dX3_renew_144 ?_
            refine lv_iload hx hb dX3_renew_147 (lv_at hl 4 rfl) ?_
            refine lv_iconst (v := 0) hx hb dX3_renew_149 (by decide) ?_
            refine q_iast hx hb hE hP hD hS 1 rfl (j := (67 + 3 * r + t / 4)) (wd' := (ms E a (upd S63 (67 + 3 * r + t / 4) 0) im kp)) rfl (by omega) (by decide) rfl dX3_renew_150 (fun H locs hP hD hS => ?_)
            refine lv_aload_n hx hb dX3_renew_151 rfl (lv_at hl 0 rfl) ?_
            refine va_get (D := E.1) (ci := 3) (v := .ref (a 1)) (C := RX3) (T := TX3) (N := 3) hx hb hts in3 hown hE.1 hP 0 rfl rfl 0 (by decide) K7 (fun _ h9 => h9) rfl dX3_renew_152 ?_
            refine lv_iload_n hx hb dX3_renew_155 rfl (lv_at hl 3 rfl) ?_
            refine lv_aload_n hx hb dX3_renew_156 rfl (lv_at hl 0 rfl) ?_
            refine va_get (D := E.1) (ci := 3) (v := .ref (a 1)) (C := RX3) (T := TX3) (N := 3) hx hb hts in3 hown hE.1 hP 0 rfl rfl 0 (by decide) K7 (fun _ h9 => h9) rfl dX3_renew_157 ?_
            refine lv_iconst (v := 0) hx hb dX3_renew_160 (by decide) ?_
            refine q_iald hx hb hE hP 1 rfl (j := 0) (v := (S63 0)) rfl (by omega) (by decide) (up_n (by omega)) dX3_renew_161 ?_
            refine lv_aload_n hx hb dX3_renew_162 rfl (lv_at hl 0 rfl) ?_
            refine va_get (D := E.1) (ci := 3) (v := .ref (a 1)) (C := RX3) (T := TX3) (N := 3) hx hb hts in3 hown hE.1 hP 0 rfl rfl 0 (by decide) K7 (fun _ h9 => h9) rfl dX3_renew_163 ?_
            refine lv_iconst (v := 2) hx hb dX3_renew_166 (by decide) ?_
            refine q_iald hx hb hE hP 1 rfl (j := 2) (v := (S63 2)) rfl (by omega) (by decide) (up_n (by omega)) dX3_renew_167 ?_
            refine lv_iadd hx hb dX3_renew_168 ?_
            refine q_iast hx hb hE hP hD hS 1 rfl (j := (52 + 3 * r + t / 4)) (wd' := (ms E a (upd (upd S63 (67 + 3 * r + t / 4) 0) (52 + 3 * r + t / 4) ((S63 0) + (S63 2))) im kp)) rfl (by omega) (by decide) rfl dX3_renew_169 (fun H locs hP hD hS => ?_)
            refine lv_aload_n hx hb dX3_renew_170 rfl (lv_at hl 0 rfl) ?_
            refine va_get (D := E.1) (ci := 3) (v := .ref (a 1)) (C := RX3) (T := TX3) (N := 3) hx hb hts in3 hown hE.1 hP 0 rfl rfl 0 (by decide) K7 (fun _ h9 => h9) rfl dX3_renew_171 ?_
            refine lv_sipush (v := 308) hx hb dX3_renew_174 (by decide) ?_
            refine lv_dup2_11 hx hb dX3_renew_177 rfl rfl ?_
            refine q_iald hx hb hE hP 1 rfl (j := 308) (v := (S63 308)) rfl (by omega) (by decide) ((up_n (by omega)).trans (up_n (by omega))) dX3_renew_178 ?_
            refine lv_iconst (v := 1) hx hb dX3_renew_179 (by decide) ?_
            refine lv_iadd hx hb dX3_renew_180 ?_
            refine q_iast hx hb hE hP hD hS 1 rfl (j := 308) (wd' := (ms E a (upd (upd (upd S63 (67 + 3 * r + t / 4) 0) (52 + 3 * r + t / 4) ((S63 0) + (S63 2))) 308 ((S63 308) + 1)) im kp)) rfl (by omega) (by decide) rfl dX3_renew_181 (fun H locs hP hD hS => ?_)
            have eg : (upd (upd (upd S63 (67 + 3 * r + t / 4) 0) (52 + 3 * r + t / 4) ((S63 0) + (S63 2))) 308 ((S63 308) + 1)) = (s_X3_renew g r t) := (by unfold s_X3_renew; (try rw [← eS63]); rw [if_neg c_3])
            exact hret _ _ _ _ (by rw [← eg]; exact hP) (by rw [← eg]; exact hD) hS dX3_renew_182
          · have hlt : i < 4 := Nat.lt_of_not_le (fun h => c_4 (nI_le (a := (t / 4 * 4 + 4)) (b := (t / 4 * 4 + i)) (by omega) (by omega)))
            refine lv_iload hx hb dX3_renew_75 (lv_at hl 5 rfl) ?_
            refine lv_if_ne (tgt := 96) hx hb dX3_renew_77 (by decide) (fun c_5 => ?_) (fun c_5 => ?_)
            · refine lv_aload_n hx hb dX3_renew_96 rfl (lv_at hl 0 rfl) ?_
              refine va_get (D := E.1) (ci := 3) (v := .ref (a 1)) (C := RX3) (T := TX3) (N := 3) hx hb hts in3 hown hE.1 hP 0 rfl rfl 0 (by decide) K7 (fun _ h9 => h9) rfl dX3_renew_97 ?_
              refine lv_iload_n hx hb dX3_renew_100 rfl (lv_at hl 1 rfl) ?_
              refine lv_iconst (v := 5) hx hb dX3_renew_101 (by decide) ?_
              refine ci_S F hE (k_X3_said l E r 5) (va_cwS 2 hts gX3_renew_X3_said rfl rfl rfl (by decide +kernel) ⟨Nat.le_of_ble_eq_true rfl, Nat.le_of_ble_eq_true rfl⟩) Fr.nil hP hD hS hA rfl hl.1 rfl (Nat.le_of_ble_eq_true rfl) dX3_renew_102 ⟨Nat.zero_le _, Nat.zero_le _⟩ (fun H locs hP hD hS => ?_)
              refine lv_dup2_11 hx hb dX3_renew_105 rfl rfl ?_
              refine q_iald hx hb hE hP 1 rfl (j := (262 + 6 * r + 5)) (v := (S63 (262 + 6 * r + 5))) rfl (by omega) (by decide) rfl dX3_renew_106 ?_
              refine lv_aload_n hx hb dX3_renew_107 rfl (lv_at hl 0 rfl) ?_
              refine va_get (D := E.1) (ci := 3) (v := .ref (a 1)) (C := RX3) (T := TX3) (N := 3) hx hb hts in3 hown hE.1 hP 0 rfl rfl 0 (by decide) K7 (fun _ h9 => h9) rfl dX3_renew_108 ?_
              refine lv_bipush (v := 82) hx hb dX3_renew_111 (by decide) ?_
              refine lv_iload_n hx hb dX3_renew_113 rfl (lv_at hl 1 rfl) ?_
              refine lv_iload hx hb dX3_renew_114 (lv_at hl 6 rfl) ?_
              refine ci_S F hE (k_X3_thingAt l E 82 r (t / 4 * 4 + i)) (va_cwS 3 hts gX3_renew_X3_thingAt rfl rfl rfl (by decide +kernel) ⟨Nat.le_of_ble_eq_true rfl, Nat.le_of_ble_eq_true rfl⟩) Fr.nil hP hD hS hA rfl hl.1 rfl (Nat.le_of_ble_eq_true rfl) dX3_renew_116 ⟨Nat.zero_le _, Nat.zero_le _⟩ (fun H locs hP hD hS => ?_)
              refine q_iald hx hb hE hP 1 rfl (j := (82 + 12 * r + (t / 4 * 4 + i))) (v := (S63 (82 + 12 * r + (t / 4 * 4 + i)))) rfl (by omega) (by decide) rfl dX3_renew_119 ?_
              have J_128_6 : ∀ (w : Int32) (H : Heap) (locs : List Loc), va_P E.1 vwCl (ms E a S63 im kp) H → va_D A (ms E a S63 im kp) → va_S A s.heap H locs → w = (if (S63 (82 + 12 * r + (t / 4 * 4 + i))) < 0 then 0 else 1 : Int32) → W p l e { frames := 2, cells := 0, slots := 0, locals := 44 } s m args below meth c H locs 0 0 Q (F0 m 128 ls [.int w, .int (S63 (262 + 6 * r + 5)), .int (nI (262 + 6 * r + 5)), .ref (a 1)]) := by
                intro w H locs hP hD hS ew
                subst ew
                refine lv_iadd hx hb dX3_renew_128 ?_
                refine q_iast hx hb hE hP hD hS 1 rfl (j := (262 + 6 * r + 5)) (wd' := (ms E a (upd S63 (262 + 6 * r + 5) ((S63 (262 + 6 * r + 5)) + (if (S63 (82 + 12 * r + (t / 4 * 4 + i))) < 0 then 0 else 1 : Int32))) im kp)) rfl (by omega) (by decide) rfl dX3_renew_129 (fun H locs hP hD hS => ?_)
                refine lv_aload_n hx hb dX3_renew_130 rfl (lv_at hl 0 rfl) ?_
                refine lv_iload_n hx hb dX3_renew_131 rfl (lv_at hl 1 rfl) ?_
                refine lv_iload hx hb dX3_renew_132 (lv_at hl 6 rfl) ?_
                refine cv_V F hE (k_X3_clear l E a (upd S63 (262 + 6 * r + 5) ((S63 (262 + 6 * r + 5)) + (if (S63 (82 + 12 * r + (t / 4 * 4 + i))) < 0 then 0 else 1 : Int32))) im kp r (t / 4 * 4 + i) (by omega) (by omega)) (cwV 2 hts gX3_renew_X3_clear rfl rfl rfl (by decide +kernel) ⟨Nat.le_of_ble_eq_true rfl, Nat.le_of_ble_eq_true rfl⟩) Fr.all 0 3 rfl rfl rfl hP hD hS hA rfl hl.1 rfl (Nat.le_of_ble_eq_true rfl) dX3_renew_134 ⟨Nat.zero_le _, Nat.zero_le _⟩ (fun H locs hP hD hS => ?_)
                have hP : va_P E.1 vwCl (ms E a (upd (upd (upd (upd S63 (262 + 6 * r + 5) ((S63 (262 + 6 * r + 5)) + (if (S63 (82 + 12 * r + (t / 4 * 4 + i))) < 0 then 0 else 1 : Int32))) (82 + 12 * r + (t / 4 * 4 + i)) (-6)) (142 + 12 * r + (t / 4 * 4 + i)) 0) (202 + 12 * r + (t / 4 * 4 + i)) 0) im kp) H := hP
                have hD : va_D A (ms E a (upd (upd (upd (upd S63 (262 + 6 * r + 5) ((S63 (262 + 6 * r + 5)) + (if (S63 (82 + 12 * r + (t / 4 * 4 + i))) < 0 then 0 else 1 : Int32))) (82 + 12 * r + (t / 4 * 4 + i)) (-6)) (142 + 12 * r + (t / 4 * 4 + i)) 0) (202 + 12 * r + (t / 4 * 4 + i)) 0) im kp) := hD
                refine lv_iinc (v := (nI (t / 4 * 4 + i + 1))) (lv' := [(6, .int (nI (t / 4 * 4 + i + 1))), (0, .ref (a 0)), (1, .int (nI r)), (2, .int (nI t)), (3, .int (nI (52 + 3 * r + t / 4))), (4, .int (nI (67 + 3 * r + t / 4))), (5, .int (if ((g 0) - (g (52 + 3 * r + t / 4))) ≤ (g 4) then 0 else 1 : Int32))]) hx hb dX3_renew_137 hl (k := 6) rfl (nI_1 (t / 4 * 4 + i)) (by decide) rfl (fun ls hl => ?_)
                refine lv_goto (tgt := 63) hx hb dX3_renew_140 (by decide) ?_
                have eS1 : ((upd (upd (upd (upd S63 (262 + 6 * r + 5) ((S63 (262 + 6 * r + 5)) + (if (S63 (82 + 12 * r + (t / 4 * 4 + i))) < 0 then 0 else 1 : Int32))) (82 + 12 * r + (t / 4 * 4 + i)) (-6)) (142 + 12 * r + (t / 4 * 4 + i)) 0) (202 + 12 * r + (t / 4 * 4 + i)) 0) : (Nat → Int32)) = (q_X3_renew_63 g r t g (i + 1)) := by
                  show _ = p_X3_renew_63 g r t (q_X3_renew_63 g r t g i) i
                  rw [← eS63]
                  unfold p_X3_renew_63; rw [if_neg c_5]
                exact ih (i + 1) (by omega) (by omega) (upd (upd (upd (upd S63 (262 + 6 * r + 5) ((S63 (262 + 6 * r + 5)) + (if (S63 (82 + 12 * r + (t / 4 * 4 + i))) < 0 then 0 else 1 : Int32))) (82 + 12 * r + (t / 4 * 4 + i)) (-6)) (142 + 12 * r + (t / 4 * 4 + i)) 0) (202 + 12 * r + (t / 4 * 4 + i)) 0) eS1 _ _ hP hD hS ls (lv_sub hl [1, 2, 3, 4, 5, 6, 0] rfl)
              refine lv_if_lt (tgt := 127) hx hb dX3_renew_120 (by decide) (fun c_7 => ?_) (fun c_7 => ?_)
              · refine lv_iconst (v := 0) hx hb dX3_renew_127 (by decide) ?_
                exact J_128_6 _ _ _ hP hD hS (by rw [if_pos c_7])
              · refine lv_iconst (v := 1) hx hb dX3_renew_123 (by decide) ?_
                refine lv_goto (tgt := 128) hx hb dX3_renew_124 (by decide) ?_
                exact J_128_6 _ _ _ hP hD hS (by rw [if_neg c_7])
            · refine lv_aload_n hx hb dX3_renew_80 rfl (lv_at hl 0 rfl) ?_
              refine va_get (D := E.1) (ci := 3) (v := .ref (a 1)) (C := RX3) (T := TX3) (N := 3) hx hb hts in3 hown hE.1 hP 0 rfl rfl 0 (by decide) K7 (fun _ h9 => h9) rfl dX3_renew_81 ?_
              refine lv_iload hx hb dX3_renew_84 (lv_at hl 4 rfl) ?_
              refine q_iald hx hb hE hP 1 rfl (j := (67 + 3 * r + t / 4)) (v := (S63 (67 + 3 * r + t / 4))) rfl (by omega) (by decide) rfl dX3_renew_86 ?_
              refine lv_iload hx hb dX3_renew_87 (lv_at hl 6 rfl) ?_
              refine lv_ishr hx hb dX3_renew_89 ?_
              refine lv_iconst (v := 1) hx hb dX3_renew_90 (by decide) ?_
              refine lv_iand hx hb dX3_renew_91 ?_
              refine lv_iconst (v := 1) hx hb dX3_renew_92 (by decide) ?_
              refine lv_icmp_ne (tgt := 137) hx hb dX3_renew_93 (by decide) (fun c_8 => ?_) (fun c_8 => ?_)
              · refine lv_iinc (v := (nI (t / 4 * 4 + i + 1))) (lv' := [(6, .int (nI (t / 4 * 4 + i + 1))), (0, .ref (a 0)), (1, .int (nI r)), (2, .int (nI t)), (3, .int (nI (52 + 3 * r + t / 4))), (4, .int (nI (67 + 3 * r + t / 4))), (5, .int (if ((g 0) - (g (52 + 3 * r + t / 4))) ≤ (g 4) then 0 else 1 : Int32))]) hx hb dX3_renew_137 hl (k := 6) rfl (nI_1 (t / 4 * 4 + i)) (by decide) rfl (fun ls hl => ?_)
                refine lv_goto (tgt := 63) hx hb dX3_renew_140 (by decide) ?_
                have eS1 : (S63 : (Nat → Int32)) = (q_X3_renew_63 g r t g (i + 1)) := by
                  show _ = p_X3_renew_63 g r t (q_X3_renew_63 g r t g i) i
                  rw [← eS63]
                  unfold p_X3_renew_63; rw [if_pos c_5, if_neg c_8]
                exact ih (i + 1) (by omega) (by omega) S63 eS1 _ _ hP hD hS ls (lv_sub hl [1, 2, 3, 4, 5, 6, 0] rfl)
              · refine lv_aload_n hx hb dX3_renew_96 rfl (lv_at hl 0 rfl) ?_
                refine va_get (D := E.1) (ci := 3) (v := .ref (a 1)) (C := RX3) (T := TX3) (N := 3) hx hb hts in3 hown hE.1 hP 0 rfl rfl 0 (by decide) K7 (fun _ h9 => h9) rfl dX3_renew_97 ?_
                refine lv_iload_n hx hb dX3_renew_100 rfl (lv_at hl 1 rfl) ?_
                refine lv_iconst (v := 5) hx hb dX3_renew_101 (by decide) ?_
                refine ci_S F hE (k_X3_said l E r 5) (va_cwS 2 hts gX3_renew_X3_said rfl rfl rfl (by decide +kernel) ⟨Nat.le_of_ble_eq_true rfl, Nat.le_of_ble_eq_true rfl⟩) Fr.nil hP hD hS hA rfl hl.1 rfl (Nat.le_of_ble_eq_true rfl) dX3_renew_102 ⟨Nat.zero_le _, Nat.zero_le _⟩ (fun H locs hP hD hS => ?_)
                refine lv_dup2_11 hx hb dX3_renew_105 rfl rfl ?_
                refine q_iald hx hb hE hP 1 rfl (j := (262 + 6 * r + 5)) (v := (S63 (262 + 6 * r + 5))) rfl (by omega) (by decide) rfl dX3_renew_106 ?_
                refine lv_aload_n hx hb dX3_renew_107 rfl (lv_at hl 0 rfl) ?_
                refine va_get (D := E.1) (ci := 3) (v := .ref (a 1)) (C := RX3) (T := TX3) (N := 3) hx hb hts in3 hown hE.1 hP 0 rfl rfl 0 (by decide) K7 (fun _ h9 => h9) rfl dX3_renew_108 ?_
                refine lv_bipush (v := 82) hx hb dX3_renew_111 (by decide) ?_
                refine lv_iload_n hx hb dX3_renew_113 rfl (lv_at hl 1 rfl) ?_
                refine lv_iload hx hb dX3_renew_114 (lv_at hl 6 rfl) ?_
                refine ci_S F hE (k_X3_thingAt l E 82 r (t / 4 * 4 + i)) (va_cwS 3 hts gX3_renew_X3_thingAt rfl rfl rfl (by decide +kernel) ⟨Nat.le_of_ble_eq_true rfl, Nat.le_of_ble_eq_true rfl⟩) Fr.nil hP hD hS hA rfl hl.1 rfl (Nat.le_of_ble_eq_true rfl) dX3_renew_116 ⟨Nat.zero_le _, Nat.zero_le _⟩ (fun H locs hP hD hS => ?_)
                refine q_iald hx hb hE hP 1 rfl (j := (82 + 12 * r + (t / 4 * 4 + i))) (v := (S63 (82 + 12 * r + (t / 4 * 4 + i)))) rfl (by omega) (by decide) rfl dX3_renew_119 ?_
                have J_128_9 : ∀ (w : Int32) (H : Heap) (locs : List Loc), va_P E.1 vwCl (ms E a S63 im kp) H → va_D A (ms E a S63 im kp) → va_S A s.heap H locs → w = (if (S63 (82 + 12 * r + (t / 4 * 4 + i))) < 0 then 0 else 1 : Int32) → W p l e { frames := 2, cells := 0, slots := 0, locals := 44 } s m args below meth c H locs 0 0 Q (F0 m 128 ls [.int w, .int (S63 (262 + 6 * r + 5)), .int (nI (262 + 6 * r + 5)), .ref (a 1)]) := by
                  intro w H locs hP hD hS ew
                  subst ew
                  refine lv_iadd hx hb dX3_renew_128 ?_
                  refine q_iast hx hb hE hP hD hS 1 rfl (j := (262 + 6 * r + 5)) (wd' := (ms E a (upd S63 (262 + 6 * r + 5) ((S63 (262 + 6 * r + 5)) + (if (S63 (82 + 12 * r + (t / 4 * 4 + i))) < 0 then 0 else 1 : Int32))) im kp)) rfl (by omega) (by decide) rfl dX3_renew_129 (fun H locs hP hD hS => ?_)
                  refine lv_aload_n hx hb dX3_renew_130 rfl (lv_at hl 0 rfl) ?_
                  refine lv_iload_n hx hb dX3_renew_131 rfl (lv_at hl 1 rfl) ?_
                  refine lv_iload hx hb dX3_renew_132 (lv_at hl 6 rfl) ?_
                  refine cv_V F hE (k_X3_clear l E a (upd S63 (262 + 6 * r + 5) ((S63 (262 + 6 * r + 5)) + (if (S63 (82 + 12 * r + (t / 4 * 4 + i))) < 0 then 0 else 1 : Int32))) im kp r (t / 4 * 4 + i) (by omega) (by omega)) (cwV 2 hts gX3_renew_X3_clear rfl rfl rfl (by decide +kernel) ⟨Nat.le_of_ble_eq_true rfl, Nat.le_of_ble_eq_true rfl⟩) Fr.all 0 3 rfl rfl rfl hP hD hS hA rfl hl.1 rfl (Nat.le_of_ble_eq_true rfl) dX3_renew_134 ⟨Nat.zero_le _, Nat.zero_le _⟩ (fun H locs hP hD hS => ?_)
                  have hP : va_P E.1 vwCl (ms E a (upd (upd (upd (upd S63 (262 + 6 * r + 5) ((S63 (262 + 6 * r + 5)) + (if (S63 (82 + 12 * r + (t / 4 * 4 + i))) < 0 then 0 else 1 : Int32))) (82 + 12 * r + (t / 4 * 4 + i)) (-6)) (142 + 12 * r + (t / 4 * 4 + i)) 0) (202 + 12 * r + (t / 4 * 4 + i)) 0) im kp) H := hP
                  have hD : va_D A (ms E a (upd (upd (upd (upd S63 (262 + 6 * r + 5) ((S63 (262 + 6 * r + 5)) + (if (S63 (82 + 12 * r + (t / 4 * 4 + i))) < 0 then 0 else 1 : Int32))) (82 + 12 * r + (t / 4 * 4 + i)) (-6)) (142 + 12 * r + (t / 4 * 4 + i)) 0) (202 + 12 * r + (t / 4 * 4 + i)) 0) im kp) := hD
                  refine lv_iinc (v := (nI (t / 4 * 4 + i + 1))) (lv' := [(6, .int (nI (t / 4 * 4 + i + 1))), (0, .ref (a 0)), (1, .int (nI r)), (2, .int (nI t)), (3, .int (nI (52 + 3 * r + t / 4))), (4, .int (nI (67 + 3 * r + t / 4))), (5, .int (if ((g 0) - (g (52 + 3 * r + t / 4))) ≤ (g 4) then 0 else 1 : Int32))]) hx hb dX3_renew_137 hl (k := 6) rfl (nI_1 (t / 4 * 4 + i)) (by decide) rfl (fun ls hl => ?_)
                  refine lv_goto (tgt := 63) hx hb dX3_renew_140 (by decide) ?_
                  have eS1 : ((upd (upd (upd (upd S63 (262 + 6 * r + 5) ((S63 (262 + 6 * r + 5)) + (if (S63 (82 + 12 * r + (t / 4 * 4 + i))) < 0 then 0 else 1 : Int32))) (82 + 12 * r + (t / 4 * 4 + i)) (-6)) (142 + 12 * r + (t / 4 * 4 + i)) 0) (202 + 12 * r + (t / 4 * 4 + i)) 0) : (Nat → Int32)) = (q_X3_renew_63 g r t g (i + 1)) := by
                    show _ = p_X3_renew_63 g r t (q_X3_renew_63 g r t g i) i
                    rw [← eS63]
                    unfold p_X3_renew_63; rw [if_pos c_5, if_pos c_8]
                  exact ih (i + 1) (by omega) (by omega) (upd (upd (upd (upd S63 (262 + 6 * r + 5) ((S63 (262 + 6 * r + 5)) + (if (S63 (82 + 12 * r + (t / 4 * 4 + i))) < 0 then 0 else 1 : Int32))) (82 + 12 * r + (t / 4 * 4 + i)) (-6)) (142 + 12 * r + (t / 4 * 4 + i)) 0) (202 + 12 * r + (t / 4 * 4 + i)) 0) eS1 _ _ hP hD hS ls (lv_sub hl [1, 2, 3, 4, 5, 6, 0] rfl)
                refine lv_if_lt (tgt := 127) hx hb dX3_renew_120 (by decide) (fun c_10 => ?_) (fun c_10 => ?_)
                · refine lv_iconst (v := 0) hx hb dX3_renew_127 (by decide) ?_
                  exact J_128_9 _ _ _ hP hD hS (by rw [if_pos c_10])
                · refine lv_iconst (v := 1) hx hb dX3_renew_123 (by decide) ?_
                  refine lv_goto (tgt := 128) hx hb dX3_renew_124 (by decide) ?_
                  exact J_128_9 _ _ _ hP hD hS (by rw [if_neg c_10])
      exact lp63 (4 + 1) 0 (Nat.zero_le _) (by omega) g rfl _ _ hP hD hS ls (lv_sub hl [4, 5, 6, 3, 2, 1, 0] rfl)
  refine lv_icmp_le (tgt := 43) hx hb dX3_renew_36 (by decide) (fun c_2 => ?_) (fun c_2 => ?_)
  · refine lv_iconst (v := 0) hx hb dX3_renew_43 (by decide) ?_
    exact J_44_1 _ _ _ hP hD hS (by rw [if_pos c_2])
  · refine lv_iconst (v := 1) hx hb dX3_renew_39 (by decide) ?_
    refine lv_goto (tgt := 44) hx hb dX3_renew_40 (by decide) ?_
    exact J_44_1 _ _ _ hP hD hS (by rw [if_neg c_2])
end
section
def p_X3_dueOf_21 (g : Nat → Int32) (t : Nat) (z : Int32) (S21 : Int32) (i : Nat) : Int32 := (if S21 = 0 then (if (g (202 + 12 * i + t)) ≤ z then 0 else (if (g (52 + 3 * i + t / 4)) ≤ z then 0 else (if (if (g (17 + t)) = 1 then (if (g (42 + i)) = 1 then 1 else 0) else 0 : Int32) = 0 then 1 else 0))) else 1 : Int32)
def q_X3_dueOf_21 (g : Nat → Int32) (t : Nat) (z : Int32) (S0 : Int32) : Nat → Int32
  | 0 => S0
  | i + 1 => p_X3_dueOf_21 g t z (q_X3_dueOf_21 g t z S0 i) i
def u_X3_dueOf (g : Nat → Int32) (t : Nat) : Nat → Int32 → Int32
  | 0, z => z
  | fu + 1, z => if q_X3_dueOf_21 g t (z + 1) 0 5 = 0 then z + 1 else u_X3_dueOf g t fu (z + 1)
def f_X3_dueOf (g : Nat → Int32) (t : Nat) : Int32 := u_X3_dueOf g t 400 (g 0)
set_option maxHeartbeats 4000000 in
set_option maxRecDepth 100000 in
theorem k_X3_dueOf (l : Launch) (E : EE) (a : Nat → Nat) (g im kp : Nat → Int32) (t : Nat) (ht : t < 12) (hz : q_X3_dueOf_21 g t (g 0 + nI 400) 0 5 = 0) : Ci l E yX3_dueOf wsX3_dueOf { frames := 1, cells := 0, slots := 0, locals := 22 } [.ref (a 0), .int (nI t)] (ms E a g im kp) (f_X3_dueOf g t) (ms E a g im kp) := by
  refine Ci.of (cc := cX3_dueOf) (maxL := 6) (rt := .int) (by decide) rfl rfl (Nat.le_of_ble_eq_true rfl) ?_
  intro p e s m args below meth c A Q F hE hA hret hP hD ls hl
  obtain ⟨hx, hb, hml, hown, hts⟩ := id F
  have hS : va_S A s.heap s.heap [] := va_S.rf
  have hl : lv_has ls 6 [(0, .ref (a 0)), (1, .int (nI t))] := hl
  have in3 : ∀ w ∈ wsX30, w ∈ wsX3_dueOf := fun w h => List.mem_cons_of_mem _ (List.mem_append_right _ h)
  have K7 := hts (.fieldLink RX3 7 "PromiseHoursModel" "state" "[I") (by decide +kernel)
  refine lv_aload_n hx hb dX3_dueOf_0 rfl (lv_at hl 0 rfl) ?_
  refine va_get (D := E.1) (ci := 3) (v := .ref (a 1)) (C := RX3) (T := TX3) (N := 3) hx hb hts in3 hown hE.1 hP 0 rfl rfl 0 (by decide) K7 (fun _ h9 => h9) rfl dX3_dueOf_1 ?_
  refine lv_iconst (v := 0) hx hb dX3_dueOf_4 (by decide) ?_
  refine q_iald hx hb hE hP 1 rfl (j := 0) (v := (g 0)) rfl (by omega) (by decide) rfl dX3_dueOf_5 ?_
  refine lv_istore_n (lv' := [(2, .int (g 0)), (0, .ref (a 0)), (1, .int (nI t))]) hx hb dX3_dueOf_6 rfl hl (by decide) rfl (fun ls hl => ?_)
  refine lv_iconst (v := 1) hx hb dX3_dueOf_7 (by decide) ?_
  refine lv_istore_n (lv' := [(3, .int 1), (2, .int (g 0)), (0, .ref (a 0)), (1, .int (nI t))]) hx hb dX3_dueOf_8 rfl hl (by decide) rfl (fun ls hl => ?_)
  have lp9 : ∀ (fo : Nat) (z : Int32), q_X3_dueOf_21 g t (z + nI (fo + 1)) 0 5 = 0 → u_X3_dueOf g t (fo + 1) z = f_X3_dueOf g t → ∀ v : Int32, ¬ v = 0 → ∀ (H : Heap) (locs : List Loc), va_P E.1 vwCl (ms E a g im kp) H → va_D A (ms E a g im kp) → va_S A s.heap H locs → ∀ ls : Array Slot, lv_has ls 6 [(0, .ref (a 0)), (1, .int (nI t)), (2, .int z), (3, .int v)] → W p l e { frames := 1, cells := 0, slots := 0, locals := 22 } s m args below meth c H locs 0 0 Q (F0 m 9 ls []) := by
    intro fo
    induction fo with
    | zero =>
      intro z hz hu v hv H locs hP hD hS ls hl
      refine lv_iload_n hx hb dX3_dueOf_9 rfl (lv_at hl 3 rfl) ?_
      refine lv_if_eq (tgt := 120) hx hb dX3_dueOf_10 (by decide) (fun c0 => absurd c0 hv) (fun c0 => ?_)
      refine lv_iinc (v := (z + 1)) (lv' := [(2, .int (z + 1)), (0, .ref (a 0)), (1, .int (nI t)), (3, .int v)]) hx hb dX3_dueOf_13 hl (k := 2) rfl rfl (by decide) rfl (fun ls hl => ?_)
      refine lv_iconst (v := 0) hx hb dX3_dueOf_16 (by decide) ?_
      refine lv_istore_n (lv' := [(3, .int 0), (2, .int (z + 1)), (0, .ref (a 0)), (1, .int (nI t))]) hx hb dX3_dueOf_17 rfl hl (by decide) rfl (fun ls hl => ?_)
      refine lv_iconst (v := 0) hx hb dX3_dueOf_18 (by decide) ?_
      refine lv_istore (lv' := [(4, .int 0), (3, .int 0), (2, .int (z + 1)), (0, .ref (a 0)), (1, .int (nI t))]) hx hb dX3_dueOf_19 hl (by decide) rfl (fun ls hl => ?_)
      have lp21 : ∀ (fu i : Nat), i ≤ 5 → 5 + 1 ≤ i + fu → ∀ (S21 : Int32), S21 = (q_X3_dueOf_21 g t (z + 1) 0 i) → ∀ (H : Heap) (locs : List Loc), va_P E.1 vwCl (ms E a g im kp) H → va_D A (ms E a g im kp) → va_S A s.heap H locs → ∀ ls : Array Slot, lv_has ls 6 [(0, .ref (a 0)), (1, .int (nI t)), (2, .int (z + 1)), (3, .int S21), (4, .int (nI i))] → W p l e { frames := 1, cells := 0, slots := 0, locals := 22 } s m args below meth c H locs 0 0 Q (F0 m 21 ls []) := by
        intro fu
        induction fu with
        | zero => intro i h1 h2; exact absurd h2 (by omega)
        | succ fu ih =>
          intro i hi hin S21 eS21 H locs hP hD hS ls hl
          refine lv_iload hx hb dX3_dueOf_21 (lv_at hl 4 rfl) ?_
          refine lv_iconst (v := 5) hx hb dX3_dueOf_23 (by decide) ?_
          refine lv_icmp_ge (tgt := 117) hx hb dX3_dueOf_24 (by decide) (fun c_1 => ?_) (fun c_1 => ?_)
          · have hiN : i = 5 := by have := (nI_leI (a := 5) (b := i) (by omega) (by omega)).mp c_1; omega
            rw [hiN] at eS21 hl
            refine lv_goto (tgt := 9) hx hb dX3_dueOf_117 (by decide) ?_
            by_cases hw : S21 = 0
            · refine lv_iload_n hx hb dX3_dueOf_9 rfl (lv_at hl 3 rfl) ?_
              refine lv_if_eq (tgt := 120) hx hb dX3_dueOf_10 (by decide) (fun c1 => ?_) (fun c1 => absurd hw c1)
              refine lv_iload_n hx hb dX3_dueOf_120 rfl (lv_at hl 2 rfl) ?_
              refine hret _ _ _ _ _ hP hD hS ?_ dX3_dueOf_121
              rw [← hu]
              show z + 1 = (if q_X3_dueOf_21 g t (z + 1) 0 5 = 0 then z + 1 else u_X3_dueOf g t 0 (z + 1))
              rw [← eS21, if_pos hw]
            · exact absurd (by rw [eS21]; exact hz) hw
          · have hlt : i < 5 := Nat.lt_of_not_le (fun h => c_1 (nI_le (a := 5) (b := i) (by omega) (by omega)))
            refine lv_aload_n hx hb dX3_dueOf_27 rfl (lv_at hl 0 rfl) ?_
            refine va_get (D := E.1) (ci := 3) (v := .ref (a 1)) (C := RX3) (T := TX3) (N := 3) hx hb hts in3 hown hE.1 hP 0 rfl rfl 0 (by decide) K7 (fun _ h9 => h9) rfl dX3_dueOf_28 ?_
            refine lv_bipush (v := 17) hx hb dX3_dueOf_31 (by decide) ?_
            refine lv_iload_n hx hb dX3_dueOf_33 rfl (lv_at hl 1 rfl) ?_
            refine lv_iadd hx hb dX3_dueOf_34 ?_
            refine tpe (y := nI (17 + t)) (nI_add 17 t) ?_
            refine q_iald hx hb hE hP 1 rfl (j := (17 + t)) (v := (g (17 + t))) rfl (by omega) (by decide) rfl dX3_dueOf_35 ?_
            refine lv_iconst (v := 1) hx hb dX3_dueOf_36 (by decide) ?_
            have J_59_2 : ∀ (w : Int32) (H : Heap) (locs : List Loc), va_P E.1 vwCl (ms E a g im kp) H → va_D A (ms E a g im kp) → va_S A s.heap H locs → w = (if (g (17 + t)) = 1 then (if (g (42 + i)) = 1 then 1 else 0) else 0 : Int32) → W p l e { frames := 1, cells := 0, slots := 0, locals := 22 } s m args below meth c H locs 0 0 Q (F0 m 59 ls [.int w]) := by
              intro w H locs hP hD hS ew
              subst ew
              refine lv_istore (lv' := [(5, .int (if (g (17 + t)) = 1 then (if (g (42 + i)) = 1 then 1 else 0) else 0 : Int32)), (0, .ref (a 0)), (1, .int (nI t)), (2, .int (z + 1)), (3, .int S21), (4, .int (nI i))]) hx hb dX3_dueOf_59 hl (by decide) rfl (fun ls hl => ?_)
              refine lv_iload_n hx hb dX3_dueOf_61 rfl (lv_at hl 4 rfl) ?_
              have J_110_5 : ∀ (w : Int32) (H : Heap) (locs : List Loc), va_P E.1 vwCl (ms E a g im kp) H → va_D A (ms E a g im kp) → va_S A s.heap H locs → w = (if S21 = 0 then (if (g (202 + 12 * i + t)) ≤ (z + 1) then 0 else (if (g (52 + 3 * i + t / 4)) ≤ (z + 1) then 0 else (if (if (g (17 + t)) = 1 then (if (g (42 + i)) = 1 then 1 else 0) else 0 : Int32) = 0 then 1 else 0))) else 1 : Int32) → W p l e { frames := 1, cells := 0, slots := 0, locals := 22 } s m args below meth c H locs 0 0 Q (F0 m 110 ls [.int w]) := by
                intro w H locs hP hD hS ew
                subst ew
                refine lv_istore_n (lv' := [(3, .int (if S21 = 0 then (if (g (202 + 12 * i + t)) ≤ (z + 1) then 0 else (if (g (52 + 3 * i + t / 4)) ≤ (z + 1) then 0 else (if (if (g (17 + t)) = 1 then (if (g (42 + i)) = 1 then 1 else 0) else 0 : Int32) = 0 then 1 else 0))) else 1 : Int32)), (5, .int (if (g (17 + t)) = 1 then (if (g (42 + i)) = 1 then 1 else 0) else 0 : Int32)), (0, .ref (a 0)), (1, .int (nI t)), (2, .int (z + 1)), (4, .int (nI i))]) hx hb dX3_dueOf_110 rfl hl (by decide) rfl (fun ls hl => ?_)
                refine lv_iinc (v := (nI (i + 1))) (lv' := [(4, .int (nI (i + 1))), (3, .int (if S21 = 0 then (if (g (202 + 12 * i + t)) ≤ (z + 1) then 0 else (if (g (52 + 3 * i + t / 4)) ≤ (z + 1) then 0 else (if (if (g (17 + t)) = 1 then (if (g (42 + i)) = 1 then 1 else 0) else 0 : Int32) = 0 then 1 else 0))) else 1 : Int32)), (5, .int (if (g (17 + t)) = 1 then (if (g (42 + i)) = 1 then 1 else 0) else 0 : Int32)), (0, .ref (a 0)), (1, .int (nI t)), (2, .int (z + 1))]) hx hb dX3_dueOf_111 hl (k := 5) rfl (nI_1 i) (by decide) rfl (fun ls hl => ?_)
                refine lv_goto (tgt := 21) hx hb dX3_dueOf_114 (by decide) ?_
                have eS1 : ((if S21 = 0 then (if (g (202 + 12 * i + t)) ≤ (z + 1) then 0 else (if (g (52 + 3 * i + t / 4)) ≤ (z + 1) then 0 else (if (if (g (17 + t)) = 1 then (if (g (42 + i)) = 1 then 1 else 0) else 0 : Int32) = 0 then 1 else 0))) else 1 : Int32) : Int32) = (q_X3_dueOf_21 g t (z + 1) 0 (i + 1)) := by
                  show _ = p_X3_dueOf_21 g t (z + 1) (q_X3_dueOf_21 g t (z + 1) 0 i) i
                  rw [← eS21]
                  rfl
                exact ih (i + 1) (by omega) (by omega) (if S21 = 0 then (if (g (202 + 12 * i + t)) ≤ (z + 1) then 0 else (if (g (52 + 3 * i + t / 4)) ≤ (z + 1) then 0 else (if (if (g (17 + t)) = 1 then (if (g (42 + i)) = 1 then 1 else 0) else 0 : Int32) = 0 then 1 else 0))) else 1 : Int32) eS1 _ _ hP hD hS ls (lv_sub hl [3, 4, 5, 1, 0] rfl)
              refine lv_if_ne (tgt := 105) hx hb dX3_dueOf_62 (by decide) (fun c_6 => ?_) (fun c_6 => ?_)
              · refine lv_iconst (v := 1) hx hb dX3_dueOf_105 (by decide) ?_
                refine lv_goto (tgt := 110) hx hb dX3_dueOf_106 (by decide) ?_
                exact J_110_5 _ _ _ hP hD hS (by rw [if_neg c_6])
              · refine lv_aload_n hx hb dX3_dueOf_65 rfl (lv_at hl 1 rfl) ?_
                refine va_get (D := E.1) (ci := 3) (v := .ref (a 1)) (C := RX3) (T := TX3) (N := 3) hx hb hts in3 hown hE.1 hP 0 rfl rfl 0 (by decide) K7 (fun _ h9 => h9) rfl dX3_dueOf_66 ?_
                refine lv_sipush (v := 202) hx hb dX3_dueOf_69 (by decide) ?_
                refine lv_iload hx hb dX3_dueOf_72 (lv_at hl 5 rfl) ?_
                refine lv_iload_n hx hb dX3_dueOf_74 rfl (lv_at hl 2 rfl) ?_
                refine ci_S F hE (k_X3_thingAt l E 202 i t) (va_cwS 3 hts gX3_dueOf_X3_thingAt rfl rfl rfl (by decide +kernel) ⟨Nat.le_of_ble_eq_true rfl, Nat.le_of_ble_eq_true rfl⟩) Fr.nil hP hD hS hA rfl hl.1 rfl (Nat.le_of_ble_eq_true rfl) dX3_dueOf_75 ⟨Nat.zero_le _, Nat.zero_le _⟩ (fun H locs hP hD hS => ?_)
                refine q_iald hx hb hE hP 1 rfl (j := (202 + 12 * i + t)) (v := (g (202 + 12 * i + t))) rfl (by omega) (by decide) rfl dX3_dueOf_78 ?_
                refine lv_iload_n hx hb dX3_dueOf_79 rfl (lv_at hl 3 rfl) ?_
                refine lv_icmp_le (tgt := 109) hx hb dX3_dueOf_80 (by decide) (fun c_7 => ?_) (fun c_7 => ?_)
                · refine lv_iconst (v := 0) hx hb dX3_dueOf_109 (by decide) ?_
                  exact J_110_5 _ _ _ hP hD hS (by rw [if_pos c_6, if_pos c_7])
                · refine lv_aload_n hx hb dX3_dueOf_83 rfl (lv_at hl 1 rfl) ?_
                  refine va_get (D := E.1) (ci := 3) (v := .ref (a 1)) (C := RX3) (T := TX3) (N := 3) hx hb hts in3 hown hE.1 hP 0 rfl rfl 0 (by decide) K7 (fun _ h9 => h9) rfl dX3_dueOf_84 ?_
                  refine lv_bipush (v := 52) hx hb dX3_dueOf_87 (by decide) ?_
                  refine lv_iload hx hb dX3_dueOf_89 (lv_at hl 5 rfl) ?_
                  refine lv_iload_n hx hb dX3_dueOf_91 rfl (lv_at hl 2 rfl) ?_
                  refine ci_S F hE (k_X3_volumeAt l E 52 i t (by omega)) (va_cwS 3 hts gX3_dueOf_X3_volumeAt rfl rfl rfl (by decide +kernel) ⟨Nat.le_of_ble_eq_true rfl, Nat.le_of_ble_eq_true rfl⟩) Fr.nil hP hD hS hA rfl hl.1 rfl (Nat.le_of_ble_eq_true rfl) dX3_dueOf_92 ⟨Nat.zero_le _, Nat.zero_le _⟩ (fun H locs hP hD hS => ?_)
                  refine q_iald hx hb hE hP 1 rfl (j := (52 + 3 * i + t / 4)) (v := (g (52 + 3 * i + t / 4))) rfl (by omega) (by decide) rfl dX3_dueOf_95 ?_
                  refine lv_iload_n hx hb dX3_dueOf_96 rfl (lv_at hl 3 rfl) ?_
                  refine lv_icmp_le (tgt := 109) hx hb dX3_dueOf_97 (by decide) (fun c_8 => ?_) (fun c_8 => ?_)
                  · refine lv_iconst (v := 0) hx hb dX3_dueOf_109 (by decide) ?_
                    exact J_110_5 _ _ _ hP hD hS (by rw [if_pos c_6, if_neg c_7, if_pos c_8])
                  · refine lv_iload hx hb dX3_dueOf_100 (lv_at hl 0 rfl) ?_
                    refine lv_if_ne (tgt := 109) hx hb dX3_dueOf_102 (by decide) (fun c_9 => ?_) (fun c_9 => ?_)
                    · refine lv_iconst (v := 0) hx hb dX3_dueOf_109 (by decide) ?_
                      exact J_110_5 _ _ _ hP hD hS (by rw [if_pos c_6, if_neg c_7, if_neg c_8, if_neg c_9])
                    · refine lv_iconst (v := 1) hx hb dX3_dueOf_105 (by decide) ?_
                      refine lv_goto (tgt := 110) hx hb dX3_dueOf_106 (by decide) ?_
                      exact J_110_5 _ _ _ hP hD hS (by rw [if_pos c_6, if_neg c_7, if_neg c_8, if_pos c_9])
            refine lv_icmp_ne (tgt := 58) hx hb dX3_dueOf_37 (by decide) (fun c_3 => ?_) (fun c_3 => ?_)
            · refine lv_iconst (v := 0) hx hb dX3_dueOf_58 (by decide) ?_
              exact J_59_2 _ _ _ hP hD hS (by rw [if_neg c_3])
            · refine lv_aload_n hx hb dX3_dueOf_40 rfl (lv_at hl 0 rfl) ?_
              refine va_get (D := E.1) (ci := 3) (v := .ref (a 1)) (C := RX3) (T := TX3) (N := 3) hx hb hts in3 hown hE.1 hP 0 rfl rfl 0 (by decide) K7 (fun _ h9 => h9) rfl dX3_dueOf_41 ?_
              refine lv_bipush (v := 42) hx hb dX3_dueOf_44 (by decide) ?_
              refine lv_iload hx hb dX3_dueOf_46 (lv_at hl 4 rfl) ?_
              refine lv_iadd hx hb dX3_dueOf_48 ?_
              refine tpe (y := nI (42 + i)) (nI_add 42 i) ?_
              refine q_iald hx hb hE hP 1 rfl (j := (42 + i)) (v := (g (42 + i))) rfl (by omega) (by decide) rfl dX3_dueOf_49 ?_
              refine lv_iconst (v := 1) hx hb dX3_dueOf_50 (by decide) ?_
              refine lv_icmp_ne (tgt := 58) hx hb dX3_dueOf_51 (by decide) (fun c_4 => ?_) (fun c_4 => ?_)
              · refine lv_iconst (v := 0) hx hb dX3_dueOf_58 (by decide) ?_
                exact J_59_2 _ _ _ hP hD hS (by rw [if_pos c_3, if_neg c_4])
              · refine lv_iconst (v := 1) hx hb dX3_dueOf_54 (by decide) ?_
                refine lv_goto (tgt := 59) hx hb dX3_dueOf_55 (by decide) ?_
                exact J_59_2 _ _ _ hP hD hS (by rw [if_pos c_3, if_pos c_4])
      exact lp21 (5 + 1) 0 (Nat.zero_le _) (by omega) 0 rfl _ _ hP hD hS ls (lv_sub hl [3, 4, 2, 1, 0] rfl)
    | succ fo iho =>
      intro z hz hu v hv H locs hP hD hS ls hl
      refine lv_iload_n hx hb dX3_dueOf_9 rfl (lv_at hl 3 rfl) ?_
      refine lv_if_eq (tgt := 120) hx hb dX3_dueOf_10 (by decide) (fun c0 => absurd c0 hv) (fun c0 => ?_)
      refine lv_iinc (v := (z + 1)) (lv' := [(2, .int (z + 1)), (0, .ref (a 0)), (1, .int (nI t)), (3, .int v)]) hx hb dX3_dueOf_13 hl (k := 2) rfl rfl (by decide) rfl (fun ls hl => ?_)
      refine lv_iconst (v := 0) hx hb dX3_dueOf_16 (by decide) ?_
      refine lv_istore_n (lv' := [(3, .int 0), (2, .int (z + 1)), (0, .ref (a 0)), (1, .int (nI t))]) hx hb dX3_dueOf_17 rfl hl (by decide) rfl (fun ls hl => ?_)
      refine lv_iconst (v := 0) hx hb dX3_dueOf_18 (by decide) ?_
      refine lv_istore (lv' := [(4, .int 0), (3, .int 0), (2, .int (z + 1)), (0, .ref (a 0)), (1, .int (nI t))]) hx hb dX3_dueOf_19 hl (by decide) rfl (fun ls hl => ?_)
      have lp21 : ∀ (fu i : Nat), i ≤ 5 → 5 + 1 ≤ i + fu → ∀ (S21 : Int32), S21 = (q_X3_dueOf_21 g t (z + 1) 0 i) → ∀ (H : Heap) (locs : List Loc), va_P E.1 vwCl (ms E a g im kp) H → va_D A (ms E a g im kp) → va_S A s.heap H locs → ∀ ls : Array Slot, lv_has ls 6 [(0, .ref (a 0)), (1, .int (nI t)), (2, .int (z + 1)), (3, .int S21), (4, .int (nI i))] → W p l e { frames := 1, cells := 0, slots := 0, locals := 22 } s m args below meth c H locs 0 0 Q (F0 m 21 ls []) := by
        intro fu
        induction fu with
        | zero => intro i h1 h2; exact absurd h2 (by omega)
        | succ fu ih =>
          intro i hi hin S21 eS21 H locs hP hD hS ls hl
          refine lv_iload hx hb dX3_dueOf_21 (lv_at hl 4 rfl) ?_
          refine lv_iconst (v := 5) hx hb dX3_dueOf_23 (by decide) ?_
          refine lv_icmp_ge (tgt := 117) hx hb dX3_dueOf_24 (by decide) (fun c_10 => ?_) (fun c_10 => ?_)
          · have hiN : i = 5 := by have := (nI_leI (a := 5) (b := i) (by omega) (by omega)).mp c_10; omega
            rw [hiN] at eS21 hl
            refine lv_goto (tgt := 9) hx hb dX3_dueOf_117 (by decide) ?_
            by_cases hw : S21 = 0
            · refine lv_iload_n hx hb dX3_dueOf_9 rfl (lv_at hl 3 rfl) ?_
              refine lv_if_eq (tgt := 120) hx hb dX3_dueOf_10 (by decide) (fun c1 => ?_) (fun c1 => absurd hw c1)
              refine lv_iload_n hx hb dX3_dueOf_120 rfl (lv_at hl 2 rfl) ?_
              refine hret _ _ _ _ _ hP hD hS ?_ dX3_dueOf_121
              rw [← hu]
              show z + 1 = (if q_X3_dueOf_21 g t (z + 1) 0 5 = 0 then z + 1 else u_X3_dueOf g t (fo + 1) (z + 1))
              rw [← eS21, if_pos hw]
            · refine iho (z + 1) ?_ ?_ S21 hw _ _ hP hD hS ls (lv_sub hl [0, 1, 2, 3] rfl)
              · rw [show z + 1 + nI (fo + 1) = z + nI (fo + 1 + 1) from by rw [nI_succ (fo + 1), Int32.add_assoc, Int32.add_comm 1]]
                exact hz
              · rw [← hu]
                show _ = (if q_X3_dueOf_21 g t (z + 1) 0 5 = 0 then z + 1 else u_X3_dueOf g t (fo + 1) (z + 1))
                rw [← eS21, if_neg hw]
          · have hlt : i < 5 := Nat.lt_of_not_le (fun h => c_10 (nI_le (a := 5) (b := i) (by omega) (by omega)))
            refine lv_aload_n hx hb dX3_dueOf_27 rfl (lv_at hl 0 rfl) ?_
            refine va_get (D := E.1) (ci := 3) (v := .ref (a 1)) (C := RX3) (T := TX3) (N := 3) hx hb hts in3 hown hE.1 hP 0 rfl rfl 0 (by decide) K7 (fun _ h9 => h9) rfl dX3_dueOf_28 ?_
            refine lv_bipush (v := 17) hx hb dX3_dueOf_31 (by decide) ?_
            refine lv_iload_n hx hb dX3_dueOf_33 rfl (lv_at hl 1 rfl) ?_
            refine lv_iadd hx hb dX3_dueOf_34 ?_
            refine tpe (y := nI (17 + t)) (nI_add 17 t) ?_
            refine q_iald hx hb hE hP 1 rfl (j := (17 + t)) (v := (g (17 + t))) rfl (by omega) (by decide) rfl dX3_dueOf_35 ?_
            refine lv_iconst (v := 1) hx hb dX3_dueOf_36 (by decide) ?_
            have J_59_11 : ∀ (w : Int32) (H : Heap) (locs : List Loc), va_P E.1 vwCl (ms E a g im kp) H → va_D A (ms E a g im kp) → va_S A s.heap H locs → w = (if (g (17 + t)) = 1 then (if (g (42 + i)) = 1 then 1 else 0) else 0 : Int32) → W p l e { frames := 1, cells := 0, slots := 0, locals := 22 } s m args below meth c H locs 0 0 Q (F0 m 59 ls [.int w]) := by
              intro w H locs hP hD hS ew
              subst ew
              refine lv_istore (lv' := [(5, .int (if (g (17 + t)) = 1 then (if (g (42 + i)) = 1 then 1 else 0) else 0 : Int32)), (0, .ref (a 0)), (1, .int (nI t)), (2, .int (z + 1)), (3, .int S21), (4, .int (nI i))]) hx hb dX3_dueOf_59 hl (by decide) rfl (fun ls hl => ?_)
              refine lv_iload_n hx hb dX3_dueOf_61 rfl (lv_at hl 4 rfl) ?_
              have J_110_14 : ∀ (w : Int32) (H : Heap) (locs : List Loc), va_P E.1 vwCl (ms E a g im kp) H → va_D A (ms E a g im kp) → va_S A s.heap H locs → w = (if S21 = 0 then (if (g (202 + 12 * i + t)) ≤ (z + 1) then 0 else (if (g (52 + 3 * i + t / 4)) ≤ (z + 1) then 0 else (if (if (g (17 + t)) = 1 then (if (g (42 + i)) = 1 then 1 else 0) else 0 : Int32) = 0 then 1 else 0))) else 1 : Int32) → W p l e { frames := 1, cells := 0, slots := 0, locals := 22 } s m args below meth c H locs 0 0 Q (F0 m 110 ls [.int w]) := by
                intro w H locs hP hD hS ew
                subst ew
                refine lv_istore_n (lv' := [(3, .int (if S21 = 0 then (if (g (202 + 12 * i + t)) ≤ (z + 1) then 0 else (if (g (52 + 3 * i + t / 4)) ≤ (z + 1) then 0 else (if (if (g (17 + t)) = 1 then (if (g (42 + i)) = 1 then 1 else 0) else 0 : Int32) = 0 then 1 else 0))) else 1 : Int32)), (5, .int (if (g (17 + t)) = 1 then (if (g (42 + i)) = 1 then 1 else 0) else 0 : Int32)), (0, .ref (a 0)), (1, .int (nI t)), (2, .int (z + 1)), (4, .int (nI i))]) hx hb dX3_dueOf_110 rfl hl (by decide) rfl (fun ls hl => ?_)
                refine lv_iinc (v := (nI (i + 1))) (lv' := [(4, .int (nI (i + 1))), (3, .int (if S21 = 0 then (if (g (202 + 12 * i + t)) ≤ (z + 1) then 0 else (if (g (52 + 3 * i + t / 4)) ≤ (z + 1) then 0 else (if (if (g (17 + t)) = 1 then (if (g (42 + i)) = 1 then 1 else 0) else 0 : Int32) = 0 then 1 else 0))) else 1 : Int32)), (5, .int (if (g (17 + t)) = 1 then (if (g (42 + i)) = 1 then 1 else 0) else 0 : Int32)), (0, .ref (a 0)), (1, .int (nI t)), (2, .int (z + 1))]) hx hb dX3_dueOf_111 hl (k := 5) rfl (nI_1 i) (by decide) rfl (fun ls hl => ?_)
                refine lv_goto (tgt := 21) hx hb dX3_dueOf_114 (by decide) ?_
                have eS1 : ((if S21 = 0 then (if (g (202 + 12 * i + t)) ≤ (z + 1) then 0 else (if (g (52 + 3 * i + t / 4)) ≤ (z + 1) then 0 else (if (if (g (17 + t)) = 1 then (if (g (42 + i)) = 1 then 1 else 0) else 0 : Int32) = 0 then 1 else 0))) else 1 : Int32) : Int32) = (q_X3_dueOf_21 g t (z + 1) 0 (i + 1)) := by
                  show _ = p_X3_dueOf_21 g t (z + 1) (q_X3_dueOf_21 g t (z + 1) 0 i) i
                  rw [← eS21]
                  rfl
                exact ih (i + 1) (by omega) (by omega) (if S21 = 0 then (if (g (202 + 12 * i + t)) ≤ (z + 1) then 0 else (if (g (52 + 3 * i + t / 4)) ≤ (z + 1) then 0 else (if (if (g (17 + t)) = 1 then (if (g (42 + i)) = 1 then 1 else 0) else 0 : Int32) = 0 then 1 else 0))) else 1 : Int32) eS1 _ _ hP hD hS ls (lv_sub hl [3, 4, 5, 1, 0] rfl)
              refine lv_if_ne (tgt := 105) hx hb dX3_dueOf_62 (by decide) (fun c_15 => ?_) (fun c_15 => ?_)
              · refine lv_iconst (v := 1) hx hb dX3_dueOf_105 (by decide) ?_
                refine lv_goto (tgt := 110) hx hb dX3_dueOf_106 (by decide) ?_
                exact J_110_14 _ _ _ hP hD hS (by rw [if_neg c_15])
              · refine lv_aload_n hx hb dX3_dueOf_65 rfl (lv_at hl 1 rfl) ?_
                refine va_get (D := E.1) (ci := 3) (v := .ref (a 1)) (C := RX3) (T := TX3) (N := 3) hx hb hts in3 hown hE.1 hP 0 rfl rfl 0 (by decide) K7 (fun _ h9 => h9) rfl dX3_dueOf_66 ?_
                refine lv_sipush (v := 202) hx hb dX3_dueOf_69 (by decide) ?_
                refine lv_iload hx hb dX3_dueOf_72 (lv_at hl 5 rfl) ?_
                refine lv_iload_n hx hb dX3_dueOf_74 rfl (lv_at hl 2 rfl) ?_
                refine ci_S F hE (k_X3_thingAt l E 202 i t) (va_cwS 3 hts gX3_dueOf_X3_thingAt rfl rfl rfl (by decide +kernel) ⟨Nat.le_of_ble_eq_true rfl, Nat.le_of_ble_eq_true rfl⟩) Fr.nil hP hD hS hA rfl hl.1 rfl (Nat.le_of_ble_eq_true rfl) dX3_dueOf_75 ⟨Nat.zero_le _, Nat.zero_le _⟩ (fun H locs hP hD hS => ?_)
                refine q_iald hx hb hE hP 1 rfl (j := (202 + 12 * i + t)) (v := (g (202 + 12 * i + t))) rfl (by omega) (by decide) rfl dX3_dueOf_78 ?_
                refine lv_iload_n hx hb dX3_dueOf_79 rfl (lv_at hl 3 rfl) ?_
                refine lv_icmp_le (tgt := 109) hx hb dX3_dueOf_80 (by decide) (fun c_16 => ?_) (fun c_16 => ?_)
                · refine lv_iconst (v := 0) hx hb dX3_dueOf_109 (by decide) ?_
                  exact J_110_14 _ _ _ hP hD hS (by rw [if_pos c_15, if_pos c_16])
                · refine lv_aload_n hx hb dX3_dueOf_83 rfl (lv_at hl 1 rfl) ?_
                  refine va_get (D := E.1) (ci := 3) (v := .ref (a 1)) (C := RX3) (T := TX3) (N := 3) hx hb hts in3 hown hE.1 hP 0 rfl rfl 0 (by decide) K7 (fun _ h9 => h9) rfl dX3_dueOf_84 ?_
                  refine lv_bipush (v := 52) hx hb dX3_dueOf_87 (by decide) ?_
                  refine lv_iload hx hb dX3_dueOf_89 (lv_at hl 5 rfl) ?_
                  refine lv_iload_n hx hb dX3_dueOf_91 rfl (lv_at hl 2 rfl) ?_
                  refine ci_S F hE (k_X3_volumeAt l E 52 i t (by omega)) (va_cwS 3 hts gX3_dueOf_X3_volumeAt rfl rfl rfl (by decide +kernel) ⟨Nat.le_of_ble_eq_true rfl, Nat.le_of_ble_eq_true rfl⟩) Fr.nil hP hD hS hA rfl hl.1 rfl (Nat.le_of_ble_eq_true rfl) dX3_dueOf_92 ⟨Nat.zero_le _, Nat.zero_le _⟩ (fun H locs hP hD hS => ?_)
                  refine q_iald hx hb hE hP 1 rfl (j := (52 + 3 * i + t / 4)) (v := (g (52 + 3 * i + t / 4))) rfl (by omega) (by decide) rfl dX3_dueOf_95 ?_
                  refine lv_iload_n hx hb dX3_dueOf_96 rfl (lv_at hl 3 rfl) ?_
                  refine lv_icmp_le (tgt := 109) hx hb dX3_dueOf_97 (by decide) (fun c_17 => ?_) (fun c_17 => ?_)
                  · refine lv_iconst (v := 0) hx hb dX3_dueOf_109 (by decide) ?_
                    exact J_110_14 _ _ _ hP hD hS (by rw [if_pos c_15, if_neg c_16, if_pos c_17])
                  · refine lv_iload hx hb dX3_dueOf_100 (lv_at hl 0 rfl) ?_
                    refine lv_if_ne (tgt := 109) hx hb dX3_dueOf_102 (by decide) (fun c_18 => ?_) (fun c_18 => ?_)
                    · refine lv_iconst (v := 0) hx hb dX3_dueOf_109 (by decide) ?_
                      exact J_110_14 _ _ _ hP hD hS (by rw [if_pos c_15, if_neg c_16, if_neg c_17, if_neg c_18])
                    · refine lv_iconst (v := 1) hx hb dX3_dueOf_105 (by decide) ?_
                      refine lv_goto (tgt := 110) hx hb dX3_dueOf_106 (by decide) ?_
                      exact J_110_14 _ _ _ hP hD hS (by rw [if_pos c_15, if_neg c_16, if_neg c_17, if_pos c_18])
            refine lv_icmp_ne (tgt := 58) hx hb dX3_dueOf_37 (by decide) (fun c_12 => ?_) (fun c_12 => ?_)
            · refine lv_iconst (v := 0) hx hb dX3_dueOf_58 (by decide) ?_
              exact J_59_11 _ _ _ hP hD hS (by rw [if_neg c_12])
            · refine lv_aload_n hx hb dX3_dueOf_40 rfl (lv_at hl 0 rfl) ?_
              refine va_get (D := E.1) (ci := 3) (v := .ref (a 1)) (C := RX3) (T := TX3) (N := 3) hx hb hts in3 hown hE.1 hP 0 rfl rfl 0 (by decide) K7 (fun _ h9 => h9) rfl dX3_dueOf_41 ?_
              refine lv_bipush (v := 42) hx hb dX3_dueOf_44 (by decide) ?_
              refine lv_iload hx hb dX3_dueOf_46 (lv_at hl 4 rfl) ?_
              refine lv_iadd hx hb dX3_dueOf_48 ?_
              refine tpe (y := nI (42 + i)) (nI_add 42 i) ?_
              refine q_iald hx hb hE hP 1 rfl (j := (42 + i)) (v := (g (42 + i))) rfl (by omega) (by decide) rfl dX3_dueOf_49 ?_
              refine lv_iconst (v := 1) hx hb dX3_dueOf_50 (by decide) ?_
              refine lv_icmp_ne (tgt := 58) hx hb dX3_dueOf_51 (by decide) (fun c_13 => ?_) (fun c_13 => ?_)
              · refine lv_iconst (v := 0) hx hb dX3_dueOf_58 (by decide) ?_
                exact J_59_11 _ _ _ hP hD hS (by rw [if_pos c_12, if_neg c_13])
              · refine lv_iconst (v := 1) hx hb dX3_dueOf_54 (by decide) ?_
                refine lv_goto (tgt := 59) hx hb dX3_dueOf_55 (by decide) ?_
                exact J_59_11 _ _ _ hP hD hS (by rw [if_pos c_12, if_pos c_13])
      exact lp21 (5 + 1) 0 (Nat.zero_le _) (by omega) 0 rfl _ _ hP hD hS ls (lv_sub hl [3, 4, 2, 1, 0] rfl)
  exact lp9 399 _ hz rfl 1 (by decide) _ _ hP hD hS ls (lv_sub hl [2, 3, 1, 0] rfl)
theorem pr_k (k : Nat) : nI (297 + (k + 1)) - 1 = nI (297 + k) := nI_pred (297 + k)
theorem pm_k (k : Nat) : nI (297 + (k + 1)) + Int32.ofInt (-1) = nI (297 + k) := pk_m1 (297 + k)
def w_X3_layWaited_38 (t i : Nat) : Nat → (Nat → Int32) → (Nat → Int32) × Nat
  | 0, G => (G, 0)
  | k + 1, G => if f_X3_lesser G i t ≤ f_X3_lesser G (ix (G (297 + k))) t then (G, k + 1) else w_X3_layWaited_38 t i k (upd G (297 + (k + 1)) (G (297 + k)))
theorem w_le_X3 (t i : Nat) : ∀ k G, (w_X3_layWaited_38 t i k G).2 ≤ k
  | 0, _ => Nat.le_refl 0
  | k + 1, G => by
    unfold w_X3_layWaited_38
    split
    · exact Nat.le_refl _
    · exact Nat.le_succ_of_le (w_le_X3 t i k _)
theorem ix_nI {n : Nat} (h : n < 2 ^ 31) : ix (nI n) = n := nI_clamp h
/-- what lies outside the places 297 .. 297 + k stays -/
theorem w_out_X3 (t i : Nat) {j : Nat} : ∀ k G, j < 297 ∨ 297 + k < j → (w_X3_layWaited_38 t i k G).1 j = G j
  | 0, _, _ => rfl
  | k + 1, G, h => by
    unfold w_X3_layWaited_38
    split
    · rfl
    · rw [w_out_X3 t i k _ (by omega), up_n (by omega)]
/-- every place but that which is left open holds a reader -/
theorem w_in_X3 (t i : Nat) : ∀ k G, (∀ j, j < k → ix (G (297 + j)) < 5 ∧ G (297 + j) = nI (ix (G (297 + j)))) → ∀ j, j ≤ k → j ≠ (w_X3_layWaited_38 t i k G).2 → ix ((w_X3_layWaited_38 t i k G).1 (297 + j)) < 5 ∧ (w_X3_layWaited_38 t i k G).1 (297 + j) = nI (ix ((w_X3_layWaited_38 t i k G).1 (297 + j)))
  | 0, G, _, j, hj, hn => absurd (show j = 0 by omega) hn
  | k + 1, G, h, j, hj, hn => by
    unfold w_X3_layWaited_38 at hn ⊢
    split at hn <;> rename_i hc
    · rw [if_pos hc]
      have hn : j ≠ k + 1 := hn
      exact h j (by omega)
    · rw [if_neg hc]
      rcases Nat.lt_or_ge k j with q | q
      · have e : j = k + 1 := by omega
        subst e
        rw [w_out_X3 t i k _ (by omega), up_s]
        exact h k (Nat.lt_succ_self k)
      · exact w_in_X3 t i k _ (fun z hz => by rw [up_n (by omega)]; exact h z (by omega)) j q hn
def p_X3_layWaited_11 (g : Nat → Int32) (t : Nat) (S11 : (Nat → Int32)) (i : Nat) : (Nat → Int32) := (if (f_X3_isHolder S11 i t) = 0 then S11 else (upd (upd (w_X3_layWaited_38 t i (ix (S11 302)) S11).1 (297 + (w_X3_layWaited_38 t i (ix (S11 302)) S11).2) (nI i)) 302 (((w_X3_layWaited_38 t i (ix (S11 302)) S11).1 302) + 1)))
def q_X3_layWaited_11 (g : Nat → Int32) (t : Nat) (S0 : (Nat → Int32)) : Nat → (Nat → Int32)
  | 0 => S0
  | i + 1 => p_X3_layWaited_11 g t (q_X3_layWaited_11 g t S0 i) i
def s_X3_layWaited (g : Nat → Int32) (t : Nat) : Nat → Int32 := (q_X3_layWaited_11 g t (upd g 302 0) 5)
def WI (S : Nat → Int32) (i : Nat) : Prop := ix (S 302) ≤ i ∧ S 302 = nI (ix (S 302)) ∧ ∀ j, j < ix (S 302) → ix (S (297 + j)) < 5 ∧ S (297 + j) = nI (ix (S (297 + j)))
theorem wi_0 (g : Nat → Int32) : WI (upd g 302 0) 0 := by
  unfold WI
  rw [up_s]
  exact ⟨Nat.le_refl 0, rfl, fun j hj => absurd hj (Nat.not_lt_zero j)⟩
theorem wi_s (g S : Nat → Int32) (t i : Nat) (hi : i < 5) (h : WI S i) : WI (p_X3_layWaited_11 g t S i) (i + 1) := by
  obtain ⟨h1, h2, h3⟩ := h
  unfold p_X3_layWaited_11
  split
  · exact ⟨by omega, h2, h3⟩
  · have ho := w_out_X3 t i (j := 302) (ix (S 302)) S (by omega)
    have hk := w_le_X3 t i (ix (S 302)) S
    have hn := w_in_X3 t i (ix (S 302)) S h3
    generalize w_X3_layWaited_38 t i (ix (S 302)) S = X at ho hk hn ⊢
    generalize ix (S 302) = c at h1 h2 hk hn ⊢
    have e : upd (upd X.1 (297 + X.2) (nI i)) 302 (X.1 302 + 1) 302 = nI (c + 1) := by rw [up_s, ho, h2]; exact nI_1 c
    unfold WI
    rw [e, ix_nI (by omega)]
    refine ⟨by omega, rfl, fun j hj => ?_⟩
    rw [up_n (by omega)]
    by_cases hj2 : j = X.2
    · subst hj2; rw [up_s, ix_nI (by omega)]; exact ⟨by omega, rfl⟩
    · rw [up_n (by omega)]; exact hn j (by omega) hj2
theorem wi_X3_layWaited (g : Nat → Int32) (t : Nat) : ∀ i, i ≤ 5 → WI (q_X3_layWaited_11 g t (upd g 302 0) i) i
  | 0, _ => wi_0 g
  | i + 1, hi => wi_s g _ t i (by omega) (wi_X3_layWaited g t i (by omega))
set_option maxHeartbeats 4000000 in
set_option maxRecDepth 100000 in
theorem k_X3_layWaited (l : Launch) (E : EE) (a : Nat → Nat) (g im kp : Nat → Int32) (t : Nat) (ht : t < 12) : Cv l E yX3_layWaited wsX3_layWaited { frames := 2, cells := 0, slots := 0, locals := 46 } [.ref (a 0), .int (nI t)] (ms E a g im kp) (ms E a (s_X3_layWaited g t) im kp) := by
  refine Cv.of (cc := cX3_layWaited) (maxL := 4) (by decide) rfl (Nat.le_of_ble_eq_true rfl) ?_
  intro p e s m args below meth c A Q F hE hA hret hP hD ls hl
  obtain ⟨hx, hb, hml, hown, hts⟩ := id F
  have hS : va_S A s.heap s.heap [] := va_S.rf
  have hl : lv_has ls 4 [(0, .ref (a 0)), (1, .int (nI t))] := hl
  have in3 : ∀ w ∈ wsX30, w ∈ wsX3_layWaited := fun w h => List.mem_cons_of_mem _ (List.mem_append_right _ h)
  have K7 := hts (.fieldLink RX3 7 "PromiseHoursModel" "state" "[I") (by decide +kernel)
  refine lv_aload_n hx hb dX3_layWaited_0 rfl (lv_at hl 0 rfl) ?_
  refine va_get (D := E.1) (ci := 3) (v := .ref (a 1)) (C := RX3) (T := TX3) (N := 3) hx hb hts in3 hown hE.1 hP 0 rfl rfl 0 (by decide) K7 (fun _ h9 => h9) rfl dX3_layWaited_1 ?_
  refine lv_sipush (v := 302) hx hb dX3_layWaited_4 (by decide) ?_
  refine lv_iconst (v := 0) hx hb dX3_layWaited_7 (by decide) ?_
  refine q_iast hx hb hE hP hD hS 1 rfl (j := 302) (wd' := (ms E a (upd g 302 0) im kp)) rfl (by omega) (by decide) rfl dX3_layWaited_8 (fun H locs hP hD hS => ?_)
  refine lv_iconst (v := 0) hx hb dX3_layWaited_9 (by decide) ?_
  refine lv_istore_n (lv' := [(2, .int 0), (0, .ref (a 0)), (1, .int (nI t))]) hx hb dX3_layWaited_10 rfl hl (by decide) rfl (fun ls hl => ?_)
  have lp11 : ∀ (fu i : Nat), i ≤ 5 → 5 + 1 ≤ i + fu → ∀ (S11 : (Nat → Int32)), S11 = (q_X3_layWaited_11 g t (upd g 302 0) i) → ∀ (H : Heap) (locs : List Loc), va_P E.1 vwCl (ms E a S11 im kp) H → va_D A (ms E a S11 im kp) → va_S A s.heap H locs → ∀ ls : Array Slot, lv_has ls 4 [(0, .ref (a 0)), (1, .int (nI t)), (2, .int (nI i))] → W p l e { frames := 2, cells := 0, slots := 0, locals := 46 } s m args below meth c H locs 0 0 Q (F0 m 11 ls []) := by
    intro fu
    induction fu with
    | zero => intro i h1 h2; exact absurd h2 (by omega)
    | succ fu ih =>
      intro i hi hin S11 eS11 H locs hP hD hS ls hl
      refine lv_iload_n hx hb dX3_layWaited_11 rfl (lv_at hl 2 rfl) ?_
      refine lv_iconst (v := 5) hx hb dX3_layWaited_12 (by decide) ?_
      refine lv_icmp_ge (tgt := 112) hx hb dX3_layWaited_13 (by decide) (fun c_1 => ?_) (fun c_1 => ?_)
      · have hiN : i = 5 := by have := (nI_leI (a := 5) (b := i) (by omega) (by omega)).mp c_1; omega
        rw [hiN] at eS11 hl
        have eg : S11 = (s_X3_layWaited g t) := (by unfold s_X3_layWaited; rw [← eS11])
        exact hret _ _ _ _ (by rw [← eg]; exact hP) (by rw [← eg]; exact hD) hS dX3_layWaited_112
      · have hlt : i < 5 := Nat.lt_of_not_le (fun h => c_1 (nI_le (a := 5) (b := i) (by omega) (by omega)))
        have hW := wi_X3_layWaited g t i hi
        rw [← eS11] at hW
        obtain ⟨hW1, hW2, hW3⟩ := hW
        refine lv_aload_n hx hb dX3_layWaited_16 rfl (lv_at hl 0 rfl) ?_
        refine lv_iload_n hx hb dX3_layWaited_17 rfl (lv_at hl 2 rfl) ?_
        refine lv_iload_n hx hb dX3_layWaited_18 rfl (lv_at hl 1 rfl) ?_
        refine ci_V F hE (k_X3_isHolder l E a S11 im kp i t (by omega) (by omega)) (cwV 2 hts gX3_layWaited_X3_isHolder rfl rfl rfl (by decide +kernel) ⟨Nat.le_of_ble_eq_true rfl, Nat.le_of_ble_eq_true rfl⟩) Fr.all 0 3 rfl rfl rfl hP hD hS hA rfl hl.1 rfl (Nat.le_of_ble_eq_true rfl) dX3_layWaited_19 ⟨Nat.zero_le _, Nat.zero_le _⟩ (fun H locs hP hD hS => ?_)
        refine lv_if_eq (tgt := 106) hx hb dX3_layWaited_22 (by decide) (fun c_2 => ?_) (fun c_2 => ?_)
        · refine lv_iinc (v := (nI (i + 1))) (lv' := [(2, .int (nI (i + 1))), (0, .ref (a 0)), (1, .int (nI t))]) hx hb dX3_layWaited_106 hl (k := 2) rfl (nI_1 i) (by decide) rfl (fun ls hl => ?_)
          refine lv_goto (tgt := 11) hx hb dX3_layWaited_109 (by decide) ?_
          have eS1 : (S11 : (Nat → Int32)) = (q_X3_layWaited_11 g t (upd g 302 0) (i + 1)) := by
            show _ = p_X3_layWaited_11 g t (q_X3_layWaited_11 g t (upd g 302 0) i) i
            rw [← eS11]
            unfold p_X3_layWaited_11; rw [if_pos c_2]
          exact ih (i + 1) (by omega) (by omega) S11 eS1 _ _ hP hD hS ls (lv_sub hl [1, 2, 0] rfl)
        · refine lv_sipush (v := 297) hx hb dX3_layWaited_25 (by decide) ?_
          refine lv_aload_n hx hb dX3_layWaited_28 rfl (lv_at hl 0 rfl) ?_
          refine va_get (D := E.1) (ci := 3) (v := .ref (a 1)) (C := RX3) (T := TX3) (N := 3) hx hb hts in3 hown hE.1 hP 0 rfl rfl 0 (by decide) K7 (fun _ h9 => h9) rfl dX3_layWaited_29 ?_
          refine lv_sipush (v := 302) hx hb dX3_layWaited_32 (by decide) ?_
          refine q_iald hx hb hE hP 1 rfl (j := 302) (v := (S11 302)) rfl (by omega) (by decide) rfl dX3_layWaited_35 ?_
          refine tpe (y := nI (ix (S11 302))) hW2 ?_
          refine lv_iadd hx hb dX3_layWaited_36 ?_
          refine tpe (y := nI (297 + (ix (S11 302)))) (nI_add 297 (ix (S11 302))) ?_
          refine lv_istore_n (lv' := [(3, .int (nI (297 + (ix (S11 302))))), (0, .ref (a 0)), (1, .int (nI t)), (2, .int (nI i))]) hx hb dX3_layWaited_37 rfl hl (by decide) rfl (fun ls hl => ?_)
          have K87 : ∀ X : (Nat → Int32) × Nat, X = (w_X3_layWaited_38 t i (ix (S11 302)) S11) → X.2 ≤ 4 → ∀ (H : Heap) (locs : List Loc), va_P E.1 vwCl (ms E a X.1 im kp) H → va_D A (ms E a X.1 im kp) → va_S A s.heap H locs → ∀ ls : Array Slot, lv_has ls 4 [(0, .ref (a 0)), (1, .int (nI t)), (2, .int (nI i)), (3, .int (nI (297 + X.2)))] → W p l e { frames := 2, cells := 0, slots := 0, locals := 46 } s m args below meth c H locs 0 0 Q (F0 m 87 ls []) := by
            intro X eX hX4 H locs hP hD hS ls hl
            refine lv_aload_n hx hb dX3_layWaited_87 rfl (lv_at hl 0 rfl) ?_
            refine va_get (D := E.1) (ci := 3) (v := .ref (a 1)) (C := RX3) (T := TX3) (N := 3) hx hb hts in3 hown hE.1 hP 0 rfl rfl 0 (by decide) K7 (fun _ h9 => h9) rfl dX3_layWaited_88 ?_
            refine lv_iload_n hx hb dX3_layWaited_91 rfl (lv_at hl 3 rfl) ?_
            refine lv_iload_n hx hb dX3_layWaited_92 rfl (lv_at hl 2 rfl) ?_
            refine q_iast hx hb hE hP hD hS 1 rfl (j := (297 + X.2)) (wd' := (ms E a (upd X.1 (297 + X.2) (nI i)) im kp)) rfl (by omega) (by decide) rfl dX3_layWaited_93 (fun H locs hP hD hS => ?_)
            refine lv_aload_n hx hb dX3_layWaited_94 rfl (lv_at hl 0 rfl) ?_
            refine va_get (D := E.1) (ci := 3) (v := .ref (a 1)) (C := RX3) (T := TX3) (N := 3) hx hb hts in3 hown hE.1 hP 0 rfl rfl 0 (by decide) K7 (fun _ h9 => h9) rfl dX3_layWaited_95 ?_
            refine lv_sipush (v := 302) hx hb dX3_layWaited_98 (by decide) ?_
            refine lv_dup2_11 hx hb dX3_layWaited_101 rfl rfl ?_
            refine q_iald hx hb hE hP 1 rfl (j := 302) (v := (X.1 302)) rfl (by omega) (by decide) (up_n (by omega)) dX3_layWaited_102 ?_
            refine lv_iconst (v := 1) hx hb dX3_layWaited_103 (by decide) ?_
            refine lv_iadd hx hb dX3_layWaited_104 ?_
            refine q_iast hx hb hE hP hD hS 1 rfl (j := 302) (wd' := (ms E a (upd (upd X.1 (297 + X.2) (nI i)) 302 ((X.1 302) + 1)) im kp)) rfl (by omega) (by decide) rfl dX3_layWaited_105 (fun H locs hP hD hS => ?_)
            refine lv_iinc (v := (nI (i + 1))) (lv' := [(2, .int (nI (i + 1))), (0, .ref (a 0)), (1, .int (nI t)), (3, .int (nI (297 + X.2)))]) hx hb dX3_layWaited_106 hl (k := 2) rfl (nI_1 i) (by decide) rfl (fun ls hl => ?_)
            refine lv_goto (tgt := 11) hx hb dX3_layWaited_109 (by decide) ?_
            have eS1 : ((upd (upd X.1 (297 + X.2) (nI i)) 302 ((X.1 302) + 1)) : (Nat → Int32)) = (q_X3_layWaited_11 g t (upd g 302 0) (i + 1)) := by
              show _ = p_X3_layWaited_11 g t (q_X3_layWaited_11 g t (upd g 302 0) i) i
              rw [← eS11]
              unfold p_X3_layWaited_11; (try rw [← eX]); rw [if_neg c_2]
            exact ih (i + 1) (by omega) (by omega) (upd (upd X.1 (297 + X.2) (nI i)) 302 ((X.1 302) + 1)) eS1 _ _ hP hD hS ls (lv_sub hl [1, 2, 0] rfl)
          have lp38 : ∀ (k : Nat) (G : Nat → Int32), k ≤ 4 → (∀ j, j < k → ix (G (297 + j)) < 5 ∧ G (297 + j) = nI (ix (G (297 + j)))) → w_X3_layWaited_38 t i k G = (w_X3_layWaited_38 t i (ix (S11 302)) S11) → ∀ (H : Heap) (locs : List Loc), va_P E.1 vwCl (ms E a G im kp) H → va_D A (ms E a G im kp) → va_S A s.heap H locs → ∀ ls : Array Slot, lv_has ls 4 [(0, .ref (a 0)), (1, .int (nI t)), (2, .int (nI i)), (3, .int (nI (297 + k)))] → W p l e { frames := 2, cells := 0, slots := 0, locals := 46 } s m args below meth c H locs 0 0 Q (F0 m 38 ls []) := by
            intro k
            induction k with
            | zero =>
              intro G hk hG hw H locs hP hD hS ls hl
              refine lv_iload_n hx hb dX3_layWaited_38 rfl (lv_at hl 3 rfl) ?_
              refine lv_sipush (v := 297) hx hb dX3_layWaited_39 (by decide) ?_
              refine lv_icmp_le (tgt := 87) hx hb dX3_layWaited_42 (by decide) (fun c0 => ?_) (fun c0 => ?_)
              · exact K87 (G, 0) hw (Nat.zero_le 4) _ _ hP hD hS ls hl
              · exact absurd (show nI 297 ≤ 297 by decide) c0
            | succ k ih =>
              intro G hk hG hw H locs hP hD hS ls hl
              refine lv_iload_n hx hb dX3_layWaited_38 rfl (lv_at hl 3 rfl) ?_
              refine lv_sipush (v := 297) hx hb dX3_layWaited_39 (by decide) ?_
              refine lv_icmp_le (tgt := 87) hx hb dX3_layWaited_42 (by decide) (fun c0 => ?_) (fun c0 => ?_)
              · exact absurd c0 (nI_ge (a := 297) (b := 297 + (k + 1)) (by omega) (by omega))
              obtain ⟨b_j, e_j⟩ := hG k (Nat.lt_succ_self k)
              refine lv_aload_n hx hb dX3_layWaited_45 rfl (lv_at hl 0 rfl) ?_
              refine lv_aload_n hx hb dX3_layWaited_46 rfl (lv_at hl 0 rfl) ?_
              refine va_get (D := E.1) (ci := 3) (v := .ref (a 1)) (C := RX3) (T := TX3) (N := 3) hx hb hts in3 hown hE.1 hP 0 rfl rfl 0 (by decide) K7 (fun _ h9 => h9) rfl dX3_layWaited_47 ?_
              refine lv_iload_n hx hb dX3_layWaited_50 rfl (lv_at hl 3 rfl) ?_
              refine lv_iconst (v := 1) hx hb dX3_layWaited_51 (by decide) ?_
              refine lv_isub hx hb dX3_layWaited_52 ?_
              refine tpe (y := nI (297 + k)) (pr_k k) ?_
              refine q_iald hx hb hE hP 1 rfl (j := (297 + k)) (v := (G (297 + k))) rfl (by omega) (by decide) rfl dX3_layWaited_53 ?_
              refine tpe (y := nI (ix (G (297 + k)))) e_j ?_
              refine lv_iload_n hx hb dX3_layWaited_54 rfl (lv_at hl 1 rfl) ?_
              refine ci_V F hE (k_X3_lesser l E a G im kp (ix (G (297 + k))) t (by omega) (by omega)) (cwV 2 hts gX3_layWaited_X3_lesser rfl rfl rfl (by decide +kernel) ⟨Nat.le_of_ble_eq_true rfl, Nat.le_of_ble_eq_true rfl⟩) Fr.all 0 3 rfl rfl rfl hP hD hS hA rfl hl.1 rfl (Nat.le_of_ble_eq_true rfl) dX3_layWaited_55 ⟨Nat.zero_le _, Nat.zero_le _⟩ (fun H locs hP hD hS => ?_)
              refine lv_aload_n hx hb dX3_layWaited_58 rfl (lv_at hl 0 rfl) ?_
              refine lv_iload_n hx hb dX3_layWaited_59 rfl (lv_at hl 2 rfl) ?_
              refine lv_iload_n hx hb dX3_layWaited_60 rfl (lv_at hl 1 rfl) ?_
              refine ci_V F hE (k_X3_lesser l E a G im kp i t (by omega) (by omega)) (cwV 2 hts gX3_layWaited_X3_lesser rfl rfl rfl (by decide +kernel) ⟨Nat.le_of_ble_eq_true rfl, Nat.le_of_ble_eq_true rfl⟩) Fr.all 0 3 rfl rfl rfl hP hD hS hA rfl hl.1 rfl (Nat.le_of_ble_eq_true rfl) dX3_layWaited_61 ⟨Nat.zero_le _, Nat.zero_le _⟩ (fun H locs hP hD hS => ?_)
              refine lv_icmp_ge (tgt := 87) hx hb dX3_layWaited_64 (by decide) (fun c_3 => ?_) (fun c_3 => ?_)
              · exact K87 (G, k + 1) (by rw [← hw]; unfold w_X3_layWaited_38; rw [if_pos c_3]) hk _ _ hP hD hS ls (lv_sub hl [0, 1, 2, 3] rfl)
              · refine lv_aload_n hx hb dX3_layWaited_67 rfl (lv_at hl 0 rfl) ?_
                refine va_get (D := E.1) (ci := 3) (v := .ref (a 1)) (C := RX3) (T := TX3) (N := 3) hx hb hts in3 hown hE.1 hP 0 rfl rfl 0 (by decide) K7 (fun _ h9 => h9) rfl dX3_layWaited_68 ?_
                refine lv_iload_n hx hb dX3_layWaited_71 rfl (lv_at hl 3 rfl) ?_
                refine lv_aload_n hx hb dX3_layWaited_72 rfl (lv_at hl 0 rfl) ?_
                refine va_get (D := E.1) (ci := 3) (v := .ref (a 1)) (C := RX3) (T := TX3) (N := 3) hx hb hts in3 hown hE.1 hP 0 rfl rfl 0 (by decide) K7 (fun _ h9 => h9) rfl dX3_layWaited_73 ?_
                refine lv_iload_n hx hb dX3_layWaited_76 rfl (lv_at hl 3 rfl) ?_
                refine lv_iconst (v := 1) hx hb dX3_layWaited_77 (by decide) ?_
                refine lv_isub hx hb dX3_layWaited_78 ?_
                refine tpe (y := nI (297 + k)) (pr_k k) ?_
                refine q_iald hx hb hE hP 1 rfl (j := (297 + k)) (v := (G (297 + k))) rfl (by omega) (by decide) rfl dX3_layWaited_79 ?_
                refine q_iast hx hb hE hP hD hS 1 rfl (j := (297 + (k + 1))) (wd' := (ms E a (upd G (297 + (k + 1)) (G (297 + k))) im kp)) rfl (by omega) (by decide) rfl dX3_layWaited_80 (fun H locs hP hD hS => ?_)
                refine lv_iinc (v := (nI (297 + k))) (lv' := [(3, .int (nI (297 + k))), (0, .ref (a 0)), (1, .int (nI t)), (2, .int (nI i))]) hx hb dX3_layWaited_81 hl (k := 3) rfl (pm_k k) (by decide) rfl (fun ls hl => ?_)
                refine lv_goto (tgt := 38) hx hb dX3_layWaited_84 (by decide) ?_
                refine ih (upd G (297 + (k + 1)) (G (297 + k))) (by omega) (fun j hj => ?_) ?_ _ _ hP hD hS ls (lv_sub hl [1, 2, 3, 0] rfl)
                · rw [up_n (by omega)]; exact hG j (by omega)
                · rw [← hw]
                  show _ = (if f_X3_lesser G i t ≤ f_X3_lesser G (ix (G (297 + k))) t then (G, k + 1) else w_X3_layWaited_38 t i k (upd G (297 + (k + 1)) (G (297 + k))))
                  rw [if_neg c_3]
          exact lp38 (ix (S11 302)) S11 (by omega) hW3 rfl _ _ hP hD hS ls (lv_sub hl [1, 2, 3, 0] rfl)
  exact lp11 (5 + 1) 0 (Nat.zero_le _) (by omega) (upd g 302 0) rfl _ _ hP hD hS ls (lv_sub hl [1, 2, 0] rfl)
end
section
def LI (g : Nat → Int32) : Prop := (ix (g 41) ≤ 12 ∧ g 41 = nI (ix (g 41))) ∧ ∀ k, k < ix (g 41) → ix (g (29 + k)) < 12 ∧ g (29 + k) = nI (ix (g (29 + k)))
theorem li_upd {g : Nat → Int32} {i : Nat} {v : Int32} (h : LI g) (hi : i < 29 ∨ 41 < i) : LI (upd g i v) := by
  unfold LI
  obtain ⟨h1, h2⟩ := h
  rw [up_n (show 41 ≠ i by omega)]
  refine ⟨h1, fun k hk => ?_⟩
  rw [up_n (show 29 + k ≠ i by omega)]
  exact h2 k hk
def p_X3_settleAll_12 (g : Nat → Int32) (S12 : (Nat → Int32) × Nat) (i : Nat) : (Nat → Int32) × Nat := (if (f_X3_isSettled S12.1 (ix (g (29 + i)))) = 0 then ((upd (s_X3_isSettled S12.1 (ix (g (29 + i)))) (29 + S12.2) (nI (ix (g (29 + i))))), (S12.2 + 1)) else ((s_X3_isSettled S12.1 (ix (g (29 + i)))), S12.2))
def q_X3_settleAll_12 (g : Nat → Int32) (S0 : (Nat → Int32) × Nat) : Nat → (Nat → Int32) × Nat
  | 0 => S0
  | i + 1 => p_X3_settleAll_12 g (q_X3_settleAll_12 g S0 i) i
def s_X3_settleAll (g : Nat → Int32) : Nat → Int32 := (upd (q_X3_settleAll_12 g (g, 0) (ix (g 41))).1 41 (nI (q_X3_settleAll_12 g (g, 0) (ix (g 41))).2))
def LN (g S : Nat → Int32) (c i : Nat) : Prop := c ≤ i ∧ (∀ j, i ≤ j → j < 12 → S (29 + j) = g (29 + j)) ∧ ∀ k, k < c → ix (S (29 + k)) < 12 ∧ S (29 + k) = nI (ix (S (29 + k)))
theorem ln_s {g : Nat → Int32} {S : (Nat → Int32) × Nat} {i : Nat} (hi : i < 12) (ht : ix (g (29 + i)) < 12) (h : LN g S.1 S.2 i) : LN g (p_X3_settleAll_12 g S i).1 (p_X3_settleAll_12 g S i).2 (i + 1) := by
  obtain ⟨h1, h2, h3⟩ := h
  have hk : ∀ j, j < 12 → s_X3_isSettled S.1 (ix (g (29 + i))) (29 + j) = S.1 (29 + j) := fun j hj => ks_X3_isSettled S.1 (by omega) (by omega) (by omega)
  unfold p_X3_settleAll_12
  generalize s_X3_isSettled S.1 (ix (g (29 + i))) = G at hk ⊢
  generalize ix (g (29 + i)) = t at ht ⊢
  split
  · refine ⟨Nat.succ_le_succ h1, fun j hj hj2 => ?_, fun k hk2 => ?_⟩
    · show upd G (29 + S.2) (nI t) (29 + j) = g (29 + j)
      rw [up_n (by omega), hk j hj2]
      exact h2 j (by omega) hj2
    · have hk2 : k < S.2 + 1 := hk2
      show ix (upd G (29 + S.2) (nI t) (29 + k)) < 12 ∧ upd G (29 + S.2) (nI t) (29 + k) = nI (ix (upd G (29 + S.2) (nI t) (29 + k)))
      by_cases hks : k = S.2
      · subst hks
        rw [up_s, ix_nI (by omega)]
        exact ⟨ht, rfl⟩
      · rw [up_n (by omega), hk k (by omega)]
        exact h3 k (by omega)
  · refine ⟨Nat.le_succ_of_le h1, fun j hj hj2 => ?_, fun k hk2 => ?_⟩
    · show G (29 + j) = g (29 + j)
      rw [hk j hj2]
      exact h2 j (by omega) hj2
    · have hk2 : k < S.2 := hk2
      show ix (G (29 + k)) < 12 ∧ G (29 + k) = nI (ix (G (29 + k)))
      rw [hk k (by omega)]
      exact h3 k hk2
theorem ln_q {g : Nat → Int32} (hL : LI g) : ∀ i, i ≤ ix (g 41) → LN g (q_X3_settleAll_12 g (g, 0) i).1 (q_X3_settleAll_12 g (g, 0) i).2 i
  | 0, _ => ⟨Nat.le_refl 0, fun _ _ _ => rfl, fun k hk => absurd hk (Nat.not_lt_zero k)⟩
  | i + 1, hi => ln_s (Nat.lt_of_lt_of_le hi hL.1.1) (hL.2 i hi).1 (ln_q hL i (Nat.le_of_succ_le hi))
theorem li_X3_settleAll {g : Nat → Int32} (hL : LI g) : LI (s_X3_settleAll g) := by
  obtain ⟨h1, -, h2⟩ := ln_q hL _ (Nat.le_refl _)
  have hm := hL.1.1
  unfold s_X3_settleAll
  generalize q_X3_settleAll_12 g (g, 0) (ix (g 41)) = S at h1 h2 ⊢
  unfold LI
  rw [up_s, ix_nI (by omega)]
  refine ⟨⟨by omega, rfl⟩, fun k hk => ?_⟩
  rw [up_n (by omega)]
  exact h2 k hk
set_option maxHeartbeats 4000000 in
set_option maxRecDepth 100000 in
theorem k_X3_settleAll (l : Launch) (E : EE) (a : Nat → Nat) (g im kp : Nat → Int32)  (hL : LI g) : Ci l E yX3_settleAll wsX3_settleAll { frames := 3, cells := 0, slots := 0, locals := 68 } [.ref (a 0)] (ms E a g im kp) ((nI (ix (g 41))) - (nI (q_X3_settleAll_12 g (g, 0) (ix (g 41))).2)) (ms E a (s_X3_settleAll g) im kp) := by
  refine Ci.of (cc := cX3_settleAll) (maxL := 5) (rt := .int) (by decide) rfl rfl (Nat.le_of_ble_eq_true rfl) ?_
  intro p e s m args below meth c A Q F hE hA hret hP hD ls hl
  obtain ⟨hx, hb, hml, hown, hts⟩ := id F
  have hS : va_S A s.heap s.heap [] := va_S.rf
  have hl : lv_has ls 5 [(0, .ref (a 0))] := hl
  have in3 : ∀ w ∈ wsX30, w ∈ wsX3_settleAll := fun w h => List.mem_cons_of_mem _ (List.mem_append_right _ h)
  have K7 := hts (.fieldLink RX3 7 "PromiseHoursModel" "state" "[I") (by decide +kernel)
  obtain ⟨⟨hm1, hm2⟩, hL2⟩ := id hL
  refine lv_iconst (v := 0) hx hb dX3_settleAll_0 (by decide) ?_
  refine lv_istore_n (lv' := [(1, .int 0), (0, .ref (a 0))]) hx hb dX3_settleAll_1 rfl hl (by decide) rfl (fun ls hl => ?_)
  refine lv_aload_n hx hb dX3_settleAll_2 rfl (lv_at hl 1 rfl) ?_
  refine va_get (D := E.1) (ci := 3) (v := .ref (a 1)) (C := RX3) (T := TX3) (N := 3) hx hb hts in3 hown hE.1 hP 0 rfl rfl 0 (by decide) K7 (fun _ h9 => h9) rfl dX3_settleAll_3 ?_
  refine lv_bipush (v := 41) hx hb dX3_settleAll_6 (by decide) ?_
  refine q_iald hx hb hE hP 1 rfl (j := 41) (v := (g 41)) rfl (by omega) (by decide) rfl dX3_settleAll_8 ?_
  refine lv_istore_n (lv' := [(2, .int (g 41)), (1, .int 0), (0, .ref (a 0))]) hx hb dX3_settleAll_9 rfl hl (by decide) rfl (fun ls hl => ?_)
  refine lv_iconst (v := 0) hx hb dX3_settleAll_10 (by decide) ?_
  refine lv_istore_n (lv' := [(3, .int 0), (2, .int (g 41)), (1, .int 0), (0, .ref (a 0))]) hx hb dX3_settleAll_11 rfl hl (by decide) rfl (fun ls hl => ?_)
  have lp12 : ∀ (fu i : Nat), i ≤ (ix (g 41)) → (ix (g 41)) + 1 ≤ i + fu → ∀ (S12a : (Nat → Int32)) (S12b : Nat), (S12a, S12b) = (q_X3_settleAll_12 g (g, 0) i) → ∀ (H : Heap) (locs : List Loc), va_P E.1 vwCl (ms E a S12a im kp) H → va_D A (ms E a S12a im kp) → va_S A s.heap H locs → ∀ ls : Array Slot, lv_has ls 5 [(0, .ref (a 0)), (1, .int (nI S12b)), (2, .int (g 41)), (3, .int (nI i))] → W p l e { frames := 3, cells := 0, slots := 0, locals := 68 } s m args below meth c H locs 0 0 Q (F0 m 12 ls []) := by
    intro fu
    induction fu with
    | zero => intro i h1 h2; exact absurd h2 (by omega)
    | succ fu ih =>
      intro i hi hin S12a S12b eS12 H locs hP hD hS ls hl
      refine lv_iload_n hx hb dX3_settleAll_12 rfl (lv_at hl 3 rfl) ?_
      refine lv_iload_n hx hb dX3_settleAll_13 rfl (lv_at hl 2 rfl) ?_
      refine tpe hm2 ?_
      refine lv_icmp_ge (tgt := 57) hx hb dX3_settleAll_14 (by decide) (fun c_1 => ?_) (fun c_1 => ?_)
      · have hiN : i = (ix (g 41)) := by have := (nI_leI (a := (ix (g 41))) (b := i) (by omega) (by omega)).mp c_1; omega
        rw [hiN] at eS12 hl
        have eS12a : S12a = (q_X3_settleAll_12 g (g, 0) (ix (g 41))).1 := by rw [← eS12]
        have eS12b : S12b = (q_X3_settleAll_12 g (g, 0) (ix (g 41))).2 := by rw [← eS12]
        refine lv_aload_n hx hb dX3_settleAll_57 rfl (lv_at hl 0 rfl) ?_
        refine va_get (D := E.1) (ci := 3) (v := .ref (a 1)) (C := RX3) (T := TX3) (N := 3) hx hb hts in3 hown hE.1 hP 0 rfl rfl 0 (by decide) K7 (fun _ h9 => h9) rfl dX3_settleAll_58 ?_
        refine lv_bipush (v := 41) hx hb dX3_settleAll_61 (by decide) ?_
        refine lv_iload_n hx hb dX3_settleAll_63 rfl (lv_at hl 1 rfl) ?_
        refine q_iast hx hb hE hP hD hS 1 rfl (j := 41) (wd' := (ms E a (upd S12a 41 (nI S12b)) im kp)) rfl (by omega) (by decide) rfl dX3_settleAll_64 (fun H locs hP hD hS => ?_)
        refine lv_iload_n hx hb dX3_settleAll_65 rfl (lv_at hl 2 rfl) ?_
        refine tpe hm2 ?_
        refine lv_iload_n hx hb dX3_settleAll_66 rfl (lv_at hl 1 rfl) ?_
        refine lv_isub hx hb dX3_settleAll_67 ?_
        have eg : (upd S12a 41 (nI S12b)) = (s_X3_settleAll g) := (by unfold s_X3_settleAll; rw [← eS12b]; rw [← eS12a])
        exact hret _ _ _ _ _ (by rw [← eg]; exact hP) (by rw [← eg]; exact hD) hS (by rw [← eS12b]) dX3_settleAll_68
      · have hlt : i < (ix (g 41)) := Nat.lt_of_not_le (fun h => c_1 (nI_le (a := (ix (g 41))) (b := i) (by omega) (by omega)))
        have hq := ln_q hL i hi
        rw [← eS12] at hq
        dsimp only at hq
        obtain ⟨hq1, hq2, -⟩ := hq
        obtain ⟨b_t, e_t⟩ := hL2 i hlt
        refine lv_aload_n hx hb dX3_settleAll_17 rfl (lv_at hl 0 rfl) ?_
        refine va_get (D := E.1) (ci := 3) (v := .ref (a 1)) (C := RX3) (T := TX3) (N := 3) hx hb hts in3 hown hE.1 hP 0 rfl rfl 0 (by decide) K7 (fun _ h9 => h9) rfl dX3_settleAll_18 ?_
        refine lv_bipush (v := 29) hx hb dX3_settleAll_21 (by decide) ?_
        refine lv_iload_n hx hb dX3_settleAll_23 rfl (lv_at hl 3 rfl) ?_
        refine lv_iadd hx hb dX3_settleAll_24 ?_
        refine tpe (y := nI (29 + i)) (nI_add 29 i) ?_
        refine q_iald hx hb hE hP 1 rfl (j := (29 + i)) (v := (S12a (29 + i))) rfl (by omega) (by decide) rfl dX3_settleAll_25 ?_
        refine tpe (y := nI (ix (g (29 + i)))) ((hq2 i (Nat.le_refl i) (by omega)).trans e_t) ?_
        refine lv_istore (lv' := [(4, .int (nI (ix (g (29 + i))))), (0, .ref (a 0)), (1, .int (nI S12b)), (2, .int (g 41)), (3, .int (nI i))]) hx hb dX3_settleAll_26 hl (by decide) rfl (fun ls hl => ?_)
        refine lv_aload_n hx hb dX3_settleAll_28 rfl (lv_at hl 1 rfl) ?_
        refine lv_iload hx hb dX3_settleAll_29 (lv_at hl 0 rfl) ?_
        refine ci_V F hE (k_X3_isSettled l E a S12a im kp (ix (g (29 + i))) (by omega)) (cwV 1 hts gX3_settleAll_X3_isSettled rfl rfl rfl (by decide +kernel) ⟨Nat.le_of_ble_eq_true rfl, Nat.le_of_ble_eq_true rfl⟩) Fr.all 0 3 rfl rfl rfl hP hD hS hA rfl hl.1 rfl (Nat.le_of_ble_eq_true rfl) dX3_settleAll_31 ⟨Nat.zero_le _, Nat.zero_le _⟩ (fun H locs hP hD hS => ?_)
        have hP : va_P E.1 vwCl (ms E a (s_X3_isSettled S12a (ix (g (29 + i)))) im kp) H := hP
        have hD : va_D A (ms E a (s_X3_isSettled S12a (ix (g (29 + i)))) im kp) := hD
        refine lv_if_ne (tgt := 51) hx hb dX3_settleAll_34 (by decide) (fun c_2 => ?_) (fun c_2 => ?_)
        · refine lv_iinc (v := (nI (i + 1))) (lv' := [(3, .int (nI (i + 1))), (4, .int (nI (ix (g (29 + i))))), (0, .ref (a 0)), (1, .int (nI S12b)), (2, .int (g 41))]) hx hb dX3_settleAll_51 hl (k := 4) rfl (nI_1 i) (by decide) rfl (fun ls hl => ?_)
          refine lv_goto (tgt := 12) hx hb dX3_settleAll_54 (by decide) ?_
          have eS1 : (((s_X3_isSettled S12a (ix (g (29 + i)))), S12b) : (Nat → Int32) × Nat) = (q_X3_settleAll_12 g (g, 0) (i + 1)) := by
            show _ = p_X3_settleAll_12 g (q_X3_settleAll_12 g (g, 0) i) i
            rw [← eS12]
            unfold p_X3_settleAll_12; dsimp only; rw [if_neg c_2]
          exact ih (i + 1) (by omega) (by omega) (s_X3_isSettled S12a (ix (g (29 + i)))) S12b eS1 _ _ hP hD hS ls (lv_sub hl [2, 3, 4, 0] rfl)
        · refine lv_aload_n hx hb dX3_settleAll_37 rfl (lv_at hl 1 rfl) ?_
          refine va_get (D := E.1) (ci := 3) (v := .ref (a 1)) (C := RX3) (T := TX3) (N := 3) hx hb hts in3 hown hE.1 hP 0 rfl rfl 0 (by decide) K7 (fun _ h9 => h9) rfl dX3_settleAll_38 ?_
          refine lv_bipush (v := 29) hx hb dX3_settleAll_41 (by decide) ?_
          refine lv_iload_n hx hb dX3_settleAll_43 rfl (lv_at hl 2 rfl) ?_
          refine lv_iadd hx hb dX3_settleAll_44 ?_
          refine tpe (y := nI (29 + S12b)) (nI_add 29 S12b) ?_
          refine lv_iload hx hb dX3_settleAll_45 (lv_at hl 0 rfl) ?_
          refine q_iast hx hb hE hP hD hS 1 rfl (j := (29 + S12b)) (wd' := (ms E a (upd (s_X3_isSettled S12a (ix (g (29 + i)))) (29 + S12b) (nI (ix (g (29 + i))))) im kp)) rfl (by omega) (by decide) rfl dX3_settleAll_47 (fun H locs hP hD hS => ?_)
          refine lv_iinc (v := (nI (S12b + 1))) (lv' := [(1, .int (nI (S12b + 1))), (4, .int (nI (ix (g (29 + i))))), (0, .ref (a 0)), (2, .int (g 41)), (3, .int (nI i))]) hx hb dX3_settleAll_48 hl (k := 2) rfl (nI_1 S12b) (by decide) rfl (fun ls hl => ?_)
          refine lv_iinc (v := (nI (i + 1))) (lv' := [(3, .int (nI (i + 1))), (1, .int (nI (S12b + 1))), (4, .int (nI (ix (g (29 + i))))), (0, .ref (a 0)), (2, .int (g 41))]) hx hb dX3_settleAll_51 hl (k := 4) rfl (nI_1 i) (by decide) rfl (fun ls hl => ?_)
          refine lv_goto (tgt := 12) hx hb dX3_settleAll_54 (by decide) ?_
          have eS1 : (((upd (s_X3_isSettled S12a (ix (g (29 + i)))) (29 + S12b) (nI (ix (g (29 + i))))), (S12b + 1)) : (Nat → Int32) × Nat) = (q_X3_settleAll_12 g (g, 0) (i + 1)) := by
            show _ = p_X3_settleAll_12 g (q_X3_settleAll_12 g (g, 0) i) i
            rw [← eS12]
            unfold p_X3_settleAll_12; dsimp only; rw [if_pos c_2]
          exact ih (i + 1) (by omega) (by omega) (upd (s_X3_isSettled S12a (ix (g (29 + i)))) (29 + S12b) (nI (ix (g (29 + i))))) (S12b + 1) eS1 _ _ hP hD hS ls (lv_sub hl [3, 1, 4, 0] rfl)
  exact lp12 ((ix (g 41)) + 1) 0 (Nat.zero_le _) (by omega) g 0 rfl _ _ hP hD hS ls (lv_sub hl [3, 2, 1, 0] rfl)
def t1_X3_there (g : Nat → Int32) (x : Int32) (n : Int32) : Nat → Int32 := (s_X3_settleAll (upd g (42 + (ix x)) n))
def s_X3_there (g : Nat → Int32) (x : Int32) (n : Int32) : Nat → Int32 := (if (f_X3_in x 0 4) = 0 then g else (if (f_X3_in n 0 1) = 0 then g else (if (if n = 1 then (if (g (42 + (ix x))) = 0 then 1 else 0) else 0 : Int32) = 0 then (upd g (42 + (ix x)) n) else (t1_X3_there g x n))))
def f_X3_there (g : Nat → Int32) (x : Int32) (n : Int32) : Int32 := (if (f_X3_in x 0 4) = 0 then (-1) else (if (f_X3_in n 0 1) = 0 then (-2) else (if (if n = 1 then (if (g (42 + (ix x))) = 0 then 1 else 0) else 0 : Int32) = 0 then 0 else ((nI (ix ((upd g (42 + (ix x)) n) 41))) - (nI (q_X3_settleAll_12 (upd g (42 + (ix x)) n) ((upd g (42 + (ix x)) n), 0) (ix ((upd g (42 + (ix x)) n) 41))).2)))))
set_option maxHeartbeats 4000000 in
set_option maxRecDepth 100000 in
theorem k_X3_there (l : Launch) (E : EE) (a : Nat → Nat) (g im kp : Nat → Int32) (x : Int32) (n : Int32) (hL : LI g) : Ci l E yX3_there wsX3_there { frames := 4, cells := 0, slots := 0, locals := 92 } [.ref (a 0), .int x, .int n] (ms E a g im kp) (f_X3_there g x n) (ms E a (s_X3_there g x n) im kp) := by
  refine Ci.of (cc := cX3_there) (maxL := 4) (rt := .int) (by decide) rfl rfl (Nat.le_of_ble_eq_true rfl) ?_
  intro p e s m args below meth c A Q F hE hA hret hP hD ls hl
  obtain ⟨hx, hb, hml, hown, hts⟩ := id F
  have hS : va_S A s.heap s.heap [] := va_S.rf
  have hl : lv_has ls 4 [(0, .ref (a 0)), (1, .int x), (2, .int n)] := hl
  have in3 : ∀ w ∈ wsX30, w ∈ wsX3_there := fun w h => List.mem_cons_of_mem _ (List.mem_append_right _ h)
  have K7 := hts (.fieldLink RX3 7 "PromiseHoursModel" "state" "[I") (by decide +kernel)
  refine lv_iload_n hx hb dX3_there_0 rfl (lv_at hl 1 rfl) ?_
  refine ci_S F hE (k_X3_isReader l E x) (va_cwS 1 hts gX3_there_X3_isReader rfl rfl rfl (by decide +kernel) ⟨Nat.le_of_ble_eq_true rfl, Nat.le_of_ble_eq_true rfl⟩) Fr.nil hP hD hS hA rfl hl.1 rfl (Nat.le_of_ble_eq_true rfl) dX3_there_1 ⟨Nat.zero_le _, Nat.zero_le _⟩ (fun H locs hP hD hS => ?_)
  refine lv_if_ne (tgt := 9) hx hb dX3_there_4 (by decide) (fun c_1 => ?_) (fun c_1 => ?_)
  · obtain ⟨b_x, e_x⟩ := in_ix (n := 4) c_1 (by decide) (by decide)
    refine lv_iload_n hx hb dX3_there_9 rfl (lv_at hl 2 rfl) ?_
    refine lv_iconst (v := 0) hx hb dX3_there_10 (by decide) ?_
    refine lv_iconst (v := 1) hx hb dX3_there_11 (by decide) ?_
    refine ci_S F hE (k_X3_in l E n 0 1) (va_cwS 3 hts gX3_there_X3_in rfl rfl rfl (by decide +kernel) ⟨Nat.le_of_ble_eq_true rfl, Nat.le_of_ble_eq_true rfl⟩) Fr.nil hP hD hS hA rfl hl.1 rfl (Nat.le_of_ble_eq_true rfl) dX3_there_12 ⟨Nat.zero_le _, Nat.zero_le _⟩ (fun H locs hP hD hS => ?_)
    refine lv_if_ne (tgt := 21) hx hb dX3_there_15 (by decide) (fun c_2 => ?_) (fun c_2 => ?_)
    · refine lv_iload_n hx hb dX3_there_21 rfl (lv_at hl 2 rfl) ?_
      refine lv_iconst (v := 1) hx hb dX3_there_22 (by decide) ?_
      have J_43_3 : ∀ (w : Int32) (H : Heap) (locs : List Loc), va_P E.1 vwCl (ms E a g im kp) H → va_D A (ms E a g im kp) → va_S A s.heap H locs → w = (if n = 1 then (if (g (42 + (ix x))) = 0 then 1 else 0) else 0 : Int32) → W p l e { frames := 4, cells := 0, slots := 0, locals := 92 } s m args below meth c H locs 0 0 Q (F0 m 43 ls [.int w]) := by
        intro w H locs hP hD hS ew
        subst ew
        refine lv_istore_n (lv' := [(3, .int (if n = 1 then (if (g (42 + (ix x))) = 0 then 1 else 0) else 0 : Int32)), (0, .ref (a 0)), (1, .int x), (2, .int n)]) hx hb dX3_there_43 rfl hl (by decide) rfl (fun ls hl => ?_)
        refine lv_aload_n hx hb dX3_there_44 rfl (lv_at hl 1 rfl) ?_
        refine va_get (D := E.1) (ci := 3) (v := .ref (a 1)) (C := RX3) (T := TX3) (N := 3) hx hb hts in3 hown hE.1 hP 0 rfl rfl 0 (by decide) K7 (fun _ h9 => h9) rfl dX3_there_45 ?_
        refine lv_bipush (v := 42) hx hb dX3_there_48 (by decide) ?_
        refine lv_iload_n hx hb dX3_there_50 rfl (lv_at hl 2 rfl) ?_
        refine tpe e_x ?_
        refine lv_iadd hx hb dX3_there_51 ?_
        refine tpe (y := nI (42 + (ix x))) (nI_add 42 (ix x)) ?_
        refine lv_iload_n hx hb dX3_there_52 rfl (lv_at hl 3 rfl) ?_
        refine q_iast hx hb hE hP hD hS 1 rfl (j := (42 + (ix x))) (wd' := (ms E a (upd g (42 + (ix x)) n) im kp)) rfl (by omega) (by decide) rfl dX3_there_53 (fun H locs hP hD hS => ?_)
        refine lv_iload_n hx hb dX3_there_54 rfl (lv_at hl 0 rfl) ?_
        refine lv_if_eq (tgt := 65) hx hb dX3_there_55 (by decide) (fun c_6 => ?_) (fun c_6 => ?_)
        · refine lv_iconst (v := 0) hx hb dX3_there_65 (by decide) ?_
          have eg : (upd g (42 + (ix x)) n) = (s_X3_there g x n) := (by unfold s_X3_there; rw [if_neg c_1, if_neg c_2, if_pos c_6])
          exact hret _ _ _ _ _ (by rw [← eg]; exact hP) (by rw [← eg]; exact hD) hS (by unfold f_X3_there; rw [if_neg c_1, if_neg c_2, if_pos c_6]) dX3_there_66
        · refine lv_aload_n hx hb dX3_there_58 rfl (lv_at hl 1 rfl) ?_
          refine ci_V F hE (k_X3_settleAll l E a (upd g (42 + (ix x)) n) im kp (li_upd hL (by omega))) (cwV 0 hts gX3_there_X3_settleAll rfl rfl rfl (by decide +kernel) ⟨Nat.le_of_ble_eq_true rfl, Nat.le_of_ble_eq_true rfl⟩) Fr.all 0 3 rfl rfl rfl hP hD hS hA rfl hl.1 rfl (Nat.le_of_ble_eq_true rfl) dX3_there_59 ⟨Nat.zero_le _, Nat.zero_le _⟩ (fun H locs hP hD hS => ?_)
          have hP : va_P E.1 vwCl (ms E a (t1_X3_there g x n) im kp) H := hP
          have hD : va_D A (ms E a (t1_X3_there g x n) im kp) := hD
          refine lv_goto (tgt := 66) hx hb dX3_there_62 (by decide) ?_
          have eg : (t1_X3_there g x n) = (s_X3_there g x n) := (by unfold s_X3_there; rw [if_neg c_1, if_neg c_2, if_neg c_6])
          exact hret _ _ _ _ _ (by rw [← eg]; exact hP) (by rw [← eg]; exact hD) hS (by unfold f_X3_there; rw [if_neg c_1, if_neg c_2, if_neg c_6]) dX3_there_66
      refine lv_icmp_ne (tgt := 42) hx hb dX3_there_23 (by decide) (fun c_4 => ?_) (fun c_4 => ?_)
      · refine lv_iconst (v := 0) hx hb dX3_there_42 (by decide) ?_
        exact J_43_3 _ _ _ hP hD hS (by rw [if_neg c_4])
      · refine lv_aload_n hx hb dX3_there_26 rfl (lv_at hl 0 rfl) ?_
        refine va_get (D := E.1) (ci := 3) (v := .ref (a 1)) (C := RX3) (T := TX3) (N := 3) hx hb hts in3 hown hE.1 hP 0 rfl rfl 0 (by decide) K7 (fun _ h9 => h9) rfl dX3_there_27 ?_
        refine lv_bipush (v := 42) hx hb dX3_there_30 (by decide) ?_
        refine lv_iload_n hx hb dX3_there_32 rfl (lv_at hl 1 rfl) ?_
        refine tpe e_x ?_
        refine lv_iadd hx hb dX3_there_33 ?_
        refine tpe (y := nI (42 + (ix x))) (nI_add 42 (ix x)) ?_
        refine q_iald hx hb hE hP 1 rfl (j := (42 + (ix x))) (v := (g (42 + (ix x)))) rfl (by omega) (by decide) rfl dX3_there_34 ?_
        refine lv_if_ne (tgt := 42) hx hb dX3_there_35 (by decide) (fun c_5 => ?_) (fun c_5 => ?_)
        · refine lv_iconst (v := 0) hx hb dX3_there_42 (by decide) ?_
          exact J_43_3 _ _ _ hP hD hS (by rw [if_pos c_4, if_neg c_5])
        · refine lv_iconst (v := 1) hx hb dX3_there_38 (by decide) ?_
          refine lv_goto (tgt := 43) hx hb dX3_there_39 (by decide) ?_
          exact J_43_3 _ _ _ hP hD hS (by rw [if_pos c_4, if_pos c_5])
    · refine lv_bipush (v := -2) hx hb dX3_there_18 (by decide) ?_
      have eg : g = (s_X3_there g x n) := (by unfold s_X3_there; rw [if_neg c_1, if_pos c_2])
      exact hret _ _ _ _ _ (by rw [← eg]; exact hP) (by rw [← eg]; exact hD) hS (by unfold f_X3_there; rw [if_neg c_1, if_pos c_2]) dX3_there_20
  · refine lv_iconst (v := -1) hx hb dX3_there_7 (by decide) ?_
    have eg : g = (s_X3_there g x n) := (by unfold s_X3_there; rw [if_pos c_1])
    exact hret _ _ _ _ _ (by rw [← eg]; exact hP) (by rw [← eg]; exact hD) hS (by unfold f_X3_there; rw [if_pos c_1]) dX3_there_8
def p_X3_pass_17 (g : Nat → Int32) (x : Int32) (S17 : (Nat → Int32) × Int32) (i : Nat) : (Nat → Int32) × Int32 := ((s_X3_settleAll (upd S17.1 0 ((S17.1 0) + 1))), (S17.2 + ((nI (ix ((upd S17.1 0 ((S17.1 0) + 1)) 41))) - (nI (q_X3_settleAll_12 (upd S17.1 0 ((S17.1 0) + 1)) ((upd S17.1 0 ((S17.1 0) + 1)), 0) (ix ((upd S17.1 0 ((S17.1 0) + 1)) 41))).2))))
def q_X3_pass_17 (g : Nat → Int32) (x : Int32) (S0 : (Nat → Int32) × Int32) : Nat → (Nat → Int32) × Int32
  | 0 => S0
  | i + 1 => p_X3_pass_17 g x (q_X3_pass_17 g x S0 i) i
def s_X3_pass (g : Nat → Int32) (x : Int32) : Nat → Int32 := (if (f_X3_in x 1 100) = 0 then g else (q_X3_pass_17 g x (g, 0) (ix x)).1)
def f_X3_pass (g : Nat → Int32) (x : Int32) : Int32 := (if (f_X3_in x 1 100) = 0 then (-2) else (q_X3_pass_17 g x (g, 0) (ix x)).2)
theorem li_X3_pass (g : Nat → Int32) (x : Int32) (hL : LI g) : ∀ i, LI (q_X3_pass_17 g x (g, 0) i).1
  | 0 => hL
  | i + 1 => li_X3_settleAll (li_upd (li_X3_pass g x hL i) (by omega))
set_option maxHeartbeats 4000000 in
set_option maxRecDepth 100000 in
theorem k_X3_pass (l : Launch) (E : EE) (a : Nat → Nat) (g im kp : Nat → Int32) (x : Int32) (hL : LI g) : Ci l E yX3_pass wsX3_pass { frames := 4, cells := 0, slots := 0, locals := 92 } [.ref (a 0), .int x] (ms E a g im kp) (f_X3_pass g x) (ms E a (s_X3_pass g x) im kp) := by
  refine Ci.of (cc := cX3_pass) (maxL := 4) (rt := .int) (by decide) rfl rfl (Nat.le_of_ble_eq_true rfl) ?_
  intro p e s m args below meth c A Q F hE hA hret hP hD ls hl
  obtain ⟨hx, hb, hml, hown, hts⟩ := id F
  have hS : va_S A s.heap s.heap [] := va_S.rf
  have hl : lv_has ls 4 [(0, .ref (a 0)), (1, .int x)] := hl
  have in3 : ∀ w ∈ wsX30, w ∈ wsX3_pass := fun w h => List.mem_cons_of_mem _ (List.mem_append_right _ h)
  have K7 := hts (.fieldLink RX3 7 "PromiseHoursModel" "state" "[I") (by decide +kernel)
  refine lv_iload_n hx hb dX3_pass_0 rfl (lv_at hl 1 rfl) ?_
  refine lv_iconst (v := 1) hx hb dX3_pass_1 (by decide) ?_
  refine lv_bipush (v := 100) hx hb dX3_pass_2 (by decide) ?_
  refine ci_S F hE (k_X3_in l E x 1 100) (va_cwS 3 hts gX3_pass_X3_in rfl rfl rfl (by decide +kernel) ⟨Nat.le_of_ble_eq_true rfl, Nat.le_of_ble_eq_true rfl⟩) Fr.nil hP hD hS hA rfl hl.1 rfl (Nat.le_of_ble_eq_true rfl) dX3_pass_4 ⟨Nat.zero_le _, Nat.zero_le _⟩ (fun H locs hP hD hS => ?_)
  refine lv_if_ne (tgt := 13) hx hb dX3_pass_7 (by decide) (fun c_1 => ?_) (fun c_1 => ?_)
  · obtain ⟨b_1, b_x, e_x⟩ := in_lo (a := 1) (b := 100) c_1 (by decide) (by decide) (by decide) (by decide)
    refine lv_iconst (v := 0) hx hb dX3_pass_13 (by decide) ?_
    refine lv_istore_n (lv' := [(2, .int 0), (0, .ref (a 0)), (1, .int x)]) hx hb dX3_pass_14 rfl hl (by decide) rfl (fun ls hl => ?_)
    refine lv_iconst (v := 0) hx hb dX3_pass_15 (by decide) ?_
    refine lv_istore_n (lv' := [(3, .int 0), (2, .int 0), (0, .ref (a 0)), (1, .int x)]) hx hb dX3_pass_16 rfl hl (by decide) rfl (fun ls hl => ?_)
    have lp17 : ∀ (fu i : Nat), i ≤ (ix x) → (ix x) + 1 ≤ i + fu → ∀ (S17a : (Nat → Int32)) (S17b : Int32), (S17a, S17b) = (q_X3_pass_17 g x (g, 0) i) → ∀ (H : Heap) (locs : List Loc), va_P E.1 vwCl (ms E a S17a im kp) H → va_D A (ms E a S17a im kp) → va_S A s.heap H locs → ∀ ls : Array Slot, lv_has ls 4 [(0, .ref (a 0)), (1, .int x), (2, .int S17b), (3, .int (nI i))] → W p l e { frames := 4, cells := 0, slots := 0, locals := 92 } s m args below meth c H locs 0 0 Q (F0 m 17 ls []) := by
      intro fu
      induction fu with
      | zero => intro i h1 h2; exact absurd h2 (by omega)
      | succ fu ih =>
        intro i hi hin S17a S17b eS17 H locs hP hD hS ls hl
        refine lv_iload_n hx hb dX3_pass_17 rfl (lv_at hl 3 rfl) ?_
        refine lv_iload_n hx hb dX3_pass_18 rfl (lv_at hl 1 rfl) ?_
        refine tpe e_x ?_
        refine lv_icmp_ge (tgt := 45) hx hb dX3_pass_19 (by decide) (fun c_2 => ?_) (fun c_2 => ?_)
        · have hiN : i = (ix x) := by have := (nI_leI (a := (ix x)) (b := i) (by omega) (by omega)).mp c_2; omega
          rw [hiN] at eS17 hl
          have eS17a : S17a = (q_X3_pass_17 g x (g, 0) (ix x)).1 := by rw [← eS17]
          have eS17b : S17b = (q_X3_pass_17 g x (g, 0) (ix x)).2 := by rw [← eS17]
          refine lv_iload_n hx hb dX3_pass_45 rfl (lv_at hl 2 rfl) ?_
          have eg : S17a = (s_X3_pass g x) := (by unfold s_X3_pass; (try rw [← eS17b]); (try rw [← eS17a]); rw [if_neg c_1])
          exact hret _ _ _ _ _ (by rw [← eg]; exact hP) (by rw [← eg]; exact hD) hS (by unfold f_X3_pass; (try rw [← eS17b]); (try rw [← eS17a]); rw [if_neg c_1]) dX3_pass_46
        · have hlt : i < (ix x) := Nat.lt_of_not_le (fun h => c_2 (nI_le (a := (ix x)) (b := i) (by omega) (by omega)))
          have hLi := li_X3_pass g x hL i
          rw [← eS17] at hLi
          dsimp only at hLi
          refine lv_aload_n hx hb dX3_pass_22 rfl (lv_at hl 0 rfl) ?_
          refine va_get (D := E.1) (ci := 3) (v := .ref (a 1)) (C := RX3) (T := TX3) (N := 3) hx hb hts in3 hown hE.1 hP 0 rfl rfl 0 (by decide) K7 (fun _ h9 => h9) rfl dX3_pass_23 ?_
          refine lv_iconst (v := 0) hx hb dX3_pass_26 (by decide) ?_
          refine lv_dup2_11 hx hb dX3_pass_27 rfl rfl ?_
          refine q_iald hx hb hE hP 1 rfl (j := 0) (v := (S17a 0)) rfl (by omega) (by decide) rfl dX3_pass_28 ?_
          refine lv_iconst (v := 1) hx hb dX3_pass_29 (by decide) ?_
          refine lv_iadd hx hb dX3_pass_30 ?_
          refine q_iast hx hb hE hP hD hS 1 rfl (j := 0) (wd' := (ms E a (upd S17a 0 ((S17a 0) + 1)) im kp)) rfl (by omega) (by decide) rfl dX3_pass_31 (fun H locs hP hD hS => ?_)
          refine lv_iload_n hx hb dX3_pass_32 rfl (lv_at hl 2 rfl) ?_
          refine lv_aload_n hx hb dX3_pass_33 rfl (lv_at hl 0 rfl) ?_
          refine ci_V F hE (k_X3_settleAll l E a (upd S17a 0 ((S17a 0) + 1)) im kp (li_upd hLi (by omega))) (cwV 0 hts gX3_pass_X3_settleAll rfl rfl rfl (by decide +kernel) ⟨Nat.le_of_ble_eq_true rfl, Nat.le_of_ble_eq_true rfl⟩) Fr.all 0 3 rfl rfl rfl hP hD hS hA rfl hl.1 rfl (Nat.le_of_ble_eq_true rfl) dX3_pass_34 ⟨Nat.zero_le _, Nat.zero_le _⟩ (fun H locs hP hD hS => ?_)
          have hP : va_P E.1 vwCl (ms E a (s_X3_settleAll (upd S17a 0 ((S17a 0) + 1))) im kp) H := hP
          have hD : va_D A (ms E a (s_X3_settleAll (upd S17a 0 ((S17a 0) + 1))) im kp) := hD
          refine lv_iadd hx hb dX3_pass_37 ?_
          refine lv_istore_n (lv' := [(2, .int (S17b + ((nI (ix ((upd S17a 0 ((S17a 0) + 1)) 41))) - (nI (q_X3_settleAll_12 (upd S17a 0 ((S17a 0) + 1)) ((upd S17a 0 ((S17a 0) + 1)), 0) (ix ((upd S17a 0 ((S17a 0) + 1)) 41))).2)))), (0, .ref (a 0)), (1, .int x), (3, .int (nI i))]) hx hb dX3_pass_38 rfl hl (by decide) rfl (fun ls hl => ?_)
          refine lv_iinc (v := (nI (i + 1))) (lv' := [(3, .int (nI (i + 1))), (2, .int (S17b + ((nI (ix ((upd S17a 0 ((S17a 0) + 1)) 41))) - (nI (q_X3_settleAll_12 (upd S17a 0 ((S17a 0) + 1)) ((upd S17a 0 ((S17a 0) + 1)), 0) (ix ((upd S17a 0 ((S17a 0) + 1)) 41))).2)))), (0, .ref (a 0)), (1, .int x)]) hx hb dX3_pass_39 hl (k := 3) rfl (nI_1 i) (by decide) rfl (fun ls hl => ?_)
          refine lv_goto (tgt := 17) hx hb dX3_pass_42 (by decide) ?_
          have eS1 : (((s_X3_settleAll (upd S17a 0 ((S17a 0) + 1))), (S17b + ((nI (ix ((upd S17a 0 ((S17a 0) + 1)) 41))) - (nI (q_X3_settleAll_12 (upd S17a 0 ((S17a 0) + 1)) ((upd S17a 0 ((S17a 0) + 1)), 0) (ix ((upd S17a 0 ((S17a 0) + 1)) 41))).2)))) : (Nat → Int32) × Int32) = (q_X3_pass_17 g x (g, 0) (i + 1)) := by
            show _ = p_X3_pass_17 g x (q_X3_pass_17 g x (g, 0) i) i
            rw [← eS17]
            rfl
          exact ih (i + 1) (by omega) (by omega) (s_X3_settleAll (upd S17a 0 ((S17a 0) + 1))) (S17b + ((nI (ix ((upd S17a 0 ((S17a 0) + 1)) 41))) - (nI (q_X3_settleAll_12 (upd S17a 0 ((S17a 0) + 1)) ((upd S17a 0 ((S17a 0) + 1)), 0) (ix ((upd S17a 0 ((S17a 0) + 1)) 41))).2))) eS1 _ _ hP hD hS ls (lv_sub hl [2, 3, 1, 0] rfl)
    exact lp17 ((ix x) + 1) 0 (Nat.zero_le _) (by omega) g 0 rfl _ _ hP hD hS ls (lv_sub hl [2, 3, 1, 0] rfl)
  · refine lv_bipush (v := -2) hx hb dX3_pass_10 (by decide) ?_
    have eg : g = (s_X3_pass g x) := (by unfold s_X3_pass; rw [if_pos c_1])
    exact hret _ _ _ _ _ (by rw [← eg]; exact hP) (by rw [← eg]; exact hD) hS (by unfold f_X3_pass; rw [if_pos c_1]) dX3_pass_12
def PB (g : Nat → Int32) : Prop := 0 ≤ (g 0).toInt ∧ (g 0).toInt ≤ 100000 ∧ ∀ r, r < 5 → ∀ t, t < 12 → (g (202 + 12 * r + t)).toInt ≤ (g 0).toInt + 200
theorem due_0 {g : Nat → Int32} {t : Nat} {z : Int32} (h : ∀ r, r < 5 → g (202 + 12 * r + t) ≤ z) : ∀ i, i ≤ 5 → q_X3_dueOf_21 g t z 0 i = 0
  | 0, _ => rfl
  | i + 1, hi => by
    have ih := due_0 h i (by omega)
    show p_X3_dueOf_21 g t z (q_X3_dueOf_21 g t z 0 i) i = 0
    rw [ih]
    unfold p_X3_dueOf_21
    rw [if_pos rfl, if_pos (h i (by omega))]
theorem due_hz {g : Nat → Int32} {t : Nat} (h : PB g) (ht : t < 12) : q_X3_dueOf_21 g t (g 0 + nI 400) 0 5 = 0 := by
  obtain ⟨h1, h2, h3⟩ := h
  refine due_0 (fun r hr => ?_) 5 (Nat.le_refl 5)
  have := h3 r hr t ht
  rw [Int32.le_iff_toInt_le]
  have e : (g 0 + nI 400).toInt = (g 0).toInt + 400 := by
    rw [Int32.toInt_add, nI_toInt (by decide)]
    exact Int.bmod_eq_of_le (by omega) (by omega)
  omega
theorem pb_upd {g : Nat → Int32} {i : Nat} {v : Int32} (h : PB g) (hi : i ≠ 0) (hi2 : i < 202 ∨ 262 ≤ i) : PB (upd g i v) := by
  unfold PB
  rw [up_n (show 0 ≠ i by omega)]
  refine ⟨h.1, h.2.1, fun r hr t ht => ?_⟩
  rw [up_n (by omega)]
  exact h.2.2 r hr t ht
def p_X3_thing_115 (g : Nat → Int32) (y : Int32) (k : Int32) (S115 : Int32) (i : Nat) : Int32 := (S115 ||| (if (if k = 4 then (f_X3_isHolder g i (ix y)) else (if k = 5 then (if (g (82 + 12 * i + (ix y))) < 0 then 0 else 1) else (f_X3_canUse g i (ix y))) : Int32) = 0 then 0 else (1 <<< ((nI i) &&& 31)) : Int32))
def q_X3_thing_115 (g : Nat → Int32) (y : Int32) (k : Int32) (S0 : Int32) : Nat → Int32
  | 0 => S0
  | i + 1 => p_X3_thing_115 g y k (q_X3_thing_115 g y k S0 i) i
def f_X3_thing (g : Nat → Int32) (y : Int32) (k : Int32) : Int32 := (if (f_X3_in y 0 11) = 0 then (-1) else (if (f_X3_in k 0 6) = 0 then (-2) else (if 4 ≤ k then (q_X3_thing_115 g y k 0 5) else (if k = 0 then (g (5 + (ix y))) else (if k = 1 then (if (if (g (17 + (ix y))) < 0 then 0 else 1 : Int32) = 0 then 0 else 1) else (if k = 2 then (g (17 + (ix y))) else (if (if (g (17 + (ix y))) < 0 then 0 else 1 : Int32) = 0 then (-6) else (f_X3_dueOf g (ix y))))) : Int32))))
set_option maxHeartbeats 4000000 in
set_option maxRecDepth 100000 in
theorem k_X3_thing (l : Launch) (E : EE) (a : Nat → Nat) (g im kp : Nat → Int32) (y : Int32) (k : Int32) (hB : PB g) : Ci l E yX3_thing wsX3_thing { frames := 2, cells := 0, slots := 0, locals := 47 } [.ref (a 0), .int y, .int k] (ms E a g im kp) (f_X3_thing g y k) (ms E a g im kp) := by
  refine Ci.of (cc := cX3_thing) (maxL := 7) (rt := .int) (by decide) rfl rfl (Nat.le_of_ble_eq_true rfl) ?_
  intro p e s m args below meth c A Q F hE hA hret hP hD ls hl
  obtain ⟨hx, hb, hml, hown, hts⟩ := id F
  have hS : va_S A s.heap s.heap [] := va_S.rf
  have hl : lv_has ls 7 [(0, .ref (a 0)), (1, .int y), (2, .int k)] := hl
  have in3 : ∀ w ∈ wsX30, w ∈ wsX3_thing := fun w h => List.mem_cons_of_mem _ (List.mem_append_right _ h)
  have K7 := hts (.fieldLink RX3 7 "PromiseHoursModel" "state" "[I") (by decide +kernel)
  refine lv_iload_n hx hb dX3_thing_0 rfl (lv_at hl 1 rfl) ?_
  refine ci_S F hE (k_X3_isThing l E y) (va_cwS 1 hts gX3_thing_X3_isThing rfl rfl rfl (by decide +kernel) ⟨Nat.le_of_ble_eq_true rfl, Nat.le_of_ble_eq_true rfl⟩) Fr.nil hP hD hS hA rfl hl.1 rfl (Nat.le_of_ble_eq_true rfl) dX3_thing_1 ⟨Nat.zero_le _, Nat.zero_le _⟩ (fun H locs hP hD hS => ?_)
  refine lv_if_ne (tgt := 9) hx hb dX3_thing_4 (by decide) (fun c_1 => ?_) (fun c_1 => ?_)
  · obtain ⟨b_y, e_y⟩ := in_ix (n := 11) c_1 (by decide) (by decide)
    refine lv_iload_n hx hb dX3_thing_9 rfl (lv_at hl 2 rfl) ?_
    refine lv_iconst (v := 0) hx hb dX3_thing_10 (by decide) ?_
    refine lv_bipush (v := 6) hx hb dX3_thing_11 (by decide) ?_
    refine ci_S F hE (k_X3_in l E k 0 6) (va_cwS 3 hts gX3_thing_X3_in rfl rfl rfl (by decide +kernel) ⟨Nat.le_of_ble_eq_true rfl, Nat.le_of_ble_eq_true rfl⟩) Fr.nil hP hD hS hA rfl hl.1 rfl (Nat.le_of_ble_eq_true rfl) dX3_thing_13 ⟨Nat.zero_le _, Nat.zero_le _⟩ (fun H locs hP hD hS => ?_)
    refine lv_if_ne (tgt := 22) hx hb dX3_thing_16 (by decide) (fun c_2 => ?_) (fun c_2 => ?_)
    · refine lv_aload_n hx hb dX3_thing_22 rfl (lv_at hl 0 rfl) ?_
      refine va_get (D := E.1) (ci := 3) (v := .ref (a 1)) (C := RX3) (T := TX3) (N := 3) hx hb hts in3 hown hE.1 hP 0 rfl rfl 0 (by decide) K7 (fun _ h9 => h9) rfl dX3_thing_23 ?_
      refine lv_bipush (v := 17) hx hb dX3_thing_26 (by decide) ?_
      refine lv_iload_n hx hb dX3_thing_28 rfl (lv_at hl 1 rfl) ?_
      refine tpe e_y ?_
      refine lv_iadd hx hb dX3_thing_29 ?_
      refine tpe (y := nI (17 + (ix y))) (nI_add 17 (ix y)) ?_
      refine q_iald hx hb hE hP 1 rfl (j := (17 + (ix y))) (v := (g (17 + (ix y)))) rfl (by omega) (by decide) rfl dX3_thing_30 ?_
      have J_39_3 : ∀ (w : Int32) (H : Heap) (locs : List Loc), va_P E.1 vwCl (ms E a g im kp) H → va_D A (ms E a g im kp) → va_S A s.heap H locs → w = (if (g (17 + (ix y))) < 0 then 0 else 1 : Int32) → W p l e { frames := 2, cells := 0, slots := 0, locals := 47 } s m args below meth c H locs 0 0 Q (F0 m 39 ls [.int w]) := by
        intro w H locs hP hD hS ew
        subst ew
        refine lv_istore_n (lv' := [(3, .int (if (g (17 + (ix y))) < 0 then 0 else 1 : Int32)), (0, .ref (a 0)), (1, .int y), (2, .int k)]) hx hb dX3_thing_39 rfl hl (by decide) rfl (fun ls hl => ?_)
        refine lv_iload_n hx hb dX3_thing_40 rfl (lv_at hl 3 rfl) ?_
        refine lv_iconst (v := 4) hx hb dX3_thing_41 (by decide) ?_
        refine lv_icmp_ge (tgt := 109) hx hb dX3_thing_42 (by decide) (fun c_5 => ?_) (fun c_5 => ?_)
        · refine lv_iconst (v := 0) hx hb dX3_thing_109 (by decide) ?_
          refine lv_istore (lv' := [(4, .int 0), (3, .int (if (g (17 + (ix y))) < 0 then 0 else 1 : Int32)), (0, .ref (a 0)), (1, .int y), (2, .int k)]) hx hb dX3_thing_110 hl (by decide) rfl (fun ls hl => ?_)
          refine lv_iconst (v := 0) hx hb dX3_thing_112 (by decide) ?_
          refine lv_istore (lv' := [(5, .int 0), (4, .int 0), (3, .int (if (g (17 + (ix y))) < 0 then 0 else 1 : Int32)), (0, .ref (a 0)), (1, .int y), (2, .int k)]) hx hb dX3_thing_113 hl (by decide) rfl (fun ls hl => ?_)
          have lp115 : ∀ (fu i : Nat), i ≤ 5 → 5 + 1 ≤ i + fu → ∀ (S115 : Int32), S115 = (q_X3_thing_115 g y k 0 i) → ∀ (H : Heap) (locs : List Loc), va_P E.1 vwCl (ms E a g im kp) H → va_D A (ms E a g im kp) → va_S A s.heap H locs → ∀ ls : Array Slot, lv_has ls 7 [(0, .ref (a 0)), (1, .int y), (2, .int k), (3, .int (if (g (17 + (ix y))) < 0 then 0 else 1 : Int32)), (4, .int S115), (5, .int (nI i))] → W p l e { frames := 2, cells := 0, slots := 0, locals := 47 } s m args below meth c H locs 0 0 Q (F0 m 115 ls []) := by
            intro fu
            induction fu with
            | zero => intro i h1 h2; exact absurd h2 (by omega)
            | succ fu ih =>
              intro i hi hin S115 eS115 H locs hP hD hS ls hl
              refine lv_iload hx hb dX3_thing_115 (lv_at hl 5 rfl) ?_
              refine lv_iconst (v := 5) hx hb dX3_thing_117 (by decide) ?_
              refine lv_icmp_ge (tgt := 198) hx hb dX3_thing_118 (by decide) (fun c_6 => ?_) (fun c_6 => ?_)
              · have hiN : i = 5 := by have := (nI_leI (a := 5) (b := i) (by omega) (by omega)).mp c_6; omega
                rw [hiN] at eS115 hl
                refine lv_iload hx hb dX3_thing_198 (lv_at hl 4 rfl) ?_
                exact hret _ _ _ _ _ hP hD hS (by unfold f_X3_thing; (try rw [← eS115]); rw [if_neg c_1, if_neg c_2, if_pos c_5]) dX3_thing_200
              · have hlt : i < 5 := Nat.lt_of_not_le (fun h => c_6 (nI_le (a := 5) (b := i) (by omega) (by omega)))
                refine lv_iload_n hx hb dX3_thing_121 rfl (lv_at hl 2 rfl) ?_
                refine lv_iconst (v := 4) hx hb dX3_thing_122 (by decide) ?_
                have J_172_7 : ∀ (w : Int32) (H : Heap) (locs : List Loc), va_P E.1 vwCl (ms E a g im kp) H → va_D A (ms E a g im kp) → va_S A s.heap H locs → w = (if k = 4 then (f_X3_isHolder g i (ix y)) else (if k = 5 then (if (g (82 + 12 * i + (ix y))) < 0 then 0 else 1) else (f_X3_canUse g i (ix y))) : Int32) → W p l e { frames := 2, cells := 0, slots := 0, locals := 47 } s m args below meth c H locs 0 0 Q (F0 m 172 ls [.int w]) := by
                  intro w H locs hP hD hS ew
                  subst ew
                  refine lv_istore (lv' := [(6, .int (if k = 4 then (f_X3_isHolder g i (ix y)) else (if k = 5 then (if (g (82 + 12 * i + (ix y))) < 0 then 0 else 1) else (f_X3_canUse g i (ix y))) : Int32)), (0, .ref (a 0)), (1, .int y), (2, .int k), (3, .int (if (g (17 + (ix y))) < 0 then 0 else 1 : Int32)), (4, .int S115), (5, .int (nI i))]) hx hb dX3_thing_172 hl (by decide) rfl (fun ls hl => ?_)
                  refine lv_iload hx hb dX3_thing_174 (lv_at hl 5 rfl) ?_
                  refine lv_iload hx hb dX3_thing_176 (lv_at hl 0 rfl) ?_
                  have J_189_11 : ∀ (w : Int32) (H : Heap) (locs : List Loc), va_P E.1 vwCl (ms E a g im kp) H → va_D A (ms E a g im kp) → va_S A s.heap H locs → w = (if (if k = 4 then (f_X3_isHolder g i (ix y)) else (if k = 5 then (if (g (82 + 12 * i + (ix y))) < 0 then 0 else 1) else (f_X3_canUse g i (ix y))) : Int32) = 0 then 0 else (1 <<< ((nI i) &&& 31)) : Int32) → W p l e { frames := 2, cells := 0, slots := 0, locals := 47 } s m args below meth c H locs 0 0 Q (F0 m 189 ls [.int w, .int S115]) := by
                    intro w H locs hP hD hS ew
                    subst ew
                    refine lv_ior hx hb dX3_thing_189 ?_
                    refine lv_istore (lv' := [(4, .int (S115 ||| (if (if k = 4 then (f_X3_isHolder g i (ix y)) else (if k = 5 then (if (g (82 + 12 * i + (ix y))) < 0 then 0 else 1) else (f_X3_canUse g i (ix y))) : Int32) = 0 then 0 else (1 <<< ((nI i) &&& 31)) : Int32))), (6, .int (if k = 4 then (f_X3_isHolder g i (ix y)) else (if k = 5 then (if (g (82 + 12 * i + (ix y))) < 0 then 0 else 1) else (f_X3_canUse g i (ix y))) : Int32)), (0, .ref (a 0)), (1, .int y), (2, .int k), (3, .int (if (g (17 + (ix y))) < 0 then 0 else 1 : Int32)), (5, .int (nI i))]) hx hb dX3_thing_190 hl (by decide) rfl (fun ls hl => ?_)
                    refine lv_iinc (v := (nI (i + 1))) (lv' := [(5, .int (nI (i + 1))), (4, .int (S115 ||| (if (if k = 4 then (f_X3_isHolder g i (ix y)) else (if k = 5 then (if (g (82 + 12 * i + (ix y))) < 0 then 0 else 1) else (f_X3_canUse g i (ix y))) : Int32) = 0 then 0 else (1 <<< ((nI i) &&& 31)) : Int32))), (6, .int (if k = 4 then (f_X3_isHolder g i (ix y)) else (if k = 5 then (if (g (82 + 12 * i + (ix y))) < 0 then 0 else 1) else (f_X3_canUse g i (ix y))) : Int32)), (0, .ref (a 0)), (1, .int y), (2, .int k), (3, .int (if (g (17 + (ix y))) < 0 then 0 else 1 : Int32))]) hx hb dX3_thing_192 hl (k := 6) rfl (nI_1 i) (by decide) rfl (fun ls hl => ?_)
                    refine lv_goto (tgt := 115) hx hb dX3_thing_195 (by decide) ?_
                    have eS1 : ((S115 ||| (if (if k = 4 then (f_X3_isHolder g i (ix y)) else (if k = 5 then (if (g (82 + 12 * i + (ix y))) < 0 then 0 else 1) else (f_X3_canUse g i (ix y))) : Int32) = 0 then 0 else (1 <<< ((nI i) &&& 31)) : Int32)) : Int32) = (q_X3_thing_115 g y k 0 (i + 1)) := by
                      show _ = p_X3_thing_115 g y k (q_X3_thing_115 g y k 0 i) i
                      rw [← eS115]
                      rfl
                    exact ih (i + 1) (by omega) (by omega) (S115 ||| (if (if k = 4 then (f_X3_isHolder g i (ix y)) else (if k = 5 then (if (g (82 + 12 * i + (ix y))) < 0 then 0 else 1) else (f_X3_canUse g i (ix y))) : Int32) = 0 then 0 else (1 <<< ((nI i) &&& 31)) : Int32)) eS1 _ _ hP hD hS ls (lv_sub hl [3, 4, 5, 6, 1, 0] rfl)
                  refine lv_if_eq (tgt := 188) hx hb dX3_thing_178 (by decide) (fun c_12 => ?_) (fun c_12 => ?_)
                  · refine lv_iconst (v := 0) hx hb dX3_thing_188 (by decide) ?_
                    exact J_189_11 _ _ _ hP hD hS (by rw [if_pos c_12])
                  · refine lv_iconst (v := 1) hx hb dX3_thing_181 (by decide) ?_
                    refine lv_iload hx hb dX3_thing_182 (lv_at hl 6 rfl) ?_
                    refine lv_ishl hx hb dX3_thing_184 ?_
                    refine lv_goto (tgt := 189) hx hb dX3_thing_185 (by decide) ?_
                    exact J_189_11 _ _ _ hP hD hS (by rw [if_neg c_12])
                refine lv_icmp_ne (tgt := 136) hx hb dX3_thing_123 (by decide) (fun c_8 => ?_) (fun c_8 => ?_)
                · refine lv_iload_n hx hb dX3_thing_136 rfl (lv_at hl 2 rfl) ?_
                  refine lv_iconst (v := 5) hx hb dX3_thing_137 (by decide) ?_
                  refine lv_icmp_ne (tgt := 165) hx hb dX3_thing_138 (by decide) (fun c_9 => ?_) (fun c_9 => ?_)
                  · refine lv_aload_n hx hb dX3_thing_165 rfl (lv_at hl 0 rfl) ?_
                    refine lv_iload hx hb dX3_thing_166 (lv_at hl 5 rfl) ?_
                    refine lv_iload_n hx hb dX3_thing_168 rfl (lv_at hl 1 rfl) ?_
                    refine tpe e_y ?_
                    refine ci_V F hE (k_X3_canUse l E a g im kp i (ix y) (by omega) (by omega)) (cwV 2 hts gX3_thing_X3_canUse rfl rfl rfl (by decide +kernel) ⟨Nat.le_of_ble_eq_true rfl, Nat.le_of_ble_eq_true rfl⟩) Fr.all 0 3 rfl rfl rfl hP hD hS hA rfl hl.1 rfl (Nat.le_of_ble_eq_true rfl) dX3_thing_169 ⟨Nat.zero_le _, Nat.zero_le _⟩ (fun H locs hP hD hS => ?_)
                    exact J_172_7 _ _ _ hP hD hS (by rw [if_neg c_8, if_neg c_9])
                  · refine lv_aload_n hx hb dX3_thing_141 rfl (lv_at hl 0 rfl) ?_
                    refine va_get (D := E.1) (ci := 3) (v := .ref (a 1)) (C := RX3) (T := TX3) (N := 3) hx hb hts in3 hown hE.1 hP 0 rfl rfl 0 (by decide) K7 (fun _ h9 => h9) rfl dX3_thing_142 ?_
                    refine lv_bipush (v := 82) hx hb dX3_thing_145 (by decide) ?_
                    refine lv_iload hx hb dX3_thing_147 (lv_at hl 5 rfl) ?_
                    refine lv_iload_n hx hb dX3_thing_149 rfl (lv_at hl 1 rfl) ?_
                    refine tpe e_y ?_
                    refine ci_S F hE (k_X3_thingAt l E 82 i (ix y)) (va_cwS 3 hts gX3_thing_X3_thingAt rfl rfl rfl (by decide +kernel) ⟨Nat.le_of_ble_eq_true rfl, Nat.le_of_ble_eq_true rfl⟩) Fr.nil hP hD hS hA rfl hl.1 rfl (Nat.le_of_ble_eq_true rfl) dX3_thing_150 ⟨Nat.zero_le _, Nat.zero_le _⟩ (fun H locs hP hD hS => ?_)
                    refine q_iald hx hb hE hP 1 rfl (j := (82 + 12 * i + (ix y))) (v := (g (82 + 12 * i + (ix y)))) rfl (by omega) (by decide) rfl dX3_thing_153 ?_
                    refine lv_if_lt (tgt := 161) hx hb dX3_thing_154 (by decide) (fun c_10 => ?_) (fun c_10 => ?_)
                    · refine lv_iconst (v := 0) hx hb dX3_thing_161 (by decide) ?_
                      refine lv_goto (tgt := 172) hx hb dX3_thing_162 (by decide) ?_
                      exact J_172_7 _ _ _ hP hD hS (by rw [if_neg c_8, if_pos c_9, if_pos c_10])
                    · refine lv_iconst (v := 1) hx hb dX3_thing_157 (by decide) ?_
                      refine lv_goto (tgt := 172) hx hb dX3_thing_158 (by decide) ?_
                      exact J_172_7 _ _ _ hP hD hS (by rw [if_neg c_8, if_pos c_9, if_neg c_10])
                · refine lv_aload_n hx hb dX3_thing_126 rfl (lv_at hl 0 rfl) ?_
                  refine lv_iload hx hb dX3_thing_127 (lv_at hl 5 rfl) ?_
                  refine lv_iload_n hx hb dX3_thing_129 rfl (lv_at hl 1 rfl) ?_
                  refine tpe e_y ?_
                  refine ci_V F hE (k_X3_isHolder l E a g im kp i (ix y) (by omega) (by omega)) (cwV 2 hts gX3_thing_X3_isHolder rfl rfl rfl (by decide +kernel) ⟨Nat.le_of_ble_eq_true rfl, Nat.le_of_ble_eq_true rfl⟩) Fr.all 0 3 rfl rfl rfl hP hD hS hA rfl hl.1 rfl (Nat.le_of_ble_eq_true rfl) dX3_thing_130 ⟨Nat.zero_le _, Nat.zero_le _⟩ (fun H locs hP hD hS => ?_)
                  refine lv_goto (tgt := 172) hx hb dX3_thing_133 (by decide) ?_
                  exact J_172_7 _ _ _ hP hD hS (by rw [if_pos c_8])
          exact lp115 (5 + 1) 0 (Nat.zero_le _) (by omega) 0 rfl _ _ hP hD hS ls (lv_sub hl [3, 4, 5, 2, 1, 0] rfl)
        · refine lv_iload_n hx hb dX3_thing_45 rfl (lv_at hl 3 rfl) ?_
          have J_108_13 : ∀ (w : Int32) (H : Heap) (locs : List Loc), va_P E.1 vwCl (ms E a g im kp) H → va_D A (ms E a g im kp) → va_S A s.heap H locs → w = (if k = 0 then (g (5 + (ix y))) else (if k = 1 then (if (if (g (17 + (ix y))) < 0 then 0 else 1 : Int32) = 0 then 0 else 1) else (if k = 2 then (g (17 + (ix y))) else (if (if (g (17 + (ix y))) < 0 then 0 else 1 : Int32) = 0 then (-6) else (f_X3_dueOf g (ix y))))) : Int32) → W p l e { frames := 2, cells := 0, slots := 0, locals := 47 } s m args below meth c H locs 0 0 Q (F0 m 108 ls [.int w]) := by
            intro w H locs hP hD hS ew
            subst ew
            exact hret _ _ _ _ _ hP hD hS (by unfold f_X3_thing; rw [if_neg c_1, if_neg c_2, if_neg c_5]) dX3_thing_108
          refine lv_if_ne (tgt := 60) hx hb dX3_thing_46 (by decide) (fun c_14 => ?_) (fun c_14 => ?_)
          · refine lv_iload_n hx hb dX3_thing_60 rfl (lv_at hl 3 rfl) ?_
            refine lv_iconst (v := 1) hx hb dX3_thing_61 (by decide) ?_
            refine lv_icmp_ne (tgt := 77) hx hb dX3_thing_62 (by decide) (fun c_15 => ?_) (fun c_15 => ?_)
            · refine lv_iload_n hx hb dX3_thing_77 rfl (lv_at hl 3 rfl) ?_
              refine lv_iconst (v := 2) hx hb dX3_thing_78 (by decide) ?_
              refine lv_icmp_ne (tgt := 94) hx hb dX3_thing_79 (by decide) (fun c_16 => ?_) (fun c_16 => ?_)
              · refine lv_iload_n hx hb dX3_thing_94 rfl (lv_at hl 0 rfl) ?_
                refine lv_if_eq (tgt := 106) hx hb dX3_thing_95 (by decide) (fun c_17 => ?_) (fun c_17 => ?_)
                · refine lv_bipush (v := -6) hx hb dX3_thing_106 (by decide) ?_
                  exact J_108_13 _ _ _ hP hD hS (by rw [if_neg c_14, if_neg c_15, if_neg c_16, if_pos c_17])
                · refine lv_aload_n hx hb dX3_thing_98 rfl (lv_at hl 1 rfl) ?_
                  refine lv_iload_n hx hb dX3_thing_99 rfl (lv_at hl 2 rfl) ?_
                  refine tpe e_y ?_
                  refine ci_V F hE (k_X3_dueOf l E a g im kp (ix y) (by omega) (due_hz hB b_y)) (cwV 1 hts gX3_thing_X3_dueOf rfl rfl rfl (by decide +kernel) ⟨Nat.le_of_ble_eq_true rfl, Nat.le_of_ble_eq_true rfl⟩) Fr.all 0 3 rfl rfl rfl hP hD hS hA rfl hl.1 rfl (Nat.le_of_ble_eq_true rfl) dX3_thing_100 ⟨Nat.zero_le _, Nat.zero_le _⟩ (fun H locs hP hD hS => ?_)
                  refine lv_goto (tgt := 108) hx hb dX3_thing_103 (by decide) ?_
                  exact J_108_13 _ _ _ hP hD hS (by rw [if_neg c_14, if_neg c_15, if_neg c_16, if_neg c_17])
              · refine lv_aload_n hx hb dX3_thing_82 rfl (lv_at hl 1 rfl) ?_
                refine va_get (D := E.1) (ci := 3) (v := .ref (a 1)) (C := RX3) (T := TX3) (N := 3) hx hb hts in3 hown hE.1 hP 0 rfl rfl 0 (by decide) K7 (fun _ h9 => h9) rfl dX3_thing_83 ?_
                refine lv_bipush (v := 17) hx hb dX3_thing_86 (by decide) ?_
                refine lv_iload_n hx hb dX3_thing_88 rfl (lv_at hl 2 rfl) ?_
                refine tpe e_y ?_
                refine lv_iadd hx hb dX3_thing_89 ?_
                refine tpe (y := nI (17 + (ix y))) (nI_add 17 (ix y)) ?_
                refine q_iald hx hb hE hP 1 rfl (j := (17 + (ix y))) (v := (g (17 + (ix y)))) rfl (by omega) (by decide) rfl dX3_thing_90 ?_
                refine lv_goto (tgt := 108) hx hb dX3_thing_91 (by decide) ?_
                exact J_108_13 _ _ _ hP hD hS (by rw [if_neg c_14, if_neg c_15, if_pos c_16])
            · refine lv_iload_n hx hb dX3_thing_65 rfl (lv_at hl 0 rfl) ?_
              refine lv_if_eq (tgt := 73) hx hb dX3_thing_66 (by decide) (fun c_18 => ?_) (fun c_18 => ?_)
              · refine lv_iconst (v := 0) hx hb dX3_thing_73 (by decide) ?_
                refine lv_goto (tgt := 108) hx hb dX3_thing_74 (by decide) ?_
                exact J_108_13 _ _ _ hP hD hS (by rw [if_neg c_14, if_pos c_15, if_pos c_18])
              · refine lv_iconst (v := 1) hx hb dX3_thing_69 (by decide) ?_
                refine lv_goto (tgt := 108) hx hb dX3_thing_70 (by decide) ?_
                exact J_108_13 _ _ _ hP hD hS (by rw [if_neg c_14, if_pos c_15, if_neg c_18])
          · refine lv_aload_n hx hb dX3_thing_49 rfl (lv_at hl 1 rfl) ?_
            refine va_get (D := E.1) (ci := 3) (v := .ref (a 1)) (C := RX3) (T := TX3) (N := 3) hx hb hts in3 hown hE.1 hP 0 rfl rfl 0 (by decide) K7 (fun _ h9 => h9) rfl dX3_thing_50 ?_
            refine lv_iconst (v := 5) hx hb dX3_thing_53 (by decide) ?_
            refine lv_iload_n hx hb dX3_thing_54 rfl (lv_at hl 2 rfl) ?_
            refine tpe e_y ?_
            refine lv_iadd hx hb dX3_thing_55 ?_
            refine tpe (y := nI (5 + (ix y))) (nI_add 5 (ix y)) ?_
            refine q_iald hx hb hE hP 1 rfl (j := (5 + (ix y))) (v := (g (5 + (ix y)))) rfl (by omega) (by decide) rfl dX3_thing_56 ?_
            refine lv_goto (tgt := 108) hx hb dX3_thing_57 (by decide) ?_
            exact J_108_13 _ _ _ hP hD hS (by rw [if_pos c_14])
      refine lv_if_lt (tgt := 38) hx hb dX3_thing_31 (by decide) (fun c_4 => ?_) (fun c_4 => ?_)
      · refine lv_iconst (v := 0) hx hb dX3_thing_38 (by decide) ?_
        exact J_39_3 _ _ _ hP hD hS (by rw [if_pos c_4])
      · refine lv_iconst (v := 1) hx hb dX3_thing_34 (by decide) ?_
        refine lv_goto (tgt := 39) hx hb dX3_thing_35 (by decide) ?_
        exact J_39_3 _ _ _ hP hD hS (by rw [if_neg c_4])
    · refine lv_bipush (v := -2) hx hb dX3_thing_19 (by decide) ?_
      exact hret _ _ _ _ _ hP hD hS (by unfold f_X3_thing; rw [if_neg c_1, if_pos c_2]) dX3_thing_21
  · refine lv_iconst (v := -1) hx hb dX3_thing_7 (by decide) ?_
    exact hret _ _ _ _ _ hP hD hS (by unfold f_X3_thing; rw [if_pos c_1]) dX3_thing_8
end
