section
-- ===== PART A: goes FIRST, ahead of the names: the tables' words, and 'selects' of the private methods out of them =====
/-- a private method of a class that the tables say can be made, by its rows of tables_1 -/
def lw_okq (q : MethodName × Nat) : Prop := (q.1.cls ≠ "java/lang/invoke/MethodHandle" ∧ q.1.cls ≠ "java/lang/invoke/VarHandle") ∧ Cond.instantiable q.1.cls q.2 ∈ tables_1 ∧ Cond.privateMethod q.1 ∈ tables_1 ∧ Cond.instanceMethod q.1 ∈ tables_1
theorem lw_p0 : lw_okq (⟨"SharedPage", "copyAt", "(II)LSharedPage$Copy;"⟩, 7) := ⟨⟨by decide +kernel, by decide +kernel⟩, List.mem_of_getElem? (i := 8) (by decide +kernel), List.mem_of_getElem? (i := 165) (by decide +kernel), List.mem_of_getElem? (i := 166) (by decide +kernel)⟩
theorem lw_p1 : lw_okq (⟨"SharedPage$Text", "addMessage", "(III)I"⟩, 13) := ⟨⟨by decide +kernel, by decide +kernel⟩, List.mem_of_getElem? (i := 19) (by decide +kernel), List.mem_of_getElem? (i := 198) (by decide +kernel), List.mem_of_getElem? (i := 199) (by decide +kernel)⟩
theorem lw_p2 : lw_okq (⟨"SharedPage$Copy", "carryOut", "(I)V"⟩, 12) := ⟨⟨by decide +kernel, by decide +kernel⟩, List.mem_of_getElem? (i := 69) (by decide +kernel), List.mem_of_getElem? (i := 214) (by decide +kernel), List.mem_of_getElem? (i := 215) (by decide +kernel)⟩
theorem lw_p3 : lw_okq (⟨"SharedPage$Copy", "setState", "(II)V"⟩, 12) := ⟨⟨by decide +kernel, by decide +kernel⟩, List.mem_of_getElem? (i := 69) (by decide +kernel), List.mem_of_getElem? (i := 223) (by decide +kernel), List.mem_of_getElem? (i := 224) (by decide +kernel)⟩
theorem lw_p4 : lw_okq (⟨"SharedPage$Copy", "strike", "(I)V"⟩, 12) := ⟨⟨by decide +kernel, by decide +kernel⟩, List.mem_of_getElem? (i := 69) (by decide +kernel), List.mem_of_getElem? (i := 231) (by decide +kernel), List.mem_of_getElem? (i := 232) (by decide +kernel)⟩
theorem lw_p5 : lw_okq (⟨"SharedPage$Copy", "wootPlace", "(I)I"⟩, 12) := ⟨⟨by decide +kernel, by decide +kernel⟩, List.mem_of_getElem? (i := 69) (by decide +kernel), List.mem_of_getElem? (i := 235) (by decide +kernel), List.mem_of_getElem? (i := 236) (by decide +kernel)⟩
theorem lw_p6 : lw_okq (⟨"SharedPage$Text", "hasCharacter", "(I)Z"⟩, 13) := ⟨⟨by decide +kernel, by decide +kernel⟩, List.mem_of_getElem? (i := 19) (by decide +kernel), List.mem_of_getElem? (i := 243) (by decide +kernel), List.mem_of_getElem? (i := 244) (by decide +kernel)⟩
theorem lw_p7 : lw_okq (⟨"SharedPage$Copy", "spans", "(III)Z"⟩, 12) := ⟨⟨by decide +kernel, by decide +kernel⟩, List.mem_of_getElem? (i := 69) (by decide +kernel), List.mem_of_getElem? (i := 255) (by decide +kernel), List.mem_of_getElem? (i := 256) (by decide +kernel)⟩
theorem lw_p8 : lw_okq (⟨"SharedPage$Copy", "yataPlace", "(I)I"⟩, 12) := ⟨⟨by decide +kernel, by decide +kernel⟩, List.mem_of_getElem? (i := 69) (by decide +kernel), List.mem_of_getElem? (i := 259) (by decide +kernel), List.mem_of_getElem? (i := 260) (by decide +kernel)⟩
theorem lw_p9 : lw_okq (⟨"SharedPage$Copy", "putAt", "(II)V"⟩, 12) := ⟨⟨by decide +kernel, by decide +kernel⟩, List.mem_of_getElem? (i := 69) (by decide +kernel), List.mem_of_getElem? (i := 267) (by decide +kernel), List.mem_of_getElem? (i := 268) (by decide +kernel)⟩
theorem lw_p10 : lw_okq (⟨"SharedPage$Copy", "setPlace", "(II)V"⟩, 12) := ⟨⟨by decide +kernel, by decide +kernel⟩, List.mem_of_getElem? (i := 69) (by decide +kernel), List.mem_of_getElem? (i := 271) (by decide +kernel), List.mem_of_getElem? (i := 272) (by decide +kernel)⟩
theorem lw_p11 : lw_okq (⟨"SharedPage$Copy", "canBeDone", "(I)Z"⟩, 12) := ⟨⟨by decide +kernel, by decide +kernel⟩, List.mem_of_getElem? (i := 69) (by decide +kernel), List.mem_of_getElem? (i := 302) (by decide +kernel), List.mem_of_getElem? (i := 303) (by decide +kernel)⟩
theorem lw_p12 : lw_okq (⟨"SharedPage$Copy", "leastReady", "()I"⟩, 12) := ⟨⟨by decide +kernel, by decide +kernel⟩, List.mem_of_getElem? (i := 69) (by decide +kernel), List.mem_of_getElem? (i := 306) (by decide +kernel), List.mem_of_getElem? (i := 307) (by decide +kernel)⟩
theorem lw_p13 : lw_okq (⟨"SharedPage", "textAt", "(I)LSharedPage$Text;"⟩, 7) := ⟨⟨by decide +kernel, by decide +kernel⟩, List.mem_of_getElem? (i := 8) (by decide +kernel), List.mem_of_getElem? (i := 324) (by decide +kernel), List.mem_of_getElem? (i := 325) (by decide +kernel)⟩
theorem lw_p14 : lw_okq (⟨"SharedPage", "spareOf", "(I)LSharedPage$Copy;"⟩, 7) := ⟨⟨by decide +kernel, by decide +kernel⟩, List.mem_of_getElem? (i := 8) (by decide +kernel), List.mem_of_getElem? (i := 372) (by decide +kernel), List.mem_of_getElem? (i := 373) (by decide +kernel)⟩
theorem lw_p15 : lw_okq (⟨"SharedPage", "listDone", "(LSharedPage$Copy;)I"⟩, 7) := ⟨⟨by decide +kernel, by decide +kernel⟩, List.mem_of_getElem? (i := 8) (by decide +kernel), List.mem_of_getElem? (i := 377) (by decide +kernel), List.mem_of_getElem? (i := 378) (by decide +kernel)⟩
def lw_privs_1 : List (MethodName × Nat) := [(⟨"SharedPage", "copyAt", "(II)LSharedPage$Copy;"⟩, 7), (⟨"SharedPage$Text", "addMessage", "(III)I"⟩, 13), (⟨"SharedPage$Copy", "carryOut", "(I)V"⟩, 12), (⟨"SharedPage$Copy", "setState", "(II)V"⟩, 12), (⟨"SharedPage$Copy", "strike", "(I)V"⟩, 12), (⟨"SharedPage$Copy", "wootPlace", "(I)I"⟩, 12), (⟨"SharedPage$Text", "hasCharacter", "(I)Z"⟩, 13), (⟨"SharedPage$Copy", "spans", "(III)Z"⟩, 12), (⟨"SharedPage$Copy", "yataPlace", "(I)I"⟩, 12), (⟨"SharedPage$Copy", "putAt", "(II)V"⟩, 12), (⟨"SharedPage$Copy", "setPlace", "(II)V"⟩, 12), (⟨"SharedPage$Copy", "canBeDone", "(I)Z"⟩, 12), (⟨"SharedPage$Copy", "leastReady", "()I"⟩, 12), (⟨"SharedPage", "textAt", "(I)LSharedPage$Text;"⟩, 7), (⟨"SharedPage", "spareOf", "(I)LSharedPage$Copy;"⟩, 7), (⟨"SharedPage", "listDone", "(LSharedPage$Copy;)I"⟩, 7)]
theorem lw_r1 : ∀ q ∈ lw_privs_1, lw_okq q := List.forall_mem_cons.mpr ⟨lw_p0, List.forall_mem_cons.mpr ⟨lw_p1, List.forall_mem_cons.mpr ⟨lw_p2, List.forall_mem_cons.mpr ⟨lw_p3, List.forall_mem_cons.mpr ⟨lw_p4, List.forall_mem_cons.mpr ⟨lw_p5, List.forall_mem_cons.mpr ⟨lw_p6, List.forall_mem_cons.mpr ⟨lw_p7, List.forall_mem_cons.mpr ⟨lw_p8, List.forall_mem_cons.mpr ⟨lw_p9, List.forall_mem_cons.mpr ⟨lw_p10, List.forall_mem_cons.mpr ⟨lw_p11, List.forall_mem_cons.mpr ⟨lw_p12, List.forall_mem_cons.mpr ⟨lw_p13, List.forall_mem_cons.mpr ⟨lw_p14, List.forall_mem_cons.mpr ⟨lw_p15, fun _ h => absurd h List.not_mem_nil⟩⟩⟩⟩⟩⟩⟩⟩⟩⟩⟩⟩⟩⟩⟩⟩
theorem lw_p16 : lw_okq (⟨"SharedPage", "takeDrawn", "(II)I"⟩, 7) := ⟨⟨by decide +kernel, by decide +kernel⟩, List.mem_of_getElem? (i := 8) (by decide +kernel), List.mem_of_getElem? (i := 382) (by decide +kernel), List.mem_of_getElem? (i := 383) (by decide +kernel)⟩
theorem lw_p17 : lw_okq (⟨"SharedPage$FreeOrders", "weigh", "(LSharedPage$Copy;)V"⟩, 2) := ⟨⟨by decide +kernel, by decide +kernel⟩, List.mem_of_getElem? (i := 125) (by decide +kernel), List.mem_of_getElem? (i := 395) (by decide +kernel), List.mem_of_getElem? (i := 396) (by decide +kernel)⟩
theorem lw_p18 : lw_okq (⟨"SharedPage$FreeOrders", "listFollowers", "(LSharedPage$Copy;I)V"⟩, 2) := ⟨⟨by decide +kernel, by decide +kernel⟩, List.mem_of_getElem? (i := 125) (by decide +kernel), List.mem_of_getElem? (i := 402) (by decide +kernel), List.mem_of_getElem? (i := 403) (by decide +kernel)⟩
theorem lw_p19 : lw_okq (⟨"SharedPage$FreeOrders", "addFollower", "(III)V"⟩, 2) := ⟨⟨by decide +kernel, by decide +kernel⟩, List.mem_of_getElem? (i := 125) (by decide +kernel), List.mem_of_getElem? (i := 409) (by decide +kernel), List.mem_of_getElem? (i := 410) (by decide +kernel)⟩
theorem lw_p20 : lw_okq (⟨"SharedPage$FreeOrders", "waysFrom", "(I)J"⟩, 2) := ⟨⟨by decide +kernel, by decide +kernel⟩, List.mem_of_getElem? (i := 125) (by decide +kernel), List.mem_of_getElem? (i := 414) (by decide +kernel), List.mem_of_getElem? (i := 415) (by decide +kernel)⟩
theorem lw_p21 : lw_okq (⟨"SharedPage$FreeOrders", "handOn", "(II)V"⟩, 2) := ⟨⟨by decide +kernel, by decide +kernel⟩, List.mem_of_getElem? (i := 125) (by decide +kernel), List.mem_of_getElem? (i := 418) (by decide +kernel), List.mem_of_getElem? (i := 419) (by decide +kernel)⟩
theorem lw_p22 : lw_okq (⟨"SharedPageModel", "isText", "(I)Z"⟩, 29) := ⟨⟨by decide +kernel, by decide +kernel⟩, List.mem_of_getElem? (i := 431) (by decide +kernel), List.mem_of_getElem? (i := 529) (by decide +kernel), List.mem_of_getElem? (i := 530) (by decide +kernel)⟩
theorem lw_p23 : lw_okq (⟨"SharedPageModel", "isSite", "(I)Z"⟩, 29) := ⟨⟨by decide +kernel, by decide +kernel⟩, List.mem_of_getElem? (i := 431) (by decide +kernel), List.mem_of_getElem? (i := 533) (by decide +kernel), List.mem_of_getElem? (i := 534) (by decide +kernel)⟩
theorem lw_p24 : lw_okq (⟨"SharedPageModel", "allSeen", "(I)I"⟩, 29) := ⟨⟨by decide +kernel, by decide +kernel⟩, List.mem_of_getElem? (i := 431) (by decide +kernel), List.mem_of_getElem? (i := 537) (by decide +kernel), List.mem_of_getElem? (i := 538) (by decide +kernel)⟩
theorem lw_p25 : lw_okq (⟨"SharedPageModel", "seen", "(II)I"⟩, 29) := ⟨⟨by decide +kernel, by decide +kernel⟩, List.mem_of_getElem? (i := 431) (by decide +kernel), List.mem_of_getElem? (i := 541) (by decide +kernel), List.mem_of_getElem? (i := 542) (by decide +kernel)⟩
theorem lw_p26 : lw_okq (⟨"SharedPageModel", "message", "(IIIZ)I"⟩, 29) := ⟨⟨by decide +kernel, by decide +kernel⟩, List.mem_of_getElem? (i := 431) (by decide +kernel), List.mem_of_getElem? (i := 545) (by decide +kernel), List.mem_of_getElem? (i := 546) (by decide +kernel)⟩
theorem lw_p27 : lw_okq (⟨"SharedPageModel", "begins", "()V"⟩, 29) := ⟨⟨by decide +kernel, by decide +kernel⟩, List.mem_of_getElem? (i := 431) (by decide +kernel), List.mem_of_getElem? (i := 549) (by decide +kernel), List.mem_of_getElem? (i := 550) (by decide +kernel)⟩
theorem lw_p28 : lw_okq (⟨"SharedPageModel", "hears", "(III)I"⟩, 29) := ⟨⟨by decide +kernel, by decide +kernel⟩, List.mem_of_getElem? (i := 431) (by decide +kernel), List.mem_of_getElem? (i := 553) (by decide +kernel), List.mem_of_getElem? (i := 554) (by decide +kernel)⟩
theorem lw_p29 : lw_okq (⟨"SharedPageModel", "can", "(III)Z"⟩, 29) := ⟨⟨by decide +kernel, by decide +kernel⟩, List.mem_of_getElem? (i := 431) (by decide +kernel), List.mem_of_getElem? (i := 557) (by decide +kernel), List.mem_of_getElem? (i := 558) (by decide +kernel)⟩
theorem lw_p30 : lw_okq (⟨"SharedPageModel", "isThere", "(II)Z"⟩, 29) := ⟨⟨by decide +kernel, by decide +kernel⟩, List.mem_of_getElem? (i := 431) (by decide +kernel), List.mem_of_getElem? (i := 561) (by decide +kernel), List.mem_of_getElem? (i := 562) (by decide +kernel)⟩
theorem lw_p31 : lw_okq (⟨"SharedPageModel", "does", "(III)V"⟩, 29) := ⟨⟨by decide +kernel, by decide +kernel⟩, List.mem_of_getElem? (i := 431) (by decide +kernel), List.mem_of_getElem? (i := 565) (by decide +kernel), List.mem_of_getElem? (i := 566) (by decide +kernel)⟩
def lw_privs_2 : List (MethodName × Nat) := [(⟨"SharedPage", "takeDrawn", "(II)I"⟩, 7), (⟨"SharedPage$FreeOrders", "weigh", "(LSharedPage$Copy;)V"⟩, 2), (⟨"SharedPage$FreeOrders", "listFollowers", "(LSharedPage$Copy;I)V"⟩, 2), (⟨"SharedPage$FreeOrders", "addFollower", "(III)V"⟩, 2), (⟨"SharedPage$FreeOrders", "waysFrom", "(I)J"⟩, 2), (⟨"SharedPage$FreeOrders", "handOn", "(II)V"⟩, 2), (⟨"SharedPageModel", "isText", "(I)Z"⟩, 29), (⟨"SharedPageModel", "isSite", "(I)Z"⟩, 29), (⟨"SharedPageModel", "allSeen", "(I)I"⟩, 29), (⟨"SharedPageModel", "seen", "(II)I"⟩, 29), (⟨"SharedPageModel", "message", "(IIIZ)I"⟩, 29), (⟨"SharedPageModel", "begins", "()V"⟩, 29), (⟨"SharedPageModel", "hears", "(III)I"⟩, 29), (⟨"SharedPageModel", "can", "(III)Z"⟩, 29), (⟨"SharedPageModel", "isThere", "(II)Z"⟩, 29), (⟨"SharedPageModel", "does", "(III)V"⟩, 29)]
theorem lw_r2 : ∀ q ∈ lw_privs_2, lw_okq q := List.forall_mem_cons.mpr ⟨lw_p16, List.forall_mem_cons.mpr ⟨lw_p17, List.forall_mem_cons.mpr ⟨lw_p18, List.forall_mem_cons.mpr ⟨lw_p19, List.forall_mem_cons.mpr ⟨lw_p20, List.forall_mem_cons.mpr ⟨lw_p21, List.forall_mem_cons.mpr ⟨lw_p22, List.forall_mem_cons.mpr ⟨lw_p23, List.forall_mem_cons.mpr ⟨lw_p24, List.forall_mem_cons.mpr ⟨lw_p25, List.forall_mem_cons.mpr ⟨lw_p26, List.forall_mem_cons.mpr ⟨lw_p27, List.forall_mem_cons.mpr ⟨lw_p28, List.forall_mem_cons.mpr ⟨lw_p29, List.forall_mem_cons.mpr ⟨lw_p30, List.forall_mem_cons.mpr ⟨lw_p31, fun _ h => absurd h List.not_mem_nil⟩⟩⟩⟩⟩⟩⟩⟩⟩⟩⟩⟩⟩⟩⟩⟩
theorem lw_p32 : lw_okq (⟨"SharedPageModel", "integrate", "(III)V"⟩, 29) := ⟨⟨by decide +kernel, by decide +kernel⟩, List.mem_of_getElem? (i := 431) (by decide +kernel), List.mem_of_getElem? (i := 569) (by decide +kernel), List.mem_of_getElem? (i := 570) (by decide +kernel)⟩
theorem lw_p33 : lw_okq (⟨"SharedPageModel", "woot", "(II)V"⟩, 29) := ⟨⟨by decide +kernel, by decide +kernel⟩, List.mem_of_getElem? (i := 431) (by decide +kernel), List.mem_of_getElem? (i := 573) (by decide +kernel), List.mem_of_getElem? (i := 574) (by decide +kernel)⟩
theorem lw_p34 : lw_okq (⟨"SharedPageModel", "place", "(II)I"⟩, 29) := ⟨⟨by decide +kernel, by decide +kernel⟩, List.mem_of_getElem? (i := 431) (by decide +kernel), List.mem_of_getElem? (i := 577) (by decide +kernel), List.mem_of_getElem? (i := 578) (by decide +kernel)⟩
theorem lw_p35 : lw_okq (⟨"SharedPageModel", "mark", "(II)I"⟩, 29) := ⟨⟨by decide +kernel, by decide +kernel⟩, List.mem_of_getElem? (i := 431) (by decide +kernel), List.mem_of_getElem? (i := 581) (by decide +kernel), List.mem_of_getElem? (i := 582) (by decide +kernel)⟩
theorem lw_p36 : lw_okq (⟨"SharedPageModel", "lay", "(III)V"⟩, 29) := ⟨⟨by decide +kernel, by decide +kernel⟩, List.mem_of_getElem? (i := 431) (by decide +kernel), List.mem_of_getElem? (i := 585) (by decide +kernel), List.mem_of_getElem? (i := 586) (by decide +kernel)⟩
theorem lw_p37 : lw_okq (⟨"SharedPageModel", "yata", "(II)V"⟩, 29) := ⟨⟨by decide +kernel, by decide +kernel⟩, List.mem_of_getElem? (i := 431) (by decide +kernel), List.mem_of_getElem? (i := 589) (by decide +kernel), List.mem_of_getElem? (i := 590) (by decide +kernel)⟩
theorem lw_p38 : lw_okq (⟨"SharedPageModel", "none", "()V"⟩, 29) := ⟨⟨by decide +kernel, by decide +kernel⟩, List.mem_of_getElem? (i := 431) (by decide +kernel), List.mem_of_getElem? (i := 593) (by decide +kernel), List.mem_of_getElem? (i := 594) (by decide +kernel)⟩
theorem lw_p39 : lw_okq (⟨"SharedPageModel", "ends", "(I)V"⟩, 29) := ⟨⟨by decide +kernel, by decide +kernel⟩, List.mem_of_getElem? (i := 431) (by decide +kernel), List.mem_of_getElem? (i := 597) (by decide +kernel), List.mem_of_getElem? (i := 598) (by decide +kernel)⟩
theorem lw_p40 : lw_okq (⟨"SharedPageModel", "isMessage", "(II)Z"⟩, 29) := ⟨⟨by decide +kernel, by decide +kernel⟩, List.mem_of_getElem? (i := 431) (by decide +kernel), List.mem_of_getElem? (i := 609) (by decide +kernel), List.mem_of_getElem? (i := 610) (by decide +kernel)⟩
theorem lw_p41 : lw_okq (⟨"SharedPageModel", "count", "(III)I"⟩, 29) := ⟨⟨by decide +kernel, by decide +kernel⟩, List.mem_of_getElem? (i := 431) (by decide +kernel), List.mem_of_getElem? (i := 621) (by decide +kernel), List.mem_of_getElem? (i := 622) (by decide +kernel)⟩
theorem lw_p42 : lw_okq (⟨"SharedPageModel", "isSame", "(II)Z"⟩, 29) := ⟨⟨by decide +kernel, by decide +kernel⟩, List.mem_of_getElem? (i := 431) (by decide +kernel), List.mem_of_getElem? (i := 649) (by decide +kernel), List.mem_of_getElem? (i := 650) (by decide +kernel)⟩
theorem lw_p43 : lw_okq (⟨"SharedPageModel", "counts", "(II)V"⟩, 29) := ⟨⟨by decide +kernel, by decide +kernel⟩, List.mem_of_getElem? (i := 431) (by decide +kernel), List.mem_of_getElem? (i := 663) (by decide +kernel), List.mem_of_getElem? (i := 664) (by decide +kernel)⟩
def lw_privs_3 : List (MethodName × Nat) := [(⟨"SharedPageModel", "integrate", "(III)V"⟩, 29), (⟨"SharedPageModel", "woot", "(II)V"⟩, 29), (⟨"SharedPageModel", "place", "(II)I"⟩, 29), (⟨"SharedPageModel", "mark", "(II)I"⟩, 29), (⟨"SharedPageModel", "lay", "(III)V"⟩, 29), (⟨"SharedPageModel", "yata", "(II)V"⟩, 29), (⟨"SharedPageModel", "none", "()V"⟩, 29), (⟨"SharedPageModel", "ends", "(I)V"⟩, 29), (⟨"SharedPageModel", "isMessage", "(II)Z"⟩, 29), (⟨"SharedPageModel", "count", "(III)I"⟩, 29), (⟨"SharedPageModel", "isSame", "(II)Z"⟩, 29), (⟨"SharedPageModel", "counts", "(II)V"⟩, 29)]
theorem lw_r3 : ∀ q ∈ lw_privs_3, lw_okq q := List.forall_mem_cons.mpr ⟨lw_p32, List.forall_mem_cons.mpr ⟨lw_p33, List.forall_mem_cons.mpr ⟨lw_p34, List.forall_mem_cons.mpr ⟨lw_p35, List.forall_mem_cons.mpr ⟨lw_p36, List.forall_mem_cons.mpr ⟨lw_p37, List.forall_mem_cons.mpr ⟨lw_p38, List.forall_mem_cons.mpr ⟨lw_p39, List.forall_mem_cons.mpr ⟨lw_p40, List.forall_mem_cons.mpr ⟨lw_p41, List.forall_mem_cons.mpr ⟨lw_p42, List.forall_mem_cons.mpr ⟨lw_p43, fun _ h => absurd h List.not_mem_nil⟩⟩⟩⟩⟩⟩⟩⟩⟩⟩⟩⟩
def lw_privs : List (MethodName × Nat) := lw_privs_1 ++ (lw_privs_2 ++ (lw_privs_3))
def lw_tbl : List Cond := k2_sels lw_privs ++ tables_1
theorem lw_privs_ok : ∀ q ∈ lw_privs, lw_okq q := by
  show ∀ q ∈ lw_privs_1 ++ (lw_privs_2 ++ (lw_privs_3)), lw_okq q
  exact List.forall_mem_append.mpr ⟨lw_r1, List.forall_mem_append.mpr ⟨lw_r2, lw_r3⟩⟩
end
section
theorem goodIn_r {big : List Cond} (ws : List Cond) (ps : List Nat) (hp : ws = ps.filterMap (fun i => big[i]?)) (h : ws.all goodWord = true) : GoodIn big ws := by
  intro w hw
  have h1 := List.all_eq_true.mp h w hw
  rw [hp] at hw
  obtain ⟨i, -, hi⟩ := List.mem_filterMap.mp hw
  have hm : w ∈ big := by first | exact List.mem_of_getElem? hi | exact List.getElem?_mem hi
  exact ⟨hm, good_of_word h1⟩
theorem goodIn_app {big a b : List Cond} (ha : GoodIn big a) (hb : GoodIn big b) : GoodIn big (a ++ b) := fun w h => (List.mem_append.mp h).elim (ha w) (hb w)
theorem goodIn_ca {big a b : List Cond} {c : Cond} (ha : GoodIn big (c :: a)) (hb : GoodIn big b) : GoodIn big (c :: (a ++ b)) := fun w h => (List.mem_cons.mp h).elim (fun e => ha w (List.mem_cons.mpr (Or.inl e))) (fun h => (List.mem_append.mp h).elim (fun h => ha w (List.mem_cons.mpr (Or.inr h))) (hb w))
theorem goodIn_sub {big ws : List Cond} (hm : ∀ w ∈ ws, w ∈ big) (h : ws.all goodWord = true) : GoodIn big ws := fun w hw => ⟨hm w hw, good_of_word (List.all_eq_true.mp h w hw)⟩
def RX0 : String := "SharedPage$Copy"
def TX0 : u_T := fun k => match k with
  | 0 => ("SharedPage$Copy", "text", "LSharedPage$Text;", true)
  | 1 => ("SharedPage$Copy", "sequence", "[I", true)
  | 2 => ("SharedPage$Copy", "places", "[I", true)
  | 3 => ("SharedPage$Copy", "erased", "[Z", true)
  | 4 => ("SharedPage$Copy", "states", "[I", true)
  | 5 => ("SharedPage$Copy", "length", "I", false)
  | 6 => ("SharedPage$Copy", "seen", "I", false)
  | 7 => ("SharedPage$Copy", "done", "I", false)
  | 8 => ("SharedPage$Copy", "waiting", "I", false)
  | 9 => ("SharedPage$Copy", "looks", "I", false)
  | 10 => ("SharedPage$Copy", "looksOfCall", "I", false)
  | _ => ("SharedPage$Copy", "integratedInCall", "I", false)
def tyX0 : Nat → FieldType := fun k => match k with
  | 0 => .object "SharedPage$Text"
  | 1 => .array .int
  | 2 => .array .int
  | 3 => .array .boolean
  | 4 => .array .int
  | 5 => .int
  | 6 => .int
  | 7 => .int
  | 8 => .int
  | 9 => .int
  | 10 => .int
  | _ => .int
abbrev wsX00 : List Cond := u_ws RX0 TX0 12
theorem nmX0 : ∀ a, a < 12 → ∀ b, b < 12 → a ≠ b → (TX0 a).2.1 ≠ (TX0 b).2.1 := by decide +kernel
theorem tyX0_ok : ∀ k, k < 12 → parseFieldDescriptor (TX0 k).2.2.1 = some (tyX0 k) := by decide +kernel
abbrev cX0_init : ByteArray := prog_2_method_1_code
def yX0_init : MethodName := ⟨RX0, "<init>", "(LSharedPage$Text;)V"⟩
abbrev cX0_makeEmpty : ByteArray := prog_2_method_2_code
def yX0_makeEmpty : MethodName := ⟨RX0, "makeEmpty", "()V"⟩
abbrev cX0_startCall : ByteArray := prog_2_method_3_code
def yX0_startCall : MethodName := ⟨RX0, "startCall", "()V"⟩
abbrev cX0_endCall : ByteArray := prog_2_method_4_code
def yX0_endCall : MethodName := ⟨RX0, "endCall", "()V"⟩
abbrev cX0_doOwn : ByteArray := prog_2_method_5_code
def yX0_doOwn : MethodName := ⟨RX0, "doOwn", "(I)V"⟩
abbrev cX0_hear : ByteArray := prog_2_method_6_code
def yX0_hear : MethodName := ⟨RX0, "hear", "(I)I"⟩
abbrev cX0_leastReady : ByteArray := prog_2_method_7_code
def yX0_leastReady : MethodName := ⟨RX0, "leastReady", "()I"⟩
abbrev cX0_canBeDone : ByteArray := prog_2_method_8_code
def yX0_canBeDone : MethodName := ⟨RX0, "canBeDone", "(I)Z"⟩
abbrev cX0_carryOut : ByteArray := prog_2_method_9_code
def yX0_carryOut : MethodName := ⟨RX0, "carryOut", "(I)V"⟩
abbrev cX0_strike : ByteArray := prog_2_method_10_code
def yX0_strike : MethodName := ⟨RX0, "strike", "(I)V"⟩
abbrev cX0_putAt : ByteArray := prog_2_method_11_code
def yX0_putAt : MethodName := ⟨RX0, "putAt", "(II)V"⟩
abbrev cX0_wootPlace : ByteArray := prog_2_method_12_code
def yX0_wootPlace : MethodName := ⟨RX0, "wootPlace", "(I)I"⟩
abbrev cX0_spans : ByteArray := prog_2_method_13_code
def yX0_spans : MethodName := ⟨RX0, "spans", "(III)Z"⟩
abbrev cX0_yataPlace : ByteArray := prog_2_method_14_code
def yX0_yataPlace : MethodName := ⟨RX0, "yataPlace", "(I)I"⟩
abbrev cX0_leftForPlace : ByteArray := prog_2_method_15_code
def yX0_leftForPlace : MethodName := ⟨RX0, "leftForPlace", "(I)I"⟩
abbrev cX0_rightForPlace : ByteArray := prog_2_method_16_code
def yX0_rightForPlace : MethodName := ⟨RX0, "rightForPlace", "(I)I"⟩
abbrev cX0_seenAt : ByteArray := prog_2_method_17_code
def yX0_seenAt : MethodName := ⟨RX0, "seenAt", "(I)I"⟩
abbrev cX0_characterAt : ByteArray := prog_2_method_18_code
def yX0_characterAt : MethodName := ⟨RX0, "characterAt", "(I)I"⟩
abbrev cX0_placeOf : ByteArray := prog_2_method_19_code
def yX0_placeOf : MethodName := ⟨RX0, "placeOf", "(I)I"⟩
abbrev cX0_setPlace : ByteArray := prog_2_method_20_code
def yX0_setPlace : MethodName := ⟨RX0, "setPlace", "(II)V"⟩
abbrev cX0_isSeen : ByteArray := prog_2_method_21_code
def yX0_isSeen : MethodName := ⟨RX0, "isSeen", "(I)Z"⟩
abbrev cX0_stateOf : ByteArray := prog_2_method_22_code
def yX0_stateOf : MethodName := ⟨RX0, "stateOf", "(I)I"⟩
abbrev cX0_setState : ByteArray := prog_2_method_23_code
def yX0_setState : MethodName := ⟨RX0, "setState", "(II)V"⟩
abbrev cX0_isLike : ByteArray := prog_2_method_24_code
def yX0_isLike : MethodName := ⟨RX0, "isLike", "(LSharedPage$Copy;)Z"⟩
def RX1 : String := "SharedPage$FreeOrders"
def TX1 : u_T := fun k => match k with
  | 0 => ("SharedPage$FreeOrders", "ways", "[J", true)
  | _ => ("SharedPage$FreeOrders", "followers", "[I", true)
def tyX1 : Nat → FieldType := fun k => match k with
  | 0 => .array .long
  | _ => .array .int
abbrev wsX10 : List Cond := u_ws RX1 TX1 2
theorem nmX1 : ∀ a, a < 2 → ∀ b, b < 2 → a ≠ b → (TX1 a).2.1 ≠ (TX1 b).2.1 := by decide +kernel
theorem tyX1_ok : ∀ k, k < 2 → parseFieldDescriptor (TX1 k).2.2.1 = some (tyX1 k) := by decide +kernel
abbrev cX1_init : ByteArray := prog_3_method_1_code
def yX1_init : MethodName := ⟨RX1, "<init>", "()V"⟩
abbrev cX1_countOf : ByteArray := prog_3_method_2_code
def yX1_countOf : MethodName := ⟨RX1, "countOf", "(LSharedPage$Copy;)J"⟩
abbrev cX1_rankOf : ByteArray := prog_3_method_3_code
def yX1_rankOf : MethodName := ⟨RX1, "rankOf", "(LSharedPage$Copy;)J"⟩
abbrev cX1_waysFrom : ByteArray := prog_3_method_4_code
def yX1_waysFrom : MethodName := ⟨RX1, "waysFrom", "(I)J"⟩
abbrev cX1_weigh : ByteArray := prog_3_method_5_code
def yX1_weigh : MethodName := ⟨RX1, "weigh", "(LSharedPage$Copy;)V"⟩
abbrev cX1_listFollowers : ByteArray := prog_3_method_6_code
def yX1_listFollowers : MethodName := ⟨RX1, "listFollowers", "(LSharedPage$Copy;I)V"⟩
abbrev cX1_addFollower : ByteArray := prog_3_method_7_code
def yX1_addFollower : MethodName := ⟨RX1, "addFollower", "(III)V"⟩
abbrev cX1_handOn : ByteArray := prog_3_method_8_code
def yX1_handOn : MethodName := ⟨RX1, "handOn", "(II)V"⟩
def RX2 : String := "SharedPage$Text"
def TX2 : u_T := fun k => match k with
  | 0 => ("SharedPage$Text", "woot", "Z", true)
  | 1 => ("SharedPage$Text", "sites", "[I", true)
  | 2 => ("SharedPage$Text", "marks", "[I", true)
  | 3 => ("SharedPage$Text", "letters", "[I", true)
  | 4 => ("SharedPage$Text", "lefts", "[I", true)
  | 5 => ("SharedPage$Text", "rights", "[I", true)
  | 6 => ("SharedPage$Text", "kinds", "[I", true)
  | 7 => ("SharedPage$Text", "makers", "[I", true)
  | 8 => ("SharedPage$Text", "subjects", "[I", true)
  | 9 => ("SharedPage$Text", "madeBy", "[I", true)
  | 10 => ("SharedPage$Text", "characters", "I", false)
  | 11 => ("SharedPage$Text", "messages", "I", false)
  | _ => ("SharedPage$Text", "erases", "I", false)
def tyX2 : Nat → FieldType := fun k => match k with
  | 0 => .boolean
  | 1 => .array .int
  | 2 => .array .int
  | 3 => .array .int
  | 4 => .array .int
  | 5 => .array .int
  | 6 => .array .int
  | 7 => .array .int
  | 8 => .array .int
  | 9 => .array .int
  | 10 => .int
  | 11 => .int
  | _ => .int
abbrev wsX20 : List Cond := u_ws RX2 TX2 13
theorem nmX2 : ∀ a, a < 13 → ∀ b, b < 13 → a ≠ b → (TX2 a).2.1 ≠ (TX2 b).2.1 := by decide +kernel
theorem tyX2_ok : ∀ k, k < 13 → parseFieldDescriptor (TX2 k).2.2.1 = some (tyX2 k) := by decide +kernel
abbrev cX2_init : ByteArray := prog_4_method_1_code
def yX2_init : MethodName := ⟨RX2, "<init>", "(Z)V"⟩
abbrev cX2_addInsert : ByteArray := prog_4_method_2_code
def yX2_addInsert : MethodName := ⟨RX2, "addInsert", "(IIII)I"⟩
abbrev cX2_addErase : ByteArray := prog_4_method_3_code
def yX2_addErase : MethodName := ⟨RX2, "addErase", "(II)I"⟩
abbrev cX2_addMessage : ByteArray := prog_4_method_4_code
def yX2_addMessage : MethodName := ⟨RX2, "addMessage", "(III)I"⟩
abbrev cX2_hasMessage : ByteArray := prog_4_method_5_code
def yX2_hasMessage : MethodName := ⟨RX2, "hasMessage", "(I)Z"⟩
abbrev cX2_kindOf : ByteArray := prog_4_method_6_code
def yX2_kindOf : MethodName := ⟨RX2, "kindOf", "(I)I"⟩
abbrev cX2_makerOf : ByteArray := prog_4_method_7_code
def yX2_makerOf : MethodName := ⟨RX2, "makerOf", "(I)I"⟩
abbrev cX2_subjectOf : ByteArray := prog_4_method_8_code
def yX2_subjectOf : MethodName := ⟨RX2, "subjectOf", "(I)I"⟩
abbrev cX2_hasCharacter : ByteArray := prog_4_method_9_code
def yX2_hasCharacter : MethodName := ⟨RX2, "hasCharacter", "(I)Z"⟩
abbrev cX2_markOf : ByteArray := prog_4_method_10_code
def yX2_markOf : MethodName := ⟨RX2, "markOf", "(I)I"⟩
abbrev cX2_siteOf : ByteArray := prog_4_method_11_code
def yX2_siteOf : MethodName := ⟨RX2, "siteOf", "(I)I"⟩
abbrev cX2_letterOf : ByteArray := prog_4_method_12_code
def yX2_letterOf : MethodName := ⟨RX2, "letterOf", "(I)I"⟩
abbrev cX2_leftOf : ByteArray := prog_4_method_13_code
def yX2_leftOf : MethodName := ⟨RX2, "leftOf", "(I)I"⟩
abbrev cX2_rightOf : ByteArray := prog_4_method_14_code
def yX2_rightOf : MethodName := ⟨RX2, "rightOf", "(I)I"⟩
def RX3 : String := "SharedPage"
def TX3 : u_T := fun k => match k with
  | 0 => ("SharedPage", "texts", "[LSharedPage$Text;", true)
  | 1 => ("SharedPage", "copies", "[LSharedPage$Copy;", true)
  | 2 => ("SharedPage", "spares", "[LSharedPage$Copy;", true)
  | 3 => ("SharedPage", "freeOrders", "LSharedPage$FreeOrders;", true)
  | 4 => ("SharedPage", "drawing", "[I", true)
  | 5 => ("SharedPage", "written", "[I", true)
  | _ => ("SharedPage", "writtenLength", "I", false)
def tyX3 : Nat → FieldType := fun k => match k with
  | 0 => .array (.object "SharedPage$Text")
  | 1 => .array (.object "SharedPage$Copy")
  | 2 => .array (.object "SharedPage$Copy")
  | 3 => .object "SharedPage$FreeOrders"
  | 4 => .array .int
  | 5 => .array .int
  | _ => .int
abbrev wsX30 : List Cond := u_ws RX3 TX3 7
theorem nmX3 : ∀ a, a < 7 → ∀ b, b < 7 → a ≠ b → (TX3 a).2.1 ≠ (TX3 b).2.1 := by decide +kernel
theorem tyX3_ok : ∀ k, k < 7 → parseFieldDescriptor (TX3 k).2.2.1 = some (tyX3 k) := by decide +kernel
abbrev cX3_init : ByteArray := prog_1_method_1_code
def yX3_init : MethodName := ⟨RX3, "<init>", "()V"⟩
abbrev cX3_insert : ByteArray := prog_1_method_2_code
def yX3_insert : MethodName := ⟨RX3, "insert", "(IIII)I"⟩
abbrev cX3_erase : ByteArray := prog_1_method_3_code
def yX3_erase : MethodName := ⟨RX3, "erase", "(III)I"⟩
abbrev cX3_tell : ByteArray := prog_1_method_4_code
def yX3_tell : MethodName := ⟨RX3, "tell", "(III)I"⟩
abbrev cX3_share : ByteArray := prog_1_method_5_code
def yX3_share : MethodName := ⟨RX3, "share", "(IIIZ)I"⟩
abbrev cX3_look : ByteArray := prog_1_method_6_code
def yX3_look : MethodName := ⟨RX3, "look", "(III)I"⟩
abbrev cX3_message : ByteArray := prog_1_method_7_code
def yX3_message : MethodName := ⟨RX3, "message", "(III)I"⟩
abbrev cX3_state : ByteArray := prog_1_method_8_code
def yX3_state : MethodName := ⟨RX3, "state", "(III)I"⟩
abbrev cX3_character : ByteArray := prog_1_method_9_code
def yX3_character : MethodName := ⟨RX3, "character", "(IIII)I"⟩
abbrev cX3_write : ByteArray := prog_1_method_10_code
def yX3_write : MethodName := ⟨RX3, "write", "(II)I"⟩
abbrev cX3_out : ByteArray := prog_1_method_11_code
def yX3_out : MethodName := ⟨RX3, "out", "(I)I"⟩
abbrev cX3_same : ByteArray := prog_1_method_12_code
def yX3_same : MethodName := ⟨RX3, "same", "(III)Z"⟩
abbrev cX3_shuffle : ByteArray := prog_1_method_13_code
def yX3_shuffle : MethodName := ⟨RX3, "shuffle", "(III)Z"⟩
abbrev cX3_orders : ByteArray := prog_1_method_14_code
def yX3_orders : MethodName := ⟨RX3, "orders", "(II)J"⟩
abbrev cX3_number : ByteArray := prog_1_method_15_code
def yX3_number : MethodName := ⟨RX3, "number", "(II)J"⟩
abbrev cX3_textAt : ByteArray := prog_1_method_16_code
def yX3_textAt : MethodName := ⟨RX3, "textAt", "(I)LSharedPage$Text;"⟩
abbrev cX3_spareOf : ByteArray := prog_1_method_17_code
def yX3_spareOf : MethodName := ⟨RX3, "spareOf", "(I)LSharedPage$Copy;"⟩
abbrev cX3_copyAt : ByteArray := prog_1_method_18_code
def yX3_copyAt : MethodName := ⟨RX3, "copyAt", "(II)LSharedPage$Copy;"⟩
abbrev cX3_listDone : ByteArray := prog_1_method_19_code
def yX3_listDone : MethodName := ⟨RX3, "listDone", "(LSharedPage$Copy;)I"⟩
abbrev cX3_takeDrawn : ByteArray := prog_1_method_20_code
def yX3_takeDrawn : MethodName := ⟨RX3, "takeDrawn", "(II)I"⟩
def RX4 : String := "SharedPageModel"
def TX4 : u_T := fun k => match k with
  | 0 => ("SharedPageModel", "told", "I", false)
  | 1 => ("SharedPageModel", "made", "[I", true)
  | 2 => ("SharedPageModel", "siteOf", "[I", true)
  | 3 => ("SharedPageModel", "clockOf", "[I", true)
  | 4 => ("SharedPageModel", "letterOf", "[I", true)
  | 5 => ("SharedPageModel", "leftOf", "[I", true)
  | 6 => ("SharedPageModel", "rightOf", "[I", true)
  | 7 => ("SharedPageModel", "clocks", "[I", true)
  | 8 => ("SharedPageModel", "messages", "[I", true)
  | 9 => ("SharedPageModel", "erases", "[I", true)
  | 10 => ("SharedPageModel", "isErase", "[Z", true)
  | 11 => ("SharedPageModel", "charOf", "[I", true)
  | 12 => ("SharedPageModel", "makerOf", "[I", true)
  | 13 => ("SharedPageModel", "row", "[I", true)
  | 14 => ("SharedPageModel", "many", "[I", true)
  | 15 => ("SharedPageModel", "has", "[Z", true)
  | 16 => ("SharedPageModel", "erased", "[Z", true)
  | 17 => ("SharedPageModel", "state", "[I", true)
  | 18 => ("SharedPageModel", "looks", "[I", true)
  | 19 => ("SharedPageModel", "looked", "I", false)
  | 20 => ("SharedPageModel", "integrated", "I", false)
  | 21 => ("SharedPageModel", "out", "[I", true)
  | 22 => ("SharedPageModel", "outs", "I", false)
  | 23 => ("SharedPageModel", "line", "[I", true)
  | 24 => ("SharedPageModel", "passed", "[Z", true)
  | 25 => ("SharedPageModel", "open", "[Z", true)
  | 26 => ("SharedPageModel", "left", "[I", true)
  | 27 => ("SharedPageModel", "ahead", "[I", true)
  | _ => ("SharedPageModel", "ways", "[J", true)
def tyX4 : Nat → FieldType := fun k => match k with
  | 0 => .int
  | 1 => .array .int
  | 2 => .array .int
  | 3 => .array .int
  | 4 => .array .int
  | 5 => .array .int
  | 6 => .array .int
  | 7 => .array .int
  | 8 => .array .int
  | 9 => .array .int
  | 10 => .array .boolean
  | 11 => .array .int
  | 12 => .array .int
  | 13 => .array .int
  | 14 => .array .int
  | 15 => .array .boolean
  | 16 => .array .boolean
  | 17 => .array .int
  | 18 => .array .int
  | 19 => .int
  | 20 => .int
  | 21 => .array .int
  | 22 => .int
  | 23 => .array .int
  | 24 => .array .boolean
  | 25 => .array .boolean
  | 26 => .array .int
  | 27 => .array .int
  | _ => .array .long
abbrev wsX40 : List Cond := u_ws RX4 TX4 29
theorem nmX4 : ∀ a, a < 29 → ∀ b, b < 29 → a ≠ b → (TX4 a).2.1 ≠ (TX4 b).2.1 := by decide +kernel
theorem tyX4_ok : ∀ k, k < 29 → parseFieldDescriptor (TX4 k).2.2.1 = some (tyX4 k) := by decide +kernel
abbrev cX4_init : ByteArray := prog_6_method_1_code
def yX4_init : MethodName := ⟨RX4, "<init>", "()V"⟩
abbrev cX4_isText : ByteArray := prog_6_method_3_code
def yX4_isText : MethodName := ⟨RX4, "isText", "(I)Z"⟩
abbrev cX4_isSite : ByteArray := prog_6_method_4_code
def yX4_isSite : MethodName := ⟨RX4, "isSite", "(I)Z"⟩
abbrev cX4_mark : ByteArray := prog_6_method_5_code
def yX4_mark : MethodName := ⟨RX4, "mark", "(II)I"⟩
abbrev cX4_place : ByteArray := prog_6_method_6_code
def yX4_place : MethodName := ⟨RX4, "place", "(II)I"⟩
abbrev cX4_lay : ByteArray := prog_6_method_7_code
def yX4_lay : MethodName := ⟨RX4, "lay", "(III)V"⟩
abbrev cX4_integrate : ByteArray := prog_6_method_8_code
def yX4_integrate : MethodName := ⟨RX4, "integrate", "(III)V"⟩
abbrev cX4_woot : ByteArray := prog_6_method_9_code
def yX4_woot : MethodName := ⟨RX4, "woot", "(II)V"⟩
abbrev cX4_none : ByteArray := prog_6_method_10_code
def yX4_none : MethodName := ⟨RX4, "none", "()V"⟩
abbrev cX4_yata : ByteArray := prog_6_method_11_code
def yX4_yata : MethodName := ⟨RX4, "yata", "(II)V"⟩
abbrev cX4_isThere : ByteArray := prog_6_method_12_code
def yX4_isThere : MethodName := ⟨RX4, "isThere", "(II)Z"⟩
abbrev cX4_can : ByteArray := prog_6_method_13_code
def yX4_can : MethodName := ⟨RX4, "can", "(III)Z"⟩
abbrev cX4_does : ByteArray := prog_6_method_14_code
def yX4_does : MethodName := ⟨RX4, "does", "(III)V"⟩
abbrev cX4_hears : ByteArray := prog_6_method_15_code
def yX4_hears : MethodName := ⟨RX4, "hears", "(III)I"⟩
abbrev cX4_begins : ByteArray := prog_6_method_16_code
def yX4_begins : MethodName := ⟨RX4, "begins", "()V"⟩
abbrev cX4_ends : ByteArray := prog_6_method_17_code
def yX4_ends : MethodName := ⟨RX4, "ends", "(I)V"⟩
abbrev cX4_seen : ByteArray := prog_6_method_18_code
def yX4_seen : MethodName := ⟨RX4, "seen", "(II)I"⟩
abbrev cX4_allSeen : ByteArray := prog_6_method_19_code
def yX4_allSeen : MethodName := ⟨RX4, "allSeen", "(I)I"⟩
abbrev cX4_message : ByteArray := prog_6_method_20_code
def yX4_message : MethodName := ⟨RX4, "message", "(IIIZ)I"⟩
abbrev cX4_insert : ByteArray := prog_6_method_21_code
def yX4_insert : MethodName := ⟨RX4, "insert", "(IIII)I"⟩
abbrev cX4_erase : ByteArray := prog_6_method_22_code
def yX4_erase : MethodName := ⟨RX4, "erase", "(III)I"⟩
abbrev cX4_isMessage : ByteArray := prog_6_method_23_code
def yX4_isMessage : MethodName := ⟨RX4, "isMessage", "(II)Z"⟩
abbrev cX4_tell : ByteArray := prog_6_method_24_code
def yX4_tell : MethodName := ⟨RX4, "tell", "(III)I"⟩
abbrev cX4_share : ByteArray := prog_6_method_25_code
def yX4_share : MethodName := ⟨RX4, "share", "(IIIZ)I"⟩
abbrev cX4_count : ByteArray := prog_6_method_26_code
def yX4_count : MethodName := ⟨RX4, "count", "(III)I"⟩
abbrev cX4_look : ByteArray := prog_6_method_27_code
def yX4_look : MethodName := ⟨RX4, "look", "(III)I"⟩
abbrev cX4_message_ : ByteArray := prog_6_method_28_code
def yX4_message_ : MethodName := ⟨RX4, "message", "(III)I"⟩
abbrev cX4_state : ByteArray := prog_6_method_29_code
def yX4_state : MethodName := ⟨RX4, "state", "(III)I"⟩
abbrev cX4_character : ByteArray := prog_6_method_30_code
def yX4_character : MethodName := ⟨RX4, "character", "(IIII)I"⟩
abbrev cX4_write : ByteArray := prog_6_method_31_code
def yX4_write : MethodName := ⟨RX4, "write", "(II)I"⟩
abbrev cX4_out : ByteArray := prog_6_method_32_code
def yX4_out : MethodName := ⟨RX4, "out", "(I)I"⟩
abbrev cX4_isSame : ByteArray := prog_6_method_33_code
def yX4_isSame : MethodName := ⟨RX4, "isSame", "(II)Z"⟩
abbrev cX4_same : ByteArray := prog_6_method_34_code
def yX4_same : MethodName := ⟨RX4, "same", "(III)Z"⟩
abbrev cX4_shuffle : ByteArray := prog_6_method_35_code
def yX4_shuffle : MethodName := ⟨RX4, "shuffle", "(III)Z"⟩
abbrev cX4_counts : ByteArray := prog_6_method_36_code
def yX4_counts : MethodName := ⟨RX4, "counts", "(II)V"⟩
abbrev cX4_orders : ByteArray := prog_6_method_37_code
def yX4_orders : MethodName := ⟨RX4, "orders", "(II)J"⟩
abbrev cX4_number : ByteArray := prog_6_method_38_code
def yX4_number : MethodName := ⟨RX4, "number", "(II)J"⟩
def RJ9 : String := "java/lang/Math"
def TJ9 : u_T := fun k => match k with
  | _ => ("", "", "", false)
def tyJ9 : Nat → FieldType := fun k => match k with
  | _ => .int
abbrev wsJ90 : List Cond := u_ws RJ9 TJ9 0
theorem nmJ9 : ∀ a, a < 0 → ∀ b, b < 0 → a ≠ b → (TJ9 a).2.1 ≠ (TJ9 b).2.1 := by decide +kernel
theorem tyJ9_ok : ∀ k, k < 0 → parseFieldDescriptor (TJ9 k).2.2.1 = some (tyJ9 k) := by decide +kernel
abbrev cJ9_min_7cf53 : ByteArray := prog_7_method_69_code
def yJ9_min_7cf53 : MethodName := ⟨RJ9, "min", "(II)I"⟩
def RL : String := "SharedPageLaw"
abbrev cL_law : ByteArray := code
def yL_law : MethodName := ⟨RL, "law", "([I)Z"⟩
def wsX0_makeEmpty : List Cond := .code yX0_makeEmpty cX0_makeEmpty 2 none :: ([.fieldLink RX0 19 "SharedPage$Copy" "places" "[I", .fieldLink RX0 22 "SharedPage$Copy" "erased" "[Z", .fieldLink RX0 26 "SharedPage$Copy" "states" "[I", .fieldLink RX0 32 "SharedPage$Copy" "length" "I", .fieldLink RX0 36 "SharedPage$Copy" "seen" "I", .fieldLink RX0 39 "SharedPage$Copy" "done" "I", .fieldLink RX0 42 "SharedPage$Copy" "waiting" "I", .fieldLink RX0 45 "SharedPage$Copy" "looks" "I", .fieldLink RX0 48 "SharedPage$Copy" "looksOfCall" "I", .fieldLink RX0 51 "SharedPage$Copy" "integratedInCall" "I"] ++ wsX00)
def wsX0_init : List Cond := .code yX0_init cX0_init 2 none :: ([.methodLink RX0 3 objectInit, .instanceMethod objectInit, .code objectInit ⟨#[0xb1]⟩ 1 none, .fieldLink RX0 9 "SharedPage$Copy" "text" "LSharedPage$Text;", .arrayClass .int, .fieldLink RX0 15 "SharedPage$Copy" "sequence" "[I", .fieldLink RX0 19 "SharedPage$Copy" "places" "[I", .arrayClass .boolean, .fieldLink RX0 22 "SharedPage$Copy" "erased" "[Z", .fieldLink RX0 26 "SharedPage$Copy" "states" "[I", .methodLink RX0 29 yX0_makeEmpty, .instanceMethod yX0_makeEmpty, .selects RX0 yX0_makeEmpty yX0_makeEmpty, .initialized RX0, .code yX0_makeEmpty cX0_makeEmpty 2 none, .fieldLink RX0 32 "SharedPage$Copy" "length" "I", .fieldLink RX0 36 "SharedPage$Copy" "seen" "I", .fieldLink RX0 39 "SharedPage$Copy" "done" "I", .fieldLink RX0 42 "SharedPage$Copy" "waiting" "I", .fieldLink RX0 45 "SharedPage$Copy" "looks" "I", .fieldLink RX0 48 "SharedPage$Copy" "looksOfCall" "I", .fieldLink RX0 51 "SharedPage$Copy" "integratedInCall" "I"] ++ wsX00)
def wsX0_startCall : List Cond := .code yX0_startCall cX0_startCall 1 none :: ([.fieldLink RX0 48 "SharedPage$Copy" "looksOfCall" "I", .fieldLink RX0 51 "SharedPage$Copy" "integratedInCall" "I"] ++ wsX00)
def wsX0_endCall : List Cond := .code yX0_endCall cX0_endCall 1 none :: ([.fieldLink RX0 51 "SharedPage$Copy" "integratedInCall" "I", .fieldLink RX0 48 "SharedPage$Copy" "looksOfCall" "I", .fieldLink RX0 45 "SharedPage$Copy" "looks" "I"] ++ wsX00)
def wsX2_hasMessage : List Cond := .code yX2_hasMessage cX2_hasMessage 2 (some .boolean) :: ([.fieldLink RX2 47 "SharedPage$Text" "messages" "I"] ++ wsX20)
def wsX2_subjectOf : List Cond := .code yX2_subjectOf cX2_subjectOf 2 (some .int) :: ([.fieldLink RX2 37 "SharedPage$Text" "subjects" "[I", .methodLink RX2 57 yX2_hasMessage, .instanceMethod yX2_hasMessage, .selects RX2 yX2_hasMessage yX2_hasMessage, .initialized RX2, .code yX2_hasMessage cX2_hasMessage 2 (some .boolean), .fieldLink RX2 47 "SharedPage$Text" "messages" "I"] ++ wsX20)
def wsX0_setState : List Cond := .code yX0_setState cX0_setState 3 none :: ([.fieldLink RX0 26 "SharedPage$Copy" "states" "[I"] ++ wsX00)
def wsX2_kindOf : List Cond := .code yX2_kindOf cX2_kindOf 2 (some .int) :: ([.fieldLink RX2 31 "SharedPage$Text" "kinds" "[I", .methodLink RX2 57 yX2_hasMessage, .instanceMethod yX2_hasMessage, .selects RX2 yX2_hasMessage yX2_hasMessage, .initialized RX2, .code yX2_hasMessage cX2_hasMessage 2 (some .boolean), .fieldLink RX2 47 "SharedPage$Text" "messages" "I"] ++ wsX20)
def wsX0_isSeen : List Cond := .code yX0_isSeen cX0_isSeen 2 (some .boolean) :: ([.fieldLink RX0 19 "SharedPage$Copy" "places" "[I", .fieldLink RX0 22 "SharedPage$Copy" "erased" "[Z"] ++ wsX00)
def wsX0_strike : List Cond := .code yX0_strike cX0_strike 2 none :: ([.fieldLink RX0 22 "SharedPage$Copy" "erased" "[Z", .fieldLink RX0 36 "SharedPage$Copy" "seen" "I", .methodLink RX0 119 yX0_isSeen, .instanceMethod yX0_isSeen, .selects RX0 yX0_isSeen yX0_isSeen, .initialized RX0, .code yX0_isSeen cX0_isSeen 2 (some .boolean), .fieldLink RX0 19 "SharedPage$Copy" "places" "[I"] ++ wsX00)
def wsX2_hasCharacter : List Cond := .code yX2_hasCharacter cX2_hasCharacter 2 (some .boolean) :: ([.fieldLink RX2 43 "SharedPage$Text" "characters" "I"] ++ wsX20)
def wsX2_leftOf : List Cond := .code yX2_leftOf cX2_leftOf 2 (some .int) :: ([.fieldLink RX2 25 "SharedPage$Text" "lefts" "[I", .methodLink RX2 61 yX2_hasCharacter, .instanceMethod yX2_hasCharacter, .selects RX2 yX2_hasCharacter yX2_hasCharacter, .initialized RX2, .code yX2_hasCharacter cX2_hasCharacter 2 (some .boolean), .fieldLink RX2 43 "SharedPage$Text" "characters" "I"] ++ wsX20)
def wsX0_placeOf : List Cond := .code yX0_placeOf cX0_placeOf 2 (some .int) :: ([.fieldLink RX0 19 "SharedPage$Copy" "places" "[I", .fieldLink RX0 32 "SharedPage$Copy" "length" "I"] ++ wsX00)
def wsX2_rightOf : List Cond := .code yX2_rightOf cX2_rightOf 2 (some .int) :: ([.fieldLink RX2 28 "SharedPage$Text" "rights" "[I", .methodLink RX2 61 yX2_hasCharacter, .instanceMethod yX2_hasCharacter, .selects RX2 yX2_hasCharacter yX2_hasCharacter, .initialized RX2, .code yX2_hasCharacter cX2_hasCharacter 2 (some .boolean), .fieldLink RX2 43 "SharedPage$Text" "characters" "I"] ++ wsX20)
def wsX2_markOf : List Cond := .code yX2_markOf cX2_markOf 2 (some .int) :: ([.fieldLink RX2 19 "SharedPage$Text" "marks" "[I", .methodLink RX2 61 yX2_hasCharacter, .instanceMethod yX2_hasCharacter, .selects RX2 yX2_hasCharacter yX2_hasCharacter, .initialized RX2, .code yX2_hasCharacter cX2_hasCharacter 2 (some .boolean), .fieldLink RX2 43 "SharedPage$Text" "characters" "I"] ++ wsX20)
def wsX0_characterAt : List Cond := .code yX0_characterAt cX0_characterAt 2 (some .int) :: ([.fieldLink RX0 32 "SharedPage$Copy" "length" "I", .fieldLink RX0 15 "SharedPage$Copy" "sequence" "[I"] ++ wsX00)
def wsX0_spans : List Cond := .code yX0_spans cX0_spans 4 (some .boolean) :: ([.fieldLink RX0 9 "SharedPage$Copy" "text" "LSharedPage$Text;", .methodLink RX0 97 yX2_leftOf, .instanceMethod yX2_leftOf, .selects RX2 yX2_leftOf yX2_leftOf, .initialized RX2, .code yX2_leftOf cX2_leftOf 2 (some .int), .fieldLink RX2 25 "SharedPage$Text" "lefts" "[I", .methodLink RX2 61 yX2_hasCharacter, .instanceMethod yX2_hasCharacter, .selects RX2 yX2_hasCharacter yX2_hasCharacter, .code yX2_hasCharacter cX2_hasCharacter 2 (some .boolean), .fieldLink RX2 43 "SharedPage$Text" "characters" "I", .methodLink RX0 94 yX0_placeOf, .instanceMethod yX0_placeOf, .selects RX0 yX0_placeOf yX0_placeOf, .initialized RX0, .code yX0_placeOf cX0_placeOf 2 (some .int), .fieldLink RX0 19 "SharedPage$Copy" "places" "[I", .fieldLink RX0 32 "SharedPage$Copy" "length" "I", .methodLink RX0 100 yX2_rightOf, .instanceMethod yX2_rightOf, .selects RX2 yX2_rightOf yX2_rightOf, .code yX2_rightOf cX2_rightOf 2 (some .int), .fieldLink RX2 28 "SharedPage$Text" "rights" "[I"] ++ wsX00 ++ wsX20)
def wsX0_wootPlace_r1 : List Cond := [Cond.fieldLink RX0 9 "SharedPage$Copy" "text" "LSharedPage$Text;", Cond.fieldLink RX0 48 "SharedPage$Copy" "looksOfCall" "I", Cond.methodLink RX0 97 yX2_leftOf, Cond.instanceMethod yX2_leftOf, Cond.selects RX2 yX2_leftOf yX2_leftOf, Cond.initialized RX2, Cond.code yX2_leftOf cX2_leftOf 2 (some .int), Cond.fieldLink RX2 25 "SharedPage$Text" "lefts" "[I", Cond.methodLink RX2 61 yX2_hasCharacter, Cond.instanceMethod yX2_hasCharacter, Cond.selects RX2 yX2_hasCharacter yX2_hasCharacter, Cond.code yX2_hasCharacter cX2_hasCharacter 2 (some .boolean), Cond.fieldLink RX2 43 "SharedPage$Text" "characters" "I", Cond.methodLink RX0 94 yX0_placeOf, Cond.instanceMethod yX0_placeOf, Cond.selects RX0 yX0_placeOf yX0_placeOf, Cond.initialized RX0, Cond.code yX0_placeOf cX0_placeOf 2 (some .int), Cond.fieldLink RX0 19 "SharedPage$Copy" "places" "[I", Cond.fieldLink RX0 32 "SharedPage$Copy" "length" "I", Cond.methodLink RX0 100 yX2_rightOf, Cond.instanceMethod yX2_rightOf, Cond.selects RX2 yX2_rightOf yX2_rightOf, Cond.code yX2_rightOf cX2_rightOf 2 (some .int)]
def wsX0_wootPlace_r2 : List Cond := [Cond.fieldLink RX2 28 "SharedPage$Text" "rights" "[I", Cond.methodLink RX0 125 yX2_markOf, Cond.instanceMethod yX2_markOf, Cond.selects RX2 yX2_markOf yX2_markOf, Cond.code yX2_markOf cX2_markOf 2 (some .int), Cond.fieldLink RX2 19 "SharedPage$Text" "marks" "[I", Cond.methodLink RX0 128 yX0_characterAt, Cond.instanceMethod yX0_characterAt, Cond.selects RX0 yX0_characterAt yX0_characterAt, Cond.code yX0_characterAt cX0_characterAt 2 (some .int), Cond.fieldLink RX0 15 "SharedPage$Copy" "sequence" "[I", Cond.methodLink RX0 131 yX0_spans, Cond.instanceMethod yX0_spans, Cond.selects RX0 yX0_spans yX0_spans, Cond.code yX0_spans cX0_spans 4 (some .boolean)]
def wsX0_wootPlace : List Cond := .code yX0_wootPlace cX0_wootPlace 10 (some .int) :: ((wsX0_wootPlace_r1 ++ wsX0_wootPlace_r2) ++ wsX00 ++ wsX20)
def wsX2_siteOf : List Cond := .code yX2_siteOf cX2_siteOf 2 (some .int) :: ([.fieldLink RX2 15 "SharedPage$Text" "sites" "[I", .methodLink RX2 61 yX2_hasCharacter, .instanceMethod yX2_hasCharacter, .selects RX2 yX2_hasCharacter yX2_hasCharacter, .initialized RX2, .code yX2_hasCharacter cX2_hasCharacter 2 (some .boolean), .fieldLink RX2 43 "SharedPage$Text" "characters" "I"] ++ wsX20)
def wsX0_yataPlace_r1 : List Cond := [Cond.fieldLink RX0 9 "SharedPage$Copy" "text" "LSharedPage$Text;", Cond.fieldLink RX0 48 "SharedPage$Copy" "looksOfCall" "I", Cond.methodLink RX0 97 yX2_leftOf, Cond.instanceMethod yX2_leftOf, Cond.selects RX2 yX2_leftOf yX2_leftOf, Cond.initialized RX2, Cond.code yX2_leftOf cX2_leftOf 2 (some .int), Cond.fieldLink RX2 25 "SharedPage$Text" "lefts" "[I", Cond.methodLink RX2 61 yX2_hasCharacter, Cond.instanceMethod yX2_hasCharacter, Cond.selects RX2 yX2_hasCharacter yX2_hasCharacter, Cond.code yX2_hasCharacter cX2_hasCharacter 2 (some .boolean), Cond.fieldLink RX2 43 "SharedPage$Text" "characters" "I", Cond.methodLink RX0 94 yX0_placeOf, Cond.instanceMethod yX0_placeOf, Cond.selects RX0 yX0_placeOf yX0_placeOf, Cond.initialized RX0, Cond.code yX0_placeOf cX0_placeOf 2 (some .int), Cond.fieldLink RX0 19 "SharedPage$Copy" "places" "[I", Cond.fieldLink RX0 32 "SharedPage$Copy" "length" "I", Cond.methodLink RX0 100 yX2_rightOf, Cond.instanceMethod yX2_rightOf, Cond.selects RX2 yX2_rightOf yX2_rightOf, Cond.code yX2_rightOf cX2_rightOf 2 (some .int)]
def wsX0_yataPlace_r2 : List Cond := [Cond.fieldLink RX2 28 "SharedPage$Text" "rights" "[I", Cond.methodLink RX0 128 yX0_characterAt, Cond.instanceMethod yX0_characterAt, Cond.selects RX0 yX0_characterAt yX0_characterAt, Cond.code yX0_characterAt cX0_characterAt 2 (some .int), Cond.fieldLink RX0 15 "SharedPage$Copy" "sequence" "[I", Cond.methodLink RX0 135 yX2_siteOf, Cond.instanceMethod yX2_siteOf, Cond.selects RX2 yX2_siteOf yX2_siteOf, Cond.code yX2_siteOf cX2_siteOf 2 (some .int), Cond.fieldLink RX2 15 "SharedPage$Text" "sites" "[I"]
def wsX0_yataPlace : List Cond := .code yX0_yataPlace cX0_yataPlace 9 (some .int) :: ((wsX0_yataPlace_r1 ++ wsX0_yataPlace_r2) ++ wsX00 ++ wsX20)
def wsX0_setPlace : List Cond := .code yX0_setPlace cX0_setPlace 3 none :: ([.fieldLink RX0 19 "SharedPage$Copy" "places" "[I"] ++ wsX00)
def wsX0_putAt : List Cond := .code yX0_putAt cX0_putAt 4 none :: ([.fieldLink RX0 32 "SharedPage$Copy" "length" "I", .fieldLink RX0 15 "SharedPage$Copy" "sequence" "[I", .fieldLink RX0 36 "SharedPage$Copy" "seen" "I", .fieldLink RX0 51 "SharedPage$Copy" "integratedInCall" "I", .methodLink RX0 122 yX0_setPlace, .instanceMethod yX0_setPlace, .selects RX0 yX0_setPlace yX0_setPlace, .initialized RX0, .code yX0_setPlace cX0_setPlace 3 none, .fieldLink RX0 19 "SharedPage$Copy" "places" "[I"] ++ wsX00)
def wsX0_carryOut_r1 : List Cond := [Cond.fieldLink RX0 9 "SharedPage$Copy" "text" "LSharedPage$Text;", Cond.fieldLink RX0 39 "SharedPage$Copy" "done" "I", Cond.fieldLink RX0 106 "SharedPage$Text" "woot" "Z", Cond.methodLink RX0 88 yX2_subjectOf, Cond.instanceMethod yX2_subjectOf, Cond.selects RX2 yX2_subjectOf yX2_subjectOf, Cond.initialized RX2, Cond.code yX2_subjectOf cX2_subjectOf 2 (some .int), Cond.fieldLink RX2 37 "SharedPage$Text" "subjects" "[I", Cond.methodLink RX2 57 yX2_hasMessage, Cond.instanceMethod yX2_hasMessage, Cond.selects RX2 yX2_hasMessage yX2_hasMessage, Cond.code yX2_hasMessage cX2_hasMessage 2 (some .boolean), Cond.fieldLink RX2 47 "SharedPage$Text" "messages" "I", Cond.methodLink RX0 77 yX0_setState, Cond.instanceMethod yX0_setState, Cond.selects RX0 yX0_setState yX0_setState, Cond.initialized RX0, Cond.code yX0_setState cX0_setState 3 none, Cond.fieldLink RX0 26 "SharedPage$Copy" "states" "[I", Cond.methodLink RX0 91 yX2_kindOf, Cond.instanceMethod yX2_kindOf, Cond.selects RX2 yX2_kindOf yX2_kindOf, Cond.code yX2_kindOf cX2_kindOf 2 (some .int)]
def wsX0_carryOut_r2 : List Cond := [Cond.fieldLink RX2 31 "SharedPage$Text" "kinds" "[I", Cond.methodLink RX0 103 yX0_strike, Cond.instanceMethod yX0_strike, Cond.selects RX0 yX0_strike yX0_strike, Cond.code yX0_strike cX0_strike 2 none, Cond.fieldLink RX0 22 "SharedPage$Copy" "erased" "[Z", Cond.fieldLink RX0 36 "SharedPage$Copy" "seen" "I", Cond.methodLink RX0 119 yX0_isSeen, Cond.instanceMethod yX0_isSeen, Cond.selects RX0 yX0_isSeen yX0_isSeen, Cond.code yX0_isSeen cX0_isSeen 2 (some .boolean), Cond.fieldLink RX0 19 "SharedPage$Copy" "places" "[I", Cond.methodLink RX0 110 yX0_wootPlace, Cond.instanceMethod yX0_wootPlace, Cond.selects RX0 yX0_wootPlace yX0_wootPlace, Cond.code yX0_wootPlace cX0_wootPlace 10 (some .int), Cond.fieldLink RX0 48 "SharedPage$Copy" "looksOfCall" "I", Cond.methodLink RX0 97 yX2_leftOf, Cond.instanceMethod yX2_leftOf, Cond.selects RX2 yX2_leftOf yX2_leftOf, Cond.code yX2_leftOf cX2_leftOf 2 (some .int), Cond.fieldLink RX2 25 "SharedPage$Text" "lefts" "[I", Cond.methodLink RX2 61 yX2_hasCharacter, Cond.instanceMethod yX2_hasCharacter]
def wsX0_carryOut_r3 : List Cond := [Cond.selects RX2 yX2_hasCharacter yX2_hasCharacter, Cond.code yX2_hasCharacter cX2_hasCharacter 2 (some .boolean), Cond.fieldLink RX2 43 "SharedPage$Text" "characters" "I", Cond.methodLink RX0 94 yX0_placeOf, Cond.instanceMethod yX0_placeOf, Cond.selects RX0 yX0_placeOf yX0_placeOf, Cond.code yX0_placeOf cX0_placeOf 2 (some .int), Cond.fieldLink RX0 32 "SharedPage$Copy" "length" "I", Cond.methodLink RX0 100 yX2_rightOf, Cond.instanceMethod yX2_rightOf, Cond.selects RX2 yX2_rightOf yX2_rightOf, Cond.code yX2_rightOf cX2_rightOf 2 (some .int), Cond.fieldLink RX2 28 "SharedPage$Text" "rights" "[I", Cond.methodLink RX0 125 yX2_markOf, Cond.instanceMethod yX2_markOf, Cond.selects RX2 yX2_markOf yX2_markOf, Cond.code yX2_markOf cX2_markOf 2 (some .int), Cond.fieldLink RX2 19 "SharedPage$Text" "marks" "[I", Cond.methodLink RX0 128 yX0_characterAt, Cond.instanceMethod yX0_characterAt, Cond.selects RX0 yX0_characterAt yX0_characterAt, Cond.code yX0_characterAt cX0_characterAt 2 (some .int), Cond.fieldLink RX0 15 "SharedPage$Copy" "sequence" "[I", Cond.methodLink RX0 131 yX0_spans]
def wsX0_carryOut_r4 : List Cond := [Cond.instanceMethod yX0_spans, Cond.selects RX0 yX0_spans yX0_spans, Cond.code yX0_spans cX0_spans 4 (some .boolean), Cond.methodLink RX0 113 yX0_yataPlace, Cond.instanceMethod yX0_yataPlace, Cond.selects RX0 yX0_yataPlace yX0_yataPlace, Cond.code yX0_yataPlace cX0_yataPlace 9 (some .int), Cond.methodLink RX0 135 yX2_siteOf, Cond.instanceMethod yX2_siteOf, Cond.selects RX2 yX2_siteOf yX2_siteOf, Cond.code yX2_siteOf cX2_siteOf 2 (some .int), Cond.fieldLink RX2 15 "SharedPage$Text" "sites" "[I", Cond.methodLink RX0 116 yX0_putAt, Cond.instanceMethod yX0_putAt, Cond.selects RX0 yX0_putAt yX0_putAt, Cond.code yX0_putAt cX0_putAt 4 none, Cond.fieldLink RX0 51 "SharedPage$Copy" "integratedInCall" "I", Cond.methodLink RX0 122 yX0_setPlace, Cond.instanceMethod yX0_setPlace, Cond.selects RX0 yX0_setPlace yX0_setPlace, Cond.code yX0_setPlace cX0_setPlace 3 none]
def wsX0_carryOut : List Cond := .code yX0_carryOut cX0_carryOut 3 none :: ((wsX0_carryOut_r1 ++ (wsX0_carryOut_r2 ++ (wsX0_carryOut_r3 ++ wsX0_carryOut_r4))) ++ wsX00 ++ wsX20)
def wsX0_doOwn_r1 : List Cond := [Cond.fieldLink RX0 9 "SharedPage$Copy" "text" "LSharedPage$Text;", Cond.methodLink RX0 54 yX2_hasMessage, Cond.instanceMethod yX2_hasMessage, Cond.selects RX2 yX2_hasMessage yX2_hasMessage, Cond.initialized RX2, Cond.code yX2_hasMessage cX2_hasMessage 2 (some .boolean), Cond.fieldLink RX2 47 "SharedPage$Text" "messages" "I", Cond.methodLink RX0 60 yX0_startCall, Cond.instanceMethod yX0_startCall, Cond.selects RX0 yX0_startCall yX0_startCall, Cond.initialized RX0, Cond.code yX0_startCall cX0_startCall 1 none, Cond.fieldLink RX0 48 "SharedPage$Copy" "looksOfCall" "I", Cond.fieldLink RX0 51 "SharedPage$Copy" "integratedInCall" "I", Cond.methodLink RX0 63 yX0_carryOut, Cond.instanceMethod yX0_carryOut, Cond.selects RX0 yX0_carryOut yX0_carryOut, Cond.code yX0_carryOut cX0_carryOut 3 none, Cond.fieldLink RX0 39 "SharedPage$Copy" "done" "I", Cond.fieldLink RX0 106 "SharedPage$Text" "woot" "Z", Cond.methodLink RX0 88 yX2_subjectOf, Cond.instanceMethod yX2_subjectOf, Cond.selects RX2 yX2_subjectOf yX2_subjectOf, Cond.code yX2_subjectOf cX2_subjectOf 2 (some .int)]
def wsX0_doOwn_r2 : List Cond := [Cond.fieldLink RX2 37 "SharedPage$Text" "subjects" "[I", Cond.methodLink RX2 57 yX2_hasMessage, Cond.methodLink RX0 77 yX0_setState, Cond.instanceMethod yX0_setState, Cond.selects RX0 yX0_setState yX0_setState, Cond.code yX0_setState cX0_setState 3 none, Cond.fieldLink RX0 26 "SharedPage$Copy" "states" "[I", Cond.methodLink RX0 91 yX2_kindOf, Cond.instanceMethod yX2_kindOf, Cond.selects RX2 yX2_kindOf yX2_kindOf, Cond.code yX2_kindOf cX2_kindOf 2 (some .int), Cond.fieldLink RX2 31 "SharedPage$Text" "kinds" "[I", Cond.methodLink RX0 103 yX0_strike, Cond.instanceMethod yX0_strike, Cond.selects RX0 yX0_strike yX0_strike, Cond.code yX0_strike cX0_strike 2 none, Cond.fieldLink RX0 22 "SharedPage$Copy" "erased" "[Z", Cond.fieldLink RX0 36 "SharedPage$Copy" "seen" "I", Cond.methodLink RX0 119 yX0_isSeen, Cond.instanceMethod yX0_isSeen, Cond.selects RX0 yX0_isSeen yX0_isSeen, Cond.code yX0_isSeen cX0_isSeen 2 (some .boolean), Cond.fieldLink RX0 19 "SharedPage$Copy" "places" "[I", Cond.methodLink RX0 110 yX0_wootPlace]
def wsX0_doOwn_r3 : List Cond := [Cond.instanceMethod yX0_wootPlace, Cond.selects RX0 yX0_wootPlace yX0_wootPlace, Cond.code yX0_wootPlace cX0_wootPlace 10 (some .int), Cond.methodLink RX0 97 yX2_leftOf, Cond.instanceMethod yX2_leftOf, Cond.selects RX2 yX2_leftOf yX2_leftOf, Cond.code yX2_leftOf cX2_leftOf 2 (some .int), Cond.fieldLink RX2 25 "SharedPage$Text" "lefts" "[I", Cond.methodLink RX2 61 yX2_hasCharacter, Cond.instanceMethod yX2_hasCharacter, Cond.selects RX2 yX2_hasCharacter yX2_hasCharacter, Cond.code yX2_hasCharacter cX2_hasCharacter 2 (some .boolean), Cond.fieldLink RX2 43 "SharedPage$Text" "characters" "I", Cond.methodLink RX0 94 yX0_placeOf, Cond.instanceMethod yX0_placeOf, Cond.selects RX0 yX0_placeOf yX0_placeOf, Cond.code yX0_placeOf cX0_placeOf 2 (some .int), Cond.fieldLink RX0 32 "SharedPage$Copy" "length" "I", Cond.methodLink RX0 100 yX2_rightOf, Cond.instanceMethod yX2_rightOf, Cond.selects RX2 yX2_rightOf yX2_rightOf, Cond.code yX2_rightOf cX2_rightOf 2 (some .int), Cond.fieldLink RX2 28 "SharedPage$Text" "rights" "[I", Cond.methodLink RX0 125 yX2_markOf]
def wsX0_doOwn_r4 : List Cond := [Cond.instanceMethod yX2_markOf, Cond.selects RX2 yX2_markOf yX2_markOf, Cond.code yX2_markOf cX2_markOf 2 (some .int), Cond.fieldLink RX2 19 "SharedPage$Text" "marks" "[I", Cond.methodLink RX0 128 yX0_characterAt, Cond.instanceMethod yX0_characterAt, Cond.selects RX0 yX0_characterAt yX0_characterAt, Cond.code yX0_characterAt cX0_characterAt 2 (some .int), Cond.fieldLink RX0 15 "SharedPage$Copy" "sequence" "[I", Cond.methodLink RX0 131 yX0_spans, Cond.instanceMethod yX0_spans, Cond.selects RX0 yX0_spans yX0_spans, Cond.code yX0_spans cX0_spans 4 (some .boolean), Cond.methodLink RX0 113 yX0_yataPlace, Cond.instanceMethod yX0_yataPlace, Cond.selects RX0 yX0_yataPlace yX0_yataPlace, Cond.code yX0_yataPlace cX0_yataPlace 9 (some .int), Cond.methodLink RX0 135 yX2_siteOf, Cond.instanceMethod yX2_siteOf, Cond.selects RX2 yX2_siteOf yX2_siteOf, Cond.code yX2_siteOf cX2_siteOf 2 (some .int), Cond.fieldLink RX2 15 "SharedPage$Text" "sites" "[I", Cond.methodLink RX0 116 yX0_putAt, Cond.instanceMethod yX0_putAt]
def wsX0_doOwn_r5 : List Cond := [Cond.selects RX0 yX0_putAt yX0_putAt, Cond.code yX0_putAt cX0_putAt 4 none, Cond.methodLink RX0 122 yX0_setPlace, Cond.instanceMethod yX0_setPlace, Cond.selects RX0 yX0_setPlace yX0_setPlace, Cond.code yX0_setPlace cX0_setPlace 3 none, Cond.methodLink RX0 67 yX0_endCall, Cond.instanceMethod yX0_endCall, Cond.selects RX0 yX0_endCall yX0_endCall, Cond.code yX0_endCall cX0_endCall 1 none, Cond.fieldLink RX0 45 "SharedPage$Copy" "looks" "I"]
def wsX0_doOwn : List Cond := .code yX0_doOwn cX0_doOwn 2 none :: ((wsX0_doOwn_r1 ++ (wsX0_doOwn_r2 ++ (wsX0_doOwn_r3 ++ (wsX0_doOwn_r4 ++ wsX0_doOwn_r5)))) ++ wsX00 ++ wsX20)
def wsX0_stateOf : List Cond := .code yX0_stateOf cX0_stateOf 2 (some .int) :: ([.fieldLink RX0 26 "SharedPage$Copy" "states" "[I"] ++ wsX00)
def wsX0_canBeDone_r1 : List Cond := [Cond.fieldLink RX0 9 "SharedPage$Copy" "text" "LSharedPage$Text;", Cond.methodLink RX0 88 yX2_subjectOf, Cond.instanceMethod yX2_subjectOf, Cond.selects RX2 yX2_subjectOf yX2_subjectOf, Cond.initialized RX2, Cond.code yX2_subjectOf cX2_subjectOf 2 (some .int), Cond.fieldLink RX2 37 "SharedPage$Text" "subjects" "[I", Cond.methodLink RX2 57 yX2_hasMessage, Cond.instanceMethod yX2_hasMessage, Cond.selects RX2 yX2_hasMessage yX2_hasMessage, Cond.code yX2_hasMessage cX2_hasMessage 2 (some .boolean), Cond.fieldLink RX2 47 "SharedPage$Text" "messages" "I", Cond.methodLink RX0 91 yX2_kindOf, Cond.instanceMethod yX2_kindOf, Cond.selects RX2 yX2_kindOf yX2_kindOf, Cond.code yX2_kindOf cX2_kindOf 2 (some .int), Cond.fieldLink RX2 31 "SharedPage$Text" "kinds" "[I", Cond.methodLink RX0 94 yX0_placeOf, Cond.instanceMethod yX0_placeOf, Cond.selects RX0 yX0_placeOf yX0_placeOf, Cond.initialized RX0, Cond.code yX0_placeOf cX0_placeOf 2 (some .int), Cond.fieldLink RX0 19 "SharedPage$Copy" "places" "[I", Cond.fieldLink RX0 32 "SharedPage$Copy" "length" "I"]
def wsX0_canBeDone_r2 : List Cond := [Cond.methodLink RX0 97 yX2_leftOf, Cond.instanceMethod yX2_leftOf, Cond.selects RX2 yX2_leftOf yX2_leftOf, Cond.code yX2_leftOf cX2_leftOf 2 (some .int), Cond.fieldLink RX2 25 "SharedPage$Text" "lefts" "[I", Cond.methodLink RX2 61 yX2_hasCharacter, Cond.instanceMethod yX2_hasCharacter, Cond.selects RX2 yX2_hasCharacter yX2_hasCharacter, Cond.code yX2_hasCharacter cX2_hasCharacter 2 (some .boolean), Cond.fieldLink RX2 43 "SharedPage$Text" "characters" "I", Cond.methodLink RX0 100 yX2_rightOf, Cond.instanceMethod yX2_rightOf, Cond.selects RX2 yX2_rightOf yX2_rightOf, Cond.code yX2_rightOf cX2_rightOf 2 (some .int), Cond.fieldLink RX2 28 "SharedPage$Text" "rights" "[I"]
def wsX0_canBeDone : List Cond := .code yX0_canBeDone cX0_canBeDone 3 (some .boolean) :: ((wsX0_canBeDone_r1 ++ wsX0_canBeDone_r2) ++ wsX00 ++ wsX20)
def wsX0_leastReady_r1 : List Cond := [Cond.fieldLink RX0 42 "SharedPage$Copy" "waiting" "I", Cond.fieldLink RX0 9 "SharedPage$Copy" "text" "LSharedPage$Text;", Cond.fieldLink RX0 85 "SharedPage$Text" "messages" "I", Cond.methodLink RX0 70 yX0_stateOf, Cond.instanceMethod yX0_stateOf, Cond.selects RX0 yX0_stateOf yX0_stateOf, Cond.initialized RX0, Cond.code yX0_stateOf cX0_stateOf 2 (some .int), Cond.fieldLink RX0 26 "SharedPage$Copy" "states" "[I", Cond.methodLink RX0 74 yX0_canBeDone, Cond.instanceMethod yX0_canBeDone, Cond.selects RX0 yX0_canBeDone yX0_canBeDone, Cond.code yX0_canBeDone cX0_canBeDone 3 (some .boolean), Cond.methodLink RX0 88 yX2_subjectOf, Cond.instanceMethod yX2_subjectOf, Cond.selects RX2 yX2_subjectOf yX2_subjectOf, Cond.initialized RX2, Cond.code yX2_subjectOf cX2_subjectOf 2 (some .int), Cond.fieldLink RX2 37 "SharedPage$Text" "subjects" "[I", Cond.methodLink RX2 57 yX2_hasMessage, Cond.instanceMethod yX2_hasMessage, Cond.selects RX2 yX2_hasMessage yX2_hasMessage, Cond.code yX2_hasMessage cX2_hasMessage 2 (some .boolean), Cond.fieldLink RX2 47 "SharedPage$Text" "messages" "I"]
def wsX0_leastReady_r2 : List Cond := [Cond.methodLink RX0 91 yX2_kindOf, Cond.instanceMethod yX2_kindOf, Cond.selects RX2 yX2_kindOf yX2_kindOf, Cond.code yX2_kindOf cX2_kindOf 2 (some .int), Cond.fieldLink RX2 31 "SharedPage$Text" "kinds" "[I", Cond.methodLink RX0 94 yX0_placeOf, Cond.instanceMethod yX0_placeOf, Cond.selects RX0 yX0_placeOf yX0_placeOf, Cond.code yX0_placeOf cX0_placeOf 2 (some .int), Cond.fieldLink RX0 19 "SharedPage$Copy" "places" "[I", Cond.fieldLink RX0 32 "SharedPage$Copy" "length" "I", Cond.methodLink RX0 97 yX2_leftOf, Cond.instanceMethod yX2_leftOf, Cond.selects RX2 yX2_leftOf yX2_leftOf, Cond.code yX2_leftOf cX2_leftOf 2 (some .int), Cond.fieldLink RX2 25 "SharedPage$Text" "lefts" "[I", Cond.methodLink RX2 61 yX2_hasCharacter, Cond.instanceMethod yX2_hasCharacter, Cond.selects RX2 yX2_hasCharacter yX2_hasCharacter, Cond.code yX2_hasCharacter cX2_hasCharacter 2 (some .boolean), Cond.fieldLink RX2 43 "SharedPage$Text" "characters" "I", Cond.methodLink RX0 100 yX2_rightOf, Cond.instanceMethod yX2_rightOf, Cond.selects RX2 yX2_rightOf yX2_rightOf]
def wsX0_leastReady_r3 : List Cond := [Cond.code yX2_rightOf cX2_rightOf 2 (some .int), Cond.fieldLink RX2 28 "SharedPage$Text" "rights" "[I"]
def wsX0_leastReady : List Cond := .code yX0_leastReady cX0_leastReady 2 (some .int) :: ((wsX0_leastReady_r1 ++ (wsX0_leastReady_r2 ++ wsX0_leastReady_r3)) ++ wsX00 ++ wsX20)
def wsX0_hear_r1 : List Cond := [Cond.fieldLink RX0 9 "SharedPage$Copy" "text" "LSharedPage$Text;", Cond.fieldLink RX0 42 "SharedPage$Copy" "waiting" "I", Cond.methodLink RX0 54 yX2_hasMessage, Cond.instanceMethod yX2_hasMessage, Cond.selects RX2 yX2_hasMessage yX2_hasMessage, Cond.initialized RX2, Cond.code yX2_hasMessage cX2_hasMessage 2 (some .boolean), Cond.fieldLink RX2 47 "SharedPage$Text" "messages" "I", Cond.methodLink RX0 70 yX0_stateOf, Cond.instanceMethod yX0_stateOf, Cond.selects RX0 yX0_stateOf yX0_stateOf, Cond.initialized RX0, Cond.code yX0_stateOf cX0_stateOf 2 (some .int), Cond.fieldLink RX0 26 "SharedPage$Copy" "states" "[I", Cond.methodLink RX0 74 yX0_canBeDone, Cond.instanceMethod yX0_canBeDone, Cond.selects RX0 yX0_canBeDone yX0_canBeDone, Cond.code yX0_canBeDone cX0_canBeDone 3 (some .boolean), Cond.methodLink RX0 88 yX2_subjectOf, Cond.instanceMethod yX2_subjectOf, Cond.selects RX2 yX2_subjectOf yX2_subjectOf, Cond.code yX2_subjectOf cX2_subjectOf 2 (some .int), Cond.fieldLink RX2 37 "SharedPage$Text" "subjects" "[I", Cond.methodLink RX2 57 yX2_hasMessage]
def wsX0_hear_r2 : List Cond := [Cond.methodLink RX0 91 yX2_kindOf, Cond.instanceMethod yX2_kindOf, Cond.selects RX2 yX2_kindOf yX2_kindOf, Cond.code yX2_kindOf cX2_kindOf 2 (some .int), Cond.fieldLink RX2 31 "SharedPage$Text" "kinds" "[I", Cond.methodLink RX0 94 yX0_placeOf, Cond.instanceMethod yX0_placeOf, Cond.selects RX0 yX0_placeOf yX0_placeOf, Cond.code yX0_placeOf cX0_placeOf 2 (some .int), Cond.fieldLink RX0 19 "SharedPage$Copy" "places" "[I", Cond.fieldLink RX0 32 "SharedPage$Copy" "length" "I", Cond.methodLink RX0 97 yX2_leftOf, Cond.instanceMethod yX2_leftOf, Cond.selects RX2 yX2_leftOf yX2_leftOf, Cond.code yX2_leftOf cX2_leftOf 2 (some .int), Cond.fieldLink RX2 25 "SharedPage$Text" "lefts" "[I", Cond.methodLink RX2 61 yX2_hasCharacter, Cond.instanceMethod yX2_hasCharacter, Cond.selects RX2 yX2_hasCharacter yX2_hasCharacter, Cond.code yX2_hasCharacter cX2_hasCharacter 2 (some .boolean), Cond.fieldLink RX2 43 "SharedPage$Text" "characters" "I", Cond.methodLink RX0 100 yX2_rightOf, Cond.instanceMethod yX2_rightOf, Cond.selects RX2 yX2_rightOf yX2_rightOf]
def wsX0_hear_r3 : List Cond := [Cond.code yX2_rightOf cX2_rightOf 2 (some .int), Cond.fieldLink RX2 28 "SharedPage$Text" "rights" "[I", Cond.methodLink RX0 77 yX0_setState, Cond.instanceMethod yX0_setState, Cond.selects RX0 yX0_setState yX0_setState, Cond.code yX0_setState cX0_setState 3 none, Cond.methodLink RX0 63 yX0_carryOut, Cond.instanceMethod yX0_carryOut, Cond.selects RX0 yX0_carryOut yX0_carryOut, Cond.code yX0_carryOut cX0_carryOut 3 none, Cond.fieldLink RX0 39 "SharedPage$Copy" "done" "I", Cond.fieldLink RX0 106 "SharedPage$Text" "woot" "Z", Cond.methodLink RX0 103 yX0_strike, Cond.instanceMethod yX0_strike, Cond.selects RX0 yX0_strike yX0_strike, Cond.code yX0_strike cX0_strike 2 none, Cond.fieldLink RX0 22 "SharedPage$Copy" "erased" "[Z", Cond.fieldLink RX0 36 "SharedPage$Copy" "seen" "I", Cond.methodLink RX0 119 yX0_isSeen, Cond.instanceMethod yX0_isSeen, Cond.selects RX0 yX0_isSeen yX0_isSeen, Cond.code yX0_isSeen cX0_isSeen 2 (some .boolean), Cond.methodLink RX0 110 yX0_wootPlace, Cond.instanceMethod yX0_wootPlace]
def wsX0_hear_r4 : List Cond := [Cond.selects RX0 yX0_wootPlace yX0_wootPlace, Cond.code yX0_wootPlace cX0_wootPlace 10 (some .int), Cond.fieldLink RX0 48 "SharedPage$Copy" "looksOfCall" "I", Cond.methodLink RX0 125 yX2_markOf, Cond.instanceMethod yX2_markOf, Cond.selects RX2 yX2_markOf yX2_markOf, Cond.code yX2_markOf cX2_markOf 2 (some .int), Cond.fieldLink RX2 19 "SharedPage$Text" "marks" "[I", Cond.methodLink RX0 128 yX0_characterAt, Cond.instanceMethod yX0_characterAt, Cond.selects RX0 yX0_characterAt yX0_characterAt, Cond.code yX0_characterAt cX0_characterAt 2 (some .int), Cond.fieldLink RX0 15 "SharedPage$Copy" "sequence" "[I", Cond.methodLink RX0 131 yX0_spans, Cond.instanceMethod yX0_spans, Cond.selects RX0 yX0_spans yX0_spans, Cond.code yX0_spans cX0_spans 4 (some .boolean), Cond.methodLink RX0 113 yX0_yataPlace, Cond.instanceMethod yX0_yataPlace, Cond.selects RX0 yX0_yataPlace yX0_yataPlace, Cond.code yX0_yataPlace cX0_yataPlace 9 (some .int), Cond.methodLink RX0 135 yX2_siteOf, Cond.instanceMethod yX2_siteOf, Cond.selects RX2 yX2_siteOf yX2_siteOf]
def wsX0_hear_r5 : List Cond := [Cond.code yX2_siteOf cX2_siteOf 2 (some .int), Cond.fieldLink RX2 15 "SharedPage$Text" "sites" "[I", Cond.methodLink RX0 116 yX0_putAt, Cond.instanceMethod yX0_putAt, Cond.selects RX0 yX0_putAt yX0_putAt, Cond.code yX0_putAt cX0_putAt 4 none, Cond.fieldLink RX0 51 "SharedPage$Copy" "integratedInCall" "I", Cond.methodLink RX0 122 yX0_setPlace, Cond.instanceMethod yX0_setPlace, Cond.selects RX0 yX0_setPlace yX0_setPlace, Cond.code yX0_setPlace cX0_setPlace 3 none, Cond.methodLink RX0 81 yX0_leastReady, Cond.instanceMethod yX0_leastReady, Cond.selects RX0 yX0_leastReady yX0_leastReady, Cond.code yX0_leastReady cX0_leastReady 2 (some .int), Cond.fieldLink RX0 85 "SharedPage$Text" "messages" "I"]
def wsX0_hear : List Cond := .code yX0_hear cX0_hear 5 (some .int) :: ((wsX0_hear_r1 ++ (wsX0_hear_r2 ++ (wsX0_hear_r3 ++ (wsX0_hear_r4 ++ wsX0_hear_r5)))) ++ wsX00 ++ wsX20)
def wsX0_seenAt : List Cond := .code yX0_seenAt cX0_seenAt 5 (some .int) :: ([.fieldLink RX0 32 "SharedPage$Copy" "length" "I", .methodLink RX0 128 yX0_characterAt, .instanceMethod yX0_characterAt, .selects RX0 yX0_characterAt yX0_characterAt, .initialized RX0, .code yX0_characterAt cX0_characterAt 2 (some .int), .fieldLink RX0 15 "SharedPage$Copy" "sequence" "[I", .methodLink RX0 119 yX0_isSeen, .instanceMethod yX0_isSeen, .selects RX0 yX0_isSeen yX0_isSeen, .code yX0_isSeen cX0_isSeen 2 (some .boolean), .fieldLink RX0 19 "SharedPage$Copy" "places" "[I", .fieldLink RX0 22 "SharedPage$Copy" "erased" "[Z"] ++ wsX00)
def wsX0_leftForPlace : List Cond := .code yX0_leftForPlace cX0_leftForPlace 2 (some .int) :: ([.methodLink RX0 138 yX0_seenAt, .instanceMethod yX0_seenAt, .selects RX0 yX0_seenAt yX0_seenAt, .initialized RX0, .code yX0_seenAt cX0_seenAt 5 (some .int), .fieldLink RX0 32 "SharedPage$Copy" "length" "I", .methodLink RX0 128 yX0_characterAt, .instanceMethod yX0_characterAt, .selects RX0 yX0_characterAt yX0_characterAt, .code yX0_characterAt cX0_characterAt 2 (some .int), .fieldLink RX0 15 "SharedPage$Copy" "sequence" "[I", .methodLink RX0 119 yX0_isSeen, .instanceMethod yX0_isSeen, .selects RX0 yX0_isSeen yX0_isSeen, .code yX0_isSeen cX0_isSeen 2 (some .boolean), .fieldLink RX0 19 "SharedPage$Copy" "places" "[I", .fieldLink RX0 22 "SharedPage$Copy" "erased" "[Z"] ++ wsX00)
def wsX0_rightForPlace_r1 : List Cond := [Cond.fieldLink RX0 9 "SharedPage$Copy" "text" "LSharedPage$Text;", Cond.fieldLink RX0 106 "SharedPage$Text" "woot" "Z", Cond.methodLink RX0 138 yX0_seenAt, Cond.instanceMethod yX0_seenAt, Cond.selects RX0 yX0_seenAt yX0_seenAt, Cond.initialized RX0, Cond.code yX0_seenAt cX0_seenAt 5 (some .int), Cond.fieldLink RX0 32 "SharedPage$Copy" "length" "I", Cond.methodLink RX0 128 yX0_characterAt, Cond.instanceMethod yX0_characterAt, Cond.selects RX0 yX0_characterAt yX0_characterAt, Cond.code yX0_characterAt cX0_characterAt 2 (some .int), Cond.fieldLink RX0 15 "SharedPage$Copy" "sequence" "[I", Cond.methodLink RX0 119 yX0_isSeen, Cond.instanceMethod yX0_isSeen, Cond.selects RX0 yX0_isSeen yX0_isSeen, Cond.code yX0_isSeen cX0_isSeen 2 (some .boolean), Cond.fieldLink RX0 19 "SharedPage$Copy" "places" "[I", Cond.fieldLink RX0 22 "SharedPage$Copy" "erased" "[Z", Cond.methodLink RX0 141 yX0_leftForPlace, Cond.instanceMethod yX0_leftForPlace, Cond.selects RX0 yX0_leftForPlace yX0_leftForPlace, Cond.code yX0_leftForPlace cX0_leftForPlace 2 (some .int), Cond.methodLink RX0 94 yX0_placeOf]
def wsX0_rightForPlace_r2 : List Cond := [Cond.instanceMethod yX0_placeOf, Cond.selects RX0 yX0_placeOf yX0_placeOf, Cond.code yX0_placeOf cX0_placeOf 2 (some .int)]
def wsX0_rightForPlace : List Cond := .code yX0_rightForPlace cX0_rightForPlace 2 (some .int) :: ((wsX0_rightForPlace_r1 ++ wsX0_rightForPlace_r2) ++ wsX00 ++ wsX20)
def wsX0_isLike : List Cond := .code yX0_isLike cX0_isLike 4 (some .boolean) :: ([.fieldLink RX0 32 "SharedPage$Copy" "length" "I", .methodLink RX0 128 yX0_characterAt, .instanceMethod yX0_characterAt, .selects RX0 yX0_characterAt yX0_characterAt, .initialized RX0, .code yX0_characterAt cX0_characterAt 2 (some .int), .fieldLink RX0 15 "SharedPage$Copy" "sequence" "[I", .methodLink RX0 119 yX0_isSeen, .instanceMethod yX0_isSeen, .selects RX0 yX0_isSeen yX0_isSeen, .code yX0_isSeen cX0_isSeen 2 (some .boolean), .fieldLink RX0 19 "SharedPage$Copy" "places" "[I", .fieldLink RX0 22 "SharedPage$Copy" "erased" "[Z"] ++ wsX00)
def wsX1_init : List Cond := .code yX1_init cX1_init 1 none :: ([.methodLink RX1 3 objectInit, .instanceMethod objectInit, .code objectInit ⟨#[0xb1]⟩ 1 none, .arrayClass .long, .fieldLink RX1 9 "SharedPage$FreeOrders" "ways" "[J", .arrayClass .int, .fieldLink RX1 15 "SharedPage$FreeOrders" "followers" "[I"] ++ wsX10)
def wsX1_addFollower : List Cond := .code yX1_addFollower cX1_addFollower 4 none :: ([.fieldLink RX1 15 "SharedPage$FreeOrders" "followers" "[I"] ++ wsX10)
def wsX1_listFollowers_r1 : List Cond := [Cond.fieldLink RX1 15 "SharedPage$FreeOrders" "followers" "[I", Cond.fieldLink RX1 39 "SharedPage$Copy" "text" "LSharedPage$Text;", Cond.methodLink RX1 43 yX0_characterAt, Cond.instanceMethod yX0_characterAt, Cond.selects RX0 yX0_characterAt yX0_characterAt, Cond.initialized RX0, Cond.code yX0_characterAt cX0_characterAt 2 (some .int), Cond.fieldLink RX0 32 "SharedPage$Copy" "length" "I", Cond.fieldLink RX0 15 "SharedPage$Copy" "sequence" "[I", Cond.methodLink RX1 60 yX2_leftOf, Cond.instanceMethod yX2_leftOf, Cond.selects RX2 yX2_leftOf yX2_leftOf, Cond.initialized RX2, Cond.code yX2_leftOf cX2_leftOf 2 (some .int), Cond.fieldLink RX2 25 "SharedPage$Text" "lefts" "[I", Cond.methodLink RX2 61 yX2_hasCharacter, Cond.instanceMethod yX2_hasCharacter, Cond.selects RX2 yX2_hasCharacter yX2_hasCharacter, Cond.code yX2_hasCharacter cX2_hasCharacter 2 (some .boolean), Cond.fieldLink RX2 43 "SharedPage$Text" "characters" "I", Cond.methodLink RX1 63 yX0_placeOf, Cond.instanceMethod yX0_placeOf, Cond.selects RX0 yX0_placeOf yX0_placeOf, Cond.code yX0_placeOf cX0_placeOf 2 (some .int)]
def wsX1_listFollowers_r2 : List Cond := [Cond.fieldLink RX0 19 "SharedPage$Copy" "places" "[I", Cond.methodLink RX1 66 yX1_addFollower, Cond.instanceMethod yX1_addFollower, Cond.selects RX1 yX1_addFollower yX1_addFollower, Cond.initialized RX1, Cond.code yX1_addFollower cX1_addFollower 4 none, Cond.methodLink RX1 70 yX2_rightOf, Cond.instanceMethod yX2_rightOf, Cond.selects RX2 yX2_rightOf yX2_rightOf, Cond.code yX2_rightOf cX2_rightOf 2 (some .int), Cond.fieldLink RX2 28 "SharedPage$Text" "rights" "[I"]
def wsX1_listFollowers : List Cond := .code yX1_listFollowers cX1_listFollowers 5 none :: ((wsX1_listFollowers_r1 ++ wsX1_listFollowers_r2) ++ wsX10 ++ wsX00 ++ wsX20)
def wsX1_waysFrom : List Cond := .code yX1_waysFrom cX1_waysFrom 2 (some .long) :: ([.fieldLink RX1 9 "SharedPage$FreeOrders" "ways" "[J"] ++ wsX10)
def wsX1_handOn : List Cond := .code yX1_handOn cX1_handOn 7 none :: ([.fieldLink RX1 15 "SharedPage$FreeOrders" "followers" "[I", .fieldLink RX1 9 "SharedPage$FreeOrders" "ways" "[J", .methodLink RX1 23 yX1_waysFrom, .instanceMethod yX1_waysFrom, .selects RX1 yX1_waysFrom yX1_waysFrom, .initialized RX1, .code yX1_waysFrom cX1_waysFrom 2 (some .long)] ++ wsX10)
def wsX1_weigh_r1 : List Cond := [Cond.fieldLink RX1 27 "SharedPage$Copy" "length" "I", Cond.methodLink RX1 33 Lib.Math.min.name, Cond.static Lib.Math.min.name, Cond.initialized "java/lang/Math", Cond.code Lib.Math.min.name Lib.Math.min.code 2 (some .int), Cond.fieldLink RX1 9 "SharedPage$FreeOrders" "ways" "[J", Cond.methodLink RX1 52 yX1_listFollowers, Cond.instanceMethod yX1_listFollowers, Cond.selects RX1 yX1_listFollowers yX1_listFollowers, Cond.initialized RX1, Cond.code yX1_listFollowers cX1_listFollowers 5 none, Cond.fieldLink RX1 15 "SharedPage$FreeOrders" "followers" "[I", Cond.fieldLink RX1 39 "SharedPage$Copy" "text" "LSharedPage$Text;", Cond.methodLink RX1 43 yX0_characterAt, Cond.instanceMethod yX0_characterAt, Cond.selects RX0 yX0_characterAt yX0_characterAt, Cond.initialized RX0, Cond.code yX0_characterAt cX0_characterAt 2 (some .int), Cond.fieldLink RX0 32 "SharedPage$Copy" "length" "I", Cond.fieldLink RX0 15 "SharedPage$Copy" "sequence" "[I", Cond.methodLink RX1 60 yX2_leftOf, Cond.instanceMethod yX2_leftOf, Cond.selects RX2 yX2_leftOf yX2_leftOf, Cond.initialized RX2]
def wsX1_weigh_r2 : List Cond := [Cond.code yX2_leftOf cX2_leftOf 2 (some .int), Cond.fieldLink RX2 25 "SharedPage$Text" "lefts" "[I", Cond.methodLink RX2 61 yX2_hasCharacter, Cond.instanceMethod yX2_hasCharacter, Cond.selects RX2 yX2_hasCharacter yX2_hasCharacter, Cond.code yX2_hasCharacter cX2_hasCharacter 2 (some .boolean), Cond.fieldLink RX2 43 "SharedPage$Text" "characters" "I", Cond.methodLink RX1 63 yX0_placeOf, Cond.instanceMethod yX0_placeOf, Cond.selects RX0 yX0_placeOf yX0_placeOf, Cond.code yX0_placeOf cX0_placeOf 2 (some .int), Cond.fieldLink RX0 19 "SharedPage$Copy" "places" "[I", Cond.methodLink RX1 66 yX1_addFollower, Cond.instanceMethod yX1_addFollower, Cond.selects RX1 yX1_addFollower yX1_addFollower, Cond.code yX1_addFollower cX1_addFollower 4 none, Cond.methodLink RX1 70 yX2_rightOf, Cond.instanceMethod yX2_rightOf, Cond.selects RX2 yX2_rightOf yX2_rightOf, Cond.code yX2_rightOf cX2_rightOf 2 (some .int), Cond.fieldLink RX2 28 "SharedPage$Text" "rights" "[I", Cond.methodLink RX1 23 yX1_waysFrom, Cond.instanceMethod yX1_waysFrom, Cond.selects RX1 yX1_waysFrom yX1_waysFrom]
def wsX1_weigh_r3 : List Cond := [Cond.code yX1_waysFrom cX1_waysFrom 2 (some .long), Cond.methodLink RX1 56 yX1_handOn, Cond.instanceMethod yX1_handOn, Cond.selects RX1 yX1_handOn yX1_handOn, Cond.code yX1_handOn cX1_handOn 7 none]
def wsX1_weigh : List Cond := .code yX1_weigh cX1_weigh 5 none :: ((wsX1_weigh_r1 ++ (wsX1_weigh_r2 ++ wsX1_weigh_r3)) ++ wsX00 ++ wsX10 ++ wsX20)
def wsX1_countOf_r1 : List Cond := [Cond.methodLink RX1 19 yX1_weigh, Cond.instanceMethod yX1_weigh, Cond.selects RX1 yX1_weigh yX1_weigh, Cond.initialized RX1, Cond.code yX1_weigh cX1_weigh 5 none, Cond.fieldLink RX1 27 "SharedPage$Copy" "length" "I", Cond.methodLink RX1 33 Lib.Math.min.name, Cond.static Lib.Math.min.name, Cond.initialized "java/lang/Math", Cond.code Lib.Math.min.name Lib.Math.min.code 2 (some .int), Cond.fieldLink RX1 9 "SharedPage$FreeOrders" "ways" "[J", Cond.methodLink RX1 52 yX1_listFollowers, Cond.instanceMethod yX1_listFollowers, Cond.selects RX1 yX1_listFollowers yX1_listFollowers, Cond.code yX1_listFollowers cX1_listFollowers 5 none, Cond.fieldLink RX1 15 "SharedPage$FreeOrders" "followers" "[I", Cond.fieldLink RX1 39 "SharedPage$Copy" "text" "LSharedPage$Text;", Cond.methodLink RX1 43 yX0_characterAt, Cond.instanceMethod yX0_characterAt, Cond.selects RX0 yX0_characterAt yX0_characterAt, Cond.initialized RX0, Cond.code yX0_characterAt cX0_characterAt 2 (some .int), Cond.fieldLink RX0 32 "SharedPage$Copy" "length" "I", Cond.fieldLink RX0 15 "SharedPage$Copy" "sequence" "[I"]
def wsX1_countOf_r2 : List Cond := [Cond.methodLink RX1 60 yX2_leftOf, Cond.instanceMethod yX2_leftOf, Cond.selects RX2 yX2_leftOf yX2_leftOf, Cond.initialized RX2, Cond.code yX2_leftOf cX2_leftOf 2 (some .int), Cond.fieldLink RX2 25 "SharedPage$Text" "lefts" "[I", Cond.methodLink RX2 61 yX2_hasCharacter, Cond.instanceMethod yX2_hasCharacter, Cond.selects RX2 yX2_hasCharacter yX2_hasCharacter, Cond.code yX2_hasCharacter cX2_hasCharacter 2 (some .boolean), Cond.fieldLink RX2 43 "SharedPage$Text" "characters" "I", Cond.methodLink RX1 63 yX0_placeOf, Cond.instanceMethod yX0_placeOf, Cond.selects RX0 yX0_placeOf yX0_placeOf, Cond.code yX0_placeOf cX0_placeOf 2 (some .int), Cond.fieldLink RX0 19 "SharedPage$Copy" "places" "[I", Cond.methodLink RX1 66 yX1_addFollower, Cond.instanceMethod yX1_addFollower, Cond.selects RX1 yX1_addFollower yX1_addFollower, Cond.code yX1_addFollower cX1_addFollower 4 none, Cond.methodLink RX1 70 yX2_rightOf, Cond.instanceMethod yX2_rightOf, Cond.selects RX2 yX2_rightOf yX2_rightOf, Cond.code yX2_rightOf cX2_rightOf 2 (some .int)]
def wsX1_countOf_r3 : List Cond := [Cond.fieldLink RX2 28 "SharedPage$Text" "rights" "[I", Cond.methodLink RX1 23 yX1_waysFrom, Cond.instanceMethod yX1_waysFrom, Cond.selects RX1 yX1_waysFrom yX1_waysFrom, Cond.code yX1_waysFrom cX1_waysFrom 2 (some .long), Cond.methodLink RX1 56 yX1_handOn, Cond.instanceMethod yX1_handOn, Cond.selects RX1 yX1_handOn yX1_handOn, Cond.code yX1_handOn cX1_handOn 7 none]
def wsX1_countOf : List Cond := .code yX1_countOf cX1_countOf 2 (some .long) :: ((wsX1_countOf_r1 ++ (wsX1_countOf_r2 ++ wsX1_countOf_r3)) ++ wsX00 ++ wsX10 ++ wsX20)
def wsX1_rankOf_r1 : List Cond := [Cond.fieldLink RX1 27 "SharedPage$Copy" "length" "I", Cond.methodLink RX1 33 Lib.Math.min.name, Cond.static Lib.Math.min.name, Cond.initialized "java/lang/Math", Cond.code Lib.Math.min.name Lib.Math.min.code 2 (some .int), Cond.fieldLink RX1 39 "SharedPage$Copy" "text" "LSharedPage$Text;", Cond.methodLink RX1 19 yX1_weigh, Cond.instanceMethod yX1_weigh, Cond.selects RX1 yX1_weigh yX1_weigh, Cond.initialized RX1, Cond.code yX1_weigh cX1_weigh 5 none, Cond.fieldLink RX1 9 "SharedPage$FreeOrders" "ways" "[J", Cond.methodLink RX1 52 yX1_listFollowers, Cond.instanceMethod yX1_listFollowers, Cond.selects RX1 yX1_listFollowers yX1_listFollowers, Cond.code yX1_listFollowers cX1_listFollowers 5 none, Cond.fieldLink RX1 15 "SharedPage$FreeOrders" "followers" "[I", Cond.methodLink RX1 43 yX0_characterAt, Cond.instanceMethod yX0_characterAt, Cond.selects RX0 yX0_characterAt yX0_characterAt, Cond.initialized RX0, Cond.code yX0_characterAt cX0_characterAt 2 (some .int), Cond.fieldLink RX0 32 "SharedPage$Copy" "length" "I", Cond.fieldLink RX0 15 "SharedPage$Copy" "sequence" "[I"]
def wsX1_rankOf_r2 : List Cond := [Cond.methodLink RX1 60 yX2_leftOf, Cond.instanceMethod yX2_leftOf, Cond.selects RX2 yX2_leftOf yX2_leftOf, Cond.initialized RX2, Cond.code yX2_leftOf cX2_leftOf 2 (some .int), Cond.fieldLink RX2 25 "SharedPage$Text" "lefts" "[I", Cond.methodLink RX2 61 yX2_hasCharacter, Cond.instanceMethod yX2_hasCharacter, Cond.selects RX2 yX2_hasCharacter yX2_hasCharacter, Cond.code yX2_hasCharacter cX2_hasCharacter 2 (some .boolean), Cond.fieldLink RX2 43 "SharedPage$Text" "characters" "I", Cond.methodLink RX1 63 yX0_placeOf, Cond.instanceMethod yX0_placeOf, Cond.selects RX0 yX0_placeOf yX0_placeOf, Cond.code yX0_placeOf cX0_placeOf 2 (some .int), Cond.fieldLink RX0 19 "SharedPage$Copy" "places" "[I", Cond.methodLink RX1 66 yX1_addFollower, Cond.instanceMethod yX1_addFollower, Cond.selects RX1 yX1_addFollower yX1_addFollower, Cond.code yX1_addFollower cX1_addFollower 4 none, Cond.methodLink RX1 70 yX2_rightOf, Cond.instanceMethod yX2_rightOf, Cond.selects RX2 yX2_rightOf yX2_rightOf, Cond.code yX2_rightOf cX2_rightOf 2 (some .int)]
def wsX1_rankOf_r3 : List Cond := [Cond.fieldLink RX2 28 "SharedPage$Text" "rights" "[I", Cond.methodLink RX1 23 yX1_waysFrom, Cond.instanceMethod yX1_waysFrom, Cond.selects RX1 yX1_waysFrom yX1_waysFrom, Cond.code yX1_waysFrom cX1_waysFrom 2 (some .long), Cond.methodLink RX1 56 yX1_handOn, Cond.instanceMethod yX1_handOn, Cond.selects RX1 yX1_handOn yX1_handOn, Cond.code yX1_handOn cX1_handOn 7 none, Cond.methodLink RX1 47 yX2_markOf, Cond.instanceMethod yX2_markOf, Cond.selects RX2 yX2_markOf yX2_markOf, Cond.code yX2_markOf cX2_markOf 2 (some .int), Cond.fieldLink RX2 19 "SharedPage$Text" "marks" "[I"]
def wsX1_rankOf : List Cond := .code yX1_rankOf cX1_rankOf 9 (some .long) :: ((wsX1_rankOf_r1 ++ (wsX1_rankOf_r2 ++ wsX1_rankOf_r3)) ++ wsX00 ++ wsX10 ++ wsX20)
def wsX2_init : List Cond := .code yX2_init cX2_init 2 none :: ([.methodLink RX2 3 objectInit, .instanceMethod objectInit, .code objectInit ⟨#[0xb1]⟩ 1 none, .fieldLink RX2 9 "SharedPage$Text" "woot" "Z", .arrayClass .int, .fieldLink RX2 15 "SharedPage$Text" "sites" "[I", .fieldLink RX2 19 "SharedPage$Text" "marks" "[I", .fieldLink RX2 22 "SharedPage$Text" "letters" "[I", .fieldLink RX2 25 "SharedPage$Text" "lefts" "[I", .fieldLink RX2 28 "SharedPage$Text" "rights" "[I", .fieldLink RX2 31 "SharedPage$Text" "kinds" "[I", .fieldLink RX2 34 "SharedPage$Text" "makers" "[I", .fieldLink RX2 37 "SharedPage$Text" "subjects" "[I", .fieldLink RX2 40 "SharedPage$Text" "madeBy" "[I", .fieldLink RX2 43 "SharedPage$Text" "characters" "I", .fieldLink RX2 47 "SharedPage$Text" "messages" "I", .fieldLink RX2 50 "SharedPage$Text" "erases" "I"] ++ wsX20)
def wsX2_addMessage : List Cond := .code yX2_addMessage cX2_addMessage 5 (some .int) :: ([.fieldLink RX2 47 "SharedPage$Text" "messages" "I", .fieldLink RX2 31 "SharedPage$Text" "kinds" "[I", .fieldLink RX2 34 "SharedPage$Text" "makers" "[I", .fieldLink RX2 37 "SharedPage$Text" "subjects" "[I"] ++ wsX20)
def wsX2_addInsert : List Cond := .code yX2_addInsert cX2_addInsert 6 (some .int) :: ([.fieldLink RX2 43 "SharedPage$Text" "characters" "I", .fieldLink RX2 15 "SharedPage$Text" "sites" "[I", .fieldLink RX2 19 "SharedPage$Text" "marks" "[I", .fieldLink RX2 40 "SharedPage$Text" "madeBy" "[I", .fieldLink RX2 22 "SharedPage$Text" "letters" "[I", .fieldLink RX2 25 "SharedPage$Text" "lefts" "[I", .fieldLink RX2 28 "SharedPage$Text" "rights" "[I", .methodLink RX2 53 yX2_addMessage, .instanceMethod yX2_addMessage, .selects RX2 yX2_addMessage yX2_addMessage, .initialized RX2, .code yX2_addMessage cX2_addMessage 5 (some .int), .fieldLink RX2 47 "SharedPage$Text" "messages" "I", .fieldLink RX2 31 "SharedPage$Text" "kinds" "[I", .fieldLink RX2 34 "SharedPage$Text" "makers" "[I", .fieldLink RX2 37 "SharedPage$Text" "subjects" "[I"] ++ wsX20)
def wsX2_addErase : List Cond := .code yX2_addErase cX2_addErase 3 (some .int) :: ([.fieldLink RX2 50 "SharedPage$Text" "erases" "I", .methodLink RX2 53 yX2_addMessage, .instanceMethod yX2_addMessage, .selects RX2 yX2_addMessage yX2_addMessage, .initialized RX2, .code yX2_addMessage cX2_addMessage 5 (some .int), .fieldLink RX2 47 "SharedPage$Text" "messages" "I", .fieldLink RX2 31 "SharedPage$Text" "kinds" "[I", .fieldLink RX2 34 "SharedPage$Text" "makers" "[I", .fieldLink RX2 37 "SharedPage$Text" "subjects" "[I"] ++ wsX20)
def wsX2_makerOf : List Cond := .code yX2_makerOf cX2_makerOf 2 (some .int) :: ([.fieldLink RX2 34 "SharedPage$Text" "makers" "[I", .methodLink RX2 57 yX2_hasMessage, .instanceMethod yX2_hasMessage, .selects RX2 yX2_hasMessage yX2_hasMessage, .initialized RX2, .code yX2_hasMessage cX2_hasMessage 2 (some .boolean), .fieldLink RX2 47 "SharedPage$Text" "messages" "I"] ++ wsX20)
def wsX2_letterOf : List Cond := .code yX2_letterOf cX2_letterOf 2 (some .int) :: ([.fieldLink RX2 22 "SharedPage$Text" "letters" "[I", .methodLink RX2 61 yX2_hasCharacter, .instanceMethod yX2_hasCharacter, .selects RX2 yX2_hasCharacter yX2_hasCharacter, .initialized RX2, .code yX2_hasCharacter cX2_hasCharacter 2 (some .boolean), .fieldLink RX2 43 "SharedPage$Text" "characters" "I"] ++ wsX20)
def wsX3_init_r1 : List Cond := [Cond.methodLink RX3 3 objectInit, Cond.instanceMethod objectInit, Cond.code objectInit ⟨#[0xb1]⟩ 1 none, Cond.classLink RX3 9 RX2, Cond.fieldLink RX3 11 "SharedPage" "texts" "[LSharedPage$Text;", Cond.classLink RX3 15 RX0, Cond.fieldLink RX3 17 "SharedPage" "copies" "[LSharedPage$Copy;", Cond.fieldLink RX3 21 "SharedPage" "spares" "[LSharedPage$Copy;", Cond.instantiable RX2 13, Cond.initialized RX2, Cond.instantiable RX0 12, Cond.initialized RX0, Cond.classLink RX3 30 RX1, Cond.instantiable RX1 2, Cond.initialized RX1, Cond.fieldLink RX3 33 "SharedPage" "freeOrders" "LSharedPage$FreeOrders;", Cond.arrayClass .int, Cond.fieldLink RX3 37 "SharedPage" "drawing" "[I", Cond.fieldLink RX3 41 "SharedPage" "written" "[I", Cond.fieldLink RX3 44 "SharedPage" "writtenLength" "I", Cond.methodLink RX3 24 yX2_init, Cond.instanceMethod yX2_init, Cond.code yX2_init cX2_init 2 none, Cond.methodLink RX2 3 objectInit]
def wsX3_init_r2 : List Cond := [Cond.fieldLink RX2 9 "SharedPage$Text" "woot" "Z", Cond.fieldLink RX2 15 "SharedPage$Text" "sites" "[I", Cond.fieldLink RX2 19 "SharedPage$Text" "marks" "[I", Cond.fieldLink RX2 22 "SharedPage$Text" "letters" "[I", Cond.fieldLink RX2 25 "SharedPage$Text" "lefts" "[I", Cond.fieldLink RX2 28 "SharedPage$Text" "rights" "[I", Cond.fieldLink RX2 31 "SharedPage$Text" "kinds" "[I", Cond.fieldLink RX2 34 "SharedPage$Text" "makers" "[I", Cond.fieldLink RX2 37 "SharedPage$Text" "subjects" "[I", Cond.fieldLink RX2 40 "SharedPage$Text" "madeBy" "[I", Cond.fieldLink RX2 43 "SharedPage$Text" "characters" "I", Cond.fieldLink RX2 47 "SharedPage$Text" "messages" "I", Cond.fieldLink RX2 50 "SharedPage$Text" "erases" "I", Cond.methodLink RX3 27 yX0_init, Cond.instanceMethod yX0_init, Cond.code yX0_init cX0_init 2 none, Cond.methodLink RX0 3 objectInit, Cond.fieldLink RX0 9 "SharedPage$Copy" "text" "LSharedPage$Text;", Cond.fieldLink RX0 15 "SharedPage$Copy" "sequence" "[I", Cond.fieldLink RX0 19 "SharedPage$Copy" "places" "[I", Cond.arrayClass .boolean, Cond.fieldLink RX0 22 "SharedPage$Copy" "erased" "[Z", Cond.fieldLink RX0 26 "SharedPage$Copy" "states" "[I", Cond.methodLink RX0 29 yX0_makeEmpty]
def wsX3_init_r3 : List Cond := [Cond.instanceMethod yX0_makeEmpty, Cond.selects RX0 yX0_makeEmpty yX0_makeEmpty, Cond.code yX0_makeEmpty cX0_makeEmpty 2 none, Cond.fieldLink RX0 32 "SharedPage$Copy" "length" "I", Cond.fieldLink RX0 36 "SharedPage$Copy" "seen" "I", Cond.fieldLink RX0 39 "SharedPage$Copy" "done" "I", Cond.fieldLink RX0 42 "SharedPage$Copy" "waiting" "I", Cond.fieldLink RX0 45 "SharedPage$Copy" "looks" "I", Cond.fieldLink RX0 48 "SharedPage$Copy" "looksOfCall" "I", Cond.fieldLink RX0 51 "SharedPage$Copy" "integratedInCall" "I", Cond.methodLink RX3 32 yX1_init, Cond.instanceMethod yX1_init, Cond.code yX1_init cX1_init 1 none, Cond.methodLink RX1 3 objectInit, Cond.arrayClass .long, Cond.fieldLink RX1 9 "SharedPage$FreeOrders" "ways" "[J", Cond.fieldLink RX1 15 "SharedPage$FreeOrders" "followers" "[I"]
def wsX3_init : List Cond := .code yX3_init cX3_init 4 none :: ((wsX3_init_r1 ++ (wsX3_init_r2 ++ wsX3_init_r3)) ++ wsX30 ++ wsX20 ++ wsX00 ++ wsX10)
def wsX3_copyAt : List Cond := .code yX3_copyAt cX3_copyAt 4 (some (.object "SharedPage$Copy")) :: ([.fieldLink RX3 17 "SharedPage" "copies" "[LSharedPage$Copy;"] ++ wsX30)
def wsX3_insert_r1 : List Cond := [Cond.fieldLink RX3 52 "SharedPage$Copy" "seen" "I", Cond.fieldLink RX3 62 "SharedPage$Copy" "text" "LSharedPage$Text;", Cond.methodLink RX3 48 yX3_copyAt, Cond.instanceMethod yX3_copyAt, Cond.selects RX3 yX3_copyAt yX3_copyAt, Cond.initialized RX3, Cond.code yX3_copyAt cX3_copyAt 4 (some (.object "SharedPage$Copy")), Cond.fieldLink RX3 17 "SharedPage" "copies" "[LSharedPage$Copy;", Cond.methodLink RX3 55 yX0_leftForPlace, Cond.instanceMethod yX0_leftForPlace, Cond.selects RX0 yX0_leftForPlace yX0_leftForPlace, Cond.initialized RX0, Cond.code yX0_leftForPlace cX0_leftForPlace 2 (some .int), Cond.methodLink RX0 138 yX0_seenAt, Cond.instanceMethod yX0_seenAt, Cond.selects RX0 yX0_seenAt yX0_seenAt, Cond.code yX0_seenAt cX0_seenAt 5 (some .int), Cond.fieldLink RX0 32 "SharedPage$Copy" "length" "I", Cond.methodLink RX0 128 yX0_characterAt, Cond.instanceMethod yX0_characterAt, Cond.selects RX0 yX0_characterAt yX0_characterAt, Cond.code yX0_characterAt cX0_characterAt 2 (some .int), Cond.fieldLink RX0 15 "SharedPage$Copy" "sequence" "[I", Cond.methodLink RX0 119 yX0_isSeen]
def wsX3_insert_r2 : List Cond := [Cond.instanceMethod yX0_isSeen, Cond.selects RX0 yX0_isSeen yX0_isSeen, Cond.code yX0_isSeen cX0_isSeen 2 (some .boolean), Cond.fieldLink RX0 19 "SharedPage$Copy" "places" "[I", Cond.fieldLink RX0 22 "SharedPage$Copy" "erased" "[Z", Cond.methodLink RX3 59 yX0_rightForPlace, Cond.instanceMethod yX0_rightForPlace, Cond.selects RX0 yX0_rightForPlace yX0_rightForPlace, Cond.code yX0_rightForPlace cX0_rightForPlace 2 (some .int), Cond.fieldLink RX0 9 "SharedPage$Copy" "text" "LSharedPage$Text;", Cond.fieldLink RX0 106 "SharedPage$Text" "woot" "Z", Cond.methodLink RX0 141 yX0_leftForPlace, Cond.methodLink RX0 94 yX0_placeOf, Cond.instanceMethod yX0_placeOf, Cond.selects RX0 yX0_placeOf yX0_placeOf, Cond.code yX0_placeOf cX0_placeOf 2 (some .int), Cond.methodLink RX3 66 yX2_addInsert, Cond.instanceMethod yX2_addInsert, Cond.selects RX2 yX2_addInsert yX2_addInsert, Cond.initialized RX2, Cond.code yX2_addInsert cX2_addInsert 6 (some .int), Cond.fieldLink RX2 43 "SharedPage$Text" "characters" "I", Cond.fieldLink RX2 15 "SharedPage$Text" "sites" "[I", Cond.fieldLink RX2 19 "SharedPage$Text" "marks" "[I"]
def wsX3_insert_r3 : List Cond := [Cond.fieldLink RX2 40 "SharedPage$Text" "madeBy" "[I", Cond.fieldLink RX2 22 "SharedPage$Text" "letters" "[I", Cond.fieldLink RX2 25 "SharedPage$Text" "lefts" "[I", Cond.fieldLink RX2 28 "SharedPage$Text" "rights" "[I", Cond.methodLink RX2 53 yX2_addMessage, Cond.instanceMethod yX2_addMessage, Cond.selects RX2 yX2_addMessage yX2_addMessage, Cond.code yX2_addMessage cX2_addMessage 5 (some .int), Cond.fieldLink RX2 47 "SharedPage$Text" "messages" "I", Cond.fieldLink RX2 31 "SharedPage$Text" "kinds" "[I", Cond.fieldLink RX2 34 "SharedPage$Text" "makers" "[I", Cond.fieldLink RX2 37 "SharedPage$Text" "subjects" "[I", Cond.methodLink RX3 70 yX0_doOwn, Cond.instanceMethod yX0_doOwn, Cond.selects RX0 yX0_doOwn yX0_doOwn, Cond.code yX0_doOwn cX0_doOwn 2 none, Cond.methodLink RX0 54 yX2_hasMessage, Cond.instanceMethod yX2_hasMessage, Cond.selects RX2 yX2_hasMessage yX2_hasMessage, Cond.code yX2_hasMessage cX2_hasMessage 2 (some .boolean), Cond.methodLink RX0 60 yX0_startCall, Cond.instanceMethod yX0_startCall, Cond.selects RX0 yX0_startCall yX0_startCall, Cond.code yX0_startCall cX0_startCall 1 none]
def wsX3_insert_r4 : List Cond := [Cond.fieldLink RX0 48 "SharedPage$Copy" "looksOfCall" "I", Cond.fieldLink RX0 51 "SharedPage$Copy" "integratedInCall" "I", Cond.methodLink RX0 63 yX0_carryOut, Cond.instanceMethod yX0_carryOut, Cond.selects RX0 yX0_carryOut yX0_carryOut, Cond.code yX0_carryOut cX0_carryOut 3 none, Cond.fieldLink RX0 39 "SharedPage$Copy" "done" "I", Cond.methodLink RX0 88 yX2_subjectOf, Cond.instanceMethod yX2_subjectOf, Cond.selects RX2 yX2_subjectOf yX2_subjectOf, Cond.code yX2_subjectOf cX2_subjectOf 2 (some .int), Cond.methodLink RX2 57 yX2_hasMessage, Cond.methodLink RX0 77 yX0_setState, Cond.instanceMethod yX0_setState, Cond.selects RX0 yX0_setState yX0_setState, Cond.code yX0_setState cX0_setState 3 none, Cond.fieldLink RX0 26 "SharedPage$Copy" "states" "[I", Cond.methodLink RX0 91 yX2_kindOf, Cond.instanceMethod yX2_kindOf, Cond.selects RX2 yX2_kindOf yX2_kindOf, Cond.code yX2_kindOf cX2_kindOf 2 (some .int), Cond.methodLink RX0 103 yX0_strike, Cond.instanceMethod yX0_strike, Cond.selects RX0 yX0_strike yX0_strike]
def wsX3_insert_r5 : List Cond := [Cond.code yX0_strike cX0_strike 2 none, Cond.fieldLink RX0 36 "SharedPage$Copy" "seen" "I", Cond.methodLink RX0 110 yX0_wootPlace, Cond.instanceMethod yX0_wootPlace, Cond.selects RX0 yX0_wootPlace yX0_wootPlace, Cond.code yX0_wootPlace cX0_wootPlace 10 (some .int), Cond.methodLink RX0 97 yX2_leftOf, Cond.instanceMethod yX2_leftOf, Cond.selects RX2 yX2_leftOf yX2_leftOf, Cond.code yX2_leftOf cX2_leftOf 2 (some .int), Cond.methodLink RX2 61 yX2_hasCharacter, Cond.instanceMethod yX2_hasCharacter, Cond.selects RX2 yX2_hasCharacter yX2_hasCharacter, Cond.code yX2_hasCharacter cX2_hasCharacter 2 (some .boolean), Cond.methodLink RX0 100 yX2_rightOf, Cond.instanceMethod yX2_rightOf, Cond.selects RX2 yX2_rightOf yX2_rightOf, Cond.code yX2_rightOf cX2_rightOf 2 (some .int), Cond.methodLink RX0 125 yX2_markOf, Cond.instanceMethod yX2_markOf, Cond.selects RX2 yX2_markOf yX2_markOf, Cond.code yX2_markOf cX2_markOf 2 (some .int), Cond.methodLink RX0 131 yX0_spans, Cond.instanceMethod yX0_spans]
def wsX3_insert_r6 : List Cond := [Cond.selects RX0 yX0_spans yX0_spans, Cond.code yX0_spans cX0_spans 4 (some .boolean), Cond.methodLink RX0 113 yX0_yataPlace, Cond.instanceMethod yX0_yataPlace, Cond.selects RX0 yX0_yataPlace yX0_yataPlace, Cond.code yX0_yataPlace cX0_yataPlace 9 (some .int), Cond.methodLink RX0 135 yX2_siteOf, Cond.instanceMethod yX2_siteOf, Cond.selects RX2 yX2_siteOf yX2_siteOf, Cond.code yX2_siteOf cX2_siteOf 2 (some .int), Cond.methodLink RX0 116 yX0_putAt, Cond.instanceMethod yX0_putAt, Cond.selects RX0 yX0_putAt yX0_putAt, Cond.code yX0_putAt cX0_putAt 4 none, Cond.methodLink RX0 122 yX0_setPlace, Cond.instanceMethod yX0_setPlace, Cond.selects RX0 yX0_setPlace yX0_setPlace, Cond.code yX0_setPlace cX0_setPlace 3 none, Cond.methodLink RX0 67 yX0_endCall, Cond.instanceMethod yX0_endCall, Cond.selects RX0 yX0_endCall yX0_endCall, Cond.code yX0_endCall cX0_endCall 1 none, Cond.fieldLink RX0 45 "SharedPage$Copy" "looks" "I"]
def wsX3_insert : List Cond := .code yX3_insert cX3_insert 9 (some .int) :: ((wsX3_insert_r1 ++ (wsX3_insert_r2 ++ (wsX3_insert_r3 ++ (wsX3_insert_r4 ++ (wsX3_insert_r5 ++ wsX3_insert_r6))))) ++ wsX00 ++ wsX30 ++ wsX20)
def wsX3_erase_r1 : List Cond := [Cond.fieldLink RX3 52 "SharedPage$Copy" "seen" "I", Cond.fieldLink RX3 62 "SharedPage$Copy" "text" "LSharedPage$Text;", Cond.methodLink RX3 48 yX3_copyAt, Cond.instanceMethod yX3_copyAt, Cond.selects RX3 yX3_copyAt yX3_copyAt, Cond.initialized RX3, Cond.code yX3_copyAt cX3_copyAt 4 (some (.object "SharedPage$Copy")), Cond.fieldLink RX3 17 "SharedPage" "copies" "[LSharedPage$Copy;", Cond.methodLink RX3 74 yX0_seenAt, Cond.instanceMethod yX0_seenAt, Cond.selects RX0 yX0_seenAt yX0_seenAt, Cond.initialized RX0, Cond.code yX0_seenAt cX0_seenAt 5 (some .int), Cond.fieldLink RX0 32 "SharedPage$Copy" "length" "I", Cond.methodLink RX0 128 yX0_characterAt, Cond.instanceMethod yX0_characterAt, Cond.selects RX0 yX0_characterAt yX0_characterAt, Cond.code yX0_characterAt cX0_characterAt 2 (some .int), Cond.fieldLink RX0 15 "SharedPage$Copy" "sequence" "[I", Cond.methodLink RX0 119 yX0_isSeen, Cond.instanceMethod yX0_isSeen, Cond.selects RX0 yX0_isSeen yX0_isSeen, Cond.code yX0_isSeen cX0_isSeen 2 (some .boolean), Cond.fieldLink RX0 19 "SharedPage$Copy" "places" "[I"]
def wsX3_erase_r2 : List Cond := [Cond.fieldLink RX0 22 "SharedPage$Copy" "erased" "[Z", Cond.methodLink RX3 77 yX2_addErase, Cond.instanceMethod yX2_addErase, Cond.selects RX2 yX2_addErase yX2_addErase, Cond.initialized RX2, Cond.code yX2_addErase cX2_addErase 3 (some .int), Cond.fieldLink RX2 50 "SharedPage$Text" "erases" "I", Cond.methodLink RX2 53 yX2_addMessage, Cond.instanceMethod yX2_addMessage, Cond.selects RX2 yX2_addMessage yX2_addMessage, Cond.code yX2_addMessage cX2_addMessage 5 (some .int), Cond.fieldLink RX2 47 "SharedPage$Text" "messages" "I", Cond.fieldLink RX2 31 "SharedPage$Text" "kinds" "[I", Cond.fieldLink RX2 34 "SharedPage$Text" "makers" "[I", Cond.fieldLink RX2 37 "SharedPage$Text" "subjects" "[I", Cond.methodLink RX3 70 yX0_doOwn, Cond.instanceMethod yX0_doOwn, Cond.selects RX0 yX0_doOwn yX0_doOwn, Cond.code yX0_doOwn cX0_doOwn 2 none, Cond.fieldLink RX0 9 "SharedPage$Copy" "text" "LSharedPage$Text;", Cond.methodLink RX0 54 yX2_hasMessage, Cond.instanceMethod yX2_hasMessage, Cond.selects RX2 yX2_hasMessage yX2_hasMessage, Cond.code yX2_hasMessage cX2_hasMessage 2 (some .boolean)]
def wsX3_erase_r3 : List Cond := [Cond.methodLink RX0 60 yX0_startCall, Cond.instanceMethod yX0_startCall, Cond.selects RX0 yX0_startCall yX0_startCall, Cond.code yX0_startCall cX0_startCall 1 none, Cond.fieldLink RX0 48 "SharedPage$Copy" "looksOfCall" "I", Cond.fieldLink RX0 51 "SharedPage$Copy" "integratedInCall" "I", Cond.methodLink RX0 63 yX0_carryOut, Cond.instanceMethod yX0_carryOut, Cond.selects RX0 yX0_carryOut yX0_carryOut, Cond.code yX0_carryOut cX0_carryOut 3 none, Cond.fieldLink RX0 39 "SharedPage$Copy" "done" "I", Cond.fieldLink RX0 106 "SharedPage$Text" "woot" "Z", Cond.methodLink RX0 88 yX2_subjectOf, Cond.instanceMethod yX2_subjectOf, Cond.selects RX2 yX2_subjectOf yX2_subjectOf, Cond.code yX2_subjectOf cX2_subjectOf 2 (some .int), Cond.methodLink RX2 57 yX2_hasMessage, Cond.methodLink RX0 77 yX0_setState, Cond.instanceMethod yX0_setState, Cond.selects RX0 yX0_setState yX0_setState, Cond.code yX0_setState cX0_setState 3 none, Cond.fieldLink RX0 26 "SharedPage$Copy" "states" "[I", Cond.methodLink RX0 91 yX2_kindOf, Cond.instanceMethod yX2_kindOf]
def wsX3_erase_r4 : List Cond := [Cond.selects RX2 yX2_kindOf yX2_kindOf, Cond.code yX2_kindOf cX2_kindOf 2 (some .int), Cond.methodLink RX0 103 yX0_strike, Cond.instanceMethod yX0_strike, Cond.selects RX0 yX0_strike yX0_strike, Cond.code yX0_strike cX0_strike 2 none, Cond.fieldLink RX0 36 "SharedPage$Copy" "seen" "I", Cond.methodLink RX0 110 yX0_wootPlace, Cond.instanceMethod yX0_wootPlace, Cond.selects RX0 yX0_wootPlace yX0_wootPlace, Cond.code yX0_wootPlace cX0_wootPlace 10 (some .int), Cond.methodLink RX0 97 yX2_leftOf, Cond.instanceMethod yX2_leftOf, Cond.selects RX2 yX2_leftOf yX2_leftOf, Cond.code yX2_leftOf cX2_leftOf 2 (some .int), Cond.fieldLink RX2 25 "SharedPage$Text" "lefts" "[I", Cond.methodLink RX2 61 yX2_hasCharacter, Cond.instanceMethod yX2_hasCharacter, Cond.selects RX2 yX2_hasCharacter yX2_hasCharacter, Cond.code yX2_hasCharacter cX2_hasCharacter 2 (some .boolean), Cond.fieldLink RX2 43 "SharedPage$Text" "characters" "I", Cond.methodLink RX0 94 yX0_placeOf, Cond.instanceMethod yX0_placeOf, Cond.selects RX0 yX0_placeOf yX0_placeOf]
def wsX3_erase_r5 : List Cond := [Cond.code yX0_placeOf cX0_placeOf 2 (some .int), Cond.methodLink RX0 100 yX2_rightOf, Cond.instanceMethod yX2_rightOf, Cond.selects RX2 yX2_rightOf yX2_rightOf, Cond.code yX2_rightOf cX2_rightOf 2 (some .int), Cond.fieldLink RX2 28 "SharedPage$Text" "rights" "[I", Cond.methodLink RX0 125 yX2_markOf, Cond.instanceMethod yX2_markOf, Cond.selects RX2 yX2_markOf yX2_markOf, Cond.code yX2_markOf cX2_markOf 2 (some .int), Cond.fieldLink RX2 19 "SharedPage$Text" "marks" "[I", Cond.methodLink RX0 131 yX0_spans, Cond.instanceMethod yX0_spans, Cond.selects RX0 yX0_spans yX0_spans, Cond.code yX0_spans cX0_spans 4 (some .boolean), Cond.methodLink RX0 113 yX0_yataPlace, Cond.instanceMethod yX0_yataPlace, Cond.selects RX0 yX0_yataPlace yX0_yataPlace, Cond.code yX0_yataPlace cX0_yataPlace 9 (some .int), Cond.methodLink RX0 135 yX2_siteOf, Cond.instanceMethod yX2_siteOf, Cond.selects RX2 yX2_siteOf yX2_siteOf, Cond.code yX2_siteOf cX2_siteOf 2 (some .int), Cond.fieldLink RX2 15 "SharedPage$Text" "sites" "[I"]
def wsX3_erase_r6 : List Cond := [Cond.methodLink RX0 116 yX0_putAt, Cond.instanceMethod yX0_putAt, Cond.selects RX0 yX0_putAt yX0_putAt, Cond.code yX0_putAt cX0_putAt 4 none, Cond.methodLink RX0 122 yX0_setPlace, Cond.instanceMethod yX0_setPlace, Cond.selects RX0 yX0_setPlace yX0_setPlace, Cond.code yX0_setPlace cX0_setPlace 3 none, Cond.methodLink RX0 67 yX0_endCall, Cond.instanceMethod yX0_endCall, Cond.selects RX0 yX0_endCall yX0_endCall, Cond.code yX0_endCall cX0_endCall 1 none, Cond.fieldLink RX0 45 "SharedPage$Copy" "looks" "I"]
def wsX3_erase : List Cond := .code yX3_erase cX3_erase 6 (some .int) :: ((wsX3_erase_r1 ++ (wsX3_erase_r2 ++ (wsX3_erase_r3 ++ (wsX3_erase_r4 ++ (wsX3_erase_r5 ++ wsX3_erase_r6))))) ++ wsX00 ++ wsX30 ++ wsX20)
def wsX3_tell_r1 : List Cond := [Cond.fieldLink RX3 62 "SharedPage$Copy" "text" "LSharedPage$Text;", Cond.methodLink RX3 48 yX3_copyAt, Cond.instanceMethod yX3_copyAt, Cond.selects RX3 yX3_copyAt yX3_copyAt, Cond.initialized RX3, Cond.code yX3_copyAt cX3_copyAt 4 (some (.object "SharedPage$Copy")), Cond.fieldLink RX3 17 "SharedPage" "copies" "[LSharedPage$Copy;", Cond.methodLink RX3 81 yX2_hasMessage, Cond.instanceMethod yX2_hasMessage, Cond.selects RX2 yX2_hasMessage yX2_hasMessage, Cond.initialized RX2, Cond.code yX2_hasMessage cX2_hasMessage 2 (some .boolean), Cond.fieldLink RX2 47 "SharedPage$Text" "messages" "I", Cond.methodLink RX3 85 yX0_startCall, Cond.instanceMethod yX0_startCall, Cond.selects RX0 yX0_startCall yX0_startCall, Cond.initialized RX0, Cond.code yX0_startCall cX0_startCall 1 none, Cond.fieldLink RX0 48 "SharedPage$Copy" "looksOfCall" "I", Cond.fieldLink RX0 51 "SharedPage$Copy" "integratedInCall" "I", Cond.methodLink RX3 88 yX0_hear, Cond.instanceMethod yX0_hear, Cond.selects RX0 yX0_hear yX0_hear, Cond.code yX0_hear cX0_hear 5 (some .int)]
def wsX3_tell_r2 : List Cond := [Cond.fieldLink RX0 9 "SharedPage$Copy" "text" "LSharedPage$Text;", Cond.fieldLink RX0 42 "SharedPage$Copy" "waiting" "I", Cond.methodLink RX0 54 yX2_hasMessage, Cond.methodLink RX0 70 yX0_stateOf, Cond.instanceMethod yX0_stateOf, Cond.selects RX0 yX0_stateOf yX0_stateOf, Cond.code yX0_stateOf cX0_stateOf 2 (some .int), Cond.fieldLink RX0 26 "SharedPage$Copy" "states" "[I", Cond.methodLink RX0 74 yX0_canBeDone, Cond.instanceMethod yX0_canBeDone, Cond.selects RX0 yX0_canBeDone yX0_canBeDone, Cond.code yX0_canBeDone cX0_canBeDone 3 (some .boolean), Cond.methodLink RX0 88 yX2_subjectOf, Cond.instanceMethod yX2_subjectOf, Cond.selects RX2 yX2_subjectOf yX2_subjectOf, Cond.code yX2_subjectOf cX2_subjectOf 2 (some .int), Cond.fieldLink RX2 37 "SharedPage$Text" "subjects" "[I", Cond.methodLink RX2 57 yX2_hasMessage, Cond.methodLink RX0 91 yX2_kindOf, Cond.instanceMethod yX2_kindOf, Cond.selects RX2 yX2_kindOf yX2_kindOf, Cond.code yX2_kindOf cX2_kindOf 2 (some .int), Cond.fieldLink RX2 31 "SharedPage$Text" "kinds" "[I", Cond.methodLink RX0 94 yX0_placeOf]
def wsX3_tell_r3 : List Cond := [Cond.instanceMethod yX0_placeOf, Cond.selects RX0 yX0_placeOf yX0_placeOf, Cond.code yX0_placeOf cX0_placeOf 2 (some .int), Cond.fieldLink RX0 19 "SharedPage$Copy" "places" "[I", Cond.fieldLink RX0 32 "SharedPage$Copy" "length" "I", Cond.methodLink RX0 97 yX2_leftOf, Cond.instanceMethod yX2_leftOf, Cond.selects RX2 yX2_leftOf yX2_leftOf, Cond.code yX2_leftOf cX2_leftOf 2 (some .int), Cond.fieldLink RX2 25 "SharedPage$Text" "lefts" "[I", Cond.methodLink RX2 61 yX2_hasCharacter, Cond.instanceMethod yX2_hasCharacter, Cond.selects RX2 yX2_hasCharacter yX2_hasCharacter, Cond.code yX2_hasCharacter cX2_hasCharacter 2 (some .boolean), Cond.fieldLink RX2 43 "SharedPage$Text" "characters" "I", Cond.methodLink RX0 100 yX2_rightOf, Cond.instanceMethod yX2_rightOf, Cond.selects RX2 yX2_rightOf yX2_rightOf, Cond.code yX2_rightOf cX2_rightOf 2 (some .int), Cond.fieldLink RX2 28 "SharedPage$Text" "rights" "[I", Cond.methodLink RX0 77 yX0_setState, Cond.instanceMethod yX0_setState, Cond.selects RX0 yX0_setState yX0_setState, Cond.code yX0_setState cX0_setState 3 none]
def wsX3_tell_r4 : List Cond := [Cond.methodLink RX0 63 yX0_carryOut, Cond.instanceMethod yX0_carryOut, Cond.selects RX0 yX0_carryOut yX0_carryOut, Cond.code yX0_carryOut cX0_carryOut 3 none, Cond.fieldLink RX0 39 "SharedPage$Copy" "done" "I", Cond.fieldLink RX0 106 "SharedPage$Text" "woot" "Z", Cond.methodLink RX0 103 yX0_strike, Cond.instanceMethod yX0_strike, Cond.selects RX0 yX0_strike yX0_strike, Cond.code yX0_strike cX0_strike 2 none, Cond.fieldLink RX0 22 "SharedPage$Copy" "erased" "[Z", Cond.fieldLink RX0 36 "SharedPage$Copy" "seen" "I", Cond.methodLink RX0 119 yX0_isSeen, Cond.instanceMethod yX0_isSeen, Cond.selects RX0 yX0_isSeen yX0_isSeen, Cond.code yX0_isSeen cX0_isSeen 2 (some .boolean), Cond.methodLink RX0 110 yX0_wootPlace, Cond.instanceMethod yX0_wootPlace, Cond.selects RX0 yX0_wootPlace yX0_wootPlace, Cond.code yX0_wootPlace cX0_wootPlace 10 (some .int), Cond.methodLink RX0 125 yX2_markOf, Cond.instanceMethod yX2_markOf, Cond.selects RX2 yX2_markOf yX2_markOf, Cond.code yX2_markOf cX2_markOf 2 (some .int)]
def wsX3_tell_r5 : List Cond := [Cond.fieldLink RX2 19 "SharedPage$Text" "marks" "[I", Cond.methodLink RX0 128 yX0_characterAt, Cond.instanceMethod yX0_characterAt, Cond.selects RX0 yX0_characterAt yX0_characterAt, Cond.code yX0_characterAt cX0_characterAt 2 (some .int), Cond.fieldLink RX0 15 "SharedPage$Copy" "sequence" "[I", Cond.methodLink RX0 131 yX0_spans, Cond.instanceMethod yX0_spans, Cond.selects RX0 yX0_spans yX0_spans, Cond.code yX0_spans cX0_spans 4 (some .boolean), Cond.methodLink RX0 113 yX0_yataPlace, Cond.instanceMethod yX0_yataPlace, Cond.selects RX0 yX0_yataPlace yX0_yataPlace, Cond.code yX0_yataPlace cX0_yataPlace 9 (some .int), Cond.methodLink RX0 135 yX2_siteOf, Cond.instanceMethod yX2_siteOf, Cond.selects RX2 yX2_siteOf yX2_siteOf, Cond.code yX2_siteOf cX2_siteOf 2 (some .int), Cond.fieldLink RX2 15 "SharedPage$Text" "sites" "[I", Cond.methodLink RX0 116 yX0_putAt, Cond.instanceMethod yX0_putAt, Cond.selects RX0 yX0_putAt yX0_putAt, Cond.code yX0_putAt cX0_putAt 4 none, Cond.methodLink RX0 122 yX0_setPlace]
def wsX3_tell_r6 : List Cond := [Cond.instanceMethod yX0_setPlace, Cond.selects RX0 yX0_setPlace yX0_setPlace, Cond.code yX0_setPlace cX0_setPlace 3 none, Cond.methodLink RX0 81 yX0_leastReady, Cond.instanceMethod yX0_leastReady, Cond.selects RX0 yX0_leastReady yX0_leastReady, Cond.code yX0_leastReady cX0_leastReady 2 (some .int), Cond.fieldLink RX0 85 "SharedPage$Text" "messages" "I", Cond.methodLink RX3 91 yX0_endCall, Cond.instanceMethod yX0_endCall, Cond.selects RX0 yX0_endCall yX0_endCall, Cond.code yX0_endCall cX0_endCall 1 none, Cond.fieldLink RX0 45 "SharedPage$Copy" "looks" "I"]
def wsX3_tell : List Cond := .code yX3_tell cX3_tell 6 (some .int) :: ((wsX3_tell_r1 ++ (wsX3_tell_r2 ++ (wsX3_tell_r3 ++ (wsX3_tell_r4 ++ (wsX3_tell_r5 ++ wsX3_tell_r6))))) ++ wsX00 ++ wsX30 ++ wsX20)
def wsX3_share_r1 : List Cond := [Cond.fieldLink RX3 62 "SharedPage$Copy" "text" "LSharedPage$Text;", Cond.fieldLink RX3 94 "SharedPage$Text" "messages" "I", Cond.methodLink RX3 48 yX3_copyAt, Cond.instanceMethod yX3_copyAt, Cond.selects RX3 yX3_copyAt yX3_copyAt, Cond.initialized RX3, Cond.code yX3_copyAt cX3_copyAt 4 (some (.object "SharedPage$Copy")), Cond.fieldLink RX3 17 "SharedPage" "copies" "[LSharedPage$Copy;", Cond.methodLink RX3 85 yX0_startCall, Cond.instanceMethod yX0_startCall, Cond.selects RX0 yX0_startCall yX0_startCall, Cond.initialized RX0, Cond.code yX0_startCall cX0_startCall 1 none, Cond.fieldLink RX0 48 "SharedPage$Copy" "looksOfCall" "I", Cond.fieldLink RX0 51 "SharedPage$Copy" "integratedInCall" "I", Cond.methodLink RX3 97 yX0_stateOf, Cond.instanceMethod yX0_stateOf, Cond.selects RX0 yX0_stateOf yX0_stateOf, Cond.code yX0_stateOf cX0_stateOf 2 (some .int), Cond.fieldLink RX0 26 "SharedPage$Copy" "states" "[I", Cond.methodLink RX3 88 yX0_hear, Cond.instanceMethod yX0_hear, Cond.selects RX0 yX0_hear yX0_hear, Cond.code yX0_hear cX0_hear 5 (some .int)]
def wsX3_share_r2 : List Cond := [Cond.fieldLink RX0 9 "SharedPage$Copy" "text" "LSharedPage$Text;", Cond.fieldLink RX0 42 "SharedPage$Copy" "waiting" "I", Cond.methodLink RX0 54 yX2_hasMessage, Cond.instanceMethod yX2_hasMessage, Cond.selects RX2 yX2_hasMessage yX2_hasMessage, Cond.initialized RX2, Cond.code yX2_hasMessage cX2_hasMessage 2 (some .boolean), Cond.fieldLink RX2 47 "SharedPage$Text" "messages" "I", Cond.methodLink RX0 70 yX0_stateOf, Cond.methodLink RX0 74 yX0_canBeDone, Cond.instanceMethod yX0_canBeDone, Cond.selects RX0 yX0_canBeDone yX0_canBeDone, Cond.code yX0_canBeDone cX0_canBeDone 3 (some .boolean), Cond.methodLink RX0 88 yX2_subjectOf, Cond.instanceMethod yX2_subjectOf, Cond.selects RX2 yX2_subjectOf yX2_subjectOf, Cond.code yX2_subjectOf cX2_subjectOf 2 (some .int), Cond.fieldLink RX2 37 "SharedPage$Text" "subjects" "[I", Cond.methodLink RX2 57 yX2_hasMessage, Cond.methodLink RX0 91 yX2_kindOf, Cond.instanceMethod yX2_kindOf, Cond.selects RX2 yX2_kindOf yX2_kindOf, Cond.code yX2_kindOf cX2_kindOf 2 (some .int), Cond.fieldLink RX2 31 "SharedPage$Text" "kinds" "[I"]
def wsX3_share_r3 : List Cond := [Cond.methodLink RX0 94 yX0_placeOf, Cond.instanceMethod yX0_placeOf, Cond.selects RX0 yX0_placeOf yX0_placeOf, Cond.code yX0_placeOf cX0_placeOf 2 (some .int), Cond.fieldLink RX0 19 "SharedPage$Copy" "places" "[I", Cond.fieldLink RX0 32 "SharedPage$Copy" "length" "I", Cond.methodLink RX0 97 yX2_leftOf, Cond.instanceMethod yX2_leftOf, Cond.selects RX2 yX2_leftOf yX2_leftOf, Cond.code yX2_leftOf cX2_leftOf 2 (some .int), Cond.fieldLink RX2 25 "SharedPage$Text" "lefts" "[I", Cond.methodLink RX2 61 yX2_hasCharacter, Cond.instanceMethod yX2_hasCharacter, Cond.selects RX2 yX2_hasCharacter yX2_hasCharacter, Cond.code yX2_hasCharacter cX2_hasCharacter 2 (some .boolean), Cond.fieldLink RX2 43 "SharedPage$Text" "characters" "I", Cond.methodLink RX0 100 yX2_rightOf, Cond.instanceMethod yX2_rightOf, Cond.selects RX2 yX2_rightOf yX2_rightOf, Cond.code yX2_rightOf cX2_rightOf 2 (some .int), Cond.fieldLink RX2 28 "SharedPage$Text" "rights" "[I", Cond.methodLink RX0 77 yX0_setState, Cond.instanceMethod yX0_setState, Cond.selects RX0 yX0_setState yX0_setState]
def wsX3_share_r4 : List Cond := [Cond.code yX0_setState cX0_setState 3 none, Cond.methodLink RX0 63 yX0_carryOut, Cond.instanceMethod yX0_carryOut, Cond.selects RX0 yX0_carryOut yX0_carryOut, Cond.code yX0_carryOut cX0_carryOut 3 none, Cond.fieldLink RX0 39 "SharedPage$Copy" "done" "I", Cond.fieldLink RX0 106 "SharedPage$Text" "woot" "Z", Cond.methodLink RX0 103 yX0_strike, Cond.instanceMethod yX0_strike, Cond.selects RX0 yX0_strike yX0_strike, Cond.code yX0_strike cX0_strike 2 none, Cond.fieldLink RX0 22 "SharedPage$Copy" "erased" "[Z", Cond.fieldLink RX0 36 "SharedPage$Copy" "seen" "I", Cond.methodLink RX0 119 yX0_isSeen, Cond.instanceMethod yX0_isSeen, Cond.selects RX0 yX0_isSeen yX0_isSeen, Cond.code yX0_isSeen cX0_isSeen 2 (some .boolean), Cond.methodLink RX0 110 yX0_wootPlace, Cond.instanceMethod yX0_wootPlace, Cond.selects RX0 yX0_wootPlace yX0_wootPlace, Cond.code yX0_wootPlace cX0_wootPlace 10 (some .int), Cond.methodLink RX0 125 yX2_markOf, Cond.instanceMethod yX2_markOf, Cond.selects RX2 yX2_markOf yX2_markOf]
def wsX3_share_r5 : List Cond := [Cond.code yX2_markOf cX2_markOf 2 (some .int), Cond.fieldLink RX2 19 "SharedPage$Text" "marks" "[I", Cond.methodLink RX0 128 yX0_characterAt, Cond.instanceMethod yX0_characterAt, Cond.selects RX0 yX0_characterAt yX0_characterAt, Cond.code yX0_characterAt cX0_characterAt 2 (some .int), Cond.fieldLink RX0 15 "SharedPage$Copy" "sequence" "[I", Cond.methodLink RX0 131 yX0_spans, Cond.instanceMethod yX0_spans, Cond.selects RX0 yX0_spans yX0_spans, Cond.code yX0_spans cX0_spans 4 (some .boolean), Cond.methodLink RX0 113 yX0_yataPlace, Cond.instanceMethod yX0_yataPlace, Cond.selects RX0 yX0_yataPlace yX0_yataPlace, Cond.code yX0_yataPlace cX0_yataPlace 9 (some .int), Cond.methodLink RX0 135 yX2_siteOf, Cond.instanceMethod yX2_siteOf, Cond.selects RX2 yX2_siteOf yX2_siteOf, Cond.code yX2_siteOf cX2_siteOf 2 (some .int), Cond.fieldLink RX2 15 "SharedPage$Text" "sites" "[I", Cond.methodLink RX0 116 yX0_putAt, Cond.instanceMethod yX0_putAt, Cond.selects RX0 yX0_putAt yX0_putAt, Cond.code yX0_putAt cX0_putAt 4 none]
def wsX3_share_r6 : List Cond := [Cond.methodLink RX0 122 yX0_setPlace, Cond.instanceMethod yX0_setPlace, Cond.selects RX0 yX0_setPlace yX0_setPlace, Cond.code yX0_setPlace cX0_setPlace 3 none, Cond.methodLink RX0 81 yX0_leastReady, Cond.instanceMethod yX0_leastReady, Cond.selects RX0 yX0_leastReady yX0_leastReady, Cond.code yX0_leastReady cX0_leastReady 2 (some .int), Cond.fieldLink RX0 85 "SharedPage$Text" "messages" "I", Cond.methodLink RX3 91 yX0_endCall, Cond.instanceMethod yX0_endCall, Cond.selects RX0 yX0_endCall yX0_endCall, Cond.code yX0_endCall cX0_endCall 1 none, Cond.fieldLink RX0 45 "SharedPage$Copy" "looks" "I"]
def wsX3_share : List Cond := .code yX3_share cX3_share 11 (some .int) :: ((wsX3_share_r1 ++ (wsX3_share_r2 ++ (wsX3_share_r3 ++ (wsX3_share_r4 ++ (wsX3_share_r5 ++ wsX3_share_r6))))) ++ wsX00 ++ wsX20 ++ wsX30)
def wsX3_look : List Cond := .code yX3_look cX3_look 5 (some .int) :: ([.fieldLink RX3 62 "SharedPage$Copy" "text" "LSharedPage$Text;", .fieldLink RX3 94 "SharedPage$Text" "messages" "I", .fieldLink RX3 100 "SharedPage$Text" "characters" "I", .fieldLink RX3 103 "SharedPage$Copy" "length" "I", .fieldLink RX3 52 "SharedPage$Copy" "seen" "I", .fieldLink RX3 106 "SharedPage$Copy" "done" "I", .fieldLink RX3 109 "SharedPage$Copy" "waiting" "I", .fieldLink RX3 112 "SharedPage$Copy" "looks" "I", .methodLink RX3 48 yX3_copyAt, .instanceMethod yX3_copyAt, .selects RX3 yX3_copyAt yX3_copyAt, .initialized RX3, .code yX3_copyAt cX3_copyAt 4 (some (.object "SharedPage$Copy")), .fieldLink RX3 17 "SharedPage" "copies" "[LSharedPage$Copy;"] ++ wsX00 ++ wsX20 ++ wsX30)
def wsX3_textAt : List Cond := .code yX3_textAt cX3_textAt 2 (some (.object "SharedPage$Text")) :: ([.fieldLink RX3 11 "SharedPage" "texts" "[LSharedPage$Text;"] ++ wsX30)
def wsX3_message_r1 : List Cond := [Cond.methodLink RX3 115 yX3_textAt, Cond.instanceMethod yX3_textAt, Cond.selects RX3 yX3_textAt yX3_textAt, Cond.initialized RX3, Cond.code yX3_textAt cX3_textAt 2 (some (.object "SharedPage$Text")), Cond.fieldLink RX3 11 "SharedPage" "texts" "[LSharedPage$Text;", Cond.methodLink RX3 81 yX2_hasMessage, Cond.instanceMethod yX2_hasMessage, Cond.selects RX2 yX2_hasMessage yX2_hasMessage, Cond.initialized RX2, Cond.code yX2_hasMessage cX2_hasMessage 2 (some .boolean), Cond.fieldLink RX2 47 "SharedPage$Text" "messages" "I", Cond.methodLink RX3 119 yX2_subjectOf, Cond.instanceMethod yX2_subjectOf, Cond.selects RX2 yX2_subjectOf yX2_subjectOf, Cond.code yX2_subjectOf cX2_subjectOf 2 (some .int), Cond.fieldLink RX2 37 "SharedPage$Text" "subjects" "[I", Cond.methodLink RX2 57 yX2_hasMessage, Cond.methodLink RX3 122 yX2_kindOf, Cond.instanceMethod yX2_kindOf, Cond.selects RX2 yX2_kindOf yX2_kindOf, Cond.code yX2_kindOf cX2_kindOf 2 (some .int), Cond.fieldLink RX2 31 "SharedPage$Text" "kinds" "[I", Cond.methodLink RX3 125 yX2_makerOf]
def wsX3_message_r2 : List Cond := [Cond.instanceMethod yX2_makerOf, Cond.selects RX2 yX2_makerOf yX2_makerOf, Cond.code yX2_makerOf cX2_makerOf 2 (some .int), Cond.fieldLink RX2 34 "SharedPage$Text" "makers" "[I", Cond.methodLink RX3 128 yX2_markOf, Cond.instanceMethod yX2_markOf, Cond.selects RX2 yX2_markOf yX2_markOf, Cond.code yX2_markOf cX2_markOf 2 (some .int), Cond.fieldLink RX2 19 "SharedPage$Text" "marks" "[I", Cond.methodLink RX2 61 yX2_hasCharacter, Cond.instanceMethod yX2_hasCharacter, Cond.selects RX2 yX2_hasCharacter yX2_hasCharacter, Cond.code yX2_hasCharacter cX2_hasCharacter 2 (some .boolean), Cond.fieldLink RX2 43 "SharedPage$Text" "characters" "I", Cond.methodLink RX3 131 yX2_leftOf, Cond.instanceMethod yX2_leftOf, Cond.selects RX2 yX2_leftOf yX2_leftOf, Cond.code yX2_leftOf cX2_leftOf 2 (some .int), Cond.fieldLink RX2 25 "SharedPage$Text" "lefts" "[I", Cond.methodLink RX3 134 yX2_rightOf, Cond.instanceMethod yX2_rightOf, Cond.selects RX2 yX2_rightOf yX2_rightOf, Cond.code yX2_rightOf cX2_rightOf 2 (some .int), Cond.fieldLink RX2 28 "SharedPage$Text" "rights" "[I"]
def wsX3_message_r3 : List Cond := [Cond.methodLink RX3 137 yX2_letterOf, Cond.instanceMethod yX2_letterOf, Cond.selects RX2 yX2_letterOf yX2_letterOf, Cond.code yX2_letterOf cX2_letterOf 2 (some .int), Cond.fieldLink RX2 22 "SharedPage$Text" "letters" "[I"]
def wsX3_message : List Cond := .code yX3_message cX3_message 6 (some .int) :: ((wsX3_message_r1 ++ (wsX3_message_r2 ++ wsX3_message_r3)) ++ wsX30 ++ wsX20)
def wsX3_state : List Cond := .code yX3_state cX3_state 5 (some .int) :: ([.fieldLink RX3 62 "SharedPage$Copy" "text" "LSharedPage$Text;", .methodLink RX3 48 yX3_copyAt, .instanceMethod yX3_copyAt, .selects RX3 yX3_copyAt yX3_copyAt, .initialized RX3, .code yX3_copyAt cX3_copyAt 4 (some (.object "SharedPage$Copy")), .fieldLink RX3 17 "SharedPage" "copies" "[LSharedPage$Copy;", .methodLink RX3 81 yX2_hasMessage, .instanceMethod yX2_hasMessage, .selects RX2 yX2_hasMessage yX2_hasMessage, .initialized RX2, .code yX2_hasMessage cX2_hasMessage 2 (some .boolean), .fieldLink RX2 47 "SharedPage$Text" "messages" "I", .methodLink RX3 97 yX0_stateOf, .instanceMethod yX0_stateOf, .selects RX0 yX0_stateOf yX0_stateOf, .initialized RX0, .code yX0_stateOf cX0_stateOf 2 (some .int), .fieldLink RX0 26 "SharedPage$Copy" "states" "[I"] ++ wsX00 ++ wsX30 ++ wsX20)
def wsX3_character_r1 : List Cond := [Cond.fieldLink RX3 103 "SharedPage$Copy" "length" "I", Cond.fieldLink RX3 62 "SharedPage$Copy" "text" "LSharedPage$Text;", Cond.methodLink RX3 48 yX3_copyAt, Cond.instanceMethod yX3_copyAt, Cond.selects RX3 yX3_copyAt yX3_copyAt, Cond.initialized RX3, Cond.code yX3_copyAt cX3_copyAt 4 (some (.object "SharedPage$Copy")), Cond.fieldLink RX3 17 "SharedPage" "copies" "[LSharedPage$Copy;", Cond.methodLink RX3 140 yX0_characterAt, Cond.instanceMethod yX0_characterAt, Cond.selects RX0 yX0_characterAt yX0_characterAt, Cond.initialized RX0, Cond.code yX0_characterAt cX0_characterAt 2 (some .int), Cond.fieldLink RX0 32 "SharedPage$Copy" "length" "I", Cond.fieldLink RX0 15 "SharedPage$Copy" "sequence" "[I", Cond.methodLink RX3 128 yX2_markOf, Cond.instanceMethod yX2_markOf, Cond.selects RX2 yX2_markOf yX2_markOf, Cond.initialized RX2, Cond.code yX2_markOf cX2_markOf 2 (some .int), Cond.fieldLink RX2 19 "SharedPage$Text" "marks" "[I", Cond.methodLink RX2 61 yX2_hasCharacter, Cond.instanceMethod yX2_hasCharacter, Cond.selects RX2 yX2_hasCharacter yX2_hasCharacter]
def wsX3_character_r2 : List Cond := [Cond.code yX2_hasCharacter cX2_hasCharacter 2 (some .boolean), Cond.fieldLink RX2 43 "SharedPage$Text" "characters" "I", Cond.methodLink RX3 137 yX2_letterOf, Cond.instanceMethod yX2_letterOf, Cond.selects RX2 yX2_letterOf yX2_letterOf, Cond.code yX2_letterOf cX2_letterOf 2 (some .int), Cond.fieldLink RX2 22 "SharedPage$Text" "letters" "[I", Cond.methodLink RX3 143 yX0_isSeen, Cond.instanceMethod yX0_isSeen, Cond.selects RX0 yX0_isSeen yX0_isSeen, Cond.code yX0_isSeen cX0_isSeen 2 (some .boolean), Cond.fieldLink RX0 19 "SharedPage$Copy" "places" "[I", Cond.fieldLink RX0 22 "SharedPage$Copy" "erased" "[Z", Cond.methodLink RX3 131 yX2_leftOf, Cond.instanceMethod yX2_leftOf, Cond.selects RX2 yX2_leftOf yX2_leftOf, Cond.code yX2_leftOf cX2_leftOf 2 (some .int), Cond.fieldLink RX2 25 "SharedPage$Text" "lefts" "[I", Cond.methodLink RX3 146 yX0_placeOf, Cond.instanceMethod yX0_placeOf, Cond.selects RX0 yX0_placeOf yX0_placeOf, Cond.code yX0_placeOf cX0_placeOf 2 (some .int), Cond.methodLink RX3 134 yX2_rightOf, Cond.instanceMethod yX2_rightOf]
def wsX3_character_r3 : List Cond := [Cond.selects RX2 yX2_rightOf yX2_rightOf, Cond.code yX2_rightOf cX2_rightOf 2 (some .int), Cond.fieldLink RX2 28 "SharedPage$Text" "rights" "[I"]
def wsX3_character : List Cond := .code yX3_character cX3_character 7 (some .int) :: ((wsX3_character_r1 ++ (wsX3_character_r2 ++ wsX3_character_r3)) ++ wsX00 ++ wsX30 ++ wsX20)
def wsX3_write_r1 : List Cond := [Cond.fieldLink RX3 103 "SharedPage$Copy" "length" "I", Cond.fieldLink RX3 41 "SharedPage" "written" "[I", Cond.fieldLink RX3 62 "SharedPage$Copy" "text" "LSharedPage$Text;", Cond.fieldLink RX3 44 "SharedPage" "writtenLength" "I", Cond.methodLink RX3 48 yX3_copyAt, Cond.instanceMethod yX3_copyAt, Cond.selects RX3 yX3_copyAt yX3_copyAt, Cond.initialized RX3, Cond.code yX3_copyAt cX3_copyAt 4 (some (.object "SharedPage$Copy")), Cond.fieldLink RX3 17 "SharedPage" "copies" "[LSharedPage$Copy;", Cond.methodLink RX3 140 yX0_characterAt, Cond.instanceMethod yX0_characterAt, Cond.selects RX0 yX0_characterAt yX0_characterAt, Cond.initialized RX0, Cond.code yX0_characterAt cX0_characterAt 2 (some .int), Cond.fieldLink RX0 32 "SharedPage$Copy" "length" "I", Cond.fieldLink RX0 15 "SharedPage$Copy" "sequence" "[I", Cond.methodLink RX3 143 yX0_isSeen, Cond.instanceMethod yX0_isSeen, Cond.selects RX0 yX0_isSeen yX0_isSeen, Cond.code yX0_isSeen cX0_isSeen 2 (some .boolean), Cond.fieldLink RX0 19 "SharedPage$Copy" "places" "[I", Cond.fieldLink RX0 22 "SharedPage$Copy" "erased" "[Z", Cond.methodLink RX3 137 yX2_letterOf]
def wsX3_write_r2 : List Cond := [Cond.instanceMethod yX2_letterOf, Cond.selects RX2 yX2_letterOf yX2_letterOf, Cond.initialized RX2, Cond.code yX2_letterOf cX2_letterOf 2 (some .int), Cond.fieldLink RX2 22 "SharedPage$Text" "letters" "[I", Cond.methodLink RX2 61 yX2_hasCharacter, Cond.instanceMethod yX2_hasCharacter, Cond.selects RX2 yX2_hasCharacter yX2_hasCharacter, Cond.code yX2_hasCharacter cX2_hasCharacter 2 (some .boolean), Cond.fieldLink RX2 43 "SharedPage$Text" "characters" "I"]
def wsX3_write : List Cond := .code yX3_write cX3_write 7 (some .int) :: ((wsX3_write_r1 ++ wsX3_write_r2) ++ wsX00 ++ wsX30 ++ wsX20)
def wsX3_out : List Cond := .code yX3_out cX3_out 2 (some .int) :: ([.fieldLink RX3 44 "SharedPage" "writtenLength" "I", .fieldLink RX3 41 "SharedPage" "written" "[I"] ++ wsX30)
def wsX3_same : List Cond := .code yX3_same cX3_same 6 (some .boolean) :: ([.methodLink RX3 48 yX3_copyAt, .instanceMethod yX3_copyAt, .selects RX3 yX3_copyAt yX3_copyAt, .initialized RX3, .code yX3_copyAt cX3_copyAt 4 (some (.object "SharedPage$Copy")), .fieldLink RX3 17 "SharedPage" "copies" "[LSharedPage$Copy;", .methodLink RX3 149 yX0_isLike, .instanceMethod yX0_isLike, .selects RX0 yX0_isLike yX0_isLike, .initialized RX0, .code yX0_isLike cX0_isLike 4 (some .boolean), .fieldLink RX0 32 "SharedPage$Copy" "length" "I", .methodLink RX0 128 yX0_characterAt, .instanceMethod yX0_characterAt, .selects RX0 yX0_characterAt yX0_characterAt, .code yX0_characterAt cX0_characterAt 2 (some .int), .fieldLink RX0 15 "SharedPage$Copy" "sequence" "[I", .methodLink RX0 119 yX0_isSeen, .instanceMethod yX0_isSeen, .selects RX0 yX0_isSeen yX0_isSeen, .code yX0_isSeen cX0_isSeen 2 (some .boolean), .fieldLink RX0 19 "SharedPage$Copy" "places" "[I", .fieldLink RX0 22 "SharedPage$Copy" "erased" "[Z"] ++ wsX30 ++ wsX00)
def wsX3_spareOf : List Cond := .code yX3_spareOf cX3_spareOf 2 (some (.object "SharedPage$Copy")) :: ([.fieldLink RX3 21 "SharedPage" "spares" "[LSharedPage$Copy;"] ++ wsX30)
def wsX3_listDone : List Cond := .code yX3_listDone cX3_listDone 4 (some .int) :: ([.fieldLink RX3 62 "SharedPage$Copy" "text" "LSharedPage$Text;", .fieldLink RX3 94 "SharedPage$Text" "messages" "I", .fieldLink RX3 37 "SharedPage" "drawing" "[I", .methodLink RX3 97 yX0_stateOf, .instanceMethod yX0_stateOf, .selects RX0 yX0_stateOf yX0_stateOf, .initialized RX0, .code yX0_stateOf cX0_stateOf 2 (some .int), .fieldLink RX0 26 "SharedPage$Copy" "states" "[I"] ++ wsX00 ++ wsX20 ++ wsX30)
def wsX3_takeDrawn : List Cond := .code yX3_takeDrawn cX3_takeDrawn 5 (some .int) :: ([.fieldLink RX3 37 "SharedPage" "drawing" "[I"] ++ wsX30)
def wsX3_shuffle_r1 : List Cond := [Cond.constant RX3 164 (1103515245), Cond.fieldLink RX3 109 "SharedPage$Copy" "waiting" "I", Cond.methodLink RX3 48 yX3_copyAt, Cond.instanceMethod yX3_copyAt, Cond.selects RX3 yX3_copyAt yX3_copyAt, Cond.initialized RX3, Cond.code yX3_copyAt cX3_copyAt 4 (some (.object "SharedPage$Copy")), Cond.fieldLink RX3 17 "SharedPage" "copies" "[LSharedPage$Copy;", Cond.methodLink RX3 153 yX3_spareOf, Cond.instanceMethod yX3_spareOf, Cond.selects RX3 yX3_spareOf yX3_spareOf, Cond.code yX3_spareOf cX3_spareOf 2 (some (.object "SharedPage$Copy")), Cond.fieldLink RX3 21 "SharedPage" "spares" "[LSharedPage$Copy;", Cond.methodLink RX3 157 yX0_makeEmpty, Cond.instanceMethod yX0_makeEmpty, Cond.selects RX0 yX0_makeEmpty yX0_makeEmpty, Cond.initialized RX0, Cond.code yX0_makeEmpty cX0_makeEmpty 2 none, Cond.fieldLink RX0 19 "SharedPage$Copy" "places" "[I", Cond.fieldLink RX0 22 "SharedPage$Copy" "erased" "[Z", Cond.fieldLink RX0 26 "SharedPage$Copy" "states" "[I", Cond.fieldLink RX0 32 "SharedPage$Copy" "length" "I", Cond.fieldLink RX0 36 "SharedPage$Copy" "seen" "I", Cond.fieldLink RX0 39 "SharedPage$Copy" "done" "I"]
def wsX3_shuffle_r2 : List Cond := [Cond.fieldLink RX0 42 "SharedPage$Copy" "waiting" "I", Cond.fieldLink RX0 45 "SharedPage$Copy" "looks" "I", Cond.fieldLink RX0 48 "SharedPage$Copy" "looksOfCall" "I", Cond.fieldLink RX0 51 "SharedPage$Copy" "integratedInCall" "I", Cond.methodLink RX3 160 yX3_listDone, Cond.instanceMethod yX3_listDone, Cond.selects RX3 yX3_listDone yX3_listDone, Cond.code yX3_listDone cX3_listDone 4 (some .int), Cond.fieldLink RX3 62 "SharedPage$Copy" "text" "LSharedPage$Text;", Cond.fieldLink RX3 94 "SharedPage$Text" "messages" "I", Cond.fieldLink RX3 37 "SharedPage" "drawing" "[I", Cond.methodLink RX3 97 yX0_stateOf, Cond.instanceMethod yX0_stateOf, Cond.selects RX0 yX0_stateOf yX0_stateOf, Cond.code yX0_stateOf cX0_stateOf 2 (some .int), Cond.methodLink RX3 165 yX3_takeDrawn, Cond.instanceMethod yX3_takeDrawn, Cond.selects RX3 yX3_takeDrawn yX3_takeDrawn, Cond.code yX3_takeDrawn cX3_takeDrawn 5 (some .int), Cond.methodLink RX3 88 yX0_hear, Cond.instanceMethod yX0_hear, Cond.selects RX0 yX0_hear yX0_hear, Cond.code yX0_hear cX0_hear 5 (some .int), Cond.fieldLink RX0 9 "SharedPage$Copy" "text" "LSharedPage$Text;"]
def wsX3_shuffle_r3 : List Cond := [Cond.methodLink RX0 54 yX2_hasMessage, Cond.instanceMethod yX2_hasMessage, Cond.selects RX2 yX2_hasMessage yX2_hasMessage, Cond.initialized RX2, Cond.code yX2_hasMessage cX2_hasMessage 2 (some .boolean), Cond.fieldLink RX2 47 "SharedPage$Text" "messages" "I", Cond.methodLink RX0 70 yX0_stateOf, Cond.methodLink RX0 74 yX0_canBeDone, Cond.instanceMethod yX0_canBeDone, Cond.selects RX0 yX0_canBeDone yX0_canBeDone, Cond.code yX0_canBeDone cX0_canBeDone 3 (some .boolean), Cond.methodLink RX0 88 yX2_subjectOf, Cond.instanceMethod yX2_subjectOf, Cond.selects RX2 yX2_subjectOf yX2_subjectOf, Cond.code yX2_subjectOf cX2_subjectOf 2 (some .int), Cond.fieldLink RX2 37 "SharedPage$Text" "subjects" "[I", Cond.methodLink RX2 57 yX2_hasMessage, Cond.methodLink RX0 91 yX2_kindOf, Cond.instanceMethod yX2_kindOf, Cond.selects RX2 yX2_kindOf yX2_kindOf, Cond.code yX2_kindOf cX2_kindOf 2 (some .int), Cond.fieldLink RX2 31 "SharedPage$Text" "kinds" "[I", Cond.methodLink RX0 94 yX0_placeOf, Cond.instanceMethod yX0_placeOf]
def wsX3_shuffle_r4 : List Cond := [Cond.selects RX0 yX0_placeOf yX0_placeOf, Cond.code yX0_placeOf cX0_placeOf 2 (some .int), Cond.methodLink RX0 97 yX2_leftOf, Cond.instanceMethod yX2_leftOf, Cond.selects RX2 yX2_leftOf yX2_leftOf, Cond.code yX2_leftOf cX2_leftOf 2 (some .int), Cond.fieldLink RX2 25 "SharedPage$Text" "lefts" "[I", Cond.methodLink RX2 61 yX2_hasCharacter, Cond.instanceMethod yX2_hasCharacter, Cond.selects RX2 yX2_hasCharacter yX2_hasCharacter, Cond.code yX2_hasCharacter cX2_hasCharacter 2 (some .boolean), Cond.fieldLink RX2 43 "SharedPage$Text" "characters" "I", Cond.methodLink RX0 100 yX2_rightOf, Cond.instanceMethod yX2_rightOf, Cond.selects RX2 yX2_rightOf yX2_rightOf, Cond.code yX2_rightOf cX2_rightOf 2 (some .int), Cond.fieldLink RX2 28 "SharedPage$Text" "rights" "[I", Cond.methodLink RX0 77 yX0_setState, Cond.instanceMethod yX0_setState, Cond.selects RX0 yX0_setState yX0_setState, Cond.code yX0_setState cX0_setState 3 none, Cond.methodLink RX0 63 yX0_carryOut, Cond.instanceMethod yX0_carryOut, Cond.selects RX0 yX0_carryOut yX0_carryOut]
def wsX3_shuffle_r5 : List Cond := [Cond.code yX0_carryOut cX0_carryOut 3 none, Cond.fieldLink RX0 106 "SharedPage$Text" "woot" "Z", Cond.methodLink RX0 103 yX0_strike, Cond.instanceMethod yX0_strike, Cond.selects RX0 yX0_strike yX0_strike, Cond.code yX0_strike cX0_strike 2 none, Cond.methodLink RX0 119 yX0_isSeen, Cond.instanceMethod yX0_isSeen, Cond.selects RX0 yX0_isSeen yX0_isSeen, Cond.code yX0_isSeen cX0_isSeen 2 (some .boolean), Cond.methodLink RX0 110 yX0_wootPlace, Cond.instanceMethod yX0_wootPlace, Cond.selects RX0 yX0_wootPlace yX0_wootPlace, Cond.code yX0_wootPlace cX0_wootPlace 10 (some .int), Cond.methodLink RX0 125 yX2_markOf, Cond.instanceMethod yX2_markOf, Cond.selects RX2 yX2_markOf yX2_markOf, Cond.code yX2_markOf cX2_markOf 2 (some .int), Cond.fieldLink RX2 19 "SharedPage$Text" "marks" "[I", Cond.methodLink RX0 128 yX0_characterAt, Cond.instanceMethod yX0_characterAt, Cond.selects RX0 yX0_characterAt yX0_characterAt, Cond.code yX0_characterAt cX0_characterAt 2 (some .int), Cond.fieldLink RX0 15 "SharedPage$Copy" "sequence" "[I"]
def wsX3_shuffle_r6 : List Cond := [Cond.methodLink RX0 131 yX0_spans, Cond.instanceMethod yX0_spans, Cond.selects RX0 yX0_spans yX0_spans, Cond.code yX0_spans cX0_spans 4 (some .boolean), Cond.methodLink RX0 113 yX0_yataPlace, Cond.instanceMethod yX0_yataPlace, Cond.selects RX0 yX0_yataPlace yX0_yataPlace, Cond.code yX0_yataPlace cX0_yataPlace 9 (some .int), Cond.methodLink RX0 135 yX2_siteOf, Cond.instanceMethod yX2_siteOf, Cond.selects RX2 yX2_siteOf yX2_siteOf, Cond.code yX2_siteOf cX2_siteOf 2 (some .int), Cond.fieldLink RX2 15 "SharedPage$Text" "sites" "[I", Cond.methodLink RX0 116 yX0_putAt, Cond.instanceMethod yX0_putAt, Cond.selects RX0 yX0_putAt yX0_putAt, Cond.code yX0_putAt cX0_putAt 4 none, Cond.methodLink RX0 122 yX0_setPlace, Cond.instanceMethod yX0_setPlace, Cond.selects RX0 yX0_setPlace yX0_setPlace, Cond.code yX0_setPlace cX0_setPlace 3 none, Cond.methodLink RX0 81 yX0_leastReady, Cond.instanceMethod yX0_leastReady, Cond.selects RX0 yX0_leastReady yX0_leastReady]
def wsX3_shuffle_r7 : List Cond := [Cond.code yX0_leastReady cX0_leastReady 2 (some .int), Cond.fieldLink RX0 85 "SharedPage$Text" "messages" "I", Cond.methodLink RX3 149 yX0_isLike, Cond.instanceMethod yX0_isLike, Cond.selects RX0 yX0_isLike yX0_isLike, Cond.code yX0_isLike cX0_isLike 4 (some .boolean)]
def wsX3_shuffle : List Cond := .code yX3_shuffle cX3_shuffle 9 (some .boolean) :: ((wsX3_shuffle_r1 ++ (wsX3_shuffle_r2 ++ (wsX3_shuffle_r3 ++ (wsX3_shuffle_r4 ++ (wsX3_shuffle_r5 ++ (wsX3_shuffle_r6 ++ wsX3_shuffle_r7)))))) ++ wsX00 ++ wsX30 ++ wsX20)
def wsX3_orders_r1 : List Cond := [Cond.fieldLink RX3 103 "SharedPage$Copy" "length" "I", Cond.constantLong RX3 168 (-1), Cond.fieldLink RX3 33 "SharedPage" "freeOrders" "LSharedPage$FreeOrders;", Cond.methodLink RX3 48 yX3_copyAt, Cond.instanceMethod yX3_copyAt, Cond.selects RX3 yX3_copyAt yX3_copyAt, Cond.initialized RX3, Cond.code yX3_copyAt cX3_copyAt 4 (some (.object "SharedPage$Copy")), Cond.fieldLink RX3 17 "SharedPage" "copies" "[LSharedPage$Copy;", Cond.methodLink RX3 170 yX1_countOf, Cond.instanceMethod yX1_countOf, Cond.selects RX1 yX1_countOf yX1_countOf, Cond.initialized RX1, Cond.code yX1_countOf cX1_countOf 2 (some .long), Cond.methodLink RX1 19 yX1_weigh, Cond.instanceMethod yX1_weigh, Cond.selects RX1 yX1_weigh yX1_weigh, Cond.code yX1_weigh cX1_weigh 5 none, Cond.fieldLink RX1 27 "SharedPage$Copy" "length" "I", Cond.methodLink RX1 33 Lib.Math.min.name, Cond.static Lib.Math.min.name, Cond.initialized "java/lang/Math", Cond.code Lib.Math.min.name Lib.Math.min.code 2 (some .int), Cond.fieldLink RX1 9 "SharedPage$FreeOrders" "ways" "[J"]
def wsX3_orders_r2 : List Cond := [Cond.methodLink RX1 52 yX1_listFollowers, Cond.instanceMethod yX1_listFollowers, Cond.selects RX1 yX1_listFollowers yX1_listFollowers, Cond.code yX1_listFollowers cX1_listFollowers 5 none, Cond.fieldLink RX1 15 "SharedPage$FreeOrders" "followers" "[I", Cond.fieldLink RX1 39 "SharedPage$Copy" "text" "LSharedPage$Text;", Cond.methodLink RX1 43 yX0_characterAt, Cond.instanceMethod yX0_characterAt, Cond.selects RX0 yX0_characterAt yX0_characterAt, Cond.initialized RX0, Cond.code yX0_characterAt cX0_characterAt 2 (some .int), Cond.fieldLink RX0 32 "SharedPage$Copy" "length" "I", Cond.fieldLink RX0 15 "SharedPage$Copy" "sequence" "[I", Cond.methodLink RX1 60 yX2_leftOf, Cond.instanceMethod yX2_leftOf, Cond.selects RX2 yX2_leftOf yX2_leftOf, Cond.initialized RX2, Cond.code yX2_leftOf cX2_leftOf 2 (some .int), Cond.fieldLink RX2 25 "SharedPage$Text" "lefts" "[I", Cond.methodLink RX2 61 yX2_hasCharacter, Cond.instanceMethod yX2_hasCharacter, Cond.selects RX2 yX2_hasCharacter yX2_hasCharacter, Cond.code yX2_hasCharacter cX2_hasCharacter 2 (some .boolean), Cond.fieldLink RX2 43 "SharedPage$Text" "characters" "I"]
def wsX3_orders_r3 : List Cond := [Cond.methodLink RX1 63 yX0_placeOf, Cond.instanceMethod yX0_placeOf, Cond.selects RX0 yX0_placeOf yX0_placeOf, Cond.code yX0_placeOf cX0_placeOf 2 (some .int), Cond.fieldLink RX0 19 "SharedPage$Copy" "places" "[I", Cond.methodLink RX1 66 yX1_addFollower, Cond.instanceMethod yX1_addFollower, Cond.selects RX1 yX1_addFollower yX1_addFollower, Cond.code yX1_addFollower cX1_addFollower 4 none, Cond.methodLink RX1 70 yX2_rightOf, Cond.instanceMethod yX2_rightOf, Cond.selects RX2 yX2_rightOf yX2_rightOf, Cond.code yX2_rightOf cX2_rightOf 2 (some .int), Cond.fieldLink RX2 28 "SharedPage$Text" "rights" "[I", Cond.methodLink RX1 23 yX1_waysFrom, Cond.instanceMethod yX1_waysFrom, Cond.selects RX1 yX1_waysFrom yX1_waysFrom, Cond.code yX1_waysFrom cX1_waysFrom 2 (some .long), Cond.methodLink RX1 56 yX1_handOn, Cond.instanceMethod yX1_handOn, Cond.selects RX1 yX1_handOn yX1_handOn, Cond.code yX1_handOn cX1_handOn 7 none]
def wsX3_orders : List Cond := .code yX3_orders cX3_orders 4 (some .long) :: ((wsX3_orders_r1 ++ (wsX3_orders_r2 ++ wsX3_orders_r3)) ++ wsX00 ++ wsX30 ++ wsX10 ++ wsX20)
def wsX3_number_r1 : List Cond := [Cond.fieldLink RX3 103 "SharedPage$Copy" "length" "I", Cond.constantLong RX3 168 (-1), Cond.fieldLink RX3 33 "SharedPage" "freeOrders" "LSharedPage$FreeOrders;", Cond.methodLink RX3 48 yX3_copyAt, Cond.instanceMethod yX3_copyAt, Cond.selects RX3 yX3_copyAt yX3_copyAt, Cond.initialized RX3, Cond.code yX3_copyAt cX3_copyAt 4 (some (.object "SharedPage$Copy")), Cond.fieldLink RX3 17 "SharedPage" "copies" "[LSharedPage$Copy;", Cond.methodLink RX3 174 yX1_rankOf, Cond.instanceMethod yX1_rankOf, Cond.selects RX1 yX1_rankOf yX1_rankOf, Cond.initialized RX1, Cond.code yX1_rankOf cX1_rankOf 9 (some .long), Cond.fieldLink RX1 27 "SharedPage$Copy" "length" "I", Cond.methodLink RX1 33 Lib.Math.min.name, Cond.static Lib.Math.min.name, Cond.initialized "java/lang/Math", Cond.code Lib.Math.min.name Lib.Math.min.code 2 (some .int), Cond.fieldLink RX1 39 "SharedPage$Copy" "text" "LSharedPage$Text;", Cond.methodLink RX1 19 yX1_weigh, Cond.instanceMethod yX1_weigh, Cond.selects RX1 yX1_weigh yX1_weigh, Cond.code yX1_weigh cX1_weigh 5 none]
def wsX3_number_r2 : List Cond := [Cond.fieldLink RX1 9 "SharedPage$FreeOrders" "ways" "[J", Cond.methodLink RX1 52 yX1_listFollowers, Cond.instanceMethod yX1_listFollowers, Cond.selects RX1 yX1_listFollowers yX1_listFollowers, Cond.code yX1_listFollowers cX1_listFollowers 5 none, Cond.fieldLink RX1 15 "SharedPage$FreeOrders" "followers" "[I", Cond.methodLink RX1 43 yX0_characterAt, Cond.instanceMethod yX0_characterAt, Cond.selects RX0 yX0_characterAt yX0_characterAt, Cond.initialized RX0, Cond.code yX0_characterAt cX0_characterAt 2 (some .int), Cond.fieldLink RX0 32 "SharedPage$Copy" "length" "I", Cond.fieldLink RX0 15 "SharedPage$Copy" "sequence" "[I", Cond.methodLink RX1 60 yX2_leftOf, Cond.instanceMethod yX2_leftOf, Cond.selects RX2 yX2_leftOf yX2_leftOf, Cond.initialized RX2, Cond.code yX2_leftOf cX2_leftOf 2 (some .int), Cond.fieldLink RX2 25 "SharedPage$Text" "lefts" "[I", Cond.methodLink RX2 61 yX2_hasCharacter, Cond.instanceMethod yX2_hasCharacter, Cond.selects RX2 yX2_hasCharacter yX2_hasCharacter, Cond.code yX2_hasCharacter cX2_hasCharacter 2 (some .boolean), Cond.fieldLink RX2 43 "SharedPage$Text" "characters" "I"]
def wsX3_number_r3 : List Cond := [Cond.methodLink RX1 63 yX0_placeOf, Cond.instanceMethod yX0_placeOf, Cond.selects RX0 yX0_placeOf yX0_placeOf, Cond.code yX0_placeOf cX0_placeOf 2 (some .int), Cond.fieldLink RX0 19 "SharedPage$Copy" "places" "[I", Cond.methodLink RX1 66 yX1_addFollower, Cond.instanceMethod yX1_addFollower, Cond.selects RX1 yX1_addFollower yX1_addFollower, Cond.code yX1_addFollower cX1_addFollower 4 none, Cond.methodLink RX1 70 yX2_rightOf, Cond.instanceMethod yX2_rightOf, Cond.selects RX2 yX2_rightOf yX2_rightOf, Cond.code yX2_rightOf cX2_rightOf 2 (some .int), Cond.fieldLink RX2 28 "SharedPage$Text" "rights" "[I", Cond.methodLink RX1 23 yX1_waysFrom, Cond.instanceMethod yX1_waysFrom, Cond.selects RX1 yX1_waysFrom yX1_waysFrom, Cond.code yX1_waysFrom cX1_waysFrom 2 (some .long), Cond.methodLink RX1 56 yX1_handOn, Cond.instanceMethod yX1_handOn, Cond.selects RX1 yX1_handOn yX1_handOn, Cond.code yX1_handOn cX1_handOn 7 none, Cond.methodLink RX1 47 yX2_markOf, Cond.instanceMethod yX2_markOf]
def wsX3_number_r4 : List Cond := [Cond.selects RX2 yX2_markOf yX2_markOf, Cond.code yX2_markOf cX2_markOf 2 (some .int), Cond.fieldLink RX2 19 "SharedPage$Text" "marks" "[I"]
def wsX3_number : List Cond := .code yX3_number cX3_number 4 (some .long) :: ((wsX3_number_r1 ++ (wsX3_number_r2 ++ (wsX3_number_r3 ++ wsX3_number_r4))) ++ wsX00 ++ wsX30 ++ wsX10 ++ wsX20)
def wsX4_init_r1 : List Cond := [Cond.methodLink RX4 1 objectInit, Cond.instanceMethod objectInit, Cond.code objectInit ⟨#[0xb1]⟩ 1 none, Cond.arrayClass .int, Cond.fieldLink RX4 7 "SharedPageModel" "made" "[I", Cond.fieldLink RX4 13 "SharedPageModel" "siteOf" "[I", Cond.fieldLink RX4 16 "SharedPageModel" "clockOf" "[I", Cond.fieldLink RX4 19 "SharedPageModel" "letterOf" "[I", Cond.fieldLink RX4 22 "SharedPageModel" "leftOf" "[I", Cond.fieldLink RX4 25 "SharedPageModel" "rightOf" "[I", Cond.fieldLink RX4 28 "SharedPageModel" "clocks" "[I", Cond.fieldLink RX4 31 "SharedPageModel" "messages" "[I", Cond.fieldLink RX4 34 "SharedPageModel" "erases" "[I", Cond.arrayClass .boolean, Cond.fieldLink RX4 37 "SharedPageModel" "isErase" "[Z", Cond.fieldLink RX4 41 "SharedPageModel" "charOf" "[I", Cond.fieldLink RX4 44 "SharedPageModel" "makerOf" "[I", Cond.fieldLink RX4 47 "SharedPageModel" "row" "[I", Cond.fieldLink RX4 50 "SharedPageModel" "many" "[I", Cond.fieldLink RX4 53 "SharedPageModel" "has" "[Z", Cond.fieldLink RX4 56 "SharedPageModel" "erased" "[Z", Cond.fieldLink RX4 59 "SharedPageModel" "state" "[I", Cond.fieldLink RX4 62 "SharedPageModel" "looks" "[I", Cond.fieldLink RX4 65 "SharedPageModel" "out" "[I"]
def wsX4_init_r2 : List Cond := [Cond.fieldLink RX4 68 "SharedPageModel" "line" "[I", Cond.fieldLink RX4 71 "SharedPageModel" "passed" "[Z", Cond.fieldLink RX4 74 "SharedPageModel" "open" "[Z", Cond.fieldLink RX4 77 "SharedPageModel" "left" "[I", Cond.fieldLink RX4 80 "SharedPageModel" "ahead" "[I", Cond.arrayClass .long, Cond.fieldLink RX4 83 "SharedPageModel" "ways" "[J"]
def wsX4_init : List Cond := .code yX4_init cX4_init 1 none :: ((wsX4_init_r1 ++ wsX4_init_r2) ++ wsX40)
def wsX4_isText : List Cond := .code yX4_isText cX4_isText 2 (some .boolean) :: ([])
def wsX4_isSite : List Cond := .code yX4_isSite cX4_isSite 2 (some .boolean) :: ([])
def wsX4_mark : List Cond := .code yX4_mark cX4_mark 3 (some .int) :: ([.fieldLink RX4 13 "SharedPageModel" "siteOf" "[I", .fieldLink RX4 16 "SharedPageModel" "clockOf" "[I"] ++ wsX40)
def wsX4_place : List Cond := .code yX4_place cX4_place 4 (some .int) :: ([.fieldLink RX4 50 "SharedPageModel" "many" "[I", .fieldLink RX4 47 "SharedPageModel" "row" "[I"] ++ wsX40)
def wsX4_lay : List Cond := .code yX4_lay cX4_lay 5 none :: ([.fieldLink RX4 50 "SharedPageModel" "many" "[I", .fieldLink RX4 47 "SharedPageModel" "row" "[I", .fieldLink RX4 53 "SharedPageModel" "has" "[Z"] ++ wsX40)
def wsX4_woot : List Cond := .code yX4_woot cX4_woot 8 none :: ([.fieldLink RX4 22 "SharedPageModel" "leftOf" "[I", .fieldLink RX4 25 "SharedPageModel" "rightOf" "[I", .fieldLink RX4 68 "SharedPageModel" "line" "[I", .fieldLink RX4 105 "SharedPageModel" "looked" "I", .fieldLink RX4 47 "SharedPageModel" "row" "[I", .methodLink RX4 101 yX4_place, .instanceMethod yX4_place, .selects RX4 yX4_place yX4_place, .initialized RX4, .code yX4_place cX4_place 4 (some .int), .fieldLink RX4 50 "SharedPageModel" "many" "[I", .methodLink RX4 108 yX4_mark, .instanceMethod yX4_mark, .selects RX4 yX4_mark yX4_mark, .code yX4_mark cX4_mark 3 (some .int), .fieldLink RX4 13 "SharedPageModel" "siteOf" "[I", .fieldLink RX4 16 "SharedPageModel" "clockOf" "[I", .methodLink RX4 111 yX4_lay, .instanceMethod yX4_lay, .selects RX4 yX4_lay yX4_lay, .code yX4_lay cX4_lay 5 none, .fieldLink RX4 53 "SharedPageModel" "has" "[Z"] ++ wsX40)
def wsX4_none : List Cond := .code yX4_none cX4_none 2 none :: ([.fieldLink RX4 74 "SharedPageModel" "open" "[Z"] ++ wsX40)
def wsX4_yata : List Cond := .code yX4_yata cX4_yata 10 none :: ([.fieldLink RX4 71 "SharedPageModel" "passed" "[Z", .fieldLink RX4 22 "SharedPageModel" "leftOf" "[I", .fieldLink RX4 25 "SharedPageModel" "rightOf" "[I", .fieldLink RX4 105 "SharedPageModel" "looked" "I", .fieldLink RX4 47 "SharedPageModel" "row" "[I", .fieldLink RX4 74 "SharedPageModel" "open" "[Z", .fieldLink RX4 13 "SharedPageModel" "siteOf" "[I", .methodLink RX4 115 yX4_none, .instanceMethod yX4_none, .selects RX4 yX4_none yX4_none, .initialized RX4, .code yX4_none cX4_none 2 none, .methodLink RX4 101 yX4_place, .instanceMethod yX4_place, .selects RX4 yX4_place yX4_place, .code yX4_place cX4_place 4 (some .int), .fieldLink RX4 50 "SharedPageModel" "many" "[I", .methodLink RX4 111 yX4_lay, .instanceMethod yX4_lay, .selects RX4 yX4_lay yX4_lay, .code yX4_lay cX4_lay 5 none, .fieldLink RX4 53 "SharedPageModel" "has" "[Z"] ++ wsX40)
def wsX4_integrate_r1 : List Cond := [Cond.fieldLink RX4 91 "SharedPageModel" "integrated" "I", Cond.methodLink RX4 94 yX4_woot, Cond.instanceMethod yX4_woot, Cond.selects RX4 yX4_woot yX4_woot, Cond.initialized RX4, Cond.code yX4_woot cX4_woot 8 none, Cond.fieldLink RX4 22 "SharedPageModel" "leftOf" "[I", Cond.fieldLink RX4 25 "SharedPageModel" "rightOf" "[I", Cond.fieldLink RX4 68 "SharedPageModel" "line" "[I", Cond.fieldLink RX4 105 "SharedPageModel" "looked" "I", Cond.fieldLink RX4 47 "SharedPageModel" "row" "[I", Cond.methodLink RX4 101 yX4_place, Cond.instanceMethod yX4_place, Cond.selects RX4 yX4_place yX4_place, Cond.code yX4_place cX4_place 4 (some .int), Cond.fieldLink RX4 50 "SharedPageModel" "many" "[I", Cond.methodLink RX4 108 yX4_mark, Cond.instanceMethod yX4_mark, Cond.selects RX4 yX4_mark yX4_mark, Cond.code yX4_mark cX4_mark 3 (some .int), Cond.fieldLink RX4 13 "SharedPageModel" "siteOf" "[I", Cond.fieldLink RX4 16 "SharedPageModel" "clockOf" "[I", Cond.methodLink RX4 111 yX4_lay, Cond.instanceMethod yX4_lay]
def wsX4_integrate_r2 : List Cond := [Cond.selects RX4 yX4_lay yX4_lay, Cond.code yX4_lay cX4_lay 5 none, Cond.fieldLink RX4 53 "SharedPageModel" "has" "[Z", Cond.methodLink RX4 98 yX4_yata, Cond.instanceMethod yX4_yata, Cond.selects RX4 yX4_yata yX4_yata, Cond.code yX4_yata cX4_yata 10 none, Cond.fieldLink RX4 71 "SharedPageModel" "passed" "[Z", Cond.fieldLink RX4 74 "SharedPageModel" "open" "[Z", Cond.methodLink RX4 115 yX4_none, Cond.instanceMethod yX4_none, Cond.selects RX4 yX4_none yX4_none, Cond.code yX4_none cX4_none 2 none]
def wsX4_integrate : List Cond := .code yX4_integrate cX4_integrate 4 none :: ((wsX4_integrate_r1 ++ wsX4_integrate_r2) ++ wsX40)
def wsX4_isThere : List Cond := .code yX4_isThere cX4_isThere 3 (some .boolean) :: ([.fieldLink RX4 53 "SharedPageModel" "has" "[Z"] ++ wsX40)
def wsX4_can : List Cond := .code yX4_can cX4_can 5 (some .boolean) :: ([.fieldLink RX4 41 "SharedPageModel" "charOf" "[I", .fieldLink RX4 37 "SharedPageModel" "isErase" "[Z", .fieldLink RX4 22 "SharedPageModel" "leftOf" "[I", .fieldLink RX4 25 "SharedPageModel" "rightOf" "[I", .methodLink RX4 118 yX4_isThere, .instanceMethod yX4_isThere, .selects RX4 yX4_isThere yX4_isThere, .initialized RX4, .code yX4_isThere cX4_isThere 3 (some .boolean), .fieldLink RX4 53 "SharedPageModel" "has" "[Z"] ++ wsX40)
def wsX4_does_r1 : List Cond := [Cond.fieldLink RX4 41 "SharedPageModel" "charOf" "[I", Cond.fieldLink RX4 59 "SharedPageModel" "state" "[I", Cond.fieldLink RX4 37 "SharedPageModel" "isErase" "[Z", Cond.fieldLink RX4 56 "SharedPageModel" "erased" "[Z", Cond.methodLink RX4 122 yX4_integrate, Cond.instanceMethod yX4_integrate, Cond.selects RX4 yX4_integrate yX4_integrate, Cond.initialized RX4, Cond.code yX4_integrate cX4_integrate 4 none, Cond.fieldLink RX4 91 "SharedPageModel" "integrated" "I", Cond.methodLink RX4 94 yX4_woot, Cond.instanceMethod yX4_woot, Cond.selects RX4 yX4_woot yX4_woot, Cond.code yX4_woot cX4_woot 8 none, Cond.fieldLink RX4 22 "SharedPageModel" "leftOf" "[I", Cond.fieldLink RX4 25 "SharedPageModel" "rightOf" "[I", Cond.fieldLink RX4 68 "SharedPageModel" "line" "[I", Cond.fieldLink RX4 105 "SharedPageModel" "looked" "I", Cond.fieldLink RX4 47 "SharedPageModel" "row" "[I", Cond.methodLink RX4 101 yX4_place, Cond.instanceMethod yX4_place, Cond.selects RX4 yX4_place yX4_place, Cond.code yX4_place cX4_place 4 (some .int), Cond.fieldLink RX4 50 "SharedPageModel" "many" "[I"]
def wsX4_does_r2 : List Cond := [Cond.methodLink RX4 108 yX4_mark, Cond.instanceMethod yX4_mark, Cond.selects RX4 yX4_mark yX4_mark, Cond.code yX4_mark cX4_mark 3 (some .int), Cond.fieldLink RX4 13 "SharedPageModel" "siteOf" "[I", Cond.fieldLink RX4 16 "SharedPageModel" "clockOf" "[I", Cond.methodLink RX4 111 yX4_lay, Cond.instanceMethod yX4_lay, Cond.selects RX4 yX4_lay yX4_lay, Cond.code yX4_lay cX4_lay 5 none, Cond.fieldLink RX4 53 "SharedPageModel" "has" "[Z", Cond.methodLink RX4 98 yX4_yata, Cond.instanceMethod yX4_yata, Cond.selects RX4 yX4_yata yX4_yata, Cond.code yX4_yata cX4_yata 10 none, Cond.fieldLink RX4 71 "SharedPageModel" "passed" "[Z", Cond.fieldLink RX4 74 "SharedPageModel" "open" "[Z", Cond.methodLink RX4 115 yX4_none, Cond.instanceMethod yX4_none, Cond.selects RX4 yX4_none yX4_none, Cond.code yX4_none cX4_none 2 none]
def wsX4_does : List Cond := .code yX4_does cX4_does 5 none :: ((wsX4_does_r1 ++ wsX4_does_r2) ++ wsX40)
def wsX4_hears_r1 : List Cond := [Cond.fieldLink RX4 59 "SharedPageModel" "state" "[I", Cond.fieldLink RX4 31 "SharedPageModel" "messages" "[I", Cond.methodLink RX4 125 yX4_can, Cond.instanceMethod yX4_can, Cond.selects RX4 yX4_can yX4_can, Cond.initialized RX4, Cond.code yX4_can cX4_can 5 (some .boolean), Cond.fieldLink RX4 41 "SharedPageModel" "charOf" "[I", Cond.fieldLink RX4 37 "SharedPageModel" "isErase" "[Z", Cond.fieldLink RX4 22 "SharedPageModel" "leftOf" "[I", Cond.fieldLink RX4 25 "SharedPageModel" "rightOf" "[I", Cond.methodLink RX4 118 yX4_isThere, Cond.instanceMethod yX4_isThere, Cond.selects RX4 yX4_isThere yX4_isThere, Cond.code yX4_isThere cX4_isThere 3 (some .boolean), Cond.fieldLink RX4 53 "SharedPageModel" "has" "[Z", Cond.methodLink RX4 129 yX4_does, Cond.instanceMethod yX4_does, Cond.selects RX4 yX4_does yX4_does, Cond.code yX4_does cX4_does 5 none, Cond.fieldLink RX4 56 "SharedPageModel" "erased" "[Z", Cond.methodLink RX4 122 yX4_integrate, Cond.instanceMethod yX4_integrate, Cond.selects RX4 yX4_integrate yX4_integrate]
def wsX4_hears_r2 : List Cond := [Cond.code yX4_integrate cX4_integrate 4 none, Cond.fieldLink RX4 91 "SharedPageModel" "integrated" "I", Cond.methodLink RX4 94 yX4_woot, Cond.instanceMethod yX4_woot, Cond.selects RX4 yX4_woot yX4_woot, Cond.code yX4_woot cX4_woot 8 none, Cond.fieldLink RX4 68 "SharedPageModel" "line" "[I", Cond.fieldLink RX4 105 "SharedPageModel" "looked" "I", Cond.fieldLink RX4 47 "SharedPageModel" "row" "[I", Cond.methodLink RX4 101 yX4_place, Cond.instanceMethod yX4_place, Cond.selects RX4 yX4_place yX4_place, Cond.code yX4_place cX4_place 4 (some .int), Cond.fieldLink RX4 50 "SharedPageModel" "many" "[I", Cond.methodLink RX4 108 yX4_mark, Cond.instanceMethod yX4_mark, Cond.selects RX4 yX4_mark yX4_mark, Cond.code yX4_mark cX4_mark 3 (some .int), Cond.fieldLink RX4 13 "SharedPageModel" "siteOf" "[I", Cond.fieldLink RX4 16 "SharedPageModel" "clockOf" "[I", Cond.methodLink RX4 111 yX4_lay, Cond.instanceMethod yX4_lay, Cond.selects RX4 yX4_lay yX4_lay, Cond.code yX4_lay cX4_lay 5 none]
def wsX4_hears_r3 : List Cond := [Cond.methodLink RX4 98 yX4_yata, Cond.instanceMethod yX4_yata, Cond.selects RX4 yX4_yata yX4_yata, Cond.code yX4_yata cX4_yata 10 none, Cond.fieldLink RX4 71 "SharedPageModel" "passed" "[Z", Cond.fieldLink RX4 74 "SharedPageModel" "open" "[Z", Cond.methodLink RX4 115 yX4_none, Cond.instanceMethod yX4_none, Cond.selects RX4 yX4_none yX4_none, Cond.code yX4_none cX4_none 2 none]
def wsX4_hears : List Cond := .code yX4_hears cX4_hears 6 (some .int) :: ((wsX4_hears_r1 ++ (wsX4_hears_r2 ++ wsX4_hears_r3)) ++ wsX40)
def wsX4_begins : List Cond := .code yX4_begins cX4_begins 1 none :: ([.fieldLink RX4 105 "SharedPageModel" "looked" "I", .fieldLink RX4 91 "SharedPageModel" "integrated" "I"] ++ wsX40)
def wsX4_ends : List Cond := .code yX4_ends cX4_ends 2 none :: ([.fieldLink RX4 91 "SharedPageModel" "integrated" "I", .fieldLink RX4 62 "SharedPageModel" "looks" "[I", .fieldLink RX4 105 "SharedPageModel" "looked" "I"] ++ wsX40)
def wsX4_seen : List Cond := .code yX4_seen cX4_seen 5 (some .int) :: ([.fieldLink RX4 50 "SharedPageModel" "many" "[I", .fieldLink RX4 56 "SharedPageModel" "erased" "[Z", .fieldLink RX4 47 "SharedPageModel" "row" "[I"] ++ wsX40)
def wsX4_allSeen : List Cond := .code yX4_allSeen cX4_allSeen 4 (some .int) :: ([.fieldLink RX4 50 "SharedPageModel" "many" "[I", .fieldLink RX4 56 "SharedPageModel" "erased" "[Z", .fieldLink RX4 47 "SharedPageModel" "row" "[I"] ++ wsX40)
def wsX4_message : List Cond := .code yX4_message cX4_message 6 (some .int) :: ([.fieldLink RX4 31 "SharedPageModel" "messages" "[I", .fieldLink RX4 37 "SharedPageModel" "isErase" "[Z", .fieldLink RX4 41 "SharedPageModel" "charOf" "[I", .fieldLink RX4 44 "SharedPageModel" "makerOf" "[I"] ++ wsX40)
def wsX4_insert_r1 : List Cond := [Cond.fieldLink RX4 87 "SharedPageModel" "told" "I", Cond.fieldLink RX4 7 "SharedPageModel" "made" "[I", Cond.fieldLink RX4 50 "SharedPageModel" "many" "[I", Cond.fieldLink RX4 13 "SharedPageModel" "siteOf" "[I", Cond.fieldLink RX4 16 "SharedPageModel" "clockOf" "[I", Cond.fieldLink RX4 28 "SharedPageModel" "clocks" "[I", Cond.fieldLink RX4 19 "SharedPageModel" "letterOf" "[I", Cond.fieldLink RX4 22 "SharedPageModel" "leftOf" "[I", Cond.fieldLink RX4 47 "SharedPageModel" "row" "[I", Cond.fieldLink RX4 25 "SharedPageModel" "rightOf" "[I", Cond.methodLink RX4 132 yX4_isText, Cond.instanceMethod yX4_isText, Cond.selects RX4 yX4_isText yX4_isText, Cond.initialized RX4, Cond.code yX4_isText cX4_isText 2 (some .boolean), Cond.methodLink RX4 136 yX4_isSite, Cond.instanceMethod yX4_isSite, Cond.selects RX4 yX4_isSite yX4_isSite, Cond.code yX4_isSite cX4_isSite 2 (some .boolean), Cond.methodLink RX4 139 yX4_allSeen, Cond.instanceMethod yX4_allSeen, Cond.selects RX4 yX4_allSeen yX4_allSeen, Cond.code yX4_allSeen cX4_allSeen 4 (some .int), Cond.fieldLink RX4 56 "SharedPageModel" "erased" "[Z"]
def wsX4_insert_r2 : List Cond := [Cond.methodLink RX4 143 yX4_seen, Cond.instanceMethod yX4_seen, Cond.selects RX4 yX4_seen yX4_seen, Cond.code yX4_seen cX4_seen 5 (some .int), Cond.methodLink RX4 146 yX4_message, Cond.instanceMethod yX4_message, Cond.selects RX4 yX4_message yX4_message, Cond.code yX4_message cX4_message 6 (some .int), Cond.fieldLink RX4 31 "SharedPageModel" "messages" "[I", Cond.fieldLink RX4 37 "SharedPageModel" "isErase" "[Z", Cond.fieldLink RX4 41 "SharedPageModel" "charOf" "[I", Cond.fieldLink RX4 44 "SharedPageModel" "makerOf" "[I", Cond.methodLink RX4 150 yX4_begins, Cond.instanceMethod yX4_begins, Cond.selects RX4 yX4_begins yX4_begins, Cond.code yX4_begins cX4_begins 1 none, Cond.fieldLink RX4 105 "SharedPageModel" "looked" "I", Cond.fieldLink RX4 91 "SharedPageModel" "integrated" "I", Cond.methodLink RX4 153 yX4_hears, Cond.instanceMethod yX4_hears, Cond.selects RX4 yX4_hears yX4_hears, Cond.code yX4_hears cX4_hears 6 (some .int), Cond.fieldLink RX4 59 "SharedPageModel" "state" "[I", Cond.methodLink RX4 125 yX4_can]
def wsX4_insert_r3 : List Cond := [Cond.instanceMethod yX4_can, Cond.selects RX4 yX4_can yX4_can, Cond.code yX4_can cX4_can 5 (some .boolean), Cond.methodLink RX4 118 yX4_isThere, Cond.instanceMethod yX4_isThere, Cond.selects RX4 yX4_isThere yX4_isThere, Cond.code yX4_isThere cX4_isThere 3 (some .boolean), Cond.fieldLink RX4 53 "SharedPageModel" "has" "[Z", Cond.methodLink RX4 129 yX4_does, Cond.instanceMethod yX4_does, Cond.selects RX4 yX4_does yX4_does, Cond.code yX4_does cX4_does 5 none, Cond.methodLink RX4 122 yX4_integrate, Cond.instanceMethod yX4_integrate, Cond.selects RX4 yX4_integrate yX4_integrate, Cond.code yX4_integrate cX4_integrate 4 none, Cond.methodLink RX4 94 yX4_woot, Cond.instanceMethod yX4_woot, Cond.selects RX4 yX4_woot yX4_woot, Cond.code yX4_woot cX4_woot 8 none, Cond.fieldLink RX4 68 "SharedPageModel" "line" "[I", Cond.methodLink RX4 101 yX4_place, Cond.instanceMethod yX4_place, Cond.selects RX4 yX4_place yX4_place]
def wsX4_insert_r4 : List Cond := [Cond.code yX4_place cX4_place 4 (some .int), Cond.methodLink RX4 108 yX4_mark, Cond.instanceMethod yX4_mark, Cond.selects RX4 yX4_mark yX4_mark, Cond.code yX4_mark cX4_mark 3 (some .int), Cond.methodLink RX4 111 yX4_lay, Cond.instanceMethod yX4_lay, Cond.selects RX4 yX4_lay yX4_lay, Cond.code yX4_lay cX4_lay 5 none, Cond.methodLink RX4 98 yX4_yata, Cond.instanceMethod yX4_yata, Cond.selects RX4 yX4_yata yX4_yata, Cond.code yX4_yata cX4_yata 10 none, Cond.fieldLink RX4 71 "SharedPageModel" "passed" "[Z", Cond.fieldLink RX4 74 "SharedPageModel" "open" "[Z", Cond.methodLink RX4 115 yX4_none, Cond.instanceMethod yX4_none, Cond.selects RX4 yX4_none yX4_none, Cond.code yX4_none cX4_none 2 none, Cond.methodLink RX4 157 yX4_ends, Cond.instanceMethod yX4_ends, Cond.selects RX4 yX4_ends yX4_ends, Cond.code yX4_ends cX4_ends 2 none, Cond.fieldLink RX4 62 "SharedPageModel" "looks" "[I"]
def wsX4_insert : List Cond := .code yX4_insert cX4_insert 10 (some .int) :: ((wsX4_insert_r1 ++ (wsX4_insert_r2 ++ (wsX4_insert_r3 ++ wsX4_insert_r4))) ++ wsX40)
def wsX4_erase_r1 : List Cond := [Cond.fieldLink RX4 87 "SharedPageModel" "told" "I", Cond.fieldLink RX4 34 "SharedPageModel" "erases" "[I", Cond.fieldLink RX4 47 "SharedPageModel" "row" "[I", Cond.methodLink RX4 132 yX4_isText, Cond.instanceMethod yX4_isText, Cond.selects RX4 yX4_isText yX4_isText, Cond.initialized RX4, Cond.code yX4_isText cX4_isText 2 (some .boolean), Cond.methodLink RX4 136 yX4_isSite, Cond.instanceMethod yX4_isSite, Cond.selects RX4 yX4_isSite yX4_isSite, Cond.code yX4_isSite cX4_isSite 2 (some .boolean), Cond.methodLink RX4 139 yX4_allSeen, Cond.instanceMethod yX4_allSeen, Cond.selects RX4 yX4_allSeen yX4_allSeen, Cond.code yX4_allSeen cX4_allSeen 4 (some .int), Cond.fieldLink RX4 50 "SharedPageModel" "many" "[I", Cond.fieldLink RX4 56 "SharedPageModel" "erased" "[Z", Cond.methodLink RX4 143 yX4_seen, Cond.instanceMethod yX4_seen, Cond.selects RX4 yX4_seen yX4_seen, Cond.code yX4_seen cX4_seen 5 (some .int), Cond.methodLink RX4 146 yX4_message, Cond.instanceMethod yX4_message]
def wsX4_erase_r2 : List Cond := [Cond.selects RX4 yX4_message yX4_message, Cond.code yX4_message cX4_message 6 (some .int), Cond.fieldLink RX4 31 "SharedPageModel" "messages" "[I", Cond.fieldLink RX4 37 "SharedPageModel" "isErase" "[Z", Cond.fieldLink RX4 41 "SharedPageModel" "charOf" "[I", Cond.fieldLink RX4 44 "SharedPageModel" "makerOf" "[I", Cond.methodLink RX4 150 yX4_begins, Cond.instanceMethod yX4_begins, Cond.selects RX4 yX4_begins yX4_begins, Cond.code yX4_begins cX4_begins 1 none, Cond.fieldLink RX4 105 "SharedPageModel" "looked" "I", Cond.fieldLink RX4 91 "SharedPageModel" "integrated" "I", Cond.methodLink RX4 153 yX4_hears, Cond.instanceMethod yX4_hears, Cond.selects RX4 yX4_hears yX4_hears, Cond.code yX4_hears cX4_hears 6 (some .int), Cond.fieldLink RX4 59 "SharedPageModel" "state" "[I", Cond.methodLink RX4 125 yX4_can, Cond.instanceMethod yX4_can, Cond.selects RX4 yX4_can yX4_can, Cond.code yX4_can cX4_can 5 (some .boolean), Cond.fieldLink RX4 22 "SharedPageModel" "leftOf" "[I", Cond.fieldLink RX4 25 "SharedPageModel" "rightOf" "[I", Cond.methodLink RX4 118 yX4_isThere]
def wsX4_erase_r3 : List Cond := [Cond.instanceMethod yX4_isThere, Cond.selects RX4 yX4_isThere yX4_isThere, Cond.code yX4_isThere cX4_isThere 3 (some .boolean), Cond.fieldLink RX4 53 "SharedPageModel" "has" "[Z", Cond.methodLink RX4 129 yX4_does, Cond.instanceMethod yX4_does, Cond.selects RX4 yX4_does yX4_does, Cond.code yX4_does cX4_does 5 none, Cond.methodLink RX4 122 yX4_integrate, Cond.instanceMethod yX4_integrate, Cond.selects RX4 yX4_integrate yX4_integrate, Cond.code yX4_integrate cX4_integrate 4 none, Cond.methodLink RX4 94 yX4_woot, Cond.instanceMethod yX4_woot, Cond.selects RX4 yX4_woot yX4_woot, Cond.code yX4_woot cX4_woot 8 none, Cond.fieldLink RX4 68 "SharedPageModel" "line" "[I", Cond.methodLink RX4 101 yX4_place, Cond.instanceMethod yX4_place, Cond.selects RX4 yX4_place yX4_place, Cond.code yX4_place cX4_place 4 (some .int), Cond.methodLink RX4 108 yX4_mark, Cond.instanceMethod yX4_mark, Cond.selects RX4 yX4_mark yX4_mark]
def wsX4_erase_r4 : List Cond := [Cond.code yX4_mark cX4_mark 3 (some .int), Cond.fieldLink RX4 13 "SharedPageModel" "siteOf" "[I", Cond.fieldLink RX4 16 "SharedPageModel" "clockOf" "[I", Cond.methodLink RX4 111 yX4_lay, Cond.instanceMethod yX4_lay, Cond.selects RX4 yX4_lay yX4_lay, Cond.code yX4_lay cX4_lay 5 none, Cond.methodLink RX4 98 yX4_yata, Cond.instanceMethod yX4_yata, Cond.selects RX4 yX4_yata yX4_yata, Cond.code yX4_yata cX4_yata 10 none, Cond.fieldLink RX4 71 "SharedPageModel" "passed" "[Z", Cond.fieldLink RX4 74 "SharedPageModel" "open" "[Z", Cond.methodLink RX4 115 yX4_none, Cond.instanceMethod yX4_none, Cond.selects RX4 yX4_none yX4_none, Cond.code yX4_none cX4_none 2 none]
def wsX4_erase : List Cond := .code yX4_erase cX4_erase 6 (some .int) :: ((wsX4_erase_r1 ++ (wsX4_erase_r2 ++ (wsX4_erase_r3 ++ wsX4_erase_r4))) ++ wsX40)
def wsX4_isMessage : List Cond := .code yX4_isMessage cX4_isMessage 3 (some .boolean) :: ([.fieldLink RX4 31 "SharedPageModel" "messages" "[I"] ++ wsX40)
def wsX4_tell_r1 : List Cond := [Cond.fieldLink RX4 87 "SharedPageModel" "told" "I", Cond.methodLink RX4 132 yX4_isText, Cond.instanceMethod yX4_isText, Cond.selects RX4 yX4_isText yX4_isText, Cond.initialized RX4, Cond.code yX4_isText cX4_isText 2 (some .boolean), Cond.methodLink RX4 136 yX4_isSite, Cond.instanceMethod yX4_isSite, Cond.selects RX4 yX4_isSite yX4_isSite, Cond.code yX4_isSite cX4_isSite 2 (some .boolean), Cond.methodLink RX4 161 yX4_isMessage, Cond.instanceMethod yX4_isMessage, Cond.selects RX4 yX4_isMessage yX4_isMessage, Cond.code yX4_isMessage cX4_isMessage 3 (some .boolean), Cond.fieldLink RX4 31 "SharedPageModel" "messages" "[I", Cond.methodLink RX4 150 yX4_begins, Cond.instanceMethod yX4_begins, Cond.selects RX4 yX4_begins yX4_begins, Cond.code yX4_begins cX4_begins 1 none, Cond.fieldLink RX4 105 "SharedPageModel" "looked" "I", Cond.fieldLink RX4 91 "SharedPageModel" "integrated" "I", Cond.methodLink RX4 153 yX4_hears, Cond.instanceMethod yX4_hears, Cond.selects RX4 yX4_hears yX4_hears]
def wsX4_tell_r2 : List Cond := [Cond.code yX4_hears cX4_hears 6 (some .int), Cond.fieldLink RX4 59 "SharedPageModel" "state" "[I", Cond.methodLink RX4 125 yX4_can, Cond.instanceMethod yX4_can, Cond.selects RX4 yX4_can yX4_can, Cond.code yX4_can cX4_can 5 (some .boolean), Cond.fieldLink RX4 41 "SharedPageModel" "charOf" "[I", Cond.fieldLink RX4 37 "SharedPageModel" "isErase" "[Z", Cond.fieldLink RX4 22 "SharedPageModel" "leftOf" "[I", Cond.fieldLink RX4 25 "SharedPageModel" "rightOf" "[I", Cond.methodLink RX4 118 yX4_isThere, Cond.instanceMethod yX4_isThere, Cond.selects RX4 yX4_isThere yX4_isThere, Cond.code yX4_isThere cX4_isThere 3 (some .boolean), Cond.fieldLink RX4 53 "SharedPageModel" "has" "[Z", Cond.methodLink RX4 129 yX4_does, Cond.instanceMethod yX4_does, Cond.selects RX4 yX4_does yX4_does, Cond.code yX4_does cX4_does 5 none, Cond.fieldLink RX4 56 "SharedPageModel" "erased" "[Z", Cond.methodLink RX4 122 yX4_integrate, Cond.instanceMethod yX4_integrate, Cond.selects RX4 yX4_integrate yX4_integrate, Cond.code yX4_integrate cX4_integrate 4 none]
def wsX4_tell_r3 : List Cond := [Cond.methodLink RX4 94 yX4_woot, Cond.instanceMethod yX4_woot, Cond.selects RX4 yX4_woot yX4_woot, Cond.code yX4_woot cX4_woot 8 none, Cond.fieldLink RX4 68 "SharedPageModel" "line" "[I", Cond.fieldLink RX4 47 "SharedPageModel" "row" "[I", Cond.methodLink RX4 101 yX4_place, Cond.instanceMethod yX4_place, Cond.selects RX4 yX4_place yX4_place, Cond.code yX4_place cX4_place 4 (some .int), Cond.fieldLink RX4 50 "SharedPageModel" "many" "[I", Cond.methodLink RX4 108 yX4_mark, Cond.instanceMethod yX4_mark, Cond.selects RX4 yX4_mark yX4_mark, Cond.code yX4_mark cX4_mark 3 (some .int), Cond.fieldLink RX4 13 "SharedPageModel" "siteOf" "[I", Cond.fieldLink RX4 16 "SharedPageModel" "clockOf" "[I", Cond.methodLink RX4 111 yX4_lay, Cond.instanceMethod yX4_lay, Cond.selects RX4 yX4_lay yX4_lay, Cond.code yX4_lay cX4_lay 5 none, Cond.methodLink RX4 98 yX4_yata, Cond.instanceMethod yX4_yata, Cond.selects RX4 yX4_yata yX4_yata]
def wsX4_tell_r4 : List Cond := [Cond.code yX4_yata cX4_yata 10 none, Cond.fieldLink RX4 71 "SharedPageModel" "passed" "[Z", Cond.fieldLink RX4 74 "SharedPageModel" "open" "[Z", Cond.methodLink RX4 115 yX4_none, Cond.instanceMethod yX4_none, Cond.selects RX4 yX4_none yX4_none, Cond.code yX4_none cX4_none 2 none, Cond.methodLink RX4 157 yX4_ends, Cond.instanceMethod yX4_ends, Cond.selects RX4 yX4_ends yX4_ends, Cond.code yX4_ends cX4_ends 2 none, Cond.fieldLink RX4 62 "SharedPageModel" "looks" "[I"]
def wsX4_tell : List Cond := .code yX4_tell cX4_tell 5 (some .int) :: ((wsX4_tell_r1 ++ (wsX4_tell_r2 ++ (wsX4_tell_r3 ++ wsX4_tell_r4))) ++ wsX40)
def wsX4_share_r1 : List Cond := [Cond.fieldLink RX4 87 "SharedPageModel" "told" "I", Cond.fieldLink RX4 31 "SharedPageModel" "messages" "[I", Cond.fieldLink RX4 59 "SharedPageModel" "state" "[I", Cond.methodLink RX4 132 yX4_isText, Cond.instanceMethod yX4_isText, Cond.selects RX4 yX4_isText yX4_isText, Cond.initialized RX4, Cond.code yX4_isText cX4_isText 2 (some .boolean), Cond.methodLink RX4 136 yX4_isSite, Cond.instanceMethod yX4_isSite, Cond.selects RX4 yX4_isSite yX4_isSite, Cond.code yX4_isSite cX4_isSite 2 (some .boolean), Cond.methodLink RX4 150 yX4_begins, Cond.instanceMethod yX4_begins, Cond.selects RX4 yX4_begins yX4_begins, Cond.code yX4_begins cX4_begins 1 none, Cond.fieldLink RX4 105 "SharedPageModel" "looked" "I", Cond.fieldLink RX4 91 "SharedPageModel" "integrated" "I", Cond.methodLink RX4 153 yX4_hears, Cond.instanceMethod yX4_hears, Cond.selects RX4 yX4_hears yX4_hears, Cond.code yX4_hears cX4_hears 6 (some .int), Cond.methodLink RX4 125 yX4_can, Cond.instanceMethod yX4_can]
def wsX4_share_r2 : List Cond := [Cond.selects RX4 yX4_can yX4_can, Cond.code yX4_can cX4_can 5 (some .boolean), Cond.fieldLink RX4 41 "SharedPageModel" "charOf" "[I", Cond.fieldLink RX4 37 "SharedPageModel" "isErase" "[Z", Cond.fieldLink RX4 22 "SharedPageModel" "leftOf" "[I", Cond.fieldLink RX4 25 "SharedPageModel" "rightOf" "[I", Cond.methodLink RX4 118 yX4_isThere, Cond.instanceMethod yX4_isThere, Cond.selects RX4 yX4_isThere yX4_isThere, Cond.code yX4_isThere cX4_isThere 3 (some .boolean), Cond.fieldLink RX4 53 "SharedPageModel" "has" "[Z", Cond.methodLink RX4 129 yX4_does, Cond.instanceMethod yX4_does, Cond.selects RX4 yX4_does yX4_does, Cond.code yX4_does cX4_does 5 none, Cond.fieldLink RX4 56 "SharedPageModel" "erased" "[Z", Cond.methodLink RX4 122 yX4_integrate, Cond.instanceMethod yX4_integrate, Cond.selects RX4 yX4_integrate yX4_integrate, Cond.code yX4_integrate cX4_integrate 4 none, Cond.methodLink RX4 94 yX4_woot, Cond.instanceMethod yX4_woot, Cond.selects RX4 yX4_woot yX4_woot, Cond.code yX4_woot cX4_woot 8 none]
def wsX4_share_r3 : List Cond := [Cond.fieldLink RX4 68 "SharedPageModel" "line" "[I", Cond.fieldLink RX4 47 "SharedPageModel" "row" "[I", Cond.methodLink RX4 101 yX4_place, Cond.instanceMethod yX4_place, Cond.selects RX4 yX4_place yX4_place, Cond.code yX4_place cX4_place 4 (some .int), Cond.fieldLink RX4 50 "SharedPageModel" "many" "[I", Cond.methodLink RX4 108 yX4_mark, Cond.instanceMethod yX4_mark, Cond.selects RX4 yX4_mark yX4_mark, Cond.code yX4_mark cX4_mark 3 (some .int), Cond.fieldLink RX4 13 "SharedPageModel" "siteOf" "[I", Cond.fieldLink RX4 16 "SharedPageModel" "clockOf" "[I", Cond.methodLink RX4 111 yX4_lay, Cond.instanceMethod yX4_lay, Cond.selects RX4 yX4_lay yX4_lay, Cond.code yX4_lay cX4_lay 5 none, Cond.methodLink RX4 98 yX4_yata, Cond.instanceMethod yX4_yata, Cond.selects RX4 yX4_yata yX4_yata, Cond.code yX4_yata cX4_yata 10 none, Cond.fieldLink RX4 71 "SharedPageModel" "passed" "[Z", Cond.fieldLink RX4 74 "SharedPageModel" "open" "[Z", Cond.methodLink RX4 115 yX4_none]
def wsX4_share_r4 : List Cond := [Cond.instanceMethod yX4_none, Cond.selects RX4 yX4_none yX4_none, Cond.code yX4_none cX4_none 2 none, Cond.methodLink RX4 157 yX4_ends, Cond.instanceMethod yX4_ends, Cond.selects RX4 yX4_ends yX4_ends, Cond.code yX4_ends cX4_ends 2 none, Cond.fieldLink RX4 62 "SharedPageModel" "looks" "[I"]
def wsX4_share : List Cond := .code yX4_share cX4_share 9 (some .int) :: ((wsX4_share_r1 ++ (wsX4_share_r2 ++ (wsX4_share_r3 ++ wsX4_share_r4))) ++ wsX40)
end
section
def wsX4_count : List Cond := .code yX4_count cX4_count 6 (some .int) :: ([.fieldLink RX4 31 "SharedPageModel" "messages" "[I", .fieldLink RX4 59 "SharedPageModel" "state" "[I"] ++ wsX40)
def wsX4_look_r1 : List Cond := [Cond.fieldLink RX4 87 "SharedPageModel" "told" "I", Cond.fieldLink RX4 31 "SharedPageModel" "messages" "[I", Cond.fieldLink RX4 7 "SharedPageModel" "made" "[I", Cond.fieldLink RX4 50 "SharedPageModel" "many" "[I", Cond.fieldLink RX4 62 "SharedPageModel" "looks" "[I", Cond.methodLink RX4 132 yX4_isText, Cond.instanceMethod yX4_isText, Cond.selects RX4 yX4_isText yX4_isText, Cond.initialized RX4, Cond.code yX4_isText cX4_isText 2 (some .boolean), Cond.methodLink RX4 136 yX4_isSite, Cond.instanceMethod yX4_isSite, Cond.selects RX4 yX4_isSite yX4_isSite, Cond.code yX4_isSite cX4_isSite 2 (some .boolean), Cond.methodLink RX4 139 yX4_allSeen, Cond.instanceMethod yX4_allSeen, Cond.selects RX4 yX4_allSeen yX4_allSeen, Cond.code yX4_allSeen cX4_allSeen 4 (some .int), Cond.fieldLink RX4 56 "SharedPageModel" "erased" "[Z", Cond.fieldLink RX4 47 "SharedPageModel" "row" "[I", Cond.methodLink RX4 164 yX4_count, Cond.instanceMethod yX4_count, Cond.selects RX4 yX4_count yX4_count, Cond.code yX4_count cX4_count 6 (some .int)]
def wsX4_look_r2 : List Cond := [Cond.fieldLink RX4 59 "SharedPageModel" "state" "[I"]
def wsX4_look : List Cond := .code yX4_look cX4_look 5 (some .int) :: ((wsX4_look_r1 ++ wsX4_look_r2) ++ wsX40)
def wsX4_message_ : List Cond := .code yX4_message_ cX4_message_ 5 (some .int) :: ([.fieldLink RX4 87 "SharedPageModel" "told" "I", .fieldLink RX4 41 "SharedPageModel" "charOf" "[I", .fieldLink RX4 37 "SharedPageModel" "isErase" "[Z", .fieldLink RX4 44 "SharedPageModel" "makerOf" "[I", .fieldLink RX4 22 "SharedPageModel" "leftOf" "[I", .fieldLink RX4 25 "SharedPageModel" "rightOf" "[I", .fieldLink RX4 19 "SharedPageModel" "letterOf" "[I", .methodLink RX4 132 yX4_isText, .instanceMethod yX4_isText, .selects RX4 yX4_isText yX4_isText, .initialized RX4, .code yX4_isText cX4_isText 2 (some .boolean), .methodLink RX4 161 yX4_isMessage, .instanceMethod yX4_isMessage, .selects RX4 yX4_isMessage yX4_isMessage, .code yX4_isMessage cX4_isMessage 3 (some .boolean), .fieldLink RX4 31 "SharedPageModel" "messages" "[I", .methodLink RX4 108 yX4_mark, .instanceMethod yX4_mark, .selects RX4 yX4_mark yX4_mark, .code yX4_mark cX4_mark 3 (some .int), .fieldLink RX4 13 "SharedPageModel" "siteOf" "[I", .fieldLink RX4 16 "SharedPageModel" "clockOf" "[I"] ++ wsX40)
def wsX4_state : List Cond := .code yX4_state cX4_state 4 (some .int) :: ([.fieldLink RX4 87 "SharedPageModel" "told" "I", .fieldLink RX4 59 "SharedPageModel" "state" "[I", .methodLink RX4 132 yX4_isText, .instanceMethod yX4_isText, .selects RX4 yX4_isText yX4_isText, .initialized RX4, .code yX4_isText cX4_isText 2 (some .boolean), .methodLink RX4 136 yX4_isSite, .instanceMethod yX4_isSite, .selects RX4 yX4_isSite yX4_isSite, .code yX4_isSite cX4_isSite 2 (some .boolean), .methodLink RX4 161 yX4_isMessage, .instanceMethod yX4_isMessage, .selects RX4 yX4_isMessage yX4_isMessage, .code yX4_isMessage cX4_isMessage 3 (some .boolean), .fieldLink RX4 31 "SharedPageModel" "messages" "[I"] ++ wsX40)
def wsX4_character_r1 : List Cond := [Cond.fieldLink RX4 87 "SharedPageModel" "told" "I", Cond.fieldLink RX4 50 "SharedPageModel" "many" "[I", Cond.fieldLink RX4 47 "SharedPageModel" "row" "[I", Cond.fieldLink RX4 19 "SharedPageModel" "letterOf" "[I", Cond.fieldLink RX4 56 "SharedPageModel" "erased" "[Z", Cond.fieldLink RX4 22 "SharedPageModel" "leftOf" "[I", Cond.fieldLink RX4 25 "SharedPageModel" "rightOf" "[I", Cond.methodLink RX4 132 yX4_isText, Cond.instanceMethod yX4_isText, Cond.selects RX4 yX4_isText yX4_isText, Cond.initialized RX4, Cond.code yX4_isText cX4_isText 2 (some .boolean), Cond.methodLink RX4 136 yX4_isSite, Cond.instanceMethod yX4_isSite, Cond.selects RX4 yX4_isSite yX4_isSite, Cond.code yX4_isSite cX4_isSite 2 (some .boolean), Cond.methodLink RX4 108 yX4_mark, Cond.instanceMethod yX4_mark, Cond.selects RX4 yX4_mark yX4_mark, Cond.code yX4_mark cX4_mark 3 (some .int), Cond.fieldLink RX4 13 "SharedPageModel" "siteOf" "[I", Cond.fieldLink RX4 16 "SharedPageModel" "clockOf" "[I", Cond.methodLink RX4 101 yX4_place, Cond.instanceMethod yX4_place]
def wsX4_character_r2 : List Cond := [Cond.selects RX4 yX4_place yX4_place, Cond.code yX4_place cX4_place 4 (some .int)]
def wsX4_character : List Cond := .code yX4_character cX4_character 7 (some .int) :: ((wsX4_character_r1 ++ wsX4_character_r2) ++ wsX40)
def wsX4_write : List Cond := .code yX4_write cX4_write 6 (some .int) :: ([.fieldLink RX4 87 "SharedPageModel" "told" "I", .fieldLink RX4 167 "SharedPageModel" "outs" "I", .fieldLink RX4 50 "SharedPageModel" "many" "[I", .fieldLink RX4 47 "SharedPageModel" "row" "[I", .fieldLink RX4 56 "SharedPageModel" "erased" "[Z", .fieldLink RX4 65 "SharedPageModel" "out" "[I", .fieldLink RX4 19 "SharedPageModel" "letterOf" "[I", .methodLink RX4 132 yX4_isText, .instanceMethod yX4_isText, .selects RX4 yX4_isText yX4_isText, .initialized RX4, .code yX4_isText cX4_isText 2 (some .boolean), .methodLink RX4 136 yX4_isSite, .instanceMethod yX4_isSite, .selects RX4 yX4_isSite yX4_isSite, .code yX4_isSite cX4_isSite 2 (some .boolean)] ++ wsX40)
def wsX4_out : List Cond := .code yX4_out cX4_out 2 (some .int) :: ([.fieldLink RX4 87 "SharedPageModel" "told" "I", .fieldLink RX4 167 "SharedPageModel" "outs" "I", .fieldLink RX4 65 "SharedPageModel" "out" "[I"] ++ wsX40)
def wsX4_isSame : List Cond := .code yX4_isSame cX4_isSame 5 (some .boolean) :: ([.fieldLink RX4 50 "SharedPageModel" "many" "[I", .fieldLink RX4 47 "SharedPageModel" "row" "[I", .fieldLink RX4 56 "SharedPageModel" "erased" "[Z"] ++ wsX40)
def wsX4_same : List Cond := .code yX4_same cX4_same 4 (some .boolean) :: ([.fieldLink RX4 87 "SharedPageModel" "told" "I", .methodLink RX4 132 yX4_isText, .instanceMethod yX4_isText, .selects RX4 yX4_isText yX4_isText, .initialized RX4, .code yX4_isText cX4_isText 2 (some .boolean), .methodLink RX4 136 yX4_isSite, .instanceMethod yX4_isSite, .selects RX4 yX4_isSite yX4_isSite, .code yX4_isSite cX4_isSite 2 (some .boolean), .methodLink RX4 170 yX4_isSame, .instanceMethod yX4_isSame, .selects RX4 yX4_isSame yX4_isSame, .code yX4_isSame cX4_isSame 5 (some .boolean), .fieldLink RX4 50 "SharedPageModel" "many" "[I", .fieldLink RX4 47 "SharedPageModel" "row" "[I", .fieldLink RX4 56 "SharedPageModel" "erased" "[Z"] ++ wsX40)
def wsX4_shuffle_r1 : List Cond := [Cond.fieldLink RX4 87 "SharedPageModel" "told" "I", Cond.fieldLink RX4 50 "SharedPageModel" "many" "[I", Cond.fieldLink RX4 53 "SharedPageModel" "has" "[Z", Cond.fieldLink RX4 56 "SharedPageModel" "erased" "[Z", Cond.fieldLink RX4 59 "SharedPageModel" "state" "[I", Cond.fieldLink RX4 31 "SharedPageModel" "messages" "[I", Cond.fieldLink RX4 77 "SharedPageModel" "left" "[I", Cond.constant RX4 173 (1103515245), Cond.methodLink RX4 132 yX4_isText, Cond.instanceMethod yX4_isText, Cond.selects RX4 yX4_isText yX4_isText, Cond.initialized RX4, Cond.code yX4_isText cX4_isText 2 (some .boolean), Cond.methodLink RX4 136 yX4_isSite, Cond.instanceMethod yX4_isSite, Cond.selects RX4 yX4_isSite yX4_isSite, Cond.code yX4_isSite cX4_isSite 2 (some .boolean), Cond.methodLink RX4 153 yX4_hears, Cond.instanceMethod yX4_hears, Cond.selects RX4 yX4_hears yX4_hears, Cond.code yX4_hears cX4_hears 6 (some .int), Cond.methodLink RX4 125 yX4_can, Cond.instanceMethod yX4_can, Cond.selects RX4 yX4_can yX4_can]
def wsX4_shuffle_r2 : List Cond := [Cond.code yX4_can cX4_can 5 (some .boolean), Cond.fieldLink RX4 41 "SharedPageModel" "charOf" "[I", Cond.fieldLink RX4 37 "SharedPageModel" "isErase" "[Z", Cond.fieldLink RX4 22 "SharedPageModel" "leftOf" "[I", Cond.fieldLink RX4 25 "SharedPageModel" "rightOf" "[I", Cond.methodLink RX4 118 yX4_isThere, Cond.instanceMethod yX4_isThere, Cond.selects RX4 yX4_isThere yX4_isThere, Cond.code yX4_isThere cX4_isThere 3 (some .boolean), Cond.methodLink RX4 129 yX4_does, Cond.instanceMethod yX4_does, Cond.selects RX4 yX4_does yX4_does, Cond.code yX4_does cX4_does 5 none, Cond.methodLink RX4 122 yX4_integrate, Cond.instanceMethod yX4_integrate, Cond.selects RX4 yX4_integrate yX4_integrate, Cond.code yX4_integrate cX4_integrate 4 none, Cond.fieldLink RX4 91 "SharedPageModel" "integrated" "I", Cond.methodLink RX4 94 yX4_woot, Cond.instanceMethod yX4_woot, Cond.selects RX4 yX4_woot yX4_woot, Cond.code yX4_woot cX4_woot 8 none, Cond.fieldLink RX4 68 "SharedPageModel" "line" "[I", Cond.fieldLink RX4 105 "SharedPageModel" "looked" "I"]
def wsX4_shuffle_r3 : List Cond := [Cond.fieldLink RX4 47 "SharedPageModel" "row" "[I", Cond.methodLink RX4 101 yX4_place, Cond.instanceMethod yX4_place, Cond.selects RX4 yX4_place yX4_place, Cond.code yX4_place cX4_place 4 (some .int), Cond.methodLink RX4 108 yX4_mark, Cond.instanceMethod yX4_mark, Cond.selects RX4 yX4_mark yX4_mark, Cond.code yX4_mark cX4_mark 3 (some .int), Cond.fieldLink RX4 13 "SharedPageModel" "siteOf" "[I", Cond.fieldLink RX4 16 "SharedPageModel" "clockOf" "[I", Cond.methodLink RX4 111 yX4_lay, Cond.instanceMethod yX4_lay, Cond.selects RX4 yX4_lay yX4_lay, Cond.code yX4_lay cX4_lay 5 none, Cond.methodLink RX4 98 yX4_yata, Cond.instanceMethod yX4_yata, Cond.selects RX4 yX4_yata yX4_yata, Cond.code yX4_yata cX4_yata 10 none, Cond.fieldLink RX4 71 "SharedPageModel" "passed" "[Z", Cond.fieldLink RX4 74 "SharedPageModel" "open" "[Z", Cond.methodLink RX4 115 yX4_none, Cond.instanceMethod yX4_none, Cond.selects RX4 yX4_none yX4_none]
def wsX4_shuffle_r4 : List Cond := [Cond.code yX4_none cX4_none 2 none, Cond.methodLink RX4 164 yX4_count, Cond.instanceMethod yX4_count, Cond.selects RX4 yX4_count yX4_count, Cond.code yX4_count cX4_count 6 (some .int), Cond.methodLink RX4 170 yX4_isSame, Cond.instanceMethod yX4_isSame, Cond.selects RX4 yX4_isSame yX4_isSame, Cond.code yX4_isSame cX4_isSame 5 (some .boolean)]
def wsX4_shuffle : List Cond := .code yX4_shuffle cX4_shuffle 10 (some .boolean) :: ((wsX4_shuffle_r1 ++ (wsX4_shuffle_r2 ++ (wsX4_shuffle_r3 ++ wsX4_shuffle_r4))) ++ wsX40)
def wsX4_counts : List Cond := .code yX4_counts cX4_counts 9 none :: ([.fieldLink RX4 50 "SharedPageModel" "many" "[I", .fieldLink RX4 80 "SharedPageModel" "ahead" "[I", .fieldLink RX4 47 "SharedPageModel" "row" "[I", .fieldLink RX4 22 "SharedPageModel" "leftOf" "[I", .fieldLink RX4 25 "SharedPageModel" "rightOf" "[I", .fieldLink RX4 83 "SharedPageModel" "ways" "[J", .methodLink RX4 101 yX4_place, .instanceMethod yX4_place, .selects RX4 yX4_place yX4_place, .initialized RX4, .code yX4_place cX4_place 4 (some .int)] ++ wsX40)
def wsX4_orders_r1 : List Cond := [Cond.fieldLink RX4 87 "SharedPageModel" "told" "I", Cond.fieldLink RX4 50 "SharedPageModel" "many" "[I", Cond.constantLong RX4 174 (-1), Cond.fieldLink RX4 83 "SharedPageModel" "ways" "[J", Cond.methodLink RX4 132 yX4_isText, Cond.instanceMethod yX4_isText, Cond.selects RX4 yX4_isText yX4_isText, Cond.initialized RX4, Cond.code yX4_isText cX4_isText 2 (some .boolean), Cond.methodLink RX4 136 yX4_isSite, Cond.instanceMethod yX4_isSite, Cond.selects RX4 yX4_isSite yX4_isSite, Cond.code yX4_isSite cX4_isSite 2 (some .boolean), Cond.methodLink RX4 176 yX4_counts, Cond.instanceMethod yX4_counts, Cond.selects RX4 yX4_counts yX4_counts, Cond.code yX4_counts cX4_counts 9 none, Cond.fieldLink RX4 80 "SharedPageModel" "ahead" "[I", Cond.fieldLink RX4 47 "SharedPageModel" "row" "[I", Cond.fieldLink RX4 22 "SharedPageModel" "leftOf" "[I", Cond.fieldLink RX4 25 "SharedPageModel" "rightOf" "[I", Cond.methodLink RX4 101 yX4_place, Cond.instanceMethod yX4_place, Cond.selects RX4 yX4_place yX4_place]
def wsX4_orders_r2 : List Cond := [Cond.code yX4_place cX4_place 4 (some .int)]
def wsX4_orders : List Cond := .code yX4_orders cX4_orders 3 (some .long) :: ((wsX4_orders_r1 ++ wsX4_orders_r2) ++ wsX40)
def wsX4_number_r1 : List Cond := [Cond.fieldLink RX4 87 "SharedPageModel" "told" "I", Cond.fieldLink RX4 50 "SharedPageModel" "many" "[I", Cond.constantLong RX4 174 (-1), Cond.fieldLink RX4 47 "SharedPageModel" "row" "[I", Cond.fieldLink RX4 80 "SharedPageModel" "ahead" "[I", Cond.fieldLink RX4 83 "SharedPageModel" "ways" "[J", Cond.methodLink RX4 132 yX4_isText, Cond.instanceMethod yX4_isText, Cond.selects RX4 yX4_isText yX4_isText, Cond.initialized RX4, Cond.code yX4_isText cX4_isText 2 (some .boolean), Cond.methodLink RX4 136 yX4_isSite, Cond.instanceMethod yX4_isSite, Cond.selects RX4 yX4_isSite yX4_isSite, Cond.code yX4_isSite cX4_isSite 2 (some .boolean), Cond.methodLink RX4 176 yX4_counts, Cond.instanceMethod yX4_counts, Cond.selects RX4 yX4_counts yX4_counts, Cond.code yX4_counts cX4_counts 9 none, Cond.fieldLink RX4 22 "SharedPageModel" "leftOf" "[I", Cond.fieldLink RX4 25 "SharedPageModel" "rightOf" "[I", Cond.methodLink RX4 101 yX4_place, Cond.instanceMethod yX4_place, Cond.selects RX4 yX4_place yX4_place]
def wsX4_number_r2 : List Cond := [Cond.code yX4_place cX4_place 4 (some .int), Cond.methodLink RX4 108 yX4_mark, Cond.instanceMethod yX4_mark, Cond.selects RX4 yX4_mark yX4_mark, Cond.code yX4_mark cX4_mark 3 (some .int), Cond.fieldLink RX4 13 "SharedPageModel" "siteOf" "[I", Cond.fieldLink RX4 16 "SharedPageModel" "clockOf" "[I"]
def wsX4_number : List Cond := .code yX4_number cX4_number 11 (some .long) :: ((wsX4_number_r1 ++ wsX4_number_r2) ++ wsX40)
def wsJ9_min_7cf53 : List Cond := .code yJ9_min_7cf53 cJ9_min_7cf53 2 (some .int) :: ([])
def wsL_law_r1 : List Cond := [Cond.classLink RL 7 RX3, Cond.instantiable RX3 7, Cond.initialized RX3, Cond.classLink RL 10 RX4, Cond.instantiable RX4 29, Cond.initialized RX4, Cond.methodLink RL 9 yX3_init, Cond.instanceMethod yX3_init, Cond.code yX3_init cX3_init 4 none, Cond.methodLink RX3 3 objectInit, Cond.instanceMethod objectInit, Cond.code objectInit ⟨#[0xb1]⟩ 1 none, Cond.classLink RX3 9 RX2, Cond.fieldLink RX3 11 "SharedPage" "texts" "[LSharedPage$Text;", Cond.classLink RX3 15 RX0, Cond.fieldLink RX3 17 "SharedPage" "copies" "[LSharedPage$Copy;", Cond.fieldLink RX3 21 "SharedPage" "spares" "[LSharedPage$Copy;", Cond.instantiable RX2 13, Cond.initialized RX2, Cond.instantiable RX0 12, Cond.initialized RX0, Cond.classLink RX3 30 RX1, Cond.instantiable RX1 2, Cond.initialized RX1]
def wsL_law_r2 : List Cond := [Cond.fieldLink RX3 33 "SharedPage" "freeOrders" "LSharedPage$FreeOrders;", Cond.arrayClass .int, Cond.fieldLink RX3 37 "SharedPage" "drawing" "[I", Cond.fieldLink RX3 41 "SharedPage" "written" "[I", Cond.fieldLink RX3 44 "SharedPage" "writtenLength" "I", Cond.methodLink RX3 24 yX2_init, Cond.instanceMethod yX2_init, Cond.code yX2_init cX2_init 2 none, Cond.methodLink RX2 3 objectInit, Cond.fieldLink RX2 9 "SharedPage$Text" "woot" "Z", Cond.fieldLink RX2 15 "SharedPage$Text" "sites" "[I", Cond.fieldLink RX2 19 "SharedPage$Text" "marks" "[I", Cond.fieldLink RX2 22 "SharedPage$Text" "letters" "[I", Cond.fieldLink RX2 25 "SharedPage$Text" "lefts" "[I", Cond.fieldLink RX2 28 "SharedPage$Text" "rights" "[I", Cond.fieldLink RX2 31 "SharedPage$Text" "kinds" "[I", Cond.fieldLink RX2 34 "SharedPage$Text" "makers" "[I", Cond.fieldLink RX2 37 "SharedPage$Text" "subjects" "[I", Cond.fieldLink RX2 40 "SharedPage$Text" "madeBy" "[I", Cond.fieldLink RX2 43 "SharedPage$Text" "characters" "I", Cond.fieldLink RX2 47 "SharedPage$Text" "messages" "I", Cond.fieldLink RX2 50 "SharedPage$Text" "erases" "I", Cond.methodLink RX3 27 yX0_init, Cond.instanceMethod yX0_init]
def wsL_law_r3 : List Cond := [Cond.code yX0_init cX0_init 2 none, Cond.methodLink RX0 3 objectInit, Cond.fieldLink RX0 9 "SharedPage$Copy" "text" "LSharedPage$Text;", Cond.fieldLink RX0 15 "SharedPage$Copy" "sequence" "[I", Cond.fieldLink RX0 19 "SharedPage$Copy" "places" "[I", Cond.arrayClass .boolean, Cond.fieldLink RX0 22 "SharedPage$Copy" "erased" "[Z", Cond.fieldLink RX0 26 "SharedPage$Copy" "states" "[I", Cond.methodLink RX0 29 yX0_makeEmpty, Cond.instanceMethod yX0_makeEmpty, Cond.selects RX0 yX0_makeEmpty yX0_makeEmpty, Cond.code yX0_makeEmpty cX0_makeEmpty 2 none, Cond.fieldLink RX0 32 "SharedPage$Copy" "length" "I", Cond.fieldLink RX0 36 "SharedPage$Copy" "seen" "I", Cond.fieldLink RX0 39 "SharedPage$Copy" "done" "I", Cond.fieldLink RX0 42 "SharedPage$Copy" "waiting" "I", Cond.fieldLink RX0 45 "SharedPage$Copy" "looks" "I", Cond.fieldLink RX0 48 "SharedPage$Copy" "looksOfCall" "I", Cond.fieldLink RX0 51 "SharedPage$Copy" "integratedInCall" "I", Cond.methodLink RX3 32 yX1_init, Cond.instanceMethod yX1_init, Cond.code yX1_init cX1_init 1 none, Cond.methodLink RX1 3 objectInit, Cond.arrayClass .long]
def wsL_law_r4 : List Cond := [Cond.fieldLink RX1 9 "SharedPage$FreeOrders" "ways" "[J", Cond.fieldLink RX1 15 "SharedPage$FreeOrders" "followers" "[I", Cond.methodLink RL 12 yX4_init, Cond.instanceMethod yX4_init, Cond.code yX4_init cX4_init 1 none, Cond.methodLink RX4 1 objectInit, Cond.fieldLink RX4 7 "SharedPageModel" "made" "[I", Cond.fieldLink RX4 13 "SharedPageModel" "siteOf" "[I", Cond.fieldLink RX4 16 "SharedPageModel" "clockOf" "[I", Cond.fieldLink RX4 19 "SharedPageModel" "letterOf" "[I", Cond.fieldLink RX4 22 "SharedPageModel" "leftOf" "[I", Cond.fieldLink RX4 25 "SharedPageModel" "rightOf" "[I", Cond.fieldLink RX4 28 "SharedPageModel" "clocks" "[I", Cond.fieldLink RX4 31 "SharedPageModel" "messages" "[I", Cond.fieldLink RX4 34 "SharedPageModel" "erases" "[I", Cond.fieldLink RX4 37 "SharedPageModel" "isErase" "[Z", Cond.fieldLink RX4 41 "SharedPageModel" "charOf" "[I", Cond.fieldLink RX4 44 "SharedPageModel" "makerOf" "[I", Cond.fieldLink RX4 47 "SharedPageModel" "row" "[I", Cond.fieldLink RX4 50 "SharedPageModel" "many" "[I", Cond.fieldLink RX4 53 "SharedPageModel" "has" "[Z", Cond.fieldLink RX4 56 "SharedPageModel" "erased" "[Z", Cond.fieldLink RX4 59 "SharedPageModel" "state" "[I", Cond.fieldLink RX4 62 "SharedPageModel" "looks" "[I"]
def wsL_law_r5 : List Cond := [Cond.fieldLink RX4 65 "SharedPageModel" "out" "[I", Cond.fieldLink RX4 68 "SharedPageModel" "line" "[I", Cond.fieldLink RX4 71 "SharedPageModel" "passed" "[Z", Cond.fieldLink RX4 74 "SharedPageModel" "open" "[Z", Cond.fieldLink RX4 77 "SharedPageModel" "left" "[I", Cond.fieldLink RX4 80 "SharedPageModel" "ahead" "[I", Cond.fieldLink RX4 83 "SharedPageModel" "ways" "[J", Cond.methodLink RL 13 yX3_insert, Cond.instanceMethod yX3_insert, Cond.selects RX3 yX3_insert yX3_insert, Cond.code yX3_insert cX3_insert 9 (some .int), Cond.fieldLink RX3 52 "SharedPage$Copy" "seen" "I", Cond.fieldLink RX3 62 "SharedPage$Copy" "text" "LSharedPage$Text;", Cond.methodLink RX3 48 yX3_copyAt, Cond.instanceMethod yX3_copyAt, Cond.selects RX3 yX3_copyAt yX3_copyAt, Cond.code yX3_copyAt cX3_copyAt 4 (some (.object "SharedPage$Copy")), Cond.methodLink RX3 55 yX0_leftForPlace, Cond.instanceMethod yX0_leftForPlace, Cond.selects RX0 yX0_leftForPlace yX0_leftForPlace, Cond.code yX0_leftForPlace cX0_leftForPlace 2 (some .int), Cond.methodLink RX0 138 yX0_seenAt, Cond.instanceMethod yX0_seenAt, Cond.selects RX0 yX0_seenAt yX0_seenAt]
def wsL_law_r6 : List Cond := [Cond.code yX0_seenAt cX0_seenAt 5 (some .int), Cond.methodLink RX0 128 yX0_characterAt, Cond.instanceMethod yX0_characterAt, Cond.selects RX0 yX0_characterAt yX0_characterAt, Cond.code yX0_characterAt cX0_characterAt 2 (some .int), Cond.methodLink RX0 119 yX0_isSeen, Cond.instanceMethod yX0_isSeen, Cond.selects RX0 yX0_isSeen yX0_isSeen, Cond.code yX0_isSeen cX0_isSeen 2 (some .boolean), Cond.methodLink RX3 59 yX0_rightForPlace, Cond.instanceMethod yX0_rightForPlace, Cond.selects RX0 yX0_rightForPlace yX0_rightForPlace, Cond.code yX0_rightForPlace cX0_rightForPlace 2 (some .int), Cond.fieldLink RX0 106 "SharedPage$Text" "woot" "Z", Cond.methodLink RX0 141 yX0_leftForPlace, Cond.methodLink RX0 94 yX0_placeOf, Cond.instanceMethod yX0_placeOf, Cond.selects RX0 yX0_placeOf yX0_placeOf, Cond.code yX0_placeOf cX0_placeOf 2 (some .int), Cond.methodLink RX3 66 yX2_addInsert, Cond.instanceMethod yX2_addInsert, Cond.selects RX2 yX2_addInsert yX2_addInsert, Cond.code yX2_addInsert cX2_addInsert 6 (some .int), Cond.methodLink RX2 53 yX2_addMessage]
def wsL_law_r7 : List Cond := [Cond.instanceMethod yX2_addMessage, Cond.selects RX2 yX2_addMessage yX2_addMessage, Cond.code yX2_addMessage cX2_addMessage 5 (some .int), Cond.methodLink RX3 70 yX0_doOwn, Cond.instanceMethod yX0_doOwn, Cond.selects RX0 yX0_doOwn yX0_doOwn, Cond.code yX0_doOwn cX0_doOwn 2 none, Cond.methodLink RX0 54 yX2_hasMessage, Cond.instanceMethod yX2_hasMessage, Cond.selects RX2 yX2_hasMessage yX2_hasMessage, Cond.code yX2_hasMessage cX2_hasMessage 2 (some .boolean), Cond.methodLink RX0 60 yX0_startCall, Cond.instanceMethod yX0_startCall, Cond.selects RX0 yX0_startCall yX0_startCall, Cond.code yX0_startCall cX0_startCall 1 none, Cond.methodLink RX0 63 yX0_carryOut, Cond.instanceMethod yX0_carryOut, Cond.selects RX0 yX0_carryOut yX0_carryOut, Cond.code yX0_carryOut cX0_carryOut 3 none, Cond.methodLink RX0 88 yX2_subjectOf, Cond.instanceMethod yX2_subjectOf, Cond.selects RX2 yX2_subjectOf yX2_subjectOf, Cond.code yX2_subjectOf cX2_subjectOf 2 (some .int), Cond.methodLink RX2 57 yX2_hasMessage]
def wsL_law_r8 : List Cond := [Cond.methodLink RX0 77 yX0_setState, Cond.instanceMethod yX0_setState, Cond.selects RX0 yX0_setState yX0_setState, Cond.code yX0_setState cX0_setState 3 none, Cond.methodLink RX0 91 yX2_kindOf, Cond.instanceMethod yX2_kindOf, Cond.selects RX2 yX2_kindOf yX2_kindOf, Cond.code yX2_kindOf cX2_kindOf 2 (some .int), Cond.methodLink RX0 103 yX0_strike, Cond.instanceMethod yX0_strike, Cond.selects RX0 yX0_strike yX0_strike, Cond.code yX0_strike cX0_strike 2 none, Cond.methodLink RX0 110 yX0_wootPlace, Cond.instanceMethod yX0_wootPlace, Cond.selects RX0 yX0_wootPlace yX0_wootPlace, Cond.code yX0_wootPlace cX0_wootPlace 10 (some .int), Cond.methodLink RX0 97 yX2_leftOf, Cond.instanceMethod yX2_leftOf, Cond.selects RX2 yX2_leftOf yX2_leftOf, Cond.code yX2_leftOf cX2_leftOf 2 (some .int), Cond.methodLink RX2 61 yX2_hasCharacter, Cond.instanceMethod yX2_hasCharacter, Cond.selects RX2 yX2_hasCharacter yX2_hasCharacter, Cond.code yX2_hasCharacter cX2_hasCharacter 2 (some .boolean)]
def wsL_law_r9 : List Cond := [Cond.methodLink RX0 100 yX2_rightOf, Cond.instanceMethod yX2_rightOf, Cond.selects RX2 yX2_rightOf yX2_rightOf, Cond.code yX2_rightOf cX2_rightOf 2 (some .int), Cond.methodLink RX0 125 yX2_markOf, Cond.instanceMethod yX2_markOf, Cond.selects RX2 yX2_markOf yX2_markOf, Cond.code yX2_markOf cX2_markOf 2 (some .int), Cond.methodLink RX0 131 yX0_spans, Cond.instanceMethod yX0_spans, Cond.selects RX0 yX0_spans yX0_spans, Cond.code yX0_spans cX0_spans 4 (some .boolean), Cond.methodLink RX0 113 yX0_yataPlace, Cond.instanceMethod yX0_yataPlace, Cond.selects RX0 yX0_yataPlace yX0_yataPlace, Cond.code yX0_yataPlace cX0_yataPlace 9 (some .int), Cond.methodLink RX0 135 yX2_siteOf, Cond.instanceMethod yX2_siteOf, Cond.selects RX2 yX2_siteOf yX2_siteOf, Cond.code yX2_siteOf cX2_siteOf 2 (some .int), Cond.methodLink RX0 116 yX0_putAt, Cond.instanceMethod yX0_putAt, Cond.selects RX0 yX0_putAt yX0_putAt, Cond.code yX0_putAt cX0_putAt 4 none]
def wsL_law_r10 : List Cond := [Cond.methodLink RX0 122 yX0_setPlace, Cond.instanceMethod yX0_setPlace, Cond.selects RX0 yX0_setPlace yX0_setPlace, Cond.code yX0_setPlace cX0_setPlace 3 none, Cond.methodLink RX0 67 yX0_endCall, Cond.instanceMethod yX0_endCall, Cond.selects RX0 yX0_endCall yX0_endCall, Cond.code yX0_endCall cX0_endCall 1 none, Cond.methodLink RL 17 yX4_insert, Cond.instanceMethod yX4_insert, Cond.selects RX4 yX4_insert yX4_insert, Cond.code yX4_insert cX4_insert 10 (some .int), Cond.fieldLink RX4 87 "SharedPageModel" "told" "I", Cond.methodLink RX4 132 yX4_isText, Cond.instanceMethod yX4_isText, Cond.selects RX4 yX4_isText yX4_isText, Cond.code yX4_isText cX4_isText 2 (some .boolean), Cond.methodLink RX4 136 yX4_isSite, Cond.instanceMethod yX4_isSite, Cond.selects RX4 yX4_isSite yX4_isSite, Cond.code yX4_isSite cX4_isSite 2 (some .boolean), Cond.methodLink RX4 139 yX4_allSeen, Cond.instanceMethod yX4_allSeen, Cond.selects RX4 yX4_allSeen yX4_allSeen]
def wsL_law_r11 : List Cond := [Cond.code yX4_allSeen cX4_allSeen 4 (some .int), Cond.methodLink RX4 143 yX4_seen, Cond.instanceMethod yX4_seen, Cond.selects RX4 yX4_seen yX4_seen, Cond.code yX4_seen cX4_seen 5 (some .int), Cond.methodLink RX4 146 yX4_message, Cond.instanceMethod yX4_message, Cond.selects RX4 yX4_message yX4_message, Cond.code yX4_message cX4_message 6 (some .int), Cond.methodLink RX4 150 yX4_begins, Cond.instanceMethod yX4_begins, Cond.selects RX4 yX4_begins yX4_begins, Cond.code yX4_begins cX4_begins 1 none, Cond.fieldLink RX4 105 "SharedPageModel" "looked" "I", Cond.fieldLink RX4 91 "SharedPageModel" "integrated" "I", Cond.methodLink RX4 153 yX4_hears, Cond.instanceMethod yX4_hears, Cond.selects RX4 yX4_hears yX4_hears, Cond.code yX4_hears cX4_hears 6 (some .int), Cond.methodLink RX4 125 yX4_can, Cond.instanceMethod yX4_can, Cond.selects RX4 yX4_can yX4_can, Cond.code yX4_can cX4_can 5 (some .boolean), Cond.methodLink RX4 118 yX4_isThere]
def wsL_law_r12 : List Cond := [Cond.instanceMethod yX4_isThere, Cond.selects RX4 yX4_isThere yX4_isThere, Cond.code yX4_isThere cX4_isThere 3 (some .boolean), Cond.methodLink RX4 129 yX4_does, Cond.instanceMethod yX4_does, Cond.selects RX4 yX4_does yX4_does, Cond.code yX4_does cX4_does 5 none, Cond.methodLink RX4 122 yX4_integrate, Cond.instanceMethod yX4_integrate, Cond.selects RX4 yX4_integrate yX4_integrate, Cond.code yX4_integrate cX4_integrate 4 none, Cond.methodLink RX4 94 yX4_woot, Cond.instanceMethod yX4_woot, Cond.selects RX4 yX4_woot yX4_woot, Cond.code yX4_woot cX4_woot 8 none, Cond.methodLink RX4 101 yX4_place, Cond.instanceMethod yX4_place, Cond.selects RX4 yX4_place yX4_place, Cond.code yX4_place cX4_place 4 (some .int), Cond.methodLink RX4 108 yX4_mark, Cond.instanceMethod yX4_mark, Cond.selects RX4 yX4_mark yX4_mark, Cond.code yX4_mark cX4_mark 3 (some .int), Cond.methodLink RX4 111 yX4_lay]
def wsL_law_r13 : List Cond := [Cond.instanceMethod yX4_lay, Cond.selects RX4 yX4_lay yX4_lay, Cond.code yX4_lay cX4_lay 5 none, Cond.methodLink RX4 98 yX4_yata, Cond.instanceMethod yX4_yata, Cond.selects RX4 yX4_yata yX4_yata, Cond.code yX4_yata cX4_yata 10 none, Cond.methodLink RX4 115 yX4_none, Cond.instanceMethod yX4_none, Cond.selects RX4 yX4_none yX4_none, Cond.code yX4_none cX4_none 2 none, Cond.methodLink RX4 157 yX4_ends, Cond.instanceMethod yX4_ends, Cond.selects RX4 yX4_ends yX4_ends, Cond.code yX4_ends cX4_ends 2 none, Cond.methodLink RL 18 yX3_erase, Cond.instanceMethod yX3_erase, Cond.selects RX3 yX3_erase yX3_erase, Cond.code yX3_erase cX3_erase 6 (some .int), Cond.methodLink RX3 74 yX0_seenAt, Cond.methodLink RX3 77 yX2_addErase, Cond.instanceMethod yX2_addErase, Cond.selects RX2 yX2_addErase yX2_addErase, Cond.code yX2_addErase cX2_addErase 3 (some .int)]
def wsL_law_r14 : List Cond := [Cond.methodLink RL 22 yX4_erase, Cond.instanceMethod yX4_erase, Cond.selects RX4 yX4_erase yX4_erase, Cond.code yX4_erase cX4_erase 6 (some .int), Cond.methodLink RL 23 yX3_tell, Cond.instanceMethod yX3_tell, Cond.selects RX3 yX3_tell yX3_tell, Cond.code yX3_tell cX3_tell 6 (some .int), Cond.methodLink RX3 81 yX2_hasMessage, Cond.methodLink RX3 85 yX0_startCall, Cond.methodLink RX3 88 yX0_hear, Cond.instanceMethod yX0_hear, Cond.selects RX0 yX0_hear yX0_hear, Cond.code yX0_hear cX0_hear 5 (some .int), Cond.methodLink RX0 70 yX0_stateOf, Cond.instanceMethod yX0_stateOf, Cond.selects RX0 yX0_stateOf yX0_stateOf, Cond.code yX0_stateOf cX0_stateOf 2 (some .int), Cond.methodLink RX0 74 yX0_canBeDone, Cond.instanceMethod yX0_canBeDone, Cond.selects RX0 yX0_canBeDone yX0_canBeDone, Cond.code yX0_canBeDone cX0_canBeDone 3 (some .boolean), Cond.methodLink RX0 81 yX0_leastReady, Cond.instanceMethod yX0_leastReady]
def wsL_law_r15 : List Cond := [Cond.selects RX0 yX0_leastReady yX0_leastReady, Cond.code yX0_leastReady cX0_leastReady 2 (some .int), Cond.fieldLink RX0 85 "SharedPage$Text" "messages" "I", Cond.methodLink RX3 91 yX0_endCall, Cond.methodLink RL 26 yX4_tell, Cond.instanceMethod yX4_tell, Cond.selects RX4 yX4_tell yX4_tell, Cond.code yX4_tell cX4_tell 5 (some .int), Cond.methodLink RX4 161 yX4_isMessage, Cond.instanceMethod yX4_isMessage, Cond.selects RX4 yX4_isMessage yX4_isMessage, Cond.code yX4_isMessage cX4_isMessage 3 (some .boolean), Cond.methodLink RL 27 yX3_share, Cond.instanceMethod yX3_share, Cond.selects RX3 yX3_share yX3_share, Cond.code yX3_share cX3_share 11 (some .int), Cond.fieldLink RX3 94 "SharedPage$Text" "messages" "I", Cond.methodLink RX3 97 yX0_stateOf, Cond.methodLink RL 31 yX4_share, Cond.instanceMethod yX4_share, Cond.selects RX4 yX4_share yX4_share, Cond.code yX4_share cX4_share 9 (some .int), Cond.methodLink RL 32 yX3_look, Cond.instanceMethod yX3_look]
def wsL_law_r16 : List Cond := [Cond.selects RX3 yX3_look yX3_look, Cond.code yX3_look cX3_look 5 (some .int), Cond.fieldLink RX3 100 "SharedPage$Text" "characters" "I", Cond.fieldLink RX3 103 "SharedPage$Copy" "length" "I", Cond.fieldLink RX3 106 "SharedPage$Copy" "done" "I", Cond.fieldLink RX3 109 "SharedPage$Copy" "waiting" "I", Cond.fieldLink RX3 112 "SharedPage$Copy" "looks" "I", Cond.methodLink RL 35 yX4_look, Cond.instanceMethod yX4_look, Cond.selects RX4 yX4_look yX4_look, Cond.code yX4_look cX4_look 5 (some .int), Cond.methodLink RX4 164 yX4_count, Cond.instanceMethod yX4_count, Cond.selects RX4 yX4_count yX4_count, Cond.code yX4_count cX4_count 6 (some .int), Cond.methodLink RL 36 yX3_message, Cond.instanceMethod yX3_message, Cond.selects RX3 yX3_message yX3_message, Cond.code yX3_message cX3_message 6 (some .int), Cond.methodLink RX3 115 yX3_textAt, Cond.instanceMethod yX3_textAt, Cond.selects RX3 yX3_textAt yX3_textAt, Cond.code yX3_textAt cX3_textAt 2 (some (.object "SharedPage$Text")), Cond.methodLink RX3 119 yX2_subjectOf]
def wsL_law_r17 : List Cond := [Cond.methodLink RX3 122 yX2_kindOf, Cond.methodLink RX3 125 yX2_makerOf, Cond.instanceMethod yX2_makerOf, Cond.selects RX2 yX2_makerOf yX2_makerOf, Cond.code yX2_makerOf cX2_makerOf 2 (some .int), Cond.methodLink RX3 128 yX2_markOf, Cond.methodLink RX3 131 yX2_leftOf, Cond.methodLink RX3 134 yX2_rightOf, Cond.methodLink RX3 137 yX2_letterOf, Cond.instanceMethod yX2_letterOf, Cond.selects RX2 yX2_letterOf yX2_letterOf, Cond.code yX2_letterOf cX2_letterOf 2 (some .int), Cond.methodLink RL 39 yX4_message_, Cond.instanceMethod yX4_message_, Cond.selects RX4 yX4_message_ yX4_message_, Cond.code yX4_message_ cX4_message_ 5 (some .int), Cond.methodLink RL 40 yX3_state, Cond.instanceMethod yX3_state, Cond.selects RX3 yX3_state yX3_state, Cond.code yX3_state cX3_state 5 (some .int), Cond.methodLink RL 43 yX4_state, Cond.instanceMethod yX4_state, Cond.selects RX4 yX4_state yX4_state, Cond.code yX4_state cX4_state 4 (some .int)]
def wsL_law_r18 : List Cond := [Cond.methodLink RL 44 yX3_character, Cond.instanceMethod yX3_character, Cond.selects RX3 yX3_character yX3_character, Cond.code yX3_character cX3_character 7 (some .int), Cond.methodLink RX3 140 yX0_characterAt, Cond.methodLink RX3 143 yX0_isSeen, Cond.methodLink RX3 146 yX0_placeOf, Cond.methodLink RL 47 yX4_character, Cond.instanceMethod yX4_character, Cond.selects RX4 yX4_character yX4_character, Cond.code yX4_character cX4_character 7 (some .int), Cond.methodLink RL 48 yX3_write, Cond.instanceMethod yX3_write, Cond.selects RX3 yX3_write yX3_write, Cond.code yX3_write cX3_write 7 (some .int), Cond.methodLink RL 52 yX4_write, Cond.instanceMethod yX4_write, Cond.selects RX4 yX4_write yX4_write, Cond.code yX4_write cX4_write 6 (some .int), Cond.fieldLink RX4 167 "SharedPageModel" "outs" "I", Cond.methodLink RL 53 yX3_out, Cond.instanceMethod yX3_out, Cond.selects RX3 yX3_out yX3_out, Cond.code yX3_out cX3_out 2 (some .int)]
def wsL_law_r19 : List Cond := [Cond.methodLink RL 57 yX4_out, Cond.instanceMethod yX4_out, Cond.selects RX4 yX4_out yX4_out, Cond.code yX4_out cX4_out 2 (some .int), Cond.methodLink RL 58 yX3_same, Cond.instanceMethod yX3_same, Cond.selects RX3 yX3_same yX3_same, Cond.code yX3_same cX3_same 6 (some .boolean), Cond.methodLink RX3 149 yX0_isLike, Cond.instanceMethod yX0_isLike, Cond.selects RX0 yX0_isLike yX0_isLike, Cond.code yX0_isLike cX0_isLike 4 (some .boolean), Cond.methodLink RL 62 yX4_same, Cond.instanceMethod yX4_same, Cond.selects RX4 yX4_same yX4_same, Cond.code yX4_same cX4_same 4 (some .boolean), Cond.methodLink RX4 170 yX4_isSame, Cond.instanceMethod yX4_isSame, Cond.selects RX4 yX4_isSame yX4_isSame, Cond.code yX4_isSame cX4_isSame 5 (some .boolean), Cond.methodLink RL 63 yX3_shuffle, Cond.instanceMethod yX3_shuffle, Cond.selects RX3 yX3_shuffle yX3_shuffle, Cond.code yX3_shuffle cX3_shuffle 9 (some .boolean)]
def wsL_law_r20 : List Cond := [Cond.constant RX3 164 (1103515245), Cond.methodLink RX3 153 yX3_spareOf, Cond.instanceMethod yX3_spareOf, Cond.selects RX3 yX3_spareOf yX3_spareOf, Cond.code yX3_spareOf cX3_spareOf 2 (some (.object "SharedPage$Copy")), Cond.methodLink RX3 157 yX0_makeEmpty, Cond.methodLink RX3 160 yX3_listDone, Cond.instanceMethod yX3_listDone, Cond.selects RX3 yX3_listDone yX3_listDone, Cond.code yX3_listDone cX3_listDone 4 (some .int), Cond.methodLink RX3 165 yX3_takeDrawn, Cond.instanceMethod yX3_takeDrawn, Cond.selects RX3 yX3_takeDrawn yX3_takeDrawn, Cond.code yX3_takeDrawn cX3_takeDrawn 5 (some .int), Cond.methodLink RL 66 yX4_shuffle, Cond.instanceMethod yX4_shuffle, Cond.selects RX4 yX4_shuffle yX4_shuffle, Cond.code yX4_shuffle cX4_shuffle 10 (some .boolean), Cond.constant RX4 173 (1103515245), Cond.methodLink RL 67 yX3_orders, Cond.instanceMethod yX3_orders, Cond.selects RX3 yX3_orders yX3_orders, Cond.code yX3_orders cX3_orders 4 (some .long), Cond.constantLong RX3 168 (-1)]
def wsL_law_r21 : List Cond := [Cond.methodLink RX3 170 yX1_countOf, Cond.instanceMethod yX1_countOf, Cond.selects RX1 yX1_countOf yX1_countOf, Cond.code yX1_countOf cX1_countOf 2 (some .long), Cond.methodLink RX1 19 yX1_weigh, Cond.instanceMethod yX1_weigh, Cond.selects RX1 yX1_weigh yX1_weigh, Cond.code yX1_weigh cX1_weigh 5 none, Cond.fieldLink RX1 27 "SharedPage$Copy" "length" "I", Cond.methodLink RX1 33 Lib.Math.min.name, Cond.static Lib.Math.min.name, Cond.initialized "java/lang/Math", Cond.code Lib.Math.min.name Lib.Math.min.code 2 (some .int), Cond.methodLink RX1 52 yX1_listFollowers, Cond.instanceMethod yX1_listFollowers, Cond.selects RX1 yX1_listFollowers yX1_listFollowers, Cond.code yX1_listFollowers cX1_listFollowers 5 none, Cond.fieldLink RX1 39 "SharedPage$Copy" "text" "LSharedPage$Text;", Cond.methodLink RX1 43 yX0_characterAt, Cond.methodLink RX1 60 yX2_leftOf, Cond.methodLink RX1 63 yX0_placeOf, Cond.methodLink RX1 66 yX1_addFollower, Cond.instanceMethod yX1_addFollower, Cond.selects RX1 yX1_addFollower yX1_addFollower]
def wsL_law_r22 : List Cond := [Cond.code yX1_addFollower cX1_addFollower 4 none, Cond.methodLink RX1 70 yX2_rightOf, Cond.methodLink RX1 23 yX1_waysFrom, Cond.instanceMethod yX1_waysFrom, Cond.selects RX1 yX1_waysFrom yX1_waysFrom, Cond.code yX1_waysFrom cX1_waysFrom 2 (some .long), Cond.methodLink RX1 56 yX1_handOn, Cond.instanceMethod yX1_handOn, Cond.selects RX1 yX1_handOn yX1_handOn, Cond.code yX1_handOn cX1_handOn 7 none, Cond.methodLink RL 71 yX4_orders, Cond.instanceMethod yX4_orders, Cond.selects RX4 yX4_orders yX4_orders, Cond.code yX4_orders cX4_orders 3 (some .long), Cond.constantLong RX4 174 (-1), Cond.methodLink RX4 176 yX4_counts, Cond.instanceMethod yX4_counts, Cond.selects RX4 yX4_counts yX4_counts, Cond.code yX4_counts cX4_counts 9 none, Cond.methodLink RL 72 yX3_number, Cond.instanceMethod yX3_number, Cond.selects RX3 yX3_number yX3_number, Cond.code yX3_number cX3_number 4 (some .long), Cond.methodLink RX3 174 yX1_rankOf]
def wsL_law_r23 : List Cond := [Cond.instanceMethod yX1_rankOf, Cond.selects RX1 yX1_rankOf yX1_rankOf, Cond.code yX1_rankOf cX1_rankOf 9 (some .long), Cond.methodLink RX1 47 yX2_markOf, Cond.methodLink RL 75 yX4_number, Cond.instanceMethod yX4_number, Cond.selects RX4 yX4_number yX4_number, Cond.code yX4_number cX4_number 11 (some .long)]
def wsL_law : List Cond := (wsL_law_r1 ++ (wsL_law_r2 ++ (wsL_law_r3 ++ (wsL_law_r4 ++ (wsL_law_r5 ++ (wsL_law_r6 ++ (wsL_law_r7 ++ (wsL_law_r8 ++ (wsL_law_r9 ++ (wsL_law_r10 ++ (wsL_law_r11 ++ (wsL_law_r12 ++ (wsL_law_r13 ++ (wsL_law_r14 ++ (wsL_law_r15 ++ (wsL_law_r16 ++ (wsL_law_r17 ++ (wsL_law_r18 ++ (wsL_law_r19 ++ (wsL_law_r20 ++ (wsL_law_r21 ++ (wsL_law_r22 ++ wsL_law_r23)))))))))))))))))))))) ++ wsX30 ++ wsX40 ++ wsX20 ++ wsX00 ++ wsX10 ++ ([] : List Cond)
theorem lw_mem_r (ws : List Cond) (ps : List Nat) (hp : ws = ps.filterMap (fun i => lw_tbl[i]?)) : ∀ w ∈ ws, w ∈ lw_tbl := by
  intro w hw
  rw [hp] at hw
  obtain ⟨i, -, hi⟩ := List.mem_filterMap.mp hw
  exact List.mem_of_getElem? hi
set_option maxRecDepth 20000 in
theorem in_wsL_law_r1 : ∀ w ∈ wsL_law_r1, w ∈ lw_tbl := lw_mem_r _ [51, 52, 45, 474, 475, 49, 53, 54, 55, 56, 57, 58, 59, 182, 61, 183, 184, 63, 46, 113, 47, 168, 169, 48] (by decide +kernel)
set_option maxRecDepth 20000 in
theorem in_wsL_law_r2 : ∀ w ∈ wsL_law_r2, w ∈ lw_tbl := lw_mem_r _ [185, 112, 186, 187, 188, 64, 65, 66, 67, 68, 70, 71, 72, 73, 74, 75, 76, 77, 78, 79, 81, 84, 114, 115] (by decide +kernel)
set_option maxRecDepth 20000 in
theorem in_wsL_law_r3 : ∀ w ∈ wsL_law_r3, w ∈ lw_tbl := lw_mem_r _ [116, 117, 122, 125, 126, 167, 127, 128, 118, 119, 120, 121, 129, 133, 134, 136, 138, 140, 141, 170, 171, 172, 173, 181] (by decide +kernel)
set_option maxRecDepth 20000 in
theorem in_wsL_law_r4 : ∀ w ∈ wsL_law_r4, w ∈ lw_tbl := lw_mem_r _ [174, 175, 476, 477, 478, 479, 481, 482, 483, 484, 485, 486, 487, 488, 489, 490, 491, 492, 493, 494, 495, 496, 497, 498] (by decide +kernel)
set_option maxRecDepth 20000 in
theorem in_wsL_law_r5 : ∀ w ∈ wsL_law_r5, w ∈ lw_tbl := lw_mem_r _ [501, 503, 504, 505, 506, 507, 508, 204, 205, 206, 207, 132, 123, 208, 210, 0, 211, 212, 213, 214, 215, 216, 217, 218] (by decide +kernel)
set_option maxRecDepth 20000 in
theorem in_wsL_law_r6 : ∀ w ∈ wsL_law_r6, w ∈ lw_tbl := lw_mem_r _ [219, 220, 221, 222, 223, 224, 225, 226, 227, 228, 229, 230, 231, 69, 232, 233, 234, 235, 236, 237, 238, 239, 240, 241] (by decide +kernel)
set_option maxRecDepth 20000 in
theorem in_wsL_law_r7 : ∀ w ∈ wsL_law_r7, w ∈ lw_tbl := lw_mem_r _ [243, 1, 244, 245, 246, 247, 248, 249, 250, 251, 252, 253, 254, 255, 256, 257, 259, 2, 260, 261, 262, 263, 264, 265] (by decide +kernel)
set_option maxRecDepth 20000 in
theorem in_wsL_law_r8 : ∀ w ∈ wsL_law_r8, w ∈ lw_tbl := lw_mem_r _ [266, 268, 3, 269, 270, 271, 272, 273, 274, 276, 4, 277, 278, 280, 5, 281, 282, 283, 284, 285, 286, 288, 6, 289] (by decide +kernel)
set_option maxRecDepth 20000 in
theorem in_wsL_law_r9 : ∀ w ∈ wsL_law_r9, w ∈ lw_tbl := lw_mem_r _ [290, 291, 292, 293, 294, 295, 296, 297, 298, 300, 7, 301, 302, 304, 8, 305, 306, 307, 308, 309, 310, 312, 9, 313] (by decide +kernel)
set_option maxRecDepth 20000 in
theorem in_wsL_law_r10 : ∀ w ∈ wsL_law_r10, w ∈ lw_tbl := lw_mem_r _ [314, 316, 10, 317, 318, 319, 320, 321, 568, 569, 570, 571, 480, 572, 574, 22, 575, 576, 578, 23, 579, 580, 582, 24] (by decide +kernel)
set_option maxRecDepth 20000 in
theorem in_wsL_law_r11 : ∀ w ∈ wsL_law_r11, w ∈ lw_tbl := lw_mem_r _ [583, 584, 586, 25, 587, 588, 590, 26, 591, 592, 594, 27, 595, 499, 500, 596, 598, 28, 599, 600, 602, 29, 603, 604] (by decide +kernel)
set_option maxRecDepth 20000 in
theorem in_wsL_law_r12 : ∀ w ∈ wsL_law_r12, w ∈ lw_tbl := lw_mem_r _ [606, 30, 607, 608, 610, 31, 611, 612, 614, 32, 615, 616, 618, 33, 619, 620, 622, 34, 623, 624, 626, 35, 627, 628] (by decide +kernel)
set_option maxRecDepth 20000 in
theorem in_wsL_law_r13 : ∀ w ∈ wsL_law_r13, w ∈ lw_tbl := lw_mem_r _ [630, 36, 631, 632, 634, 37, 635, 636, 638, 38, 639, 640, 642, 39, 643, 322, 323, 324, 325, 326, 327, 328, 329, 330] (by decide +kernel)
set_option maxRecDepth 20000 in
theorem in_wsL_law_r14 : ∀ w ∈ wsL_law_r14, w ∈ lw_tbl := lw_mem_r _ [644, 645, 646, 647, 331, 332, 333, 334, 335, 336, 337, 338, 339, 340, 341, 342, 343, 344, 345, 347, 11, 348, 349, 351] (by decide +kernel)
end
section
set_option maxRecDepth 20000 in
theorem in_wsL_law_r15 : ∀ w ∈ wsL_law_r15, w ∈ lw_tbl := lw_mem_r _ [12, 352, 83, 353, 648, 649, 650, 651, 652, 654, 40, 655, 354, 355, 356, 357, 82, 358, 656, 657, 658, 659, 359, 360] (by decide +kernel)
set_option maxRecDepth 20000 in
theorem in_wsL_law_r16 : ∀ w ∈ wsL_law_r16, w ∈ lw_tbl := lw_mem_r _ [361, 362, 80, 131, 135, 137, 139, 660, 661, 662, 663, 664, 666, 41, 667, 363, 364, 365, 366, 367, 369, 13, 370, 371] (by decide +kernel)
set_option maxRecDepth 20000 in
theorem in_wsL_law_r17 : ∀ w ∈ wsL_law_r17, w ∈ lw_tbl := lw_mem_r _ [372, 373, 374, 375, 376, 377, 378, 379, 380, 381, 382, 383, 668, 669, 670, 671, 384, 385, 386, 387, 672, 673, 674, 675] (by decide +kernel)
set_option maxRecDepth 20000 in
theorem in_wsL_law_r18 : ∀ w ∈ wsL_law_r18, w ∈ lw_tbl := lw_mem_r _ [388, 389, 390, 391, 392, 393, 394, 676, 677, 678, 679, 395, 396, 397, 398, 680, 681, 682, 683, 502, 399, 400, 401, 402] (by decide +kernel)
set_option maxRecDepth 20000 in
theorem in_wsL_law_r19 : ∀ w ∈ wsL_law_r19, w ∈ lw_tbl := lw_mem_r _ [684, 685, 686, 687, 403, 404, 405, 406, 407, 408, 409, 410, 688, 689, 690, 691, 692, 694, 42, 695, 411, 412, 413, 414] (by decide +kernel)
set_option maxRecDepth 20000 in
theorem in_wsL_law_r20 : ∀ w ∈ wsL_law_r20, w ∈ lw_tbl := lw_mem_r _ [424, 415, 417, 14, 418, 419, 420, 422, 15, 423, 425, 427, 16, 428, 696, 697, 698, 699, 700, 429, 430, 431, 432, 433] (by decide +kernel)
set_option maxRecDepth 20000 in
theorem in_wsL_law_r21 : ∀ w ∈ wsL_law_r21, w ∈ lw_tbl := lw_mem_r _ [434, 435, 436, 437, 438, 440, 17, 441, 130, 442, 443, 50, 444, 445, 447, 18, 448, 124, 449, 450, 451, 452, 454, 19] (by decide +kernel)
set_option maxRecDepth 20000 in
theorem in_wsL_law_r22 : ∀ w ∈ wsL_law_r22, w ∈ lw_tbl := lw_mem_r _ [455, 456, 457, 459, 20, 460, 461, 463, 21, 464, 701, 702, 703, 704, 705, 706, 708, 43, 709, 465, 466, 467, 468, 469] (by decide +kernel)
set_option maxRecDepth 20000 in
theorem in_wsL_law_r23 : ∀ w ∈ wsL_law_r23, w ∈ lw_tbl := lw_mem_r _ [470, 471, 472, 473, 710, 711, 712, 713] (by decide +kernel)
set_option maxRecDepth 20000 in
theorem in_wsX00 : ∀ w ∈ wsX00, w ∈ lw_tbl := lw_mem_r _ [142, 144, 146, 148, 150, 152, 154, 156, 158, 160, 162, 164] (by decide +kernel)
set_option maxRecDepth 20000 in
theorem in_wsX10 : ∀ w ∈ wsX10, w ∈ lw_tbl := lw_mem_r _ [176, 178] (by decide +kernel)
set_option maxRecDepth 20000 in
theorem in_wsX20 : ∀ w ∈ wsX20, w ∈ lw_tbl := lw_mem_r _ [85, 87, 89, 91, 93, 95, 97, 99, 101, 103, 105, 107, 109] (by decide +kernel)
set_option maxRecDepth 20000 in
theorem in_wsX30 : ∀ w ∈ wsX30, w ∈ lw_tbl := lw_mem_r _ [189, 191, 193, 195, 197, 199, 201] (by decide +kernel)
set_option maxRecDepth 20000 in
theorem in_wsX40 : ∀ w ∈ wsX40, w ∈ lw_tbl := lw_mem_r _ [509, 511, 513, 515, 517, 519, 521, 523, 525, 527, 529, 531, 533, 535, 537, 539, 541, 543, 545, 547, 549, 551, 553, 555, 557, 559, 561, 563, 565] (by decide +kernel)
theorem wsL_law_in : ∀ w ∈ wsL_law, w ∈ lw_tbl := (List.forall_mem_append.mpr ⟨(List.forall_mem_append.mpr ⟨(List.forall_mem_append.mpr ⟨(List.forall_mem_append.mpr ⟨(List.forall_mem_append.mpr ⟨(List.forall_mem_append.mpr ⟨(List.forall_mem_append.mpr ⟨in_wsL_law_r1, (List.forall_mem_append.mpr ⟨in_wsL_law_r2, (List.forall_mem_append.mpr ⟨in_wsL_law_r3, (List.forall_mem_append.mpr ⟨in_wsL_law_r4, (List.forall_mem_append.mpr ⟨in_wsL_law_r5, (List.forall_mem_append.mpr ⟨in_wsL_law_r6, (List.forall_mem_append.mpr ⟨in_wsL_law_r7, (List.forall_mem_append.mpr ⟨in_wsL_law_r8, (List.forall_mem_append.mpr ⟨in_wsL_law_r9, (List.forall_mem_append.mpr ⟨in_wsL_law_r10, (List.forall_mem_append.mpr ⟨in_wsL_law_r11, (List.forall_mem_append.mpr ⟨in_wsL_law_r12, (List.forall_mem_append.mpr ⟨in_wsL_law_r13, (List.forall_mem_append.mpr ⟨in_wsL_law_r14, (List.forall_mem_append.mpr ⟨in_wsL_law_r15, (List.forall_mem_append.mpr ⟨in_wsL_law_r16, (List.forall_mem_append.mpr ⟨in_wsL_law_r17, (List.forall_mem_append.mpr ⟨in_wsL_law_r18, (List.forall_mem_append.mpr ⟨in_wsL_law_r19, (List.forall_mem_append.mpr ⟨in_wsL_law_r20, (List.forall_mem_append.mpr ⟨in_wsL_law_r21, (List.forall_mem_append.mpr ⟨in_wsL_law_r22, in_wsL_law_r23⟩)⟩)⟩)⟩)⟩)⟩)⟩)⟩)⟩)⟩)⟩)⟩)⟩)⟩)⟩)⟩)⟩)⟩)⟩)⟩)⟩)⟩), in_wsX30⟩), in_wsX40⟩), in_wsX20⟩), in_wsX00⟩), in_wsX10⟩), (fun _ h => absurd h List.not_mem_nil)⟩)
theorem inlX0 : ∀ w ∈ wsX00, w ∈ wsL_law := fun _ h => List.mem_append_left _ (List.mem_append_left _ (List.mem_append_right _ h))
theorem inX0 : ∀ w ∈ wsX00, w ∈ lw_tbl := fun w h => wsL_law_in w (inlX0 w h)
theorem inlX1 : ∀ w ∈ wsX10, w ∈ wsL_law := fun _ h => List.mem_append_left _ (List.mem_append_right _ h)
theorem inX1 : ∀ w ∈ wsX10, w ∈ lw_tbl := fun w h => wsL_law_in w (inlX1 w h)
theorem inlX2 : ∀ w ∈ wsX20, w ∈ wsL_law := fun _ h => List.mem_append_left _ (List.mem_append_left _ (List.mem_append_left _ (List.mem_append_right _ h)))
theorem inX2 : ∀ w ∈ wsX20, w ∈ lw_tbl := fun w h => wsL_law_in w (inlX2 w h)
theorem inlX3 : ∀ w ∈ wsX30, w ∈ wsL_law := fun _ h => List.mem_append_left _ (List.mem_append_left _ (List.mem_append_left _ (List.mem_append_left _ (List.mem_append_left _ (List.mem_append_right _ h)))))
theorem inX3 : ∀ w ∈ wsX30, w ∈ lw_tbl := fun w h => wsL_law_in w (inlX3 w h)
theorem inlX4 : ∀ w ∈ wsX40, w ∈ wsL_law := fun _ h => List.mem_append_left _ (List.mem_append_left _ (List.mem_append_left _ (List.mem_append_left _ (List.mem_append_right _ h))))
theorem inX4 : ∀ w ∈ wsX40, w ∈ lw_tbl := fun w h => wsL_law_in w (inlX4 w h)
theorem inJ9 : ∀ w ∈ wsJ90, w ∈ lw_tbl := by decide +kernel
set_option maxRecDepth 20000 in
theorem ggX0_init_X0_makeEmpty : GoodIn wsX0_init wsX0_makeEmpty := goodIn_r _ [15, 7, 9, 10, 16, 17, 18, 19, 20, 21, 22, 23, 24, 25, 26, 27, 28, 29, 30, 31, 32, 33, 34] (by decide +kernel) (by decide +kernel)
set_option maxRecDepth 20000 in
theorem gX0_init_X0_makeEmpty : GoodIn wsX0_init (wsV RX0 29 RX0 yX0_makeEmpty wsX0_makeEmpty) := goodIn_app (goodIn_of _ (by decide +kernel)) ggX0_init_X0_makeEmpty
theorem dX0_init_0 : decode cX0_init 0 = .ok (.aload_n 0, 1) := by decide +kernel
theorem dX0_init_1 : decode cX0_init 1 = .ok (.invokespecial 3, 3) := by decide +kernel
theorem dX0_init_4 : decode cX0_init 4 = .ok (.aload_n 0, 1) := by decide +kernel
theorem dX0_init_5 : decode cX0_init 5 = .ok (.aload_n 1, 1) := by decide +kernel
theorem dX0_init_6 : decode cX0_init 6 = .ok (.putfield 9, 3) := by decide +kernel
theorem dX0_init_9 : decode cX0_init 9 = .ok (.aload_n 0, 1) := by decide +kernel
theorem dX0_init_10 : decode cX0_init 10 = .ok (.bipush 60, 2) := by decide +kernel
theorem dX0_init_12 : decode cX0_init 12 = .ok (.newarray .int, 2) := by decide +kernel
theorem dX0_init_14 : decode cX0_init 14 = .ok (.putfield 15, 3) := by decide +kernel
theorem dX0_init_17 : decode cX0_init 17 = .ok (.aload_n 0, 1) := by decide +kernel
theorem dX0_init_18 : decode cX0_init 18 = .ok (.bipush 60, 2) := by decide +kernel
theorem dX0_init_20 : decode cX0_init 20 = .ok (.newarray .int, 2) := by decide +kernel
theorem dX0_init_22 : decode cX0_init 22 = .ok (.putfield 19, 3) := by decide +kernel
theorem dX0_init_25 : decode cX0_init 25 = .ok (.aload_n 0, 1) := by decide +kernel
theorem dX0_init_26 : decode cX0_init 26 = .ok (.bipush 60, 2) := by decide +kernel
theorem dX0_init_28 : decode cX0_init 28 = .ok (.newarray .boolean, 2) := by decide +kernel
theorem dX0_init_30 : decode cX0_init 30 = .ok (.putfield 22, 3) := by decide +kernel
theorem dX0_init_33 : decode cX0_init 33 = .ok (.aload_n 0, 1) := by decide +kernel
theorem dX0_init_34 : decode cX0_init 34 = .ok (.sipush 160, 3) := by decide +kernel
theorem dX0_init_37 : decode cX0_init 37 = .ok (.newarray .int, 2) := by decide +kernel
theorem dX0_init_39 : decode cX0_init 39 = .ok (.putfield 26, 3) := by decide +kernel
theorem dX0_init_42 : decode cX0_init 42 = .ok (.aload_n 0, 1) := by decide +kernel
theorem dX0_init_43 : decode cX0_init 43 = .ok (.invokevirtual 29, 3) := by decide +kernel
theorem dX0_init_46 : decode cX0_init 46 = .ok (.return_, 1) := by decide +kernel
theorem dX0_makeEmpty_0 : decode cX0_makeEmpty 0 = .ok (.iconst 0, 1) := by decide +kernel
theorem dX0_makeEmpty_1 : decode cX0_makeEmpty 1 = .ok (.istore_n 1, 1) := by decide +kernel
theorem dX0_makeEmpty_2 : decode cX0_makeEmpty 2 = .ok (.iload_n 1, 1) := by decide +kernel
end
section
theorem dX0_makeEmpty_3 : decode cX0_makeEmpty 3 = .ok (.bipush 60, 2) := by decide +kernel
theorem dX0_makeEmpty_5 : decode cX0_makeEmpty 5 = .ok (.if_icmp .ge 24, 3) := by decide +kernel
theorem dX0_makeEmpty_8 : decode cX0_makeEmpty 8 = .ok (.aload_n 0, 1) := by decide +kernel
theorem dX0_makeEmpty_9 : decode cX0_makeEmpty 9 = .ok (.getfield 19, 3) := by decide +kernel
theorem dX0_makeEmpty_12 : decode cX0_makeEmpty 12 = .ok (.iload_n 1, 1) := by decide +kernel
theorem dX0_makeEmpty_13 : decode cX0_makeEmpty 13 = .ok (.bipush (-2), 2) := by decide +kernel
theorem dX0_makeEmpty_15 : decode cX0_makeEmpty 15 = .ok (.iastore, 1) := by decide +kernel
theorem dX0_makeEmpty_16 : decode cX0_makeEmpty 16 = .ok (.aload_n 0, 1) := by decide +kernel
theorem dX0_makeEmpty_17 : decode cX0_makeEmpty 17 = .ok (.getfield 22, 3) := by decide +kernel
theorem dX0_makeEmpty_20 : decode cX0_makeEmpty 20 = .ok (.iload_n 1, 1) := by decide +kernel
theorem dX0_makeEmpty_21 : decode cX0_makeEmpty 21 = .ok (.iconst 0, 1) := by decide +kernel
theorem dX0_makeEmpty_22 : decode cX0_makeEmpty 22 = .ok (.bastore, 1) := by decide +kernel
theorem dX0_makeEmpty_23 : decode cX0_makeEmpty 23 = .ok (.iinc 1 1, 3) := by decide +kernel
theorem dX0_makeEmpty_26 : decode cX0_makeEmpty 26 = .ok (.goto (-24), 3) := by decide +kernel
theorem dX0_makeEmpty_29 : decode cX0_makeEmpty 29 = .ok (.iconst 0, 1) := by decide +kernel
theorem dX0_makeEmpty_30 : decode cX0_makeEmpty 30 = .ok (.istore_n 1, 1) := by decide +kernel
theorem dX0_makeEmpty_31 : decode cX0_makeEmpty 31 = .ok (.iload_n 1, 1) := by decide +kernel
theorem dX0_makeEmpty_32 : decode cX0_makeEmpty 32 = .ok (.sipush 160, 3) := by decide +kernel
theorem dX0_makeEmpty_35 : decode cX0_makeEmpty 35 = .ok (.if_icmp .ge 16, 3) := by decide +kernel
theorem dX0_makeEmpty_38 : decode cX0_makeEmpty 38 = .ok (.aload_n 0, 1) := by decide +kernel
theorem dX0_makeEmpty_39 : decode cX0_makeEmpty 39 = .ok (.getfield 26, 3) := by decide +kernel
theorem dX0_makeEmpty_42 : decode cX0_makeEmpty 42 = .ok (.iload_n 1, 1) := by decide +kernel
theorem dX0_makeEmpty_43 : decode cX0_makeEmpty 43 = .ok (.iconst 0, 1) := by decide +kernel
theorem dX0_makeEmpty_44 : decode cX0_makeEmpty 44 = .ok (.iastore, 1) := by decide +kernel
theorem dX0_makeEmpty_45 : decode cX0_makeEmpty 45 = .ok (.iinc 1 1, 3) := by decide +kernel
theorem dX0_makeEmpty_48 : decode cX0_makeEmpty 48 = .ok (.goto (-17), 3) := by decide +kernel
theorem dX0_makeEmpty_51 : decode cX0_makeEmpty 51 = .ok (.aload_n 0, 1) := by decide +kernel
theorem dX0_makeEmpty_52 : decode cX0_makeEmpty 52 = .ok (.iconst 0, 1) := by decide +kernel
theorem dX0_makeEmpty_53 : decode cX0_makeEmpty 53 = .ok (.putfield 32, 3) := by decide +kernel
theorem dX0_makeEmpty_56 : decode cX0_makeEmpty 56 = .ok (.aload_n 0, 1) := by decide +kernel
theorem dX0_makeEmpty_57 : decode cX0_makeEmpty 57 = .ok (.iconst 0, 1) := by decide +kernel
theorem dX0_makeEmpty_58 : decode cX0_makeEmpty 58 = .ok (.putfield 36, 3) := by decide +kernel
theorem dX0_makeEmpty_61 : decode cX0_makeEmpty 61 = .ok (.aload_n 0, 1) := by decide +kernel
theorem dX0_makeEmpty_62 : decode cX0_makeEmpty 62 = .ok (.iconst 0, 1) := by decide +kernel
theorem dX0_makeEmpty_63 : decode cX0_makeEmpty 63 = .ok (.putfield 39, 3) := by decide +kernel
theorem dX0_makeEmpty_66 : decode cX0_makeEmpty 66 = .ok (.aload_n 0, 1) := by decide +kernel
theorem dX0_makeEmpty_67 : decode cX0_makeEmpty 67 = .ok (.iconst 0, 1) := by decide +kernel
theorem dX0_makeEmpty_68 : decode cX0_makeEmpty 68 = .ok (.putfield 42, 3) := by decide +kernel
theorem dX0_makeEmpty_71 : decode cX0_makeEmpty 71 = .ok (.aload_n 0, 1) := by decide +kernel
theorem dX0_makeEmpty_72 : decode cX0_makeEmpty 72 = .ok (.iconst 0, 1) := by decide +kernel
theorem dX0_makeEmpty_73 : decode cX0_makeEmpty 73 = .ok (.putfield 45, 3) := by decide +kernel
theorem dX0_makeEmpty_76 : decode cX0_makeEmpty 76 = .ok (.aload_n 0, 1) := by decide +kernel
theorem dX0_makeEmpty_77 : decode cX0_makeEmpty 77 = .ok (.iconst 0, 1) := by decide +kernel
theorem dX0_makeEmpty_78 : decode cX0_makeEmpty 78 = .ok (.putfield 48, 3) := by decide +kernel
theorem dX0_makeEmpty_81 : decode cX0_makeEmpty 81 = .ok (.aload_n 0, 1) := by decide +kernel
theorem dX0_makeEmpty_82 : decode cX0_makeEmpty 82 = .ok (.iconst 0, 1) := by decide +kernel
theorem dX0_makeEmpty_83 : decode cX0_makeEmpty 83 = .ok (.putfield 51, 3) := by decide +kernel
theorem dX0_makeEmpty_86 : decode cX0_makeEmpty 86 = .ok (.return_, 1) := by decide +kernel
theorem dX0_startCall_0 : decode cX0_startCall 0 = .ok (.aload_n 0, 1) := by decide +kernel
theorem dX0_startCall_1 : decode cX0_startCall 1 = .ok (.iconst 0, 1) := by decide +kernel
theorem dX0_startCall_2 : decode cX0_startCall 2 = .ok (.putfield 48, 3) := by decide +kernel
theorem dX0_startCall_5 : decode cX0_startCall 5 = .ok (.aload_n 0, 1) := by decide +kernel
theorem dX0_startCall_6 : decode cX0_startCall 6 = .ok (.iconst 0, 1) := by decide +kernel
theorem dX0_startCall_7 : decode cX0_startCall 7 = .ok (.putfield 51, 3) := by decide +kernel
theorem dX0_startCall_10 : decode cX0_startCall 10 = .ok (.return_, 1) := by decide +kernel
theorem dX0_endCall_0 : decode cX0_endCall 0 = .ok (.aload_n 0, 1) := by decide +kernel
theorem dX0_endCall_1 : decode cX0_endCall 1 = .ok (.getfield 51, 3) := by decide +kernel
theorem dX0_endCall_4 : decode cX0_endCall 4 = .ok (.ifCond .le 11, 3) := by decide +kernel
theorem dX0_endCall_7 : decode cX0_endCall 7 = .ok (.aload_n 0, 1) := by decide +kernel
theorem dX0_endCall_8 : decode cX0_endCall 8 = .ok (.aload_n 0, 1) := by decide +kernel
theorem dX0_endCall_9 : decode cX0_endCall 9 = .ok (.getfield 48, 3) := by decide +kernel
theorem dX0_endCall_12 : decode cX0_endCall 12 = .ok (.putfield 45, 3) := by decide +kernel
theorem dX0_endCall_15 : decode cX0_endCall 15 = .ok (.return_, 1) := by decide +kernel
set_option maxRecDepth 20000 in
theorem ggX0_doOwn_X2_hasMessage : GoodIn wsX0_doOwn wsX2_hasMessage := goodIn_r _ [6, 7, 120, 121, 122, 123, 124, 125, 126, 127, 128, 129, 130, 131, 132] (by decide +kernel) (by decide +kernel)
set_option maxRecDepth 20000 in
theorem gX0_doOwn_X2_hasMessage : GoodIn wsX0_doOwn (wsV RX0 54 RX2 yX2_hasMessage wsX2_hasMessage) := goodIn_app (goodIn_of _ (by decide +kernel)) ggX0_doOwn_X2_hasMessage
set_option maxRecDepth 20000 in
theorem ggX0_doOwn_X0_startCall : GoodIn wsX0_doOwn wsX0_startCall := goodIn_r _ [12, 13, 14, 108, 109, 110, 111, 112, 113, 114, 115, 116, 117, 118, 119] (by decide +kernel) (by decide +kernel)
set_option maxRecDepth 20000 in
theorem gX0_doOwn_X0_startCall : GoodIn wsX0_doOwn (wsV RX0 60 RX0 yX0_startCall wsX0_startCall) := goodIn_app (goodIn_of _ (by decide +kernel)) ggX0_doOwn_X0_startCall
set_option maxRecDepth 20000 in
theorem ggX0_doOwn_X0_carryOut : GoodIn wsX0_doOwn wsX0_carryOut := goodIn_r _ [18, 1, 19, 20, 21, 22, 23, 5, 24, 25, 26, 3, 4, 6, 7, 27, 28, 29, 11, 30, 31, 32, 33, 34, 35, 36, 37, 38, 39, 40, 41, 42, 43, 44, 45, 46, 47, 48, 49, 50, 51, 13, 52, 53, 54, 55, 56, 57, 58, 59, 60, 61, 62, 63, 64, 65, 66, 67, 68, 69, 70, 71, 72, 73, 74, 75, 76, 77, 78, 79, 80, 81, 82, 83, 84, 85, 86, 87, 88, 89, 90, 91, 92, 93, 94, 95, 96, 97, 98, 14, 99, 100, 101, 102, 108, 109, 110, 111, 112, 113, 114, 115, 116, 117, 118, 119, 120, 121, 122, 123, 124, 125, 126, 127, 128, 129, 130, 131, 132] (by decide +kernel) (by decide +kernel)
set_option maxRecDepth 20000 in
theorem gX0_doOwn_X0_carryOut : GoodIn wsX0_doOwn (wsV RX0 63 RX0 yX0_carryOut wsX0_carryOut) := goodIn_app (goodIn_of _ (by decide +kernel)) ggX0_doOwn_X0_carryOut
set_option maxRecDepth 20000 in
theorem ggX0_doOwn_X0_endCall : GoodIn wsX0_doOwn wsX0_endCall := goodIn_r _ [106, 14, 13, 107, 108, 109, 110, 111, 112, 113, 114, 115, 116, 117, 118, 119] (by decide +kernel) (by decide +kernel)
set_option maxRecDepth 20000 in
theorem gX0_doOwn_X0_endCall : GoodIn wsX0_doOwn (wsV RX0 67 RX0 yX0_endCall wsX0_endCall) := goodIn_app (goodIn_of _ (by decide +kernel)) ggX0_doOwn_X0_endCall
theorem dX0_doOwn_0 : decode cX0_doOwn 0 = .ok (.aload_n 0, 1) := by decide +kernel
theorem dX0_doOwn_1 : decode cX0_doOwn 1 = .ok (.getfield 9, 3) := by decide +kernel
theorem dX0_doOwn_4 : decode cX0_doOwn 4 = .ok (.iload_n 1, 1) := by decide +kernel
theorem dX0_doOwn_5 : decode cX0_doOwn 5 = .ok (.invokevirtual 54, 3) := by decide +kernel
theorem dX0_doOwn_8 : decode cX0_doOwn 8 = .ok (.ifCond .ne 4, 3) := by decide +kernel
theorem dX0_doOwn_11 : decode cX0_doOwn 11 = .ok (.return_, 1) := by decide +kernel
theorem dX0_doOwn_12 : decode cX0_doOwn 12 = .ok (.aload_n 0, 1) := by decide +kernel
theorem dX0_doOwn_13 : decode cX0_doOwn 13 = .ok (.invokevirtual 60, 3) := by decide +kernel
theorem dX0_doOwn_16 : decode cX0_doOwn 16 = .ok (.aload_n 0, 1) := by decide +kernel
theorem dX0_doOwn_17 : decode cX0_doOwn 17 = .ok (.iload_n 1, 1) := by decide +kernel
theorem dX0_doOwn_18 : decode cX0_doOwn 18 = .ok (.invokevirtual 63, 3) := by decide +kernel
theorem dX0_doOwn_21 : decode cX0_doOwn 21 = .ok (.aload_n 0, 1) := by decide +kernel
theorem dX0_doOwn_22 : decode cX0_doOwn 22 = .ok (.invokevirtual 67, 3) := by decide +kernel
theorem dX0_doOwn_25 : decode cX0_doOwn 25 = .ok (.return_, 1) := by decide +kernel
set_option maxRecDepth 20000 in
theorem ggX0_hear_X2_hasMessage : GoodIn wsX0_hear wsX2_hasMessage := goodIn_r _ [7, 8, 125, 126, 127, 128, 129, 130, 131, 132, 133, 134, 135, 136, 137] (by decide +kernel) (by decide +kernel)
set_option maxRecDepth 20000 in
theorem gX0_hear_X2_hasMessage : GoodIn wsX0_hear (wsV RX0 54 RX2 yX2_hasMessage wsX2_hasMessage) := goodIn_app (goodIn_of _ (by decide +kernel)) ggX0_hear_X2_hasMessage
set_option maxRecDepth 20000 in
theorem ggX0_hear_X0_stateOf : GoodIn wsX0_hear wsX0_stateOf := goodIn_r _ [13, 14, 113, 114, 115, 116, 117, 118, 119, 120, 121, 122, 123, 124] (by decide +kernel) (by decide +kernel)
set_option maxRecDepth 20000 in
theorem gX0_hear_X0_stateOf : GoodIn wsX0_hear (wsV RX0 70 RX0 yX0_stateOf wsX0_stateOf) := goodIn_app (goodIn_of _ (by decide +kernel)) ggX0_hear_X0_stateOf
set_option maxRecDepth 20000 in
theorem ggX0_hear_X0_canBeDone : GoodIn wsX0_hear wsX0_canBeDone := goodIn_r _ [18, 1, 19, 20, 21, 6, 22, 23, 24, 4, 5, 7, 8, 25, 26, 27, 28, 29, 30, 31, 32, 12, 33, 34, 35, 36, 37, 38, 39, 40, 41, 42, 43, 44, 45, 46, 47, 48, 49, 50, 113, 114, 115, 116, 117, 118, 119, 120, 121, 122, 123, 124, 125, 126, 127, 128, 129, 130, 131, 132, 133, 134, 135, 136, 137] (by decide +kernel) (by decide +kernel)
set_option maxRecDepth 20000 in
theorem gX0_hear_X0_canBeDone : GoodIn wsX0_hear (wsV RX0 74 RX0 yX0_canBeDone wsX0_canBeDone) := goodIn_app (goodIn_of _ (by decide +kernel)) ggX0_hear_X0_canBeDone
set_option maxRecDepth 20000 in
theorem ggX0_hear_X0_setState : GoodIn wsX0_hear wsX0_setState := goodIn_r _ [54, 14, 113, 114, 115, 116, 117, 118, 119, 120, 121, 122, 123, 124] (by decide +kernel) (by decide +kernel)
set_option maxRecDepth 20000 in
theorem gX0_hear_X0_setState : GoodIn wsX0_hear (wsV RX0 77 RX0 yX0_setState wsX0_setState) := goodIn_app (goodIn_of _ (by decide +kernel)) ggX0_hear_X0_setState
set_option maxRecDepth 20000 in
theorem ggX0_hear_X0_carryOut : GoodIn wsX0_hear wsX0_carryOut := goodIn_r _ [58, 1, 59, 60, 19, 20, 21, 6, 22, 23, 24, 4, 5, 7, 8, 51, 52, 53, 12, 54, 14, 25, 26, 27, 28, 29, 61, 62, 63, 64, 65, 66, 67, 68, 69, 70, 34, 71, 72, 73, 74, 75, 36, 37, 38, 39, 40, 41, 42, 43, 44, 45, 30, 31, 32, 33, 35, 46, 47, 48, 49, 50, 76, 77, 78, 79, 80, 81, 82, 83, 84, 85, 86, 87, 88, 89, 90, 91, 92, 93, 94, 95, 96, 97, 98, 99, 100, 101, 102, 103, 104, 105, 106, 107, 113, 114, 115, 116, 117, 118, 119, 120, 121, 122, 123, 124, 125, 126, 127, 128, 129, 130, 131, 132, 133, 134, 135, 136, 137] (by decide +kernel) (by decide +kernel)
set_option maxRecDepth 20000 in
theorem gX0_hear_X0_carryOut : GoodIn wsX0_hear (wsV RX0 63 RX0 yX0_carryOut wsX0_carryOut) := goodIn_app (goodIn_of _ (by decide +kernel)) ggX0_hear_X0_carryOut
set_option maxRecDepth 20000 in
theorem ggX0_hear_X0_leastReady : GoodIn wsX0_hear wsX0_leastReady := goodIn_r _ [111, 2, 1, 112, 9, 10, 11, 12, 13, 14, 15, 16, 17, 18, 19, 20, 21, 6, 22, 23, 24, 4, 5, 7, 8, 25, 26, 27, 28, 29, 30, 31, 32, 33, 34, 35, 36, 37, 38, 39, 40, 41, 42, 43, 44, 45, 46, 47, 48, 49, 50, 113, 114, 115, 116, 117, 118, 119, 120, 121, 122, 123, 124, 125, 126, 127, 128, 129, 130, 131, 132, 133, 134, 135, 136, 137] (by decide +kernel) (by decide +kernel)
set_option maxRecDepth 20000 in
theorem gX0_hear_X0_leastReady : GoodIn wsX0_hear (wsV RX0 81 RX0 yX0_leastReady wsX0_leastReady) := goodIn_app (goodIn_of _ (by decide +kernel)) ggX0_hear_X0_leastReady
theorem dX0_hear_0 : decode cX0_hear 0 = .ok (.aload_n 0, 1) := by decide +kernel
theorem dX0_hear_1 : decode cX0_hear 1 = .ok (.getfield 9, 3) := by decide +kernel
theorem dX0_hear_4 : decode cX0_hear 4 = .ok (.iload_n 1, 1) := by decide +kernel
theorem dX0_hear_5 : decode cX0_hear 5 = .ok (.invokevirtual 54, 3) := by decide +kernel
theorem dX0_hear_8 : decode cX0_hear 8 = .ok (.ifCond .eq 11, 3) := by decide +kernel
theorem dX0_hear_11 : decode cX0_hear 11 = .ok (.aload_n 0, 1) := by decide +kernel
theorem dX0_hear_12 : decode cX0_hear 12 = .ok (.iload_n 1, 1) := by decide +kernel
theorem dX0_hear_13 : decode cX0_hear 13 = .ok (.invokevirtual 70, 3) := by decide +kernel
theorem dX0_hear_16 : decode cX0_hear 16 = .ok (.ifCond .eq 5, 3) := by decide +kernel
theorem dX0_hear_19 : decode cX0_hear 19 = .ok (.iconst 0, 1) := by decide +kernel
theorem dX0_hear_20 : decode cX0_hear 20 = .ok (.ireturn, 1) := by decide +kernel
theorem dX0_hear_21 : decode cX0_hear 21 = .ok (.aload_n 0, 1) := by decide +kernel
theorem dX0_hear_22 : decode cX0_hear 22 = .ok (.iload_n 1, 1) := by decide +kernel
theorem dX0_hear_23 : decode cX0_hear 23 = .ok (.invokevirtual 74, 3) := by decide +kernel
theorem dX0_hear_26 : decode cX0_hear 26 = .ok (.ifCond .ne 21, 3) := by decide +kernel
theorem dX0_hear_29 : decode cX0_hear 29 = .ok (.aload_n 0, 1) := by decide +kernel
theorem dX0_hear_30 : decode cX0_hear 30 = .ok (.iload_n 1, 1) := by decide +kernel
theorem dX0_hear_31 : decode cX0_hear 31 = .ok (.iconst 1, 1) := by decide +kernel
theorem dX0_hear_32 : decode cX0_hear 32 = .ok (.invokevirtual 77, 3) := by decide +kernel
theorem dX0_hear_35 : decode cX0_hear 35 = .ok (.aload_n 0, 1) := by decide +kernel
theorem dX0_hear_36 : decode cX0_hear 36 = .ok (.dup, 1) := by decide +kernel
theorem dX0_hear_37 : decode cX0_hear 37 = .ok (.getfield 42, 3) := by decide +kernel
theorem dX0_hear_40 : decode cX0_hear 40 = .ok (.iconst 1, 1) := by decide +kernel
theorem dX0_hear_41 : decode cX0_hear 41 = .ok (.iadd, 1) := by decide +kernel
theorem dX0_hear_42 : decode cX0_hear 42 = .ok (.putfield 42, 3) := by decide +kernel
theorem dX0_hear_45 : decode cX0_hear 45 = .ok (.iconst 0, 1) := by decide +kernel
theorem dX0_hear_46 : decode cX0_hear 46 = .ok (.ireturn, 1) := by decide +kernel
theorem dX0_hear_47 : decode cX0_hear 47 = .ok (.aload_n 0, 1) := by decide +kernel
theorem dX0_hear_48 : decode cX0_hear 48 = .ok (.iload_n 1, 1) := by decide +kernel
theorem dX0_hear_49 : decode cX0_hear 49 = .ok (.invokevirtual 63, 3) := by decide +kernel
theorem dX0_hear_52 : decode cX0_hear 52 = .ok (.iconst 1, 1) := by decide +kernel
theorem dX0_hear_53 : decode cX0_hear 53 = .ok (.istore_n 2, 1) := by decide +kernel
theorem dX0_hear_54 : decode cX0_hear 54 = .ok (.iconst 0, 1) := by decide +kernel
theorem dX0_hear_55 : decode cX0_hear 55 = .ok (.istore_n 3, 1) := by decide +kernel
theorem dX0_hear_56 : decode cX0_hear 56 = .ok (.iload_n 3, 1) := by decide +kernel
theorem dX0_hear_57 : decode cX0_hear 57 = .ok (.sipush 160, 3) := by decide +kernel
theorem dX0_hear_60 : decode cX0_hear 60 = .ok (.if_icmp .ge 43, 3) := by decide +kernel
theorem dX0_hear_63 : decode cX0_hear 63 = .ok (.aload_n 0, 1) := by decide +kernel
theorem dX0_hear_64 : decode cX0_hear 64 = .ok (.invokevirtual 81, 3) := by decide +kernel
theorem dX0_hear_67 : decode cX0_hear 67 = .ok (.istore 4, 2) := by decide +kernel
theorem dX0_hear_69 : decode cX0_hear 69 = .ok (.iload 4, 2) := by decide +kernel
theorem dX0_hear_71 : decode cX0_hear 71 = .ok (.iconst (-1), 1) := by decide +kernel
theorem dX0_hear_72 : decode cX0_hear 72 = .ok (.if_icmp .ne 6, 3) := by decide +kernel
theorem dX0_hear_75 : decode cX0_hear 75 = .ok (.goto 28, 3) := by decide +kernel
theorem dX0_hear_78 : decode cX0_hear 78 = .ok (.aload_n 0, 1) := by decide +kernel
theorem dX0_hear_79 : decode cX0_hear 79 = .ok (.dup, 1) := by decide +kernel
theorem dX0_hear_80 : decode cX0_hear 80 = .ok (.getfield 42, 3) := by decide +kernel
theorem dX0_hear_83 : decode cX0_hear 83 = .ok (.iconst 1, 1) := by decide +kernel
theorem dX0_hear_84 : decode cX0_hear 84 = .ok (.isub, 1) := by decide +kernel
theorem dX0_hear_85 : decode cX0_hear 85 = .ok (.putfield 42, 3) := by decide +kernel
theorem dX0_hear_88 : decode cX0_hear 88 = .ok (.aload_n 0, 1) := by decide +kernel
theorem dX0_hear_89 : decode cX0_hear 89 = .ok (.iload 4, 2) := by decide +kernel
theorem dX0_hear_91 : decode cX0_hear 91 = .ok (.invokevirtual 63, 3) := by decide +kernel
theorem dX0_hear_94 : decode cX0_hear 94 = .ok (.iinc 2 1, 3) := by decide +kernel
theorem dX0_hear_97 : decode cX0_hear 97 = .ok (.iinc 3 1, 3) := by decide +kernel
theorem dX0_hear_100 : decode cX0_hear 100 = .ok (.goto (-44), 3) := by decide +kernel
theorem dX0_hear_103 : decode cX0_hear 103 = .ok (.iload_n 2, 1) := by decide +kernel
theorem dX0_hear_104 : decode cX0_hear 104 = .ok (.ireturn, 1) := by decide +kernel
set_option maxRecDepth 20000 in
theorem ggX0_leastReady_X0_stateOf : GoodIn wsX0_leastReady wsX0_stateOf := goodIn_r _ [8, 9, 51, 52, 53, 54, 55, 56, 57, 58, 59, 60, 61, 62] (by decide +kernel) (by decide +kernel)
set_option maxRecDepth 20000 in
theorem gX0_leastReady_X0_stateOf : GoodIn wsX0_leastReady (wsV RX0 70 RX0 yX0_stateOf wsX0_stateOf) := goodIn_app (goodIn_of _ (by decide +kernel)) ggX0_leastReady_X0_stateOf
set_option maxRecDepth 20000 in
theorem ggX0_leastReady_X0_canBeDone : GoodIn wsX0_leastReady wsX0_canBeDone := goodIn_r _ [13, 2, 14, 15, 16, 17, 18, 19, 20, 21, 22, 23, 24, 25, 26, 27, 28, 29, 30, 31, 32, 7, 33, 34, 35, 36, 37, 38, 39, 40, 41, 42, 43, 44, 45, 46, 47, 48, 49, 50, 51, 52, 53, 54, 55, 56, 57, 58, 59, 60, 61, 62, 63, 64, 65, 66, 67, 68, 69, 70, 71, 72, 73, 74, 75] (by decide +kernel) (by decide +kernel)
set_option maxRecDepth 20000 in
theorem gX0_leastReady_X0_canBeDone : GoodIn wsX0_leastReady (wsV RX0 74 RX0 yX0_canBeDone wsX0_canBeDone) := goodIn_app (goodIn_of _ (by decide +kernel)) ggX0_leastReady_X0_canBeDone
theorem dX0_leastReady_0 : decode cX0_leastReady 0 = .ok (.aload_n 0, 1) := by decide +kernel
theorem dX0_leastReady_1 : decode cX0_leastReady 1 = .ok (.getfield 42, 3) := by decide +kernel
theorem dX0_leastReady_4 : decode cX0_leastReady 4 = .ok (.ifCond .ne 5, 3) := by decide +kernel
theorem dX0_leastReady_7 : decode cX0_leastReady 7 = .ok (.iconst (-1), 1) := by decide +kernel
theorem dX0_leastReady_8 : decode cX0_leastReady 8 = .ok (.ireturn, 1) := by decide +kernel
theorem dX0_leastReady_9 : decode cX0_leastReady 9 = .ok (.iconst 0, 1) := by decide +kernel
theorem dX0_leastReady_10 : decode cX0_leastReady 10 = .ok (.istore_n 1, 1) := by decide +kernel
theorem dX0_leastReady_11 : decode cX0_leastReady 11 = .ok (.iload_n 1, 1) := by decide +kernel
theorem dX0_leastReady_12 : decode cX0_leastReady 12 = .ok (.aload_n 0, 1) := by decide +kernel
theorem dX0_leastReady_13 : decode cX0_leastReady 13 = .ok (.getfield 9, 3) := by decide +kernel
theorem dX0_leastReady_16 : decode cX0_leastReady 16 = .ok (.getfield 85, 3) := by decide +kernel
theorem dX0_leastReady_19 : decode cX0_leastReady 19 = .ok (.if_icmp .ge 28, 3) := by decide +kernel
theorem dX0_leastReady_22 : decode cX0_leastReady 22 = .ok (.aload_n 0, 1) := by decide +kernel
theorem dX0_leastReady_23 : decode cX0_leastReady 23 = .ok (.iload_n 1, 1) := by decide +kernel
theorem dX0_leastReady_24 : decode cX0_leastReady 24 = .ok (.invokevirtual 70, 3) := by decide +kernel
theorem dX0_leastReady_27 : decode cX0_leastReady 27 = .ok (.iconst 1, 1) := by decide +kernel
theorem dX0_leastReady_28 : decode cX0_leastReady 28 = .ok (.if_icmp .ne 13, 3) := by decide +kernel
theorem dX0_leastReady_31 : decode cX0_leastReady 31 = .ok (.aload_n 0, 1) := by decide +kernel
theorem dX0_leastReady_32 : decode cX0_leastReady 32 = .ok (.iload_n 1, 1) := by decide +kernel
theorem dX0_leastReady_33 : decode cX0_leastReady 33 = .ok (.invokevirtual 74, 3) := by decide +kernel
theorem dX0_leastReady_36 : decode cX0_leastReady 36 = .ok (.ifCond .eq 5, 3) := by decide +kernel
theorem dX0_leastReady_39 : decode cX0_leastReady 39 = .ok (.iload_n 1, 1) := by decide +kernel
theorem dX0_leastReady_40 : decode cX0_leastReady 40 = .ok (.ireturn, 1) := by decide +kernel
theorem dX0_leastReady_41 : decode cX0_leastReady 41 = .ok (.iinc 1 1, 3) := by decide +kernel
theorem dX0_leastReady_44 : decode cX0_leastReady 44 = .ok (.goto (-33), 3) := by decide +kernel
theorem dX0_leastReady_47 : decode cX0_leastReady 47 = .ok (.iconst (-1), 1) := by decide +kernel
theorem dX0_leastReady_48 : decode cX0_leastReady 48 = .ok (.ireturn, 1) := by decide +kernel
set_option maxRecDepth 20000 in
theorem ggX0_canBeDone_X2_subjectOf : GoodIn wsX0_canBeDone wsX2_subjectOf := goodIn_r _ [6, 7, 8, 9, 10, 5, 11, 12, 52, 53, 54, 55, 56, 57, 58, 59, 60, 61, 62, 63, 64] (by decide +kernel) (by decide +kernel)
set_option maxRecDepth 20000 in
theorem gX0_canBeDone_X2_subjectOf : GoodIn wsX0_canBeDone (wsV RX0 88 RX2 yX2_subjectOf wsX2_subjectOf) := goodIn_app (goodIn_of _ (by decide +kernel)) ggX0_canBeDone_X2_subjectOf
set_option maxRecDepth 20000 in
theorem ggX0_canBeDone_X2_kindOf : GoodIn wsX0_canBeDone wsX2_kindOf := goodIn_r _ [16, 17, 8, 9, 10, 5, 11, 12, 52, 53, 54, 55, 56, 57, 58, 59, 60, 61, 62, 63, 64] (by decide +kernel) (by decide +kernel)
set_option maxRecDepth 20000 in
theorem gX0_canBeDone_X2_kindOf : GoodIn wsX0_canBeDone (wsV RX0 91 RX2 yX2_kindOf wsX2_kindOf) := goodIn_app (goodIn_of _ (by decide +kernel)) ggX0_canBeDone_X2_kindOf
set_option maxRecDepth 20000 in
theorem ggX0_canBeDone_X0_placeOf : GoodIn wsX0_canBeDone wsX0_placeOf := goodIn_r _ [22, 23, 24, 40, 41, 42, 43, 44, 45, 46, 47, 48, 49, 50, 51] (by decide +kernel) (by decide +kernel)
set_option maxRecDepth 20000 in
theorem gX0_canBeDone_X0_placeOf : GoodIn wsX0_canBeDone (wsV RX0 94 RX0 yX0_placeOf wsX0_placeOf) := goodIn_app (goodIn_of _ (by decide +kernel)) ggX0_canBeDone_X0_placeOf
set_option maxRecDepth 20000 in
theorem ggX0_canBeDone_X2_leftOf : GoodIn wsX0_canBeDone wsX2_leftOf := goodIn_r _ [28, 29, 30, 31, 32, 5, 33, 34, 52, 53, 54, 55, 56, 57, 58, 59, 60, 61, 62, 63, 64] (by decide +kernel) (by decide +kernel)
set_option maxRecDepth 20000 in
theorem gX0_canBeDone_X2_leftOf : GoodIn wsX0_canBeDone (wsV RX0 97 RX2 yX2_leftOf wsX2_leftOf) := goodIn_app (goodIn_of _ (by decide +kernel)) ggX0_canBeDone_X2_leftOf
set_option maxRecDepth 20000 in
theorem ggX0_canBeDone_X2_rightOf : GoodIn wsX0_canBeDone wsX2_rightOf := goodIn_r _ [38, 39, 30, 31, 32, 5, 33, 34, 52, 53, 54, 55, 56, 57, 58, 59, 60, 61, 62, 63, 64] (by decide +kernel) (by decide +kernel)
set_option maxRecDepth 20000 in
theorem gX0_canBeDone_X2_rightOf : GoodIn wsX0_canBeDone (wsV RX0 100 RX2 yX2_rightOf wsX2_rightOf) := goodIn_app (goodIn_of _ (by decide +kernel)) ggX0_canBeDone_X2_rightOf
theorem dX0_canBeDone_0 : decode cX0_canBeDone 0 = .ok (.aload_n 0, 1) := by decide +kernel
theorem dX0_canBeDone_1 : decode cX0_canBeDone 1 = .ok (.getfield 9, 3) := by decide +kernel
theorem dX0_canBeDone_4 : decode cX0_canBeDone 4 = .ok (.iload_n 1, 1) := by decide +kernel
theorem dX0_canBeDone_5 : decode cX0_canBeDone 5 = .ok (.invokevirtual 88, 3) := by decide +kernel
theorem dX0_canBeDone_8 : decode cX0_canBeDone 8 = .ok (.istore_n 2, 1) := by decide +kernel
theorem dX0_canBeDone_9 : decode cX0_canBeDone 9 = .ok (.aload_n 0, 1) := by decide +kernel
theorem dX0_canBeDone_10 : decode cX0_canBeDone 10 = .ok (.getfield 9, 3) := by decide +kernel
theorem dX0_canBeDone_13 : decode cX0_canBeDone 13 = .ok (.iload_n 1, 1) := by decide +kernel
theorem dX0_canBeDone_14 : decode cX0_canBeDone 14 = .ok (.invokevirtual 91, 3) := by decide +kernel
theorem dX0_canBeDone_17 : decode cX0_canBeDone 17 = .ok (.iconst 1, 1) := by decide +kernel
theorem dX0_canBeDone_18 : decode cX0_canBeDone 18 = .ok (.if_icmp .ne 19, 3) := by decide +kernel
theorem dX0_canBeDone_21 : decode cX0_canBeDone 21 = .ok (.aload_n 0, 1) := by decide +kernel
theorem dX0_canBeDone_22 : decode cX0_canBeDone 22 = .ok (.iload_n 2, 1) := by decide +kernel
theorem dX0_canBeDone_23 : decode cX0_canBeDone 23 = .ok (.invokevirtual 94, 3) := by decide +kernel
theorem dX0_canBeDone_26 : decode cX0_canBeDone 26 = .ok (.bipush (-2), 2) := by decide +kernel
theorem dX0_canBeDone_28 : decode cX0_canBeDone 28 = .ok (.if_icmp .eq 7, 3) := by decide +kernel
theorem dX0_canBeDone_31 : decode cX0_canBeDone 31 = .ok (.iconst 1, 1) := by decide +kernel
theorem dX0_canBeDone_32 : decode cX0_canBeDone 32 = .ok (.goto 4, 3) := by decide +kernel
theorem dX0_canBeDone_35 : decode cX0_canBeDone 35 = .ok (.iconst 0, 1) := by decide +kernel
theorem dX0_canBeDone_36 : decode cX0_canBeDone 36 = .ok (.ireturn, 1) := by decide +kernel
theorem dX0_canBeDone_37 : decode cX0_canBeDone 37 = .ok (.aload_n 0, 1) := by decide +kernel
theorem dX0_canBeDone_38 : decode cX0_canBeDone 38 = .ok (.aload_n 0, 1) := by decide +kernel
theorem dX0_canBeDone_39 : decode cX0_canBeDone 39 = .ok (.getfield 9, 3) := by decide +kernel
theorem dX0_canBeDone_42 : decode cX0_canBeDone 42 = .ok (.iload_n 2, 1) := by decide +kernel
theorem dX0_canBeDone_43 : decode cX0_canBeDone 43 = .ok (.invokevirtual 97, 3) := by decide +kernel
theorem dX0_canBeDone_46 : decode cX0_canBeDone 46 = .ok (.invokevirtual 94, 3) := by decide +kernel
theorem dX0_canBeDone_49 : decode cX0_canBeDone 49 = .ok (.bipush (-2), 2) := by decide +kernel
theorem dX0_canBeDone_51 : decode cX0_canBeDone 51 = .ok (.if_icmp .eq 24, 3) := by decide +kernel
theorem dX0_canBeDone_54 : decode cX0_canBeDone 54 = .ok (.aload_n 0, 1) := by decide +kernel
theorem dX0_canBeDone_55 : decode cX0_canBeDone 55 = .ok (.aload_n 0, 1) := by decide +kernel
theorem dX0_canBeDone_56 : decode cX0_canBeDone 56 = .ok (.getfield 9, 3) := by decide +kernel
theorem dX0_canBeDone_59 : decode cX0_canBeDone 59 = .ok (.iload_n 2, 1) := by decide +kernel
theorem dX0_canBeDone_60 : decode cX0_canBeDone 60 = .ok (.invokevirtual 100, 3) := by decide +kernel
theorem dX0_canBeDone_63 : decode cX0_canBeDone 63 = .ok (.invokevirtual 94, 3) := by decide +kernel
theorem dX0_canBeDone_66 : decode cX0_canBeDone 66 = .ok (.bipush (-2), 2) := by decide +kernel
theorem dX0_canBeDone_68 : decode cX0_canBeDone 68 = .ok (.if_icmp .eq 7, 3) := by decide +kernel
theorem dX0_canBeDone_71 : decode cX0_canBeDone 71 = .ok (.iconst 1, 1) := by decide +kernel
theorem dX0_canBeDone_72 : decode cX0_canBeDone 72 = .ok (.goto 4, 3) := by decide +kernel
theorem dX0_canBeDone_75 : decode cX0_canBeDone 75 = .ok (.iconst 0, 1) := by decide +kernel
theorem dX0_canBeDone_76 : decode cX0_canBeDone 76 = .ok (.ireturn, 1) := by decide +kernel
set_option maxRecDepth 20000 in
theorem ggX0_carryOut_X2_subjectOf : GoodIn wsX0_carryOut wsX2_subjectOf := goodIn_r _ [8, 9, 10, 11, 12, 7, 13, 14, 106, 107, 108, 109, 110, 111, 112, 113, 114, 115, 116, 117, 118] (by decide +kernel) (by decide +kernel)
set_option maxRecDepth 20000 in
theorem gX0_carryOut_X2_subjectOf : GoodIn wsX0_carryOut (wsV RX0 88 RX2 yX2_subjectOf wsX2_subjectOf) := goodIn_app (goodIn_of _ (by decide +kernel)) ggX0_carryOut_X2_subjectOf
set_option maxRecDepth 20000 in
theorem ggX0_carryOut_X0_setState : GoodIn wsX0_carryOut wsX0_setState := goodIn_r _ [19, 20, 94, 95, 96, 97, 98, 99, 100, 101, 102, 103, 104, 105] (by decide +kernel) (by decide +kernel)
set_option maxRecDepth 20000 in
theorem gX0_carryOut_X0_setState : GoodIn wsX0_carryOut (wsV RX0 77 RX0 yX0_setState wsX0_setState) := goodIn_app (goodIn_of _ (by decide +kernel)) ggX0_carryOut_X0_setState
set_option maxRecDepth 20000 in
theorem ggX0_carryOut_X2_kindOf : GoodIn wsX0_carryOut wsX2_kindOf := goodIn_r _ [24, 25, 10, 11, 12, 7, 13, 14, 106, 107, 108, 109, 110, 111, 112, 113, 114, 115, 116, 117, 118] (by decide +kernel) (by decide +kernel)
set_option maxRecDepth 20000 in
theorem gX0_carryOut_X2_kindOf : GoodIn wsX0_carryOut (wsV RX0 91 RX2 yX2_kindOf wsX2_kindOf) := goodIn_app (goodIn_of _ (by decide +kernel)) ggX0_carryOut_X2_kindOf
set_option maxRecDepth 20000 in
theorem ggX0_carryOut_X0_strike : GoodIn wsX0_carryOut wsX0_strike := goodIn_r _ [29, 30, 31, 32, 33, 34, 18, 35, 36, 94, 95, 96, 97, 98, 99, 100, 101, 102, 103, 104, 105] (by decide +kernel) (by decide +kernel)
set_option maxRecDepth 20000 in
theorem gX0_carryOut_X0_strike : GoodIn wsX0_carryOut (wsV RX0 103 RX0 yX0_strike wsX0_strike) := goodIn_app (goodIn_of _ (by decide +kernel)) ggX0_carryOut_X0_strike
set_option maxRecDepth 20000 in
theorem ggX0_carryOut_X0_wootPlace : GoodIn wsX0_carryOut wsX0_wootPlace := goodIn_r _ [40, 1, 41, 42, 43, 44, 7, 45, 46, 47, 48, 49, 50, 51, 52, 53, 54, 18, 55, 36, 56, 57, 58, 59, 60, 61, 62, 63, 64, 65, 66, 67, 68, 69, 70, 71, 72, 73, 74, 75, 94, 95, 96, 97, 98, 99, 100, 101, 102, 103, 104, 105, 106, 107, 108, 109, 110, 111, 112, 113, 114, 115, 116, 117, 118] (by decide +kernel) (by decide +kernel)
set_option maxRecDepth 20000 in
theorem gX0_carryOut_X0_wootPlace : GoodIn wsX0_carryOut (wsV RX0 110 RX0 yX0_wootPlace wsX0_wootPlace) := goodIn_app (goodIn_of _ (by decide +kernel)) ggX0_carryOut_X0_wootPlace
set_option maxRecDepth 20000 in
theorem ggX0_carryOut_X0_yataPlace : GoodIn wsX0_carryOut wsX0_yataPlace := goodIn_r _ [79, 1, 41, 42, 43, 44, 7, 45, 46, 47, 48, 49, 50, 51, 52, 53, 54, 18, 55, 36, 56, 57, 58, 59, 60, 61, 67, 68, 69, 70, 71, 80, 81, 82, 83, 84, 94, 95, 96, 97, 98, 99, 100, 101, 102, 103, 104, 105, 106, 107, 108, 109, 110, 111, 112, 113, 114, 115, 116, 117, 118] (by decide +kernel) (by decide +kernel)
set_option maxRecDepth 20000 in
theorem gX0_carryOut_X0_yataPlace : GoodIn wsX0_carryOut (wsV RX0 113 RX0 yX0_yataPlace wsX0_yataPlace) := goodIn_app (goodIn_of _ (by decide +kernel)) ggX0_carryOut_X0_yataPlace
set_option maxRecDepth 20000 in
theorem ggX0_carryOut_X0_putAt : GoodIn wsX0_carryOut wsX0_putAt := goodIn_r _ [88, 56, 71, 31, 89, 90, 91, 92, 18, 93, 36, 94, 95, 96, 97, 98, 99, 100, 101, 102, 103, 104, 105] (by decide +kernel) (by decide +kernel)
set_option maxRecDepth 20000 in
theorem gX0_carryOut_X0_putAt : GoodIn wsX0_carryOut (wsV RX0 116 RX0 yX0_putAt wsX0_putAt) := goodIn_app (goodIn_of _ (by decide +kernel)) ggX0_carryOut_X0_putAt
theorem dX0_carryOut_0 : decode cX0_carryOut 0 = .ok (.aload_n 0, 1) := by decide +kernel
theorem dX0_carryOut_1 : decode cX0_carryOut 1 = .ok (.getfield 9, 3) := by decide +kernel
theorem dX0_carryOut_4 : decode cX0_carryOut 4 = .ok (.iload_n 1, 1) := by decide +kernel
theorem dX0_carryOut_5 : decode cX0_carryOut 5 = .ok (.invokevirtual 88, 3) := by decide +kernel
theorem dX0_carryOut_8 : decode cX0_carryOut 8 = .ok (.istore_n 2, 1) := by decide +kernel
theorem dX0_carryOut_9 : decode cX0_carryOut 9 = .ok (.aload_n 0, 1) := by decide +kernel
theorem dX0_carryOut_10 : decode cX0_carryOut 10 = .ok (.iload_n 1, 1) := by decide +kernel
theorem dX0_carryOut_11 : decode cX0_carryOut 11 = .ok (.iconst 2, 1) := by decide +kernel
theorem dX0_carryOut_12 : decode cX0_carryOut 12 = .ok (.invokevirtual 77, 3) := by decide +kernel
theorem dX0_carryOut_15 : decode cX0_carryOut 15 = .ok (.aload_n 0, 1) := by decide +kernel
theorem dX0_carryOut_16 : decode cX0_carryOut 16 = .ok (.dup, 1) := by decide +kernel
theorem dX0_carryOut_17 : decode cX0_carryOut 17 = .ok (.getfield 39, 3) := by decide +kernel
theorem dX0_carryOut_20 : decode cX0_carryOut 20 = .ok (.iconst 1, 1) := by decide +kernel
theorem dX0_carryOut_21 : decode cX0_carryOut 21 = .ok (.iadd, 1) := by decide +kernel
theorem dX0_carryOut_22 : decode cX0_carryOut 22 = .ok (.putfield 39, 3) := by decide +kernel
theorem dX0_carryOut_25 : decode cX0_carryOut 25 = .ok (.aload_n 0, 1) := by decide +kernel
theorem dX0_carryOut_26 : decode cX0_carryOut 26 = .ok (.getfield 9, 3) := by decide +kernel
theorem dX0_carryOut_29 : decode cX0_carryOut 29 = .ok (.iload_n 1, 1) := by decide +kernel
theorem dX0_carryOut_30 : decode cX0_carryOut 30 = .ok (.invokevirtual 91, 3) := by decide +kernel
theorem dX0_carryOut_33 : decode cX0_carryOut 33 = .ok (.iconst 1, 1) := by decide +kernel
theorem dX0_carryOut_34 : decode cX0_carryOut 34 = .ok (.if_icmp .ne 11, 3) := by decide +kernel
theorem dX0_carryOut_37 : decode cX0_carryOut 37 = .ok (.aload_n 0, 1) := by decide +kernel
theorem dX0_carryOut_38 : decode cX0_carryOut 38 = .ok (.iload_n 2, 1) := by decide +kernel
theorem dX0_carryOut_39 : decode cX0_carryOut 39 = .ok (.invokevirtual 103, 3) := by decide +kernel
theorem dX0_carryOut_42 : decode cX0_carryOut 42 = .ok (.goto 31, 3) := by decide +kernel
theorem dX0_carryOut_45 : decode cX0_carryOut 45 = .ok (.aload_n 0, 1) := by decide +kernel
theorem dX0_carryOut_46 : decode cX0_carryOut 46 = .ok (.aload_n 0, 1) := by decide +kernel
theorem dX0_carryOut_47 : decode cX0_carryOut 47 = .ok (.getfield 9, 3) := by decide +kernel
theorem dX0_carryOut_50 : decode cX0_carryOut 50 = .ok (.getfield 106, 3) := by decide +kernel
theorem dX0_carryOut_53 : decode cX0_carryOut 53 = .ok (.ifCond .eq 11, 3) := by decide +kernel
theorem dX0_carryOut_56 : decode cX0_carryOut 56 = .ok (.aload_n 0, 1) := by decide +kernel
theorem dX0_carryOut_57 : decode cX0_carryOut 57 = .ok (.iload_n 2, 1) := by decide +kernel
theorem dX0_carryOut_58 : decode cX0_carryOut 58 = .ok (.invokevirtual 110, 3) := by decide +kernel
theorem dX0_carryOut_61 : decode cX0_carryOut 61 = .ok (.goto 8, 3) := by decide +kernel
theorem dX0_carryOut_64 : decode cX0_carryOut 64 = .ok (.aload_n 0, 1) := by decide +kernel
theorem dX0_carryOut_65 : decode cX0_carryOut 65 = .ok (.iload_n 2, 1) := by decide +kernel
theorem dX0_carryOut_66 : decode cX0_carryOut 66 = .ok (.invokevirtual 113, 3) := by decide +kernel
theorem dX0_carryOut_69 : decode cX0_carryOut 69 = .ok (.iload_n 2, 1) := by decide +kernel
theorem dX0_carryOut_70 : decode cX0_carryOut 70 = .ok (.invokevirtual 116, 3) := by decide +kernel
theorem dX0_carryOut_73 : decode cX0_carryOut 73 = .ok (.return_, 1) := by decide +kernel
set_option maxRecDepth 20000 in
theorem ggX0_strike_X0_isSeen : GoodIn wsX0_strike wsX0_isSeen := goodIn_r _ [7, 8, 1, 9, 10, 11, 12, 13, 14, 15, 16, 17, 18, 19, 20] (by decide +kernel) (by decide +kernel)
set_option maxRecDepth 20000 in
theorem gX0_strike_X0_isSeen : GoodIn wsX0_strike (wsV RX0 119 RX0 yX0_isSeen wsX0_isSeen) := goodIn_app (goodIn_of _ (by decide +kernel)) ggX0_strike_X0_isSeen
theorem dX0_strike_0 : decode cX0_strike 0 = .ok (.aload_n 0, 1) := by decide +kernel
theorem dX0_strike_1 : decode cX0_strike 1 = .ok (.iload_n 1, 1) := by decide +kernel
theorem dX0_strike_2 : decode cX0_strike 2 = .ok (.invokevirtual 119, 3) := by decide +kernel
theorem dX0_strike_5 : decode cX0_strike 5 = .ok (.ifCond .eq 26, 3) := by decide +kernel
theorem dX0_strike_8 : decode cX0_strike 8 = .ok (.iload_n 1, 1) := by decide +kernel
theorem dX0_strike_9 : decode cX0_strike 9 = .ok (.bipush 60, 2) := by decide +kernel
theorem dX0_strike_11 : decode cX0_strike 11 = .ok (.if_icmp .ge 20, 3) := by decide +kernel
theorem dX0_strike_14 : decode cX0_strike 14 = .ok (.aload_n 0, 1) := by decide +kernel
theorem dX0_strike_15 : decode cX0_strike 15 = .ok (.getfield 22, 3) := by decide +kernel
theorem dX0_strike_18 : decode cX0_strike 18 = .ok (.iload_n 1, 1) := by decide +kernel
theorem dX0_strike_19 : decode cX0_strike 19 = .ok (.iconst 1, 1) := by decide +kernel
theorem dX0_strike_20 : decode cX0_strike 20 = .ok (.bastore, 1) := by decide +kernel
theorem dX0_strike_21 : decode cX0_strike 21 = .ok (.aload_n 0, 1) := by decide +kernel
theorem dX0_strike_22 : decode cX0_strike 22 = .ok (.dup, 1) := by decide +kernel
theorem dX0_strike_23 : decode cX0_strike 23 = .ok (.getfield 36, 3) := by decide +kernel
theorem dX0_strike_26 : decode cX0_strike 26 = .ok (.iconst 1, 1) := by decide +kernel
theorem dX0_strike_27 : decode cX0_strike 27 = .ok (.isub, 1) := by decide +kernel
theorem dX0_strike_28 : decode cX0_strike 28 = .ok (.putfield 36, 3) := by decide +kernel
theorem dX0_strike_31 : decode cX0_strike 31 = .ok (.return_, 1) := by decide +kernel
set_option maxRecDepth 20000 in
theorem ggX0_putAt_X0_setPlace : GoodIn wsX0_putAt wsX0_setPlace := goodIn_r _ [9, 10, 11, 12, 13, 14, 15, 16, 17, 18, 19, 20, 21, 22] (by decide +kernel) (by decide +kernel)
set_option maxRecDepth 20000 in
theorem gX0_putAt_X0_setPlace : GoodIn wsX0_putAt (wsV RX0 122 RX0 yX0_setPlace wsX0_setPlace) := goodIn_app (goodIn_of _ (by decide +kernel)) ggX0_putAt_X0_setPlace
theorem dX0_putAt_0 : decode cX0_putAt 0 = .ok (.iload_n 1, 1) := by decide +kernel
theorem dX0_putAt_1 : decode cX0_putAt 1 = .ok (.ifCond .lt 20, 3) := by decide +kernel
theorem dX0_putAt_4 : decode cX0_putAt 4 = .ok (.iload_n 1, 1) := by decide +kernel
theorem dX0_putAt_5 : decode cX0_putAt 5 = .ok (.aload_n 0, 1) := by decide +kernel
theorem dX0_putAt_6 : decode cX0_putAt 6 = .ok (.getfield 32, 3) := by decide +kernel
theorem dX0_putAt_9 : decode cX0_putAt 9 = .ok (.if_icmp .gt 12, 3) := by decide +kernel
theorem dX0_putAt_12 : decode cX0_putAt 12 = .ok (.aload_n 0, 1) := by decide +kernel
theorem dX0_putAt_13 : decode cX0_putAt 13 = .ok (.getfield 32, 3) := by decide +kernel
theorem dX0_putAt_16 : decode cX0_putAt 16 = .ok (.bipush 60, 2) := by decide +kernel
theorem dX0_putAt_18 : decode cX0_putAt 18 = .ok (.if_icmp .lt 4, 3) := by decide +kernel
theorem dX0_putAt_21 : decode cX0_putAt 21 = .ok (.return_, 1) := by decide +kernel
theorem dX0_putAt_22 : decode cX0_putAt 22 = .ok (.aload_n 0, 1) := by decide +kernel
theorem dX0_putAt_23 : decode cX0_putAt 23 = .ok (.getfield 32, 3) := by decide +kernel
theorem dX0_putAt_26 : decode cX0_putAt 26 = .ok (.istore_n 3, 1) := by decide +kernel
theorem dX0_putAt_27 : decode cX0_putAt 27 = .ok (.iload_n 3, 1) := by decide +kernel
theorem dX0_putAt_28 : decode cX0_putAt 28 = .ok (.iload_n 1, 1) := by decide +kernel
theorem dX0_putAt_29 : decode cX0_putAt 29 = .ok (.if_icmp .le 34, 3) := by decide +kernel
theorem dX0_putAt_32 : decode cX0_putAt 32 = .ok (.aload_n 0, 1) := by decide +kernel
theorem dX0_putAt_33 : decode cX0_putAt 33 = .ok (.getfield 15, 3) := by decide +kernel
theorem dX0_putAt_36 : decode cX0_putAt 36 = .ok (.iload_n 3, 1) := by decide +kernel
theorem dX0_putAt_37 : decode cX0_putAt 37 = .ok (.aload_n 0, 1) := by decide +kernel
theorem dX0_putAt_38 : decode cX0_putAt 38 = .ok (.getfield 15, 3) := by decide +kernel
theorem dX0_putAt_41 : decode cX0_putAt 41 = .ok (.iload_n 3, 1) := by decide +kernel
theorem dX0_putAt_42 : decode cX0_putAt 42 = .ok (.iconst 1, 1) := by decide +kernel
theorem dX0_putAt_43 : decode cX0_putAt 43 = .ok (.isub, 1) := by decide +kernel
theorem dX0_putAt_44 : decode cX0_putAt 44 = .ok (.iaload, 1) := by decide +kernel
theorem dX0_putAt_45 : decode cX0_putAt 45 = .ok (.iastore, 1) := by decide +kernel
theorem dX0_putAt_46 : decode cX0_putAt 46 = .ok (.aload_n 0, 1) := by decide +kernel
theorem dX0_putAt_47 : decode cX0_putAt 47 = .ok (.aload_n 0, 1) := by decide +kernel
theorem dX0_putAt_48 : decode cX0_putAt 48 = .ok (.getfield 15, 3) := by decide +kernel
theorem dX0_putAt_51 : decode cX0_putAt 51 = .ok (.iload_n 3, 1) := by decide +kernel
theorem dX0_putAt_52 : decode cX0_putAt 52 = .ok (.iaload, 1) := by decide +kernel
theorem dX0_putAt_53 : decode cX0_putAt 53 = .ok (.iload_n 3, 1) := by decide +kernel
theorem dX0_putAt_54 : decode cX0_putAt 54 = .ok (.invokevirtual 122, 3) := by decide +kernel
theorem dX0_putAt_57 : decode cX0_putAt 57 = .ok (.iinc 3 (-1), 3) := by decide +kernel
theorem dX0_putAt_60 : decode cX0_putAt 60 = .ok (.goto (-33), 3) := by decide +kernel
theorem dX0_putAt_63 : decode cX0_putAt 63 = .ok (.aload_n 0, 1) := by decide +kernel
theorem dX0_putAt_64 : decode cX0_putAt 64 = .ok (.getfield 15, 3) := by decide +kernel
theorem dX0_putAt_67 : decode cX0_putAt 67 = .ok (.iload_n 1, 1) := by decide +kernel
theorem dX0_putAt_68 : decode cX0_putAt 68 = .ok (.iload_n 2, 1) := by decide +kernel
theorem dX0_putAt_69 : decode cX0_putAt 69 = .ok (.iastore, 1) := by decide +kernel
theorem dX0_putAt_70 : decode cX0_putAt 70 = .ok (.aload_n 0, 1) := by decide +kernel
theorem dX0_putAt_71 : decode cX0_putAt 71 = .ok (.iload_n 2, 1) := by decide +kernel
theorem dX0_putAt_72 : decode cX0_putAt 72 = .ok (.iload_n 1, 1) := by decide +kernel
theorem dX0_putAt_73 : decode cX0_putAt 73 = .ok (.invokevirtual 122, 3) := by decide +kernel
theorem dX0_putAt_76 : decode cX0_putAt 76 = .ok (.aload_n 0, 1) := by decide +kernel
theorem dX0_putAt_77 : decode cX0_putAt 77 = .ok (.dup, 1) := by decide +kernel
theorem dX0_putAt_78 : decode cX0_putAt 78 = .ok (.getfield 32, 3) := by decide +kernel
theorem dX0_putAt_81 : decode cX0_putAt 81 = .ok (.iconst 1, 1) := by decide +kernel
theorem dX0_putAt_82 : decode cX0_putAt 82 = .ok (.iadd, 1) := by decide +kernel
theorem dX0_putAt_83 : decode cX0_putAt 83 = .ok (.putfield 32, 3) := by decide +kernel
theorem dX0_putAt_86 : decode cX0_putAt 86 = .ok (.aload_n 0, 1) := by decide +kernel
theorem dX0_putAt_87 : decode cX0_putAt 87 = .ok (.dup, 1) := by decide +kernel
theorem dX0_putAt_88 : decode cX0_putAt 88 = .ok (.getfield 36, 3) := by decide +kernel
theorem dX0_putAt_91 : decode cX0_putAt 91 = .ok (.iconst 1, 1) := by decide +kernel
theorem dX0_putAt_92 : decode cX0_putAt 92 = .ok (.iadd, 1) := by decide +kernel
theorem dX0_putAt_93 : decode cX0_putAt 93 = .ok (.putfield 36, 3) := by decide +kernel
theorem dX0_putAt_96 : decode cX0_putAt 96 = .ok (.aload_n 0, 1) := by decide +kernel
theorem dX0_putAt_97 : decode cX0_putAt 97 = .ok (.dup, 1) := by decide +kernel
theorem dX0_putAt_98 : decode cX0_putAt 98 = .ok (.getfield 51, 3) := by decide +kernel
theorem dX0_putAt_101 : decode cX0_putAt 101 = .ok (.iconst 1, 1) := by decide +kernel
theorem dX0_putAt_102 : decode cX0_putAt 102 = .ok (.iadd, 1) := by decide +kernel
theorem dX0_putAt_103 : decode cX0_putAt 103 = .ok (.putfield 51, 3) := by decide +kernel
theorem dX0_putAt_106 : decode cX0_putAt 106 = .ok (.return_, 1) := by decide +kernel
set_option maxRecDepth 20000 in
theorem ggX0_wootPlace_X2_leftOf : GoodIn wsX0_wootPlace wsX2_leftOf := goodIn_r _ [7, 8, 9, 10, 11, 6, 12, 13, 52, 53, 54, 55, 56, 57, 58, 59, 60, 61, 62, 63, 64] (by decide +kernel) (by decide +kernel)
set_option maxRecDepth 20000 in
theorem gX0_wootPlace_X2_leftOf : GoodIn wsX0_wootPlace (wsV RX0 97 RX2 yX2_leftOf wsX2_leftOf) := goodIn_app (goodIn_of _ (by decide +kernel)) ggX0_wootPlace_X2_leftOf
set_option maxRecDepth 20000 in
theorem ggX0_wootPlace_X0_placeOf : GoodIn wsX0_wootPlace wsX0_placeOf := goodIn_r _ [18, 19, 20, 40, 41, 42, 43, 44, 45, 46, 47, 48, 49, 50, 51] (by decide +kernel) (by decide +kernel)
set_option maxRecDepth 20000 in
theorem gX0_wootPlace_X0_placeOf : GoodIn wsX0_wootPlace (wsV RX0 94 RX0 yX0_placeOf wsX0_placeOf) := goodIn_app (goodIn_of _ (by decide +kernel)) ggX0_wootPlace_X0_placeOf
set_option maxRecDepth 20000 in
theorem ggX0_wootPlace_X2_rightOf : GoodIn wsX0_wootPlace wsX2_rightOf := goodIn_r _ [24, 25, 9, 10, 11, 6, 12, 13, 52, 53, 54, 55, 56, 57, 58, 59, 60, 61, 62, 63, 64] (by decide +kernel) (by decide +kernel)
set_option maxRecDepth 20000 in
theorem gX0_wootPlace_X2_rightOf : GoodIn wsX0_wootPlace (wsV RX0 100 RX2 yX2_rightOf wsX2_rightOf) := goodIn_app (goodIn_of _ (by decide +kernel)) ggX0_wootPlace_X2_rightOf
set_option maxRecDepth 20000 in
theorem ggX0_wootPlace_X2_markOf : GoodIn wsX0_wootPlace wsX2_markOf := goodIn_r _ [29, 30, 9, 10, 11, 6, 12, 13, 52, 53, 54, 55, 56, 57, 58, 59, 60, 61, 62, 63, 64] (by decide +kernel) (by decide +kernel)
set_option maxRecDepth 20000 in
theorem gX0_wootPlace_X2_markOf : GoodIn wsX0_wootPlace (wsV RX0 125 RX2 yX2_markOf wsX2_markOf) := goodIn_app (goodIn_of _ (by decide +kernel)) ggX0_wootPlace_X2_markOf
set_option maxRecDepth 20000 in
theorem ggX0_wootPlace_X0_characterAt : GoodIn wsX0_wootPlace wsX0_characterAt := goodIn_r _ [34, 20, 35, 40, 41, 42, 43, 44, 45, 46, 47, 48, 49, 50, 51] (by decide +kernel) (by decide +kernel)
set_option maxRecDepth 20000 in
theorem gX0_wootPlace_X0_characterAt : GoodIn wsX0_wootPlace (wsV RX0 128 RX0 yX0_characterAt wsX0_characterAt) := goodIn_app (goodIn_of _ (by decide +kernel)) ggX0_wootPlace_X0_characterAt
set_option maxRecDepth 20000 in
theorem ggX0_wootPlace_X0_spans : GoodIn wsX0_wootPlace wsX0_spans := goodIn_r _ [39, 1, 3, 4, 5, 6, 7, 8, 9, 10, 11, 12, 13, 14, 15, 16, 17, 18, 19, 20, 21, 22, 23, 24, 25, 40, 41, 42, 43, 44, 45, 46, 47, 48, 49, 50, 51, 52, 53, 54, 55, 56, 57, 58, 59, 60, 61, 62, 63, 64] (by decide +kernel) (by decide +kernel)
set_option maxRecDepth 20000 in
theorem gX0_wootPlace_X0_spans : GoodIn wsX0_wootPlace (wsV RX0 131 RX0 yX0_spans wsX0_spans) := goodIn_app (goodIn_of _ (by decide +kernel)) ggX0_wootPlace_X0_spans
theorem dX0_wootPlace_0 : decode cX0_wootPlace 0 = .ok (.aload_n 0, 1) := by decide +kernel
theorem dX0_wootPlace_1 : decode cX0_wootPlace 1 = .ok (.aload_n 0, 1) := by decide +kernel
theorem dX0_wootPlace_2 : decode cX0_wootPlace 2 = .ok (.getfield 9, 3) := by decide +kernel
theorem dX0_wootPlace_5 : decode cX0_wootPlace 5 = .ok (.iload_n 1, 1) := by decide +kernel
theorem dX0_wootPlace_6 : decode cX0_wootPlace 6 = .ok (.invokevirtual 97, 3) := by decide +kernel
theorem dX0_wootPlace_9 : decode cX0_wootPlace 9 = .ok (.invokevirtual 94, 3) := by decide +kernel
theorem dX0_wootPlace_12 : decode cX0_wootPlace 12 = .ok (.istore_n 2, 1) := by decide +kernel
theorem dX0_wootPlace_13 : decode cX0_wootPlace 13 = .ok (.aload_n 0, 1) := by decide +kernel
theorem dX0_wootPlace_14 : decode cX0_wootPlace 14 = .ok (.aload_n 0, 1) := by decide +kernel
theorem dX0_wootPlace_15 : decode cX0_wootPlace 15 = .ok (.getfield 9, 3) := by decide +kernel
theorem dX0_wootPlace_18 : decode cX0_wootPlace 18 = .ok (.iload_n 1, 1) := by decide +kernel
theorem dX0_wootPlace_19 : decode cX0_wootPlace 19 = .ok (.invokevirtual 100, 3) := by decide +kernel
theorem dX0_wootPlace_22 : decode cX0_wootPlace 22 = .ok (.invokevirtual 94, 3) := by decide +kernel
theorem dX0_wootPlace_25 : decode cX0_wootPlace 25 = .ok (.istore_n 3, 1) := by decide +kernel
theorem dX0_wootPlace_26 : decode cX0_wootPlace 26 = .ok (.aload_n 0, 1) := by decide +kernel
theorem dX0_wootPlace_27 : decode cX0_wootPlace 27 = .ok (.getfield 9, 3) := by decide +kernel
theorem dX0_wootPlace_30 : decode cX0_wootPlace 30 = .ok (.iload_n 1, 1) := by decide +kernel
theorem dX0_wootPlace_31 : decode cX0_wootPlace 31 = .ok (.invokevirtual 125, 3) := by decide +kernel
theorem dX0_wootPlace_34 : decode cX0_wootPlace 34 = .ok (.istore 4, 2) := by decide +kernel
theorem dX0_wootPlace_36 : decode cX0_wootPlace 36 = .ok (.iconst 0, 1) := by decide +kernel
theorem dX0_wootPlace_37 : decode cX0_wootPlace 37 = .ok (.istore 5, 2) := by decide +kernel
theorem dX0_wootPlace_39 : decode cX0_wootPlace 39 = .ok (.iload 5, 2) := by decide +kernel
theorem dX0_wootPlace_41 : decode cX0_wootPlace 41 = .ok (.bipush 60, 2) := by decide +kernel
theorem dX0_wootPlace_43 : decode cX0_wootPlace 43 = .ok (.if_icmp .ge 119, 3) := by decide +kernel
theorem dX0_wootPlace_46 : decode cX0_wootPlace 46 = .ok (.iload_n 3, 1) := by decide +kernel
theorem dX0_wootPlace_47 : decode cX0_wootPlace 47 = .ok (.iload_n 2, 1) := by decide +kernel
theorem dX0_wootPlace_48 : decode cX0_wootPlace 48 = .ok (.isub, 1) := by decide +kernel
theorem dX0_wootPlace_49 : decode cX0_wootPlace 49 = .ok (.iconst 1, 1) := by decide +kernel
theorem dX0_wootPlace_50 : decode cX0_wootPlace 50 = .ok (.if_icmp .le 112, 3) := by decide +kernel
theorem dX0_wootPlace_53 : decode cX0_wootPlace 53 = .ok (.aload_n 0, 1) := by decide +kernel
theorem dX0_wootPlace_54 : decode cX0_wootPlace 54 = .ok (.dup, 1) := by decide +kernel
theorem dX0_wootPlace_55 : decode cX0_wootPlace 55 = .ok (.getfield 48, 3) := by decide +kernel
theorem dX0_wootPlace_58 : decode cX0_wootPlace 58 = .ok (.iload_n 3, 1) := by decide +kernel
theorem dX0_wootPlace_59 : decode cX0_wootPlace 59 = .ok (.iload_n 2, 1) := by decide +kernel
theorem dX0_wootPlace_60 : decode cX0_wootPlace 60 = .ok (.isub, 1) := by decide +kernel
theorem dX0_wootPlace_61 : decode cX0_wootPlace 61 = .ok (.iconst 1, 1) := by decide +kernel
theorem dX0_wootPlace_62 : decode cX0_wootPlace 62 = .ok (.isub, 1) := by decide +kernel
theorem dX0_wootPlace_63 : decode cX0_wootPlace 63 = .ok (.iadd, 1) := by decide +kernel
theorem dX0_wootPlace_64 : decode cX0_wootPlace 64 = .ok (.putfield 48, 3) := by decide +kernel
theorem dX0_wootPlace_67 : decode cX0_wootPlace 67 = .ok (.iload_n 2, 1) := by decide +kernel
theorem dX0_wootPlace_68 : decode cX0_wootPlace 68 = .ok (.istore 6, 2) := by decide +kernel
theorem dX0_wootPlace_70 : decode cX0_wootPlace 70 = .ok (.iload_n 3, 1) := by decide +kernel
theorem dX0_wootPlace_71 : decode cX0_wootPlace 71 = .ok (.istore 7, 2) := by decide +kernel
theorem dX0_wootPlace_73 : decode cX0_wootPlace 73 = .ok (.iload_n 2, 1) := by decide +kernel
theorem dX0_wootPlace_74 : decode cX0_wootPlace 74 = .ok (.iconst 1, 1) := by decide +kernel
theorem dX0_wootPlace_75 : decode cX0_wootPlace 75 = .ok (.iadd, 1) := by decide +kernel
theorem dX0_wootPlace_76 : decode cX0_wootPlace 76 = .ok (.istore 8, 2) := by decide +kernel
theorem dX0_wootPlace_78 : decode cX0_wootPlace 78 = .ok (.iload 8, 2) := by decide +kernel
theorem dX0_wootPlace_80 : decode cX0_wootPlace 80 = .ok (.iload_n 3, 1) := by decide +kernel
theorem dX0_wootPlace_81 : decode cX0_wootPlace 81 = .ok (.if_icmp .ge 69, 3) := by decide +kernel
theorem dX0_wootPlace_84 : decode cX0_wootPlace 84 = .ok (.iload 7, 2) := by decide +kernel
theorem dX0_wootPlace_86 : decode cX0_wootPlace 86 = .ok (.iload_n 3, 1) := by decide +kernel
theorem dX0_wootPlace_87 : decode cX0_wootPlace 87 = .ok (.if_icmp .ne 63, 3) := by decide +kernel
theorem dX0_wootPlace_90 : decode cX0_wootPlace 90 = .ok (.aload_n 0, 1) := by decide +kernel
theorem dX0_wootPlace_91 : decode cX0_wootPlace 91 = .ok (.iload 8, 2) := by decide +kernel
theorem dX0_wootPlace_93 : decode cX0_wootPlace 93 = .ok (.invokevirtual 128, 3) := by decide +kernel
theorem dX0_wootPlace_96 : decode cX0_wootPlace 96 = .ok (.istore 9, 2) := by decide +kernel
theorem dX0_wootPlace_98 : decode cX0_wootPlace 98 = .ok (.aload_n 0, 1) := by decide +kernel
theorem dX0_wootPlace_99 : decode cX0_wootPlace 99 = .ok (.iload 9, 2) := by decide +kernel
theorem dX0_wootPlace_101 : decode cX0_wootPlace 101 = .ok (.iload_n 2, 1) := by decide +kernel
theorem dX0_wootPlace_102 : decode cX0_wootPlace 102 = .ok (.iload_n 3, 1) := by decide +kernel
theorem dX0_wootPlace_103 : decode cX0_wootPlace 103 = .ok (.invokevirtual 131, 3) := by decide +kernel
theorem dX0_wootPlace_106 : decode cX0_wootPlace 106 = .ok (.ifCond .eq 38, 3) := by decide +kernel
theorem dX0_wootPlace_109 : decode cX0_wootPlace 109 = .ok (.aload_n 0, 1) := by decide +kernel
theorem dX0_wootPlace_110 : decode cX0_wootPlace 110 = .ok (.dup, 1) := by decide +kernel
theorem dX0_wootPlace_111 : decode cX0_wootPlace 111 = .ok (.getfield 48, 3) := by decide +kernel
theorem dX0_wootPlace_114 : decode cX0_wootPlace 114 = .ok (.iconst 1, 1) := by decide +kernel
theorem dX0_wootPlace_115 : decode cX0_wootPlace 115 = .ok (.iadd, 1) := by decide +kernel
theorem dX0_wootPlace_116 : decode cX0_wootPlace 116 = .ok (.putfield 48, 3) := by decide +kernel
theorem dX0_wootPlace_119 : decode cX0_wootPlace 119 = .ok (.aload_n 0, 1) := by decide +kernel
theorem dX0_wootPlace_120 : decode cX0_wootPlace 120 = .ok (.getfield 9, 3) := by decide +kernel
theorem dX0_wootPlace_123 : decode cX0_wootPlace 123 = .ok (.iload 9, 2) := by decide +kernel
theorem dX0_wootPlace_125 : decode cX0_wootPlace 125 = .ok (.invokevirtual 125, 3) := by decide +kernel
theorem dX0_wootPlace_128 : decode cX0_wootPlace 128 = .ok (.iload 4, 2) := by decide +kernel
theorem dX0_wootPlace_130 : decode cX0_wootPlace 130 = .ok (.if_icmp .ge 10, 3) := by decide +kernel
theorem dX0_wootPlace_133 : decode cX0_wootPlace 133 = .ok (.iload 8, 2) := by decide +kernel
theorem dX0_wootPlace_135 : decode cX0_wootPlace 135 = .ok (.istore 6, 2) := by decide +kernel
theorem dX0_wootPlace_137 : decode cX0_wootPlace 137 = .ok (.goto 7, 3) := by decide +kernel
theorem dX0_wootPlace_140 : decode cX0_wootPlace 140 = .ok (.iload 8, 2) := by decide +kernel
theorem dX0_wootPlace_142 : decode cX0_wootPlace 142 = .ok (.istore 7, 2) := by decide +kernel
theorem dX0_wootPlace_144 : decode cX0_wootPlace 144 = .ok (.iinc 8 1, 3) := by decide +kernel
theorem dX0_wootPlace_147 : decode cX0_wootPlace 147 = .ok (.goto (-69), 3) := by decide +kernel
theorem dX0_wootPlace_150 : decode cX0_wootPlace 150 = .ok (.iload 6, 2) := by decide +kernel
theorem dX0_wootPlace_152 : decode cX0_wootPlace 152 = .ok (.istore_n 2, 1) := by decide +kernel
theorem dX0_wootPlace_153 : decode cX0_wootPlace 153 = .ok (.iload 7, 2) := by decide +kernel
theorem dX0_wootPlace_155 : decode cX0_wootPlace 155 = .ok (.istore_n 3, 1) := by decide +kernel
theorem dX0_wootPlace_156 : decode cX0_wootPlace 156 = .ok (.iinc 5 1, 3) := by decide +kernel
theorem dX0_wootPlace_159 : decode cX0_wootPlace 159 = .ok (.goto (-120), 3) := by decide +kernel
theorem dX0_wootPlace_162 : decode cX0_wootPlace 162 = .ok (.iload_n 3, 1) := by decide +kernel
theorem dX0_wootPlace_163 : decode cX0_wootPlace 163 = .ok (.ireturn, 1) := by decide +kernel
set_option maxRecDepth 20000 in
theorem ggX0_spans_X2_leftOf : GoodIn wsX0_spans wsX2_leftOf := goodIn_r _ [6, 7, 8, 9, 10, 5, 11, 12, 37, 38, 39, 40, 41, 42, 43, 44, 45, 46, 47, 48, 49] (by decide +kernel) (by decide +kernel)
set_option maxRecDepth 20000 in
theorem gX0_spans_X2_leftOf : GoodIn wsX0_spans (wsV RX0 97 RX2 yX2_leftOf wsX2_leftOf) := goodIn_app (goodIn_of _ (by decide +kernel)) ggX0_spans_X2_leftOf
set_option maxRecDepth 20000 in
theorem ggX0_spans_X0_placeOf : GoodIn wsX0_spans wsX0_placeOf := goodIn_r _ [17, 18, 19, 25, 26, 27, 28, 29, 30, 31, 32, 33, 34, 35, 36] (by decide +kernel) (by decide +kernel)
set_option maxRecDepth 20000 in
theorem gX0_spans_X0_placeOf : GoodIn wsX0_spans (wsV RX0 94 RX0 yX0_placeOf wsX0_placeOf) := goodIn_app (goodIn_of _ (by decide +kernel)) ggX0_spans_X0_placeOf
set_option maxRecDepth 20000 in
theorem ggX0_spans_X2_rightOf : GoodIn wsX0_spans wsX2_rightOf := goodIn_r _ [23, 24, 8, 9, 10, 5, 11, 12, 37, 38, 39, 40, 41, 42, 43, 44, 45, 46, 47, 48, 49] (by decide +kernel) (by decide +kernel)
set_option maxRecDepth 20000 in
theorem gX0_spans_X2_rightOf : GoodIn wsX0_spans (wsV RX0 100 RX2 yX2_rightOf wsX2_rightOf) := goodIn_app (goodIn_of _ (by decide +kernel)) ggX0_spans_X2_rightOf
theorem dX0_spans_0 : decode cX0_spans 0 = .ok (.aload_n 0, 1) := by decide +kernel
theorem dX0_spans_1 : decode cX0_spans 1 = .ok (.aload_n 0, 1) := by decide +kernel
theorem dX0_spans_2 : decode cX0_spans 2 = .ok (.getfield 9, 3) := by decide +kernel
theorem dX0_spans_5 : decode cX0_spans 5 = .ok (.iload_n 1, 1) := by decide +kernel
theorem dX0_spans_6 : decode cX0_spans 6 = .ok (.invokevirtual 97, 3) := by decide +kernel
theorem dX0_spans_9 : decode cX0_spans 9 = .ok (.invokevirtual 94, 3) := by decide +kernel
theorem dX0_spans_12 : decode cX0_spans 12 = .ok (.iload_n 2, 1) := by decide +kernel
theorem dX0_spans_13 : decode cX0_spans 13 = .ok (.if_icmp .gt 23, 3) := by decide +kernel
theorem dX0_spans_16 : decode cX0_spans 16 = .ok (.aload_n 0, 1) := by decide +kernel
theorem dX0_spans_17 : decode cX0_spans 17 = .ok (.aload_n 0, 1) := by decide +kernel
theorem dX0_spans_18 : decode cX0_spans 18 = .ok (.getfield 9, 3) := by decide +kernel
theorem dX0_spans_21 : decode cX0_spans 21 = .ok (.iload_n 1, 1) := by decide +kernel
theorem dX0_spans_22 : decode cX0_spans 22 = .ok (.invokevirtual 100, 3) := by decide +kernel
theorem dX0_spans_25 : decode cX0_spans 25 = .ok (.invokevirtual 94, 3) := by decide +kernel
theorem dX0_spans_28 : decode cX0_spans 28 = .ok (.iload_n 3, 1) := by decide +kernel
theorem dX0_spans_29 : decode cX0_spans 29 = .ok (.if_icmp .lt 7, 3) := by decide +kernel
theorem dX0_spans_32 : decode cX0_spans 32 = .ok (.iconst 1, 1) := by decide +kernel
theorem dX0_spans_33 : decode cX0_spans 33 = .ok (.goto 4, 3) := by decide +kernel
theorem dX0_spans_36 : decode cX0_spans 36 = .ok (.iconst 0, 1) := by decide +kernel
theorem dX0_spans_37 : decode cX0_spans 37 = .ok (.ireturn, 1) := by decide +kernel
set_option maxRecDepth 20000 in
theorem ggX0_yataPlace_X2_leftOf : GoodIn wsX0_yataPlace wsX2_leftOf := goodIn_r _ [7, 8, 9, 10, 11, 6, 12, 13, 48, 49, 50, 51, 52, 53, 54, 55, 56, 57, 58, 59, 60] (by decide +kernel) (by decide +kernel)
set_option maxRecDepth 20000 in
theorem gX0_yataPlace_X2_leftOf : GoodIn wsX0_yataPlace (wsV RX0 97 RX2 yX2_leftOf wsX2_leftOf) := goodIn_app (goodIn_of _ (by decide +kernel)) ggX0_yataPlace_X2_leftOf
set_option maxRecDepth 20000 in
theorem ggX0_yataPlace_X0_placeOf : GoodIn wsX0_yataPlace wsX0_placeOf := goodIn_r _ [18, 19, 20, 36, 37, 38, 39, 40, 41, 42, 43, 44, 45, 46, 47] (by decide +kernel) (by decide +kernel)
set_option maxRecDepth 20000 in
theorem gX0_yataPlace_X0_placeOf : GoodIn wsX0_yataPlace (wsV RX0 94 RX0 yX0_placeOf wsX0_placeOf) := goodIn_app (goodIn_of _ (by decide +kernel)) ggX0_yataPlace_X0_placeOf
set_option maxRecDepth 20000 in
theorem ggX0_yataPlace_X2_rightOf : GoodIn wsX0_yataPlace wsX2_rightOf := goodIn_r _ [24, 25, 9, 10, 11, 6, 12, 13, 48, 49, 50, 51, 52, 53, 54, 55, 56, 57, 58, 59, 60] (by decide +kernel) (by decide +kernel)
set_option maxRecDepth 20000 in
theorem gX0_yataPlace_X2_rightOf : GoodIn wsX0_yataPlace (wsV RX0 100 RX2 yX2_rightOf wsX2_rightOf) := goodIn_app (goodIn_of _ (by decide +kernel)) ggX0_yataPlace_X2_rightOf
set_option maxRecDepth 20000 in
theorem ggX0_yataPlace_X0_characterAt : GoodIn wsX0_yataPlace wsX0_characterAt := goodIn_r _ [29, 20, 30, 36, 37, 38, 39, 40, 41, 42, 43, 44, 45, 46, 47] (by decide +kernel) (by decide +kernel)
set_option maxRecDepth 20000 in
theorem gX0_yataPlace_X0_characterAt : GoodIn wsX0_yataPlace (wsV RX0 128 RX0 yX0_characterAt wsX0_characterAt) := goodIn_app (goodIn_of _ (by decide +kernel)) ggX0_yataPlace_X0_characterAt
set_option maxRecDepth 20000 in
theorem ggX0_yataPlace_X2_siteOf : GoodIn wsX0_yataPlace wsX2_siteOf := goodIn_r _ [34, 35, 9, 10, 11, 6, 12, 13, 48, 49, 50, 51, 52, 53, 54, 55, 56, 57, 58, 59, 60] (by decide +kernel) (by decide +kernel)
set_option maxRecDepth 20000 in
theorem gX0_yataPlace_X2_siteOf : GoodIn wsX0_yataPlace (wsV RX0 135 RX2 yX2_siteOf wsX2_siteOf) := goodIn_app (goodIn_of _ (by decide +kernel)) ggX0_yataPlace_X2_siteOf
theorem dX0_yataPlace_0 : decode cX0_yataPlace 0 = .ok (.aload_n 0, 1) := by decide +kernel
theorem dX0_yataPlace_1 : decode cX0_yataPlace 1 = .ok (.getfield 9, 3) := by decide +kernel
theorem dX0_yataPlace_4 : decode cX0_yataPlace 4 = .ok (.iload_n 1, 1) := by decide +kernel
theorem dX0_yataPlace_5 : decode cX0_yataPlace 5 = .ok (.invokevirtual 97, 3) := by decide +kernel
theorem dX0_yataPlace_8 : decode cX0_yataPlace 8 = .ok (.istore_n 2, 1) := by decide +kernel
theorem dX0_yataPlace_9 : decode cX0_yataPlace 9 = .ok (.aload_n 0, 1) := by decide +kernel
theorem dX0_yataPlace_10 : decode cX0_yataPlace 10 = .ok (.iload_n 2, 1) := by decide +kernel
theorem dX0_yataPlace_11 : decode cX0_yataPlace 11 = .ok (.invokevirtual 94, 3) := by decide +kernel
theorem dX0_yataPlace_14 : decode cX0_yataPlace 14 = .ok (.iconst 1, 1) := by decide +kernel
theorem dX0_yataPlace_15 : decode cX0_yataPlace 15 = .ok (.iadd, 1) := by decide +kernel
theorem dX0_yataPlace_16 : decode cX0_yataPlace 16 = .ok (.istore_n 3, 1) := by decide +kernel
theorem dX0_yataPlace_17 : decode cX0_yataPlace 17 = .ok (.aload_n 0, 1) := by decide +kernel
theorem dX0_yataPlace_18 : decode cX0_yataPlace 18 = .ok (.aload_n 0, 1) := by decide +kernel
theorem dX0_yataPlace_19 : decode cX0_yataPlace 19 = .ok (.getfield 9, 3) := by decide +kernel
theorem dX0_yataPlace_22 : decode cX0_yataPlace 22 = .ok (.iload_n 1, 1) := by decide +kernel
theorem dX0_yataPlace_23 : decode cX0_yataPlace 23 = .ok (.invokevirtual 100, 3) := by decide +kernel
theorem dX0_yataPlace_26 : decode cX0_yataPlace 26 = .ok (.invokevirtual 94, 3) := by decide +kernel
theorem dX0_yataPlace_29 : decode cX0_yataPlace 29 = .ok (.istore 4, 2) := by decide +kernel
theorem dX0_yataPlace_31 : decode cX0_yataPlace 31 = .ok (.iload_n 3, 1) := by decide +kernel
theorem dX0_yataPlace_32 : decode cX0_yataPlace 32 = .ok (.istore 5, 2) := by decide +kernel
theorem dX0_yataPlace_34 : decode cX0_yataPlace 34 = .ok (.iload_n 3, 1) := by decide +kernel
theorem dX0_yataPlace_35 : decode cX0_yataPlace 35 = .ok (.istore 6, 2) := by decide +kernel
theorem dX0_yataPlace_37 : decode cX0_yataPlace 37 = .ok (.iload 6, 2) := by decide +kernel
theorem dX0_yataPlace_39 : decode cX0_yataPlace 39 = .ok (.iload 4, 2) := by decide +kernel
theorem dX0_yataPlace_41 : decode cX0_yataPlace 41 = .ok (.if_icmp .ge 126, 3) := by decide +kernel
theorem dX0_yataPlace_44 : decode cX0_yataPlace 44 = .ok (.aload_n 0, 1) := by decide +kernel
theorem dX0_yataPlace_45 : decode cX0_yataPlace 45 = .ok (.dup, 1) := by decide +kernel
theorem dX0_yataPlace_46 : decode cX0_yataPlace 46 = .ok (.getfield 48, 3) := by decide +kernel
theorem dX0_yataPlace_49 : decode cX0_yataPlace 49 = .ok (.iconst 1, 1) := by decide +kernel
theorem dX0_yataPlace_50 : decode cX0_yataPlace 50 = .ok (.iadd, 1) := by decide +kernel
theorem dX0_yataPlace_51 : decode cX0_yataPlace 51 = .ok (.putfield 48, 3) := by decide +kernel
theorem dX0_yataPlace_54 : decode cX0_yataPlace 54 = .ok (.aload_n 0, 1) := by decide +kernel
theorem dX0_yataPlace_55 : decode cX0_yataPlace 55 = .ok (.iload 6, 2) := by decide +kernel
theorem dX0_yataPlace_57 : decode cX0_yataPlace 57 = .ok (.invokevirtual 128, 3) := by decide +kernel
theorem dX0_yataPlace_60 : decode cX0_yataPlace 60 = .ok (.istore 7, 2) := by decide +kernel
theorem dX0_yataPlace_62 : decode cX0_yataPlace 62 = .ok (.aload_n 0, 1) := by decide +kernel
theorem dX0_yataPlace_63 : decode cX0_yataPlace 63 = .ok (.getfield 9, 3) := by decide +kernel
theorem dX0_yataPlace_66 : decode cX0_yataPlace 66 = .ok (.iload 7, 2) := by decide +kernel
theorem dX0_yataPlace_68 : decode cX0_yataPlace 68 = .ok (.invokevirtual 97, 3) := by decide +kernel
theorem dX0_yataPlace_71 : decode cX0_yataPlace 71 = .ok (.istore 8, 2) := by decide +kernel
theorem dX0_yataPlace_73 : decode cX0_yataPlace 73 = .ok (.iload 8, 2) := by decide +kernel
theorem dX0_yataPlace_75 : decode cX0_yataPlace 75 = .ok (.iload_n 2, 1) := by decide +kernel
theorem dX0_yataPlace_76 : decode cX0_yataPlace 76 = .ok (.if_icmp .ne 55, 3) := by decide +kernel
theorem dX0_yataPlace_79 : decode cX0_yataPlace 79 = .ok (.aload_n 0, 1) := by decide +kernel
theorem dX0_yataPlace_80 : decode cX0_yataPlace 80 = .ok (.getfield 9, 3) := by decide +kernel
theorem dX0_yataPlace_83 : decode cX0_yataPlace 83 = .ok (.iload 7, 2) := by decide +kernel
theorem dX0_yataPlace_85 : decode cX0_yataPlace 85 = .ok (.invokevirtual 135, 3) := by decide +kernel
theorem dX0_yataPlace_88 : decode cX0_yataPlace 88 = .ok (.aload_n 0, 1) := by decide +kernel
theorem dX0_yataPlace_89 : decode cX0_yataPlace 89 = .ok (.getfield 9, 3) := by decide +kernel
theorem dX0_yataPlace_92 : decode cX0_yataPlace 92 = .ok (.iload_n 1, 1) := by decide +kernel
theorem dX0_yataPlace_93 : decode cX0_yataPlace 93 = .ok (.invokevirtual 135, 3) := by decide +kernel
theorem dX0_yataPlace_96 : decode cX0_yataPlace 96 = .ok (.if_icmp .ge 12, 3) := by decide +kernel
theorem dX0_yataPlace_99 : decode cX0_yataPlace 99 = .ok (.iload 6, 2) := by decide +kernel
theorem dX0_yataPlace_101 : decode cX0_yataPlace 101 = .ok (.iconst 1, 1) := by decide +kernel
theorem dX0_yataPlace_102 : decode cX0_yataPlace 102 = .ok (.iadd, 1) := by decide +kernel
theorem dX0_yataPlace_103 : decode cX0_yataPlace 103 = .ok (.istore 5, 2) := by decide +kernel
theorem dX0_yataPlace_105 : decode cX0_yataPlace 105 = .ok (.goto 56, 3) := by decide +kernel
theorem dX0_yataPlace_108 : decode cX0_yataPlace 108 = .ok (.aload_n 0, 1) := by decide +kernel
theorem dX0_yataPlace_109 : decode cX0_yataPlace 109 = .ok (.getfield 9, 3) := by decide +kernel
theorem dX0_yataPlace_112 : decode cX0_yataPlace 112 = .ok (.iload 7, 2) := by decide +kernel
theorem dX0_yataPlace_114 : decode cX0_yataPlace 114 = .ok (.invokevirtual 100, 3) := by decide +kernel
theorem dX0_yataPlace_117 : decode cX0_yataPlace 117 = .ok (.aload_n 0, 1) := by decide +kernel
theorem dX0_yataPlace_118 : decode cX0_yataPlace 118 = .ok (.getfield 9, 3) := by decide +kernel
theorem dX0_yataPlace_121 : decode cX0_yataPlace 121 = .ok (.iload_n 1, 1) := by decide +kernel
theorem dX0_yataPlace_122 : decode cX0_yataPlace 122 = .ok (.invokevirtual 100, 3) := by decide +kernel
theorem dX0_yataPlace_125 : decode cX0_yataPlace 125 = .ok (.if_icmp .ne 36, 3) := by decide +kernel
end
section
theorem dX0_yataPlace_128 : decode cX0_yataPlace 128 = .ok (.goto 39, 3) := by decide +kernel
theorem dX0_yataPlace_131 : decode cX0_yataPlace 131 = .ok (.aload_n 0, 1) := by decide +kernel
theorem dX0_yataPlace_132 : decode cX0_yataPlace 132 = .ok (.iload 8, 2) := by decide +kernel
theorem dX0_yataPlace_134 : decode cX0_yataPlace 134 = .ok (.invokevirtual 94, 3) := by decide +kernel
theorem dX0_yataPlace_137 : decode cX0_yataPlace 137 = .ok (.iload_n 3, 1) := by decide +kernel
theorem dX0_yataPlace_138 : decode cX0_yataPlace 138 = .ok (.if_icmp .ge 6, 3) := by decide +kernel
theorem dX0_yataPlace_141 : decode cX0_yataPlace 141 = .ok (.goto 26, 3) := by decide +kernel
theorem dX0_yataPlace_144 : decode cX0_yataPlace 144 = .ok (.aload_n 0, 1) := by decide +kernel
theorem dX0_yataPlace_145 : decode cX0_yataPlace 145 = .ok (.iload 8, 2) := by decide +kernel
theorem dX0_yataPlace_147 : decode cX0_yataPlace 147 = .ok (.invokevirtual 94, 3) := by decide +kernel
theorem dX0_yataPlace_150 : decode cX0_yataPlace 150 = .ok (.iload 5, 2) := by decide +kernel
theorem dX0_yataPlace_152 : decode cX0_yataPlace 152 = .ok (.if_icmp .ge 9, 3) := by decide +kernel
theorem dX0_yataPlace_155 : decode cX0_yataPlace 155 = .ok (.iload 6, 2) := by decide +kernel
theorem dX0_yataPlace_157 : decode cX0_yataPlace 157 = .ok (.iconst 1, 1) := by decide +kernel
theorem dX0_yataPlace_158 : decode cX0_yataPlace 158 = .ok (.iadd, 1) := by decide +kernel
theorem dX0_yataPlace_159 : decode cX0_yataPlace 159 = .ok (.istore 5, 2) := by decide +kernel
theorem dX0_yataPlace_161 : decode cX0_yataPlace 161 = .ok (.iinc 6 1, 3) := by decide +kernel
theorem dX0_yataPlace_164 : decode cX0_yataPlace 164 = .ok (.goto (-127), 3) := by decide +kernel
theorem dX0_yataPlace_167 : decode cX0_yataPlace 167 = .ok (.iload 5, 2) := by decide +kernel
theorem dX0_yataPlace_169 : decode cX0_yataPlace 169 = .ok (.ireturn, 1) := by decide +kernel
set_option maxRecDepth 20000 in
theorem ggX0_leftForPlace_X0_seenAt : GoodIn wsX0_leftForPlace wsX0_seenAt := goodIn_r _ [5, 6, 7, 8, 9, 4, 10, 11, 12, 13, 14, 15, 16, 17, 18, 19, 20, 21, 22, 23, 24, 25, 26, 27, 28, 29] (by decide +kernel) (by decide +kernel)
set_option maxRecDepth 20000 in
theorem gX0_leftForPlace_X0_seenAt : GoodIn wsX0_leftForPlace (wsV RX0 138 RX0 yX0_seenAt wsX0_seenAt) := goodIn_app (goodIn_of _ (by decide +kernel)) ggX0_leftForPlace_X0_seenAt
theorem dX0_leftForPlace_0 : decode cX0_leftForPlace 0 = .ok (.iload_n 1, 1) := by decide +kernel
theorem dX0_leftForPlace_1 : decode cX0_leftForPlace 1 = .ok (.ifCond .gt 7, 3) := by decide +kernel
theorem dX0_leftForPlace_4 : decode cX0_leftForPlace 4 = .ok (.iconst (-1), 1) := by decide +kernel
theorem dX0_leftForPlace_5 : decode cX0_leftForPlace 5 = .ok (.goto 10, 3) := by decide +kernel
theorem dX0_leftForPlace_8 : decode cX0_leftForPlace 8 = .ok (.aload_n 0, 1) := by decide +kernel
theorem dX0_leftForPlace_9 : decode cX0_leftForPlace 9 = .ok (.iload_n 1, 1) := by decide +kernel
theorem dX0_leftForPlace_10 : decode cX0_leftForPlace 10 = .ok (.iconst 1, 1) := by decide +kernel
theorem dX0_leftForPlace_11 : decode cX0_leftForPlace 11 = .ok (.isub, 1) := by decide +kernel
theorem dX0_leftForPlace_12 : decode cX0_leftForPlace 12 = .ok (.invokevirtual 138, 3) := by decide +kernel
theorem dX0_leftForPlace_15 : decode cX0_leftForPlace 15 = .ok (.ireturn, 1) := by decide +kernel
set_option maxRecDepth 20000 in
theorem ggX0_rightForPlace_X0_seenAt : GoodIn wsX0_rightForPlace wsX0_seenAt := goodIn_r _ [7, 8, 9, 10, 11, 6, 12, 13, 14, 15, 16, 17, 18, 19, 28, 29, 30, 31, 32, 33, 34, 35, 36, 37, 38, 39] (by decide +kernel) (by decide +kernel)
set_option maxRecDepth 20000 in
theorem gX0_rightForPlace_X0_seenAt : GoodIn wsX0_rightForPlace (wsV RX0 138 RX0 yX0_seenAt wsX0_seenAt) := goodIn_app (goodIn_of _ (by decide +kernel)) ggX0_rightForPlace_X0_seenAt
set_option maxRecDepth 20000 in
theorem ggX0_rightForPlace_X0_leftForPlace : GoodIn wsX0_rightForPlace wsX0_leftForPlace := goodIn_r _ [23, 3, 4, 5, 6, 7, 8, 9, 10, 11, 12, 13, 14, 15, 16, 17, 18, 19, 28, 29, 30, 31, 32, 33, 34, 35, 36, 37, 38, 39] (by decide +kernel) (by decide +kernel)
set_option maxRecDepth 20000 in
theorem gX0_rightForPlace_X0_leftForPlace : GoodIn wsX0_rightForPlace (wsV RX0 141 RX0 yX0_leftForPlace wsX0_leftForPlace) := goodIn_app (goodIn_of _ (by decide +kernel)) ggX0_rightForPlace_X0_leftForPlace
set_option maxRecDepth 20000 in
theorem ggX0_rightForPlace_X0_placeOf : GoodIn wsX0_rightForPlace wsX0_placeOf := goodIn_r _ [27, 18, 8, 28, 29, 30, 31, 32, 33, 34, 35, 36, 37, 38, 39] (by decide +kernel) (by decide +kernel)
set_option maxRecDepth 20000 in
theorem gX0_rightForPlace_X0_placeOf : GoodIn wsX0_rightForPlace (wsV RX0 94 RX0 yX0_placeOf wsX0_placeOf) := goodIn_app (goodIn_of _ (by decide +kernel)) ggX0_rightForPlace_X0_placeOf
set_option maxRecDepth 20000 in
theorem ggX0_rightForPlace_X0_characterAt : GoodIn wsX0_rightForPlace wsX0_characterAt := goodIn_r _ [12, 8, 13, 28, 29, 30, 31, 32, 33, 34, 35, 36, 37, 38, 39] (by decide +kernel) (by decide +kernel)
set_option maxRecDepth 20000 in
theorem gX0_rightForPlace_X0_characterAt : GoodIn wsX0_rightForPlace (wsV RX0 128 RX0 yX0_characterAt wsX0_characterAt) := goodIn_app (goodIn_of _ (by decide +kernel)) ggX0_rightForPlace_X0_characterAt
theorem dX0_rightForPlace_0 : decode cX0_rightForPlace 0 = .ok (.aload_n 0, 1) := by decide +kernel
theorem dX0_rightForPlace_1 : decode cX0_rightForPlace 1 = .ok (.getfield 9, 3) := by decide +kernel
theorem dX0_rightForPlace_4 : decode cX0_rightForPlace 4 = .ok (.getfield 106, 3) := by decide +kernel
theorem dX0_rightForPlace_7 : decode cX0_rightForPlace 7 = .ok (.ifCond .eq 11, 3) := by decide +kernel
theorem dX0_rightForPlace_10 : decode cX0_rightForPlace 10 = .ok (.aload_n 0, 1) := by decide +kernel
theorem dX0_rightForPlace_11 : decode cX0_rightForPlace 11 = .ok (.iload_n 1, 1) := by decide +kernel
theorem dX0_rightForPlace_12 : decode cX0_rightForPlace 12 = .ok (.invokevirtual 138, 3) := by decide +kernel
theorem dX0_rightForPlace_15 : decode cX0_rightForPlace 15 = .ok (.goto 18, 3) := by decide +kernel
theorem dX0_rightForPlace_18 : decode cX0_rightForPlace 18 = .ok (.aload_n 0, 1) := by decide +kernel
theorem dX0_rightForPlace_19 : decode cX0_rightForPlace 19 = .ok (.aload_n 0, 1) := by decide +kernel
theorem dX0_rightForPlace_20 : decode cX0_rightForPlace 20 = .ok (.aload_n 0, 1) := by decide +kernel
theorem dX0_rightForPlace_21 : decode cX0_rightForPlace 21 = .ok (.iload_n 1, 1) := by decide +kernel
theorem dX0_rightForPlace_22 : decode cX0_rightForPlace 22 = .ok (.invokevirtual 141, 3) := by decide +kernel
theorem dX0_rightForPlace_25 : decode cX0_rightForPlace 25 = .ok (.invokevirtual 94, 3) := by decide +kernel
theorem dX0_rightForPlace_28 : decode cX0_rightForPlace 28 = .ok (.iconst 1, 1) := by decide +kernel
theorem dX0_rightForPlace_29 : decode cX0_rightForPlace 29 = .ok (.iadd, 1) := by decide +kernel
theorem dX0_rightForPlace_30 : decode cX0_rightForPlace 30 = .ok (.invokevirtual 128, 3) := by decide +kernel
theorem dX0_rightForPlace_33 : decode cX0_rightForPlace 33 = .ok (.ireturn, 1) := by decide +kernel
set_option maxRecDepth 20000 in
theorem ggX0_seenAt_X0_characterAt : GoodIn wsX0_seenAt wsX0_characterAt := goodIn_r _ [6, 1, 7, 14, 15, 16, 17, 18, 19, 20, 21, 22, 23, 24, 25] (by decide +kernel) (by decide +kernel)
set_option maxRecDepth 20000 in
theorem gX0_seenAt_X0_characterAt : GoodIn wsX0_seenAt (wsV RX0 128 RX0 yX0_characterAt wsX0_characterAt) := goodIn_app (goodIn_of _ (by decide +kernel)) ggX0_seenAt_X0_characterAt
set_option maxRecDepth 20000 in
theorem ggX0_seenAt_X0_isSeen : GoodIn wsX0_seenAt wsX0_isSeen := goodIn_r _ [11, 12, 13, 14, 15, 16, 17, 18, 19, 20, 21, 22, 23, 24, 25] (by decide +kernel) (by decide +kernel)
set_option maxRecDepth 20000 in
theorem gX0_seenAt_X0_isSeen : GoodIn wsX0_seenAt (wsV RX0 119 RX0 yX0_isSeen wsX0_isSeen) := goodIn_app (goodIn_of _ (by decide +kernel)) ggX0_seenAt_X0_isSeen
theorem dX0_seenAt_0 : decode cX0_seenAt 0 = .ok (.iconst 0, 1) := by decide +kernel
theorem dX0_seenAt_1 : decode cX0_seenAt 1 = .ok (.istore_n 2, 1) := by decide +kernel
theorem dX0_seenAt_2 : decode cX0_seenAt 2 = .ok (.iconst 0, 1) := by decide +kernel
theorem dX0_seenAt_3 : decode cX0_seenAt 3 = .ok (.istore_n 3, 1) := by decide +kernel
theorem dX0_seenAt_4 : decode cX0_seenAt 4 = .ok (.iload_n 3, 1) := by decide +kernel
theorem dX0_seenAt_5 : decode cX0_seenAt 5 = .ok (.aload_n 0, 1) := by decide +kernel
theorem dX0_seenAt_6 : decode cX0_seenAt 6 = .ok (.getfield 32, 3) := by decide +kernel
theorem dX0_seenAt_9 : decode cX0_seenAt 9 = .ok (.if_icmp .ge 36, 3) := by decide +kernel
theorem dX0_seenAt_12 : decode cX0_seenAt 12 = .ok (.aload_n 0, 1) := by decide +kernel
theorem dX0_seenAt_13 : decode cX0_seenAt 13 = .ok (.iload_n 3, 1) := by decide +kernel
theorem dX0_seenAt_14 : decode cX0_seenAt 14 = .ok (.invokevirtual 128, 3) := by decide +kernel
theorem dX0_seenAt_17 : decode cX0_seenAt 17 = .ok (.istore 4, 2) := by decide +kernel
theorem dX0_seenAt_19 : decode cX0_seenAt 19 = .ok (.aload_n 0, 1) := by decide +kernel
theorem dX0_seenAt_20 : decode cX0_seenAt 20 = .ok (.iload 4, 2) := by decide +kernel
theorem dX0_seenAt_22 : decode cX0_seenAt 22 = .ok (.invokevirtual 119, 3) := by decide +kernel
theorem dX0_seenAt_25 : decode cX0_seenAt 25 = .ok (.ifCond .eq 14, 3) := by decide +kernel
theorem dX0_seenAt_28 : decode cX0_seenAt 28 = .ok (.iload_n 2, 1) := by decide +kernel
theorem dX0_seenAt_29 : decode cX0_seenAt 29 = .ok (.iload_n 1, 1) := by decide +kernel
theorem dX0_seenAt_30 : decode cX0_seenAt 30 = .ok (.if_icmp .ne 6, 3) := by decide +kernel
theorem dX0_seenAt_33 : decode cX0_seenAt 33 = .ok (.iload 4, 2) := by decide +kernel
theorem dX0_seenAt_35 : decode cX0_seenAt 35 = .ok (.ireturn, 1) := by decide +kernel
theorem dX0_seenAt_36 : decode cX0_seenAt 36 = .ok (.iinc 2 1, 3) := by decide +kernel
theorem dX0_seenAt_39 : decode cX0_seenAt 39 = .ok (.iinc 3 1, 3) := by decide +kernel
theorem dX0_seenAt_42 : decode cX0_seenAt 42 = .ok (.goto (-38), 3) := by decide +kernel
theorem dX0_seenAt_45 : decode cX0_seenAt 45 = .ok (.bipush 60, 2) := by decide +kernel
theorem dX0_seenAt_47 : decode cX0_seenAt 47 = .ok (.ireturn, 1) := by decide +kernel
theorem dX0_characterAt_0 : decode cX0_characterAt 0 = .ok (.iload_n 1, 1) := by decide +kernel
theorem dX0_characterAt_1 : decode cX0_characterAt 1 = .ok (.ifCond .lt 26, 3) := by decide +kernel
theorem dX0_characterAt_4 : decode cX0_characterAt 4 = .ok (.iload_n 1, 1) := by decide +kernel
theorem dX0_characterAt_5 : decode cX0_characterAt 5 = .ok (.aload_n 0, 1) := by decide +kernel
theorem dX0_characterAt_6 : decode cX0_characterAt 6 = .ok (.getfield 32, 3) := by decide +kernel
theorem dX0_characterAt_9 : decode cX0_characterAt 9 = .ok (.if_icmp .ge 18, 3) := by decide +kernel
theorem dX0_characterAt_12 : decode cX0_characterAt 12 = .ok (.iload_n 1, 1) := by decide +kernel
theorem dX0_characterAt_13 : decode cX0_characterAt 13 = .ok (.bipush 60, 2) := by decide +kernel
theorem dX0_characterAt_15 : decode cX0_characterAt 15 = .ok (.if_icmp .ge 12, 3) := by decide +kernel
theorem dX0_characterAt_18 : decode cX0_characterAt 18 = .ok (.aload_n 0, 1) := by decide +kernel
theorem dX0_characterAt_19 : decode cX0_characterAt 19 = .ok (.getfield 15, 3) := by decide +kernel
theorem dX0_characterAt_22 : decode cX0_characterAt 22 = .ok (.iload_n 1, 1) := by decide +kernel
theorem dX0_characterAt_23 : decode cX0_characterAt 23 = .ok (.iaload, 1) := by decide +kernel
theorem dX0_characterAt_24 : decode cX0_characterAt 24 = .ok (.goto 5, 3) := by decide +kernel
theorem dX0_characterAt_27 : decode cX0_characterAt 27 = .ok (.bipush 60, 2) := by decide +kernel
theorem dX0_characterAt_29 : decode cX0_characterAt 29 = .ok (.ireturn, 1) := by decide +kernel
theorem dX0_placeOf_0 : decode cX0_placeOf 0 = .ok (.iload_n 1, 1) := by decide +kernel
theorem dX0_placeOf_1 : decode cX0_placeOf 1 = .ok (.ifCond .ge 5, 3) := by decide +kernel
theorem dX0_placeOf_4 : decode cX0_placeOf 4 = .ok (.iconst (-1), 1) := by decide +kernel
theorem dX0_placeOf_5 : decode cX0_placeOf 5 = .ok (.ireturn, 1) := by decide +kernel
theorem dX0_placeOf_6 : decode cX0_placeOf 6 = .ok (.iload_n 1, 1) := by decide +kernel
theorem dX0_placeOf_7 : decode cX0_placeOf 7 = .ok (.bipush 60, 2) := by decide +kernel
theorem dX0_placeOf_9 : decode cX0_placeOf 9 = .ok (.if_icmp .ge 12, 3) := by decide +kernel
theorem dX0_placeOf_12 : decode cX0_placeOf 12 = .ok (.aload_n 0, 1) := by decide +kernel
theorem dX0_placeOf_13 : decode cX0_placeOf 13 = .ok (.getfield 19, 3) := by decide +kernel
theorem dX0_placeOf_16 : decode cX0_placeOf 16 = .ok (.iload_n 1, 1) := by decide +kernel
theorem dX0_placeOf_17 : decode cX0_placeOf 17 = .ok (.iaload, 1) := by decide +kernel
theorem dX0_placeOf_18 : decode cX0_placeOf 18 = .ok (.goto 7, 3) := by decide +kernel
theorem dX0_placeOf_21 : decode cX0_placeOf 21 = .ok (.aload_n 0, 1) := by decide +kernel
theorem dX0_placeOf_22 : decode cX0_placeOf 22 = .ok (.getfield 32, 3) := by decide +kernel
theorem dX0_placeOf_25 : decode cX0_placeOf 25 = .ok (.ireturn, 1) := by decide +kernel
theorem dX0_setPlace_0 : decode cX0_setPlace 0 = .ok (.iload_n 1, 1) := by decide +kernel
theorem dX0_setPlace_1 : decode cX0_setPlace 1 = .ok (.ifCond .lt 16, 3) := by decide +kernel
theorem dX0_setPlace_4 : decode cX0_setPlace 4 = .ok (.iload_n 1, 1) := by decide +kernel
theorem dX0_setPlace_5 : decode cX0_setPlace 5 = .ok (.bipush 60, 2) := by decide +kernel
theorem dX0_setPlace_7 : decode cX0_setPlace 7 = .ok (.if_icmp .ge 10, 3) := by decide +kernel
theorem dX0_setPlace_10 : decode cX0_setPlace 10 = .ok (.aload_n 0, 1) := by decide +kernel
theorem dX0_setPlace_11 : decode cX0_setPlace 11 = .ok (.getfield 19, 3) := by decide +kernel
theorem dX0_setPlace_14 : decode cX0_setPlace 14 = .ok (.iload_n 1, 1) := by decide +kernel
theorem dX0_setPlace_15 : decode cX0_setPlace 15 = .ok (.iload_n 2, 1) := by decide +kernel
theorem dX0_setPlace_16 : decode cX0_setPlace 16 = .ok (.iastore, 1) := by decide +kernel
theorem dX0_setPlace_17 : decode cX0_setPlace 17 = .ok (.return_, 1) := by decide +kernel
theorem dX0_isSeen_0 : decode cX0_isSeen 0 = .ok (.iload_n 1, 1) := by decide +kernel
theorem dX0_isSeen_1 : decode cX0_isSeen 1 = .ok (.ifCond .lt 33, 3) := by decide +kernel
theorem dX0_isSeen_4 : decode cX0_isSeen 4 = .ok (.iload_n 1, 1) := by decide +kernel
theorem dX0_isSeen_5 : decode cX0_isSeen 5 = .ok (.bipush 60, 2) := by decide +kernel
theorem dX0_isSeen_7 : decode cX0_isSeen 7 = .ok (.if_icmp .ge 27, 3) := by decide +kernel
theorem dX0_isSeen_10 : decode cX0_isSeen 10 = .ok (.aload_n 0, 1) := by decide +kernel
theorem dX0_isSeen_11 : decode cX0_isSeen 11 = .ok (.getfield 19, 3) := by decide +kernel
theorem dX0_isSeen_14 : decode cX0_isSeen 14 = .ok (.iload_n 1, 1) := by decide +kernel
theorem dX0_isSeen_15 : decode cX0_isSeen 15 = .ok (.iaload, 1) := by decide +kernel
theorem dX0_isSeen_16 : decode cX0_isSeen 16 = .ok (.bipush (-2), 2) := by decide +kernel
theorem dX0_isSeen_18 : decode cX0_isSeen 18 = .ok (.if_icmp .eq 16, 3) := by decide +kernel
theorem dX0_isSeen_21 : decode cX0_isSeen 21 = .ok (.aload_n 0, 1) := by decide +kernel
theorem dX0_isSeen_22 : decode cX0_isSeen 22 = .ok (.getfield 22, 3) := by decide +kernel
theorem dX0_isSeen_25 : decode cX0_isSeen 25 = .ok (.iload_n 1, 1) := by decide +kernel
theorem dX0_isSeen_26 : decode cX0_isSeen 26 = .ok (.baload, 1) := by decide +kernel
theorem dX0_isSeen_27 : decode cX0_isSeen 27 = .ok (.ifCond .ne 7, 3) := by decide +kernel
theorem dX0_isSeen_30 : decode cX0_isSeen 30 = .ok (.iconst 1, 1) := by decide +kernel
theorem dX0_isSeen_31 : decode cX0_isSeen 31 = .ok (.goto 4, 3) := by decide +kernel
theorem dX0_isSeen_34 : decode cX0_isSeen 34 = .ok (.iconst 0, 1) := by decide +kernel
theorem dX0_isSeen_35 : decode cX0_isSeen 35 = .ok (.ireturn, 1) := by decide +kernel
theorem dX0_stateOf_0 : decode cX0_stateOf 0 = .ok (.iload_n 1, 1) := by decide +kernel
theorem dX0_stateOf_1 : decode cX0_stateOf 1 = .ok (.ifCond .lt 19, 3) := by decide +kernel
theorem dX0_stateOf_4 : decode cX0_stateOf 4 = .ok (.iload_n 1, 1) := by decide +kernel
theorem dX0_stateOf_5 : decode cX0_stateOf 5 = .ok (.sipush 160, 3) := by decide +kernel
theorem dX0_stateOf_8 : decode cX0_stateOf 8 = .ok (.if_icmp .ge 12, 3) := by decide +kernel
theorem dX0_stateOf_11 : decode cX0_stateOf 11 = .ok (.aload_n 0, 1) := by decide +kernel
theorem dX0_stateOf_12 : decode cX0_stateOf 12 = .ok (.getfield 26, 3) := by decide +kernel
theorem dX0_stateOf_15 : decode cX0_stateOf 15 = .ok (.iload_n 1, 1) := by decide +kernel
theorem dX0_stateOf_16 : decode cX0_stateOf 16 = .ok (.iaload, 1) := by decide +kernel
theorem dX0_stateOf_17 : decode cX0_stateOf 17 = .ok (.goto 4, 3) := by decide +kernel
theorem dX0_stateOf_20 : decode cX0_stateOf 20 = .ok (.iconst 0, 1) := by decide +kernel
theorem dX0_stateOf_21 : decode cX0_stateOf 21 = .ok (.ireturn, 1) := by decide +kernel
theorem dX0_setState_0 : decode cX0_setState 0 = .ok (.iload_n 1, 1) := by decide +kernel
theorem dX0_setState_1 : decode cX0_setState 1 = .ok (.ifCond .lt 17, 3) := by decide +kernel
theorem dX0_setState_4 : decode cX0_setState 4 = .ok (.iload_n 1, 1) := by decide +kernel
theorem dX0_setState_5 : decode cX0_setState 5 = .ok (.sipush 160, 3) := by decide +kernel
theorem dX0_setState_8 : decode cX0_setState 8 = .ok (.if_icmp .ge 10, 3) := by decide +kernel
theorem dX0_setState_11 : decode cX0_setState 11 = .ok (.aload_n 0, 1) := by decide +kernel
theorem dX0_setState_12 : decode cX0_setState 12 = .ok (.getfield 26, 3) := by decide +kernel
theorem dX0_setState_15 : decode cX0_setState 15 = .ok (.iload_n 1, 1) := by decide +kernel
theorem dX0_setState_16 : decode cX0_setState 16 = .ok (.iload_n 2, 1) := by decide +kernel
theorem dX0_setState_17 : decode cX0_setState 17 = .ok (.iastore, 1) := by decide +kernel
theorem dX0_setState_18 : decode cX0_setState 18 = .ok (.return_, 1) := by decide +kernel
set_option maxRecDepth 20000 in
theorem ggX0_isLike_X0_characterAt : GoodIn wsX0_isLike wsX0_characterAt := goodIn_r _ [6, 1, 7, 14, 15, 16, 17, 18, 19, 20, 21, 22, 23, 24, 25] (by decide +kernel) (by decide +kernel)
set_option maxRecDepth 20000 in
theorem gX0_isLike_X0_characterAt : GoodIn wsX0_isLike (wsV RX0 128 RX0 yX0_characterAt wsX0_characterAt) := goodIn_app (goodIn_of _ (by decide +kernel)) ggX0_isLike_X0_characterAt
set_option maxRecDepth 20000 in
theorem ggX0_isLike_X0_isSeen : GoodIn wsX0_isLike wsX0_isSeen := goodIn_r _ [11, 12, 13, 14, 15, 16, 17, 18, 19, 20, 21, 22, 23, 24, 25] (by decide +kernel) (by decide +kernel)
set_option maxRecDepth 20000 in
theorem gX0_isLike_X0_isSeen : GoodIn wsX0_isLike (wsV RX0 119 RX0 yX0_isSeen wsX0_isSeen) := goodIn_app (goodIn_of _ (by decide +kernel)) ggX0_isLike_X0_isSeen
theorem dX0_isLike_0 : decode cX0_isLike 0 = .ok (.aload_n 1, 1) := by decide +kernel
theorem dX0_isLike_1 : decode cX0_isLike 1 = .ok (.ifnull 14, 3) := by decide +kernel
theorem dX0_isLike_4 : decode cX0_isLike 4 = .ok (.aload_n 0, 1) := by decide +kernel
theorem dX0_isLike_5 : decode cX0_isLike 5 = .ok (.getfield 32, 3) := by decide +kernel
theorem dX0_isLike_8 : decode cX0_isLike 8 = .ok (.aload_n 1, 1) := by decide +kernel
theorem dX0_isLike_9 : decode cX0_isLike 9 = .ok (.getfield 32, 3) := by decide +kernel
theorem dX0_isLike_12 : decode cX0_isLike 12 = .ok (.if_icmp .eq 5, 3) := by decide +kernel
theorem dX0_isLike_15 : decode cX0_isLike 15 = .ok (.iconst 0, 1) := by decide +kernel
theorem dX0_isLike_16 : decode cX0_isLike 16 = .ok (.ireturn, 1) := by decide +kernel
theorem dX0_isLike_17 : decode cX0_isLike 17 = .ok (.iconst 0, 1) := by decide +kernel
theorem dX0_isLike_18 : decode cX0_isLike 18 = .ok (.istore_n 2, 1) := by decide +kernel
theorem dX0_isLike_19 : decode cX0_isLike 19 = .ok (.iload_n 2, 1) := by decide +kernel
theorem dX0_isLike_20 : decode cX0_isLike 20 = .ok (.aload_n 0, 1) := by decide +kernel
theorem dX0_isLike_21 : decode cX0_isLike 21 = .ok (.getfield 32, 3) := by decide +kernel
theorem dX0_isLike_24 : decode cX0_isLike 24 = .ok (.if_icmp .ge 39, 3) := by decide +kernel
theorem dX0_isLike_27 : decode cX0_isLike 27 = .ok (.aload_n 0, 1) := by decide +kernel
theorem dX0_isLike_28 : decode cX0_isLike 28 = .ok (.iload_n 2, 1) := by decide +kernel
theorem dX0_isLike_29 : decode cX0_isLike 29 = .ok (.invokevirtual 128, 3) := by decide +kernel
theorem dX0_isLike_32 : decode cX0_isLike 32 = .ok (.istore_n 3, 1) := by decide +kernel
theorem dX0_isLike_33 : decode cX0_isLike 33 = .ok (.iload_n 3, 1) := by decide +kernel
theorem dX0_isLike_34 : decode cX0_isLike 34 = .ok (.aload_n 1, 1) := by decide +kernel
theorem dX0_isLike_35 : decode cX0_isLike 35 = .ok (.iload_n 2, 1) := by decide +kernel
theorem dX0_isLike_36 : decode cX0_isLike 36 = .ok (.invokevirtual 128, 3) := by decide +kernel
theorem dX0_isLike_39 : decode cX0_isLike 39 = .ok (.if_icmp .ne 16, 3) := by decide +kernel
theorem dX0_isLike_42 : decode cX0_isLike 42 = .ok (.aload_n 0, 1) := by decide +kernel
theorem dX0_isLike_43 : decode cX0_isLike 43 = .ok (.iload_n 3, 1) := by decide +kernel
theorem dX0_isLike_44 : decode cX0_isLike 44 = .ok (.invokevirtual 119, 3) := by decide +kernel
theorem dX0_isLike_47 : decode cX0_isLike 47 = .ok (.aload_n 1, 1) := by decide +kernel
theorem dX0_isLike_48 : decode cX0_isLike 48 = .ok (.iload_n 3, 1) := by decide +kernel
theorem dX0_isLike_49 : decode cX0_isLike 49 = .ok (.invokevirtual 119, 3) := by decide +kernel
theorem dX0_isLike_52 : decode cX0_isLike 52 = .ok (.if_icmp .eq 5, 3) := by decide +kernel
theorem dX0_isLike_55 : decode cX0_isLike 55 = .ok (.iconst 0, 1) := by decide +kernel
theorem dX0_isLike_56 : decode cX0_isLike 56 = .ok (.ireturn, 1) := by decide +kernel
theorem dX0_isLike_57 : decode cX0_isLike 57 = .ok (.iinc 2 1, 3) := by decide +kernel
theorem dX0_isLike_60 : decode cX0_isLike 60 = .ok (.goto (-41), 3) := by decide +kernel
theorem dX0_isLike_63 : decode cX0_isLike 63 = .ok (.iconst 1, 1) := by decide +kernel
theorem dX0_isLike_64 : decode cX0_isLike 64 = .ok (.ireturn, 1) := by decide +kernel
theorem dX1_init_0 : decode cX1_init 0 = .ok (.aload_n 0, 1) := by decide +kernel
theorem dX1_init_1 : decode cX1_init 1 = .ok (.invokespecial 3, 3) := by decide +kernel
theorem dX1_init_4 : decode cX1_init 4 = .ok (.aload_n 0, 1) := by decide +kernel
theorem dX1_init_5 : decode cX1_init 5 = .ok (.sipush 4096, 3) := by decide +kernel
theorem dX1_init_8 : decode cX1_init 8 = .ok (.newarray .long, 2) := by decide +kernel
theorem dX1_init_10 : decode cX1_init 10 = .ok (.putfield 9, 3) := by decide +kernel
theorem dX1_init_13 : decode cX1_init 13 = .ok (.aload_n 0, 1) := by decide +kernel
theorem dX1_init_14 : decode cX1_init 14 = .ok (.bipush 12, 2) := by decide +kernel
theorem dX1_init_16 : decode cX1_init 16 = .ok (.newarray .int, 2) := by decide +kernel
theorem dX1_init_18 : decode cX1_init 18 = .ok (.putfield 15, 3) := by decide +kernel
theorem dX1_init_21 : decode cX1_init 21 = .ok (.return_, 1) := by decide +kernel
set_option maxRecDepth 20000 in
theorem ggX1_countOf_X1_weigh : GoodIn wsX1_countOf wsX1_weigh := goodIn_r _ [5, 6, 7, 8, 9, 10, 11, 12, 13, 14, 4, 15, 16, 17, 18, 19, 20, 21, 22, 23, 24, 25, 26, 27, 28, 29, 30, 31, 32, 33, 34, 35, 36, 37, 38, 39, 40, 41, 42, 43, 44, 45, 46, 47, 48, 49, 50, 51, 52, 53, 54, 55, 56, 57, 58, 59, 60, 61, 62, 63, 64, 65, 66, 67, 68, 69, 70, 71, 72, 73, 74, 75, 76, 77, 78, 79, 80, 81, 82, 83, 84] (by decide +kernel) (by decide +kernel)
set_option maxRecDepth 20000 in
theorem gX1_countOf_X1_weigh : GoodIn wsX1_countOf (wsV RX1 19 RX1 yX1_weigh wsX1_weigh) := goodIn_app (goodIn_of _ (by decide +kernel)) ggX1_countOf_X1_weigh
set_option maxRecDepth 20000 in
theorem ggX1_countOf_X1_waysFrom : GoodIn wsX1_countOf wsX1_waysFrom := goodIn_r _ [53, 11, 70, 71] (by decide +kernel) (by decide +kernel)
set_option maxRecDepth 20000 in
theorem gX1_countOf_X1_waysFrom : GoodIn wsX1_countOf (wsV RX1 23 RX1 yX1_waysFrom wsX1_waysFrom) := goodIn_app (goodIn_of _ (by decide +kernel)) ggX1_countOf_X1_waysFrom
theorem dX1_countOf_0 : decode cX1_countOf 0 = .ok (.aload_n 0, 1) := by decide +kernel
theorem dX1_countOf_1 : decode cX1_countOf 1 = .ok (.aload_n 1, 1) := by decide +kernel
theorem dX1_countOf_2 : decode cX1_countOf 2 = .ok (.invokevirtual 19, 3) := by decide +kernel
theorem dX1_countOf_5 : decode cX1_countOf 5 = .ok (.aload_n 0, 1) := by decide +kernel
theorem dX1_countOf_6 : decode cX1_countOf 6 = .ok (.iconst 0, 1) := by decide +kernel
theorem dX1_countOf_7 : decode cX1_countOf 7 = .ok (.invokevirtual 23, 3) := by decide +kernel
theorem dX1_countOf_10 : decode cX1_countOf 10 = .ok (.lreturn, 1) := by decide +kernel
set_option maxRecDepth 20000 in
theorem ggX1_rankOf_X1_weigh : GoodIn wsX1_rankOf wsX1_weigh := goodIn_r _ [11, 1, 2, 3, 4, 5, 12, 13, 14, 15, 10, 16, 17, 6, 18, 19, 20, 21, 22, 23, 24, 25, 26, 27, 28, 29, 30, 31, 32, 33, 34, 35, 36, 37, 38, 39, 40, 41, 42, 43, 44, 45, 46, 47, 48, 49, 50, 51, 52, 53, 54, 55, 56, 57, 63, 64, 65, 66, 67, 68, 69, 70, 71, 72, 73, 74, 75, 76, 77, 78, 79, 80, 81, 82, 83, 84, 85, 86, 87, 88, 89] (by decide +kernel) (by decide +kernel)
set_option maxRecDepth 20000 in
theorem gX1_rankOf_X1_weigh : GoodIn wsX1_rankOf (wsV RX1 19 RX1 yX1_weigh wsX1_weigh) := goodIn_app (goodIn_of _ (by decide +kernel)) ggX1_rankOf_X1_weigh
set_option maxRecDepth 20000 in
theorem ggX1_rankOf_X0_characterAt : GoodIn wsX1_rankOf wsX0_characterAt := goodIn_r _ [22, 23, 24, 63, 64, 65, 66, 67, 68, 69, 70, 71, 72, 73, 74] (by decide +kernel) (by decide +kernel)
set_option maxRecDepth 20000 in
theorem gX1_rankOf_X0_characterAt : GoodIn wsX1_rankOf (wsV RX1 43 RX0 yX0_characterAt wsX0_characterAt) := goodIn_app (goodIn_of _ (by decide +kernel)) ggX1_rankOf_X0_characterAt
set_option maxRecDepth 20000 in
theorem ggX1_rankOf_X2_markOf : GoodIn wsX1_rankOf wsX2_markOf := goodIn_r _ [61, 62, 31, 32, 33, 28, 34, 35, 77, 78, 79, 80, 81, 82, 83, 84, 85, 86, 87, 88, 89] (by decide +kernel) (by decide +kernel)
set_option maxRecDepth 20000 in
theorem gX1_rankOf_X2_markOf : GoodIn wsX1_rankOf (wsV RX1 47 RX2 yX2_markOf wsX2_markOf) := goodIn_app (goodIn_of _ (by decide +kernel)) ggX1_rankOf_X2_markOf
set_option maxRecDepth 20000 in
theorem ggX1_rankOf_X1_waysFrom : GoodIn wsX1_rankOf wsX1_waysFrom := goodIn_r _ [53, 12, 75, 76] (by decide +kernel) (by decide +kernel)
set_option maxRecDepth 20000 in
theorem gX1_rankOf_X1_waysFrom : GoodIn wsX1_rankOf (wsV RX1 23 RX1 yX1_waysFrom wsX1_waysFrom) := goodIn_app (goodIn_of _ (by decide +kernel)) ggX1_rankOf_X1_waysFrom
theorem dX1_rankOf_0 : decode cX1_rankOf 0 = .ok (.aload_n 0, 1) := by decide +kernel
theorem dX1_rankOf_1 : decode cX1_rankOf 1 = .ok (.aload_n 1, 1) := by decide +kernel
theorem dX1_rankOf_2 : decode cX1_rankOf 2 = .ok (.invokevirtual 19, 3) := by decide +kernel
theorem dX1_rankOf_5 : decode cX1_rankOf 5 = .ok (.aload_n 1, 1) := by decide +kernel
theorem dX1_rankOf_6 : decode cX1_rankOf 6 = .ok (.getfield 27, 3) := by decide +kernel
theorem dX1_rankOf_9 : decode cX1_rankOf 9 = .ok (.bipush 12, 2) := by decide +kernel
theorem dX1_rankOf_11 : decode cX1_rankOf 11 = .ok (.invokestatic 33, 3) := by decide +kernel
theorem dX1_rankOf_14 : decode cX1_rankOf 14 = .ok (.istore_n 2, 1) := by decide +kernel
theorem dX1_rankOf_15 : decode cX1_rankOf 15 = .ok (.lconst 0, 1) := by decide +kernel
theorem dX1_rankOf_16 : decode cX1_rankOf 16 = .ok (.lstore_n 3, 1) := by decide +kernel
theorem dX1_rankOf_17 : decode cX1_rankOf 17 = .ok (.iconst 0, 1) := by decide +kernel
theorem dX1_rankOf_18 : decode cX1_rankOf 18 = .ok (.istore 5, 2) := by decide +kernel
theorem dX1_rankOf_20 : decode cX1_rankOf 20 = .ok (.iload 5, 2) := by decide +kernel
theorem dX1_rankOf_22 : decode cX1_rankOf 22 = .ok (.iload_n 2, 1) := by decide +kernel
theorem dX1_rankOf_23 : decode cX1_rankOf 23 = .ok (.if_icmp .ge 82, 3) := by decide +kernel
theorem dX1_rankOf_26 : decode cX1_rankOf 26 = .ok (.iconst 1, 1) := by decide +kernel
theorem dX1_rankOf_27 : decode cX1_rankOf 27 = .ok (.iload 5, 2) := by decide +kernel
theorem dX1_rankOf_29 : decode cX1_rankOf 29 = .ok (.ishl, 1) := by decide +kernel
theorem dX1_rankOf_30 : decode cX1_rankOf 30 = .ok (.iconst 1, 1) := by decide +kernel
theorem dX1_rankOf_31 : decode cX1_rankOf 31 = .ok (.isub, 1) := by decide +kernel
theorem dX1_rankOf_32 : decode cX1_rankOf 32 = .ok (.istore 6, 2) := by decide +kernel
theorem dX1_rankOf_34 : decode cX1_rankOf 34 = .ok (.aload_n 1, 1) := by decide +kernel
theorem dX1_rankOf_35 : decode cX1_rankOf 35 = .ok (.getfield 39, 3) := by decide +kernel
theorem dX1_rankOf_38 : decode cX1_rankOf 38 = .ok (.aload_n 1, 1) := by decide +kernel
theorem dX1_rankOf_39 : decode cX1_rankOf 39 = .ok (.iload 5, 2) := by decide +kernel
theorem dX1_rankOf_41 : decode cX1_rankOf 41 = .ok (.invokevirtual 43, 3) := by decide +kernel
theorem dX1_rankOf_44 : decode cX1_rankOf 44 = .ok (.invokevirtual 47, 3) := by decide +kernel
theorem dX1_rankOf_47 : decode cX1_rankOf 47 = .ok (.istore 7, 2) := by decide +kernel
theorem dX1_rankOf_49 : decode cX1_rankOf 49 = .ok (.iload 5, 2) := by decide +kernel
theorem dX1_rankOf_51 : decode cX1_rankOf 51 = .ok (.iconst 1, 1) := by decide +kernel
theorem dX1_rankOf_52 : decode cX1_rankOf 52 = .ok (.iadd, 1) := by decide +kernel
theorem dX1_rankOf_53 : decode cX1_rankOf 53 = .ok (.istore 8, 2) := by decide +kernel
theorem dX1_rankOf_55 : decode cX1_rankOf 55 = .ok (.iload 8, 2) := by decide +kernel
theorem dX1_rankOf_57 : decode cX1_rankOf 57 = .ok (.iload_n 2, 1) := by decide +kernel
theorem dX1_rankOf_58 : decode cX1_rankOf 58 = .ok (.if_icmp .ge 41, 3) := by decide +kernel
theorem dX1_rankOf_61 : decode cX1_rankOf 61 = .ok (.aload_n 1, 1) := by decide +kernel
theorem dX1_rankOf_62 : decode cX1_rankOf 62 = .ok (.getfield 39, 3) := by decide +kernel
theorem dX1_rankOf_65 : decode cX1_rankOf 65 = .ok (.aload_n 1, 1) := by decide +kernel
theorem dX1_rankOf_66 : decode cX1_rankOf 66 = .ok (.iload 8, 2) := by decide +kernel
theorem dX1_rankOf_68 : decode cX1_rankOf 68 = .ok (.invokevirtual 43, 3) := by decide +kernel
theorem dX1_rankOf_71 : decode cX1_rankOf 71 = .ok (.invokevirtual 47, 3) := by decide +kernel
theorem dX1_rankOf_74 : decode cX1_rankOf 74 = .ok (.iload 7, 2) := by decide +kernel
theorem dX1_rankOf_76 : decode cX1_rankOf 76 = .ok (.if_icmp .ge 17, 3) := by decide +kernel
theorem dX1_rankOf_79 : decode cX1_rankOf 79 = .ok (.lload_n 3, 1) := by decide +kernel
theorem dX1_rankOf_80 : decode cX1_rankOf 80 = .ok (.aload_n 0, 1) := by decide +kernel
theorem dX1_rankOf_81 : decode cX1_rankOf 81 = .ok (.iload 6, 2) := by decide +kernel
theorem dX1_rankOf_83 : decode cX1_rankOf 83 = .ok (.iconst 1, 1) := by decide +kernel
theorem dX1_rankOf_84 : decode cX1_rankOf 84 = .ok (.iload 8, 2) := by decide +kernel
theorem dX1_rankOf_86 : decode cX1_rankOf 86 = .ok (.ishl, 1) := by decide +kernel
theorem dX1_rankOf_87 : decode cX1_rankOf 87 = .ok (.ior, 1) := by decide +kernel
theorem dX1_rankOf_88 : decode cX1_rankOf 88 = .ok (.invokevirtual 23, 3) := by decide +kernel
theorem dX1_rankOf_91 : decode cX1_rankOf 91 = .ok (.ladd, 1) := by decide +kernel
theorem dX1_rankOf_92 : decode cX1_rankOf 92 = .ok (.lstore_n 3, 1) := by decide +kernel
theorem dX1_rankOf_93 : decode cX1_rankOf 93 = .ok (.iinc 8 1, 3) := by decide +kernel
theorem dX1_rankOf_96 : decode cX1_rankOf 96 = .ok (.goto (-41), 3) := by decide +kernel
theorem dX1_rankOf_99 : decode cX1_rankOf 99 = .ok (.iinc 5 1, 3) := by decide +kernel
theorem dX1_rankOf_102 : decode cX1_rankOf 102 = .ok (.goto (-82), 3) := by decide +kernel
theorem dX1_rankOf_105 : decode cX1_rankOf 105 = .ok (.lload_n 3, 1) := by decide +kernel
theorem dX1_rankOf_106 : decode cX1_rankOf 106 = .ok (.lreturn, 1) := by decide +kernel
theorem dX1_waysFrom_0 : decode cX1_waysFrom 0 = .ok (.iload_n 1, 1) := by decide +kernel
theorem dX1_waysFrom_1 : decode cX1_waysFrom 1 = .ok (.ifCond .lt 21, 3) := by decide +kernel
theorem dX1_waysFrom_4 : decode cX1_waysFrom 4 = .ok (.iload_n 1, 1) := by decide +kernel
theorem dX1_waysFrom_5 : decode cX1_waysFrom 5 = .ok (.aload_n 0, 1) := by decide +kernel
theorem dX1_waysFrom_6 : decode cX1_waysFrom 6 = .ok (.getfield 9, 3) := by decide +kernel
theorem dX1_waysFrom_9 : decode cX1_waysFrom 9 = .ok (.arraylength, 1) := by decide +kernel
theorem dX1_waysFrom_10 : decode cX1_waysFrom 10 = .ok (.if_icmp .ge 12, 3) := by decide +kernel
theorem dX1_waysFrom_13 : decode cX1_waysFrom 13 = .ok (.aload_n 0, 1) := by decide +kernel
theorem dX1_waysFrom_14 : decode cX1_waysFrom 14 = .ok (.getfield 9, 3) := by decide +kernel
theorem dX1_waysFrom_17 : decode cX1_waysFrom 17 = .ok (.iload_n 1, 1) := by decide +kernel
theorem dX1_waysFrom_18 : decode cX1_waysFrom 18 = .ok (.laload, 1) := by decide +kernel
theorem dX1_waysFrom_19 : decode cX1_waysFrom 19 = .ok (.goto 4, 3) := by decide +kernel
theorem dX1_waysFrom_22 : decode cX1_waysFrom 22 = .ok (.lconst 0, 1) := by decide +kernel
theorem dX1_waysFrom_23 : decode cX1_waysFrom 23 = .ok (.lreturn, 1) := by decide +kernel
set_option maxRecDepth 20000 in
theorem ggX1_weigh_X1_listFollowers : GoodIn wsX1_weigh wsX1_listFollowers := goodIn_r _ [11, 12, 13, 14, 15, 16, 17, 18, 19, 20, 21, 22, 23, 24, 25, 26, 27, 28, 29, 30, 31, 32, 33, 34, 35, 36, 37, 38, 39, 10, 40, 41, 42, 43, 44, 45, 66, 67, 54, 55, 56, 57, 58, 59, 60, 61, 62, 63, 64, 65, 68, 69, 70, 71, 72, 73, 74, 75, 76, 77, 78, 79, 80] (by decide +kernel) (by decide +kernel)
set_option maxRecDepth 20000 in
theorem gX1_weigh_X1_listFollowers : GoodIn wsX1_weigh (wsV RX1 52 RX1 yX1_listFollowers wsX1_listFollowers) := goodIn_app (goodIn_of _ (by decide +kernel)) ggX1_weigh_X1_listFollowers
set_option maxRecDepth 20000 in
theorem ggX1_weigh_X1_waysFrom : GoodIn wsX1_weigh wsX1_waysFrom := goodIn_r _ [49, 6, 66, 67] (by decide +kernel) (by decide +kernel)
set_option maxRecDepth 20000 in
theorem gX1_weigh_X1_waysFrom : GoodIn wsX1_weigh (wsV RX1 23 RX1 yX1_waysFrom wsX1_waysFrom) := goodIn_app (goodIn_of _ (by decide +kernel)) ggX1_weigh_X1_waysFrom
set_option maxRecDepth 20000 in
theorem ggX1_weigh_X1_handOn : GoodIn wsX1_weigh wsX1_handOn := goodIn_r _ [53, 12, 6, 46, 47, 48, 10, 49, 66, 67] (by decide +kernel) (by decide +kernel)
set_option maxRecDepth 20000 in
theorem gX1_weigh_X1_handOn : GoodIn wsX1_weigh (wsV RX1 56 RX1 yX1_handOn wsX1_handOn) := goodIn_app (goodIn_of _ (by decide +kernel)) ggX1_weigh_X1_handOn
theorem dX1_weigh_0 : decode cX1_weigh 0 = .ok (.aload_n 1, 1) := by decide +kernel
theorem dX1_weigh_1 : decode cX1_weigh 1 = .ok (.getfield 27, 3) := by decide +kernel
theorem dX1_weigh_4 : decode cX1_weigh 4 = .ok (.bipush 12, 2) := by decide +kernel
theorem dX1_weigh_6 : decode cX1_weigh 6 = .ok (.invokestatic 33, 3) := by decide +kernel
theorem dX1_weigh_9 : decode cX1_weigh 9 = .ok (.istore_n 2, 1) := by decide +kernel
theorem dX1_weigh_10 : decode cX1_weigh 10 = .ok (.iconst 1, 1) := by decide +kernel
theorem dX1_weigh_11 : decode cX1_weigh 11 = .ok (.iload_n 2, 1) := by decide +kernel
theorem dX1_weigh_12 : decode cX1_weigh 12 = .ok (.ishl, 1) := by decide +kernel
theorem dX1_weigh_13 : decode cX1_weigh 13 = .ok (.iconst 1, 1) := by decide +kernel
theorem dX1_weigh_14 : decode cX1_weigh 14 = .ok (.isub, 1) := by decide +kernel
theorem dX1_weigh_15 : decode cX1_weigh 15 = .ok (.istore_n 3, 1) := by decide +kernel
theorem dX1_weigh_16 : decode cX1_weigh 16 = .ok (.aload_n 0, 1) := by decide +kernel
theorem dX1_weigh_17 : decode cX1_weigh 17 = .ok (.aload_n 1, 1) := by decide +kernel
theorem dX1_weigh_18 : decode cX1_weigh 18 = .ok (.iload_n 2, 1) := by decide +kernel
theorem dX1_weigh_19 : decode cX1_weigh 19 = .ok (.invokevirtual 52, 3) := by decide +kernel
theorem dX1_weigh_22 : decode cX1_weigh 22 = .ok (.iconst 0, 1) := by decide +kernel
theorem dX1_weigh_23 : decode cX1_weigh 23 = .ok (.istore 4, 2) := by decide +kernel
theorem dX1_weigh_25 : decode cX1_weigh 25 = .ok (.iload 4, 2) := by decide +kernel
theorem dX1_weigh_27 : decode cX1_weigh 27 = .ok (.iload_n 3, 1) := by decide +kernel
theorem dX1_weigh_28 : decode cX1_weigh 28 = .ok (.if_icmp .gt 37, 3) := by decide +kernel
theorem dX1_weigh_31 : decode cX1_weigh 31 = .ok (.iload 4, 2) := by decide +kernel
theorem dX1_weigh_33 : decode cX1_weigh 33 = .ok (.aload_n 0, 1) := by decide +kernel
theorem dX1_weigh_34 : decode cX1_weigh 34 = .ok (.getfield 9, 3) := by decide +kernel
theorem dX1_weigh_37 : decode cX1_weigh 37 = .ok (.arraylength, 1) := by decide +kernel
theorem dX1_weigh_38 : decode cX1_weigh 38 = .ok (.if_icmp .ge 27, 3) := by decide +kernel
theorem dX1_weigh_41 : decode cX1_weigh 41 = .ok (.aload_n 0, 1) := by decide +kernel
theorem dX1_weigh_42 : decode cX1_weigh 42 = .ok (.getfield 9, 3) := by decide +kernel
theorem dX1_weigh_45 : decode cX1_weigh 45 = .ok (.iload 4, 2) := by decide +kernel
theorem dX1_weigh_47 : decode cX1_weigh 47 = .ok (.iload 4, 2) := by decide +kernel
theorem dX1_weigh_49 : decode cX1_weigh 49 = .ok (.iload_n 3, 1) := by decide +kernel
theorem dX1_weigh_50 : decode cX1_weigh 50 = .ok (.if_icmp .ne 7, 3) := by decide +kernel
theorem dX1_weigh_53 : decode cX1_weigh 53 = .ok (.lconst 1, 1) := by decide +kernel
theorem dX1_weigh_54 : decode cX1_weigh 54 = .ok (.goto 4, 3) := by decide +kernel
theorem dX1_weigh_57 : decode cX1_weigh 57 = .ok (.lconst 0, 1) := by decide +kernel
theorem dX1_weigh_58 : decode cX1_weigh 58 = .ok (.lastore, 1) := by decide +kernel
theorem dX1_weigh_59 : decode cX1_weigh 59 = .ok (.iinc 4 1, 3) := by decide +kernel
theorem dX1_weigh_62 : decode cX1_weigh 62 = .ok (.goto (-37), 3) := by decide +kernel
theorem dX1_weigh_65 : decode cX1_weigh 65 = .ok (.iload_n 3, 1) := by decide +kernel
theorem dX1_weigh_66 : decode cX1_weigh 66 = .ok (.istore 4, 2) := by decide +kernel
theorem dX1_weigh_68 : decode cX1_weigh 68 = .ok (.iload 4, 2) := by decide +kernel
theorem dX1_weigh_70 : decode cX1_weigh 70 = .ok (.ifCond .le 27, 3) := by decide +kernel
theorem dX1_weigh_73 : decode cX1_weigh 73 = .ok (.aload_n 0, 1) := by decide +kernel
theorem dX1_weigh_74 : decode cX1_weigh 74 = .ok (.iload 4, 2) := by decide +kernel
theorem dX1_weigh_76 : decode cX1_weigh 76 = .ok (.invokevirtual 23, 3) := by decide +kernel
theorem dX1_weigh_79 : decode cX1_weigh 79 = .ok (.lconst 0, 1) := by decide +kernel
theorem dX1_weigh_80 : decode cX1_weigh 80 = .ok (.lcmp, 1) := by decide +kernel
theorem dX1_weigh_81 : decode cX1_weigh 81 = .ok (.ifCond .eq 10, 3) := by decide +kernel
theorem dX1_weigh_84 : decode cX1_weigh 84 = .ok (.aload_n 0, 1) := by decide +kernel
theorem dX1_weigh_85 : decode cX1_weigh 85 = .ok (.iload 4, 2) := by decide +kernel
theorem dX1_weigh_87 : decode cX1_weigh 87 = .ok (.iload_n 2, 1) := by decide +kernel
theorem dX1_weigh_88 : decode cX1_weigh 88 = .ok (.invokevirtual 56, 3) := by decide +kernel
theorem dX1_weigh_91 : decode cX1_weigh 91 = .ok (.iinc 4 (-1), 3) := by decide +kernel
theorem dX1_weigh_94 : decode cX1_weigh 94 = .ok (.goto (-26), 3) := by decide +kernel
theorem dX1_weigh_97 : decode cX1_weigh 97 = .ok (.return_, 1) := by decide +kernel
set_option maxRecDepth 20000 in
theorem ggX1_listFollowers_X0_characterAt : GoodIn wsX1_listFollowers wsX0_characterAt := goodIn_r _ [7, 8, 9, 38, 39, 40, 41, 42, 43, 44, 45, 46, 47, 48, 49] (by decide +kernel) (by decide +kernel)
set_option maxRecDepth 20000 in
theorem gX1_listFollowers_X0_characterAt : GoodIn wsX1_listFollowers (wsV RX1 43 RX0 yX0_characterAt wsX0_characterAt) := goodIn_app (goodIn_of _ (by decide +kernel)) ggX1_listFollowers_X0_characterAt
set_option maxRecDepth 20000 in
theorem ggX1_listFollowers_X2_leftOf : GoodIn wsX1_listFollowers wsX2_leftOf := goodIn_r _ [14, 15, 16, 17, 18, 13, 19, 20, 50, 51, 52, 53, 54, 55, 56, 57, 58, 59, 60, 61, 62] (by decide +kernel) (by decide +kernel)
set_option maxRecDepth 20000 in
theorem gX1_listFollowers_X2_leftOf : GoodIn wsX1_listFollowers (wsV RX1 60 RX2 yX2_leftOf wsX2_leftOf) := goodIn_app (goodIn_of _ (by decide +kernel)) ggX1_listFollowers_X2_leftOf
set_option maxRecDepth 20000 in
theorem ggX1_listFollowers_X0_placeOf : GoodIn wsX1_listFollowers wsX0_placeOf := goodIn_r _ [24, 25, 8, 38, 39, 40, 41, 42, 43, 44, 45, 46, 47, 48, 49] (by decide +kernel) (by decide +kernel)
set_option maxRecDepth 20000 in
theorem gX1_listFollowers_X0_placeOf : GoodIn wsX1_listFollowers (wsV RX1 63 RX0 yX0_placeOf wsX0_placeOf) := goodIn_app (goodIn_of _ (by decide +kernel)) ggX1_listFollowers_X0_placeOf
set_option maxRecDepth 20000 in
theorem ggX1_listFollowers_X1_addFollower : GoodIn wsX1_listFollowers wsX1_addFollower := goodIn_r _ [30, 1, 36, 37] (by decide +kernel) (by decide +kernel)
set_option maxRecDepth 20000 in
theorem gX1_listFollowers_X1_addFollower : GoodIn wsX1_listFollowers (wsV RX1 66 RX1 yX1_addFollower wsX1_addFollower) := goodIn_app (goodIn_of _ (by decide +kernel)) ggX1_listFollowers_X1_addFollower
set_option maxRecDepth 20000 in
theorem ggX1_listFollowers_X2_rightOf : GoodIn wsX1_listFollowers wsX2_rightOf := goodIn_r _ [34, 35, 16, 17, 18, 13, 19, 20, 50, 51, 52, 53, 54, 55, 56, 57, 58, 59, 60, 61, 62] (by decide +kernel) (by decide +kernel)
set_option maxRecDepth 20000 in
theorem gX1_listFollowers_X2_rightOf : GoodIn wsX1_listFollowers (wsV RX1 70 RX2 yX2_rightOf wsX2_rightOf) := goodIn_app (goodIn_of _ (by decide +kernel)) ggX1_listFollowers_X2_rightOf
theorem dX1_listFollowers_0 : decode cX1_listFollowers 0 = .ok (.iconst 0, 1) := by decide +kernel
theorem dX1_listFollowers_1 : decode cX1_listFollowers 1 = .ok (.istore_n 3, 1) := by decide +kernel
theorem dX1_listFollowers_2 : decode cX1_listFollowers 2 = .ok (.iload_n 3, 1) := by decide +kernel
theorem dX1_listFollowers_3 : decode cX1_listFollowers 3 = .ok (.bipush 12, 2) := by decide +kernel
theorem dX1_listFollowers_5 : decode cX1_listFollowers 5 = .ok (.if_icmp .ge 16, 3) := by decide +kernel
theorem dX1_listFollowers_8 : decode cX1_listFollowers 8 = .ok (.aload_n 0, 1) := by decide +kernel
theorem dX1_listFollowers_9 : decode cX1_listFollowers 9 = .ok (.getfield 15, 3) := by decide +kernel
theorem dX1_listFollowers_12 : decode cX1_listFollowers 12 = .ok (.iload_n 3, 1) := by decide +kernel
theorem dX1_listFollowers_13 : decode cX1_listFollowers 13 = .ok (.iconst 0, 1) := by decide +kernel
theorem dX1_listFollowers_14 : decode cX1_listFollowers 14 = .ok (.iastore, 1) := by decide +kernel
theorem dX1_listFollowers_15 : decode cX1_listFollowers 15 = .ok (.iinc 3 1, 3) := by decide +kernel
theorem dX1_listFollowers_18 : decode cX1_listFollowers 18 = .ok (.goto (-16), 3) := by decide +kernel
theorem dX1_listFollowers_21 : decode cX1_listFollowers 21 = .ok (.iconst 0, 1) := by decide +kernel
theorem dX1_listFollowers_22 : decode cX1_listFollowers 22 = .ok (.istore_n 3, 1) := by decide +kernel
theorem dX1_listFollowers_23 : decode cX1_listFollowers 23 = .ok (.iload_n 3, 1) := by decide +kernel
theorem dX1_listFollowers_24 : decode cX1_listFollowers 24 = .ok (.iload_n 2, 1) := by decide +kernel
theorem dX1_listFollowers_25 : decode cX1_listFollowers 25 = .ok (.if_icmp .ge 54, 3) := by decide +kernel
theorem dX1_listFollowers_28 : decode cX1_listFollowers 28 = .ok (.aload_n 1, 1) := by decide +kernel
theorem dX1_listFollowers_29 : decode cX1_listFollowers 29 = .ok (.iload_n 3, 1) := by decide +kernel
theorem dX1_listFollowers_30 : decode cX1_listFollowers 30 = .ok (.invokevirtual 43, 3) := by decide +kernel
theorem dX1_listFollowers_33 : decode cX1_listFollowers 33 = .ok (.istore 4, 2) := by decide +kernel
theorem dX1_listFollowers_35 : decode cX1_listFollowers 35 = .ok (.aload_n 0, 1) := by decide +kernel
theorem dX1_listFollowers_36 : decode cX1_listFollowers 36 = .ok (.aload_n 1, 1) := by decide +kernel
theorem dX1_listFollowers_37 : decode cX1_listFollowers 37 = .ok (.aload_n 1, 1) := by decide +kernel
theorem dX1_listFollowers_38 : decode cX1_listFollowers 38 = .ok (.getfield 39, 3) := by decide +kernel
theorem dX1_listFollowers_41 : decode cX1_listFollowers 41 = .ok (.iload 4, 2) := by decide +kernel
theorem dX1_listFollowers_43 : decode cX1_listFollowers 43 = .ok (.invokevirtual 60, 3) := by decide +kernel
theorem dX1_listFollowers_46 : decode cX1_listFollowers 46 = .ok (.invokevirtual 63, 3) := by decide +kernel
theorem dX1_listFollowers_49 : decode cX1_listFollowers 49 = .ok (.iload_n 3, 1) := by decide +kernel
theorem dX1_listFollowers_50 : decode cX1_listFollowers 50 = .ok (.iload_n 2, 1) := by decide +kernel
theorem dX1_listFollowers_51 : decode cX1_listFollowers 51 = .ok (.invokevirtual 66, 3) := by decide +kernel
theorem dX1_listFollowers_54 : decode cX1_listFollowers 54 = .ok (.aload_n 0, 1) := by decide +kernel
theorem dX1_listFollowers_55 : decode cX1_listFollowers 55 = .ok (.iload_n 3, 1) := by decide +kernel
theorem dX1_listFollowers_56 : decode cX1_listFollowers 56 = .ok (.aload_n 1, 1) := by decide +kernel
theorem dX1_listFollowers_57 : decode cX1_listFollowers 57 = .ok (.aload_n 1, 1) := by decide +kernel
theorem dX1_listFollowers_58 : decode cX1_listFollowers 58 = .ok (.getfield 39, 3) := by decide +kernel
theorem dX1_listFollowers_61 : decode cX1_listFollowers 61 = .ok (.iload 4, 2) := by decide +kernel
theorem dX1_listFollowers_63 : decode cX1_listFollowers 63 = .ok (.invokevirtual 70, 3) := by decide +kernel
theorem dX1_listFollowers_66 : decode cX1_listFollowers 66 = .ok (.invokevirtual 63, 3) := by decide +kernel
theorem dX1_listFollowers_69 : decode cX1_listFollowers 69 = .ok (.iload_n 2, 1) := by decide +kernel
theorem dX1_listFollowers_70 : decode cX1_listFollowers 70 = .ok (.invokevirtual 66, 3) := by decide +kernel
theorem dX1_listFollowers_73 : decode cX1_listFollowers 73 = .ok (.iinc 3 1, 3) := by decide +kernel
theorem dX1_listFollowers_76 : decode cX1_listFollowers 76 = .ok (.goto (-53), 3) := by decide +kernel
theorem dX1_listFollowers_79 : decode cX1_listFollowers 79 = .ok (.return_, 1) := by decide +kernel
theorem dX1_addFollower_0 : decode cX1_addFollower 0 = .ok (.iload_n 1, 1) := by decide +kernel
theorem dX1_addFollower_1 : decode cX1_addFollower 1 = .ok (.ifCond .lt 35, 3) := by decide +kernel
theorem dX1_addFollower_4 : decode cX1_addFollower 4 = .ok (.iload_n 1, 1) := by decide +kernel
theorem dX1_addFollower_5 : decode cX1_addFollower 5 = .ok (.iload_n 3, 1) := by decide +kernel
theorem dX1_addFollower_6 : decode cX1_addFollower 6 = .ok (.if_icmp .ge 30, 3) := by decide +kernel
theorem dX1_addFollower_9 : decode cX1_addFollower 9 = .ok (.iload_n 1, 1) := by decide +kernel
theorem dX1_addFollower_10 : decode cX1_addFollower 10 = .ok (.bipush 12, 2) := by decide +kernel
theorem dX1_addFollower_12 : decode cX1_addFollower 12 = .ok (.if_icmp .ge 24, 3) := by decide +kernel
theorem dX1_addFollower_15 : decode cX1_addFollower 15 = .ok (.iload_n 2, 1) := by decide +kernel
theorem dX1_addFollower_16 : decode cX1_addFollower 16 = .ok (.ifCond .lt 20, 3) := by decide +kernel
theorem dX1_addFollower_19 : decode cX1_addFollower 19 = .ok (.iload_n 2, 1) := by decide +kernel
theorem dX1_addFollower_20 : decode cX1_addFollower 20 = .ok (.iload_n 3, 1) := by decide +kernel
theorem dX1_addFollower_21 : decode cX1_addFollower 21 = .ok (.if_icmp .ge 15, 3) := by decide +kernel
theorem dX1_addFollower_24 : decode cX1_addFollower 24 = .ok (.aload_n 0, 1) := by decide +kernel
theorem dX1_addFollower_25 : decode cX1_addFollower 25 = .ok (.getfield 15, 3) := by decide +kernel
theorem dX1_addFollower_28 : decode cX1_addFollower 28 = .ok (.iload_n 1, 1) := by decide +kernel
theorem dX1_addFollower_29 : decode cX1_addFollower 29 = .ok (.dup2, 1) := by decide +kernel
theorem dX1_addFollower_30 : decode cX1_addFollower 30 = .ok (.iaload, 1) := by decide +kernel
theorem dX1_addFollower_31 : decode cX1_addFollower 31 = .ok (.iconst 1, 1) := by decide +kernel
theorem dX1_addFollower_32 : decode cX1_addFollower 32 = .ok (.iload_n 2, 1) := by decide +kernel
theorem dX1_addFollower_33 : decode cX1_addFollower 33 = .ok (.ishl, 1) := by decide +kernel
theorem dX1_addFollower_34 : decode cX1_addFollower 34 = .ok (.ior, 1) := by decide +kernel
theorem dX1_addFollower_35 : decode cX1_addFollower 35 = .ok (.iastore, 1) := by decide +kernel
theorem dX1_addFollower_36 : decode cX1_addFollower 36 = .ok (.return_, 1) := by decide +kernel
set_option maxRecDepth 20000 in
theorem ggX1_handOn_X1_waysFrom : GoodIn wsX1_handOn wsX1_waysFrom := goodIn_r _ [7, 2, 8, 9] (by decide +kernel) (by decide +kernel)
set_option maxRecDepth 20000 in
theorem gX1_handOn_X1_waysFrom : GoodIn wsX1_handOn (wsV RX1 23 RX1 yX1_waysFrom wsX1_waysFrom) := goodIn_app (goodIn_of _ (by decide +kernel)) ggX1_handOn_X1_waysFrom
theorem dX1_handOn_0 : decode cX1_handOn 0 = .ok (.iconst 0, 1) := by decide +kernel
theorem dX1_handOn_1 : decode cX1_handOn 1 = .ok (.istore_n 3, 1) := by decide +kernel
theorem dX1_handOn_2 : decode cX1_handOn 2 = .ok (.iload_n 3, 1) := by decide +kernel
theorem dX1_handOn_3 : decode cX1_handOn 3 = .ok (.iload_n 2, 1) := by decide +kernel
theorem dX1_handOn_4 : decode cX1_handOn 4 = .ok (.if_icmp .ge 87, 3) := by decide +kernel
theorem dX1_handOn_7 : decode cX1_handOn 7 = .ok (.iload_n 3, 1) := by decide +kernel
theorem dX1_handOn_8 : decode cX1_handOn 8 = .ok (.bipush 12, 2) := by decide +kernel
theorem dX1_handOn_10 : decode cX1_handOn 10 = .ok (.if_icmp .ge 81, 3) := by decide +kernel
theorem dX1_handOn_13 : decode cX1_handOn 13 = .ok (.iconst 1, 1) := by decide +kernel
theorem dX1_handOn_14 : decode cX1_handOn 14 = .ok (.iload_n 3, 1) := by decide +kernel
theorem dX1_handOn_15 : decode cX1_handOn 15 = .ok (.ishl, 1) := by decide +kernel
theorem dX1_handOn_16 : decode cX1_handOn 16 = .ok (.istore 4, 2) := by decide +kernel
theorem dX1_handOn_18 : decode cX1_handOn 18 = .ok (.iload_n 1, 1) := by decide +kernel
theorem dX1_handOn_19 : decode cX1_handOn 19 = .ok (.iload 4, 2) := by decide +kernel
theorem dX1_handOn_21 : decode cX1_handOn 21 = .ok (.iconst (-1), 1) := by decide +kernel
theorem dX1_handOn_22 : decode cX1_handOn 22 = .ok (.ixor, 1) := by decide +kernel
theorem dX1_handOn_23 : decode cX1_handOn 23 = .ok (.iand, 1) := by decide +kernel
theorem dX1_handOn_24 : decode cX1_handOn 24 = .ok (.istore 5, 2) := by decide +kernel
theorem dX1_handOn_26 : decode cX1_handOn 26 = .ok (.iload 5, 2) := by decide +kernel
theorem dX1_handOn_28 : decode cX1_handOn 28 = .ok (.iload_n 1, 1) := by decide +kernel
theorem dX1_handOn_29 : decode cX1_handOn 29 = .ok (.if_icmp .eq 18, 3) := by decide +kernel
theorem dX1_handOn_32 : decode cX1_handOn 32 = .ok (.aload_n 0, 1) := by decide +kernel
theorem dX1_handOn_33 : decode cX1_handOn 33 = .ok (.getfield 15, 3) := by decide +kernel
theorem dX1_handOn_36 : decode cX1_handOn 36 = .ok (.iload_n 3, 1) := by decide +kernel
theorem dX1_handOn_37 : decode cX1_handOn 37 = .ok (.iaload, 1) := by decide +kernel
theorem dX1_handOn_38 : decode cX1_handOn 38 = .ok (.iload_n 1, 1) := by decide +kernel
theorem dX1_handOn_39 : decode cX1_handOn 39 = .ok (.iand, 1) := by decide +kernel
theorem dX1_handOn_40 : decode cX1_handOn 40 = .ok (.ifCond .ne 7, 3) := by decide +kernel
theorem dX1_handOn_43 : decode cX1_handOn 43 = .ok (.iconst 1, 1) := by decide +kernel
theorem dX1_handOn_44 : decode cX1_handOn 44 = .ok (.goto 4, 3) := by decide +kernel
theorem dX1_handOn_47 : decode cX1_handOn 47 = .ok (.iconst 0, 1) := by decide +kernel
theorem dX1_handOn_48 : decode cX1_handOn 48 = .ok (.istore 6, 2) := by decide +kernel
theorem dX1_handOn_50 : decode cX1_handOn 50 = .ok (.iload 6, 2) := by decide +kernel
theorem dX1_handOn_52 : decode cX1_handOn 52 = .ok (.ifCond .eq 33, 3) := by decide +kernel
theorem dX1_handOn_55 : decode cX1_handOn 55 = .ok (.iload 5, 2) := by decide +kernel
theorem dX1_handOn_57 : decode cX1_handOn 57 = .ok (.ifCond .lt 28, 3) := by decide +kernel
theorem dX1_handOn_60 : decode cX1_handOn 60 = .ok (.iload 5, 2) := by decide +kernel
theorem dX1_handOn_62 : decode cX1_handOn 62 = .ok (.aload_n 0, 1) := by decide +kernel
theorem dX1_handOn_63 : decode cX1_handOn 63 = .ok (.getfield 9, 3) := by decide +kernel
theorem dX1_handOn_66 : decode cX1_handOn 66 = .ok (.arraylength, 1) := by decide +kernel
theorem dX1_handOn_67 : decode cX1_handOn 67 = .ok (.if_icmp .ge 18, 3) := by decide +kernel
theorem dX1_handOn_70 : decode cX1_handOn 70 = .ok (.aload_n 0, 1) := by decide +kernel
theorem dX1_handOn_71 : decode cX1_handOn 71 = .ok (.getfield 9, 3) := by decide +kernel
theorem dX1_handOn_74 : decode cX1_handOn 74 = .ok (.iload 5, 2) := by decide +kernel
theorem dX1_handOn_76 : decode cX1_handOn 76 = .ok (.dup2, 1) := by decide +kernel
theorem dX1_handOn_77 : decode cX1_handOn 77 = .ok (.laload, 1) := by decide +kernel
theorem dX1_handOn_78 : decode cX1_handOn 78 = .ok (.aload_n 0, 1) := by decide +kernel
theorem dX1_handOn_79 : decode cX1_handOn 79 = .ok (.iload_n 1, 1) := by decide +kernel
theorem dX1_handOn_80 : decode cX1_handOn 80 = .ok (.invokevirtual 23, 3) := by decide +kernel
theorem dX1_handOn_83 : decode cX1_handOn 83 = .ok (.ladd, 1) := by decide +kernel
theorem dX1_handOn_84 : decode cX1_handOn 84 = .ok (.lastore, 1) := by decide +kernel
theorem dX1_handOn_85 : decode cX1_handOn 85 = .ok (.iinc 3 1, 3) := by decide +kernel
theorem dX1_handOn_88 : decode cX1_handOn 88 = .ok (.goto (-86), 3) := by decide +kernel
theorem dX1_handOn_91 : decode cX1_handOn 91 = .ok (.return_, 1) := by decide +kernel
theorem dX2_init_0 : decode cX2_init 0 = .ok (.aload_n 0, 1) := by decide +kernel
theorem dX2_init_1 : decode cX2_init 1 = .ok (.invokespecial 3, 3) := by decide +kernel
theorem dX2_init_4 : decode cX2_init 4 = .ok (.aload_n 0, 1) := by decide +kernel
theorem dX2_init_5 : decode cX2_init 5 = .ok (.iload_n 1, 1) := by decide +kernel
theorem dX2_init_6 : decode cX2_init 6 = .ok (.putfield 9, 3) := by decide +kernel
theorem dX2_init_9 : decode cX2_init 9 = .ok (.aload_n 0, 1) := by decide +kernel
theorem dX2_init_10 : decode cX2_init 10 = .ok (.bipush 60, 2) := by decide +kernel
theorem dX2_init_12 : decode cX2_init 12 = .ok (.newarray .int, 2) := by decide +kernel
theorem dX2_init_14 : decode cX2_init 14 = .ok (.putfield 15, 3) := by decide +kernel
theorem dX2_init_17 : decode cX2_init 17 = .ok (.aload_n 0, 1) := by decide +kernel
theorem dX2_init_18 : decode cX2_init 18 = .ok (.bipush 60, 2) := by decide +kernel
theorem dX2_init_20 : decode cX2_init 20 = .ok (.newarray .int, 2) := by decide +kernel
theorem dX2_init_22 : decode cX2_init 22 = .ok (.putfield 19, 3) := by decide +kernel
theorem dX2_init_25 : decode cX2_init 25 = .ok (.aload_n 0, 1) := by decide +kernel
theorem dX2_init_26 : decode cX2_init 26 = .ok (.bipush 60, 2) := by decide +kernel
theorem dX2_init_28 : decode cX2_init 28 = .ok (.newarray .int, 2) := by decide +kernel
theorem dX2_init_30 : decode cX2_init 30 = .ok (.putfield 22, 3) := by decide +kernel
theorem dX2_init_33 : decode cX2_init 33 = .ok (.aload_n 0, 1) := by decide +kernel
theorem dX2_init_34 : decode cX2_init 34 = .ok (.bipush 60, 2) := by decide +kernel
theorem dX2_init_36 : decode cX2_init 36 = .ok (.newarray .int, 2) := by decide +kernel
theorem dX2_init_38 : decode cX2_init 38 = .ok (.putfield 25, 3) := by decide +kernel
theorem dX2_init_41 : decode cX2_init 41 = .ok (.aload_n 0, 1) := by decide +kernel
theorem dX2_init_42 : decode cX2_init 42 = .ok (.bipush 60, 2) := by decide +kernel
theorem dX2_init_44 : decode cX2_init 44 = .ok (.newarray .int, 2) := by decide +kernel
theorem dX2_init_46 : decode cX2_init 46 = .ok (.putfield 28, 3) := by decide +kernel
theorem dX2_init_49 : decode cX2_init 49 = .ok (.aload_n 0, 1) := by decide +kernel
theorem dX2_init_50 : decode cX2_init 50 = .ok (.sipush 160, 3) := by decide +kernel
theorem dX2_init_53 : decode cX2_init 53 = .ok (.newarray .int, 2) := by decide +kernel
theorem dX2_init_55 : decode cX2_init 55 = .ok (.putfield 31, 3) := by decide +kernel
theorem dX2_init_58 : decode cX2_init 58 = .ok (.aload_n 0, 1) := by decide +kernel
theorem dX2_init_59 : decode cX2_init 59 = .ok (.sipush 160, 3) := by decide +kernel
theorem dX2_init_62 : decode cX2_init 62 = .ok (.newarray .int, 2) := by decide +kernel
theorem dX2_init_64 : decode cX2_init 64 = .ok (.putfield 34, 3) := by decide +kernel
theorem dX2_init_67 : decode cX2_init 67 = .ok (.aload_n 0, 1) := by decide +kernel
theorem dX2_init_68 : decode cX2_init 68 = .ok (.sipush 160, 3) := by decide +kernel
theorem dX2_init_71 : decode cX2_init 71 = .ok (.newarray .int, 2) := by decide +kernel
theorem dX2_init_73 : decode cX2_init 73 = .ok (.putfield 37, 3) := by decide +kernel
theorem dX2_init_76 : decode cX2_init 76 = .ok (.aload_n 0, 1) := by decide +kernel
theorem dX2_init_77 : decode cX2_init 77 = .ok (.iconst 5, 1) := by decide +kernel
theorem dX2_init_78 : decode cX2_init 78 = .ok (.newarray .int, 2) := by decide +kernel
theorem dX2_init_80 : decode cX2_init 80 = .ok (.putfield 40, 3) := by decide +kernel
theorem dX2_init_83 : decode cX2_init 83 = .ok (.aload_n 0, 1) := by decide +kernel
theorem dX2_init_84 : decode cX2_init 84 = .ok (.iconst 0, 1) := by decide +kernel
theorem dX2_init_85 : decode cX2_init 85 = .ok (.putfield 43, 3) := by decide +kernel
theorem dX2_init_88 : decode cX2_init 88 = .ok (.aload_n 0, 1) := by decide +kernel
theorem dX2_init_89 : decode cX2_init 89 = .ok (.iconst 0, 1) := by decide +kernel
theorem dX2_init_90 : decode cX2_init 90 = .ok (.putfield 47, 3) := by decide +kernel
theorem dX2_init_93 : decode cX2_init 93 = .ok (.aload_n 0, 1) := by decide +kernel
theorem dX2_init_94 : decode cX2_init 94 = .ok (.iconst 0, 1) := by decide +kernel
theorem dX2_init_95 : decode cX2_init 95 = .ok (.putfield 50, 3) := by decide +kernel
theorem dX2_init_98 : decode cX2_init 98 = .ok (.return_, 1) := by decide +kernel
set_option maxRecDepth 20000 in
theorem ggX2_addInsert_X2_addMessage : GoodIn wsX2_addInsert wsX2_addMessage := goodIn_r _ [12, 13, 14, 15, 16, 17, 18, 19, 20, 21, 22, 23, 24, 25, 26, 27, 28, 29] (by decide +kernel) (by decide +kernel)
set_option maxRecDepth 20000 in
theorem gX2_addInsert_X2_addMessage : GoodIn wsX2_addInsert (wsV RX2 53 RX2 yX2_addMessage wsX2_addMessage) := goodIn_app (goodIn_of _ (by decide +kernel)) ggX2_addInsert_X2_addMessage
theorem dX2_addInsert_0 : decode cX2_addInsert 0 = .ok (.aload_n 0, 1) := by decide +kernel
theorem dX2_addInsert_1 : decode cX2_addInsert 1 = .ok (.getfield 43, 3) := by decide +kernel
theorem dX2_addInsert_4 : decode cX2_addInsert 4 = .ok (.istore 5, 2) := by decide +kernel
theorem dX2_addInsert_6 : decode cX2_addInsert 6 = .ok (.iload 5, 2) := by decide +kernel
theorem dX2_addInsert_8 : decode cX2_addInsert 8 = .ok (.ifCond .lt 19, 3) := by decide +kernel
theorem dX2_addInsert_11 : decode cX2_addInsert 11 = .ok (.iload 5, 2) := by decide +kernel
theorem dX2_addInsert_13 : decode cX2_addInsert 13 = .ok (.bipush 60, 2) := by decide +kernel
theorem dX2_addInsert_15 : decode cX2_addInsert 15 = .ok (.if_icmp .ge 12, 3) := by decide +kernel
theorem dX2_addInsert_18 : decode cX2_addInsert 18 = .ok (.iload_n 1, 1) := by decide +kernel
theorem dX2_addInsert_19 : decode cX2_addInsert 19 = .ok (.ifCond .lt 8, 3) := by decide +kernel
theorem dX2_addInsert_22 : decode cX2_addInsert 22 = .ok (.iload_n 1, 1) := by decide +kernel
theorem dX2_addInsert_23 : decode cX2_addInsert 23 = .ok (.iconst 5, 1) := by decide +kernel
theorem dX2_addInsert_24 : decode cX2_addInsert 24 = .ok (.if_icmp .lt 5, 3) := by decide +kernel
theorem dX2_addInsert_27 : decode cX2_addInsert 27 = .ok (.iconst (-1), 1) := by decide +kernel
theorem dX2_addInsert_28 : decode cX2_addInsert 28 = .ok (.ireturn, 1) := by decide +kernel
theorem dX2_addInsert_29 : decode cX2_addInsert 29 = .ok (.aload_n 0, 1) := by decide +kernel
theorem dX2_addInsert_30 : decode cX2_addInsert 30 = .ok (.getfield 15, 3) := by decide +kernel
theorem dX2_addInsert_33 : decode cX2_addInsert 33 = .ok (.iload 5, 2) := by decide +kernel
theorem dX2_addInsert_35 : decode cX2_addInsert 35 = .ok (.iload_n 1, 1) := by decide +kernel
theorem dX2_addInsert_36 : decode cX2_addInsert 36 = .ok (.iastore, 1) := by decide +kernel
theorem dX2_addInsert_37 : decode cX2_addInsert 37 = .ok (.aload_n 0, 1) := by decide +kernel
theorem dX2_addInsert_38 : decode cX2_addInsert 38 = .ok (.getfield 19, 3) := by decide +kernel
theorem dX2_addInsert_41 : decode cX2_addInsert 41 = .ok (.iload 5, 2) := by decide +kernel
theorem dX2_addInsert_43 : decode cX2_addInsert 43 = .ok (.bipush 100, 2) := by decide +kernel
theorem dX2_addInsert_45 : decode cX2_addInsert 45 = .ok (.iload_n 1, 1) := by decide +kernel
theorem dX2_addInsert_46 : decode cX2_addInsert 46 = .ok (.imul, 1) := by decide +kernel
theorem dX2_addInsert_47 : decode cX2_addInsert 47 = .ok (.aload_n 0, 1) := by decide +kernel
theorem dX2_addInsert_48 : decode cX2_addInsert 48 = .ok (.getfield 40, 3) := by decide +kernel
theorem dX2_addInsert_51 : decode cX2_addInsert 51 = .ok (.iload_n 1, 1) := by decide +kernel
theorem dX2_addInsert_52 : decode cX2_addInsert 52 = .ok (.iaload, 1) := by decide +kernel
theorem dX2_addInsert_53 : decode cX2_addInsert 53 = .ok (.iadd, 1) := by decide +kernel
theorem dX2_addInsert_54 : decode cX2_addInsert 54 = .ok (.iastore, 1) := by decide +kernel
theorem dX2_addInsert_55 : decode cX2_addInsert 55 = .ok (.aload_n 0, 1) := by decide +kernel
theorem dX2_addInsert_56 : decode cX2_addInsert 56 = .ok (.getfield 22, 3) := by decide +kernel
theorem dX2_addInsert_59 : decode cX2_addInsert 59 = .ok (.iload 5, 2) := by decide +kernel
theorem dX2_addInsert_61 : decode cX2_addInsert 61 = .ok (.iload 4, 2) := by decide +kernel
theorem dX2_addInsert_63 : decode cX2_addInsert 63 = .ok (.iastore, 1) := by decide +kernel
theorem dX2_addInsert_64 : decode cX2_addInsert 64 = .ok (.aload_n 0, 1) := by decide +kernel
theorem dX2_addInsert_65 : decode cX2_addInsert 65 = .ok (.getfield 25, 3) := by decide +kernel
theorem dX2_addInsert_68 : decode cX2_addInsert 68 = .ok (.iload 5, 2) := by decide +kernel
theorem dX2_addInsert_70 : decode cX2_addInsert 70 = .ok (.iload_n 2, 1) := by decide +kernel
theorem dX2_addInsert_71 : decode cX2_addInsert 71 = .ok (.iastore, 1) := by decide +kernel
theorem dX2_addInsert_72 : decode cX2_addInsert 72 = .ok (.aload_n 0, 1) := by decide +kernel
theorem dX2_addInsert_73 : decode cX2_addInsert 73 = .ok (.getfield 28, 3) := by decide +kernel
theorem dX2_addInsert_76 : decode cX2_addInsert 76 = .ok (.iload 5, 2) := by decide +kernel
theorem dX2_addInsert_78 : decode cX2_addInsert 78 = .ok (.iload_n 3, 1) := by decide +kernel
theorem dX2_addInsert_79 : decode cX2_addInsert 79 = .ok (.iastore, 1) := by decide +kernel
theorem dX2_addInsert_80 : decode cX2_addInsert 80 = .ok (.aload_n 0, 1) := by decide +kernel
theorem dX2_addInsert_81 : decode cX2_addInsert 81 = .ok (.getfield 40, 3) := by decide +kernel
theorem dX2_addInsert_84 : decode cX2_addInsert 84 = .ok (.iload_n 1, 1) := by decide +kernel
theorem dX2_addInsert_85 : decode cX2_addInsert 85 = .ok (.dup2, 1) := by decide +kernel
theorem dX2_addInsert_86 : decode cX2_addInsert 86 = .ok (.iaload, 1) := by decide +kernel
theorem dX2_addInsert_87 : decode cX2_addInsert 87 = .ok (.iconst 1, 1) := by decide +kernel
theorem dX2_addInsert_88 : decode cX2_addInsert 88 = .ok (.iadd, 1) := by decide +kernel
theorem dX2_addInsert_89 : decode cX2_addInsert 89 = .ok (.iastore, 1) := by decide +kernel
theorem dX2_addInsert_90 : decode cX2_addInsert 90 = .ok (.aload_n 0, 1) := by decide +kernel
theorem dX2_addInsert_91 : decode cX2_addInsert 91 = .ok (.dup, 1) := by decide +kernel
theorem dX2_addInsert_92 : decode cX2_addInsert 92 = .ok (.getfield 43, 3) := by decide +kernel
theorem dX2_addInsert_95 : decode cX2_addInsert 95 = .ok (.iconst 1, 1) := by decide +kernel
theorem dX2_addInsert_96 : decode cX2_addInsert 96 = .ok (.iadd, 1) := by decide +kernel
theorem dX2_addInsert_97 : decode cX2_addInsert 97 = .ok (.putfield 43, 3) := by decide +kernel
theorem dX2_addInsert_100 : decode cX2_addInsert 100 = .ok (.aload_n 0, 1) := by decide +kernel
theorem dX2_addInsert_101 : decode cX2_addInsert 101 = .ok (.iconst 0, 1) := by decide +kernel
theorem dX2_addInsert_102 : decode cX2_addInsert 102 = .ok (.iload_n 1, 1) := by decide +kernel
theorem dX2_addInsert_103 : decode cX2_addInsert 103 = .ok (.iload 5, 2) := by decide +kernel
theorem dX2_addInsert_105 : decode cX2_addInsert 105 = .ok (.invokevirtual 53, 3) := by decide +kernel
theorem dX2_addInsert_108 : decode cX2_addInsert 108 = .ok (.ireturn, 1) := by decide +kernel
set_option maxRecDepth 20000 in
theorem ggX2_addErase_X2_addMessage : GoodIn wsX2_addErase wsX2_addMessage := goodIn_r _ [6, 7, 8, 9, 10, 11, 12, 13, 14, 15, 16, 17, 18, 19, 20, 21, 22, 23] (by decide +kernel) (by decide +kernel)
set_option maxRecDepth 20000 in
theorem gX2_addErase_X2_addMessage : GoodIn wsX2_addErase (wsV RX2 53 RX2 yX2_addMessage wsX2_addMessage) := goodIn_app (goodIn_of _ (by decide +kernel)) ggX2_addErase_X2_addMessage
theorem dX2_addErase_0 : decode cX2_addErase 0 = .ok (.aload_n 0, 1) := by decide +kernel
theorem dX2_addErase_1 : decode cX2_addErase 1 = .ok (.getfield 50, 3) := by decide +kernel
theorem dX2_addErase_4 : decode cX2_addErase 4 = .ok (.bipush 100, 2) := by decide +kernel
theorem dX2_addErase_6 : decode cX2_addErase 6 = .ok (.if_icmp .lt 5, 3) := by decide +kernel
theorem dX2_addErase_9 : decode cX2_addErase 9 = .ok (.iconst (-1), 1) := by decide +kernel
theorem dX2_addErase_10 : decode cX2_addErase 10 = .ok (.ireturn, 1) := by decide +kernel
theorem dX2_addErase_11 : decode cX2_addErase 11 = .ok (.aload_n 0, 1) := by decide +kernel
theorem dX2_addErase_12 : decode cX2_addErase 12 = .ok (.dup, 1) := by decide +kernel
theorem dX2_addErase_13 : decode cX2_addErase 13 = .ok (.getfield 50, 3) := by decide +kernel
theorem dX2_addErase_16 : decode cX2_addErase 16 = .ok (.iconst 1, 1) := by decide +kernel
theorem dX2_addErase_17 : decode cX2_addErase 17 = .ok (.iadd, 1) := by decide +kernel
theorem dX2_addErase_18 : decode cX2_addErase 18 = .ok (.putfield 50, 3) := by decide +kernel
theorem dX2_addErase_21 : decode cX2_addErase 21 = .ok (.aload_n 0, 1) := by decide +kernel
theorem dX2_addErase_22 : decode cX2_addErase 22 = .ok (.iconst 1, 1) := by decide +kernel
theorem dX2_addErase_23 : decode cX2_addErase 23 = .ok (.iload_n 1, 1) := by decide +kernel
theorem dX2_addErase_24 : decode cX2_addErase 24 = .ok (.iload_n 2, 1) := by decide +kernel
theorem dX2_addErase_25 : decode cX2_addErase 25 = .ok (.invokevirtual 53, 3) := by decide +kernel
theorem dX2_addErase_28 : decode cX2_addErase 28 = .ok (.ireturn, 1) := by decide +kernel
theorem dX2_addMessage_0 : decode cX2_addMessage 0 = .ok (.aload_n 0, 1) := by decide +kernel
theorem dX2_addMessage_1 : decode cX2_addMessage 1 = .ok (.getfield 47, 3) := by decide +kernel
theorem dX2_addMessage_4 : decode cX2_addMessage 4 = .ok (.istore 4, 2) := by decide +kernel
theorem dX2_addMessage_6 : decode cX2_addMessage 6 = .ok (.iload 4, 2) := by decide +kernel
theorem dX2_addMessage_8 : decode cX2_addMessage 8 = .ok (.ifCond .lt 11, 3) := by decide +kernel
theorem dX2_addMessage_11 : decode cX2_addMessage 11 = .ok (.iload 4, 2) := by decide +kernel
theorem dX2_addMessage_13 : decode cX2_addMessage 13 = .ok (.sipush 160, 3) := by decide +kernel
theorem dX2_addMessage_16 : decode cX2_addMessage 16 = .ok (.if_icmp .lt 5, 3) := by decide +kernel
theorem dX2_addMessage_19 : decode cX2_addMessage 19 = .ok (.iconst (-1), 1) := by decide +kernel
theorem dX2_addMessage_20 : decode cX2_addMessage 20 = .ok (.ireturn, 1) := by decide +kernel
theorem dX2_addMessage_21 : decode cX2_addMessage 21 = .ok (.aload_n 0, 1) := by decide +kernel
theorem dX2_addMessage_22 : decode cX2_addMessage 22 = .ok (.getfield 31, 3) := by decide +kernel
theorem dX2_addMessage_25 : decode cX2_addMessage 25 = .ok (.iload 4, 2) := by decide +kernel
theorem dX2_addMessage_27 : decode cX2_addMessage 27 = .ok (.iload_n 1, 1) := by decide +kernel
theorem dX2_addMessage_28 : decode cX2_addMessage 28 = .ok (.iastore, 1) := by decide +kernel
theorem dX2_addMessage_29 : decode cX2_addMessage 29 = .ok (.aload_n 0, 1) := by decide +kernel
theorem dX2_addMessage_30 : decode cX2_addMessage 30 = .ok (.getfield 34, 3) := by decide +kernel
theorem dX2_addMessage_33 : decode cX2_addMessage 33 = .ok (.iload 4, 2) := by decide +kernel
theorem dX2_addMessage_35 : decode cX2_addMessage 35 = .ok (.iload_n 2, 1) := by decide +kernel
theorem dX2_addMessage_36 : decode cX2_addMessage 36 = .ok (.iastore, 1) := by decide +kernel
theorem dX2_addMessage_37 : decode cX2_addMessage 37 = .ok (.aload_n 0, 1) := by decide +kernel
theorem dX2_addMessage_38 : decode cX2_addMessage 38 = .ok (.getfield 37, 3) := by decide +kernel
theorem dX2_addMessage_41 : decode cX2_addMessage 41 = .ok (.iload 4, 2) := by decide +kernel
theorem dX2_addMessage_43 : decode cX2_addMessage 43 = .ok (.iload_n 3, 1) := by decide +kernel
theorem dX2_addMessage_44 : decode cX2_addMessage 44 = .ok (.iastore, 1) := by decide +kernel
theorem dX2_addMessage_45 : decode cX2_addMessage 45 = .ok (.aload_n 0, 1) := by decide +kernel
theorem dX2_addMessage_46 : decode cX2_addMessage 46 = .ok (.dup, 1) := by decide +kernel
theorem dX2_addMessage_47 : decode cX2_addMessage 47 = .ok (.getfield 47, 3) := by decide +kernel
theorem dX2_addMessage_50 : decode cX2_addMessage 50 = .ok (.iconst 1, 1) := by decide +kernel
theorem dX2_addMessage_51 : decode cX2_addMessage 51 = .ok (.iadd, 1) := by decide +kernel
theorem dX2_addMessage_52 : decode cX2_addMessage 52 = .ok (.putfield 47, 3) := by decide +kernel
theorem dX2_addMessage_55 : decode cX2_addMessage 55 = .ok (.iload 4, 2) := by decide +kernel
theorem dX2_addMessage_57 : decode cX2_addMessage 57 = .ok (.ireturn, 1) := by decide +kernel
theorem dX2_hasMessage_0 : decode cX2_hasMessage 0 = .ok (.iload_n 1, 1) := by decide +kernel
theorem dX2_hasMessage_1 : decode cX2_hasMessage 1 = .ok (.ifCond .lt 22, 3) := by decide +kernel
theorem dX2_hasMessage_4 : decode cX2_hasMessage 4 = .ok (.iload_n 1, 1) := by decide +kernel
theorem dX2_hasMessage_5 : decode cX2_hasMessage 5 = .ok (.aload_n 0, 1) := by decide +kernel
theorem dX2_hasMessage_6 : decode cX2_hasMessage 6 = .ok (.getfield 47, 3) := by decide +kernel
theorem dX2_hasMessage_9 : decode cX2_hasMessage 9 = .ok (.if_icmp .ge 14, 3) := by decide +kernel
theorem dX2_hasMessage_12 : decode cX2_hasMessage 12 = .ok (.iload_n 1, 1) := by decide +kernel
theorem dX2_hasMessage_13 : decode cX2_hasMessage 13 = .ok (.sipush 160, 3) := by decide +kernel
theorem dX2_hasMessage_16 : decode cX2_hasMessage 16 = .ok (.if_icmp .ge 7, 3) := by decide +kernel
end
section
theorem dX2_hasMessage_19 : decode cX2_hasMessage 19 = .ok (.iconst 1, 1) := by decide +kernel
theorem dX2_hasMessage_20 : decode cX2_hasMessage 20 = .ok (.goto 4, 3) := by decide +kernel
theorem dX2_hasMessage_23 : decode cX2_hasMessage 23 = .ok (.iconst 0, 1) := by decide +kernel
theorem dX2_hasMessage_24 : decode cX2_hasMessage 24 = .ok (.ireturn, 1) := by decide +kernel
set_option maxRecDepth 20000 in
theorem ggX2_kindOf_X2_hasMessage : GoodIn wsX2_kindOf wsX2_hasMessage := goodIn_r _ [6, 7, 8, 9, 10, 11, 12, 13, 14, 15, 16, 17, 18, 19, 20] (by decide +kernel) (by decide +kernel)
set_option maxRecDepth 20000 in
theorem gX2_kindOf_X2_hasMessage : GoodIn wsX2_kindOf (wsV RX2 57 RX2 yX2_hasMessage wsX2_hasMessage) := goodIn_app (goodIn_of _ (by decide +kernel)) ggX2_kindOf_X2_hasMessage
theorem dX2_kindOf_0 : decode cX2_kindOf 0 = .ok (.aload_n 0, 1) := by decide +kernel
theorem dX2_kindOf_1 : decode cX2_kindOf 1 = .ok (.iload_n 1, 1) := by decide +kernel
theorem dX2_kindOf_2 : decode cX2_kindOf 2 = .ok (.invokevirtual 57, 3) := by decide +kernel
theorem dX2_kindOf_5 : decode cX2_kindOf 5 = .ok (.ifCond .eq 12, 3) := by decide +kernel
theorem dX2_kindOf_8 : decode cX2_kindOf 8 = .ok (.aload_n 0, 1) := by decide +kernel
theorem dX2_kindOf_9 : decode cX2_kindOf 9 = .ok (.getfield 31, 3) := by decide +kernel
theorem dX2_kindOf_12 : decode cX2_kindOf 12 = .ok (.iload_n 1, 1) := by decide +kernel
theorem dX2_kindOf_13 : decode cX2_kindOf 13 = .ok (.iaload, 1) := by decide +kernel
theorem dX2_kindOf_14 : decode cX2_kindOf 14 = .ok (.goto 4, 3) := by decide +kernel
theorem dX2_kindOf_17 : decode cX2_kindOf 17 = .ok (.iconst (-1), 1) := by decide +kernel
theorem dX2_kindOf_18 : decode cX2_kindOf 18 = .ok (.ireturn, 1) := by decide +kernel
set_option maxRecDepth 20000 in
theorem ggX2_makerOf_X2_hasMessage : GoodIn wsX2_makerOf wsX2_hasMessage := goodIn_r _ [6, 7, 8, 9, 10, 11, 12, 13, 14, 15, 16, 17, 18, 19, 20] (by decide +kernel) (by decide +kernel)
set_option maxRecDepth 20000 in
theorem gX2_makerOf_X2_hasMessage : GoodIn wsX2_makerOf (wsV RX2 57 RX2 yX2_hasMessage wsX2_hasMessage) := goodIn_app (goodIn_of _ (by decide +kernel)) ggX2_makerOf_X2_hasMessage
theorem dX2_makerOf_0 : decode cX2_makerOf 0 = .ok (.aload_n 0, 1) := by decide +kernel
theorem dX2_makerOf_1 : decode cX2_makerOf 1 = .ok (.iload_n 1, 1) := by decide +kernel
theorem dX2_makerOf_2 : decode cX2_makerOf 2 = .ok (.invokevirtual 57, 3) := by decide +kernel
theorem dX2_makerOf_5 : decode cX2_makerOf 5 = .ok (.ifCond .eq 12, 3) := by decide +kernel
theorem dX2_makerOf_8 : decode cX2_makerOf 8 = .ok (.aload_n 0, 1) := by decide +kernel
theorem dX2_makerOf_9 : decode cX2_makerOf 9 = .ok (.getfield 34, 3) := by decide +kernel
theorem dX2_makerOf_12 : decode cX2_makerOf 12 = .ok (.iload_n 1, 1) := by decide +kernel
theorem dX2_makerOf_13 : decode cX2_makerOf 13 = .ok (.iaload, 1) := by decide +kernel
theorem dX2_makerOf_14 : decode cX2_makerOf 14 = .ok (.goto 4, 3) := by decide +kernel
theorem dX2_makerOf_17 : decode cX2_makerOf 17 = .ok (.iconst (-1), 1) := by decide +kernel
theorem dX2_makerOf_18 : decode cX2_makerOf 18 = .ok (.ireturn, 1) := by decide +kernel
set_option maxRecDepth 20000 in
theorem ggX2_subjectOf_X2_hasMessage : GoodIn wsX2_subjectOf wsX2_hasMessage := goodIn_r _ [6, 7, 8, 9, 10, 11, 12, 13, 14, 15, 16, 17, 18, 19, 20] (by decide +kernel) (by decide +kernel)
set_option maxRecDepth 20000 in
theorem gX2_subjectOf_X2_hasMessage : GoodIn wsX2_subjectOf (wsV RX2 57 RX2 yX2_hasMessage wsX2_hasMessage) := goodIn_app (goodIn_of _ (by decide +kernel)) ggX2_subjectOf_X2_hasMessage
theorem dX2_subjectOf_0 : decode cX2_subjectOf 0 = .ok (.aload_n 0, 1) := by decide +kernel
theorem dX2_subjectOf_1 : decode cX2_subjectOf 1 = .ok (.iload_n 1, 1) := by decide +kernel
theorem dX2_subjectOf_2 : decode cX2_subjectOf 2 = .ok (.invokevirtual 57, 3) := by decide +kernel
theorem dX2_subjectOf_5 : decode cX2_subjectOf 5 = .ok (.ifCond .eq 12, 3) := by decide +kernel
theorem dX2_subjectOf_8 : decode cX2_subjectOf 8 = .ok (.aload_n 0, 1) := by decide +kernel
theorem dX2_subjectOf_9 : decode cX2_subjectOf 9 = .ok (.getfield 37, 3) := by decide +kernel
theorem dX2_subjectOf_12 : decode cX2_subjectOf 12 = .ok (.iload_n 1, 1) := by decide +kernel
theorem dX2_subjectOf_13 : decode cX2_subjectOf 13 = .ok (.iaload, 1) := by decide +kernel
theorem dX2_subjectOf_14 : decode cX2_subjectOf 14 = .ok (.goto 4, 3) := by decide +kernel
theorem dX2_subjectOf_17 : decode cX2_subjectOf 17 = .ok (.iconst (-1), 1) := by decide +kernel
theorem dX2_subjectOf_18 : decode cX2_subjectOf 18 = .ok (.ireturn, 1) := by decide +kernel
theorem dX2_hasCharacter_0 : decode cX2_hasCharacter 0 = .ok (.iload_n 1, 1) := by decide +kernel
theorem dX2_hasCharacter_1 : decode cX2_hasCharacter 1 = .ok (.ifCond .lt 21, 3) := by decide +kernel
theorem dX2_hasCharacter_4 : decode cX2_hasCharacter 4 = .ok (.iload_n 1, 1) := by decide +kernel
theorem dX2_hasCharacter_5 : decode cX2_hasCharacter 5 = .ok (.aload_n 0, 1) := by decide +kernel
theorem dX2_hasCharacter_6 : decode cX2_hasCharacter 6 = .ok (.getfield 43, 3) := by decide +kernel
theorem dX2_hasCharacter_9 : decode cX2_hasCharacter 9 = .ok (.if_icmp .ge 13, 3) := by decide +kernel
theorem dX2_hasCharacter_12 : decode cX2_hasCharacter 12 = .ok (.iload_n 1, 1) := by decide +kernel
theorem dX2_hasCharacter_13 : decode cX2_hasCharacter 13 = .ok (.bipush 60, 2) := by decide +kernel
theorem dX2_hasCharacter_15 : decode cX2_hasCharacter 15 = .ok (.if_icmp .ge 7, 3) := by decide +kernel
theorem dX2_hasCharacter_18 : decode cX2_hasCharacter 18 = .ok (.iconst 1, 1) := by decide +kernel
theorem dX2_hasCharacter_19 : decode cX2_hasCharacter 19 = .ok (.goto 4, 3) := by decide +kernel
theorem dX2_hasCharacter_22 : decode cX2_hasCharacter 22 = .ok (.iconst 0, 1) := by decide +kernel
theorem dX2_hasCharacter_23 : decode cX2_hasCharacter 23 = .ok (.ireturn, 1) := by decide +kernel
set_option maxRecDepth 20000 in
theorem ggX2_markOf_X2_hasCharacter : GoodIn wsX2_markOf wsX2_hasCharacter := goodIn_r _ [6, 7, 8, 9, 10, 11, 12, 13, 14, 15, 16, 17, 18, 19, 20] (by decide +kernel) (by decide +kernel)
set_option maxRecDepth 20000 in
theorem gX2_markOf_X2_hasCharacter : GoodIn wsX2_markOf (wsV RX2 61 RX2 yX2_hasCharacter wsX2_hasCharacter) := goodIn_app (goodIn_of _ (by decide +kernel)) ggX2_markOf_X2_hasCharacter
theorem dX2_markOf_0 : decode cX2_markOf 0 = .ok (.aload_n 0, 1) := by decide +kernel
theorem dX2_markOf_1 : decode cX2_markOf 1 = .ok (.iload_n 1, 1) := by decide +kernel
theorem dX2_markOf_2 : decode cX2_markOf 2 = .ok (.invokevirtual 61, 3) := by decide +kernel
theorem dX2_markOf_5 : decode cX2_markOf 5 = .ok (.ifCond .eq 10, 3) := by decide +kernel
theorem dX2_markOf_8 : decode cX2_markOf 8 = .ok (.aload_n 0, 1) := by decide +kernel
theorem dX2_markOf_9 : decode cX2_markOf 9 = .ok (.getfield 19, 3) := by decide +kernel
theorem dX2_markOf_12 : decode cX2_markOf 12 = .ok (.iload_n 1, 1) := by decide +kernel
theorem dX2_markOf_13 : decode cX2_markOf 13 = .ok (.iaload, 1) := by decide +kernel
theorem dX2_markOf_14 : decode cX2_markOf 14 = .ok (.ireturn, 1) := by decide +kernel
theorem dX2_markOf_15 : decode cX2_markOf 15 = .ok (.iload_n 1, 1) := by decide +kernel
theorem dX2_markOf_16 : decode cX2_markOf 16 = .ok (.iconst (-1), 1) := by decide +kernel
theorem dX2_markOf_17 : decode cX2_markOf 17 = .ok (.if_icmp .ne 7, 3) := by decide +kernel
theorem dX2_markOf_20 : decode cX2_markOf 20 = .ok (.iconst (-1), 1) := by decide +kernel
theorem dX2_markOf_21 : decode cX2_markOf 21 = .ok (.goto 6, 3) := by decide +kernel
theorem dX2_markOf_24 : decode cX2_markOf 24 = .ok (.sipush 9999, 3) := by decide +kernel
theorem dX2_markOf_27 : decode cX2_markOf 27 = .ok (.ireturn, 1) := by decide +kernel
set_option maxRecDepth 20000 in
theorem ggX2_siteOf_X2_hasCharacter : GoodIn wsX2_siteOf wsX2_hasCharacter := goodIn_r _ [6, 7, 8, 9, 10, 11, 12, 13, 14, 15, 16, 17, 18, 19, 20] (by decide +kernel) (by decide +kernel)
set_option maxRecDepth 20000 in
theorem gX2_siteOf_X2_hasCharacter : GoodIn wsX2_siteOf (wsV RX2 61 RX2 yX2_hasCharacter wsX2_hasCharacter) := goodIn_app (goodIn_of _ (by decide +kernel)) ggX2_siteOf_X2_hasCharacter
theorem dX2_siteOf_0 : decode cX2_siteOf 0 = .ok (.aload_n 0, 1) := by decide +kernel
theorem dX2_siteOf_1 : decode cX2_siteOf 1 = .ok (.iload_n 1, 1) := by decide +kernel
theorem dX2_siteOf_2 : decode cX2_siteOf 2 = .ok (.invokevirtual 61, 3) := by decide +kernel
theorem dX2_siteOf_5 : decode cX2_siteOf 5 = .ok (.ifCond .eq 12, 3) := by decide +kernel
theorem dX2_siteOf_8 : decode cX2_siteOf 8 = .ok (.aload_n 0, 1) := by decide +kernel
theorem dX2_siteOf_9 : decode cX2_siteOf 9 = .ok (.getfield 15, 3) := by decide +kernel
theorem dX2_siteOf_12 : decode cX2_siteOf 12 = .ok (.iload_n 1, 1) := by decide +kernel
theorem dX2_siteOf_13 : decode cX2_siteOf 13 = .ok (.iaload, 1) := by decide +kernel
theorem dX2_siteOf_14 : decode cX2_siteOf 14 = .ok (.goto 4, 3) := by decide +kernel
theorem dX2_siteOf_17 : decode cX2_siteOf 17 = .ok (.iconst (-1), 1) := by decide +kernel
theorem dX2_siteOf_18 : decode cX2_siteOf 18 = .ok (.ireturn, 1) := by decide +kernel
set_option maxRecDepth 20000 in
theorem ggX2_letterOf_X2_hasCharacter : GoodIn wsX2_letterOf wsX2_hasCharacter := goodIn_r _ [6, 7, 8, 9, 10, 11, 12, 13, 14, 15, 16, 17, 18, 19, 20] (by decide +kernel) (by decide +kernel)
set_option maxRecDepth 20000 in
theorem gX2_letterOf_X2_hasCharacter : GoodIn wsX2_letterOf (wsV RX2 61 RX2 yX2_hasCharacter wsX2_hasCharacter) := goodIn_app (goodIn_of _ (by decide +kernel)) ggX2_letterOf_X2_hasCharacter
theorem dX2_letterOf_0 : decode cX2_letterOf 0 = .ok (.aload_n 0, 1) := by decide +kernel
theorem dX2_letterOf_1 : decode cX2_letterOf 1 = .ok (.iload_n 1, 1) := by decide +kernel
theorem dX2_letterOf_2 : decode cX2_letterOf 2 = .ok (.invokevirtual 61, 3) := by decide +kernel
theorem dX2_letterOf_5 : decode cX2_letterOf 5 = .ok (.ifCond .eq 12, 3) := by decide +kernel
theorem dX2_letterOf_8 : decode cX2_letterOf 8 = .ok (.aload_n 0, 1) := by decide +kernel
theorem dX2_letterOf_9 : decode cX2_letterOf 9 = .ok (.getfield 22, 3) := by decide +kernel
theorem dX2_letterOf_12 : decode cX2_letterOf 12 = .ok (.iload_n 1, 1) := by decide +kernel
theorem dX2_letterOf_13 : decode cX2_letterOf 13 = .ok (.iaload, 1) := by decide +kernel
theorem dX2_letterOf_14 : decode cX2_letterOf 14 = .ok (.goto 4, 3) := by decide +kernel
theorem dX2_letterOf_17 : decode cX2_letterOf 17 = .ok (.iconst (-1), 1) := by decide +kernel
theorem dX2_letterOf_18 : decode cX2_letterOf 18 = .ok (.ireturn, 1) := by decide +kernel
set_option maxRecDepth 20000 in
theorem ggX2_leftOf_X2_hasCharacter : GoodIn wsX2_leftOf wsX2_hasCharacter := goodIn_r _ [6, 7, 8, 9, 10, 11, 12, 13, 14, 15, 16, 17, 18, 19, 20] (by decide +kernel) (by decide +kernel)
set_option maxRecDepth 20000 in
theorem gX2_leftOf_X2_hasCharacter : GoodIn wsX2_leftOf (wsV RX2 61 RX2 yX2_hasCharacter wsX2_hasCharacter) := goodIn_app (goodIn_of _ (by decide +kernel)) ggX2_leftOf_X2_hasCharacter
theorem dX2_leftOf_0 : decode cX2_leftOf 0 = .ok (.aload_n 0, 1) := by decide +kernel
theorem dX2_leftOf_1 : decode cX2_leftOf 1 = .ok (.iload_n 1, 1) := by decide +kernel
theorem dX2_leftOf_2 : decode cX2_leftOf 2 = .ok (.invokevirtual 61, 3) := by decide +kernel
theorem dX2_leftOf_5 : decode cX2_leftOf 5 = .ok (.ifCond .eq 12, 3) := by decide +kernel
theorem dX2_leftOf_8 : decode cX2_leftOf 8 = .ok (.aload_n 0, 1) := by decide +kernel
theorem dX2_leftOf_9 : decode cX2_leftOf 9 = .ok (.getfield 25, 3) := by decide +kernel
theorem dX2_leftOf_12 : decode cX2_leftOf 12 = .ok (.iload_n 1, 1) := by decide +kernel
theorem dX2_leftOf_13 : decode cX2_leftOf 13 = .ok (.iaload, 1) := by decide +kernel
theorem dX2_leftOf_14 : decode cX2_leftOf 14 = .ok (.goto 4, 3) := by decide +kernel
theorem dX2_leftOf_17 : decode cX2_leftOf 17 = .ok (.iconst (-1), 1) := by decide +kernel
theorem dX2_leftOf_18 : decode cX2_leftOf 18 = .ok (.ireturn, 1) := by decide +kernel
set_option maxRecDepth 20000 in
theorem ggX2_rightOf_X2_hasCharacter : GoodIn wsX2_rightOf wsX2_hasCharacter := goodIn_r _ [6, 7, 8, 9, 10, 11, 12, 13, 14, 15, 16, 17, 18, 19, 20] (by decide +kernel) (by decide +kernel)
set_option maxRecDepth 20000 in
theorem gX2_rightOf_X2_hasCharacter : GoodIn wsX2_rightOf (wsV RX2 61 RX2 yX2_hasCharacter wsX2_hasCharacter) := goodIn_app (goodIn_of _ (by decide +kernel)) ggX2_rightOf_X2_hasCharacter
theorem dX2_rightOf_0 : decode cX2_rightOf 0 = .ok (.aload_n 0, 1) := by decide +kernel
theorem dX2_rightOf_1 : decode cX2_rightOf 1 = .ok (.iload_n 1, 1) := by decide +kernel
theorem dX2_rightOf_2 : decode cX2_rightOf 2 = .ok (.invokevirtual 61, 3) := by decide +kernel
theorem dX2_rightOf_5 : decode cX2_rightOf 5 = .ok (.ifCond .eq 12, 3) := by decide +kernel
theorem dX2_rightOf_8 : decode cX2_rightOf 8 = .ok (.aload_n 0, 1) := by decide +kernel
theorem dX2_rightOf_9 : decode cX2_rightOf 9 = .ok (.getfield 28, 3) := by decide +kernel
theorem dX2_rightOf_12 : decode cX2_rightOf 12 = .ok (.iload_n 1, 1) := by decide +kernel
theorem dX2_rightOf_13 : decode cX2_rightOf 13 = .ok (.iaload, 1) := by decide +kernel
theorem dX2_rightOf_14 : decode cX2_rightOf 14 = .ok (.goto 5, 3) := by decide +kernel
theorem dX2_rightOf_17 : decode cX2_rightOf 17 = .ok (.bipush 60, 2) := by decide +kernel
theorem dX2_rightOf_19 : decode cX2_rightOf 19 = .ok (.ireturn, 1) := by decide +kernel
set_option maxRecDepth 20000 in
theorem ggX3_init_X2_init : GoodIn wsX3_init wsX2_init := goodIn_r _ [23, 24, 2, 3, 25, 17, 26, 27, 28, 29, 30, 31, 32, 33, 34, 35, 36, 37, 73, 74, 75, 76, 77, 78, 79, 80, 81, 82, 83, 84, 85] (by decide +kernel) (by decide +kernel)
set_option maxRecDepth 20000 in
theorem gX3_init_X2_init : GoodIn wsX3_init (wsX2_init) := ggX3_init_X2_init
set_option maxRecDepth 20000 in
theorem ggX3_init_X0_init : GoodIn wsX3_init wsX0_init := goodIn_r _ [40, 41, 2, 3, 42, 17, 43, 44, 45, 46, 47, 48, 49, 50, 12, 51, 52, 53, 54, 55, 56, 57, 58, 86, 87, 88, 89, 90, 91, 92, 93, 94, 95, 96, 97] (by decide +kernel) (by decide +kernel)
set_option maxRecDepth 20000 in
theorem gX3_init_X0_init : GoodIn wsX3_init (wsX0_init) := ggX3_init_X0_init
set_option maxRecDepth 20000 in
theorem ggX3_init_X1_init : GoodIn wsX3_init wsX1_init := goodIn_r _ [61, 62, 2, 3, 63, 64, 17, 65, 98, 99] (by decide +kernel) (by decide +kernel)
set_option maxRecDepth 20000 in
theorem gX3_init_X1_init : GoodIn wsX3_init (wsX1_init) := ggX3_init_X1_init
theorem dX3_init_0 : decode cX3_init 0 = .ok (.aload_n 0, 1) := by decide +kernel
theorem dX3_init_1 : decode cX3_init 1 = .ok (.invokespecial 3, 3) := by decide +kernel
theorem dX3_init_4 : decode cX3_init 4 = .ok (.aload_n 0, 1) := by decide +kernel
theorem dX3_init_5 : decode cX3_init 5 = .ok (.iconst 2, 1) := by decide +kernel
theorem dX3_init_6 : decode cX3_init 6 = .ok (.anewarray 9, 3) := by decide +kernel
theorem dX3_init_9 : decode cX3_init 9 = .ok (.putfield 11, 3) := by decide +kernel
theorem dX3_init_12 : decode cX3_init 12 = .ok (.aload_n 0, 1) := by decide +kernel
theorem dX3_init_13 : decode cX3_init 13 = .ok (.bipush 10, 2) := by decide +kernel
theorem dX3_init_15 : decode cX3_init 15 = .ok (.anewarray 15, 3) := by decide +kernel
theorem dX3_init_18 : decode cX3_init 18 = .ok (.putfield 17, 3) := by decide +kernel
theorem dX3_init_21 : decode cX3_init 21 = .ok (.aload_n 0, 1) := by decide +kernel
theorem dX3_init_22 : decode cX3_init 22 = .ok (.iconst 2, 1) := by decide +kernel
theorem dX3_init_23 : decode cX3_init 23 = .ok (.anewarray 15, 3) := by decide +kernel
theorem dX3_init_26 : decode cX3_init 26 = .ok (.putfield 21, 3) := by decide +kernel
theorem dX3_init_29 : decode cX3_init 29 = .ok (.iconst 0, 1) := by decide +kernel
theorem dX3_init_30 : decode cX3_init 30 = .ok (.istore_n 1, 1) := by decide +kernel
theorem dX3_init_31 : decode cX3_init 31 = .ok (.iload_n 1, 1) := by decide +kernel
theorem dX3_init_32 : decode cX3_init 32 = .ok (.iconst 2, 1) := by decide +kernel
theorem dX3_init_33 : decode cX3_init 33 = .ok (.if_icmp .ge 78, 3) := by decide +kernel
theorem dX3_init_36 : decode cX3_init 36 = .ok (.new 9, 3) := by decide +kernel
theorem dX3_init_39 : decode cX3_init 39 = .ok (.dup, 1) := by decide +kernel
theorem dX3_init_40 : decode cX3_init 40 = .ok (.iload_n 1, 1) := by decide +kernel
theorem dX3_init_41 : decode cX3_init 41 = .ok (.ifCond .ne 7, 3) := by decide +kernel
theorem dX3_init_44 : decode cX3_init 44 = .ok (.iconst 1, 1) := by decide +kernel
theorem dX3_init_45 : decode cX3_init 45 = .ok (.goto 4, 3) := by decide +kernel
theorem dX3_init_48 : decode cX3_init 48 = .ok (.iconst 0, 1) := by decide +kernel
theorem dX3_init_49 : decode cX3_init 49 = .ok (.invokespecial 24, 3) := by decide +kernel
theorem dX3_init_52 : decode cX3_init 52 = .ok (.astore_n 2, 1) := by decide +kernel
theorem dX3_init_53 : decode cX3_init 53 = .ok (.aload_n 0, 1) := by decide +kernel
theorem dX3_init_54 : decode cX3_init 54 = .ok (.getfield 11, 3) := by decide +kernel
theorem dX3_init_57 : decode cX3_init 57 = .ok (.iload_n 1, 1) := by decide +kernel
theorem dX3_init_58 : decode cX3_init 58 = .ok (.aload_n 2, 1) := by decide +kernel
theorem dX3_init_59 : decode cX3_init 59 = .ok (.aastore, 1) := by decide +kernel
theorem dX3_init_60 : decode cX3_init 60 = .ok (.aload_n 0, 1) := by decide +kernel
theorem dX3_init_61 : decode cX3_init 61 = .ok (.getfield 21, 3) := by decide +kernel
theorem dX3_init_64 : decode cX3_init 64 = .ok (.iload_n 1, 1) := by decide +kernel
theorem dX3_init_65 : decode cX3_init 65 = .ok (.new 15, 3) := by decide +kernel
theorem dX3_init_68 : decode cX3_init 68 = .ok (.dup, 1) := by decide +kernel
theorem dX3_init_69 : decode cX3_init 69 = .ok (.aload_n 2, 1) := by decide +kernel
theorem dX3_init_70 : decode cX3_init 70 = .ok (.invokespecial 27, 3) := by decide +kernel
theorem dX3_init_73 : decode cX3_init 73 = .ok (.aastore, 1) := by decide +kernel
theorem dX3_init_74 : decode cX3_init 74 = .ok (.iconst 0, 1) := by decide +kernel
theorem dX3_init_75 : decode cX3_init 75 = .ok (.istore_n 3, 1) := by decide +kernel
theorem dX3_init_76 : decode cX3_init 76 = .ok (.iload_n 3, 1) := by decide +kernel
theorem dX3_init_77 : decode cX3_init 77 = .ok (.iconst 5, 1) := by decide +kernel
theorem dX3_init_78 : decode cX3_init 78 = .ok (.if_icmp .ge 27, 3) := by decide +kernel
theorem dX3_init_81 : decode cX3_init 81 = .ok (.aload_n 0, 1) := by decide +kernel
theorem dX3_init_82 : decode cX3_init 82 = .ok (.getfield 17, 3) := by decide +kernel
theorem dX3_init_85 : decode cX3_init 85 = .ok (.iload_n 1, 1) := by decide +kernel
theorem dX3_init_86 : decode cX3_init 86 = .ok (.iconst 5, 1) := by decide +kernel
theorem dX3_init_87 : decode cX3_init 87 = .ok (.imul, 1) := by decide +kernel
theorem dX3_init_88 : decode cX3_init 88 = .ok (.iload_n 3, 1) := by decide +kernel
theorem dX3_init_89 : decode cX3_init 89 = .ok (.iadd, 1) := by decide +kernel
theorem dX3_init_90 : decode cX3_init 90 = .ok (.new 15, 3) := by decide +kernel
theorem dX3_init_93 : decode cX3_init 93 = .ok (.dup, 1) := by decide +kernel
theorem dX3_init_94 : decode cX3_init 94 = .ok (.aload_n 2, 1) := by decide +kernel
theorem dX3_init_95 : decode cX3_init 95 = .ok (.invokespecial 27, 3) := by decide +kernel
theorem dX3_init_98 : decode cX3_init 98 = .ok (.aastore, 1) := by decide +kernel
theorem dX3_init_99 : decode cX3_init 99 = .ok (.iinc 3 1, 3) := by decide +kernel
theorem dX3_init_102 : decode cX3_init 102 = .ok (.goto (-26), 3) := by decide +kernel
theorem dX3_init_105 : decode cX3_init 105 = .ok (.iinc 1 1, 3) := by decide +kernel
theorem dX3_init_108 : decode cX3_init 108 = .ok (.goto (-77), 3) := by decide +kernel
theorem dX3_init_111 : decode cX3_init 111 = .ok (.aload_n 0, 1) := by decide +kernel
theorem dX3_init_112 : decode cX3_init 112 = .ok (.new 30, 3) := by decide +kernel
theorem dX3_init_115 : decode cX3_init 115 = .ok (.dup, 1) := by decide +kernel
theorem dX3_init_116 : decode cX3_init 116 = .ok (.invokespecial 32, 3) := by decide +kernel
theorem dX3_init_119 : decode cX3_init 119 = .ok (.putfield 33, 3) := by decide +kernel
theorem dX3_init_122 : decode cX3_init 122 = .ok (.aload_n 0, 1) := by decide +kernel
theorem dX3_init_123 : decode cX3_init 123 = .ok (.sipush 160, 3) := by decide +kernel
theorem dX3_init_126 : decode cX3_init 126 = .ok (.newarray .int, 2) := by decide +kernel
theorem dX3_init_128 : decode cX3_init 128 = .ok (.putfield 37, 3) := by decide +kernel
theorem dX3_init_131 : decode cX3_init 131 = .ok (.aload_n 0, 1) := by decide +kernel
theorem dX3_init_132 : decode cX3_init 132 = .ok (.bipush 60, 2) := by decide +kernel
theorem dX3_init_134 : decode cX3_init 134 = .ok (.newarray .int, 2) := by decide +kernel
theorem dX3_init_136 : decode cX3_init 136 = .ok (.putfield 41, 3) := by decide +kernel
theorem dX3_init_139 : decode cX3_init 139 = .ok (.aload_n 0, 1) := by decide +kernel
theorem dX3_init_140 : decode cX3_init 140 = .ok (.iconst 0, 1) := by decide +kernel
theorem dX3_init_141 : decode cX3_init 141 = .ok (.putfield 44, 3) := by decide +kernel
theorem dX3_init_144 : decode cX3_init 144 = .ok (.return_, 1) := by decide +kernel
set_option maxRecDepth 20000 in
theorem ggX3_insert_X3_copyAt : GoodIn wsX3_insert wsX3_copyAt := goodIn_r _ [7, 8, 156, 157, 158, 159, 160, 161, 162] (by decide +kernel) (by decide +kernel)
set_option maxRecDepth 20000 in
theorem gX3_insert_X3_copyAt : GoodIn wsX3_insert (wsV RX3 48 RX3 yX3_copyAt wsX3_copyAt) := goodIn_app (goodIn_of _ (by decide +kernel)) ggX3_insert_X3_copyAt
set_option maxRecDepth 20000 in
theorem ggX3_insert_X0_leftForPlace : GoodIn wsX3_insert wsX0_leftForPlace := goodIn_r _ [13, 14, 15, 16, 12, 17, 18, 19, 20, 21, 22, 23, 24, 25, 26, 27, 28, 29, 144, 145, 146, 147, 148, 149, 150, 151, 152, 153, 154, 155] (by decide +kernel) (by decide +kernel)
set_option maxRecDepth 20000 in
theorem gX3_insert_X0_leftForPlace : GoodIn wsX3_insert (wsV RX3 55 RX0 yX0_leftForPlace wsX0_leftForPlace) := goodIn_app (goodIn_of _ (by decide +kernel)) ggX3_insert_X0_leftForPlace
set_option maxRecDepth 20000 in
theorem ggX3_insert_X0_rightForPlace : GoodIn wsX3_insert wsX0_rightForPlace := goodIn_r _ [33, 34, 35, 14, 15, 16, 12, 17, 18, 19, 20, 21, 22, 23, 24, 25, 26, 27, 28, 29, 36, 10, 11, 13, 37, 38, 39, 40, 144, 145, 146, 147, 148, 149, 150, 151, 152, 153, 154, 155, 163, 164, 165, 166, 167, 168, 169, 170, 171, 172, 173, 174, 175] (by decide +kernel) (by decide +kernel)
set_option maxRecDepth 20000 in
theorem gX3_insert_X0_rightForPlace : GoodIn wsX3_insert (wsV RX3 59 RX0 yX0_rightForPlace wsX0_rightForPlace) := goodIn_app (goodIn_of _ (by decide +kernel)) ggX3_insert_X0_rightForPlace
set_option maxRecDepth 20000 in
theorem ggX3_insert_X2_addInsert : GoodIn wsX3_insert wsX2_addInsert := goodIn_r _ [45, 46, 47, 48, 49, 50, 51, 52, 53, 54, 55, 44, 56, 57, 58, 59, 60, 163, 164, 165, 166, 167, 168, 169, 170, 171, 172, 173, 174, 175] (by decide +kernel) (by decide +kernel)
set_option maxRecDepth 20000 in
theorem gX3_insert_X2_addInsert : GoodIn wsX3_insert (wsV RX3 66 RX2 yX2_addInsert wsX2_addInsert) := goodIn_app (goodIn_of _ (by decide +kernel)) ggX3_insert_X2_addInsert
set_option maxRecDepth 20000 in
theorem ggX3_insert_X0_doOwn : GoodIn wsX3_insert wsX0_doOwn := goodIn_r _ [64, 34, 65, 66, 67, 44, 68, 57, 69, 70, 71, 12, 72, 73, 74, 75, 76, 77, 78, 79, 35, 80, 81, 82, 83, 60, 84, 85, 86, 87, 88, 89, 90, 91, 92, 93, 58, 94, 95, 96, 97, 29, 98, 24, 25, 26, 27, 28, 99, 100, 101, 102, 103, 104, 105, 106, 51, 107, 108, 109, 110, 46, 37, 38, 39, 40, 18, 111, 112, 113, 114, 52, 115, 116, 117, 118, 48, 19, 20, 21, 22, 23, 119, 120, 121, 122, 123, 124, 125, 126, 127, 128, 129, 130, 47, 131, 132, 133, 134, 135, 136, 137, 138, 139, 140, 141, 142, 143, 144, 145, 146, 147, 148, 149, 150, 151, 152, 153, 154, 155, 163, 164, 165, 166, 167, 168, 169, 170, 171, 172, 173, 174, 175] (by decide +kernel) (by decide +kernel)
set_option maxRecDepth 20000 in
theorem gX3_insert_X0_doOwn : GoodIn wsX3_insert (wsV RX3 70 RX0 yX0_doOwn wsX0_doOwn) := goodIn_app (goodIn_of _ (by decide +kernel)) ggX3_insert_X0_doOwn
theorem dX3_insert_0 : decode cX3_insert 0 = .ok (.aload_n 0, 1) := by decide +kernel
theorem dX3_insert_1 : decode cX3_insert 1 = .ok (.iload_n 1, 1) := by decide +kernel
theorem dX3_insert_2 : decode cX3_insert 2 = .ok (.iload_n 2, 1) := by decide +kernel
theorem dX3_insert_3 : decode cX3_insert 3 = .ok (.invokevirtual 48, 3) := by decide +kernel
theorem dX3_insert_6 : decode cX3_insert 6 = .ok (.astore 5, 2) := by decide +kernel
theorem dX3_insert_8 : decode cX3_insert 8 = .ok (.aload 5, 2) := by decide +kernel
theorem dX3_insert_10 : decode cX3_insert 10 = .ok (.ifnull 16, 3) := by decide +kernel
theorem dX3_insert_13 : decode cX3_insert 13 = .ok (.iload_n 3, 1) := by decide +kernel
theorem dX3_insert_14 : decode cX3_insert 14 = .ok (.ifCond .lt 12, 3) := by decide +kernel
theorem dX3_insert_17 : decode cX3_insert 17 = .ok (.iload_n 3, 1) := by decide +kernel
theorem dX3_insert_18 : decode cX3_insert 18 = .ok (.aload 5, 2) := by decide +kernel
theorem dX3_insert_20 : decode cX3_insert 20 = .ok (.getfield 52, 3) := by decide +kernel
theorem dX3_insert_23 : decode cX3_insert 23 = .ok (.if_icmp .le 5, 3) := by decide +kernel
theorem dX3_insert_26 : decode cX3_insert 26 = .ok (.iconst (-1), 1) := by decide +kernel
theorem dX3_insert_27 : decode cX3_insert 27 = .ok (.ireturn, 1) := by decide +kernel
theorem dX3_insert_28 : decode cX3_insert 28 = .ok (.iload 4, 2) := by decide +kernel
theorem dX3_insert_30 : decode cX3_insert 30 = .ok (.bipush 32, 2) := by decide +kernel
theorem dX3_insert_32 : decode cX3_insert 32 = .ok (.if_icmp .lt 10, 3) := by decide +kernel
theorem dX3_insert_35 : decode cX3_insert 35 = .ok (.iload 4, 2) := by decide +kernel
theorem dX3_insert_37 : decode cX3_insert 37 = .ok (.bipush 126, 2) := by decide +kernel
theorem dX3_insert_39 : decode cX3_insert 39 = .ok (.if_icmp .le 5, 3) := by decide +kernel
theorem dX3_insert_42 : decode cX3_insert 42 = .ok (.iconst (-1), 1) := by decide +kernel
theorem dX3_insert_43 : decode cX3_insert 43 = .ok (.ireturn, 1) := by decide +kernel
theorem dX3_insert_44 : decode cX3_insert 44 = .ok (.aload 5, 2) := by decide +kernel
theorem dX3_insert_46 : decode cX3_insert 46 = .ok (.iload_n 3, 1) := by decide +kernel
theorem dX3_insert_47 : decode cX3_insert 47 = .ok (.invokevirtual 55, 3) := by decide +kernel
theorem dX3_insert_50 : decode cX3_insert 50 = .ok (.istore 6, 2) := by decide +kernel
theorem dX3_insert_52 : decode cX3_insert 52 = .ok (.aload 5, 2) := by decide +kernel
theorem dX3_insert_54 : decode cX3_insert 54 = .ok (.iload_n 3, 1) := by decide +kernel
theorem dX3_insert_55 : decode cX3_insert 55 = .ok (.invokevirtual 59, 3) := by decide +kernel
theorem dX3_insert_58 : decode cX3_insert 58 = .ok (.istore 7, 2) := by decide +kernel
theorem dX3_insert_60 : decode cX3_insert 60 = .ok (.aload 5, 2) := by decide +kernel
theorem dX3_insert_62 : decode cX3_insert 62 = .ok (.getfield 62, 3) := by decide +kernel
theorem dX3_insert_65 : decode cX3_insert 65 = .ok (.iload_n 2, 1) := by decide +kernel
theorem dX3_insert_66 : decode cX3_insert 66 = .ok (.iload 6, 2) := by decide +kernel
theorem dX3_insert_68 : decode cX3_insert 68 = .ok (.iload 7, 2) := by decide +kernel
theorem dX3_insert_70 : decode cX3_insert 70 = .ok (.iload 4, 2) := by decide +kernel
theorem dX3_insert_72 : decode cX3_insert 72 = .ok (.invokevirtual 66, 3) := by decide +kernel
theorem dX3_insert_75 : decode cX3_insert 75 = .ok (.istore 8, 2) := by decide +kernel
theorem dX3_insert_77 : decode cX3_insert 77 = .ok (.aload 5, 2) := by decide +kernel
theorem dX3_insert_79 : decode cX3_insert 79 = .ok (.iload 8, 2) := by decide +kernel
theorem dX3_insert_81 : decode cX3_insert 81 = .ok (.invokevirtual 70, 3) := by decide +kernel
theorem dX3_insert_84 : decode cX3_insert 84 = .ok (.iload 8, 2) := by decide +kernel
theorem dX3_insert_86 : decode cX3_insert 86 = .ok (.ireturn, 1) := by decide +kernel
set_option maxRecDepth 20000 in
theorem ggX3_erase_X3_copyAt : GoodIn wsX3_erase wsX3_copyAt := goodIn_r _ [7, 8, 146, 147, 148, 149, 150, 151, 152] (by decide +kernel) (by decide +kernel)
set_option maxRecDepth 20000 in
theorem gX3_erase_X3_copyAt : GoodIn wsX3_erase (wsV RX3 48 RX3 yX3_copyAt wsX3_copyAt) := goodIn_app (goodIn_of _ (by decide +kernel)) ggX3_erase_X3_copyAt
set_option maxRecDepth 20000 in
theorem ggX3_erase_X0_seenAt : GoodIn wsX3_erase wsX0_seenAt := goodIn_r _ [13, 14, 15, 16, 17, 12, 18, 19, 20, 21, 22, 23, 24, 25, 134, 135, 136, 137, 138, 139, 140, 141, 142, 143, 144, 145] (by decide +kernel) (by decide +kernel)
set_option maxRecDepth 20000 in
theorem gX3_erase_X0_seenAt : GoodIn wsX3_erase (wsV RX3 74 RX0 yX0_seenAt wsX0_seenAt) := goodIn_app (goodIn_of _ (by decide +kernel)) ggX3_erase_X0_seenAt
set_option maxRecDepth 20000 in
theorem ggX3_erase_X2_addErase : GoodIn wsX3_erase wsX2_addErase := goodIn_r _ [30, 31, 32, 33, 34, 29, 35, 36, 37, 38, 39, 153, 154, 155, 156, 157, 158, 159, 160, 161, 162, 163, 164, 165] (by decide +kernel) (by decide +kernel)
set_option maxRecDepth 20000 in
theorem gX3_erase_X2_addErase : GoodIn wsX3_erase (wsV RX3 77 RX2 yX2_addErase wsX2_addErase) := goodIn_app (goodIn_of _ (by decide +kernel)) ggX3_erase_X2_addErase
set_option maxRecDepth 20000 in
theorem ggX3_erase_X0_doOwn : GoodIn wsX3_erase wsX0_doOwn := goodIn_r _ [43, 44, 45, 46, 47, 29, 48, 36, 49, 50, 51, 12, 52, 53, 54, 55, 56, 57, 58, 59, 60, 61, 62, 63, 64, 39, 65, 66, 67, 68, 69, 70, 71, 72, 73, 74, 37, 75, 76, 77, 78, 25, 79, 20, 21, 22, 23, 24, 80, 81, 82, 83, 84, 85, 86, 87, 88, 89, 90, 91, 92, 93, 94, 95, 96, 97, 14, 98, 99, 100, 101, 102, 103, 104, 105, 106, 107, 15, 16, 17, 18, 19, 108, 109, 110, 111, 112, 113, 114, 115, 116, 117, 118, 119, 120, 121, 122, 123, 124, 125, 126, 127, 128, 129, 130, 131, 132, 133, 134, 135, 136, 137, 138, 139, 140, 141, 142, 143, 144, 145, 153, 154, 155, 156, 157, 158, 159, 160, 161, 162, 163, 164, 165] (by decide +kernel) (by decide +kernel)
set_option maxRecDepth 20000 in
theorem gX3_erase_X0_doOwn : GoodIn wsX3_erase (wsV RX3 70 RX0 yX0_doOwn wsX0_doOwn) := goodIn_app (goodIn_of _ (by decide +kernel)) ggX3_erase_X0_doOwn
theorem dX3_erase_0 : decode cX3_erase 0 = .ok (.aload_n 0, 1) := by decide +kernel
theorem dX3_erase_1 : decode cX3_erase 1 = .ok (.iload_n 1, 1) := by decide +kernel
theorem dX3_erase_2 : decode cX3_erase 2 = .ok (.iload_n 2, 1) := by decide +kernel
theorem dX3_erase_3 : decode cX3_erase 3 = .ok (.invokevirtual 48, 3) := by decide +kernel
theorem dX3_erase_6 : decode cX3_erase 6 = .ok (.astore 4, 2) := by decide +kernel
theorem dX3_erase_8 : decode cX3_erase 8 = .ok (.aload 4, 2) := by decide +kernel
theorem dX3_erase_10 : decode cX3_erase 10 = .ok (.ifnull 16, 3) := by decide +kernel
theorem dX3_erase_13 : decode cX3_erase 13 = .ok (.iload_n 3, 1) := by decide +kernel
theorem dX3_erase_14 : decode cX3_erase 14 = .ok (.ifCond .lt 12, 3) := by decide +kernel
theorem dX3_erase_17 : decode cX3_erase 17 = .ok (.iload_n 3, 1) := by decide +kernel
theorem dX3_erase_18 : decode cX3_erase 18 = .ok (.aload 4, 2) := by decide +kernel
theorem dX3_erase_20 : decode cX3_erase 20 = .ok (.getfield 52, 3) := by decide +kernel
theorem dX3_erase_23 : decode cX3_erase 23 = .ok (.if_icmp .lt 5, 3) := by decide +kernel
theorem dX3_erase_26 : decode cX3_erase 26 = .ok (.iconst (-1), 1) := by decide +kernel
theorem dX3_erase_27 : decode cX3_erase 27 = .ok (.ireturn, 1) := by decide +kernel
theorem dX3_erase_28 : decode cX3_erase 28 = .ok (.aload 4, 2) := by decide +kernel
theorem dX3_erase_30 : decode cX3_erase 30 = .ok (.getfield 62, 3) := by decide +kernel
theorem dX3_erase_33 : decode cX3_erase 33 = .ok (.iload_n 2, 1) := by decide +kernel
theorem dX3_erase_34 : decode cX3_erase 34 = .ok (.aload 4, 2) := by decide +kernel
theorem dX3_erase_36 : decode cX3_erase 36 = .ok (.iload_n 3, 1) := by decide +kernel
theorem dX3_erase_37 : decode cX3_erase 37 = .ok (.invokevirtual 74, 3) := by decide +kernel
theorem dX3_erase_40 : decode cX3_erase 40 = .ok (.invokevirtual 77, 3) := by decide +kernel
theorem dX3_erase_43 : decode cX3_erase 43 = .ok (.istore 5, 2) := by decide +kernel
theorem dX3_erase_45 : decode cX3_erase 45 = .ok (.aload 4, 2) := by decide +kernel
theorem dX3_erase_47 : decode cX3_erase 47 = .ok (.iload 5, 2) := by decide +kernel
theorem dX3_erase_49 : decode cX3_erase 49 = .ok (.invokevirtual 70, 3) := by decide +kernel
theorem dX3_erase_52 : decode cX3_erase 52 = .ok (.iload 5, 2) := by decide +kernel
theorem dX3_erase_54 : decode cX3_erase 54 = .ok (.ireturn, 1) := by decide +kernel
set_option maxRecDepth 20000 in
theorem ggX3_tell_X3_copyAt : GoodIn wsX3_tell wsX3_copyAt := goodIn_r _ [6, 7, 146, 147, 148, 149, 150, 151, 152] (by decide +kernel) (by decide +kernel)
set_option maxRecDepth 20000 in
theorem gX3_tell_X3_copyAt : GoodIn wsX3_tell (wsV RX3 48 RX3 yX3_copyAt wsX3_copyAt) := goodIn_app (goodIn_of _ (by decide +kernel)) ggX3_tell_X3_copyAt
set_option maxRecDepth 20000 in
theorem ggX3_tell_X2_hasMessage : GoodIn wsX3_tell wsX2_hasMessage := goodIn_r _ [12, 13, 153, 154, 155, 156, 157, 158, 159, 160, 161, 162, 163, 164, 165] (by decide +kernel) (by decide +kernel)
set_option maxRecDepth 20000 in
theorem gX3_tell_X2_hasMessage : GoodIn wsX3_tell (wsV RX3 81 RX2 yX2_hasMessage wsX2_hasMessage) := goodIn_app (goodIn_of _ (by decide +kernel)) ggX3_tell_X2_hasMessage
set_option maxRecDepth 20000 in
theorem ggX3_tell_X0_startCall : GoodIn wsX3_tell wsX0_startCall := goodIn_r _ [18, 19, 20, 134, 135, 136, 137, 138, 139, 140, 141, 142, 143, 144, 145] (by decide +kernel) (by decide +kernel)
set_option maxRecDepth 20000 in
theorem gX3_tell_X0_startCall : GoodIn wsX3_tell (wsV RX3 85 RX0 yX0_startCall wsX0_startCall) := goodIn_app (goodIn_of _ (by decide +kernel)) ggX3_tell_X0_startCall
set_option maxRecDepth 20000 in
theorem ggX3_tell_X0_hear : GoodIn wsX3_tell wsX0_hear := goodIn_r _ [24, 25, 26, 27, 9, 10, 11, 12, 13, 28, 29, 30, 17, 31, 32, 33, 34, 35, 36, 37, 38, 39, 40, 41, 42, 43, 44, 45, 46, 47, 48, 49, 50, 51, 52, 53, 54, 55, 56, 57, 58, 59, 60, 61, 62, 63, 64, 65, 66, 67, 68, 69, 70, 71, 72, 73, 74, 75, 76, 77, 78, 79, 80, 81, 82, 83, 84, 85, 86, 87, 88, 89, 90, 91, 92, 19, 93, 94, 95, 96, 97, 98, 99, 100, 101, 102, 103, 104, 105, 106, 107, 108, 109, 110, 111, 112, 113, 114, 115, 116, 117, 118, 119, 20, 120, 121, 122, 123, 124, 125, 126, 127, 128, 134, 135, 136, 137, 138, 139, 140, 141, 142, 143, 144, 145, 153, 154, 155, 156, 157, 158, 159, 160, 161, 162, 163, 164, 165] (by decide +kernel) (by decide +kernel)
set_option maxRecDepth 20000 in
theorem gX3_tell_X0_hear : GoodIn wsX3_tell (wsV RX3 88 RX0 yX0_hear wsX0_hear) := goodIn_app (goodIn_of _ (by decide +kernel)) ggX3_tell_X0_hear
set_option maxRecDepth 20000 in
theorem ggX3_tell_X0_endCall : GoodIn wsX3_tell wsX0_endCall := goodIn_r _ [132, 20, 19, 133, 134, 135, 136, 137, 138, 139, 140, 141, 142, 143, 144, 145] (by decide +kernel) (by decide +kernel)
set_option maxRecDepth 20000 in
theorem gX3_tell_X0_endCall : GoodIn wsX3_tell (wsV RX3 91 RX0 yX0_endCall wsX0_endCall) := goodIn_app (goodIn_of _ (by decide +kernel)) ggX3_tell_X0_endCall
theorem dX3_tell_0 : decode cX3_tell 0 = .ok (.aload_n 0, 1) := by decide +kernel
theorem dX3_tell_1 : decode cX3_tell 1 = .ok (.iload_n 1, 1) := by decide +kernel
theorem dX3_tell_2 : decode cX3_tell 2 = .ok (.iload_n 2, 1) := by decide +kernel
theorem dX3_tell_3 : decode cX3_tell 3 = .ok (.invokevirtual 48, 3) := by decide +kernel
theorem dX3_tell_6 : decode cX3_tell 6 = .ok (.astore 4, 2) := by decide +kernel
theorem dX3_tell_8 : decode cX3_tell 8 = .ok (.aload 4, 2) := by decide +kernel
theorem dX3_tell_10 : decode cX3_tell 10 = .ok (.ifnull 15, 3) := by decide +kernel
theorem dX3_tell_13 : decode cX3_tell 13 = .ok (.aload 4, 2) := by decide +kernel
theorem dX3_tell_15 : decode cX3_tell 15 = .ok (.getfield 62, 3) := by decide +kernel
theorem dX3_tell_18 : decode cX3_tell 18 = .ok (.iload_n 3, 1) := by decide +kernel
theorem dX3_tell_19 : decode cX3_tell 19 = .ok (.invokevirtual 81, 3) := by decide +kernel
theorem dX3_tell_22 : decode cX3_tell 22 = .ok (.ifCond .ne 5, 3) := by decide +kernel
theorem dX3_tell_25 : decode cX3_tell 25 = .ok (.iconst (-1), 1) := by decide +kernel
theorem dX3_tell_26 : decode cX3_tell 26 = .ok (.ireturn, 1) := by decide +kernel
theorem dX3_tell_27 : decode cX3_tell 27 = .ok (.aload 4, 2) := by decide +kernel
theorem dX3_tell_29 : decode cX3_tell 29 = .ok (.invokevirtual 85, 3) := by decide +kernel
theorem dX3_tell_32 : decode cX3_tell 32 = .ok (.aload 4, 2) := by decide +kernel
theorem dX3_tell_34 : decode cX3_tell 34 = .ok (.iload_n 3, 1) := by decide +kernel
theorem dX3_tell_35 : decode cX3_tell 35 = .ok (.invokevirtual 88, 3) := by decide +kernel
theorem dX3_tell_38 : decode cX3_tell 38 = .ok (.istore 5, 2) := by decide +kernel
theorem dX3_tell_40 : decode cX3_tell 40 = .ok (.aload 4, 2) := by decide +kernel
theorem dX3_tell_42 : decode cX3_tell 42 = .ok (.invokevirtual 91, 3) := by decide +kernel
theorem dX3_tell_45 : decode cX3_tell 45 = .ok (.iload 5, 2) := by decide +kernel
theorem dX3_tell_47 : decode cX3_tell 47 = .ok (.ireturn, 1) := by decide +kernel
set_option maxRecDepth 20000 in
theorem ggX3_share_X3_copyAt : GoodIn wsX3_share wsX3_copyAt := goodIn_r _ [7, 8, 160, 161, 162, 163, 164, 165, 166] (by decide +kernel) (by decide +kernel)
set_option maxRecDepth 20000 in
theorem gX3_share_X3_copyAt : GoodIn wsX3_share (wsV RX3 48 RX3 yX3_copyAt wsX3_copyAt) := goodIn_app (goodIn_of _ (by decide +kernel)) ggX3_share_X3_copyAt
set_option maxRecDepth 20000 in
theorem ggX3_share_X0_startCall : GoodIn wsX3_share wsX0_startCall := goodIn_r _ [13, 14, 15, 135, 136, 137, 138, 139, 140, 141, 142, 143, 144, 145, 146] (by decide +kernel) (by decide +kernel)
set_option maxRecDepth 20000 in
theorem gX3_share_X0_startCall : GoodIn wsX3_share (wsV RX3 85 RX0 yX0_startCall wsX0_startCall) := goodIn_app (goodIn_of _ (by decide +kernel)) ggX3_share_X0_startCall
set_option maxRecDepth 20000 in
theorem ggX3_share_X0_stateOf : GoodIn wsX3_share wsX0_stateOf := goodIn_r _ [19, 20, 135, 136, 137, 138, 139, 140, 141, 142, 143, 144, 145, 146] (by decide +kernel) (by decide +kernel)
set_option maxRecDepth 20000 in
theorem gX3_share_X0_stateOf : GoodIn wsX3_share (wsV RX3 97 RX0 yX0_stateOf wsX0_stateOf) := goodIn_app (goodIn_of _ (by decide +kernel)) ggX3_share_X0_stateOf
set_option maxRecDepth 20000 in
theorem ggX3_share_X0_hear : GoodIn wsX3_share wsX0_hear := goodIn_r _ [24, 25, 26, 27, 28, 29, 30, 31, 32, 33, 17, 18, 12, 19, 20, 34, 35, 36, 37, 38, 39, 40, 41, 42, 43, 44, 45, 46, 47, 48, 49, 50, 51, 52, 53, 54, 55, 56, 57, 58, 59, 60, 61, 62, 63, 64, 65, 66, 67, 68, 69, 70, 71, 72, 73, 74, 75, 76, 77, 78, 79, 80, 81, 82, 83, 84, 85, 86, 87, 88, 89, 90, 91, 92, 93, 14, 94, 95, 96, 97, 98, 99, 100, 101, 102, 103, 104, 105, 106, 107, 108, 109, 110, 111, 112, 113, 114, 115, 116, 117, 118, 119, 120, 15, 121, 122, 123, 124, 125, 126, 127, 128, 129, 135, 136, 137, 138, 139, 140, 141, 142, 143, 144, 145, 146, 147, 148, 149, 150, 151, 152, 153, 154, 155, 156, 157, 158, 159] (by decide +kernel) (by decide +kernel)
set_option maxRecDepth 20000 in
theorem gX3_share_X0_hear : GoodIn wsX3_share (wsV RX3 88 RX0 yX0_hear wsX0_hear) := goodIn_app (goodIn_of _ (by decide +kernel)) ggX3_share_X0_hear
set_option maxRecDepth 20000 in
theorem ggX3_share_X0_endCall : GoodIn wsX3_share wsX0_endCall := goodIn_r _ [133, 15, 14, 134, 135, 136, 137, 138, 139, 140, 141, 142, 143, 144, 145, 146] (by decide +kernel) (by decide +kernel)
set_option maxRecDepth 20000 in
theorem gX3_share_X0_endCall : GoodIn wsX3_share (wsV RX3 91 RX0 yX0_endCall wsX0_endCall) := goodIn_app (goodIn_of _ (by decide +kernel)) ggX3_share_X0_endCall
theorem dX3_share_0 : decode cX3_share 0 = .ok (.aload_n 0, 1) := by decide +kernel
theorem dX3_share_1 : decode cX3_share 1 = .ok (.iload_n 1, 1) := by decide +kernel
theorem dX3_share_2 : decode cX3_share 2 = .ok (.iload_n 2, 1) := by decide +kernel
theorem dX3_share_3 : decode cX3_share 3 = .ok (.invokevirtual 48, 3) := by decide +kernel
theorem dX3_share_6 : decode cX3_share 6 = .ok (.astore 5, 2) := by decide +kernel
theorem dX3_share_8 : decode cX3_share 8 = .ok (.aload_n 0, 1) := by decide +kernel
theorem dX3_share_9 : decode cX3_share 9 = .ok (.iload_n 1, 1) := by decide +kernel
theorem dX3_share_10 : decode cX3_share 10 = .ok (.iload_n 3, 1) := by decide +kernel
theorem dX3_share_11 : decode cX3_share 11 = .ok (.invokevirtual 48, 3) := by decide +kernel
theorem dX3_share_14 : decode cX3_share 14 = .ok (.astore 6, 2) := by decide +kernel
theorem dX3_share_16 : decode cX3_share 16 = .ok (.aload 5, 2) := by decide +kernel
theorem dX3_share_18 : decode cX3_share 18 = .ok (.ifnull 8, 3) := by decide +kernel
theorem dX3_share_21 : decode cX3_share 21 = .ok (.aload 6, 2) := by decide +kernel
theorem dX3_share_23 : decode cX3_share 23 = .ok (.ifnonnull 5, 3) := by decide +kernel
theorem dX3_share_26 : decode cX3_share 26 = .ok (.iconst (-1), 1) := by decide +kernel
theorem dX3_share_27 : decode cX3_share 27 = .ok (.ireturn, 1) := by decide +kernel
theorem dX3_share_28 : decode cX3_share 28 = .ok (.aload 6, 2) := by decide +kernel
theorem dX3_share_30 : decode cX3_share 30 = .ok (.invokevirtual 85, 3) := by decide +kernel
theorem dX3_share_33 : decode cX3_share 33 = .ok (.iconst 0, 1) := by decide +kernel
theorem dX3_share_34 : decode cX3_share 34 = .ok (.istore 7, 2) := by decide +kernel
theorem dX3_share_36 : decode cX3_share 36 = .ok (.aload 5, 2) := by decide +kernel
theorem dX3_share_38 : decode cX3_share 38 = .ok (.getfield 62, 3) := by decide +kernel
theorem dX3_share_41 : decode cX3_share 41 = .ok (.getfield 94, 3) := by decide +kernel
theorem dX3_share_44 : decode cX3_share 44 = .ok (.istore 8, 2) := by decide +kernel
theorem dX3_share_46 : decode cX3_share 46 = .ok (.iconst 0, 1) := by decide +kernel
theorem dX3_share_47 : decode cX3_share 47 = .ok (.istore 9, 2) := by decide +kernel
theorem dX3_share_49 : decode cX3_share 49 = .ok (.iload 9, 2) := by decide +kernel
theorem dX3_share_51 : decode cX3_share 51 = .ok (.iload 8, 2) := by decide +kernel
theorem dX3_share_53 : decode cX3_share 53 = .ok (.if_icmp .ge 51, 3) := by decide +kernel
theorem dX3_share_56 : decode cX3_share 56 = .ok (.iload 4, 2) := by decide +kernel
theorem dX3_share_58 : decode cX3_share 58 = .ok (.ifCond .eq 13, 3) := by decide +kernel
theorem dX3_share_61 : decode cX3_share 61 = .ok (.iload 8, 2) := by decide +kernel
theorem dX3_share_63 : decode cX3_share 63 = .ok (.iconst 1, 1) := by decide +kernel
theorem dX3_share_64 : decode cX3_share 64 = .ok (.isub, 1) := by decide +kernel
theorem dX3_share_65 : decode cX3_share 65 = .ok (.iload 9, 2) := by decide +kernel
theorem dX3_share_67 : decode cX3_share 67 = .ok (.isub, 1) := by decide +kernel
theorem dX3_share_68 : decode cX3_share 68 = .ok (.goto 5, 3) := by decide +kernel
theorem dX3_share_71 : decode cX3_share 71 = .ok (.iload 9, 2) := by decide +kernel
theorem dX3_share_73 : decode cX3_share 73 = .ok (.istore 10, 2) := by decide +kernel
theorem dX3_share_75 : decode cX3_share 75 = .ok (.aload 5, 2) := by decide +kernel
theorem dX3_share_77 : decode cX3_share 77 = .ok (.iload 10, 2) := by decide +kernel
theorem dX3_share_79 : decode cX3_share 79 = .ok (.invokevirtual 97, 3) := by decide +kernel
theorem dX3_share_82 : decode cX3_share 82 = .ok (.iconst 2, 1) := by decide +kernel
theorem dX3_share_83 : decode cX3_share 83 = .ok (.if_icmp .ne 15, 3) := by decide +kernel
theorem dX3_share_86 : decode cX3_share 86 = .ok (.iload 7, 2) := by decide +kernel
theorem dX3_share_88 : decode cX3_share 88 = .ok (.aload 6, 2) := by decide +kernel
theorem dX3_share_90 : decode cX3_share 90 = .ok (.iload 10, 2) := by decide +kernel
theorem dX3_share_92 : decode cX3_share 92 = .ok (.invokevirtual 88, 3) := by decide +kernel
theorem dX3_share_95 : decode cX3_share 95 = .ok (.iadd, 1) := by decide +kernel
theorem dX3_share_96 : decode cX3_share 96 = .ok (.istore 7, 2) := by decide +kernel
theorem dX3_share_98 : decode cX3_share 98 = .ok (.iinc 9 1, 3) := by decide +kernel
theorem dX3_share_101 : decode cX3_share 101 = .ok (.goto (-52), 3) := by decide +kernel
theorem dX3_share_104 : decode cX3_share 104 = .ok (.aload 6, 2) := by decide +kernel
theorem dX3_share_106 : decode cX3_share 106 = .ok (.invokevirtual 91, 3) := by decide +kernel
theorem dX3_share_109 : decode cX3_share 109 = .ok (.iload 7, 2) := by decide +kernel
theorem dX3_share_111 : decode cX3_share 111 = .ok (.ireturn, 1) := by decide +kernel
set_option maxRecDepth 20000 in
theorem ggX3_look_X3_copyAt : GoodIn wsX3_look wsX3_copyAt := goodIn_r _ [13, 14, 40, 41, 42, 43, 44, 45, 46] (by decide +kernel) (by decide +kernel)
set_option maxRecDepth 20000 in
theorem gX3_look_X3_copyAt : GoodIn wsX3_look (wsV RX3 48 RX3 yX3_copyAt wsX3_copyAt) := goodIn_app (goodIn_of _ (by decide +kernel)) ggX3_look_X3_copyAt
theorem dX3_look_0 : decode cX3_look 0 = .ok (.aload_n 0, 1) := by decide +kernel
theorem dX3_look_1 : decode cX3_look 1 = .ok (.iload_n 1, 1) := by decide +kernel
theorem dX3_look_2 : decode cX3_look 2 = .ok (.iload_n 2, 1) := by decide +kernel
theorem dX3_look_3 : decode cX3_look 3 = .ok (.invokevirtual 48, 3) := by decide +kernel
theorem dX3_look_6 : decode cX3_look 6 = .ok (.astore 4, 2) := by decide +kernel
theorem dX3_look_8 : decode cX3_look 8 = .ok (.aload 4, 2) := by decide +kernel
theorem dX3_look_10 : decode cX3_look 10 = .ok (.ifnonnull 5, 3) := by decide +kernel
theorem dX3_look_13 : decode cX3_look 13 = .ok (.iconst (-1), 1) := by decide +kernel
theorem dX3_look_14 : decode cX3_look 14 = .ok (.ireturn, 1) := by decide +kernel
theorem dX3_look_15 : decode cX3_look 15 = .ok (.iload_n 3, 1) := by decide +kernel
theorem dX3_look_16 : decode cX3_look 16 = .ok (.tableswitch 92 0 6 #[44, 53, 62, 68, 74, 80, 86], 44) := by decide +kernel
theorem dX3_look_60 : decode cX3_look 60 = .ok (.aload 4, 2) := by decide +kernel
theorem dX3_look_62 : decode cX3_look 62 = .ok (.getfield 62, 3) := by decide +kernel
theorem dX3_look_65 : decode cX3_look 65 = .ok (.getfield 94, 3) := by decide +kernel
theorem dX3_look_68 : decode cX3_look 68 = .ok (.ireturn, 1) := by decide +kernel
theorem dX3_look_69 : decode cX3_look 69 = .ok (.aload 4, 2) := by decide +kernel
theorem dX3_look_71 : decode cX3_look 71 = .ok (.getfield 62, 3) := by decide +kernel
theorem dX3_look_74 : decode cX3_look 74 = .ok (.getfield 100, 3) := by decide +kernel
theorem dX3_look_77 : decode cX3_look 77 = .ok (.ireturn, 1) := by decide +kernel
theorem dX3_look_78 : decode cX3_look 78 = .ok (.aload 4, 2) := by decide +kernel
theorem dX3_look_80 : decode cX3_look 80 = .ok (.getfield 103, 3) := by decide +kernel
theorem dX3_look_83 : decode cX3_look 83 = .ok (.ireturn, 1) := by decide +kernel
theorem dX3_look_84 : decode cX3_look 84 = .ok (.aload 4, 2) := by decide +kernel
theorem dX3_look_86 : decode cX3_look 86 = .ok (.getfield 52, 3) := by decide +kernel
theorem dX3_look_89 : decode cX3_look 89 = .ok (.ireturn, 1) := by decide +kernel
theorem dX3_look_90 : decode cX3_look 90 = .ok (.aload 4, 2) := by decide +kernel
theorem dX3_look_92 : decode cX3_look 92 = .ok (.getfield 106, 3) := by decide +kernel
theorem dX3_look_95 : decode cX3_look 95 = .ok (.ireturn, 1) := by decide +kernel
theorem dX3_look_96 : decode cX3_look 96 = .ok (.aload 4, 2) := by decide +kernel
theorem dX3_look_98 : decode cX3_look 98 = .ok (.getfield 109, 3) := by decide +kernel
theorem dX3_look_101 : decode cX3_look 101 = .ok (.ireturn, 1) := by decide +kernel
theorem dX3_look_102 : decode cX3_look 102 = .ok (.aload 4, 2) := by decide +kernel
theorem dX3_look_104 : decode cX3_look 104 = .ok (.getfield 112, 3) := by decide +kernel
theorem dX3_look_107 : decode cX3_look 107 = .ok (.ireturn, 1) := by decide +kernel
theorem dX3_look_108 : decode cX3_look 108 = .ok (.iconst (-1), 1) := by decide +kernel
theorem dX3_look_109 : decode cX3_look 109 = .ok (.ireturn, 1) := by decide +kernel
set_option maxRecDepth 20000 in
theorem ggX3_message_X3_textAt : GoodIn wsX3_message wsX3_textAt := goodIn_r _ [5, 6, 54, 55, 56, 57, 58, 59, 60] (by decide +kernel) (by decide +kernel)
set_option maxRecDepth 20000 in
theorem gX3_message_X3_textAt : GoodIn wsX3_message (wsV RX3 115 RX3 yX3_textAt wsX3_textAt) := goodIn_app (goodIn_of _ (by decide +kernel)) ggX3_message_X3_textAt
set_option maxRecDepth 20000 in
theorem ggX3_message_X2_hasMessage : GoodIn wsX3_message wsX2_hasMessage := goodIn_r _ [11, 12, 61, 62, 63, 64, 65, 66, 67, 68, 69, 70, 71, 72, 73] (by decide +kernel) (by decide +kernel)
set_option maxRecDepth 20000 in
theorem gX3_message_X2_hasMessage : GoodIn wsX3_message (wsV RX3 81 RX2 yX2_hasMessage wsX2_hasMessage) := goodIn_app (goodIn_of _ (by decide +kernel)) ggX3_message_X2_hasMessage
set_option maxRecDepth 20000 in
theorem ggX3_message_X2_subjectOf : GoodIn wsX3_message wsX2_subjectOf := goodIn_r _ [16, 17, 18, 8, 9, 10, 11, 12, 61, 62, 63, 64, 65, 66, 67, 68, 69, 70, 71, 72, 73] (by decide +kernel) (by decide +kernel)
set_option maxRecDepth 20000 in
theorem gX3_message_X2_subjectOf : GoodIn wsX3_message (wsV RX3 119 RX2 yX2_subjectOf wsX2_subjectOf) := goodIn_app (goodIn_of _ (by decide +kernel)) ggX3_message_X2_subjectOf
set_option maxRecDepth 20000 in
theorem ggX3_message_X2_kindOf : GoodIn wsX3_message wsX2_kindOf := goodIn_r _ [22, 23, 18, 8, 9, 10, 11, 12, 61, 62, 63, 64, 65, 66, 67, 68, 69, 70, 71, 72, 73] (by decide +kernel) (by decide +kernel)
set_option maxRecDepth 20000 in
theorem gX3_message_X2_kindOf : GoodIn wsX3_message (wsV RX3 122 RX2 yX2_kindOf wsX2_kindOf) := goodIn_app (goodIn_of _ (by decide +kernel)) ggX3_message_X2_kindOf
set_option maxRecDepth 20000 in
theorem ggX3_message_X2_makerOf : GoodIn wsX3_message wsX2_makerOf := goodIn_r _ [27, 28, 18, 8, 9, 10, 11, 12, 61, 62, 63, 64, 65, 66, 67, 68, 69, 70, 71, 72, 73] (by decide +kernel) (by decide +kernel)
set_option maxRecDepth 20000 in
theorem gX3_message_X2_makerOf : GoodIn wsX3_message (wsV RX3 125 RX2 yX2_makerOf wsX2_makerOf) := goodIn_app (goodIn_of _ (by decide +kernel)) ggX3_message_X2_makerOf
set_option maxRecDepth 20000 in
theorem ggX3_message_X2_markOf : GoodIn wsX3_message wsX2_markOf := goodIn_r _ [32, 33, 34, 35, 36, 10, 37, 38, 61, 62, 63, 64, 65, 66, 67, 68, 69, 70, 71, 72, 73] (by decide +kernel) (by decide +kernel)
set_option maxRecDepth 20000 in
theorem gX3_message_X2_markOf : GoodIn wsX3_message (wsV RX3 128 RX2 yX2_markOf wsX2_markOf) := goodIn_app (goodIn_of _ (by decide +kernel)) ggX3_message_X2_markOf
set_option maxRecDepth 20000 in
theorem ggX3_message_X2_leftOf : GoodIn wsX3_message wsX2_leftOf := goodIn_r _ [42, 43, 34, 35, 36, 10, 37, 38, 61, 62, 63, 64, 65, 66, 67, 68, 69, 70, 71, 72, 73] (by decide +kernel) (by decide +kernel)
set_option maxRecDepth 20000 in
theorem gX3_message_X2_leftOf : GoodIn wsX3_message (wsV RX3 131 RX2 yX2_leftOf wsX2_leftOf) := goodIn_app (goodIn_of _ (by decide +kernel)) ggX3_message_X2_leftOf
set_option maxRecDepth 20000 in
theorem ggX3_message_X2_rightOf : GoodIn wsX3_message wsX2_rightOf := goodIn_r _ [47, 48, 34, 35, 36, 10, 37, 38, 61, 62, 63, 64, 65, 66, 67, 68, 69, 70, 71, 72, 73] (by decide +kernel) (by decide +kernel)
set_option maxRecDepth 20000 in
theorem gX3_message_X2_rightOf : GoodIn wsX3_message (wsV RX3 134 RX2 yX2_rightOf wsX2_rightOf) := goodIn_app (goodIn_of _ (by decide +kernel)) ggX3_message_X2_rightOf
set_option maxRecDepth 20000 in
theorem ggX3_message_X2_letterOf : GoodIn wsX3_message wsX2_letterOf := goodIn_r _ [52, 53, 34, 35, 36, 10, 37, 38, 61, 62, 63, 64, 65, 66, 67, 68, 69, 70, 71, 72, 73] (by decide +kernel) (by decide +kernel)
set_option maxRecDepth 20000 in
theorem gX3_message_X2_letterOf : GoodIn wsX3_message (wsV RX3 137 RX2 yX2_letterOf wsX2_letterOf) := goodIn_app (goodIn_of _ (by decide +kernel)) ggX3_message_X2_letterOf
theorem dX3_message_0 : decode cX3_message 0 = .ok (.aload_n 0, 1) := by decide +kernel
theorem dX3_message_1 : decode cX3_message 1 = .ok (.iload_n 1, 1) := by decide +kernel
theorem dX3_message_2 : decode cX3_message 2 = .ok (.invokevirtual 115, 3) := by decide +kernel
theorem dX3_message_5 : decode cX3_message 5 = .ok (.astore 4, 2) := by decide +kernel
theorem dX3_message_7 : decode cX3_message 7 = .ok (.aload 4, 2) := by decide +kernel
theorem dX3_message_9 : decode cX3_message 9 = .ok (.ifnull 12, 3) := by decide +kernel
theorem dX3_message_12 : decode cX3_message 12 = .ok (.aload 4, 2) := by decide +kernel
theorem dX3_message_14 : decode cX3_message 14 = .ok (.iload_n 2, 1) := by decide +kernel
theorem dX3_message_15 : decode cX3_message 15 = .ok (.invokevirtual 81, 3) := by decide +kernel
theorem dX3_message_18 : decode cX3_message 18 = .ok (.ifCond .ne 5, 3) := by decide +kernel
theorem dX3_message_21 : decode cX3_message 21 = .ok (.iconst (-1), 1) := by decide +kernel
theorem dX3_message_22 : decode cX3_message 22 = .ok (.ireturn, 1) := by decide +kernel
theorem dX3_message_23 : decode cX3_message 23 = .ok (.aload 4, 2) := by decide +kernel
theorem dX3_message_25 : decode cX3_message 25 = .ok (.iload_n 2, 1) := by decide +kernel
theorem dX3_message_26 : decode cX3_message 26 = .ok (.invokevirtual 119, 3) := by decide +kernel
theorem dX3_message_29 : decode cX3_message 29 = .ok (.istore 5, 2) := by decide +kernel
theorem dX3_message_31 : decode cX3_message 31 = .ok (.iload_n 3, 1) := by decide +kernel
theorem dX3_message_32 : decode cX3_message 32 = .ok (.tableswitch 96 0 5 #[40, 47, 54, 62, 75, 88], 40) := by decide +kernel
theorem dX3_message_72 : decode cX3_message 72 = .ok (.aload 4, 2) := by decide +kernel
theorem dX3_message_74 : decode cX3_message 74 = .ok (.iload_n 2, 1) := by decide +kernel
theorem dX3_message_75 : decode cX3_message 75 = .ok (.invokevirtual 122, 3) := by decide +kernel
theorem dX3_message_78 : decode cX3_message 78 = .ok (.ireturn, 1) := by decide +kernel
theorem dX3_message_79 : decode cX3_message 79 = .ok (.aload 4, 2) := by decide +kernel
theorem dX3_message_81 : decode cX3_message 81 = .ok (.iload_n 2, 1) := by decide +kernel
theorem dX3_message_82 : decode cX3_message 82 = .ok (.invokevirtual 125, 3) := by decide +kernel
theorem dX3_message_85 : decode cX3_message 85 = .ok (.ireturn, 1) := by decide +kernel
theorem dX3_message_86 : decode cX3_message 86 = .ok (.aload 4, 2) := by decide +kernel
theorem dX3_message_88 : decode cX3_message 88 = .ok (.iload 5, 2) := by decide +kernel
theorem dX3_message_90 : decode cX3_message 90 = .ok (.invokevirtual 128, 3) := by decide +kernel
theorem dX3_message_93 : decode cX3_message 93 = .ok (.ireturn, 1) := by decide +kernel
theorem dX3_message_94 : decode cX3_message 94 = .ok (.aload 4, 2) := by decide +kernel
theorem dX3_message_96 : decode cX3_message 96 = .ok (.aload 4, 2) := by decide +kernel
theorem dX3_message_98 : decode cX3_message 98 = .ok (.iload 5, 2) := by decide +kernel
theorem dX3_message_100 : decode cX3_message 100 = .ok (.invokevirtual 131, 3) := by decide +kernel
theorem dX3_message_103 : decode cX3_message 103 = .ok (.invokevirtual 128, 3) := by decide +kernel
theorem dX3_message_106 : decode cX3_message 106 = .ok (.ireturn, 1) := by decide +kernel
theorem dX3_message_107 : decode cX3_message 107 = .ok (.aload 4, 2) := by decide +kernel
theorem dX3_message_109 : decode cX3_message 109 = .ok (.aload 4, 2) := by decide +kernel
theorem dX3_message_111 : decode cX3_message 111 = .ok (.iload 5, 2) := by decide +kernel
theorem dX3_message_113 : decode cX3_message 113 = .ok (.invokevirtual 134, 3) := by decide +kernel
theorem dX3_message_116 : decode cX3_message 116 = .ok (.invokevirtual 128, 3) := by decide +kernel
theorem dX3_message_119 : decode cX3_message 119 = .ok (.ireturn, 1) := by decide +kernel
theorem dX3_message_120 : decode cX3_message 120 = .ok (.aload 4, 2) := by decide +kernel
theorem dX3_message_122 : decode cX3_message 122 = .ok (.iload 5, 2) := by decide +kernel
theorem dX3_message_124 : decode cX3_message 124 = .ok (.invokevirtual 137, 3) := by decide +kernel
theorem dX3_message_127 : decode cX3_message 127 = .ok (.ireturn, 1) := by decide +kernel
theorem dX3_message_128 : decode cX3_message 128 = .ok (.iconst (-1), 1) := by decide +kernel
theorem dX3_message_129 : decode cX3_message 129 = .ok (.ireturn, 1) := by decide +kernel
set_option maxRecDepth 20000 in
theorem ggX3_state_X3_copyAt : GoodIn wsX3_state wsX3_copyAt := goodIn_r _ [6, 7, 32, 33, 34, 35, 36, 37, 38] (by decide +kernel) (by decide +kernel)
set_option maxRecDepth 20000 in
theorem gX3_state_X3_copyAt : GoodIn wsX3_state (wsV RX3 48 RX3 yX3_copyAt wsX3_copyAt) := goodIn_app (goodIn_of _ (by decide +kernel)) ggX3_state_X3_copyAt
set_option maxRecDepth 20000 in
theorem ggX3_state_X2_hasMessage : GoodIn wsX3_state wsX2_hasMessage := goodIn_r _ [12, 13, 39, 40, 41, 42, 43, 44, 45, 46, 47, 48, 49, 50, 51] (by decide +kernel) (by decide +kernel)
set_option maxRecDepth 20000 in
theorem gX3_state_X2_hasMessage : GoodIn wsX3_state (wsV RX3 81 RX2 yX2_hasMessage wsX2_hasMessage) := goodIn_app (goodIn_of _ (by decide +kernel)) ggX3_state_X2_hasMessage
set_option maxRecDepth 20000 in
theorem ggX3_state_X0_stateOf : GoodIn wsX3_state wsX0_stateOf := goodIn_r _ [18, 19, 20, 21, 22, 23, 24, 25, 26, 27, 28, 29, 30, 31] (by decide +kernel) (by decide +kernel)
set_option maxRecDepth 20000 in
theorem gX3_state_X0_stateOf : GoodIn wsX3_state (wsV RX3 97 RX0 yX0_stateOf wsX0_stateOf) := goodIn_app (goodIn_of _ (by decide +kernel)) ggX3_state_X0_stateOf
theorem dX3_state_0 : decode cX3_state 0 = .ok (.aload_n 0, 1) := by decide +kernel
theorem dX3_state_1 : decode cX3_state 1 = .ok (.iload_n 1, 1) := by decide +kernel
theorem dX3_state_2 : decode cX3_state 2 = .ok (.iload_n 2, 1) := by decide +kernel
theorem dX3_state_3 : decode cX3_state 3 = .ok (.invokevirtual 48, 3) := by decide +kernel
theorem dX3_state_6 : decode cX3_state 6 = .ok (.astore 4, 2) := by decide +kernel
theorem dX3_state_8 : decode cX3_state 8 = .ok (.aload 4, 2) := by decide +kernel
theorem dX3_state_10 : decode cX3_state 10 = .ok (.ifnull 15, 3) := by decide +kernel
theorem dX3_state_13 : decode cX3_state 13 = .ok (.aload 4, 2) := by decide +kernel
theorem dX3_state_15 : decode cX3_state 15 = .ok (.getfield 62, 3) := by decide +kernel
theorem dX3_state_18 : decode cX3_state 18 = .ok (.iload_n 3, 1) := by decide +kernel
theorem dX3_state_19 : decode cX3_state 19 = .ok (.invokevirtual 81, 3) := by decide +kernel
theorem dX3_state_22 : decode cX3_state 22 = .ok (.ifCond .ne 5, 3) := by decide +kernel
theorem dX3_state_25 : decode cX3_state 25 = .ok (.iconst (-1), 1) := by decide +kernel
theorem dX3_state_26 : decode cX3_state 26 = .ok (.ireturn, 1) := by decide +kernel
theorem dX3_state_27 : decode cX3_state 27 = .ok (.aload 4, 2) := by decide +kernel
theorem dX3_state_29 : decode cX3_state 29 = .ok (.iload_n 3, 1) := by decide +kernel
theorem dX3_state_30 : decode cX3_state 30 = .ok (.invokevirtual 97, 3) := by decide +kernel
theorem dX3_state_33 : decode cX3_state 33 = .ok (.ireturn, 1) := by decide +kernel
set_option maxRecDepth 20000 in
theorem ggX3_character_X3_copyAt : GoodIn wsX3_character wsX3_copyAt := goodIn_r _ [7, 8, 64, 65, 66, 67, 68, 69, 70] (by decide +kernel) (by decide +kernel)
set_option maxRecDepth 20000 in
theorem gX3_character_X3_copyAt : GoodIn wsX3_character (wsV RX3 48 RX3 yX3_copyAt wsX3_copyAt) := goodIn_app (goodIn_of _ (by decide +kernel)) ggX3_character_X3_copyAt
set_option maxRecDepth 20000 in
theorem ggX3_character_X0_characterAt : GoodIn wsX3_character wsX0_characterAt := goodIn_r _ [13, 14, 15, 52, 53, 54, 55, 56, 57, 58, 59, 60, 61, 62, 63] (by decide +kernel) (by decide +kernel)
set_option maxRecDepth 20000 in
theorem gX3_character_X0_characterAt : GoodIn wsX3_character (wsV RX3 140 RX0 yX0_characterAt wsX0_characterAt) := goodIn_app (goodIn_of _ (by decide +kernel)) ggX3_character_X0_characterAt
set_option maxRecDepth 20000 in
theorem ggX3_character_X2_markOf : GoodIn wsX3_character wsX2_markOf := goodIn_r _ [20, 21, 22, 23, 24, 19, 25, 26, 71, 72, 73, 74, 75, 76, 77, 78, 79, 80, 81, 82, 83] (by decide +kernel) (by decide +kernel)
end
section
set_option maxRecDepth 20000 in
theorem gX3_character_X2_markOf : GoodIn wsX3_character (wsV RX3 128 RX2 yX2_markOf wsX2_markOf) := goodIn_app (goodIn_of _ (by decide +kernel)) ggX3_character_X2_markOf
set_option maxRecDepth 20000 in
theorem ggX3_character_X2_letterOf : GoodIn wsX3_character wsX2_letterOf := goodIn_r _ [30, 31, 22, 23, 24, 19, 25, 26, 71, 72, 73, 74, 75, 76, 77, 78, 79, 80, 81, 82, 83] (by decide +kernel) (by decide +kernel)
set_option maxRecDepth 20000 in
theorem gX3_character_X2_letterOf : GoodIn wsX3_character (wsV RX3 137 RX2 yX2_letterOf wsX2_letterOf) := goodIn_app (goodIn_of _ (by decide +kernel)) ggX3_character_X2_letterOf
set_option maxRecDepth 20000 in
theorem ggX3_character_X0_isSeen : GoodIn wsX3_character wsX0_isSeen := goodIn_r _ [35, 36, 37, 52, 53, 54, 55, 56, 57, 58, 59, 60, 61, 62, 63] (by decide +kernel) (by decide +kernel)
set_option maxRecDepth 20000 in
theorem gX3_character_X0_isSeen : GoodIn wsX3_character (wsV RX3 143 RX0 yX0_isSeen wsX0_isSeen) := goodIn_app (goodIn_of _ (by decide +kernel)) ggX3_character_X0_isSeen
set_option maxRecDepth 20000 in
theorem ggX3_character_X2_leftOf : GoodIn wsX3_character wsX2_leftOf := goodIn_r _ [41, 42, 22, 23, 24, 19, 25, 26, 71, 72, 73, 74, 75, 76, 77, 78, 79, 80, 81, 82, 83] (by decide +kernel) (by decide +kernel)
set_option maxRecDepth 20000 in
theorem gX3_character_X2_leftOf : GoodIn wsX3_character (wsV RX3 131 RX2 yX2_leftOf wsX2_leftOf) := goodIn_app (goodIn_of _ (by decide +kernel)) ggX3_character_X2_leftOf
set_option maxRecDepth 20000 in
theorem ggX3_character_X0_placeOf : GoodIn wsX3_character wsX0_placeOf := goodIn_r _ [46, 36, 14, 52, 53, 54, 55, 56, 57, 58, 59, 60, 61, 62, 63] (by decide +kernel) (by decide +kernel)
set_option maxRecDepth 20000 in
theorem gX3_character_X0_placeOf : GoodIn wsX3_character (wsV RX3 146 RX0 yX0_placeOf wsX0_placeOf) := goodIn_app (goodIn_of _ (by decide +kernel)) ggX3_character_X0_placeOf
set_option maxRecDepth 20000 in
theorem ggX3_character_X2_rightOf : GoodIn wsX3_character wsX2_rightOf := goodIn_r _ [50, 51, 22, 23, 24, 19, 25, 26, 71, 72, 73, 74, 75, 76, 77, 78, 79, 80, 81, 82, 83] (by decide +kernel) (by decide +kernel)
set_option maxRecDepth 20000 in
theorem gX3_character_X2_rightOf : GoodIn wsX3_character (wsV RX3 134 RX2 yX2_rightOf wsX2_rightOf) := goodIn_app (goodIn_of _ (by decide +kernel)) ggX3_character_X2_rightOf
theorem dX3_character_0 : decode cX3_character 0 = .ok (.aload_n 0, 1) := by decide +kernel
theorem dX3_character_1 : decode cX3_character 1 = .ok (.iload_n 1, 1) := by decide +kernel
theorem dX3_character_2 : decode cX3_character 2 = .ok (.iload_n 2, 1) := by decide +kernel
theorem dX3_character_3 : decode cX3_character 3 = .ok (.invokevirtual 48, 3) := by decide +kernel
theorem dX3_character_6 : decode cX3_character 6 = .ok (.astore 5, 2) := by decide +kernel
theorem dX3_character_8 : decode cX3_character 8 = .ok (.aload 5, 2) := by decide +kernel
theorem dX3_character_10 : decode cX3_character 10 = .ok (.ifnull 16, 3) := by decide +kernel
theorem dX3_character_13 : decode cX3_character 13 = .ok (.iload_n 3, 1) := by decide +kernel
theorem dX3_character_14 : decode cX3_character 14 = .ok (.ifCond .lt 12, 3) := by decide +kernel
theorem dX3_character_17 : decode cX3_character 17 = .ok (.iload_n 3, 1) := by decide +kernel
theorem dX3_character_18 : decode cX3_character 18 = .ok (.aload 5, 2) := by decide +kernel
theorem dX3_character_20 : decode cX3_character 20 = .ok (.getfield 103, 3) := by decide +kernel
theorem dX3_character_23 : decode cX3_character 23 = .ok (.if_icmp .lt 5, 3) := by decide +kernel
theorem dX3_character_26 : decode cX3_character 26 = .ok (.iconst (-1), 1) := by decide +kernel
theorem dX3_character_27 : decode cX3_character 27 = .ok (.ireturn, 1) := by decide +kernel
theorem dX3_character_28 : decode cX3_character 28 = .ok (.aload 5, 2) := by decide +kernel
theorem dX3_character_30 : decode cX3_character 30 = .ok (.iload_n 3, 1) := by decide +kernel
theorem dX3_character_31 : decode cX3_character 31 = .ok (.invokevirtual 140, 3) := by decide +kernel
theorem dX3_character_34 : decode cX3_character 34 = .ok (.istore 6, 2) := by decide +kernel
theorem dX3_character_36 : decode cX3_character 36 = .ok (.iload 4, 2) := by decide +kernel
theorem dX3_character_38 : decode cX3_character 38 = .ok (.tableswitch 104 0 4 #[34, 45, 56, 72, 88], 34) := by decide +kernel
theorem dX3_character_72 : decode cX3_character 72 = .ok (.aload 5, 2) := by decide +kernel
theorem dX3_character_74 : decode cX3_character 74 = .ok (.getfield 62, 3) := by decide +kernel
theorem dX3_character_77 : decode cX3_character 77 = .ok (.iload 6, 2) := by decide +kernel
theorem dX3_character_79 : decode cX3_character 79 = .ok (.invokevirtual 128, 3) := by decide +kernel
theorem dX3_character_82 : decode cX3_character 82 = .ok (.ireturn, 1) := by decide +kernel
theorem dX3_character_83 : decode cX3_character 83 = .ok (.aload 5, 2) := by decide +kernel
theorem dX3_character_85 : decode cX3_character 85 = .ok (.getfield 62, 3) := by decide +kernel
theorem dX3_character_88 : decode cX3_character 88 = .ok (.iload 6, 2) := by decide +kernel
theorem dX3_character_90 : decode cX3_character 90 = .ok (.invokevirtual 137, 3) := by decide +kernel
theorem dX3_character_93 : decode cX3_character 93 = .ok (.ireturn, 1) := by decide +kernel
theorem dX3_character_94 : decode cX3_character 94 = .ok (.aload 5, 2) := by decide +kernel
theorem dX3_character_96 : decode cX3_character 96 = .ok (.iload 6, 2) := by decide +kernel
theorem dX3_character_98 : decode cX3_character 98 = .ok (.invokevirtual 143, 3) := by decide +kernel
theorem dX3_character_101 : decode cX3_character 101 = .ok (.ifCond .eq 7, 3) := by decide +kernel
theorem dX3_character_104 : decode cX3_character 104 = .ok (.iconst 1, 1) := by decide +kernel
theorem dX3_character_105 : decode cX3_character 105 = .ok (.goto 4, 3) := by decide +kernel
theorem dX3_character_108 : decode cX3_character 108 = .ok (.iconst 0, 1) := by decide +kernel
theorem dX3_character_109 : decode cX3_character 109 = .ok (.ireturn, 1) := by decide +kernel
theorem dX3_character_110 : decode cX3_character 110 = .ok (.aload 5, 2) := by decide +kernel
theorem dX3_character_112 : decode cX3_character 112 = .ok (.aload 5, 2) := by decide +kernel
theorem dX3_character_114 : decode cX3_character 114 = .ok (.getfield 62, 3) := by decide +kernel
theorem dX3_character_117 : decode cX3_character 117 = .ok (.iload 6, 2) := by decide +kernel
theorem dX3_character_119 : decode cX3_character 119 = .ok (.invokevirtual 131, 3) := by decide +kernel
theorem dX3_character_122 : decode cX3_character 122 = .ok (.invokevirtual 146, 3) := by decide +kernel
theorem dX3_character_125 : decode cX3_character 125 = .ok (.ireturn, 1) := by decide +kernel
theorem dX3_character_126 : decode cX3_character 126 = .ok (.aload 5, 2) := by decide +kernel
theorem dX3_character_128 : decode cX3_character 128 = .ok (.aload 5, 2) := by decide +kernel
theorem dX3_character_130 : decode cX3_character 130 = .ok (.getfield 62, 3) := by decide +kernel
theorem dX3_character_133 : decode cX3_character 133 = .ok (.iload 6, 2) := by decide +kernel
theorem dX3_character_135 : decode cX3_character 135 = .ok (.invokevirtual 134, 3) := by decide +kernel
theorem dX3_character_138 : decode cX3_character 138 = .ok (.invokevirtual 146, 3) := by decide +kernel
theorem dX3_character_141 : decode cX3_character 141 = .ok (.ireturn, 1) := by decide +kernel
theorem dX3_character_142 : decode cX3_character 142 = .ok (.iconst (-1), 1) := by decide +kernel
theorem dX3_character_143 : decode cX3_character 143 = .ok (.ireturn, 1) := by decide +kernel
set_option maxRecDepth 20000 in
theorem ggX3_write_X3_copyAt : GoodIn wsX3_write wsX3_copyAt := goodIn_r _ [9, 10, 47, 48, 49, 50, 51, 52, 53] (by decide +kernel) (by decide +kernel)
set_option maxRecDepth 20000 in
theorem gX3_write_X3_copyAt : GoodIn wsX3_write (wsV RX3 48 RX3 yX3_copyAt wsX3_copyAt) := goodIn_app (goodIn_of _ (by decide +kernel)) ggX3_write_X3_copyAt
set_option maxRecDepth 20000 in
theorem ggX3_write_X0_characterAt : GoodIn wsX3_write wsX0_characterAt := goodIn_r _ [15, 16, 17, 35, 36, 37, 38, 39, 40, 41, 42, 43, 44, 45, 46] (by decide +kernel) (by decide +kernel)
set_option maxRecDepth 20000 in
theorem gX3_write_X0_characterAt : GoodIn wsX3_write (wsV RX3 140 RX0 yX0_characterAt wsX0_characterAt) := goodIn_app (goodIn_of _ (by decide +kernel)) ggX3_write_X0_characterAt
set_option maxRecDepth 20000 in
theorem ggX3_write_X0_isSeen : GoodIn wsX3_write wsX0_isSeen := goodIn_r _ [21, 22, 23, 35, 36, 37, 38, 39, 40, 41, 42, 43, 44, 45, 46] (by decide +kernel) (by decide +kernel)
set_option maxRecDepth 20000 in
theorem gX3_write_X0_isSeen : GoodIn wsX3_write (wsV RX3 143 RX0 yX0_isSeen wsX0_isSeen) := goodIn_app (goodIn_of _ (by decide +kernel)) ggX3_write_X0_isSeen
set_option maxRecDepth 20000 in
theorem ggX3_write_X2_letterOf : GoodIn wsX3_write wsX2_letterOf := goodIn_r _ [28, 29, 30, 31, 32, 27, 33, 34, 54, 55, 56, 57, 58, 59, 60, 61, 62, 63, 64, 65, 66] (by decide +kernel) (by decide +kernel)
set_option maxRecDepth 20000 in
theorem gX3_write_X2_letterOf : GoodIn wsX3_write (wsV RX3 137 RX2 yX2_letterOf wsX2_letterOf) := goodIn_app (goodIn_of _ (by decide +kernel)) ggX3_write_X2_letterOf
theorem dX3_write_0 : decode cX3_write 0 = .ok (.aload_n 0, 1) := by decide +kernel
theorem dX3_write_1 : decode cX3_write 1 = .ok (.iload_n 1, 1) := by decide +kernel
theorem dX3_write_2 : decode cX3_write 2 = .ok (.iload_n 2, 1) := by decide +kernel
theorem dX3_write_3 : decode cX3_write 3 = .ok (.invokevirtual 48, 3) := by decide +kernel
theorem dX3_write_6 : decode cX3_write 6 = .ok (.astore_n 3, 1) := by decide +kernel
theorem dX3_write_7 : decode cX3_write 7 = .ok (.aload_n 3, 1) := by decide +kernel
theorem dX3_write_8 : decode cX3_write 8 = .ok (.ifnonnull 5, 3) := by decide +kernel
theorem dX3_write_11 : decode cX3_write 11 = .ok (.iconst (-1), 1) := by decide +kernel
theorem dX3_write_12 : decode cX3_write 12 = .ok (.ireturn, 1) := by decide +kernel
theorem dX3_write_13 : decode cX3_write 13 = .ok (.iconst 0, 1) := by decide +kernel
theorem dX3_write_14 : decode cX3_write 14 = .ok (.istore 4, 2) := by decide +kernel
theorem dX3_write_16 : decode cX3_write 16 = .ok (.iconst 0, 1) := by decide +kernel
theorem dX3_write_17 : decode cX3_write 17 = .ok (.istore 5, 2) := by decide +kernel
theorem dX3_write_19 : decode cX3_write 19 = .ok (.iload 5, 2) := by decide +kernel
theorem dX3_write_21 : decode cX3_write 21 = .ok (.aload_n 3, 1) := by decide +kernel
theorem dX3_write_22 : decode cX3_write 22 = .ok (.getfield 103, 3) := by decide +kernel
theorem dX3_write_25 : decode cX3_write 25 = .ok (.if_icmp .ge 55, 3) := by decide +kernel
theorem dX3_write_28 : decode cX3_write 28 = .ok (.aload_n 3, 1) := by decide +kernel
theorem dX3_write_29 : decode cX3_write 29 = .ok (.iload 5, 2) := by decide +kernel
theorem dX3_write_31 : decode cX3_write 31 = .ok (.invokevirtual 140, 3) := by decide +kernel
theorem dX3_write_34 : decode cX3_write 34 = .ok (.istore 6, 2) := by decide +kernel
theorem dX3_write_36 : decode cX3_write 36 = .ok (.aload_n 3, 1) := by decide +kernel
theorem dX3_write_37 : decode cX3_write 37 = .ok (.iload 6, 2) := by decide +kernel
theorem dX3_write_39 : decode cX3_write 39 = .ok (.invokevirtual 143, 3) := by decide +kernel
theorem dX3_write_42 : decode cX3_write 42 = .ok (.ifCond .eq 32, 3) := by decide +kernel
theorem dX3_write_45 : decode cX3_write 45 = .ok (.iload 4, 2) := by decide +kernel
theorem dX3_write_47 : decode cX3_write 47 = .ok (.aload_n 0, 1) := by decide +kernel
theorem dX3_write_48 : decode cX3_write 48 = .ok (.getfield 41, 3) := by decide +kernel
theorem dX3_write_51 : decode cX3_write 51 = .ok (.arraylength, 1) := by decide +kernel
theorem dX3_write_52 : decode cX3_write 52 = .ok (.if_icmp .ge 22, 3) := by decide +kernel
theorem dX3_write_55 : decode cX3_write 55 = .ok (.aload_n 0, 1) := by decide +kernel
theorem dX3_write_56 : decode cX3_write 56 = .ok (.getfield 41, 3) := by decide +kernel
theorem dX3_write_59 : decode cX3_write 59 = .ok (.iload 4, 2) := by decide +kernel
theorem dX3_write_61 : decode cX3_write 61 = .ok (.aload_n 3, 1) := by decide +kernel
theorem dX3_write_62 : decode cX3_write 62 = .ok (.getfield 62, 3) := by decide +kernel
theorem dX3_write_65 : decode cX3_write 65 = .ok (.iload 6, 2) := by decide +kernel
theorem dX3_write_67 : decode cX3_write 67 = .ok (.invokevirtual 137, 3) := by decide +kernel
theorem dX3_write_70 : decode cX3_write 70 = .ok (.iastore, 1) := by decide +kernel
theorem dX3_write_71 : decode cX3_write 71 = .ok (.iinc 4 1, 3) := by decide +kernel
theorem dX3_write_74 : decode cX3_write 74 = .ok (.iinc 5 1, 3) := by decide +kernel
theorem dX3_write_77 : decode cX3_write 77 = .ok (.goto (-58), 3) := by decide +kernel
theorem dX3_write_80 : decode cX3_write 80 = .ok (.aload_n 0, 1) := by decide +kernel
theorem dX3_write_81 : decode cX3_write 81 = .ok (.iload 4, 2) := by decide +kernel
theorem dX3_write_83 : decode cX3_write 83 = .ok (.putfield 44, 3) := by decide +kernel
theorem dX3_write_86 : decode cX3_write 86 = .ok (.iload 4, 2) := by decide +kernel
theorem dX3_write_88 : decode cX3_write 88 = .ok (.ireturn, 1) := by decide +kernel
theorem dX3_out_0 : decode cX3_out 0 = .ok (.iload_n 1, 1) := by decide +kernel
theorem dX3_out_1 : decode cX3_out 1 = .ok (.ifCond .lt 20, 3) := by decide +kernel
theorem dX3_out_4 : decode cX3_out 4 = .ok (.iload_n 1, 1) := by decide +kernel
theorem dX3_out_5 : decode cX3_out 5 = .ok (.aload_n 0, 1) := by decide +kernel
theorem dX3_out_6 : decode cX3_out 6 = .ok (.getfield 44, 3) := by decide +kernel
theorem dX3_out_9 : decode cX3_out 9 = .ok (.if_icmp .ge 12, 3) := by decide +kernel
theorem dX3_out_12 : decode cX3_out 12 = .ok (.iload_n 1, 1) := by decide +kernel
theorem dX3_out_13 : decode cX3_out 13 = .ok (.aload_n 0, 1) := by decide +kernel
theorem dX3_out_14 : decode cX3_out 14 = .ok (.getfield 41, 3) := by decide +kernel
theorem dX3_out_17 : decode cX3_out 17 = .ok (.arraylength, 1) := by decide +kernel
theorem dX3_out_18 : decode cX3_out 18 = .ok (.if_icmp .lt 5, 3) := by decide +kernel
theorem dX3_out_21 : decode cX3_out 21 = .ok (.iconst (-1), 1) := by decide +kernel
theorem dX3_out_22 : decode cX3_out 22 = .ok (.ireturn, 1) := by decide +kernel
theorem dX3_out_23 : decode cX3_out 23 = .ok (.aload_n 0, 1) := by decide +kernel
theorem dX3_out_24 : decode cX3_out 24 = .ok (.getfield 41, 3) := by decide +kernel
theorem dX3_out_27 : decode cX3_out 27 = .ok (.iload_n 1, 1) := by decide +kernel
theorem dX3_out_28 : decode cX3_out 28 = .ok (.iaload, 1) := by decide +kernel
theorem dX3_out_29 : decode cX3_out 29 = .ok (.ireturn, 1) := by decide +kernel
set_option maxRecDepth 20000 in
theorem ggX3_same_X3_copyAt : GoodIn wsX3_same wsX3_copyAt := goodIn_r _ [5, 6, 24, 25, 26, 27, 28, 29, 30] (by decide +kernel) (by decide +kernel)
set_option maxRecDepth 20000 in
theorem gX3_same_X3_copyAt : GoodIn wsX3_same (wsV RX3 48 RX3 yX3_copyAt wsX3_copyAt) := goodIn_app (goodIn_of _ (by decide +kernel)) ggX3_same_X3_copyAt
set_option maxRecDepth 20000 in
theorem ggX3_same_X0_isLike : GoodIn wsX3_same wsX0_isLike := goodIn_r _ [11, 12, 13, 14, 15, 10, 16, 17, 18, 19, 20, 21, 22, 23, 31, 32, 33, 34, 35, 36, 37, 38, 39, 40, 41, 42] (by decide +kernel) (by decide +kernel)
set_option maxRecDepth 20000 in
theorem gX3_same_X0_isLike : GoodIn wsX3_same (wsV RX3 149 RX0 yX0_isLike wsX0_isLike) := goodIn_app (goodIn_of _ (by decide +kernel)) ggX3_same_X0_isLike
theorem dX3_same_0 : decode cX3_same 0 = .ok (.aload_n 0, 1) := by decide +kernel
theorem dX3_same_1 : decode cX3_same 1 = .ok (.iload_n 1, 1) := by decide +kernel
theorem dX3_same_2 : decode cX3_same 2 = .ok (.iload_n 2, 1) := by decide +kernel
theorem dX3_same_3 : decode cX3_same 3 = .ok (.invokevirtual 48, 3) := by decide +kernel
theorem dX3_same_6 : decode cX3_same 6 = .ok (.astore 4, 2) := by decide +kernel
theorem dX3_same_8 : decode cX3_same 8 = .ok (.aload_n 0, 1) := by decide +kernel
theorem dX3_same_9 : decode cX3_same 9 = .ok (.iload_n 1, 1) := by decide +kernel
theorem dX3_same_10 : decode cX3_same 10 = .ok (.iload_n 3, 1) := by decide +kernel
theorem dX3_same_11 : decode cX3_same 11 = .ok (.invokevirtual 48, 3) := by decide +kernel
theorem dX3_same_14 : decode cX3_same 14 = .ok (.astore 5, 2) := by decide +kernel
theorem dX3_same_16 : decode cX3_same 16 = .ok (.aload 4, 2) := by decide +kernel
theorem dX3_same_18 : decode cX3_same 18 = .ok (.ifnull 22, 3) := by decide +kernel
theorem dX3_same_21 : decode cX3_same 21 = .ok (.aload 5, 2) := by decide +kernel
theorem dX3_same_23 : decode cX3_same 23 = .ok (.ifnull 17, 3) := by decide +kernel
theorem dX3_same_26 : decode cX3_same 26 = .ok (.aload 4, 2) := by decide +kernel
theorem dX3_same_28 : decode cX3_same 28 = .ok (.aload 5, 2) := by decide +kernel
theorem dX3_same_30 : decode cX3_same 30 = .ok (.invokevirtual 149, 3) := by decide +kernel
theorem dX3_same_33 : decode cX3_same 33 = .ok (.ifCond .eq 7, 3) := by decide +kernel
theorem dX3_same_36 : decode cX3_same 36 = .ok (.iconst 1, 1) := by decide +kernel
theorem dX3_same_37 : decode cX3_same 37 = .ok (.goto 4, 3) := by decide +kernel
theorem dX3_same_40 : decode cX3_same 40 = .ok (.iconst 0, 1) := by decide +kernel
theorem dX3_same_41 : decode cX3_same 41 = .ok (.ireturn, 1) := by decide +kernel
set_option maxRecDepth 20000 in
theorem ggX3_shuffle_X3_copyAt : GoodIn wsX3_shuffle wsX3_copyAt := goodIn_r _ [7, 8, 163, 164, 165, 166, 167, 168, 169] (by decide +kernel) (by decide +kernel)
set_option maxRecDepth 20000 in
theorem gX3_shuffle_X3_copyAt : GoodIn wsX3_shuffle (wsV RX3 48 RX3 yX3_copyAt wsX3_copyAt) := goodIn_app (goodIn_of _ (by decide +kernel)) ggX3_shuffle_X3_copyAt
set_option maxRecDepth 20000 in
theorem ggX3_shuffle_X3_spareOf : GoodIn wsX3_shuffle wsX3_spareOf := goodIn_r _ [12, 13, 163, 164, 165, 166, 167, 168, 169] (by decide +kernel) (by decide +kernel)
set_option maxRecDepth 20000 in
theorem gX3_shuffle_X3_spareOf : GoodIn wsX3_shuffle (wsV RX3 153 RX3 yX3_spareOf wsX3_spareOf) := goodIn_app (goodIn_of _ (by decide +kernel)) ggX3_shuffle_X3_spareOf
set_option maxRecDepth 20000 in
theorem ggX3_shuffle_X0_makeEmpty : GoodIn wsX3_shuffle wsX0_makeEmpty := goodIn_r _ [18, 19, 20, 21, 22, 23, 24, 25, 26, 27, 28, 151, 152, 153, 154, 155, 156, 157, 158, 159, 160, 161, 162] (by decide +kernel) (by decide +kernel)
set_option maxRecDepth 20000 in
theorem gX3_shuffle_X0_makeEmpty : GoodIn wsX3_shuffle (wsV RX3 157 RX0 yX0_makeEmpty wsX0_makeEmpty) := goodIn_app (goodIn_of _ (by decide +kernel)) ggX3_shuffle_X0_makeEmpty
set_option maxRecDepth 20000 in
theorem ggX3_shuffle_X3_listDone : GoodIn wsX3_shuffle wsX3_listDone := goodIn_r _ [32, 33, 34, 35, 36, 37, 38, 17, 39, 21, 151, 152, 153, 154, 155, 156, 157, 158, 159, 160, 161, 162, 170, 171, 172, 173, 174, 175, 176, 177, 178, 179, 180, 181, 182, 163, 164, 165, 166, 167, 168, 169] (by decide +kernel) (by decide +kernel)
set_option maxRecDepth 20000 in
theorem gX3_shuffle_X3_listDone : GoodIn wsX3_shuffle (wsV RX3 160 RX3 yX3_listDone wsX3_listDone) := goodIn_app (goodIn_of _ (by decide +kernel)) ggX3_shuffle_X3_listDone
set_option maxRecDepth 20000 in
theorem ggX3_shuffle_X3_takeDrawn : GoodIn wsX3_shuffle wsX3_takeDrawn := goodIn_r _ [43, 35, 163, 164, 165, 166, 167, 168, 169] (by decide +kernel) (by decide +kernel)
set_option maxRecDepth 20000 in
theorem gX3_shuffle_X3_takeDrawn : GoodIn wsX3_shuffle (wsV RX3 165 RX3 yX3_takeDrawn wsX3_takeDrawn) := goodIn_app (goodIn_of _ (by decide +kernel)) ggX3_shuffle_X3_takeDrawn
set_option maxRecDepth 20000 in
theorem ggX3_shuffle_X0_hear : GoodIn wsX3_shuffle wsX0_hear := goodIn_r _ [47, 48, 25, 49, 50, 51, 52, 53, 54, 55, 37, 38, 17, 39, 21, 56, 57, 58, 59, 60, 61, 62, 63, 64, 65, 66, 67, 68, 69, 70, 71, 72, 73, 74, 19, 22, 75, 76, 77, 78, 79, 80, 81, 82, 83, 84, 85, 86, 87, 88, 89, 90, 91, 92, 93, 94, 95, 96, 97, 24, 98, 99, 100, 101, 102, 20, 23, 103, 104, 105, 106, 107, 108, 109, 110, 27, 111, 112, 113, 114, 115, 116, 117, 118, 119, 120, 121, 122, 123, 124, 125, 126, 127, 128, 129, 130, 131, 132, 133, 134, 135, 136, 137, 28, 138, 139, 140, 141, 142, 143, 144, 145, 146, 151, 152, 153, 154, 155, 156, 157, 158, 159, 160, 161, 162, 170, 171, 172, 173, 174, 175, 176, 177, 178, 179, 180, 181, 182] (by decide +kernel) (by decide +kernel)
set_option maxRecDepth 20000 in
theorem gX3_shuffle_X0_hear : GoodIn wsX3_shuffle (wsV RX3 88 RX0 yX0_hear wsX0_hear) := goodIn_app (goodIn_of _ (by decide +kernel)) ggX3_shuffle_X0_hear
set_option maxRecDepth 20000 in
theorem ggX3_shuffle_X0_isLike : GoodIn wsX3_shuffle wsX0_isLike := goodIn_r _ [150, 22, 116, 117, 118, 17, 119, 120, 103, 104, 105, 106, 19, 20, 151, 152, 153, 154, 155, 156, 157, 158, 159, 160, 161, 162] (by decide +kernel) (by decide +kernel)
set_option maxRecDepth 20000 in
theorem gX3_shuffle_X0_isLike : GoodIn wsX3_shuffle (wsV RX3 149 RX0 yX0_isLike wsX0_isLike) := goodIn_app (goodIn_of _ (by decide +kernel)) ggX3_shuffle_X0_isLike
theorem dX3_shuffle_0 : decode cX3_shuffle 0 = .ok (.aload_n 0, 1) := by decide +kernel
theorem dX3_shuffle_1 : decode cX3_shuffle 1 = .ok (.iload_n 1, 1) := by decide +kernel
theorem dX3_shuffle_2 : decode cX3_shuffle 2 = .ok (.iload_n 2, 1) := by decide +kernel
theorem dX3_shuffle_3 : decode cX3_shuffle 3 = .ok (.invokevirtual 48, 3) := by decide +kernel
theorem dX3_shuffle_6 : decode cX3_shuffle 6 = .ok (.astore 4, 2) := by decide +kernel
theorem dX3_shuffle_8 : decode cX3_shuffle 8 = .ok (.aload_n 0, 1) := by decide +kernel
theorem dX3_shuffle_9 : decode cX3_shuffle 9 = .ok (.iload_n 1, 1) := by decide +kernel
theorem dX3_shuffle_10 : decode cX3_shuffle 10 = .ok (.invokevirtual 153, 3) := by decide +kernel
theorem dX3_shuffle_13 : decode cX3_shuffle 13 = .ok (.astore 5, 2) := by decide +kernel
theorem dX3_shuffle_15 : decode cX3_shuffle 15 = .ok (.aload 4, 2) := by decide +kernel
theorem dX3_shuffle_17 : decode cX3_shuffle 17 = .ok (.ifnull 8, 3) := by decide +kernel
theorem dX3_shuffle_20 : decode cX3_shuffle 20 = .ok (.aload 5, 2) := by decide +kernel
theorem dX3_shuffle_22 : decode cX3_shuffle 22 = .ok (.ifnonnull 5, 3) := by decide +kernel
theorem dX3_shuffle_25 : decode cX3_shuffle 25 = .ok (.iconst 0, 1) := by decide +kernel
theorem dX3_shuffle_26 : decode cX3_shuffle 26 = .ok (.ireturn, 1) := by decide +kernel
theorem dX3_shuffle_27 : decode cX3_shuffle 27 = .ok (.aload 5, 2) := by decide +kernel
theorem dX3_shuffle_29 : decode cX3_shuffle 29 = .ok (.invokevirtual 157, 3) := by decide +kernel
theorem dX3_shuffle_32 : decode cX3_shuffle 32 = .ok (.iload_n 3, 1) := by decide +kernel
theorem dX3_shuffle_33 : decode cX3_shuffle 33 = .ok (.istore 6, 2) := by decide +kernel
theorem dX3_shuffle_35 : decode cX3_shuffle 35 = .ok (.aload_n 0, 1) := by decide +kernel
theorem dX3_shuffle_36 : decode cX3_shuffle 36 = .ok (.aload 4, 2) := by decide +kernel
theorem dX3_shuffle_38 : decode cX3_shuffle 38 = .ok (.invokevirtual 160, 3) := by decide +kernel
theorem dX3_shuffle_41 : decode cX3_shuffle 41 = .ok (.istore 7, 2) := by decide +kernel
theorem dX3_shuffle_43 : decode cX3_shuffle 43 = .ok (.iload 7, 2) := by decide +kernel
theorem dX3_shuffle_45 : decode cX3_shuffle 45 = .ok (.ifCond .le 44, 3) := by decide +kernel
theorem dX3_shuffle_48 : decode cX3_shuffle 48 = .ok (.iload 6, 2) := by decide +kernel
theorem dX3_shuffle_50 : decode cX3_shuffle 50 = .ok (.ldc 164, 2) := by decide +kernel
theorem dX3_shuffle_52 : decode cX3_shuffle 52 = .ok (.imul, 1) := by decide +kernel
theorem dX3_shuffle_53 : decode cX3_shuffle 53 = .ok (.sipush 12345, 3) := by decide +kernel
theorem dX3_shuffle_56 : decode cX3_shuffle 56 = .ok (.iadd, 1) := by decide +kernel
theorem dX3_shuffle_57 : decode cX3_shuffle 57 = .ok (.istore 6, 2) := by decide +kernel
theorem dX3_shuffle_59 : decode cX3_shuffle 59 = .ok (.aload_n 0, 1) := by decide +kernel
theorem dX3_shuffle_60 : decode cX3_shuffle 60 = .ok (.iload 6, 2) := by decide +kernel
theorem dX3_shuffle_62 : decode cX3_shuffle 62 = .ok (.bipush 16, 2) := by decide +kernel
theorem dX3_shuffle_64 : decode cX3_shuffle 64 = .ok (.iushr, 1) := by decide +kernel
theorem dX3_shuffle_65 : decode cX3_shuffle 65 = .ok (.iload 7, 2) := by decide +kernel
theorem dX3_shuffle_67 : decode cX3_shuffle 67 = .ok (.irem, 1) := by decide +kernel
theorem dX3_shuffle_68 : decode cX3_shuffle 68 = .ok (.iload 7, 2) := by decide +kernel
theorem dX3_shuffle_70 : decode cX3_shuffle 70 = .ok (.invokevirtual 165, 3) := by decide +kernel
theorem dX3_shuffle_73 : decode cX3_shuffle 73 = .ok (.istore 8, 2) := by decide +kernel
theorem dX3_shuffle_75 : decode cX3_shuffle 75 = .ok (.aload 5, 2) := by decide +kernel
theorem dX3_shuffle_77 : decode cX3_shuffle 77 = .ok (.iload 8, 2) := by decide +kernel
theorem dX3_shuffle_79 : decode cX3_shuffle 79 = .ok (.invokevirtual 88, 3) := by decide +kernel
theorem dX3_shuffle_82 : decode cX3_shuffle 82 = .ok (.pop, 1) := by decide +kernel
theorem dX3_shuffle_83 : decode cX3_shuffle 83 = .ok (.iinc 7 (-1), 3) := by decide +kernel
theorem dX3_shuffle_86 : decode cX3_shuffle 86 = .ok (.goto (-43), 3) := by decide +kernel
theorem dX3_shuffle_89 : decode cX3_shuffle 89 = .ok (.aload 5, 2) := by decide +kernel
theorem dX3_shuffle_91 : decode cX3_shuffle 91 = .ok (.getfield 109, 3) := by decide +kernel
theorem dX3_shuffle_94 : decode cX3_shuffle 94 = .ok (.ifCond .ne 17, 3) := by decide +kernel
theorem dX3_shuffle_97 : decode cX3_shuffle 97 = .ok (.aload 5, 2) := by decide +kernel
theorem dX3_shuffle_99 : decode cX3_shuffle 99 = .ok (.aload 4, 2) := by decide +kernel
theorem dX3_shuffle_101 : decode cX3_shuffle 101 = .ok (.invokevirtual 149, 3) := by decide +kernel
theorem dX3_shuffle_104 : decode cX3_shuffle 104 = .ok (.ifCond .eq 7, 3) := by decide +kernel
theorem dX3_shuffle_107 : decode cX3_shuffle 107 = .ok (.iconst 1, 1) := by decide +kernel
theorem dX3_shuffle_108 : decode cX3_shuffle 108 = .ok (.goto 4, 3) := by decide +kernel
theorem dX3_shuffle_111 : decode cX3_shuffle 111 = .ok (.iconst 0, 1) := by decide +kernel
theorem dX3_shuffle_112 : decode cX3_shuffle 112 = .ok (.ireturn, 1) := by decide +kernel
set_option maxRecDepth 20000 in
theorem ggX3_orders_X3_copyAt : GoodIn wsX3_orders wsX3_copyAt := goodIn_r _ [8, 9, 83, 84, 85, 86, 87, 88, 89] (by decide +kernel) (by decide +kernel)
set_option maxRecDepth 20000 in
theorem gX3_orders_X3_copyAt : GoodIn wsX3_orders (wsV RX3 48 RX3 yX3_copyAt wsX3_copyAt) := goodIn_app (goodIn_of _ (by decide +kernel)) ggX3_orders_X3_copyAt
set_option maxRecDepth 20000 in
theorem ggX3_orders_X1_countOf : GoodIn wsX3_orders wsX1_countOf := goodIn_r _ [14, 15, 16, 17, 13, 18, 19, 20, 21, 22, 23, 24, 25, 26, 27, 28, 29, 30, 31, 32, 33, 34, 35, 36, 37, 38, 39, 40, 41, 42, 43, 44, 45, 46, 47, 48, 49, 50, 51, 52, 53, 54, 55, 56, 57, 58, 59, 60, 61, 62, 63, 64, 65, 66, 67, 68, 69, 70, 71, 72, 73, 74, 75, 76, 77, 78, 79, 80, 81, 82, 90, 91, 92, 93, 94, 95, 96, 97, 98, 99, 100, 101, 102, 103, 104] (by decide +kernel) (by decide +kernel)
set_option maxRecDepth 20000 in
theorem gX3_orders_X1_countOf : GoodIn wsX3_orders (wsV RX3 170 RX1 yX1_countOf wsX1_countOf) := goodIn_app (goodIn_of _ (by decide +kernel)) ggX3_orders_X1_countOf
theorem dX3_orders_0 : decode cX3_orders 0 = .ok (.aload_n 0, 1) := by decide +kernel
theorem dX3_orders_1 : decode cX3_orders 1 = .ok (.iload_n 1, 1) := by decide +kernel
theorem dX3_orders_2 : decode cX3_orders 2 = .ok (.iload_n 2, 1) := by decide +kernel
theorem dX3_orders_3 : decode cX3_orders 3 = .ok (.invokevirtual 48, 3) := by decide +kernel
theorem dX3_orders_6 : decode cX3_orders 6 = .ok (.astore_n 3, 1) := by decide +kernel
theorem dX3_orders_7 : decode cX3_orders 7 = .ok (.aload_n 3, 1) := by decide +kernel
theorem dX3_orders_8 : decode cX3_orders 8 = .ok (.ifnull 12, 3) := by decide +kernel
theorem dX3_orders_11 : decode cX3_orders 11 = .ok (.aload_n 3, 1) := by decide +kernel
theorem dX3_orders_12 : decode cX3_orders 12 = .ok (.getfield 103, 3) := by decide +kernel
theorem dX3_orders_15 : decode cX3_orders 15 = .ok (.bipush 12, 2) := by decide +kernel
theorem dX3_orders_17 : decode cX3_orders 17 = .ok (.if_icmp .le 7, 3) := by decide +kernel
theorem dX3_orders_20 : decode cX3_orders 20 = .ok (.ldc2_w 168, 3) := by decide +kernel
theorem dX3_orders_23 : decode cX3_orders 23 = .ok (.lreturn, 1) := by decide +kernel
theorem dX3_orders_24 : decode cX3_orders 24 = .ok (.aload_n 0, 1) := by decide +kernel
theorem dX3_orders_25 : decode cX3_orders 25 = .ok (.getfield 33, 3) := by decide +kernel
theorem dX3_orders_28 : decode cX3_orders 28 = .ok (.aload_n 3, 1) := by decide +kernel
theorem dX3_orders_29 : decode cX3_orders 29 = .ok (.invokevirtual 170, 3) := by decide +kernel
theorem dX3_orders_32 : decode cX3_orders 32 = .ok (.lreturn, 1) := by decide +kernel
set_option maxRecDepth 20000 in
theorem ggX3_number_X3_copyAt : GoodIn wsX3_number wsX3_copyAt := goodIn_r _ [8, 9, 88, 89, 90, 91, 92, 93, 94] (by decide +kernel) (by decide +kernel)
set_option maxRecDepth 20000 in
theorem gX3_number_X3_copyAt : GoodIn wsX3_number (wsV RX3 48 RX3 yX3_copyAt wsX3_copyAt) := goodIn_app (goodIn_of _ (by decide +kernel)) ggX3_number_X3_copyAt
set_option maxRecDepth 20000 in
theorem ggX3_number_X1_rankOf : GoodIn wsX3_number wsX1_rankOf := goodIn_r _ [14, 15, 16, 17, 18, 19, 20, 21, 22, 23, 13, 24, 25, 26, 27, 28, 29, 30, 31, 32, 33, 34, 35, 36, 37, 38, 39, 40, 41, 42, 43, 44, 45, 46, 47, 48, 49, 50, 51, 52, 53, 54, 55, 56, 57, 58, 59, 60, 61, 62, 63, 64, 65, 66, 67, 68, 69, 70, 71, 72, 73, 74, 75, 76, 77, 78, 79, 80, 81, 82, 83, 84, 85, 86, 87, 95, 96, 97, 98, 99, 100, 101, 102, 103, 104, 105, 106, 107, 108, 109] (by decide +kernel) (by decide +kernel)
set_option maxRecDepth 20000 in
theorem gX3_number_X1_rankOf : GoodIn wsX3_number (wsV RX3 174 RX1 yX1_rankOf wsX1_rankOf) := goodIn_app (goodIn_of _ (by decide +kernel)) ggX3_number_X1_rankOf
theorem dX3_number_0 : decode cX3_number 0 = .ok (.aload_n 0, 1) := by decide +kernel
theorem dX3_number_1 : decode cX3_number 1 = .ok (.iload_n 1, 1) := by decide +kernel
theorem dX3_number_2 : decode cX3_number 2 = .ok (.iload_n 2, 1) := by decide +kernel
theorem dX3_number_3 : decode cX3_number 3 = .ok (.invokevirtual 48, 3) := by decide +kernel
theorem dX3_number_6 : decode cX3_number 6 = .ok (.astore_n 3, 1) := by decide +kernel
theorem dX3_number_7 : decode cX3_number 7 = .ok (.aload_n 3, 1) := by decide +kernel
theorem dX3_number_8 : decode cX3_number 8 = .ok (.ifnull 12, 3) := by decide +kernel
theorem dX3_number_11 : decode cX3_number 11 = .ok (.aload_n 3, 1) := by decide +kernel
theorem dX3_number_12 : decode cX3_number 12 = .ok (.getfield 103, 3) := by decide +kernel
theorem dX3_number_15 : decode cX3_number 15 = .ok (.bipush 12, 2) := by decide +kernel
theorem dX3_number_17 : decode cX3_number 17 = .ok (.if_icmp .le 7, 3) := by decide +kernel
theorem dX3_number_20 : decode cX3_number 20 = .ok (.ldc2_w 168, 3) := by decide +kernel
theorem dX3_number_23 : decode cX3_number 23 = .ok (.lreturn, 1) := by decide +kernel
theorem dX3_number_24 : decode cX3_number 24 = .ok (.aload_n 0, 1) := by decide +kernel
theorem dX3_number_25 : decode cX3_number 25 = .ok (.getfield 33, 3) := by decide +kernel
theorem dX3_number_28 : decode cX3_number 28 = .ok (.aload_n 3, 1) := by decide +kernel
theorem dX3_number_29 : decode cX3_number 29 = .ok (.invokevirtual 174, 3) := by decide +kernel
theorem dX3_number_32 : decode cX3_number 32 = .ok (.lreturn, 1) := by decide +kernel
theorem dX3_textAt_0 : decode cX3_textAt 0 = .ok (.iload_n 1, 1) := by decide +kernel
theorem dX3_textAt_1 : decode cX3_textAt 1 = .ok (.ifCond .lt 21, 3) := by decide +kernel
theorem dX3_textAt_4 : decode cX3_textAt 4 = .ok (.iload_n 1, 1) := by decide +kernel
theorem dX3_textAt_5 : decode cX3_textAt 5 = .ok (.aload_n 0, 1) := by decide +kernel
theorem dX3_textAt_6 : decode cX3_textAt 6 = .ok (.getfield 11, 3) := by decide +kernel
theorem dX3_textAt_9 : decode cX3_textAt 9 = .ok (.arraylength, 1) := by decide +kernel
theorem dX3_textAt_10 : decode cX3_textAt 10 = .ok (.if_icmp .ge 12, 3) := by decide +kernel
theorem dX3_textAt_13 : decode cX3_textAt 13 = .ok (.aload_n 0, 1) := by decide +kernel
theorem dX3_textAt_14 : decode cX3_textAt 14 = .ok (.getfield 11, 3) := by decide +kernel
theorem dX3_textAt_17 : decode cX3_textAt 17 = .ok (.iload_n 1, 1) := by decide +kernel
theorem dX3_textAt_18 : decode cX3_textAt 18 = .ok (.aaload, 1) := by decide +kernel
theorem dX3_textAt_19 : decode cX3_textAt 19 = .ok (.goto 4, 3) := by decide +kernel
theorem dX3_textAt_22 : decode cX3_textAt 22 = .ok (.aconst_null, 1) := by decide +kernel
theorem dX3_textAt_23 : decode cX3_textAt 23 = .ok (.areturn, 1) := by decide +kernel
theorem dX3_spareOf_0 : decode cX3_spareOf 0 = .ok (.iload_n 1, 1) := by decide +kernel
theorem dX3_spareOf_1 : decode cX3_spareOf 1 = .ok (.ifCond .lt 21, 3) := by decide +kernel
theorem dX3_spareOf_4 : decode cX3_spareOf 4 = .ok (.iload_n 1, 1) := by decide +kernel
theorem dX3_spareOf_5 : decode cX3_spareOf 5 = .ok (.aload_n 0, 1) := by decide +kernel
theorem dX3_spareOf_6 : decode cX3_spareOf 6 = .ok (.getfield 21, 3) := by decide +kernel
theorem dX3_spareOf_9 : decode cX3_spareOf 9 = .ok (.arraylength, 1) := by decide +kernel
theorem dX3_spareOf_10 : decode cX3_spareOf 10 = .ok (.if_icmp .ge 12, 3) := by decide +kernel
theorem dX3_spareOf_13 : decode cX3_spareOf 13 = .ok (.aload_n 0, 1) := by decide +kernel
theorem dX3_spareOf_14 : decode cX3_spareOf 14 = .ok (.getfield 21, 3) := by decide +kernel
theorem dX3_spareOf_17 : decode cX3_spareOf 17 = .ok (.iload_n 1, 1) := by decide +kernel
theorem dX3_spareOf_18 : decode cX3_spareOf 18 = .ok (.aaload, 1) := by decide +kernel
theorem dX3_spareOf_19 : decode cX3_spareOf 19 = .ok (.goto 4, 3) := by decide +kernel
theorem dX3_spareOf_22 : decode cX3_spareOf 22 = .ok (.aconst_null, 1) := by decide +kernel
theorem dX3_spareOf_23 : decode cX3_spareOf 23 = .ok (.areturn, 1) := by decide +kernel
theorem dX3_copyAt_0 : decode cX3_copyAt 0 = .ok (.iload_n 1, 1) := by decide +kernel
theorem dX3_copyAt_1 : decode cX3_copyAt 1 = .ok (.ifCond .lt 17, 3) := by decide +kernel
theorem dX3_copyAt_4 : decode cX3_copyAt 4 = .ok (.iload_n 1, 1) := by decide +kernel
theorem dX3_copyAt_5 : decode cX3_copyAt 5 = .ok (.iconst 2, 1) := by decide +kernel
theorem dX3_copyAt_6 : decode cX3_copyAt 6 = .ok (.if_icmp .ge 12, 3) := by decide +kernel
theorem dX3_copyAt_9 : decode cX3_copyAt 9 = .ok (.iload_n 2, 1) := by decide +kernel
theorem dX3_copyAt_10 : decode cX3_copyAt 10 = .ok (.ifCond .lt 8, 3) := by decide +kernel
theorem dX3_copyAt_13 : decode cX3_copyAt 13 = .ok (.iload_n 2, 1) := by decide +kernel
theorem dX3_copyAt_14 : decode cX3_copyAt 14 = .ok (.iconst 5, 1) := by decide +kernel
theorem dX3_copyAt_15 : decode cX3_copyAt 15 = .ok (.if_icmp .lt 5, 3) := by decide +kernel
theorem dX3_copyAt_18 : decode cX3_copyAt 18 = .ok (.aconst_null, 1) := by decide +kernel
theorem dX3_copyAt_19 : decode cX3_copyAt 19 = .ok (.areturn, 1) := by decide +kernel
theorem dX3_copyAt_20 : decode cX3_copyAt 20 = .ok (.iload_n 1, 1) := by decide +kernel
theorem dX3_copyAt_21 : decode cX3_copyAt 21 = .ok (.iconst 5, 1) := by decide +kernel
theorem dX3_copyAt_22 : decode cX3_copyAt 22 = .ok (.imul, 1) := by decide +kernel
theorem dX3_copyAt_23 : decode cX3_copyAt 23 = .ok (.iload_n 2, 1) := by decide +kernel
theorem dX3_copyAt_24 : decode cX3_copyAt 24 = .ok (.iadd, 1) := by decide +kernel
theorem dX3_copyAt_25 : decode cX3_copyAt 25 = .ok (.istore_n 3, 1) := by decide +kernel
theorem dX3_copyAt_26 : decode cX3_copyAt 26 = .ok (.iload_n 3, 1) := by decide +kernel
theorem dX3_copyAt_27 : decode cX3_copyAt 27 = .ok (.aload_n 0, 1) := by decide +kernel
theorem dX3_copyAt_28 : decode cX3_copyAt 28 = .ok (.getfield 17, 3) := by decide +kernel
theorem dX3_copyAt_31 : decode cX3_copyAt 31 = .ok (.arraylength, 1) := by decide +kernel
theorem dX3_copyAt_32 : decode cX3_copyAt 32 = .ok (.if_icmp .ge 12, 3) := by decide +kernel
theorem dX3_copyAt_35 : decode cX3_copyAt 35 = .ok (.aload_n 0, 1) := by decide +kernel
theorem dX3_copyAt_36 : decode cX3_copyAt 36 = .ok (.getfield 17, 3) := by decide +kernel
theorem dX3_copyAt_39 : decode cX3_copyAt 39 = .ok (.iload_n 3, 1) := by decide +kernel
theorem dX3_copyAt_40 : decode cX3_copyAt 40 = .ok (.aaload, 1) := by decide +kernel
theorem dX3_copyAt_41 : decode cX3_copyAt 41 = .ok (.goto 4, 3) := by decide +kernel
theorem dX3_copyAt_44 : decode cX3_copyAt 44 = .ok (.aconst_null, 1) := by decide +kernel
theorem dX3_copyAt_45 : decode cX3_copyAt 45 = .ok (.areturn, 1) := by decide +kernel
set_option maxRecDepth 20000 in
theorem ggX3_listDone_X0_stateOf : GoodIn wsX3_listDone wsX0_stateOf := goodIn_r _ [8, 9, 10, 11, 12, 13, 14, 15, 16, 17, 18, 19, 20, 21] (by decide +kernel) (by decide +kernel)
set_option maxRecDepth 20000 in
theorem gX3_listDone_X0_stateOf : GoodIn wsX3_listDone (wsV RX3 97 RX0 yX0_stateOf wsX0_stateOf) := goodIn_app (goodIn_of _ (by decide +kernel)) ggX3_listDone_X0_stateOf
theorem dX3_listDone_0 : decode cX3_listDone 0 = .ok (.iconst 0, 1) := by decide +kernel
theorem dX3_listDone_1 : decode cX3_listDone 1 = .ok (.istore_n 2, 1) := by decide +kernel
theorem dX3_listDone_2 : decode cX3_listDone 2 = .ok (.iconst 0, 1) := by decide +kernel
theorem dX3_listDone_3 : decode cX3_listDone 3 = .ok (.istore_n 3, 1) := by decide +kernel
theorem dX3_listDone_4 : decode cX3_listDone 4 = .ok (.iload_n 3, 1) := by decide +kernel
theorem dX3_listDone_5 : decode cX3_listDone 5 = .ok (.aload_n 1, 1) := by decide +kernel
theorem dX3_listDone_6 : decode cX3_listDone 6 = .ok (.getfield 62, 3) := by decide +kernel
theorem dX3_listDone_9 : decode cX3_listDone 9 = .ok (.getfield 94, 3) := by decide +kernel
theorem dX3_listDone_12 : decode cX3_listDone 12 = .ok (.if_icmp .ge 37, 3) := by decide +kernel
theorem dX3_listDone_15 : decode cX3_listDone 15 = .ok (.aload_n 1, 1) := by decide +kernel
theorem dX3_listDone_16 : decode cX3_listDone 16 = .ok (.iload_n 3, 1) := by decide +kernel
theorem dX3_listDone_17 : decode cX3_listDone 17 = .ok (.invokevirtual 97, 3) := by decide +kernel
theorem dX3_listDone_20 : decode cX3_listDone 20 = .ok (.iconst 2, 1) := by decide +kernel
theorem dX3_listDone_21 : decode cX3_listDone 21 = .ok (.if_icmp .ne 22, 3) := by decide +kernel
theorem dX3_listDone_24 : decode cX3_listDone 24 = .ok (.iload_n 2, 1) := by decide +kernel
theorem dX3_listDone_25 : decode cX3_listDone 25 = .ok (.aload_n 0, 1) := by decide +kernel
theorem dX3_listDone_26 : decode cX3_listDone 26 = .ok (.getfield 37, 3) := by decide +kernel
theorem dX3_listDone_29 : decode cX3_listDone 29 = .ok (.arraylength, 1) := by decide +kernel
theorem dX3_listDone_30 : decode cX3_listDone 30 = .ok (.if_icmp .ge 13, 3) := by decide +kernel
theorem dX3_listDone_33 : decode cX3_listDone 33 = .ok (.aload_n 0, 1) := by decide +kernel
theorem dX3_listDone_34 : decode cX3_listDone 34 = .ok (.getfield 37, 3) := by decide +kernel
theorem dX3_listDone_37 : decode cX3_listDone 37 = .ok (.iload_n 2, 1) := by decide +kernel
theorem dX3_listDone_38 : decode cX3_listDone 38 = .ok (.iload_n 3, 1) := by decide +kernel
theorem dX3_listDone_39 : decode cX3_listDone 39 = .ok (.iastore, 1) := by decide +kernel
theorem dX3_listDone_40 : decode cX3_listDone 40 = .ok (.iinc 2 1, 3) := by decide +kernel
theorem dX3_listDone_43 : decode cX3_listDone 43 = .ok (.iinc 3 1, 3) := by decide +kernel
theorem dX3_listDone_46 : decode cX3_listDone 46 = .ok (.goto (-42), 3) := by decide +kernel
theorem dX3_listDone_49 : decode cX3_listDone 49 = .ok (.iload_n 2, 1) := by decide +kernel
theorem dX3_listDone_50 : decode cX3_listDone 50 = .ok (.ireturn, 1) := by decide +kernel
theorem dX3_takeDrawn_0 : decode cX3_takeDrawn 0 = .ok (.iload_n 1, 1) := by decide +kernel
theorem dX3_takeDrawn_1 : decode cX3_takeDrawn 1 = .ok (.ifCond .lt 17, 3) := by decide +kernel
theorem dX3_takeDrawn_4 : decode cX3_takeDrawn 4 = .ok (.iload_n 1, 1) := by decide +kernel
theorem dX3_takeDrawn_5 : decode cX3_takeDrawn 5 = .ok (.iload_n 2, 1) := by decide +kernel
theorem dX3_takeDrawn_6 : decode cX3_takeDrawn 6 = .ok (.if_icmp .ge 12, 3) := by decide +kernel
theorem dX3_takeDrawn_9 : decode cX3_takeDrawn 9 = .ok (.iload_n 2, 1) := by decide +kernel
theorem dX3_takeDrawn_10 : decode cX3_takeDrawn 10 = .ok (.aload_n 0, 1) := by decide +kernel
theorem dX3_takeDrawn_11 : decode cX3_takeDrawn 11 = .ok (.getfield 37, 3) := by decide +kernel
theorem dX3_takeDrawn_14 : decode cX3_takeDrawn 14 = .ok (.arraylength, 1) := by decide +kernel
theorem dX3_takeDrawn_15 : decode cX3_takeDrawn 15 = .ok (.if_icmp .le 5, 3) := by decide +kernel
theorem dX3_takeDrawn_18 : decode cX3_takeDrawn 18 = .ok (.iconst (-1), 1) := by decide +kernel
theorem dX3_takeDrawn_19 : decode cX3_takeDrawn 19 = .ok (.ireturn, 1) := by decide +kernel
theorem dX3_takeDrawn_20 : decode cX3_takeDrawn 20 = .ok (.aload_n 0, 1) := by decide +kernel
theorem dX3_takeDrawn_21 : decode cX3_takeDrawn 21 = .ok (.getfield 37, 3) := by decide +kernel
theorem dX3_takeDrawn_24 : decode cX3_takeDrawn 24 = .ok (.iload_n 1, 1) := by decide +kernel
theorem dX3_takeDrawn_25 : decode cX3_takeDrawn 25 = .ok (.iaload, 1) := by decide +kernel
theorem dX3_takeDrawn_26 : decode cX3_takeDrawn 26 = .ok (.istore_n 3, 1) := by decide +kernel
theorem dX3_takeDrawn_27 : decode cX3_takeDrawn 27 = .ok (.iload_n 1, 1) := by decide +kernel
theorem dX3_takeDrawn_28 : decode cX3_takeDrawn 28 = .ok (.iconst 1, 1) := by decide +kernel
theorem dX3_takeDrawn_29 : decode cX3_takeDrawn 29 = .ok (.iadd, 1) := by decide +kernel
theorem dX3_takeDrawn_30 : decode cX3_takeDrawn 30 = .ok (.istore 4, 2) := by decide +kernel
theorem dX3_takeDrawn_32 : decode cX3_takeDrawn 32 = .ok (.iload 4, 2) := by decide +kernel
theorem dX3_takeDrawn_34 : decode cX3_takeDrawn 34 = .ok (.iload_n 2, 1) := by decide +kernel
theorem dX3_takeDrawn_35 : decode cX3_takeDrawn 35 = .ok (.if_icmp .ge 25, 3) := by decide +kernel
theorem dX3_takeDrawn_38 : decode cX3_takeDrawn 38 = .ok (.aload_n 0, 1) := by decide +kernel
theorem dX3_takeDrawn_39 : decode cX3_takeDrawn 39 = .ok (.getfield 37, 3) := by decide +kernel
theorem dX3_takeDrawn_42 : decode cX3_takeDrawn 42 = .ok (.iload 4, 2) := by decide +kernel
theorem dX3_takeDrawn_44 : decode cX3_takeDrawn 44 = .ok (.iconst 1, 1) := by decide +kernel
theorem dX3_takeDrawn_45 : decode cX3_takeDrawn 45 = .ok (.isub, 1) := by decide +kernel
theorem dX3_takeDrawn_46 : decode cX3_takeDrawn 46 = .ok (.aload_n 0, 1) := by decide +kernel
theorem dX3_takeDrawn_47 : decode cX3_takeDrawn 47 = .ok (.getfield 37, 3) := by decide +kernel
theorem dX3_takeDrawn_50 : decode cX3_takeDrawn 50 = .ok (.iload 4, 2) := by decide +kernel
theorem dX3_takeDrawn_52 : decode cX3_takeDrawn 52 = .ok (.iaload, 1) := by decide +kernel
theorem dX3_takeDrawn_53 : decode cX3_takeDrawn 53 = .ok (.iastore, 1) := by decide +kernel
theorem dX3_takeDrawn_54 : decode cX3_takeDrawn 54 = .ok (.iinc 4 1, 3) := by decide +kernel
theorem dX3_takeDrawn_57 : decode cX3_takeDrawn 57 = .ok (.goto (-25), 3) := by decide +kernel
theorem dX3_takeDrawn_60 : decode cX3_takeDrawn 60 = .ok (.iload_n 3, 1) := by decide +kernel
theorem dX3_takeDrawn_61 : decode cX3_takeDrawn 61 = .ok (.ireturn, 1) := by decide +kernel
theorem dX4_init_0 : decode cX4_init 0 = .ok (.aload_n 0, 1) := by decide +kernel
theorem dX4_init_1 : decode cX4_init 1 = .ok (.invokespecial 1, 3) := by decide +kernel
theorem dX4_init_4 : decode cX4_init 4 = .ok (.aload_n 0, 1) := by decide +kernel
theorem dX4_init_5 : decode cX4_init 5 = .ok (.iconst 2, 1) := by decide +kernel
theorem dX4_init_6 : decode cX4_init 6 = .ok (.newarray .int, 2) := by decide +kernel
theorem dX4_init_8 : decode cX4_init 8 = .ok (.putfield 7, 3) := by decide +kernel
theorem dX4_init_11 : decode cX4_init 11 = .ok (.aload_n 0, 1) := by decide +kernel
theorem dX4_init_12 : decode cX4_init 12 = .ok (.bipush 120, 2) := by decide +kernel
theorem dX4_init_14 : decode cX4_init 14 = .ok (.newarray .int, 2) := by decide +kernel
theorem dX4_init_16 : decode cX4_init 16 = .ok (.putfield 13, 3) := by decide +kernel
theorem dX4_init_19 : decode cX4_init 19 = .ok (.aload_n 0, 1) := by decide +kernel
theorem dX4_init_20 : decode cX4_init 20 = .ok (.bipush 120, 2) := by decide +kernel
theorem dX4_init_22 : decode cX4_init 22 = .ok (.newarray .int, 2) := by decide +kernel
theorem dX4_init_24 : decode cX4_init 24 = .ok (.putfield 16, 3) := by decide +kernel
theorem dX4_init_27 : decode cX4_init 27 = .ok (.aload_n 0, 1) := by decide +kernel
theorem dX4_init_28 : decode cX4_init 28 = .ok (.bipush 120, 2) := by decide +kernel
theorem dX4_init_30 : decode cX4_init 30 = .ok (.newarray .int, 2) := by decide +kernel
theorem dX4_init_32 : decode cX4_init 32 = .ok (.putfield 19, 3) := by decide +kernel
theorem dX4_init_35 : decode cX4_init 35 = .ok (.aload_n 0, 1) := by decide +kernel
theorem dX4_init_36 : decode cX4_init 36 = .ok (.bipush 120, 2) := by decide +kernel
theorem dX4_init_38 : decode cX4_init 38 = .ok (.newarray .int, 2) := by decide +kernel
theorem dX4_init_40 : decode cX4_init 40 = .ok (.putfield 22, 3) := by decide +kernel
theorem dX4_init_43 : decode cX4_init 43 = .ok (.aload_n 0, 1) := by decide +kernel
theorem dX4_init_44 : decode cX4_init 44 = .ok (.bipush 120, 2) := by decide +kernel
theorem dX4_init_46 : decode cX4_init 46 = .ok (.newarray .int, 2) := by decide +kernel
theorem dX4_init_48 : decode cX4_init 48 = .ok (.putfield 25, 3) := by decide +kernel
theorem dX4_init_51 : decode cX4_init 51 = .ok (.aload_n 0, 1) := by decide +kernel
theorem dX4_init_52 : decode cX4_init 52 = .ok (.bipush 10, 2) := by decide +kernel
theorem dX4_init_54 : decode cX4_init 54 = .ok (.newarray .int, 2) := by decide +kernel
theorem dX4_init_56 : decode cX4_init 56 = .ok (.putfield 28, 3) := by decide +kernel
theorem dX4_init_59 : decode cX4_init 59 = .ok (.aload_n 0, 1) := by decide +kernel
theorem dX4_init_60 : decode cX4_init 60 = .ok (.iconst 2, 1) := by decide +kernel
theorem dX4_init_61 : decode cX4_init 61 = .ok (.newarray .int, 2) := by decide +kernel
theorem dX4_init_63 : decode cX4_init 63 = .ok (.putfield 31, 3) := by decide +kernel
theorem dX4_init_66 : decode cX4_init 66 = .ok (.aload_n 0, 1) := by decide +kernel
theorem dX4_init_67 : decode cX4_init 67 = .ok (.iconst 2, 1) := by decide +kernel
theorem dX4_init_68 : decode cX4_init 68 = .ok (.newarray .int, 2) := by decide +kernel
theorem dX4_init_70 : decode cX4_init 70 = .ok (.putfield 34, 3) := by decide +kernel
theorem dX4_init_73 : decode cX4_init 73 = .ok (.aload_n 0, 1) := by decide +kernel
theorem dX4_init_74 : decode cX4_init 74 = .ok (.sipush 320, 3) := by decide +kernel
theorem dX4_init_77 : decode cX4_init 77 = .ok (.newarray .boolean, 2) := by decide +kernel
theorem dX4_init_79 : decode cX4_init 79 = .ok (.putfield 37, 3) := by decide +kernel
theorem dX4_init_82 : decode cX4_init 82 = .ok (.aload_n 0, 1) := by decide +kernel
theorem dX4_init_83 : decode cX4_init 83 = .ok (.sipush 320, 3) := by decide +kernel
theorem dX4_init_86 : decode cX4_init 86 = .ok (.newarray .int, 2) := by decide +kernel
theorem dX4_init_88 : decode cX4_init 88 = .ok (.putfield 41, 3) := by decide +kernel
theorem dX4_init_91 : decode cX4_init 91 = .ok (.aload_n 0, 1) := by decide +kernel
theorem dX4_init_92 : decode cX4_init 92 = .ok (.sipush 320, 3) := by decide +kernel
theorem dX4_init_95 : decode cX4_init 95 = .ok (.newarray .int, 2) := by decide +kernel
theorem dX4_init_97 : decode cX4_init 97 = .ok (.putfield 44, 3) := by decide +kernel
theorem dX4_init_100 : decode cX4_init 100 = .ok (.aload_n 0, 1) := by decide +kernel
theorem dX4_init_101 : decode cX4_init 101 = .ok (.sipush 660, 3) := by decide +kernel
theorem dX4_init_104 : decode cX4_init 104 = .ok (.newarray .int, 2) := by decide +kernel
theorem dX4_init_106 : decode cX4_init 106 = .ok (.putfield 47, 3) := by decide +kernel
theorem dX4_init_109 : decode cX4_init 109 = .ok (.aload_n 0, 1) := by decide +kernel
theorem dX4_init_110 : decode cX4_init 110 = .ok (.bipush 11, 2) := by decide +kernel
theorem dX4_init_112 : decode cX4_init 112 = .ok (.newarray .int, 2) := by decide +kernel
theorem dX4_init_114 : decode cX4_init 114 = .ok (.putfield 50, 3) := by decide +kernel
theorem dX4_init_117 : decode cX4_init 117 = .ok (.aload_n 0, 1) := by decide +kernel
theorem dX4_init_118 : decode cX4_init 118 = .ok (.sipush 660, 3) := by decide +kernel
theorem dX4_init_121 : decode cX4_init 121 = .ok (.newarray .boolean, 2) := by decide +kernel
theorem dX4_init_123 : decode cX4_init 123 = .ok (.putfield 53, 3) := by decide +kernel
theorem dX4_init_126 : decode cX4_init 126 = .ok (.aload_n 0, 1) := by decide +kernel
theorem dX4_init_127 : decode cX4_init 127 = .ok (.sipush 660, 3) := by decide +kernel
theorem dX4_init_130 : decode cX4_init 130 = .ok (.newarray .boolean, 2) := by decide +kernel
theorem dX4_init_132 : decode cX4_init 132 = .ok (.putfield 56, 3) := by decide +kernel
theorem dX4_init_135 : decode cX4_init 135 = .ok (.aload_n 0, 1) := by decide +kernel
theorem dX4_init_136 : decode cX4_init 136 = .ok (.sipush 1760, 3) := by decide +kernel
theorem dX4_init_139 : decode cX4_init 139 = .ok (.newarray .int, 2) := by decide +kernel
theorem dX4_init_141 : decode cX4_init 141 = .ok (.putfield 59, 3) := by decide +kernel
theorem dX4_init_144 : decode cX4_init 144 = .ok (.aload_n 0, 1) := by decide +kernel
theorem dX4_init_145 : decode cX4_init 145 = .ok (.bipush 10, 2) := by decide +kernel
theorem dX4_init_147 : decode cX4_init 147 = .ok (.newarray .int, 2) := by decide +kernel
theorem dX4_init_149 : decode cX4_init 149 = .ok (.putfield 62, 3) := by decide +kernel
theorem dX4_init_152 : decode cX4_init 152 = .ok (.aload_n 0, 1) := by decide +kernel
theorem dX4_init_153 : decode cX4_init 153 = .ok (.bipush 60, 2) := by decide +kernel
theorem dX4_init_155 : decode cX4_init 155 = .ok (.newarray .int, 2) := by decide +kernel
theorem dX4_init_157 : decode cX4_init 157 = .ok (.putfield 65, 3) := by decide +kernel
theorem dX4_init_160 : decode cX4_init 160 = .ok (.aload_n 0, 1) := by decide +kernel
theorem dX4_init_161 : decode cX4_init 161 = .ok (.bipush 62, 2) := by decide +kernel
theorem dX4_init_163 : decode cX4_init 163 = .ok (.newarray .int, 2) := by decide +kernel
theorem dX4_init_165 : decode cX4_init 165 = .ok (.putfield 68, 3) := by decide +kernel
theorem dX4_init_168 : decode cX4_init 168 = .ok (.aload_n 0, 1) := by decide +kernel
theorem dX4_init_169 : decode cX4_init 169 = .ok (.bipush 60, 2) := by decide +kernel
theorem dX4_init_171 : decode cX4_init 171 = .ok (.newarray .boolean, 2) := by decide +kernel
theorem dX4_init_173 : decode cX4_init 173 = .ok (.putfield 71, 3) := by decide +kernel
theorem dX4_init_176 : decode cX4_init 176 = .ok (.aload_n 0, 1) := by decide +kernel
theorem dX4_init_177 : decode cX4_init 177 = .ok (.bipush 60, 2) := by decide +kernel
theorem dX4_init_179 : decode cX4_init 179 = .ok (.newarray .boolean, 2) := by decide +kernel
theorem dX4_init_181 : decode cX4_init 181 = .ok (.putfield 74, 3) := by decide +kernel
theorem dX4_init_184 : decode cX4_init 184 = .ok (.aload_n 0, 1) := by decide +kernel
theorem dX4_init_185 : decode cX4_init 185 = .ok (.sipush 160, 3) := by decide +kernel
theorem dX4_init_188 : decode cX4_init 188 = .ok (.newarray .int, 2) := by decide +kernel
theorem dX4_init_190 : decode cX4_init 190 = .ok (.putfield 77, 3) := by decide +kernel
theorem dX4_init_193 : decode cX4_init 193 = .ok (.aload_n 0, 1) := by decide +kernel
theorem dX4_init_194 : decode cX4_init 194 = .ok (.bipush 12, 2) := by decide +kernel
theorem dX4_init_196 : decode cX4_init 196 = .ok (.newarray .int, 2) := by decide +kernel
theorem dX4_init_198 : decode cX4_init 198 = .ok (.putfield 80, 3) := by decide +kernel
theorem dX4_init_201 : decode cX4_init 201 = .ok (.aload_n 0, 1) := by decide +kernel
theorem dX4_init_202 : decode cX4_init 202 = .ok (.sipush 4096, 3) := by decide +kernel
theorem dX4_init_205 : decode cX4_init 205 = .ok (.newarray .long, 2) := by decide +kernel
theorem dX4_init_207 : decode cX4_init 207 = .ok (.putfield 83, 3) := by decide +kernel
theorem dX4_init_210 : decode cX4_init 210 = .ok (.return_, 1) := by decide +kernel
theorem dX4_isText_0 : decode cX4_isText 0 = .ok (.iload_n 1, 1) := by decide +kernel
theorem dX4_isText_1 : decode cX4_isText 1 = .ok (.ifCond .eq 8, 3) := by decide +kernel
theorem dX4_isText_4 : decode cX4_isText 4 = .ok (.iload_n 1, 1) := by decide +kernel
theorem dX4_isText_5 : decode cX4_isText 5 = .ok (.iconst 1, 1) := by decide +kernel
theorem dX4_isText_6 : decode cX4_isText 6 = .ok (.if_icmp .ne 7, 3) := by decide +kernel
theorem dX4_isText_9 : decode cX4_isText 9 = .ok (.iconst 1, 1) := by decide +kernel
theorem dX4_isText_10 : decode cX4_isText 10 = .ok (.goto 4, 3) := by decide +kernel
theorem dX4_isText_13 : decode cX4_isText 13 = .ok (.iconst 0, 1) := by decide +kernel
theorem dX4_isText_14 : decode cX4_isText 14 = .ok (.ireturn, 1) := by decide +kernel
theorem dX4_isSite_0 : decode cX4_isSite 0 = .ok (.iload_n 1, 1) := by decide +kernel
theorem dX4_isSite_1 : decode cX4_isSite 1 = .ok (.ifCond .lt 12, 3) := by decide +kernel
theorem dX4_isSite_4 : decode cX4_isSite 4 = .ok (.iload_n 1, 1) := by decide +kernel
theorem dX4_isSite_5 : decode cX4_isSite 5 = .ok (.iconst 4, 1) := by decide +kernel
theorem dX4_isSite_6 : decode cX4_isSite 6 = .ok (.if_icmp .gt 7, 3) := by decide +kernel
theorem dX4_isSite_9 : decode cX4_isSite 9 = .ok (.iconst 1, 1) := by decide +kernel
theorem dX4_isSite_10 : decode cX4_isSite 10 = .ok (.goto 4, 3) := by decide +kernel
theorem dX4_isSite_13 : decode cX4_isSite 13 = .ok (.iconst 0, 1) := by decide +kernel
theorem dX4_isSite_14 : decode cX4_isSite 14 = .ok (.ireturn, 1) := by decide +kernel
theorem dX4_mark_0 : decode cX4_mark 0 = .ok (.iload_n 2, 1) := by decide +kernel
theorem dX4_mark_1 : decode cX4_mark 1 = .ok (.iconst (-1), 1) := by decide +kernel
theorem dX4_mark_2 : decode cX4_mark 2 = .ok (.if_icmp .ne 5, 3) := by decide +kernel
theorem dX4_mark_5 : decode cX4_mark 5 = .ok (.iconst (-1), 1) := by decide +kernel
theorem dX4_mark_6 : decode cX4_mark 6 = .ok (.ireturn, 1) := by decide +kernel
theorem dX4_mark_7 : decode cX4_mark 7 = .ok (.iload_n 2, 1) := by decide +kernel
theorem dX4_mark_8 : decode cX4_mark 8 = .ok (.bipush 60, 2) := by decide +kernel
theorem dX4_mark_10 : decode cX4_mark 10 = .ok (.if_icmp .ne 9, 3) := by decide +kernel
theorem dX4_mark_13 : decode cX4_mark 13 = .ok (.sipush 9999, 3) := by decide +kernel
theorem dX4_mark_16 : decode cX4_mark 16 = .ok (.goto 29, 3) := by decide +kernel
theorem dX4_mark_19 : decode cX4_mark 19 = .ok (.bipush 100, 2) := by decide +kernel
theorem dX4_mark_21 : decode cX4_mark 21 = .ok (.aload_n 0, 1) := by decide +kernel
theorem dX4_mark_22 : decode cX4_mark 22 = .ok (.getfield 13, 3) := by decide +kernel
theorem dX4_mark_25 : decode cX4_mark 25 = .ok (.bipush 60, 2) := by decide +kernel
theorem dX4_mark_27 : decode cX4_mark 27 = .ok (.iload_n 1, 1) := by decide +kernel
theorem dX4_mark_28 : decode cX4_mark 28 = .ok (.imul, 1) := by decide +kernel
theorem dX4_mark_29 : decode cX4_mark 29 = .ok (.iload_n 2, 1) := by decide +kernel
theorem dX4_mark_30 : decode cX4_mark 30 = .ok (.iadd, 1) := by decide +kernel
theorem dX4_mark_31 : decode cX4_mark 31 = .ok (.iaload, 1) := by decide +kernel
theorem dX4_mark_32 : decode cX4_mark 32 = .ok (.imul, 1) := by decide +kernel
theorem dX4_mark_33 : decode cX4_mark 33 = .ok (.aload_n 0, 1) := by decide +kernel
theorem dX4_mark_34 : decode cX4_mark 34 = .ok (.getfield 16, 3) := by decide +kernel
theorem dX4_mark_37 : decode cX4_mark 37 = .ok (.bipush 60, 2) := by decide +kernel
theorem dX4_mark_39 : decode cX4_mark 39 = .ok (.iload_n 1, 1) := by decide +kernel
theorem dX4_mark_40 : decode cX4_mark 40 = .ok (.imul, 1) := by decide +kernel
theorem dX4_mark_41 : decode cX4_mark 41 = .ok (.iload_n 2, 1) := by decide +kernel
theorem dX4_mark_42 : decode cX4_mark 42 = .ok (.iadd, 1) := by decide +kernel
theorem dX4_mark_43 : decode cX4_mark 43 = .ok (.iaload, 1) := by decide +kernel
theorem dX4_mark_44 : decode cX4_mark 44 = .ok (.iadd, 1) := by decide +kernel
theorem dX4_mark_45 : decode cX4_mark 45 = .ok (.ireturn, 1) := by decide +kernel
theorem dX4_place_0 : decode cX4_place 0 = .ok (.iload_n 2, 1) := by decide +kernel
theorem dX4_place_1 : decode cX4_place 1 = .ok (.iconst (-1), 1) := by decide +kernel
theorem dX4_place_2 : decode cX4_place 2 = .ok (.if_icmp .ne 5, 3) := by decide +kernel
theorem dX4_place_5 : decode cX4_place 5 = .ok (.iconst (-1), 1) := by decide +kernel
theorem dX4_place_6 : decode cX4_place 6 = .ok (.ireturn, 1) := by decide +kernel
theorem dX4_place_7 : decode cX4_place 7 = .ok (.iconst 0, 1) := by decide +kernel
theorem dX4_place_8 : decode cX4_place 8 = .ok (.istore_n 3, 1) := by decide +kernel
theorem dX4_place_9 : decode cX4_place 9 = .ok (.iload_n 3, 1) := by decide +kernel
theorem dX4_place_10 : decode cX4_place 10 = .ok (.aload_n 0, 1) := by decide +kernel
theorem dX4_place_11 : decode cX4_place 11 = .ok (.getfield 50, 3) := by decide +kernel
theorem dX4_place_14 : decode cX4_place 14 = .ok (.iload_n 1, 1) := by decide +kernel
theorem dX4_place_15 : decode cX4_place 15 = .ok (.iaload, 1) := by decide +kernel
theorem dX4_place_16 : decode cX4_place 16 = .ok (.if_icmp .ge 25, 3) := by decide +kernel
theorem dX4_place_19 : decode cX4_place 19 = .ok (.aload_n 0, 1) := by decide +kernel
theorem dX4_place_20 : decode cX4_place 20 = .ok (.getfield 47, 3) := by decide +kernel
theorem dX4_place_23 : decode cX4_place 23 = .ok (.bipush 60, 2) := by decide +kernel
theorem dX4_place_25 : decode cX4_place 25 = .ok (.iload_n 1, 1) := by decide +kernel
theorem dX4_place_26 : decode cX4_place 26 = .ok (.imul, 1) := by decide +kernel
theorem dX4_place_27 : decode cX4_place 27 = .ok (.iload_n 3, 1) := by decide +kernel
theorem dX4_place_28 : decode cX4_place 28 = .ok (.iadd, 1) := by decide +kernel
theorem dX4_place_29 : decode cX4_place 29 = .ok (.iaload, 1) := by decide +kernel
theorem dX4_place_30 : decode cX4_place 30 = .ok (.iload_n 2, 1) := by decide +kernel
theorem dX4_place_31 : decode cX4_place 31 = .ok (.if_icmp .eq 10, 3) := by decide +kernel
theorem dX4_place_34 : decode cX4_place 34 = .ok (.iload_n 3, 1) := by decide +kernel
theorem dX4_place_35 : decode cX4_place 35 = .ok (.iconst 1, 1) := by decide +kernel
theorem dX4_place_36 : decode cX4_place 36 = .ok (.iadd, 1) := by decide +kernel
theorem dX4_place_37 : decode cX4_place 37 = .ok (.istore_n 3, 1) := by decide +kernel
theorem dX4_place_38 : decode cX4_place 38 = .ok (.goto (-29), 3) := by decide +kernel
theorem dX4_place_41 : decode cX4_place 41 = .ok (.iload_n 3, 1) := by decide +kernel
theorem dX4_place_42 : decode cX4_place 42 = .ok (.ireturn, 1) := by decide +kernel
theorem dX4_lay_0 : decode cX4_lay 0 = .ok (.aload_n 0, 1) := by decide +kernel
theorem dX4_lay_1 : decode cX4_lay 1 = .ok (.getfield 50, 3) := by decide +kernel
theorem dX4_lay_4 : decode cX4_lay 4 = .ok (.iload_n 1, 1) := by decide +kernel
theorem dX4_lay_5 : decode cX4_lay 5 = .ok (.iaload, 1) := by decide +kernel
theorem dX4_lay_6 : decode cX4_lay 6 = .ok (.istore 4, 2) := by decide +kernel
theorem dX4_lay_8 : decode cX4_lay 8 = .ok (.iload 4, 2) := by decide +kernel
theorem dX4_lay_10 : decode cX4_lay 10 = .ok (.iload_n 3, 1) := by decide +kernel
theorem dX4_lay_11 : decode cX4_lay 11 = .ok (.if_icmp .le 35, 3) := by decide +kernel
theorem dX4_lay_14 : decode cX4_lay 14 = .ok (.aload_n 0, 1) := by decide +kernel
theorem dX4_lay_15 : decode cX4_lay 15 = .ok (.getfield 47, 3) := by decide +kernel
theorem dX4_lay_18 : decode cX4_lay 18 = .ok (.bipush 60, 2) := by decide +kernel
theorem dX4_lay_20 : decode cX4_lay 20 = .ok (.iload_n 1, 1) := by decide +kernel
theorem dX4_lay_21 : decode cX4_lay 21 = .ok (.imul, 1) := by decide +kernel
theorem dX4_lay_22 : decode cX4_lay 22 = .ok (.iload 4, 2) := by decide +kernel
theorem dX4_lay_24 : decode cX4_lay 24 = .ok (.iadd, 1) := by decide +kernel
theorem dX4_lay_25 : decode cX4_lay 25 = .ok (.aload_n 0, 1) := by decide +kernel
theorem dX4_lay_26 : decode cX4_lay 26 = .ok (.getfield 47, 3) := by decide +kernel
theorem dX4_lay_29 : decode cX4_lay 29 = .ok (.bipush 60, 2) := by decide +kernel
theorem dX4_lay_31 : decode cX4_lay 31 = .ok (.iload_n 1, 1) := by decide +kernel
theorem dX4_lay_32 : decode cX4_lay 32 = .ok (.imul, 1) := by decide +kernel
theorem dX4_lay_33 : decode cX4_lay 33 = .ok (.iload 4, 2) := by decide +kernel
theorem dX4_lay_35 : decode cX4_lay 35 = .ok (.iadd, 1) := by decide +kernel
theorem dX4_lay_36 : decode cX4_lay 36 = .ok (.iconst 1, 1) := by decide +kernel
theorem dX4_lay_37 : decode cX4_lay 37 = .ok (.isub, 1) := by decide +kernel
theorem dX4_lay_38 : decode cX4_lay 38 = .ok (.iaload, 1) := by decide +kernel
theorem dX4_lay_39 : decode cX4_lay 39 = .ok (.iastore, 1) := by decide +kernel
theorem dX4_lay_40 : decode cX4_lay 40 = .ok (.iinc 4 (-1), 3) := by decide +kernel
theorem dX4_lay_43 : decode cX4_lay 43 = .ok (.goto (-35), 3) := by decide +kernel
theorem dX4_lay_46 : decode cX4_lay 46 = .ok (.aload_n 0, 1) := by decide +kernel
theorem dX4_lay_47 : decode cX4_lay 47 = .ok (.getfield 47, 3) := by decide +kernel
theorem dX4_lay_50 : decode cX4_lay 50 = .ok (.bipush 60, 2) := by decide +kernel
theorem dX4_lay_52 : decode cX4_lay 52 = .ok (.iload_n 1, 1) := by decide +kernel
theorem dX4_lay_53 : decode cX4_lay 53 = .ok (.imul, 1) := by decide +kernel
theorem dX4_lay_54 : decode cX4_lay 54 = .ok (.iload_n 3, 1) := by decide +kernel
theorem dX4_lay_55 : decode cX4_lay 55 = .ok (.iadd, 1) := by decide +kernel
theorem dX4_lay_56 : decode cX4_lay 56 = .ok (.iload_n 2, 1) := by decide +kernel
theorem dX4_lay_57 : decode cX4_lay 57 = .ok (.iastore, 1) := by decide +kernel
theorem dX4_lay_58 : decode cX4_lay 58 = .ok (.aload_n 0, 1) := by decide +kernel
theorem dX4_lay_59 : decode cX4_lay 59 = .ok (.getfield 50, 3) := by decide +kernel
theorem dX4_lay_62 : decode cX4_lay 62 = .ok (.iload_n 1, 1) := by decide +kernel
theorem dX4_lay_63 : decode cX4_lay 63 = .ok (.aload_n 0, 1) := by decide +kernel
theorem dX4_lay_64 : decode cX4_lay 64 = .ok (.getfield 50, 3) := by decide +kernel
theorem dX4_lay_67 : decode cX4_lay 67 = .ok (.iload_n 1, 1) := by decide +kernel
theorem dX4_lay_68 : decode cX4_lay 68 = .ok (.iaload, 1) := by decide +kernel
theorem dX4_lay_69 : decode cX4_lay 69 = .ok (.iconst 1, 1) := by decide +kernel
theorem dX4_lay_70 : decode cX4_lay 70 = .ok (.iadd, 1) := by decide +kernel
theorem dX4_lay_71 : decode cX4_lay 71 = .ok (.iastore, 1) := by decide +kernel
theorem dX4_lay_72 : decode cX4_lay 72 = .ok (.aload_n 0, 1) := by decide +kernel
theorem dX4_lay_73 : decode cX4_lay 73 = .ok (.getfield 53, 3) := by decide +kernel
theorem dX4_lay_76 : decode cX4_lay 76 = .ok (.bipush 60, 2) := by decide +kernel
theorem dX4_lay_78 : decode cX4_lay 78 = .ok (.iload_n 1, 1) := by decide +kernel
theorem dX4_lay_79 : decode cX4_lay 79 = .ok (.imul, 1) := by decide +kernel
theorem dX4_lay_80 : decode cX4_lay 80 = .ok (.iload_n 2, 1) := by decide +kernel
theorem dX4_lay_81 : decode cX4_lay 81 = .ok (.iadd, 1) := by decide +kernel
theorem dX4_lay_82 : decode cX4_lay 82 = .ok (.iconst 1, 1) := by decide +kernel
theorem dX4_lay_83 : decode cX4_lay 83 = .ok (.bastore, 1) := by decide +kernel
theorem dX4_lay_84 : decode cX4_lay 84 = .ok (.return_, 1) := by decide +kernel
set_option maxRecDepth 20000 in
theorem ggX4_integrate_X4_woot : GoodIn wsX4_integrate wsX4_woot := goodIn_r _ [6, 7, 8, 9, 10, 11, 12, 13, 14, 5, 15, 16, 17, 18, 19, 20, 21, 22, 23, 24, 25, 26, 27, 38, 39, 40, 41, 42, 43, 44, 45, 46, 47, 48, 49, 50, 51, 52, 53, 54, 55, 56, 57, 58, 59, 60, 61, 62, 63, 64, 65, 66] (by decide +kernel) (by decide +kernel)
set_option maxRecDepth 20000 in
theorem gX4_integrate_X4_woot : GoodIn wsX4_integrate (wsV RX4 94 RX4 yX4_woot wsX4_woot) := goodIn_app (goodIn_of _ (by decide +kernel)) ggX4_integrate_X4_woot
set_option maxRecDepth 20000 in
theorem ggX4_integrate_X4_yata : GoodIn wsX4_integrate wsX4_yata := goodIn_r _ [31, 32, 7, 8, 10, 11, 33, 21, 34, 35, 36, 5, 37, 12, 13, 14, 15, 16, 23, 24, 25, 26, 27, 38, 39, 40, 41, 42, 43, 44, 45, 46, 47, 48, 49, 50, 51, 52, 53, 54, 55, 56, 57, 58, 59, 60, 61, 62, 63, 64, 65, 66] (by decide +kernel) (by decide +kernel)
set_option maxRecDepth 20000 in
theorem gX4_integrate_X4_yata : GoodIn wsX4_integrate (wsV RX4 98 RX4 yX4_yata wsX4_yata) := goodIn_app (goodIn_of _ (by decide +kernel)) ggX4_integrate_X4_yata
theorem dX4_integrate_0 : decode cX4_integrate 0 = .ok (.aload_n 0, 1) := by decide +kernel
theorem dX4_integrate_1 : decode cX4_integrate 1 = .ok (.aload_n 0, 1) := by decide +kernel
theorem dX4_integrate_2 : decode cX4_integrate 2 = .ok (.getfield 91, 3) := by decide +kernel
theorem dX4_integrate_5 : decode cX4_integrate 5 = .ok (.iconst 1, 1) := by decide +kernel
theorem dX4_integrate_6 : decode cX4_integrate 6 = .ok (.iadd, 1) := by decide +kernel
theorem dX4_integrate_7 : decode cX4_integrate 7 = .ok (.putfield 91, 3) := by decide +kernel
theorem dX4_integrate_10 : decode cX4_integrate 10 = .ok (.iload_n 2, 1) := by decide +kernel
theorem dX4_integrate_11 : decode cX4_integrate 11 = .ok (.ifCond .ne 12, 3) := by decide +kernel
theorem dX4_integrate_14 : decode cX4_integrate 14 = .ok (.aload_n 0, 1) := by decide +kernel
theorem dX4_integrate_15 : decode cX4_integrate 15 = .ok (.iload_n 1, 1) := by decide +kernel
theorem dX4_integrate_16 : decode cX4_integrate 16 = .ok (.iload_n 3, 1) := by decide +kernel
theorem dX4_integrate_17 : decode cX4_integrate 17 = .ok (.invokevirtual 94, 3) := by decide +kernel
theorem dX4_integrate_20 : decode cX4_integrate 20 = .ok (.goto 9, 3) := by decide +kernel
theorem dX4_integrate_23 : decode cX4_integrate 23 = .ok (.aload_n 0, 1) := by decide +kernel
theorem dX4_integrate_24 : decode cX4_integrate 24 = .ok (.iload_n 1, 1) := by decide +kernel
theorem dX4_integrate_25 : decode cX4_integrate 25 = .ok (.iload_n 3, 1) := by decide +kernel
theorem dX4_integrate_26 : decode cX4_integrate 26 = .ok (.invokevirtual 98, 3) := by decide +kernel
theorem dX4_integrate_29 : decode cX4_integrate 29 = .ok (.return_, 1) := by decide +kernel
set_option maxRecDepth 20000 in
theorem ggX4_woot_X4_place : GoodIn wsX4_woot wsX4_place := goodIn_r _ [10, 11, 5, 23, 24, 25, 26, 27, 28, 29, 30, 31, 32, 33, 34, 35, 36, 37, 38, 39, 40, 41, 42, 43, 44, 45, 46, 47, 48, 49, 50, 51] (by decide +kernel) (by decide +kernel)
set_option maxRecDepth 20000 in
theorem gX4_woot_X4_place : GoodIn wsX4_woot (wsV RX4 101 RX4 yX4_place wsX4_place) := goodIn_app (goodIn_of _ (by decide +kernel)) ggX4_woot_X4_place
set_option maxRecDepth 20000 in
theorem ggX4_woot_X4_mark : GoodIn wsX4_woot wsX4_mark := goodIn_r _ [15, 16, 17, 23, 24, 25, 26, 27, 28, 29, 30, 31, 32, 33, 34, 35, 36, 37, 38, 39, 40, 41, 42, 43, 44, 45, 46, 47, 48, 49, 50, 51] (by decide +kernel) (by decide +kernel)
set_option maxRecDepth 20000 in
theorem gX4_woot_X4_mark : GoodIn wsX4_woot (wsV RX4 108 RX4 yX4_mark wsX4_mark) := goodIn_app (goodIn_of _ (by decide +kernel)) ggX4_woot_X4_mark
set_option maxRecDepth 20000 in
theorem ggX4_woot_X4_lay : GoodIn wsX4_woot wsX4_lay := goodIn_r _ [21, 11, 5, 22, 23, 24, 25, 26, 27, 28, 29, 30, 31, 32, 33, 34, 35, 36, 37, 38, 39, 40, 41, 42, 43, 44, 45, 46, 47, 48, 49, 50, 51] (by decide +kernel) (by decide +kernel)
set_option maxRecDepth 20000 in
theorem gX4_woot_X4_lay : GoodIn wsX4_woot (wsV RX4 111 RX4 yX4_lay wsX4_lay) := goodIn_app (goodIn_of _ (by decide +kernel)) ggX4_woot_X4_lay
theorem dX4_woot_0 : decode cX4_woot 0 = .ok (.aload_n 0, 1) := by decide +kernel
theorem dX4_woot_1 : decode cX4_woot 1 = .ok (.iload_n 1, 1) := by decide +kernel
theorem dX4_woot_2 : decode cX4_woot 2 = .ok (.aload_n 0, 1) := by decide +kernel
theorem dX4_woot_3 : decode cX4_woot 3 = .ok (.getfield 22, 3) := by decide +kernel
end
section
theorem dX4_woot_6 : decode cX4_woot 6 = .ok (.iload_n 2, 1) := by decide +kernel
theorem dX4_woot_7 : decode cX4_woot 7 = .ok (.iaload, 1) := by decide +kernel
theorem dX4_woot_8 : decode cX4_woot 8 = .ok (.invokevirtual 101, 3) := by decide +kernel
theorem dX4_woot_11 : decode cX4_woot 11 = .ok (.istore_n 3, 1) := by decide +kernel
theorem dX4_woot_12 : decode cX4_woot 12 = .ok (.aload_n 0, 1) := by decide +kernel
theorem dX4_woot_13 : decode cX4_woot 13 = .ok (.iload_n 1, 1) := by decide +kernel
theorem dX4_woot_14 : decode cX4_woot 14 = .ok (.aload_n 0, 1) := by decide +kernel
theorem dX4_woot_15 : decode cX4_woot 15 = .ok (.getfield 25, 3) := by decide +kernel
theorem dX4_woot_18 : decode cX4_woot 18 = .ok (.iload_n 2, 1) := by decide +kernel
theorem dX4_woot_19 : decode cX4_woot 19 = .ok (.iaload, 1) := by decide +kernel
theorem dX4_woot_20 : decode cX4_woot 20 = .ok (.invokevirtual 101, 3) := by decide +kernel
theorem dX4_woot_23 : decode cX4_woot 23 = .ok (.istore 4, 2) := by decide +kernel
theorem dX4_woot_25 : decode cX4_woot 25 = .ok (.iload 4, 2) := by decide +kernel
theorem dX4_woot_27 : decode cX4_woot 27 = .ok (.iload_n 3, 1) := by decide +kernel
theorem dX4_woot_28 : decode cX4_woot 28 = .ok (.isub, 1) := by decide +kernel
theorem dX4_woot_29 : decode cX4_woot 29 = .ok (.iconst 1, 1) := by decide +kernel
theorem dX4_woot_30 : decode cX4_woot 30 = .ok (.if_icmp .le 214, 3) := by decide +kernel
theorem dX4_woot_33 : decode cX4_woot 33 = .ok (.iconst 1, 1) := by decide +kernel
theorem dX4_woot_34 : decode cX4_woot 34 = .ok (.istore 5, 2) := by decide +kernel
theorem dX4_woot_36 : decode cX4_woot 36 = .ok (.aload_n 0, 1) := by decide +kernel
theorem dX4_woot_37 : decode cX4_woot 37 = .ok (.getfield 68, 3) := by decide +kernel
theorem dX4_woot_40 : decode cX4_woot 40 = .ok (.iconst 0, 1) := by decide +kernel
theorem dX4_woot_41 : decode cX4_woot 41 = .ok (.iload_n 3, 1) := by decide +kernel
theorem dX4_woot_42 : decode cX4_woot 42 = .ok (.iastore, 1) := by decide +kernel
theorem dX4_woot_43 : decode cX4_woot 43 = .ok (.iload_n 3, 1) := by decide +kernel
theorem dX4_woot_44 : decode cX4_woot 44 = .ok (.iconst 1, 1) := by decide +kernel
theorem dX4_woot_45 : decode cX4_woot 45 = .ok (.iadd, 1) := by decide +kernel
theorem dX4_woot_46 : decode cX4_woot 46 = .ok (.istore 6, 2) := by decide +kernel
theorem dX4_woot_48 : decode cX4_woot 48 = .ok (.iload 6, 2) := by decide +kernel
theorem dX4_woot_50 : decode cX4_woot 50 = .ok (.iload 4, 2) := by decide +kernel
theorem dX4_woot_52 : decode cX4_woot 52 = .ok (.if_icmp .ge 81, 3) := by decide +kernel
theorem dX4_woot_55 : decode cX4_woot 55 = .ok (.aload_n 0, 1) := by decide +kernel
theorem dX4_woot_56 : decode cX4_woot 56 = .ok (.aload_n 0, 1) := by decide +kernel
theorem dX4_woot_57 : decode cX4_woot 57 = .ok (.getfield 105, 3) := by decide +kernel
theorem dX4_woot_60 : decode cX4_woot 60 = .ok (.iconst 1, 1) := by decide +kernel
theorem dX4_woot_61 : decode cX4_woot 61 = .ok (.iadd, 1) := by decide +kernel
theorem dX4_woot_62 : decode cX4_woot 62 = .ok (.putfield 105, 3) := by decide +kernel
theorem dX4_woot_65 : decode cX4_woot 65 = .ok (.aload_n 0, 1) := by decide +kernel
theorem dX4_woot_66 : decode cX4_woot 66 = .ok (.getfield 47, 3) := by decide +kernel
theorem dX4_woot_69 : decode cX4_woot 69 = .ok (.bipush 60, 2) := by decide +kernel
theorem dX4_woot_71 : decode cX4_woot 71 = .ok (.iload_n 1, 1) := by decide +kernel
theorem dX4_woot_72 : decode cX4_woot 72 = .ok (.imul, 1) := by decide +kernel
theorem dX4_woot_73 : decode cX4_woot 73 = .ok (.iload 6, 2) := by decide +kernel
theorem dX4_woot_75 : decode cX4_woot 75 = .ok (.iadd, 1) := by decide +kernel
theorem dX4_woot_76 : decode cX4_woot 76 = .ok (.iaload, 1) := by decide +kernel
theorem dX4_woot_77 : decode cX4_woot 77 = .ok (.istore 7, 2) := by decide +kernel
theorem dX4_woot_79 : decode cX4_woot 79 = .ok (.aload_n 0, 1) := by decide +kernel
theorem dX4_woot_80 : decode cX4_woot 80 = .ok (.iload_n 1, 1) := by decide +kernel
theorem dX4_woot_81 : decode cX4_woot 81 = .ok (.aload_n 0, 1) := by decide +kernel
theorem dX4_woot_82 : decode cX4_woot 82 = .ok (.getfield 22, 3) := by decide +kernel
theorem dX4_woot_85 : decode cX4_woot 85 = .ok (.iload 7, 2) := by decide +kernel
theorem dX4_woot_87 : decode cX4_woot 87 = .ok (.iaload, 1) := by decide +kernel
theorem dX4_woot_88 : decode cX4_woot 88 = .ok (.invokevirtual 101, 3) := by decide +kernel
theorem dX4_woot_91 : decode cX4_woot 91 = .ok (.iload_n 3, 1) := by decide +kernel
theorem dX4_woot_92 : decode cX4_woot 92 = .ok (.if_icmp .gt 35, 3) := by decide +kernel
theorem dX4_woot_95 : decode cX4_woot 95 = .ok (.aload_n 0, 1) := by decide +kernel
theorem dX4_woot_96 : decode cX4_woot 96 = .ok (.iload_n 1, 1) := by decide +kernel
theorem dX4_woot_97 : decode cX4_woot 97 = .ok (.aload_n 0, 1) := by decide +kernel
theorem dX4_woot_98 : decode cX4_woot 98 = .ok (.getfield 25, 3) := by decide +kernel
theorem dX4_woot_101 : decode cX4_woot 101 = .ok (.iload 7, 2) := by decide +kernel
theorem dX4_woot_103 : decode cX4_woot 103 = .ok (.iaload, 1) := by decide +kernel
theorem dX4_woot_104 : decode cX4_woot 104 = .ok (.invokevirtual 101, 3) := by decide +kernel
theorem dX4_woot_107 : decode cX4_woot 107 = .ok (.iload 4, 2) := by decide +kernel
theorem dX4_woot_109 : decode cX4_woot 109 = .ok (.if_icmp .lt 18, 3) := by decide +kernel
theorem dX4_woot_112 : decode cX4_woot 112 = .ok (.aload_n 0, 1) := by decide +kernel
theorem dX4_woot_113 : decode cX4_woot 113 = .ok (.getfield 68, 3) := by decide +kernel
theorem dX4_woot_116 : decode cX4_woot 116 = .ok (.iload 5, 2) := by decide +kernel
theorem dX4_woot_118 : decode cX4_woot 118 = .ok (.iload 6, 2) := by decide +kernel
theorem dX4_woot_120 : decode cX4_woot 120 = .ok (.iastore, 1) := by decide +kernel
theorem dX4_woot_121 : decode cX4_woot 121 = .ok (.iload 5, 2) := by decide +kernel
theorem dX4_woot_123 : decode cX4_woot 123 = .ok (.iconst 1, 1) := by decide +kernel
theorem dX4_woot_124 : decode cX4_woot 124 = .ok (.iadd, 1) := by decide +kernel
theorem dX4_woot_125 : decode cX4_woot 125 = .ok (.istore 5, 2) := by decide +kernel
theorem dX4_woot_127 : decode cX4_woot 127 = .ok (.iinc 6 1, 3) := by decide +kernel
theorem dX4_woot_130 : decode cX4_woot 130 = .ok (.goto (-82), 3) := by decide +kernel
theorem dX4_woot_133 : decode cX4_woot 133 = .ok (.aload_n 0, 1) := by decide +kernel
theorem dX4_woot_134 : decode cX4_woot 134 = .ok (.getfield 68, 3) := by decide +kernel
theorem dX4_woot_137 : decode cX4_woot 137 = .ok (.iload 5, 2) := by decide +kernel
theorem dX4_woot_139 : decode cX4_woot 139 = .ok (.iload 4, 2) := by decide +kernel
theorem dX4_woot_141 : decode cX4_woot 141 = .ok (.iastore, 1) := by decide +kernel
theorem dX4_woot_142 : decode cX4_woot 142 = .ok (.iconst 1, 1) := by decide +kernel
theorem dX4_woot_143 : decode cX4_woot 143 = .ok (.istore 6, 2) := by decide +kernel
theorem dX4_woot_145 : decode cX4_woot 145 = .ok (.iconst 1, 1) := by decide +kernel
theorem dX4_woot_146 : decode cX4_woot 146 = .ok (.istore 7, 2) := by decide +kernel
theorem dX4_woot_148 : decode cX4_woot 148 = .ok (.iload 7, 2) := by decide +kernel
theorem dX4_woot_150 : decode cX4_woot 150 = .ok (.ifCond .eq 72, 3) := by decide +kernel
theorem dX4_woot_153 : decode cX4_woot 153 = .ok (.iload 6, 2) := by decide +kernel
theorem dX4_woot_155 : decode cX4_woot 155 = .ok (.iload 5, 2) := by decide +kernel
theorem dX4_woot_157 : decode cX4_woot 157 = .ok (.if_icmp .ge 65, 3) := by decide +kernel
theorem dX4_woot_160 : decode cX4_woot 160 = .ok (.aload_n 0, 1) := by decide +kernel
theorem dX4_woot_161 : decode cX4_woot 161 = .ok (.aload_n 0, 1) := by decide +kernel
theorem dX4_woot_162 : decode cX4_woot 162 = .ok (.getfield 105, 3) := by decide +kernel
theorem dX4_woot_165 : decode cX4_woot 165 = .ok (.iconst 1, 1) := by decide +kernel
theorem dX4_woot_166 : decode cX4_woot 166 = .ok (.iadd, 1) := by decide +kernel
theorem dX4_woot_167 : decode cX4_woot 167 = .ok (.putfield 105, 3) := by decide +kernel
theorem dX4_woot_170 : decode cX4_woot 170 = .ok (.aload_n 0, 1) := by decide +kernel
theorem dX4_woot_171 : decode cX4_woot 171 = .ok (.iconst 0, 1) := by decide +kernel
theorem dX4_woot_172 : decode cX4_woot 172 = .ok (.aload_n 0, 1) := by decide +kernel
theorem dX4_woot_173 : decode cX4_woot 173 = .ok (.getfield 47, 3) := by decide +kernel
theorem dX4_woot_176 : decode cX4_woot 176 = .ok (.bipush 60, 2) := by decide +kernel
theorem dX4_woot_178 : decode cX4_woot 178 = .ok (.iload_n 1, 1) := by decide +kernel
theorem dX4_woot_179 : decode cX4_woot 179 = .ok (.imul, 1) := by decide +kernel
theorem dX4_woot_180 : decode cX4_woot 180 = .ok (.aload_n 0, 1) := by decide +kernel
theorem dX4_woot_181 : decode cX4_woot 181 = .ok (.getfield 68, 3) := by decide +kernel
theorem dX4_woot_184 : decode cX4_woot 184 = .ok (.iload 6, 2) := by decide +kernel
theorem dX4_woot_186 : decode cX4_woot 186 = .ok (.iaload, 1) := by decide +kernel
theorem dX4_woot_187 : decode cX4_woot 187 = .ok (.iadd, 1) := by decide +kernel
theorem dX4_woot_188 : decode cX4_woot 188 = .ok (.iaload, 1) := by decide +kernel
theorem dX4_woot_189 : decode cX4_woot 189 = .ok (.invokevirtual 108, 3) := by decide +kernel
theorem dX4_woot_192 : decode cX4_woot 192 = .ok (.aload_n 0, 1) := by decide +kernel
theorem dX4_woot_193 : decode cX4_woot 193 = .ok (.iconst 0, 1) := by decide +kernel
theorem dX4_woot_194 : decode cX4_woot 194 = .ok (.iload_n 2, 1) := by decide +kernel
theorem dX4_woot_195 : decode cX4_woot 195 = .ok (.invokevirtual 108, 3) := by decide +kernel
theorem dX4_woot_198 : decode cX4_woot 198 = .ok (.if_icmp .ge 7, 3) := by decide +kernel
theorem dX4_woot_201 : decode cX4_woot 201 = .ok (.iconst 1, 1) := by decide +kernel
theorem dX4_woot_202 : decode cX4_woot 202 = .ok (.goto 4, 3) := by decide +kernel
theorem dX4_woot_205 : decode cX4_woot 205 = .ok (.iconst 0, 1) := by decide +kernel
theorem dX4_woot_206 : decode cX4_woot 206 = .ok (.istore 7, 2) := by decide +kernel
theorem dX4_woot_208 : decode cX4_woot 208 = .ok (.iload 7, 2) := by decide +kernel
theorem dX4_woot_210 : decode cX4_woot 210 = .ok (.ifCond .eq (-62), 3) := by decide +kernel
theorem dX4_woot_213 : decode cX4_woot 213 = .ok (.iload 6, 2) := by decide +kernel
theorem dX4_woot_215 : decode cX4_woot 215 = .ok (.iconst 1, 1) := by decide +kernel
theorem dX4_woot_216 : decode cX4_woot 216 = .ok (.iadd, 1) := by decide +kernel
theorem dX4_woot_217 : decode cX4_woot 217 = .ok (.istore 6, 2) := by decide +kernel
theorem dX4_woot_219 : decode cX4_woot 219 = .ok (.goto (-71), 3) := by decide +kernel
theorem dX4_woot_222 : decode cX4_woot 222 = .ok (.aload_n 0, 1) := by decide +kernel
theorem dX4_woot_223 : decode cX4_woot 223 = .ok (.getfield 68, 3) := by decide +kernel
theorem dX4_woot_226 : decode cX4_woot 226 = .ok (.iload 6, 2) := by decide +kernel
theorem dX4_woot_228 : decode cX4_woot 228 = .ok (.iconst 1, 1) := by decide +kernel
theorem dX4_woot_229 : decode cX4_woot 229 = .ok (.isub, 1) := by decide +kernel
theorem dX4_woot_230 : decode cX4_woot 230 = .ok (.iaload, 1) := by decide +kernel
theorem dX4_woot_231 : decode cX4_woot 231 = .ok (.istore_n 3, 1) := by decide +kernel
theorem dX4_woot_232 : decode cX4_woot 232 = .ok (.aload_n 0, 1) := by decide +kernel
theorem dX4_woot_233 : decode cX4_woot 233 = .ok (.getfield 68, 3) := by decide +kernel
theorem dX4_woot_236 : decode cX4_woot 236 = .ok (.iload 6, 2) := by decide +kernel
theorem dX4_woot_238 : decode cX4_woot 238 = .ok (.iaload, 1) := by decide +kernel
theorem dX4_woot_239 : decode cX4_woot 239 = .ok (.istore 4, 2) := by decide +kernel
theorem dX4_woot_241 : decode cX4_woot 241 = .ok (.goto (-216), 3) := by decide +kernel
theorem dX4_woot_244 : decode cX4_woot 244 = .ok (.aload_n 0, 1) := by decide +kernel
theorem dX4_woot_245 : decode cX4_woot 245 = .ok (.iload_n 1, 1) := by decide +kernel
theorem dX4_woot_246 : decode cX4_woot 246 = .ok (.iload_n 2, 1) := by decide +kernel
theorem dX4_woot_247 : decode cX4_woot 247 = .ok (.iload 4, 2) := by decide +kernel
theorem dX4_woot_249 : decode cX4_woot 249 = .ok (.invokevirtual 111, 3) := by decide +kernel
theorem dX4_woot_252 : decode cX4_woot 252 = .ok (.return_, 1) := by decide +kernel
theorem dX4_none_0 : decode cX4_none 0 = .ok (.iconst 0, 1) := by decide +kernel
theorem dX4_none_1 : decode cX4_none 1 = .ok (.istore_n 1, 1) := by decide +kernel
theorem dX4_none_2 : decode cX4_none 2 = .ok (.iload_n 1, 1) := by decide +kernel
theorem dX4_none_3 : decode cX4_none 3 = .ok (.bipush 60, 2) := by decide +kernel
theorem dX4_none_5 : decode cX4_none 5 = .ok (.if_icmp .ge 16, 3) := by decide +kernel
theorem dX4_none_8 : decode cX4_none 8 = .ok (.aload_n 0, 1) := by decide +kernel
theorem dX4_none_9 : decode cX4_none 9 = .ok (.getfield 74, 3) := by decide +kernel
theorem dX4_none_12 : decode cX4_none 12 = .ok (.iload_n 1, 1) := by decide +kernel
theorem dX4_none_13 : decode cX4_none 13 = .ok (.iconst 0, 1) := by decide +kernel
theorem dX4_none_14 : decode cX4_none 14 = .ok (.bastore, 1) := by decide +kernel
theorem dX4_none_15 : decode cX4_none 15 = .ok (.iinc 1 1, 3) := by decide +kernel
theorem dX4_none_18 : decode cX4_none 18 = .ok (.goto (-16), 3) := by decide +kernel
theorem dX4_none_21 : decode cX4_none 21 = .ok (.return_, 1) := by decide +kernel
set_option maxRecDepth 20000 in
theorem ggX4_yata_X4_none : GoodIn wsX4_yata wsX4_none := goodIn_r _ [12, 6, 23, 24, 25, 26, 27, 28, 29, 30, 31, 32, 33, 34, 35, 36, 37, 38, 39, 40, 41, 42, 43, 44, 45, 46, 47, 48, 49, 50, 51] (by decide +kernel) (by decide +kernel)
set_option maxRecDepth 20000 in
theorem gX4_yata_X4_none : GoodIn wsX4_yata (wsV RX4 115 RX4 yX4_none wsX4_none) := goodIn_app (goodIn_of _ (by decide +kernel)) ggX4_yata_X4_none
set_option maxRecDepth 20000 in
theorem ggX4_yata_X4_place : GoodIn wsX4_yata wsX4_place := goodIn_r _ [16, 17, 5, 23, 24, 25, 26, 27, 28, 29, 30, 31, 32, 33, 34, 35, 36, 37, 38, 39, 40, 41, 42, 43, 44, 45, 46, 47, 48, 49, 50, 51] (by decide +kernel) (by decide +kernel)
set_option maxRecDepth 20000 in
theorem gX4_yata_X4_place : GoodIn wsX4_yata (wsV RX4 101 RX4 yX4_place wsX4_place) := goodIn_app (goodIn_of _ (by decide +kernel)) ggX4_yata_X4_place
set_option maxRecDepth 20000 in
theorem ggX4_yata_X4_lay : GoodIn wsX4_yata wsX4_lay := goodIn_r _ [21, 17, 5, 22, 23, 24, 25, 26, 27, 28, 29, 30, 31, 32, 33, 34, 35, 36, 37, 38, 39, 40, 41, 42, 43, 44, 45, 46, 47, 48, 49, 50, 51] (by decide +kernel) (by decide +kernel)
set_option maxRecDepth 20000 in
theorem gX4_yata_X4_lay : GoodIn wsX4_yata (wsV RX4 111 RX4 yX4_lay wsX4_lay) := goodIn_app (goodIn_of _ (by decide +kernel)) ggX4_yata_X4_lay
theorem dX4_yata_0 : decode cX4_yata 0 = .ok (.iconst 0, 1) := by decide +kernel
theorem dX4_yata_1 : decode cX4_yata 1 = .ok (.istore_n 3, 1) := by decide +kernel
theorem dX4_yata_2 : decode cX4_yata 2 = .ok (.iload_n 3, 1) := by decide +kernel
theorem dX4_yata_3 : decode cX4_yata 3 = .ok (.bipush 60, 2) := by decide +kernel
theorem dX4_yata_5 : decode cX4_yata 5 = .ok (.if_icmp .ge 16, 3) := by decide +kernel
theorem dX4_yata_8 : decode cX4_yata 8 = .ok (.aload_n 0, 1) := by decide +kernel
theorem dX4_yata_9 : decode cX4_yata 9 = .ok (.getfield 71, 3) := by decide +kernel
theorem dX4_yata_12 : decode cX4_yata 12 = .ok (.iload_n 3, 1) := by decide +kernel
theorem dX4_yata_13 : decode cX4_yata 13 = .ok (.iconst 0, 1) := by decide +kernel
theorem dX4_yata_14 : decode cX4_yata 14 = .ok (.bastore, 1) := by decide +kernel
theorem dX4_yata_15 : decode cX4_yata 15 = .ok (.iinc 3 1, 3) := by decide +kernel
theorem dX4_yata_18 : decode cX4_yata 18 = .ok (.goto (-16), 3) := by decide +kernel
theorem dX4_yata_21 : decode cX4_yata 21 = .ok (.aload_n 0, 1) := by decide +kernel
theorem dX4_yata_22 : decode cX4_yata 22 = .ok (.invokevirtual 115, 3) := by decide +kernel
theorem dX4_yata_25 : decode cX4_yata 25 = .ok (.aload_n 0, 1) := by decide +kernel
theorem dX4_yata_26 : decode cX4_yata 26 = .ok (.getfield 22, 3) := by decide +kernel
theorem dX4_yata_29 : decode cX4_yata 29 = .ok (.bipush 60, 2) := by decide +kernel
theorem dX4_yata_31 : decode cX4_yata 31 = .ok (.iload_n 2, 1) := by decide +kernel
theorem dX4_yata_32 : decode cX4_yata 32 = .ok (.iadd, 1) := by decide +kernel
theorem dX4_yata_33 : decode cX4_yata 33 = .ok (.iaload, 1) := by decide +kernel
theorem dX4_yata_34 : decode cX4_yata 34 = .ok (.istore_n 3, 1) := by decide +kernel
theorem dX4_yata_35 : decode cX4_yata 35 = .ok (.aload_n 0, 1) := by decide +kernel
theorem dX4_yata_36 : decode cX4_yata 36 = .ok (.iload_n 1, 1) := by decide +kernel
theorem dX4_yata_37 : decode cX4_yata 37 = .ok (.iload_n 3, 1) := by decide +kernel
theorem dX4_yata_38 : decode cX4_yata 38 = .ok (.invokevirtual 101, 3) := by decide +kernel
theorem dX4_yata_41 : decode cX4_yata 41 = .ok (.istore 4, 2) := by decide +kernel
theorem dX4_yata_43 : decode cX4_yata 43 = .ok (.aload_n 0, 1) := by decide +kernel
theorem dX4_yata_44 : decode cX4_yata 44 = .ok (.iload_n 1, 1) := by decide +kernel
theorem dX4_yata_45 : decode cX4_yata 45 = .ok (.aload_n 0, 1) := by decide +kernel
theorem dX4_yata_46 : decode cX4_yata 46 = .ok (.getfield 25, 3) := by decide +kernel
theorem dX4_yata_49 : decode cX4_yata 49 = .ok (.bipush 60, 2) := by decide +kernel
theorem dX4_yata_51 : decode cX4_yata 51 = .ok (.iload_n 2, 1) := by decide +kernel
theorem dX4_yata_52 : decode cX4_yata 52 = .ok (.iadd, 1) := by decide +kernel
theorem dX4_yata_53 : decode cX4_yata 53 = .ok (.iaload, 1) := by decide +kernel
theorem dX4_yata_54 : decode cX4_yata 54 = .ok (.invokevirtual 101, 3) := by decide +kernel
theorem dX4_yata_57 : decode cX4_yata 57 = .ok (.istore 5, 2) := by decide +kernel
theorem dX4_yata_59 : decode cX4_yata 59 = .ok (.iconst 1, 1) := by decide +kernel
theorem dX4_yata_60 : decode cX4_yata 60 = .ok (.istore 6, 2) := by decide +kernel
theorem dX4_yata_62 : decode cX4_yata 62 = .ok (.iload 4, 2) := by decide +kernel
theorem dX4_yata_64 : decode cX4_yata 64 = .ok (.iconst 1, 1) := by decide +kernel
theorem dX4_yata_65 : decode cX4_yata 65 = .ok (.iadd, 1) := by decide +kernel
theorem dX4_yata_66 : decode cX4_yata 66 = .ok (.istore 7, 2) := by decide +kernel
theorem dX4_yata_68 : decode cX4_yata 68 = .ok (.iload 6, 2) := by decide +kernel
theorem dX4_yata_70 : decode cX4_yata 70 = .ok (.ifCond .eq 175, 3) := by decide +kernel
theorem dX4_yata_73 : decode cX4_yata 73 = .ok (.iload 7, 2) := by decide +kernel
theorem dX4_yata_75 : decode cX4_yata 75 = .ok (.iload 5, 2) := by decide +kernel
theorem dX4_yata_77 : decode cX4_yata 77 = .ok (.if_icmp .ge 168, 3) := by decide +kernel
theorem dX4_yata_80 : decode cX4_yata 80 = .ok (.aload_n 0, 1) := by decide +kernel
theorem dX4_yata_81 : decode cX4_yata 81 = .ok (.aload_n 0, 1) := by decide +kernel
theorem dX4_yata_82 : decode cX4_yata 82 = .ok (.getfield 105, 3) := by decide +kernel
theorem dX4_yata_85 : decode cX4_yata 85 = .ok (.iconst 1, 1) := by decide +kernel
theorem dX4_yata_86 : decode cX4_yata 86 = .ok (.iadd, 1) := by decide +kernel
theorem dX4_yata_87 : decode cX4_yata 87 = .ok (.putfield 105, 3) := by decide +kernel
theorem dX4_yata_90 : decode cX4_yata 90 = .ok (.aload_n 0, 1) := by decide +kernel
theorem dX4_yata_91 : decode cX4_yata 91 = .ok (.getfield 47, 3) := by decide +kernel
theorem dX4_yata_94 : decode cX4_yata 94 = .ok (.bipush 60, 2) := by decide +kernel
theorem dX4_yata_96 : decode cX4_yata 96 = .ok (.iload_n 1, 1) := by decide +kernel
theorem dX4_yata_97 : decode cX4_yata 97 = .ok (.imul, 1) := by decide +kernel
theorem dX4_yata_98 : decode cX4_yata 98 = .ok (.iload 7, 2) := by decide +kernel
theorem dX4_yata_100 : decode cX4_yata 100 = .ok (.iadd, 1) := by decide +kernel
theorem dX4_yata_101 : decode cX4_yata 101 = .ok (.iaload, 1) := by decide +kernel
theorem dX4_yata_102 : decode cX4_yata 102 = .ok (.istore 8, 2) := by decide +kernel
theorem dX4_yata_104 : decode cX4_yata 104 = .ok (.aload_n 0, 1) := by decide +kernel
theorem dX4_yata_105 : decode cX4_yata 105 = .ok (.getfield 71, 3) := by decide +kernel
theorem dX4_yata_108 : decode cX4_yata 108 = .ok (.iload 8, 2) := by decide +kernel
theorem dX4_yata_110 : decode cX4_yata 110 = .ok (.iconst 1, 1) := by decide +kernel
theorem dX4_yata_111 : decode cX4_yata 111 = .ok (.bastore, 1) := by decide +kernel
theorem dX4_yata_112 : decode cX4_yata 112 = .ok (.aload_n 0, 1) := by decide +kernel
theorem dX4_yata_113 : decode cX4_yata 113 = .ok (.getfield 74, 3) := by decide +kernel
theorem dX4_yata_116 : decode cX4_yata 116 = .ok (.iload 8, 2) := by decide +kernel
theorem dX4_yata_118 : decode cX4_yata 118 = .ok (.iconst 1, 1) := by decide +kernel
theorem dX4_yata_119 : decode cX4_yata 119 = .ok (.bastore, 1) := by decide +kernel
theorem dX4_yata_120 : decode cX4_yata 120 = .ok (.aload_n 0, 1) := by decide +kernel
theorem dX4_yata_121 : decode cX4_yata 121 = .ok (.getfield 22, 3) := by decide +kernel
theorem dX4_yata_124 : decode cX4_yata 124 = .ok (.bipush 60, 2) := by decide +kernel
theorem dX4_yata_126 : decode cX4_yata 126 = .ok (.iload 8, 2) := by decide +kernel
theorem dX4_yata_128 : decode cX4_yata 128 = .ok (.iadd, 1) := by decide +kernel
theorem dX4_yata_129 : decode cX4_yata 129 = .ok (.iaload, 1) := by decide +kernel
theorem dX4_yata_130 : decode cX4_yata 130 = .ok (.istore 9, 2) := by decide +kernel
theorem dX4_yata_132 : decode cX4_yata 132 = .ok (.iload 9, 2) := by decide +kernel
theorem dX4_yata_134 : decode cX4_yata 134 = .ok (.iload_n 3, 1) := by decide +kernel
theorem dX4_yata_135 : decode cX4_yata 135 = .ok (.if_icmp .ne 64, 3) := by decide +kernel
theorem dX4_yata_138 : decode cX4_yata 138 = .ok (.aload_n 0, 1) := by decide +kernel
theorem dX4_yata_139 : decode cX4_yata 139 = .ok (.getfield 13, 3) := by decide +kernel
theorem dX4_yata_142 : decode cX4_yata 142 = .ok (.bipush 60, 2) := by decide +kernel
theorem dX4_yata_144 : decode cX4_yata 144 = .ok (.iload 8, 2) := by decide +kernel
theorem dX4_yata_146 : decode cX4_yata 146 = .ok (.iadd, 1) := by decide +kernel
theorem dX4_yata_147 : decode cX4_yata 147 = .ok (.iaload, 1) := by decide +kernel
theorem dX4_yata_148 : decode cX4_yata 148 = .ok (.aload_n 0, 1) := by decide +kernel
theorem dX4_yata_149 : decode cX4_yata 149 = .ok (.getfield 13, 3) := by decide +kernel
theorem dX4_yata_152 : decode cX4_yata 152 = .ok (.bipush 60, 2) := by decide +kernel
theorem dX4_yata_154 : decode cX4_yata 154 = .ok (.iload_n 2, 1) := by decide +kernel
theorem dX4_yata_155 : decode cX4_yata 155 = .ok (.iadd, 1) := by decide +kernel
theorem dX4_yata_156 : decode cX4_yata 156 = .ok (.iaload, 1) := by decide +kernel
theorem dX4_yata_157 : decode cX4_yata 157 = .ok (.if_icmp .ge 14, 3) := by decide +kernel
theorem dX4_yata_160 : decode cX4_yata 160 = .ok (.iload 7, 2) := by decide +kernel
theorem dX4_yata_162 : decode cX4_yata 162 = .ok (.istore 4, 2) := by decide +kernel
theorem dX4_yata_164 : decode cX4_yata 164 = .ok (.aload_n 0, 1) := by decide +kernel
theorem dX4_yata_165 : decode cX4_yata 165 = .ok (.invokevirtual 115, 3) := by decide +kernel
theorem dX4_yata_168 : decode cX4_yata 168 = .ok (.goto 71, 3) := by decide +kernel
theorem dX4_yata_171 : decode cX4_yata 171 = .ok (.aload_n 0, 1) := by decide +kernel
theorem dX4_yata_172 : decode cX4_yata 172 = .ok (.getfield 25, 3) := by decide +kernel
theorem dX4_yata_175 : decode cX4_yata 175 = .ok (.bipush 60, 2) := by decide +kernel
theorem dX4_yata_177 : decode cX4_yata 177 = .ok (.iload 8, 2) := by decide +kernel
theorem dX4_yata_179 : decode cX4_yata 179 = .ok (.iadd, 1) := by decide +kernel
theorem dX4_yata_180 : decode cX4_yata 180 = .ok (.iaload, 1) := by decide +kernel
theorem dX4_yata_181 : decode cX4_yata 181 = .ok (.aload_n 0, 1) := by decide +kernel
theorem dX4_yata_182 : decode cX4_yata 182 = .ok (.getfield 25, 3) := by decide +kernel
theorem dX4_yata_185 : decode cX4_yata 185 = .ok (.bipush 60, 2) := by decide +kernel
theorem dX4_yata_187 : decode cX4_yata 187 = .ok (.iload_n 2, 1) := by decide +kernel
theorem dX4_yata_188 : decode cX4_yata 188 = .ok (.iadd, 1) := by decide +kernel
theorem dX4_yata_189 : decode cX4_yata 189 = .ok (.iaload, 1) := by decide +kernel
theorem dX4_yata_190 : decode cX4_yata 190 = .ok (.if_icmp .ne 49, 3) := by decide +kernel
theorem dX4_yata_193 : decode cX4_yata 193 = .ok (.iconst 0, 1) := by decide +kernel
theorem dX4_yata_194 : decode cX4_yata 194 = .ok (.istore 6, 2) := by decide +kernel
theorem dX4_yata_196 : decode cX4_yata 196 = .ok (.goto 43, 3) := by decide +kernel
theorem dX4_yata_199 : decode cX4_yata 199 = .ok (.iload 9, 2) := by decide +kernel
theorem dX4_yata_201 : decode cX4_yata 201 = .ok (.iconst (-1), 1) := by decide +kernel
theorem dX4_yata_202 : decode cX4_yata 202 = .ok (.if_icmp .eq 34, 3) := by decide +kernel
theorem dX4_yata_205 : decode cX4_yata 205 = .ok (.aload_n 0, 1) := by decide +kernel
theorem dX4_yata_206 : decode cX4_yata 206 = .ok (.getfield 71, 3) := by decide +kernel
theorem dX4_yata_209 : decode cX4_yata 209 = .ok (.iload 9, 2) := by decide +kernel
theorem dX4_yata_211 : decode cX4_yata 211 = .ok (.baload, 1) := by decide +kernel
theorem dX4_yata_212 : decode cX4_yata 212 = .ok (.ifCond .eq 24, 3) := by decide +kernel
theorem dX4_yata_215 : decode cX4_yata 215 = .ok (.aload_n 0, 1) := by decide +kernel
theorem dX4_yata_216 : decode cX4_yata 216 = .ok (.getfield 74, 3) := by decide +kernel
theorem dX4_yata_219 : decode cX4_yata 219 = .ok (.iload 9, 2) := by decide +kernel
theorem dX4_yata_221 : decode cX4_yata 221 = .ok (.baload, 1) := by decide +kernel
theorem dX4_yata_222 : decode cX4_yata 222 = .ok (.ifCond .ne 17, 3) := by decide +kernel
theorem dX4_yata_225 : decode cX4_yata 225 = .ok (.iload 7, 2) := by decide +kernel
theorem dX4_yata_227 : decode cX4_yata 227 = .ok (.istore 4, 2) := by decide +kernel
theorem dX4_yata_229 : decode cX4_yata 229 = .ok (.aload_n 0, 1) := by decide +kernel
theorem dX4_yata_230 : decode cX4_yata 230 = .ok (.invokevirtual 115, 3) := by decide +kernel
theorem dX4_yata_233 : decode cX4_yata 233 = .ok (.goto 6, 3) := by decide +kernel
theorem dX4_yata_236 : decode cX4_yata 236 = .ok (.iconst 0, 1) := by decide +kernel
theorem dX4_yata_237 : decode cX4_yata 237 = .ok (.istore 6, 2) := by decide +kernel
theorem dX4_yata_239 : decode cX4_yata 239 = .ok (.iinc 7 1, 3) := by decide +kernel
theorem dX4_yata_242 : decode cX4_yata 242 = .ok (.goto (-174), 3) := by decide +kernel
theorem dX4_yata_245 : decode cX4_yata 245 = .ok (.aload_n 0, 1) := by decide +kernel
theorem dX4_yata_246 : decode cX4_yata 246 = .ok (.iload_n 1, 1) := by decide +kernel
theorem dX4_yata_247 : decode cX4_yata 247 = .ok (.iload_n 2, 1) := by decide +kernel
theorem dX4_yata_248 : decode cX4_yata 248 = .ok (.iload 4, 2) := by decide +kernel
theorem dX4_yata_250 : decode cX4_yata 250 = .ok (.iconst 1, 1) := by decide +kernel
theorem dX4_yata_251 : decode cX4_yata 251 = .ok (.iadd, 1) := by decide +kernel
theorem dX4_yata_252 : decode cX4_yata 252 = .ok (.invokevirtual 111, 3) := by decide +kernel
theorem dX4_yata_255 : decode cX4_yata 255 = .ok (.return_, 1) := by decide +kernel
theorem dX4_isThere_0 : decode cX4_isThere 0 = .ok (.iload_n 2, 1) := by decide +kernel
theorem dX4_isThere_1 : decode cX4_isThere 1 = .ok (.iconst (-1), 1) := by decide +kernel
theorem dX4_isThere_2 : decode cX4_isThere 2 = .ok (.if_icmp .eq 23, 3) := by decide +kernel
theorem dX4_isThere_5 : decode cX4_isThere 5 = .ok (.iload_n 2, 1) := by decide +kernel
theorem dX4_isThere_6 : decode cX4_isThere 6 = .ok (.bipush 60, 2) := by decide +kernel
theorem dX4_isThere_8 : decode cX4_isThere 8 = .ok (.if_icmp .eq 17, 3) := by decide +kernel
theorem dX4_isThere_11 : decode cX4_isThere 11 = .ok (.aload_n 0, 1) := by decide +kernel
theorem dX4_isThere_12 : decode cX4_isThere 12 = .ok (.getfield 53, 3) := by decide +kernel
theorem dX4_isThere_15 : decode cX4_isThere 15 = .ok (.bipush 60, 2) := by decide +kernel
theorem dX4_isThere_17 : decode cX4_isThere 17 = .ok (.iload_n 1, 1) := by decide +kernel
theorem dX4_isThere_18 : decode cX4_isThere 18 = .ok (.imul, 1) := by decide +kernel
theorem dX4_isThere_19 : decode cX4_isThere 19 = .ok (.iload_n 2, 1) := by decide +kernel
theorem dX4_isThere_20 : decode cX4_isThere 20 = .ok (.iadd, 1) := by decide +kernel
theorem dX4_isThere_21 : decode cX4_isThere 21 = .ok (.baload, 1) := by decide +kernel
theorem dX4_isThere_22 : decode cX4_isThere 22 = .ok (.ifCond .eq 7, 3) := by decide +kernel
theorem dX4_isThere_25 : decode cX4_isThere 25 = .ok (.iconst 1, 1) := by decide +kernel
theorem dX4_isThere_26 : decode cX4_isThere 26 = .ok (.goto 4, 3) := by decide +kernel
theorem dX4_isThere_29 : decode cX4_isThere 29 = .ok (.iconst 0, 1) := by decide +kernel
theorem dX4_isThere_30 : decode cX4_isThere 30 = .ok (.ireturn, 1) := by decide +kernel
set_option maxRecDepth 20000 in
theorem ggX4_can_X4_isThere : GoodIn wsX4_can wsX4_isThere := goodIn_r _ [9, 10, 11, 12, 13, 14, 15, 16, 17, 18, 19, 20, 21, 22, 23, 24, 25, 26, 27, 28, 29, 30, 31, 32, 33, 34, 35, 36, 37, 38, 39] (by decide +kernel) (by decide +kernel)
set_option maxRecDepth 20000 in
theorem gX4_can_X4_isThere : GoodIn wsX4_can (wsV RX4 118 RX4 yX4_isThere wsX4_isThere) := goodIn_app (goodIn_of _ (by decide +kernel)) ggX4_can_X4_isThere
theorem dX4_can_0 : decode cX4_can 0 = .ok (.aload_n 0, 1) := by decide +kernel
theorem dX4_can_1 : decode cX4_can 1 = .ok (.getfield 41, 3) := by decide +kernel
theorem dX4_can_4 : decode cX4_can 4 = .ok (.sipush 160, 3) := by decide +kernel
theorem dX4_can_7 : decode cX4_can 7 = .ok (.iload_n 2, 1) := by decide +kernel
theorem dX4_can_8 : decode cX4_can 8 = .ok (.imul, 1) := by decide +kernel
theorem dX4_can_9 : decode cX4_can 9 = .ok (.iload_n 3, 1) := by decide +kernel
theorem dX4_can_10 : decode cX4_can 10 = .ok (.iadd, 1) := by decide +kernel
theorem dX4_can_11 : decode cX4_can 11 = .ok (.iaload, 1) := by decide +kernel
theorem dX4_can_12 : decode cX4_can 12 = .ok (.istore 4, 2) := by decide +kernel
theorem dX4_can_14 : decode cX4_can 14 = .ok (.aload_n 0, 1) := by decide +kernel
theorem dX4_can_15 : decode cX4_can 15 = .ok (.getfield 37, 3) := by decide +kernel
theorem dX4_can_18 : decode cX4_can 18 = .ok (.sipush 160, 3) := by decide +kernel
theorem dX4_can_21 : decode cX4_can 21 = .ok (.iload_n 2, 1) := by decide +kernel
theorem dX4_can_22 : decode cX4_can 22 = .ok (.imul, 1) := by decide +kernel
theorem dX4_can_23 : decode cX4_can 23 = .ok (.iload_n 3, 1) := by decide +kernel
theorem dX4_can_24 : decode cX4_can 24 = .ok (.iadd, 1) := by decide +kernel
theorem dX4_can_25 : decode cX4_can 25 = .ok (.baload, 1) := by decide +kernel
theorem dX4_can_26 : decode cX4_can 26 = .ok (.ifCond .eq 11, 3) := by decide +kernel
theorem dX4_can_29 : decode cX4_can 29 = .ok (.aload_n 0, 1) := by decide +kernel
theorem dX4_can_30 : decode cX4_can 30 = .ok (.iload_n 1, 1) := by decide +kernel
theorem dX4_can_31 : decode cX4_can 31 = .ok (.iload 4, 2) := by decide +kernel
theorem dX4_can_33 : decode cX4_can 33 = .ok (.invokevirtual 118, 3) := by decide +kernel
theorem dX4_can_36 : decode cX4_can 36 = .ok (.ireturn, 1) := by decide +kernel
theorem dX4_can_37 : decode cX4_can 37 = .ok (.aload_n 0, 1) := by decide +kernel
theorem dX4_can_38 : decode cX4_can 38 = .ok (.iload_n 1, 1) := by decide +kernel
theorem dX4_can_39 : decode cX4_can 39 = .ok (.aload_n 0, 1) := by decide +kernel
theorem dX4_can_40 : decode cX4_can 40 = .ok (.getfield 22, 3) := by decide +kernel
theorem dX4_can_43 : decode cX4_can 43 = .ok (.bipush 60, 2) := by decide +kernel
theorem dX4_can_45 : decode cX4_can 45 = .ok (.iload_n 2, 1) := by decide +kernel
theorem dX4_can_46 : decode cX4_can 46 = .ok (.imul, 1) := by decide +kernel
theorem dX4_can_47 : decode cX4_can 47 = .ok (.iload 4, 2) := by decide +kernel
theorem dX4_can_49 : decode cX4_can 49 = .ok (.iadd, 1) := by decide +kernel
theorem dX4_can_50 : decode cX4_can 50 = .ok (.iaload, 1) := by decide +kernel
theorem dX4_can_51 : decode cX4_can 51 = .ok (.invokevirtual 118, 3) := by decide +kernel
theorem dX4_can_54 : decode cX4_can 54 = .ok (.ifCond .eq 27, 3) := by decide +kernel
theorem dX4_can_57 : decode cX4_can 57 = .ok (.aload_n 0, 1) := by decide +kernel
theorem dX4_can_58 : decode cX4_can 58 = .ok (.iload_n 1, 1) := by decide +kernel
theorem dX4_can_59 : decode cX4_can 59 = .ok (.aload_n 0, 1) := by decide +kernel
theorem dX4_can_60 : decode cX4_can 60 = .ok (.getfield 25, 3) := by decide +kernel
theorem dX4_can_63 : decode cX4_can 63 = .ok (.bipush 60, 2) := by decide +kernel
theorem dX4_can_65 : decode cX4_can 65 = .ok (.iload_n 2, 1) := by decide +kernel
theorem dX4_can_66 : decode cX4_can 66 = .ok (.imul, 1) := by decide +kernel
theorem dX4_can_67 : decode cX4_can 67 = .ok (.iload 4, 2) := by decide +kernel
theorem dX4_can_69 : decode cX4_can 69 = .ok (.iadd, 1) := by decide +kernel
theorem dX4_can_70 : decode cX4_can 70 = .ok (.iaload, 1) := by decide +kernel
theorem dX4_can_71 : decode cX4_can 71 = .ok (.invokevirtual 118, 3) := by decide +kernel
theorem dX4_can_74 : decode cX4_can 74 = .ok (.ifCond .eq 7, 3) := by decide +kernel
theorem dX4_can_77 : decode cX4_can 77 = .ok (.iconst 1, 1) := by decide +kernel
theorem dX4_can_78 : decode cX4_can 78 = .ok (.goto 4, 3) := by decide +kernel
theorem dX4_can_81 : decode cX4_can 81 = .ok (.iconst 0, 1) := by decide +kernel
theorem dX4_can_82 : decode cX4_can 82 = .ok (.ireturn, 1) := by decide +kernel
set_option maxRecDepth 20000 in
theorem ggX4_does_X4_integrate : GoodIn wsX4_does wsX4_integrate := goodIn_r _ [9, 10, 11, 12, 13, 8, 14, 15, 16, 17, 18, 19, 20, 21, 22, 23, 24, 25, 26, 27, 28, 29, 30, 31, 32, 33, 34, 35, 36, 37, 38, 39, 40, 41, 42, 43, 44, 45, 46, 47, 48, 49, 50, 51, 52, 53, 54, 55, 56, 57, 58, 59, 60, 61, 62, 63, 64, 65, 66, 67, 68, 69, 70, 71, 72, 73, 74] (by decide +kernel) (by decide +kernel)
set_option maxRecDepth 20000 in
theorem gX4_does_X4_integrate : GoodIn wsX4_does (wsV RX4 122 RX4 yX4_integrate wsX4_integrate) := goodIn_app (goodIn_of _ (by decide +kernel)) ggX4_does_X4_integrate
theorem dX4_does_0 : decode cX4_does 0 = .ok (.aload_n 0, 1) := by decide +kernel
theorem dX4_does_1 : decode cX4_does 1 = .ok (.getfield 41, 3) := by decide +kernel
theorem dX4_does_4 : decode cX4_does 4 = .ok (.sipush 160, 3) := by decide +kernel
theorem dX4_does_7 : decode cX4_does 7 = .ok (.iload_n 2, 1) := by decide +kernel
theorem dX4_does_8 : decode cX4_does 8 = .ok (.imul, 1) := by decide +kernel
theorem dX4_does_9 : decode cX4_does 9 = .ok (.iload_n 3, 1) := by decide +kernel
theorem dX4_does_10 : decode cX4_does 10 = .ok (.iadd, 1) := by decide +kernel
theorem dX4_does_11 : decode cX4_does 11 = .ok (.iaload, 1) := by decide +kernel
theorem dX4_does_12 : decode cX4_does 12 = .ok (.istore 4, 2) := by decide +kernel
theorem dX4_does_14 : decode cX4_does 14 = .ok (.aload_n 0, 1) := by decide +kernel
theorem dX4_does_15 : decode cX4_does 15 = .ok (.getfield 59, 3) := by decide +kernel
theorem dX4_does_18 : decode cX4_does 18 = .ok (.sipush 160, 3) := by decide +kernel
theorem dX4_does_21 : decode cX4_does 21 = .ok (.iload_n 1, 1) := by decide +kernel
theorem dX4_does_22 : decode cX4_does 22 = .ok (.imul, 1) := by decide +kernel
theorem dX4_does_23 : decode cX4_does 23 = .ok (.iload_n 3, 1) := by decide +kernel
theorem dX4_does_24 : decode cX4_does 24 = .ok (.iadd, 1) := by decide +kernel
theorem dX4_does_25 : decode cX4_does 25 = .ok (.iconst 2, 1) := by decide +kernel
theorem dX4_does_26 : decode cX4_does 26 = .ok (.iastore, 1) := by decide +kernel
theorem dX4_does_27 : decode cX4_does 27 = .ok (.aload_n 0, 1) := by decide +kernel
theorem dX4_does_28 : decode cX4_does 28 = .ok (.getfield 37, 3) := by decide +kernel
theorem dX4_does_31 : decode cX4_does 31 = .ok (.sipush 160, 3) := by decide +kernel
theorem dX4_does_34 : decode cX4_does 34 = .ok (.iload_n 2, 1) := by decide +kernel
theorem dX4_does_35 : decode cX4_does 35 = .ok (.imul, 1) := by decide +kernel
theorem dX4_does_36 : decode cX4_does 36 = .ok (.iload_n 3, 1) := by decide +kernel
theorem dX4_does_37 : decode cX4_does 37 = .ok (.iadd, 1) := by decide +kernel
theorem dX4_does_38 : decode cX4_does 38 = .ok (.baload, 1) := by decide +kernel
theorem dX4_does_39 : decode cX4_does 39 = .ok (.ifCond .eq 19, 3) := by decide +kernel
theorem dX4_does_42 : decode cX4_does 42 = .ok (.aload_n 0, 1) := by decide +kernel
theorem dX4_does_43 : decode cX4_does 43 = .ok (.getfield 56, 3) := by decide +kernel
theorem dX4_does_46 : decode cX4_does 46 = .ok (.bipush 60, 2) := by decide +kernel
theorem dX4_does_48 : decode cX4_does 48 = .ok (.iload_n 1, 1) := by decide +kernel
theorem dX4_does_49 : decode cX4_does 49 = .ok (.imul, 1) := by decide +kernel
theorem dX4_does_50 : decode cX4_does 50 = .ok (.iload 4, 2) := by decide +kernel
theorem dX4_does_52 : decode cX4_does 52 = .ok (.iadd, 1) := by decide +kernel
theorem dX4_does_53 : decode cX4_does 53 = .ok (.iconst 1, 1) := by decide +kernel
theorem dX4_does_54 : decode cX4_does 54 = .ok (.bastore, 1) := by decide +kernel
theorem dX4_does_55 : decode cX4_does 55 = .ok (.goto 11, 3) := by decide +kernel
theorem dX4_does_58 : decode cX4_does 58 = .ok (.aload_n 0, 1) := by decide +kernel
theorem dX4_does_59 : decode cX4_does 59 = .ok (.iload_n 1, 1) := by decide +kernel
theorem dX4_does_60 : decode cX4_does 60 = .ok (.iload_n 2, 1) := by decide +kernel
theorem dX4_does_61 : decode cX4_does 61 = .ok (.iload 4, 2) := by decide +kernel
theorem dX4_does_63 : decode cX4_does 63 = .ok (.invokevirtual 122, 3) := by decide +kernel
theorem dX4_does_66 : decode cX4_does 66 = .ok (.return_, 1) := by decide +kernel
set_option maxRecDepth 20000 in
theorem ggX4_hears_X4_can : GoodIn wsX4_hears wsX4_can := goodIn_r _ [7, 8, 9, 10, 11, 12, 13, 14, 6, 15, 16, 59, 60, 61, 62, 63, 64, 65, 66, 67, 68, 69, 70, 71, 72, 73, 74, 75, 76, 77, 78, 79, 80, 81, 82, 83, 84, 85, 86, 87] (by decide +kernel) (by decide +kernel)
set_option maxRecDepth 20000 in
theorem gX4_hears_X4_can : GoodIn wsX4_hears (wsV RX4 125 RX4 yX4_can wsX4_can) := goodIn_app (goodIn_of _ (by decide +kernel)) ggX4_hears_X4_can
set_option maxRecDepth 20000 in
theorem ggX4_hears_X4_does : GoodIn wsX4_hears wsX4_does := goodIn_r _ [20, 8, 1, 9, 21, 22, 23, 24, 6, 25, 26, 27, 28, 29, 30, 10, 11, 31, 32, 33, 34, 35, 36, 37, 38, 39, 40, 41, 42, 43, 44, 45, 46, 47, 48, 16, 49, 50, 51, 52, 53, 54, 55, 56, 57, 58, 59, 60, 61, 62, 63, 64, 65, 66, 67, 68, 69, 70, 71, 72, 73, 74, 75, 76, 77, 78, 79, 80, 81, 82, 83, 84, 85, 86, 87] (by decide +kernel) (by decide +kernel)
set_option maxRecDepth 20000 in
theorem gX4_hears_X4_does : GoodIn wsX4_hears (wsV RX4 129 RX4 yX4_does wsX4_does) := goodIn_app (goodIn_of _ (by decide +kernel)) ggX4_hears_X4_does
theorem dX4_hears_0 : decode cX4_hears 0 = .ok (.aload_n 0, 1) := by decide +kernel
theorem dX4_hears_1 : decode cX4_hears 1 = .ok (.getfield 59, 3) := by decide +kernel
theorem dX4_hears_4 : decode cX4_hears 4 = .ok (.sipush 160, 3) := by decide +kernel
theorem dX4_hears_7 : decode cX4_hears 7 = .ok (.iload_n 1, 1) := by decide +kernel
theorem dX4_hears_8 : decode cX4_hears 8 = .ok (.imul, 1) := by decide +kernel
theorem dX4_hears_9 : decode cX4_hears 9 = .ok (.iload_n 3, 1) := by decide +kernel
theorem dX4_hears_10 : decode cX4_hears 10 = .ok (.iadd, 1) := by decide +kernel
theorem dX4_hears_11 : decode cX4_hears 11 = .ok (.iaload, 1) := by decide +kernel
theorem dX4_hears_12 : decode cX4_hears 12 = .ok (.ifCond .eq 5, 3) := by decide +kernel
theorem dX4_hears_15 : decode cX4_hears 15 = .ok (.iconst 0, 1) := by decide +kernel
theorem dX4_hears_16 : decode cX4_hears 16 = .ok (.ireturn, 1) := by decide +kernel
theorem dX4_hears_17 : decode cX4_hears 17 = .ok (.aload_n 0, 1) := by decide +kernel
theorem dX4_hears_18 : decode cX4_hears 18 = .ok (.iload_n 1, 1) := by decide +kernel
theorem dX4_hears_19 : decode cX4_hears 19 = .ok (.iload_n 2, 1) := by decide +kernel
theorem dX4_hears_20 : decode cX4_hears 20 = .ok (.iload_n 3, 1) := by decide +kernel
theorem dX4_hears_21 : decode cX4_hears 21 = .ok (.invokevirtual 125, 3) := by decide +kernel
theorem dX4_hears_24 : decode cX4_hears 24 = .ok (.ifCond .ne 18, 3) := by decide +kernel
theorem dX4_hears_27 : decode cX4_hears 27 = .ok (.aload_n 0, 1) := by decide +kernel
theorem dX4_hears_28 : decode cX4_hears 28 = .ok (.getfield 59, 3) := by decide +kernel
theorem dX4_hears_31 : decode cX4_hears 31 = .ok (.sipush 160, 3) := by decide +kernel
theorem dX4_hears_34 : decode cX4_hears 34 = .ok (.iload_n 1, 1) := by decide +kernel
theorem dX4_hears_35 : decode cX4_hears 35 = .ok (.imul, 1) := by decide +kernel
theorem dX4_hears_36 : decode cX4_hears 36 = .ok (.iload_n 3, 1) := by decide +kernel
theorem dX4_hears_37 : decode cX4_hears 37 = .ok (.iadd, 1) := by decide +kernel
theorem dX4_hears_38 : decode cX4_hears 38 = .ok (.iconst 1, 1) := by decide +kernel
theorem dX4_hears_39 : decode cX4_hears 39 = .ok (.iastore, 1) := by decide +kernel
theorem dX4_hears_40 : decode cX4_hears 40 = .ok (.iconst 0, 1) := by decide +kernel
theorem dX4_hears_41 : decode cX4_hears 41 = .ok (.ireturn, 1) := by decide +kernel
theorem dX4_hears_42 : decode cX4_hears 42 = .ok (.aload_n 0, 1) := by decide +kernel
theorem dX4_hears_43 : decode cX4_hears 43 = .ok (.iload_n 1, 1) := by decide +kernel
theorem dX4_hears_44 : decode cX4_hears 44 = .ok (.iload_n 2, 1) := by decide +kernel
theorem dX4_hears_45 : decode cX4_hears 45 = .ok (.iload_n 3, 1) := by decide +kernel
theorem dX4_hears_46 : decode cX4_hears 46 = .ok (.invokevirtual 129, 3) := by decide +kernel
theorem dX4_hears_49 : decode cX4_hears 49 = .ok (.iconst 1, 1) := by decide +kernel
theorem dX4_hears_50 : decode cX4_hears 50 = .ok (.istore 4, 2) := by decide +kernel
theorem dX4_hears_52 : decode cX4_hears 52 = .ok (.iconst 0, 1) := by decide +kernel
theorem dX4_hears_53 : decode cX4_hears 53 = .ok (.istore 5, 2) := by decide +kernel
theorem dX4_hears_55 : decode cX4_hears 55 = .ok (.iload 5, 2) := by decide +kernel
theorem dX4_hears_57 : decode cX4_hears 57 = .ok (.aload_n 0, 1) := by decide +kernel
theorem dX4_hears_58 : decode cX4_hears 58 = .ok (.getfield 31, 3) := by decide +kernel
theorem dX4_hears_61 : decode cX4_hears 61 = .ok (.iload_n 2, 1) := by decide +kernel
theorem dX4_hears_62 : decode cX4_hears 62 = .ok (.iaload, 1) := by decide +kernel
theorem dX4_hears_63 : decode cX4_hears 63 = .ok (.if_icmp .ge 60, 3) := by decide +kernel
theorem dX4_hears_66 : decode cX4_hears 66 = .ok (.aload_n 0, 1) := by decide +kernel
theorem dX4_hears_67 : decode cX4_hears 67 = .ok (.getfield 59, 3) := by decide +kernel
theorem dX4_hears_70 : decode cX4_hears 70 = .ok (.sipush 160, 3) := by decide +kernel
theorem dX4_hears_73 : decode cX4_hears 73 = .ok (.iload_n 1, 1) := by decide +kernel
theorem dX4_hears_74 : decode cX4_hears 74 = .ok (.imul, 1) := by decide +kernel
theorem dX4_hears_75 : decode cX4_hears 75 = .ok (.iload 5, 2) := by decide +kernel
theorem dX4_hears_77 : decode cX4_hears 77 = .ok (.iadd, 1) := by decide +kernel
theorem dX4_hears_78 : decode cX4_hears 78 = .ok (.iaload, 1) := by decide +kernel
theorem dX4_hears_79 : decode cX4_hears 79 = .ok (.iconst 1, 1) := by decide +kernel
theorem dX4_hears_80 : decode cX4_hears 80 = .ok (.if_icmp .ne 34, 3) := by decide +kernel
theorem dX4_hears_83 : decode cX4_hears 83 = .ok (.aload_n 0, 1) := by decide +kernel
theorem dX4_hears_84 : decode cX4_hears 84 = .ok (.iload_n 1, 1) := by decide +kernel
theorem dX4_hears_85 : decode cX4_hears 85 = .ok (.iload_n 2, 1) := by decide +kernel
theorem dX4_hears_86 : decode cX4_hears 86 = .ok (.iload 5, 2) := by decide +kernel
theorem dX4_hears_88 : decode cX4_hears 88 = .ok (.invokevirtual 125, 3) := by decide +kernel
theorem dX4_hears_91 : decode cX4_hears 91 = .ok (.ifCond .eq 23, 3) := by decide +kernel
theorem dX4_hears_94 : decode cX4_hears 94 = .ok (.aload_n 0, 1) := by decide +kernel
theorem dX4_hears_95 : decode cX4_hears 95 = .ok (.iload_n 1, 1) := by decide +kernel
theorem dX4_hears_96 : decode cX4_hears 96 = .ok (.iload_n 2, 1) := by decide +kernel
theorem dX4_hears_97 : decode cX4_hears 97 = .ok (.iload 5, 2) := by decide +kernel
theorem dX4_hears_99 : decode cX4_hears 99 = .ok (.invokevirtual 129, 3) := by decide +kernel
theorem dX4_hears_102 : decode cX4_hears 102 = .ok (.iload 4, 2) := by decide +kernel
theorem dX4_hears_104 : decode cX4_hears 104 = .ok (.iconst 1, 1) := by decide +kernel
theorem dX4_hears_105 : decode cX4_hears 105 = .ok (.iadd, 1) := by decide +kernel
theorem dX4_hears_106 : decode cX4_hears 106 = .ok (.istore 4, 2) := by decide +kernel
theorem dX4_hears_108 : decode cX4_hears 108 = .ok (.iconst 0, 1) := by decide +kernel
theorem dX4_hears_109 : decode cX4_hears 109 = .ok (.istore 5, 2) := by decide +kernel
theorem dX4_hears_111 : decode cX4_hears 111 = .ok (.goto (-56), 3) := by decide +kernel
theorem dX4_hears_114 : decode cX4_hears 114 = .ok (.iload 5, 2) := by decide +kernel
theorem dX4_hears_116 : decode cX4_hears 116 = .ok (.iconst 1, 1) := by decide +kernel
theorem dX4_hears_117 : decode cX4_hears 117 = .ok (.iadd, 1) := by decide +kernel
theorem dX4_hears_118 : decode cX4_hears 118 = .ok (.istore 5, 2) := by decide +kernel
theorem dX4_hears_120 : decode cX4_hears 120 = .ok (.goto (-65), 3) := by decide +kernel
theorem dX4_hears_123 : decode cX4_hears 123 = .ok (.iload 4, 2) := by decide +kernel
theorem dX4_hears_125 : decode cX4_hears 125 = .ok (.ireturn, 1) := by decide +kernel
theorem dX4_begins_0 : decode cX4_begins 0 = .ok (.aload_n 0, 1) := by decide +kernel
theorem dX4_begins_1 : decode cX4_begins 1 = .ok (.iconst 0, 1) := by decide +kernel
theorem dX4_begins_2 : decode cX4_begins 2 = .ok (.putfield 105, 3) := by decide +kernel
theorem dX4_begins_5 : decode cX4_begins 5 = .ok (.aload_n 0, 1) := by decide +kernel
theorem dX4_begins_6 : decode cX4_begins 6 = .ok (.iconst 0, 1) := by decide +kernel
theorem dX4_begins_7 : decode cX4_begins 7 = .ok (.putfield 91, 3) := by decide +kernel
theorem dX4_begins_10 : decode cX4_begins 10 = .ok (.return_, 1) := by decide +kernel
theorem dX4_ends_0 : decode cX4_ends 0 = .ok (.aload_n 0, 1) := by decide +kernel
theorem dX4_ends_1 : decode cX4_ends 1 = .ok (.getfield 91, 3) := by decide +kernel
theorem dX4_ends_4 : decode cX4_ends 4 = .ok (.ifCond .le 13, 3) := by decide +kernel
theorem dX4_ends_7 : decode cX4_ends 7 = .ok (.aload_n 0, 1) := by decide +kernel
theorem dX4_ends_8 : decode cX4_ends 8 = .ok (.getfield 62, 3) := by decide +kernel
theorem dX4_ends_11 : decode cX4_ends 11 = .ok (.iload_n 1, 1) := by decide +kernel
theorem dX4_ends_12 : decode cX4_ends 12 = .ok (.aload_n 0, 1) := by decide +kernel
theorem dX4_ends_13 : decode cX4_ends 13 = .ok (.getfield 105, 3) := by decide +kernel
theorem dX4_ends_16 : decode cX4_ends 16 = .ok (.iastore, 1) := by decide +kernel
theorem dX4_ends_17 : decode cX4_ends 17 = .ok (.return_, 1) := by decide +kernel
theorem dX4_seen_0 : decode cX4_seen 0 = .ok (.iconst 0, 1) := by decide +kernel
theorem dX4_seen_1 : decode cX4_seen 1 = .ok (.istore_n 3, 1) := by decide +kernel
theorem dX4_seen_2 : decode cX4_seen 2 = .ok (.iconst 0, 1) := by decide +kernel
theorem dX4_seen_3 : decode cX4_seen 3 = .ok (.istore 4, 2) := by decide +kernel
theorem dX4_seen_5 : decode cX4_seen 5 = .ok (.iload 4, 2) := by decide +kernel
theorem dX4_seen_7 : decode cX4_seen 7 = .ok (.aload_n 0, 1) := by decide +kernel
theorem dX4_seen_8 : decode cX4_seen 8 = .ok (.getfield 50, 3) := by decide +kernel
theorem dX4_seen_11 : decode cX4_seen 11 = .ok (.iload_n 1, 1) := by decide +kernel
theorem dX4_seen_12 : decode cX4_seen 12 = .ok (.iaload, 1) := by decide +kernel
theorem dX4_seen_13 : decode cX4_seen 13 = .ok (.if_icmp .ge 49, 3) := by decide +kernel
theorem dX4_seen_16 : decode cX4_seen 16 = .ok (.aload_n 0, 1) := by decide +kernel
theorem dX4_seen_17 : decode cX4_seen 17 = .ok (.getfield 56, 3) := by decide +kernel
theorem dX4_seen_20 : decode cX4_seen 20 = .ok (.bipush 60, 2) := by decide +kernel
theorem dX4_seen_22 : decode cX4_seen 22 = .ok (.iload_n 1, 1) := by decide +kernel
theorem dX4_seen_23 : decode cX4_seen 23 = .ok (.imul, 1) := by decide +kernel
theorem dX4_seen_24 : decode cX4_seen 24 = .ok (.aload_n 0, 1) := by decide +kernel
theorem dX4_seen_25 : decode cX4_seen 25 = .ok (.getfield 47, 3) := by decide +kernel
theorem dX4_seen_28 : decode cX4_seen 28 = .ok (.bipush 60, 2) := by decide +kernel
theorem dX4_seen_30 : decode cX4_seen 30 = .ok (.iload_n 1, 1) := by decide +kernel
theorem dX4_seen_31 : decode cX4_seen 31 = .ok (.imul, 1) := by decide +kernel
theorem dX4_seen_32 : decode cX4_seen 32 = .ok (.iload 4, 2) := by decide +kernel
theorem dX4_seen_34 : decode cX4_seen 34 = .ok (.iadd, 1) := by decide +kernel
theorem dX4_seen_35 : decode cX4_seen 35 = .ok (.iaload, 1) := by decide +kernel
theorem dX4_seen_36 : decode cX4_seen 36 = .ok (.iadd, 1) := by decide +kernel
theorem dX4_seen_37 : decode cX4_seen 37 = .ok (.baload, 1) := by decide +kernel
theorem dX4_seen_38 : decode cX4_seen 38 = .ok (.ifCond .eq 6, 3) := by decide +kernel
theorem dX4_seen_41 : decode cX4_seen 41 = .ok (.goto 15, 3) := by decide +kernel
theorem dX4_seen_44 : decode cX4_seen 44 = .ok (.iload_n 3, 1) := by decide +kernel
theorem dX4_seen_45 : decode cX4_seen 45 = .ok (.iload_n 2, 1) := by decide +kernel
theorem dX4_seen_46 : decode cX4_seen 46 = .ok (.if_icmp .ne 6, 3) := by decide +kernel
theorem dX4_seen_49 : decode cX4_seen 49 = .ok (.iload 4, 2) := by decide +kernel
theorem dX4_seen_51 : decode cX4_seen 51 = .ok (.ireturn, 1) := by decide +kernel
theorem dX4_seen_52 : decode cX4_seen 52 = .ok (.iload_n 3, 1) := by decide +kernel
theorem dX4_seen_53 : decode cX4_seen 53 = .ok (.iconst 1, 1) := by decide +kernel
theorem dX4_seen_54 : decode cX4_seen 54 = .ok (.iadd, 1) := by decide +kernel
theorem dX4_seen_55 : decode cX4_seen 55 = .ok (.istore_n 3, 1) := by decide +kernel
theorem dX4_seen_56 : decode cX4_seen 56 = .ok (.iinc 4 1, 3) := by decide +kernel
theorem dX4_seen_59 : decode cX4_seen 59 = .ok (.goto (-54), 3) := by decide +kernel
theorem dX4_seen_62 : decode cX4_seen 62 = .ok (.iconst (-1), 1) := by decide +kernel
theorem dX4_seen_63 : decode cX4_seen 63 = .ok (.ireturn, 1) := by decide +kernel
theorem dX4_allSeen_0 : decode cX4_allSeen 0 = .ok (.iconst 0, 1) := by decide +kernel
theorem dX4_allSeen_1 : decode cX4_allSeen 1 = .ok (.istore_n 2, 1) := by decide +kernel
theorem dX4_allSeen_2 : decode cX4_allSeen 2 = .ok (.iconst 0, 1) := by decide +kernel
theorem dX4_allSeen_3 : decode cX4_allSeen 3 = .ok (.istore_n 3, 1) := by decide +kernel
theorem dX4_allSeen_4 : decode cX4_allSeen 4 = .ok (.iload_n 3, 1) := by decide +kernel
theorem dX4_allSeen_5 : decode cX4_allSeen 5 = .ok (.aload_n 0, 1) := by decide +kernel
theorem dX4_allSeen_6 : decode cX4_allSeen 6 = .ok (.getfield 50, 3) := by decide +kernel
theorem dX4_allSeen_9 : decode cX4_allSeen 9 = .ok (.iload_n 1, 1) := by decide +kernel
theorem dX4_allSeen_10 : decode cX4_allSeen 10 = .ok (.iaload, 1) := by decide +kernel
theorem dX4_allSeen_11 : decode cX4_allSeen 11 = .ok (.if_icmp .ge 41, 3) := by decide +kernel
theorem dX4_allSeen_14 : decode cX4_allSeen 14 = .ok (.iload_n 2, 1) := by decide +kernel
theorem dX4_allSeen_15 : decode cX4_allSeen 15 = .ok (.aload_n 0, 1) := by decide +kernel
theorem dX4_allSeen_16 : decode cX4_allSeen 16 = .ok (.getfield 56, 3) := by decide +kernel
theorem dX4_allSeen_19 : decode cX4_allSeen 19 = .ok (.bipush 60, 2) := by decide +kernel
theorem dX4_allSeen_21 : decode cX4_allSeen 21 = .ok (.iload_n 1, 1) := by decide +kernel
theorem dX4_allSeen_22 : decode cX4_allSeen 22 = .ok (.imul, 1) := by decide +kernel
theorem dX4_allSeen_23 : decode cX4_allSeen 23 = .ok (.aload_n 0, 1) := by decide +kernel
theorem dX4_allSeen_24 : decode cX4_allSeen 24 = .ok (.getfield 47, 3) := by decide +kernel
theorem dX4_allSeen_27 : decode cX4_allSeen 27 = .ok (.bipush 60, 2) := by decide +kernel
theorem dX4_allSeen_29 : decode cX4_allSeen 29 = .ok (.iload_n 1, 1) := by decide +kernel
theorem dX4_allSeen_30 : decode cX4_allSeen 30 = .ok (.imul, 1) := by decide +kernel
theorem dX4_allSeen_31 : decode cX4_allSeen 31 = .ok (.iload_n 3, 1) := by decide +kernel
theorem dX4_allSeen_32 : decode cX4_allSeen 32 = .ok (.iadd, 1) := by decide +kernel
theorem dX4_allSeen_33 : decode cX4_allSeen 33 = .ok (.iaload, 1) := by decide +kernel
theorem dX4_allSeen_34 : decode cX4_allSeen 34 = .ok (.iadd, 1) := by decide +kernel
theorem dX4_allSeen_35 : decode cX4_allSeen 35 = .ok (.baload, 1) := by decide +kernel
theorem dX4_allSeen_36 : decode cX4_allSeen 36 = .ok (.ifCond .eq 7, 3) := by decide +kernel
theorem dX4_allSeen_39 : decode cX4_allSeen 39 = .ok (.iconst 0, 1) := by decide +kernel
theorem dX4_allSeen_40 : decode cX4_allSeen 40 = .ok (.goto 4, 3) := by decide +kernel
theorem dX4_allSeen_43 : decode cX4_allSeen 43 = .ok (.iconst 1, 1) := by decide +kernel
theorem dX4_allSeen_44 : decode cX4_allSeen 44 = .ok (.iadd, 1) := by decide +kernel
theorem dX4_allSeen_45 : decode cX4_allSeen 45 = .ok (.istore_n 2, 1) := by decide +kernel
theorem dX4_allSeen_46 : decode cX4_allSeen 46 = .ok (.iinc 3 1, 3) := by decide +kernel
theorem dX4_allSeen_49 : decode cX4_allSeen 49 = .ok (.goto (-45), 3) := by decide +kernel
theorem dX4_allSeen_52 : decode cX4_allSeen 52 = .ok (.iload_n 2, 1) := by decide +kernel
theorem dX4_allSeen_53 : decode cX4_allSeen 53 = .ok (.ireturn, 1) := by decide +kernel
theorem dX4_message_0 : decode cX4_message 0 = .ok (.aload_n 0, 1) := by decide +kernel
theorem dX4_message_1 : decode cX4_message 1 = .ok (.getfield 31, 3) := by decide +kernel
theorem dX4_message_4 : decode cX4_message 4 = .ok (.iload_n 1, 1) := by decide +kernel
theorem dX4_message_5 : decode cX4_message 5 = .ok (.iaload, 1) := by decide +kernel
theorem dX4_message_6 : decode cX4_message 6 = .ok (.istore 5, 2) := by decide +kernel
theorem dX4_message_8 : decode cX4_message 8 = .ok (.aload_n 0, 1) := by decide +kernel
theorem dX4_message_9 : decode cX4_message 9 = .ok (.getfield 37, 3) := by decide +kernel
theorem dX4_message_12 : decode cX4_message 12 = .ok (.sipush 160, 3) := by decide +kernel
theorem dX4_message_15 : decode cX4_message 15 = .ok (.iload_n 1, 1) := by decide +kernel
theorem dX4_message_16 : decode cX4_message 16 = .ok (.imul, 1) := by decide +kernel
theorem dX4_message_17 : decode cX4_message 17 = .ok (.iload 5, 2) := by decide +kernel
theorem dX4_message_19 : decode cX4_message 19 = .ok (.iadd, 1) := by decide +kernel
theorem dX4_message_20 : decode cX4_message 20 = .ok (.iload 4, 2) := by decide +kernel
theorem dX4_message_22 : decode cX4_message 22 = .ok (.bastore, 1) := by decide +kernel
theorem dX4_message_23 : decode cX4_message 23 = .ok (.aload_n 0, 1) := by decide +kernel
theorem dX4_message_24 : decode cX4_message 24 = .ok (.getfield 41, 3) := by decide +kernel
theorem dX4_message_27 : decode cX4_message 27 = .ok (.sipush 160, 3) := by decide +kernel
theorem dX4_message_30 : decode cX4_message 30 = .ok (.iload_n 1, 1) := by decide +kernel
theorem dX4_message_31 : decode cX4_message 31 = .ok (.imul, 1) := by decide +kernel
theorem dX4_message_32 : decode cX4_message 32 = .ok (.iload 5, 2) := by decide +kernel
theorem dX4_message_34 : decode cX4_message 34 = .ok (.iadd, 1) := by decide +kernel
theorem dX4_message_35 : decode cX4_message 35 = .ok (.iload_n 3, 1) := by decide +kernel
theorem dX4_message_36 : decode cX4_message 36 = .ok (.iastore, 1) := by decide +kernel
theorem dX4_message_37 : decode cX4_message 37 = .ok (.aload_n 0, 1) := by decide +kernel
theorem dX4_message_38 : decode cX4_message 38 = .ok (.getfield 44, 3) := by decide +kernel
theorem dX4_message_41 : decode cX4_message 41 = .ok (.sipush 160, 3) := by decide +kernel
theorem dX4_message_44 : decode cX4_message 44 = .ok (.iload_n 1, 1) := by decide +kernel
theorem dX4_message_45 : decode cX4_message 45 = .ok (.imul, 1) := by decide +kernel
theorem dX4_message_46 : decode cX4_message 46 = .ok (.iload 5, 2) := by decide +kernel
theorem dX4_message_48 : decode cX4_message 48 = .ok (.iadd, 1) := by decide +kernel
theorem dX4_message_49 : decode cX4_message 49 = .ok (.iload_n 2, 1) := by decide +kernel
theorem dX4_message_50 : decode cX4_message 50 = .ok (.iastore, 1) := by decide +kernel
theorem dX4_message_51 : decode cX4_message 51 = .ok (.aload_n 0, 1) := by decide +kernel
theorem dX4_message_52 : decode cX4_message 52 = .ok (.getfield 31, 3) := by decide +kernel
theorem dX4_message_55 : decode cX4_message 55 = .ok (.iload_n 1, 1) := by decide +kernel
theorem dX4_message_56 : decode cX4_message 56 = .ok (.iload 5, 2) := by decide +kernel
theorem dX4_message_58 : decode cX4_message 58 = .ok (.iconst 1, 1) := by decide +kernel
theorem dX4_message_59 : decode cX4_message 59 = .ok (.iadd, 1) := by decide +kernel
theorem dX4_message_60 : decode cX4_message 60 = .ok (.iastore, 1) := by decide +kernel
theorem dX4_message_61 : decode cX4_message 61 = .ok (.iload 5, 2) := by decide +kernel
theorem dX4_message_63 : decode cX4_message 63 = .ok (.ireturn, 1) := by decide +kernel
set_option maxRecDepth 20000 in
theorem ggX4_insert_X4_isText : GoodIn wsX4_insert wsX4_isText := goodIn_r _ [15] (by decide +kernel) (by decide +kernel)
set_option maxRecDepth 20000 in
theorem gX4_insert_X4_isText : GoodIn wsX4_insert (wsV RX4 132 RX4 yX4_isText wsX4_isText) := goodIn_app (goodIn_of _ (by decide +kernel)) ggX4_insert_X4_isText
set_option maxRecDepth 20000 in
theorem ggX4_insert_X4_isSite : GoodIn wsX4_insert wsX4_isSite := goodIn_r _ [19] (by decide +kernel) (by decide +kernel)
set_option maxRecDepth 20000 in
theorem gX4_insert_X4_isSite : GoodIn wsX4_insert (wsV RX4 136 RX4 yX4_isSite wsX4_isSite) := goodIn_app (goodIn_of _ (by decide +kernel)) ggX4_insert_X4_isSite
set_option maxRecDepth 20000 in
theorem ggX4_insert_X4_allSeen : GoodIn wsX4_insert wsX4_allSeen := goodIn_r _ [23, 3, 24, 9, 97, 98, 99, 100, 101, 102, 103, 104, 105, 106, 107, 108, 109, 110, 111, 112, 113, 114, 115, 116, 117, 118, 119, 120, 121, 122, 123, 124, 125] (by decide +kernel) (by decide +kernel)
set_option maxRecDepth 20000 in
theorem gX4_insert_X4_allSeen : GoodIn wsX4_insert (wsV RX4 139 RX4 yX4_allSeen wsX4_allSeen) := goodIn_app (goodIn_of _ (by decide +kernel)) ggX4_insert_X4_allSeen
set_option maxRecDepth 20000 in
theorem ggX4_insert_X4_seen : GoodIn wsX4_insert wsX4_seen := goodIn_r _ [28, 3, 24, 9, 97, 98, 99, 100, 101, 102, 103, 104, 105, 106, 107, 108, 109, 110, 111, 112, 113, 114, 115, 116, 117, 118, 119, 120, 121, 122, 123, 124, 125] (by decide +kernel) (by decide +kernel)
set_option maxRecDepth 20000 in
theorem gX4_insert_X4_seen : GoodIn wsX4_insert (wsV RX4 143 RX4 yX4_seen wsX4_seen) := goodIn_app (goodIn_of _ (by decide +kernel)) ggX4_insert_X4_seen
set_option maxRecDepth 20000 in
theorem ggX4_insert_X4_message : GoodIn wsX4_insert wsX4_message := goodIn_r _ [32, 33, 34, 35, 36, 97, 98, 99, 100, 101, 102, 103, 104, 105, 106, 107, 108, 109, 110, 111, 112, 113, 114, 115, 116, 117, 118, 119, 120, 121, 122, 123, 124, 125] (by decide +kernel) (by decide +kernel)
set_option maxRecDepth 20000 in
theorem gX4_insert_X4_message : GoodIn wsX4_insert (wsV RX4 146 RX4 yX4_message wsX4_message) := goodIn_app (goodIn_of _ (by decide +kernel)) ggX4_insert_X4_message
set_option maxRecDepth 20000 in
theorem ggX4_insert_X4_begins : GoodIn wsX4_insert wsX4_begins := goodIn_r _ [40, 41, 42, 97, 98, 99, 100, 101, 102, 103, 104, 105, 106, 107, 108, 109, 110, 111, 112, 113, 114, 115, 116, 117, 118, 119, 120, 121, 122, 123, 124, 125] (by decide +kernel) (by decide +kernel)
set_option maxRecDepth 20000 in
theorem gX4_insert_X4_begins : GoodIn wsX4_insert (wsV RX4 150 RX4 yX4_begins wsX4_begins) := goodIn_app (goodIn_of _ (by decide +kernel)) ggX4_insert_X4_begins
set_option maxRecDepth 20000 in
theorem ggX4_insert_X4_hears : GoodIn wsX4_insert wsX4_hears := goodIn_r _ [46, 47, 33, 48, 49, 50, 14, 51, 35, 34, 8, 10, 52, 53, 54, 55, 56, 57, 58, 59, 60, 24, 61, 62, 63, 64, 42, 65, 66, 67, 68, 69, 41, 9, 70, 71, 72, 73, 3, 74, 75, 76, 77, 4, 5, 78, 79, 80, 81, 82, 83, 84, 85, 86, 87, 88, 89, 90, 91, 97, 98, 99, 100, 101, 102, 103, 104, 105, 106, 107, 108, 109, 110, 111, 112, 113, 114, 115, 116, 117, 118, 119, 120, 121, 122, 123, 124, 125] (by decide +kernel) (by decide +kernel)
set_option maxRecDepth 20000 in
theorem gX4_insert_X4_hears : GoodIn wsX4_insert (wsV RX4 153 RX4 yX4_hears wsX4_hears) := goodIn_app (goodIn_of _ (by decide +kernel)) ggX4_insert_X4_hears
set_option maxRecDepth 20000 in
theorem ggX4_insert_X4_ends : GoodIn wsX4_insert wsX4_ends := goodIn_r _ [95, 42, 96, 41, 97, 98, 99, 100, 101, 102, 103, 104, 105, 106, 107, 108, 109, 110, 111, 112, 113, 114, 115, 116, 117, 118, 119, 120, 121, 122, 123, 124, 125] (by decide +kernel) (by decide +kernel)
set_option maxRecDepth 20000 in
theorem gX4_insert_X4_ends : GoodIn wsX4_insert (wsV RX4 157 RX4 yX4_ends wsX4_ends) := goodIn_app (goodIn_of _ (by decide +kernel)) ggX4_insert_X4_ends
theorem dX4_insert_0 : decode cX4_insert 0 = .ok (.aload_n 0, 1) := by decide +kernel
theorem dX4_insert_1 : decode cX4_insert 1 = .ok (.iconst 0, 1) := by decide +kernel
theorem dX4_insert_2 : decode cX4_insert 2 = .ok (.putfield 87, 3) := by decide +kernel
theorem dX4_insert_5 : decode cX4_insert 5 = .ok (.aload_n 0, 1) := by decide +kernel
theorem dX4_insert_6 : decode cX4_insert 6 = .ok (.iload_n 1, 1) := by decide +kernel
theorem dX4_insert_7 : decode cX4_insert 7 = .ok (.invokevirtual 132, 3) := by decide +kernel
theorem dX4_insert_10 : decode cX4_insert 10 = .ok (.ifCond .eq 25, 3) := by decide +kernel
theorem dX4_insert_13 : decode cX4_insert 13 = .ok (.aload_n 0, 1) := by decide +kernel
theorem dX4_insert_14 : decode cX4_insert 14 = .ok (.iload_n 2, 1) := by decide +kernel
theorem dX4_insert_15 : decode cX4_insert 15 = .ok (.invokevirtual 136, 3) := by decide +kernel
theorem dX4_insert_18 : decode cX4_insert 18 = .ok (.ifCond .eq 17, 3) := by decide +kernel
theorem dX4_insert_21 : decode cX4_insert 21 = .ok (.iload 4, 2) := by decide +kernel
theorem dX4_insert_23 : decode cX4_insert 23 = .ok (.bipush 32, 2) := by decide +kernel
theorem dX4_insert_25 : decode cX4_insert 25 = .ok (.if_icmp .lt 10, 3) := by decide +kernel
theorem dX4_insert_28 : decode cX4_insert 28 = .ok (.iload 4, 2) := by decide +kernel
theorem dX4_insert_30 : decode cX4_insert 30 = .ok (.bipush 126, 2) := by decide +kernel
theorem dX4_insert_32 : decode cX4_insert 32 = .ok (.if_icmp .le 5, 3) := by decide +kernel
theorem dX4_insert_35 : decode cX4_insert 35 = .ok (.iconst (-1), 1) := by decide +kernel
theorem dX4_insert_36 : decode cX4_insert 36 = .ok (.ireturn, 1) := by decide +kernel
theorem dX4_insert_37 : decode cX4_insert 37 = .ok (.iconst 5, 1) := by decide +kernel
theorem dX4_insert_38 : decode cX4_insert 38 = .ok (.iload_n 1, 1) := by decide +kernel
theorem dX4_insert_39 : decode cX4_insert 39 = .ok (.imul, 1) := by decide +kernel
theorem dX4_insert_40 : decode cX4_insert 40 = .ok (.iload_n 2, 1) := by decide +kernel
theorem dX4_insert_41 : decode cX4_insert 41 = .ok (.iadd, 1) := by decide +kernel
theorem dX4_insert_42 : decode cX4_insert 42 = .ok (.istore 5, 2) := by decide +kernel
theorem dX4_insert_44 : decode cX4_insert 44 = .ok (.iload_n 3, 1) := by decide +kernel
theorem dX4_insert_45 : decode cX4_insert 45 = .ok (.ifCond .lt 24, 3) := by decide +kernel
theorem dX4_insert_48 : decode cX4_insert 48 = .ok (.iload_n 3, 1) := by decide +kernel
theorem dX4_insert_49 : decode cX4_insert 49 = .ok (.aload_n 0, 1) := by decide +kernel
theorem dX4_insert_50 : decode cX4_insert 50 = .ok (.iload 5, 2) := by decide +kernel
theorem dX4_insert_52 : decode cX4_insert 52 = .ok (.invokevirtual 139, 3) := by decide +kernel
theorem dX4_insert_55 : decode cX4_insert 55 = .ok (.if_icmp .gt 14, 3) := by decide +kernel
theorem dX4_insert_58 : decode cX4_insert 58 = .ok (.aload_n 0, 1) := by decide +kernel
theorem dX4_insert_59 : decode cX4_insert 59 = .ok (.getfield 7, 3) := by decide +kernel
theorem dX4_insert_62 : decode cX4_insert 62 = .ok (.iload_n 1, 1) := by decide +kernel
theorem dX4_insert_63 : decode cX4_insert 63 = .ok (.iaload, 1) := by decide +kernel
theorem dX4_insert_64 : decode cX4_insert 64 = .ok (.bipush 60, 2) := by decide +kernel
theorem dX4_insert_66 : decode cX4_insert 66 = .ok (.if_icmp .ne 5, 3) := by decide +kernel
theorem dX4_insert_69 : decode cX4_insert 69 = .ok (.iconst (-1), 1) := by decide +kernel
theorem dX4_insert_70 : decode cX4_insert 70 = .ok (.ireturn, 1) := by decide +kernel
theorem dX4_insert_71 : decode cX4_insert 71 = .ok (.iload_n 3, 1) := by decide +kernel
theorem dX4_insert_72 : decode cX4_insert 72 = .ok (.ifCond .ne 7, 3) := by decide +kernel
theorem dX4_insert_75 : decode cX4_insert 75 = .ok (.iconst (-1), 1) := by decide +kernel
theorem dX4_insert_76 : decode cX4_insert 76 = .ok (.goto 12, 3) := by decide +kernel
theorem dX4_insert_79 : decode cX4_insert 79 = .ok (.aload_n 0, 1) := by decide +kernel
theorem dX4_insert_80 : decode cX4_insert 80 = .ok (.iload 5, 2) := by decide +kernel
theorem dX4_insert_82 : decode cX4_insert 82 = .ok (.iload_n 3, 1) := by decide +kernel
theorem dX4_insert_83 : decode cX4_insert 83 = .ok (.iconst 1, 1) := by decide +kernel
theorem dX4_insert_84 : decode cX4_insert 84 = .ok (.isub, 1) := by decide +kernel
theorem dX4_insert_85 : decode cX4_insert 85 = .ok (.invokevirtual 143, 3) := by decide +kernel
theorem dX4_insert_88 : decode cX4_insert 88 = .ok (.istore 6, 2) := by decide +kernel
theorem dX4_insert_90 : decode cX4_insert 90 = .ok (.iload_n 1, 1) := by decide +kernel
theorem dX4_insert_91 : decode cX4_insert 91 = .ok (.ifCond .ne 13, 3) := by decide +kernel
theorem dX4_insert_94 : decode cX4_insert 94 = .ok (.aload_n 0, 1) := by decide +kernel
theorem dX4_insert_95 : decode cX4_insert 95 = .ok (.iload 5, 2) := by decide +kernel
theorem dX4_insert_97 : decode cX4_insert 97 = .ok (.iload_n 3, 1) := by decide +kernel
theorem dX4_insert_98 : decode cX4_insert 98 = .ok (.invokevirtual 143, 3) := by decide +kernel
theorem dX4_insert_101 : decode cX4_insert 101 = .ok (.goto 25, 3) := by decide +kernel
theorem dX4_insert_104 : decode cX4_insert 104 = .ok (.iload 6, 2) := by decide +kernel
theorem dX4_insert_106 : decode cX4_insert 106 = .ok (.iconst 1, 1) := by decide +kernel
theorem dX4_insert_107 : decode cX4_insert 107 = .ok (.iadd, 1) := by decide +kernel
theorem dX4_insert_108 : decode cX4_insert 108 = .ok (.aload_n 0, 1) := by decide +kernel
theorem dX4_insert_109 : decode cX4_insert 109 = .ok (.getfield 50, 3) := by decide +kernel
theorem dX4_insert_112 : decode cX4_insert 112 = .ok (.iload 5, 2) := by decide +kernel
theorem dX4_insert_114 : decode cX4_insert 114 = .ok (.iaload, 1) := by decide +kernel
theorem dX4_insert_115 : decode cX4_insert 115 = .ok (.if_icmp .ge 10, 3) := by decide +kernel
theorem dX4_insert_118 : decode cX4_insert 118 = .ok (.iload 6, 2) := by decide +kernel
theorem dX4_insert_120 : decode cX4_insert 120 = .ok (.iconst 1, 1) := by decide +kernel
theorem dX4_insert_121 : decode cX4_insert 121 = .ok (.iadd, 1) := by decide +kernel
theorem dX4_insert_122 : decode cX4_insert 122 = .ok (.goto 4, 3) := by decide +kernel
theorem dX4_insert_125 : decode cX4_insert 125 = .ok (.iconst (-1), 1) := by decide +kernel
theorem dX4_insert_126 : decode cX4_insert 126 = .ok (.istore 7, 2) := by decide +kernel
theorem dX4_insert_128 : decode cX4_insert 128 = .ok (.aload_n 0, 1) := by decide +kernel
theorem dX4_insert_129 : decode cX4_insert 129 = .ok (.getfield 7, 3) := by decide +kernel
theorem dX4_insert_132 : decode cX4_insert 132 = .ok (.iload_n 1, 1) := by decide +kernel
theorem dX4_insert_133 : decode cX4_insert 133 = .ok (.iaload, 1) := by decide +kernel
theorem dX4_insert_134 : decode cX4_insert 134 = .ok (.istore 8, 2) := by decide +kernel
theorem dX4_insert_136 : decode cX4_insert 136 = .ok (.aload_n 0, 1) := by decide +kernel
theorem dX4_insert_137 : decode cX4_insert 137 = .ok (.getfield 7, 3) := by decide +kernel
theorem dX4_insert_140 : decode cX4_insert 140 = .ok (.iload_n 1, 1) := by decide +kernel
theorem dX4_insert_141 : decode cX4_insert 141 = .ok (.iload 8, 2) := by decide +kernel
theorem dX4_insert_143 : decode cX4_insert 143 = .ok (.iconst 1, 1) := by decide +kernel
theorem dX4_insert_144 : decode cX4_insert 144 = .ok (.iadd, 1) := by decide +kernel
theorem dX4_insert_145 : decode cX4_insert 145 = .ok (.iastore, 1) := by decide +kernel
theorem dX4_insert_146 : decode cX4_insert 146 = .ok (.aload_n 0, 1) := by decide +kernel
theorem dX4_insert_147 : decode cX4_insert 147 = .ok (.getfield 13, 3) := by decide +kernel
theorem dX4_insert_150 : decode cX4_insert 150 = .ok (.bipush 60, 2) := by decide +kernel
theorem dX4_insert_152 : decode cX4_insert 152 = .ok (.iload_n 1, 1) := by decide +kernel
theorem dX4_insert_153 : decode cX4_insert 153 = .ok (.imul, 1) := by decide +kernel
theorem dX4_insert_154 : decode cX4_insert 154 = .ok (.iload 8, 2) := by decide +kernel
theorem dX4_insert_156 : decode cX4_insert 156 = .ok (.iadd, 1) := by decide +kernel
theorem dX4_insert_157 : decode cX4_insert 157 = .ok (.iload_n 2, 1) := by decide +kernel
theorem dX4_insert_158 : decode cX4_insert 158 = .ok (.iastore, 1) := by decide +kernel
theorem dX4_insert_159 : decode cX4_insert 159 = .ok (.aload_n 0, 1) := by decide +kernel
theorem dX4_insert_160 : decode cX4_insert 160 = .ok (.getfield 16, 3) := by decide +kernel
theorem dX4_insert_163 : decode cX4_insert 163 = .ok (.bipush 60, 2) := by decide +kernel
theorem dX4_insert_165 : decode cX4_insert 165 = .ok (.iload_n 1, 1) := by decide +kernel
theorem dX4_insert_166 : decode cX4_insert 166 = .ok (.imul, 1) := by decide +kernel
theorem dX4_insert_167 : decode cX4_insert 167 = .ok (.iload 8, 2) := by decide +kernel
theorem dX4_insert_169 : decode cX4_insert 169 = .ok (.iadd, 1) := by decide +kernel
theorem dX4_insert_170 : decode cX4_insert 170 = .ok (.aload_n 0, 1) := by decide +kernel
theorem dX4_insert_171 : decode cX4_insert 171 = .ok (.getfield 28, 3) := by decide +kernel
theorem dX4_insert_174 : decode cX4_insert 174 = .ok (.iload 5, 2) := by decide +kernel
theorem dX4_insert_176 : decode cX4_insert 176 = .ok (.iaload, 1) := by decide +kernel
theorem dX4_insert_177 : decode cX4_insert 177 = .ok (.iastore, 1) := by decide +kernel
theorem dX4_insert_178 : decode cX4_insert 178 = .ok (.aload_n 0, 1) := by decide +kernel
theorem dX4_insert_179 : decode cX4_insert 179 = .ok (.getfield 28, 3) := by decide +kernel
theorem dX4_insert_182 : decode cX4_insert 182 = .ok (.iload 5, 2) := by decide +kernel
theorem dX4_insert_184 : decode cX4_insert 184 = .ok (.aload_n 0, 1) := by decide +kernel
theorem dX4_insert_185 : decode cX4_insert 185 = .ok (.getfield 28, 3) := by decide +kernel
theorem dX4_insert_188 : decode cX4_insert 188 = .ok (.iload 5, 2) := by decide +kernel
theorem dX4_insert_190 : decode cX4_insert 190 = .ok (.iaload, 1) := by decide +kernel
theorem dX4_insert_191 : decode cX4_insert 191 = .ok (.iconst 1, 1) := by decide +kernel
theorem dX4_insert_192 : decode cX4_insert 192 = .ok (.iadd, 1) := by decide +kernel
theorem dX4_insert_193 : decode cX4_insert 193 = .ok (.iastore, 1) := by decide +kernel
theorem dX4_insert_194 : decode cX4_insert 194 = .ok (.aload_n 0, 1) := by decide +kernel
theorem dX4_insert_195 : decode cX4_insert 195 = .ok (.getfield 19, 3) := by decide +kernel
theorem dX4_insert_198 : decode cX4_insert 198 = .ok (.bipush 60, 2) := by decide +kernel
theorem dX4_insert_200 : decode cX4_insert 200 = .ok (.iload_n 1, 1) := by decide +kernel
theorem dX4_insert_201 : decode cX4_insert 201 = .ok (.imul, 1) := by decide +kernel
theorem dX4_insert_202 : decode cX4_insert 202 = .ok (.iload 8, 2) := by decide +kernel
theorem dX4_insert_204 : decode cX4_insert 204 = .ok (.iadd, 1) := by decide +kernel
theorem dX4_insert_205 : decode cX4_insert 205 = .ok (.iload 4, 2) := by decide +kernel
end
section
theorem dX4_insert_207 : decode cX4_insert 207 = .ok (.iastore, 1) := by decide +kernel
theorem dX4_insert_208 : decode cX4_insert 208 = .ok (.aload_n 0, 1) := by decide +kernel
theorem dX4_insert_209 : decode cX4_insert 209 = .ok (.getfield 22, 3) := by decide +kernel
theorem dX4_insert_212 : decode cX4_insert 212 = .ok (.bipush 60, 2) := by decide +kernel
theorem dX4_insert_214 : decode cX4_insert 214 = .ok (.iload_n 1, 1) := by decide +kernel
theorem dX4_insert_215 : decode cX4_insert 215 = .ok (.imul, 1) := by decide +kernel
theorem dX4_insert_216 : decode cX4_insert 216 = .ok (.iload 8, 2) := by decide +kernel
theorem dX4_insert_218 : decode cX4_insert 218 = .ok (.iadd, 1) := by decide +kernel
theorem dX4_insert_219 : decode cX4_insert 219 = .ok (.iload 6, 2) := by decide +kernel
theorem dX4_insert_221 : decode cX4_insert 221 = .ok (.ifCond .ge 7, 3) := by decide +kernel
theorem dX4_insert_224 : decode cX4_insert 224 = .ok (.iconst (-1), 1) := by decide +kernel
theorem dX4_insert_225 : decode cX4_insert 225 = .ok (.goto 16, 3) := by decide +kernel
theorem dX4_insert_228 : decode cX4_insert 228 = .ok (.aload_n 0, 1) := by decide +kernel
theorem dX4_insert_229 : decode cX4_insert 229 = .ok (.getfield 47, 3) := by decide +kernel
theorem dX4_insert_232 : decode cX4_insert 232 = .ok (.bipush 60, 2) := by decide +kernel
theorem dX4_insert_234 : decode cX4_insert 234 = .ok (.iload 5, 2) := by decide +kernel
theorem dX4_insert_236 : decode cX4_insert 236 = .ok (.imul, 1) := by decide +kernel
theorem dX4_insert_237 : decode cX4_insert 237 = .ok (.iload 6, 2) := by decide +kernel
theorem dX4_insert_239 : decode cX4_insert 239 = .ok (.iadd, 1) := by decide +kernel
theorem dX4_insert_240 : decode cX4_insert 240 = .ok (.iaload, 1) := by decide +kernel
theorem dX4_insert_241 : decode cX4_insert 241 = .ok (.iastore, 1) := by decide +kernel
theorem dX4_insert_242 : decode cX4_insert 242 = .ok (.aload_n 0, 1) := by decide +kernel
theorem dX4_insert_243 : decode cX4_insert 243 = .ok (.getfield 25, 3) := by decide +kernel
theorem dX4_insert_246 : decode cX4_insert 246 = .ok (.bipush 60, 2) := by decide +kernel
theorem dX4_insert_248 : decode cX4_insert 248 = .ok (.iload_n 1, 1) := by decide +kernel
theorem dX4_insert_249 : decode cX4_insert 249 = .ok (.imul, 1) := by decide +kernel
theorem dX4_insert_250 : decode cX4_insert 250 = .ok (.iload 8, 2) := by decide +kernel
theorem dX4_insert_252 : decode cX4_insert 252 = .ok (.iadd, 1) := by decide +kernel
theorem dX4_insert_253 : decode cX4_insert 253 = .ok (.iload 7, 2) := by decide +kernel
theorem dX4_insert_255 : decode cX4_insert 255 = .ok (.iconst (-1), 1) := by decide +kernel
theorem dX4_insert_256 : decode cX4_insert 256 = .ok (.if_icmp .ne 8, 3) := by decide +kernel
theorem dX4_insert_259 : decode cX4_insert 259 = .ok (.bipush 60, 2) := by decide +kernel
theorem dX4_insert_261 : decode cX4_insert 261 = .ok (.goto 16, 3) := by decide +kernel
theorem dX4_insert_264 : decode cX4_insert 264 = .ok (.aload_n 0, 1) := by decide +kernel
theorem dX4_insert_265 : decode cX4_insert 265 = .ok (.getfield 47, 3) := by decide +kernel
theorem dX4_insert_268 : decode cX4_insert 268 = .ok (.bipush 60, 2) := by decide +kernel
theorem dX4_insert_270 : decode cX4_insert 270 = .ok (.iload 5, 2) := by decide +kernel
theorem dX4_insert_272 : decode cX4_insert 272 = .ok (.imul, 1) := by decide +kernel
theorem dX4_insert_273 : decode cX4_insert 273 = .ok (.iload 7, 2) := by decide +kernel
theorem dX4_insert_275 : decode cX4_insert 275 = .ok (.iadd, 1) := by decide +kernel
theorem dX4_insert_276 : decode cX4_insert 276 = .ok (.iaload, 1) := by decide +kernel
theorem dX4_insert_277 : decode cX4_insert 277 = .ok (.iastore, 1) := by decide +kernel
theorem dX4_insert_278 : decode cX4_insert 278 = .ok (.aload_n 0, 1) := by decide +kernel
theorem dX4_insert_279 : decode cX4_insert 279 = .ok (.iload_n 1, 1) := by decide +kernel
theorem dX4_insert_280 : decode cX4_insert 280 = .ok (.iload_n 2, 1) := by decide +kernel
theorem dX4_insert_281 : decode cX4_insert 281 = .ok (.iload 8, 2) := by decide +kernel
theorem dX4_insert_283 : decode cX4_insert 283 = .ok (.iconst 0, 1) := by decide +kernel
theorem dX4_insert_284 : decode cX4_insert 284 = .ok (.invokevirtual 146, 3) := by decide +kernel
theorem dX4_insert_287 : decode cX4_insert 287 = .ok (.istore 9, 2) := by decide +kernel
theorem dX4_insert_289 : decode cX4_insert 289 = .ok (.aload_n 0, 1) := by decide +kernel
theorem dX4_insert_290 : decode cX4_insert 290 = .ok (.invokevirtual 150, 3) := by decide +kernel
theorem dX4_insert_293 : decode cX4_insert 293 = .ok (.aload_n 0, 1) := by decide +kernel
theorem dX4_insert_294 : decode cX4_insert 294 = .ok (.iload 5, 2) := by decide +kernel
theorem dX4_insert_296 : decode cX4_insert 296 = .ok (.iload_n 1, 1) := by decide +kernel
theorem dX4_insert_297 : decode cX4_insert 297 = .ok (.iload 9, 2) := by decide +kernel
theorem dX4_insert_299 : decode cX4_insert 299 = .ok (.invokevirtual 153, 3) := by decide +kernel
theorem dX4_insert_302 : decode cX4_insert 302 = .ok (.pop, 1) := by decide +kernel
theorem dX4_insert_303 : decode cX4_insert 303 = .ok (.aload_n 0, 1) := by decide +kernel
theorem dX4_insert_304 : decode cX4_insert 304 = .ok (.iload 5, 2) := by decide +kernel
theorem dX4_insert_306 : decode cX4_insert 306 = .ok (.invokevirtual 157, 3) := by decide +kernel
theorem dX4_insert_309 : decode cX4_insert 309 = .ok (.iload 9, 2) := by decide +kernel
theorem dX4_insert_311 : decode cX4_insert 311 = .ok (.ireturn, 1) := by decide +kernel
set_option maxRecDepth 20000 in
theorem ggX4_erase_X4_isText : GoodIn wsX4_erase wsX4_isText := goodIn_r _ [8] (by decide +kernel) (by decide +kernel)
set_option maxRecDepth 20000 in
theorem gX4_erase_X4_isText : GoodIn wsX4_erase (wsV RX4 132 RX4 yX4_isText wsX4_isText) := goodIn_app (goodIn_of _ (by decide +kernel)) ggX4_erase_X4_isText
set_option maxRecDepth 20000 in
theorem ggX4_erase_X4_isSite : GoodIn wsX4_erase wsX4_isSite := goodIn_r _ [12] (by decide +kernel) (by decide +kernel)
set_option maxRecDepth 20000 in
theorem gX4_erase_X4_isSite : GoodIn wsX4_erase (wsV RX4 136 RX4 yX4_isSite wsX4_isSite) := goodIn_app (goodIn_of _ (by decide +kernel)) ggX4_erase_X4_isSite
set_option maxRecDepth 20000 in
theorem ggX4_erase_X4_allSeen : GoodIn wsX4_erase wsX4_allSeen := goodIn_r _ [16, 17, 18, 3, 90, 91, 92, 93, 94, 95, 96, 97, 98, 99, 100, 101, 102, 103, 104, 105, 106, 107, 108, 109, 110, 111, 112, 113, 114, 115, 116, 117, 118] (by decide +kernel) (by decide +kernel)
set_option maxRecDepth 20000 in
theorem gX4_erase_X4_allSeen : GoodIn wsX4_erase (wsV RX4 139 RX4 yX4_allSeen wsX4_allSeen) := goodIn_app (goodIn_of _ (by decide +kernel)) ggX4_erase_X4_allSeen
set_option maxRecDepth 20000 in
theorem ggX4_erase_X4_seen : GoodIn wsX4_erase wsX4_seen := goodIn_r _ [22, 17, 18, 3, 90, 91, 92, 93, 94, 95, 96, 97, 98, 99, 100, 101, 102, 103, 104, 105, 106, 107, 108, 109, 110, 111, 112, 113, 114, 115, 116, 117, 118] (by decide +kernel) (by decide +kernel)
set_option maxRecDepth 20000 in
theorem gX4_erase_X4_seen : GoodIn wsX4_erase (wsV RX4 143 RX4 yX4_seen wsX4_seen) := goodIn_app (goodIn_of _ (by decide +kernel)) ggX4_erase_X4_seen
set_option maxRecDepth 20000 in
theorem ggX4_erase_X4_message : GoodIn wsX4_erase wsX4_message := goodIn_r _ [26, 27, 28, 29, 30, 90, 91, 92, 93, 94, 95, 96, 97, 98, 99, 100, 101, 102, 103, 104, 105, 106, 107, 108, 109, 110, 111, 112, 113, 114, 115, 116, 117, 118] (by decide +kernel) (by decide +kernel)
set_option maxRecDepth 20000 in
theorem gX4_erase_X4_message : GoodIn wsX4_erase (wsV RX4 146 RX4 yX4_message wsX4_message) := goodIn_app (goodIn_of _ (by decide +kernel)) ggX4_erase_X4_message
set_option maxRecDepth 20000 in
theorem ggX4_erase_X4_begins : GoodIn wsX4_erase wsX4_begins := goodIn_r _ [34, 35, 36, 90, 91, 92, 93, 94, 95, 96, 97, 98, 99, 100, 101, 102, 103, 104, 105, 106, 107, 108, 109, 110, 111, 112, 113, 114, 115, 116, 117, 118] (by decide +kernel) (by decide +kernel)
set_option maxRecDepth 20000 in
theorem gX4_erase_X4_begins : GoodIn wsX4_erase (wsV RX4 150 RX4 yX4_begins wsX4_begins) := goodIn_app (goodIn_of _ (by decide +kernel)) ggX4_erase_X4_begins
set_option maxRecDepth 20000 in
theorem ggX4_erase_X4_hears : GoodIn wsX4_erase wsX4_hears := goodIn_r _ [40, 41, 27, 42, 43, 44, 7, 45, 29, 28, 46, 47, 48, 49, 50, 51, 52, 53, 54, 55, 56, 18, 57, 58, 59, 60, 36, 61, 62, 63, 64, 65, 35, 3, 66, 67, 68, 69, 17, 70, 71, 72, 73, 74, 75, 76, 77, 78, 79, 80, 81, 82, 83, 84, 85, 86, 87, 88, 89, 90, 91, 92, 93, 94, 95, 96, 97, 98, 99, 100, 101, 102, 103, 104, 105, 106, 107, 108, 109, 110, 111, 112, 113, 114, 115, 116, 117, 118] (by decide +kernel) (by decide +kernel)
set_option maxRecDepth 20000 in
theorem gX4_erase_X4_hears : GoodIn wsX4_erase (wsV RX4 153 RX4 yX4_hears wsX4_hears) := goodIn_app (goodIn_of _ (by decide +kernel)) ggX4_erase_X4_hears
theorem dX4_erase_0 : decode cX4_erase 0 = .ok (.aload_n 0, 1) := by decide +kernel
theorem dX4_erase_1 : decode cX4_erase 1 = .ok (.iconst 0, 1) := by decide +kernel
theorem dX4_erase_2 : decode cX4_erase 2 = .ok (.putfield 87, 3) := by decide +kernel
theorem dX4_erase_5 : decode cX4_erase 5 = .ok (.aload_n 0, 1) := by decide +kernel
theorem dX4_erase_6 : decode cX4_erase 6 = .ok (.iload_n 1, 1) := by decide +kernel
theorem dX4_erase_7 : decode cX4_erase 7 = .ok (.invokevirtual 132, 3) := by decide +kernel
theorem dX4_erase_10 : decode cX4_erase 10 = .ok (.ifCond .eq 11, 3) := by decide +kernel
theorem dX4_erase_13 : decode cX4_erase 13 = .ok (.aload_n 0, 1) := by decide +kernel
theorem dX4_erase_14 : decode cX4_erase 14 = .ok (.iload_n 2, 1) := by decide +kernel
theorem dX4_erase_15 : decode cX4_erase 15 = .ok (.invokevirtual 136, 3) := by decide +kernel
theorem dX4_erase_18 : decode cX4_erase 18 = .ok (.ifCond .ne 5, 3) := by decide +kernel
theorem dX4_erase_21 : decode cX4_erase 21 = .ok (.iconst (-1), 1) := by decide +kernel
theorem dX4_erase_22 : decode cX4_erase 22 = .ok (.ireturn, 1) := by decide +kernel
theorem dX4_erase_23 : decode cX4_erase 23 = .ok (.iconst 5, 1) := by decide +kernel
theorem dX4_erase_24 : decode cX4_erase 24 = .ok (.iload_n 1, 1) := by decide +kernel
theorem dX4_erase_25 : decode cX4_erase 25 = .ok (.imul, 1) := by decide +kernel
theorem dX4_erase_26 : decode cX4_erase 26 = .ok (.iload_n 2, 1) := by decide +kernel
theorem dX4_erase_27 : decode cX4_erase 27 = .ok (.iadd, 1) := by decide +kernel
theorem dX4_erase_28 : decode cX4_erase 28 = .ok (.istore 4, 2) := by decide +kernel
theorem dX4_erase_30 : decode cX4_erase 30 = .ok (.iload_n 3, 1) := by decide +kernel
theorem dX4_erase_31 : decode cX4_erase 31 = .ok (.ifCond .lt 24, 3) := by decide +kernel
theorem dX4_erase_34 : decode cX4_erase 34 = .ok (.iload_n 3, 1) := by decide +kernel
theorem dX4_erase_35 : decode cX4_erase 35 = .ok (.aload_n 0, 1) := by decide +kernel
theorem dX4_erase_36 : decode cX4_erase 36 = .ok (.iload 4, 2) := by decide +kernel
theorem dX4_erase_38 : decode cX4_erase 38 = .ok (.invokevirtual 139, 3) := by decide +kernel
theorem dX4_erase_41 : decode cX4_erase 41 = .ok (.if_icmp .ge 14, 3) := by decide +kernel
theorem dX4_erase_44 : decode cX4_erase 44 = .ok (.aload_n 0, 1) := by decide +kernel
theorem dX4_erase_45 : decode cX4_erase 45 = .ok (.getfield 34, 3) := by decide +kernel
theorem dX4_erase_48 : decode cX4_erase 48 = .ok (.iload_n 1, 1) := by decide +kernel
theorem dX4_erase_49 : decode cX4_erase 49 = .ok (.iaload, 1) := by decide +kernel
theorem dX4_erase_50 : decode cX4_erase 50 = .ok (.bipush 100, 2) := by decide +kernel
theorem dX4_erase_52 : decode cX4_erase 52 = .ok (.if_icmp .ne 5, 3) := by decide +kernel
theorem dX4_erase_55 : decode cX4_erase 55 = .ok (.iconst (-1), 1) := by decide +kernel
theorem dX4_erase_56 : decode cX4_erase 56 = .ok (.ireturn, 1) := by decide +kernel
theorem dX4_erase_57 : decode cX4_erase 57 = .ok (.aload_n 0, 1) := by decide +kernel
theorem dX4_erase_58 : decode cX4_erase 58 = .ok (.getfield 34, 3) := by decide +kernel
theorem dX4_erase_61 : decode cX4_erase 61 = .ok (.iload_n 1, 1) := by decide +kernel
theorem dX4_erase_62 : decode cX4_erase 62 = .ok (.aload_n 0, 1) := by decide +kernel
theorem dX4_erase_63 : decode cX4_erase 63 = .ok (.getfield 34, 3) := by decide +kernel
theorem dX4_erase_66 : decode cX4_erase 66 = .ok (.iload_n 1, 1) := by decide +kernel
theorem dX4_erase_67 : decode cX4_erase 67 = .ok (.iaload, 1) := by decide +kernel
theorem dX4_erase_68 : decode cX4_erase 68 = .ok (.iconst 1, 1) := by decide +kernel
theorem dX4_erase_69 : decode cX4_erase 69 = .ok (.iadd, 1) := by decide +kernel
theorem dX4_erase_70 : decode cX4_erase 70 = .ok (.iastore, 1) := by decide +kernel
theorem dX4_erase_71 : decode cX4_erase 71 = .ok (.aload_n 0, 1) := by decide +kernel
theorem dX4_erase_72 : decode cX4_erase 72 = .ok (.iload_n 1, 1) := by decide +kernel
theorem dX4_erase_73 : decode cX4_erase 73 = .ok (.iload_n 2, 1) := by decide +kernel
theorem dX4_erase_74 : decode cX4_erase 74 = .ok (.aload_n 0, 1) := by decide +kernel
theorem dX4_erase_75 : decode cX4_erase 75 = .ok (.getfield 47, 3) := by decide +kernel
theorem dX4_erase_78 : decode cX4_erase 78 = .ok (.bipush 60, 2) := by decide +kernel
theorem dX4_erase_80 : decode cX4_erase 80 = .ok (.iload 4, 2) := by decide +kernel
theorem dX4_erase_82 : decode cX4_erase 82 = .ok (.imul, 1) := by decide +kernel
theorem dX4_erase_83 : decode cX4_erase 83 = .ok (.aload_n 0, 1) := by decide +kernel
theorem dX4_erase_84 : decode cX4_erase 84 = .ok (.iload 4, 2) := by decide +kernel
theorem dX4_erase_86 : decode cX4_erase 86 = .ok (.iload_n 3, 1) := by decide +kernel
theorem dX4_erase_87 : decode cX4_erase 87 = .ok (.invokevirtual 143, 3) := by decide +kernel
theorem dX4_erase_90 : decode cX4_erase 90 = .ok (.iadd, 1) := by decide +kernel
theorem dX4_erase_91 : decode cX4_erase 91 = .ok (.iaload, 1) := by decide +kernel
theorem dX4_erase_92 : decode cX4_erase 92 = .ok (.iconst 1, 1) := by decide +kernel
theorem dX4_erase_93 : decode cX4_erase 93 = .ok (.invokevirtual 146, 3) := by decide +kernel
theorem dX4_erase_96 : decode cX4_erase 96 = .ok (.istore 5, 2) := by decide +kernel
theorem dX4_erase_98 : decode cX4_erase 98 = .ok (.aload_n 0, 1) := by decide +kernel
theorem dX4_erase_99 : decode cX4_erase 99 = .ok (.invokevirtual 150, 3) := by decide +kernel
theorem dX4_erase_102 : decode cX4_erase 102 = .ok (.aload_n 0, 1) := by decide +kernel
theorem dX4_erase_103 : decode cX4_erase 103 = .ok (.iload 4, 2) := by decide +kernel
theorem dX4_erase_105 : decode cX4_erase 105 = .ok (.iload_n 1, 1) := by decide +kernel
theorem dX4_erase_106 : decode cX4_erase 106 = .ok (.iload 5, 2) := by decide +kernel
theorem dX4_erase_108 : decode cX4_erase 108 = .ok (.invokevirtual 153, 3) := by decide +kernel
theorem dX4_erase_111 : decode cX4_erase 111 = .ok (.pop, 1) := by decide +kernel
theorem dX4_erase_112 : decode cX4_erase 112 = .ok (.iload 5, 2) := by decide +kernel
theorem dX4_erase_114 : decode cX4_erase 114 = .ok (.ireturn, 1) := by decide +kernel
theorem dX4_isMessage_0 : decode cX4_isMessage 0 = .ok (.iload_n 2, 1) := by decide +kernel
theorem dX4_isMessage_1 : decode cX4_isMessage 1 = .ok (.ifCond .lt 17, 3) := by decide +kernel
theorem dX4_isMessage_4 : decode cX4_isMessage 4 = .ok (.iload_n 2, 1) := by decide +kernel
theorem dX4_isMessage_5 : decode cX4_isMessage 5 = .ok (.aload_n 0, 1) := by decide +kernel
theorem dX4_isMessage_6 : decode cX4_isMessage 6 = .ok (.getfield 31, 3) := by decide +kernel
theorem dX4_isMessage_9 : decode cX4_isMessage 9 = .ok (.iload_n 1, 1) := by decide +kernel
theorem dX4_isMessage_10 : decode cX4_isMessage 10 = .ok (.iaload, 1) := by decide +kernel
theorem dX4_isMessage_11 : decode cX4_isMessage 11 = .ok (.if_icmp .ge 7, 3) := by decide +kernel
theorem dX4_isMessage_14 : decode cX4_isMessage 14 = .ok (.iconst 1, 1) := by decide +kernel
theorem dX4_isMessage_15 : decode cX4_isMessage 15 = .ok (.goto 4, 3) := by decide +kernel
theorem dX4_isMessage_18 : decode cX4_isMessage 18 = .ok (.iconst 0, 1) := by decide +kernel
theorem dX4_isMessage_19 : decode cX4_isMessage 19 = .ok (.ireturn, 1) := by decide +kernel
set_option maxRecDepth 20000 in
theorem ggX4_tell_X4_isText : GoodIn wsX4_tell wsX4_isText := goodIn_r _ [6] (by decide +kernel) (by decide +kernel)
set_option maxRecDepth 20000 in
theorem gX4_tell_X4_isText : GoodIn wsX4_tell (wsV RX4 132 RX4 yX4_isText wsX4_isText) := goodIn_app (goodIn_of _ (by decide +kernel)) ggX4_tell_X4_isText
set_option maxRecDepth 20000 in
theorem ggX4_tell_X4_isSite : GoodIn wsX4_tell wsX4_isSite := goodIn_r _ [10] (by decide +kernel) (by decide +kernel)
set_option maxRecDepth 20000 in
theorem gX4_tell_X4_isSite : GoodIn wsX4_tell (wsV RX4 136 RX4 yX4_isSite wsX4_isSite) := goodIn_app (goodIn_of _ (by decide +kernel)) ggX4_tell_X4_isSite
set_option maxRecDepth 20000 in
theorem ggX4_tell_X4_isMessage : GoodIn wsX4_tell wsX4_isMessage := goodIn_r _ [14, 15, 85, 86, 87, 88, 89, 90, 91, 92, 93, 94, 95, 96, 97, 98, 99, 100, 101, 102, 103, 104, 105, 106, 107, 108, 109, 110, 111, 112, 113] (by decide +kernel) (by decide +kernel)
set_option maxRecDepth 20000 in
theorem gX4_tell_X4_isMessage : GoodIn wsX4_tell (wsV RX4 161 RX4 yX4_isMessage wsX4_isMessage) := goodIn_app (goodIn_of _ (by decide +kernel)) ggX4_tell_X4_isMessage
set_option maxRecDepth 20000 in
theorem ggX4_tell_X4_begins : GoodIn wsX4_tell wsX4_begins := goodIn_r _ [19, 20, 21, 85, 86, 87, 88, 89, 90, 91, 92, 93, 94, 95, 96, 97, 98, 99, 100, 101, 102, 103, 104, 105, 106, 107, 108, 109, 110, 111, 112, 113] (by decide +kernel) (by decide +kernel)
set_option maxRecDepth 20000 in
theorem gX4_tell_X4_begins : GoodIn wsX4_tell (wsV RX4 150 RX4 yX4_begins wsX4_begins) := goodIn_app (goodIn_of _ (by decide +kernel)) ggX4_tell_X4_begins
set_option maxRecDepth 20000 in
theorem ggX4_tell_X4_hears : GoodIn wsX4_tell wsX4_hears := goodIn_r _ [25, 26, 15, 27, 28, 29, 5, 30, 31, 32, 33, 34, 35, 36, 37, 38, 39, 40, 41, 42, 43, 44, 45, 46, 47, 48, 21, 49, 50, 51, 52, 53, 20, 54, 55, 56, 57, 58, 59, 60, 61, 62, 63, 64, 65, 66, 67, 68, 69, 70, 71, 72, 73, 74, 75, 76, 77, 78, 79, 85, 86, 87, 88, 89, 90, 91, 92, 93, 94, 95, 96, 97, 98, 99, 100, 101, 102, 103, 104, 105, 106, 107, 108, 109, 110, 111, 112, 113] (by decide +kernel) (by decide +kernel)
set_option maxRecDepth 20000 in
theorem gX4_tell_X4_hears : GoodIn wsX4_tell (wsV RX4 153 RX4 yX4_hears wsX4_hears) := goodIn_app (goodIn_of _ (by decide +kernel)) ggX4_tell_X4_hears
set_option maxRecDepth 20000 in
theorem ggX4_tell_X4_ends : GoodIn wsX4_tell wsX4_ends := goodIn_r _ [83, 21, 84, 20, 85, 86, 87, 88, 89, 90, 91, 92, 93, 94, 95, 96, 97, 98, 99, 100, 101, 102, 103, 104, 105, 106, 107, 108, 109, 110, 111, 112, 113] (by decide +kernel) (by decide +kernel)
set_option maxRecDepth 20000 in
theorem gX4_tell_X4_ends : GoodIn wsX4_tell (wsV RX4 157 RX4 yX4_ends wsX4_ends) := goodIn_app (goodIn_of _ (by decide +kernel)) ggX4_tell_X4_ends
theorem dX4_tell_0 : decode cX4_tell 0 = .ok (.aload_n 0, 1) := by decide +kernel
theorem dX4_tell_1 : decode cX4_tell 1 = .ok (.iconst 0, 1) := by decide +kernel
theorem dX4_tell_2 : decode cX4_tell 2 = .ok (.putfield 87, 3) := by decide +kernel
theorem dX4_tell_5 : decode cX4_tell 5 = .ok (.aload_n 0, 1) := by decide +kernel
theorem dX4_tell_6 : decode cX4_tell 6 = .ok (.iload_n 1, 1) := by decide +kernel
theorem dX4_tell_7 : decode cX4_tell 7 = .ok (.invokevirtual 132, 3) := by decide +kernel
theorem dX4_tell_10 : decode cX4_tell 10 = .ok (.ifCond .eq 20, 3) := by decide +kernel
theorem dX4_tell_13 : decode cX4_tell 13 = .ok (.aload_n 0, 1) := by decide +kernel
theorem dX4_tell_14 : decode cX4_tell 14 = .ok (.iload_n 2, 1) := by decide +kernel
theorem dX4_tell_15 : decode cX4_tell 15 = .ok (.invokevirtual 136, 3) := by decide +kernel
theorem dX4_tell_18 : decode cX4_tell 18 = .ok (.ifCond .eq 12, 3) := by decide +kernel
theorem dX4_tell_21 : decode cX4_tell 21 = .ok (.aload_n 0, 1) := by decide +kernel
theorem dX4_tell_22 : decode cX4_tell 22 = .ok (.iload_n 1, 1) := by decide +kernel
theorem dX4_tell_23 : decode cX4_tell 23 = .ok (.iload_n 3, 1) := by decide +kernel
theorem dX4_tell_24 : decode cX4_tell 24 = .ok (.invokevirtual 161, 3) := by decide +kernel
theorem dX4_tell_27 : decode cX4_tell 27 = .ok (.ifCond .ne 5, 3) := by decide +kernel
theorem dX4_tell_30 : decode cX4_tell 30 = .ok (.iconst (-1), 1) := by decide +kernel
theorem dX4_tell_31 : decode cX4_tell 31 = .ok (.ireturn, 1) := by decide +kernel
theorem dX4_tell_32 : decode cX4_tell 32 = .ok (.aload_n 0, 1) := by decide +kernel
theorem dX4_tell_33 : decode cX4_tell 33 = .ok (.invokevirtual 150, 3) := by decide +kernel
theorem dX4_tell_36 : decode cX4_tell 36 = .ok (.aload_n 0, 1) := by decide +kernel
theorem dX4_tell_37 : decode cX4_tell 37 = .ok (.iconst 5, 1) := by decide +kernel
theorem dX4_tell_38 : decode cX4_tell 38 = .ok (.iload_n 1, 1) := by decide +kernel
theorem dX4_tell_39 : decode cX4_tell 39 = .ok (.imul, 1) := by decide +kernel
theorem dX4_tell_40 : decode cX4_tell 40 = .ok (.iload_n 2, 1) := by decide +kernel
theorem dX4_tell_41 : decode cX4_tell 41 = .ok (.iadd, 1) := by decide +kernel
theorem dX4_tell_42 : decode cX4_tell 42 = .ok (.iload_n 1, 1) := by decide +kernel
theorem dX4_tell_43 : decode cX4_tell 43 = .ok (.iload_n 3, 1) := by decide +kernel
theorem dX4_tell_44 : decode cX4_tell 44 = .ok (.invokevirtual 153, 3) := by decide +kernel
theorem dX4_tell_47 : decode cX4_tell 47 = .ok (.istore 4, 2) := by decide +kernel
theorem dX4_tell_49 : decode cX4_tell 49 = .ok (.aload_n 0, 1) := by decide +kernel
theorem dX4_tell_50 : decode cX4_tell 50 = .ok (.iconst 5, 1) := by decide +kernel
theorem dX4_tell_51 : decode cX4_tell 51 = .ok (.iload_n 1, 1) := by decide +kernel
theorem dX4_tell_52 : decode cX4_tell 52 = .ok (.imul, 1) := by decide +kernel
theorem dX4_tell_53 : decode cX4_tell 53 = .ok (.iload_n 2, 1) := by decide +kernel
theorem dX4_tell_54 : decode cX4_tell 54 = .ok (.iadd, 1) := by decide +kernel
theorem dX4_tell_55 : decode cX4_tell 55 = .ok (.invokevirtual 157, 3) := by decide +kernel
theorem dX4_tell_58 : decode cX4_tell 58 = .ok (.iload 4, 2) := by decide +kernel
theorem dX4_tell_60 : decode cX4_tell 60 = .ok (.ireturn, 1) := by decide +kernel
set_option maxRecDepth 20000 in
theorem ggX4_share_X4_isText : GoodIn wsX4_share wsX4_isText := goodIn_r _ [8] (by decide +kernel) (by decide +kernel)
set_option maxRecDepth 20000 in
theorem gX4_share_X4_isText : GoodIn wsX4_share (wsV RX4 132 RX4 yX4_isText wsX4_isText) := goodIn_app (goodIn_of _ (by decide +kernel)) ggX4_share_X4_isText
set_option maxRecDepth 20000 in
theorem ggX4_share_X4_isSite : GoodIn wsX4_share wsX4_isSite := goodIn_r _ [12] (by decide +kernel) (by decide +kernel)
set_option maxRecDepth 20000 in
theorem gX4_share_X4_isSite : GoodIn wsX4_share (wsV RX4 136 RX4 yX4_isSite wsX4_isSite) := goodIn_app (goodIn_of _ (by decide +kernel)) ggX4_share_X4_isSite
set_option maxRecDepth 20000 in
theorem ggX4_share_X4_begins : GoodIn wsX4_share wsX4_begins := goodIn_r _ [16, 17, 18, 81, 82, 83, 84, 85, 86, 87, 88, 89, 90, 91, 92, 93, 94, 95, 96, 97, 98, 99, 100, 101, 102, 103, 104, 105, 106, 107, 108, 109] (by decide +kernel) (by decide +kernel)
set_option maxRecDepth 20000 in
theorem gX4_share_X4_begins : GoodIn wsX4_share (wsV RX4 150 RX4 yX4_begins wsX4_begins) := goodIn_app (goodIn_of _ (by decide +kernel)) ggX4_share_X4_begins
set_option maxRecDepth 20000 in
theorem ggX4_share_X4_hears : GoodIn wsX4_share wsX4_hears := goodIn_r _ [22, 3, 2, 23, 24, 25, 7, 26, 27, 28, 29, 30, 31, 32, 33, 34, 35, 36, 37, 38, 39, 40, 41, 42, 43, 44, 18, 45, 46, 47, 48, 49, 17, 50, 51, 52, 53, 54, 55, 56, 57, 58, 59, 60, 61, 62, 63, 64, 65, 66, 67, 68, 69, 70, 71, 72, 73, 74, 75, 81, 82, 83, 84, 85, 86, 87, 88, 89, 90, 91, 92, 93, 94, 95, 96, 97, 98, 99, 100, 101, 102, 103, 104, 105, 106, 107, 108, 109] (by decide +kernel) (by decide +kernel)
set_option maxRecDepth 20000 in
theorem gX4_share_X4_hears : GoodIn wsX4_share (wsV RX4 153 RX4 yX4_hears wsX4_hears) := goodIn_app (goodIn_of _ (by decide +kernel)) ggX4_share_X4_hears
set_option maxRecDepth 20000 in
theorem ggX4_share_X4_ends : GoodIn wsX4_share wsX4_ends := goodIn_r _ [79, 18, 80, 17, 81, 82, 83, 84, 85, 86, 87, 88, 89, 90, 91, 92, 93, 94, 95, 96, 97, 98, 99, 100, 101, 102, 103, 104, 105, 106, 107, 108, 109] (by decide +kernel) (by decide +kernel)
set_option maxRecDepth 20000 in
theorem gX4_share_X4_ends : GoodIn wsX4_share (wsV RX4 157 RX4 yX4_ends wsX4_ends) := goodIn_app (goodIn_of _ (by decide +kernel)) ggX4_share_X4_ends
theorem dX4_share_0 : decode cX4_share 0 = .ok (.aload_n 0, 1) := by decide +kernel
theorem dX4_share_1 : decode cX4_share 1 = .ok (.iconst 0, 1) := by decide +kernel
theorem dX4_share_2 : decode cX4_share 2 = .ok (.putfield 87, 3) := by decide +kernel
theorem dX4_share_5 : decode cX4_share 5 = .ok (.aload_n 0, 1) := by decide +kernel
theorem dX4_share_6 : decode cX4_share 6 = .ok (.iload_n 1, 1) := by decide +kernel
theorem dX4_share_7 : decode cX4_share 7 = .ok (.invokevirtual 132, 3) := by decide +kernel
theorem dX4_share_10 : decode cX4_share 10 = .ok (.ifCond .eq 19, 3) := by decide +kernel
theorem dX4_share_13 : decode cX4_share 13 = .ok (.aload_n 0, 1) := by decide +kernel
theorem dX4_share_14 : decode cX4_share 14 = .ok (.iload_n 2, 1) := by decide +kernel
theorem dX4_share_15 : decode cX4_share 15 = .ok (.invokevirtual 136, 3) := by decide +kernel
theorem dX4_share_18 : decode cX4_share 18 = .ok (.ifCond .eq 11, 3) := by decide +kernel
theorem dX4_share_21 : decode cX4_share 21 = .ok (.aload_n 0, 1) := by decide +kernel
theorem dX4_share_22 : decode cX4_share 22 = .ok (.iload_n 3, 1) := by decide +kernel
theorem dX4_share_23 : decode cX4_share 23 = .ok (.invokevirtual 136, 3) := by decide +kernel
theorem dX4_share_26 : decode cX4_share 26 = .ok (.ifCond .ne 5, 3) := by decide +kernel
theorem dX4_share_29 : decode cX4_share 29 = .ok (.iconst (-1), 1) := by decide +kernel
theorem dX4_share_30 : decode cX4_share 30 = .ok (.ireturn, 1) := by decide +kernel
theorem dX4_share_31 : decode cX4_share 31 = .ok (.iconst 5, 1) := by decide +kernel
theorem dX4_share_32 : decode cX4_share 32 = .ok (.iload_n 1, 1) := by decide +kernel
theorem dX4_share_33 : decode cX4_share 33 = .ok (.imul, 1) := by decide +kernel
theorem dX4_share_34 : decode cX4_share 34 = .ok (.iload_n 3, 1) := by decide +kernel
theorem dX4_share_35 : decode cX4_share 35 = .ok (.iadd, 1) := by decide +kernel
theorem dX4_share_36 : decode cX4_share 36 = .ok (.istore 5, 2) := by decide +kernel
theorem dX4_share_38 : decode cX4_share 38 = .ok (.iconst 0, 1) := by decide +kernel
theorem dX4_share_39 : decode cX4_share 39 = .ok (.istore 6, 2) := by decide +kernel
theorem dX4_share_41 : decode cX4_share 41 = .ok (.aload_n 0, 1) := by decide +kernel
theorem dX4_share_42 : decode cX4_share 42 = .ok (.invokevirtual 150, 3) := by decide +kernel
theorem dX4_share_45 : decode cX4_share 45 = .ok (.iconst 0, 1) := by decide +kernel
theorem dX4_share_46 : decode cX4_share 46 = .ok (.istore 7, 2) := by decide +kernel
theorem dX4_share_48 : decode cX4_share 48 = .ok (.iload 7, 2) := by decide +kernel
theorem dX4_share_50 : decode cX4_share 50 = .ok (.aload_n 0, 1) := by decide +kernel
theorem dX4_share_51 : decode cX4_share 51 = .ok (.getfield 31, 3) := by decide +kernel
theorem dX4_share_54 : decode cX4_share 54 = .ok (.iload_n 1, 1) := by decide +kernel
theorem dX4_share_55 : decode cX4_share 55 = .ok (.iaload, 1) := by decide +kernel
theorem dX4_share_56 : decode cX4_share 56 = .ok (.if_icmp .ge 67, 3) := by decide +kernel
theorem dX4_share_59 : decode cX4_share 59 = .ok (.iload 4, 2) := by decide +kernel
theorem dX4_share_61 : decode cX4_share 61 = .ok (.ifCond .eq 17, 3) := by decide +kernel
theorem dX4_share_64 : decode cX4_share 64 = .ok (.aload_n 0, 1) := by decide +kernel
theorem dX4_share_65 : decode cX4_share 65 = .ok (.getfield 31, 3) := by decide +kernel
theorem dX4_share_68 : decode cX4_share 68 = .ok (.iload_n 1, 1) := by decide +kernel
theorem dX4_share_69 : decode cX4_share 69 = .ok (.iaload, 1) := by decide +kernel
theorem dX4_share_70 : decode cX4_share 70 = .ok (.iconst 1, 1) := by decide +kernel
theorem dX4_share_71 : decode cX4_share 71 = .ok (.isub, 1) := by decide +kernel
theorem dX4_share_72 : decode cX4_share 72 = .ok (.iload 7, 2) := by decide +kernel
theorem dX4_share_74 : decode cX4_share 74 = .ok (.isub, 1) := by decide +kernel
theorem dX4_share_75 : decode cX4_share 75 = .ok (.goto 5, 3) := by decide +kernel
theorem dX4_share_78 : decode cX4_share 78 = .ok (.iload 7, 2) := by decide +kernel
theorem dX4_share_80 : decode cX4_share 80 = .ok (.istore 8, 2) := by decide +kernel
theorem dX4_share_82 : decode cX4_share 82 = .ok (.aload_n 0, 1) := by decide +kernel
theorem dX4_share_83 : decode cX4_share 83 = .ok (.getfield 59, 3) := by decide +kernel
theorem dX4_share_86 : decode cX4_share 86 = .ok (.sipush 160, 3) := by decide +kernel
theorem dX4_share_89 : decode cX4_share 89 = .ok (.iconst 5, 1) := by decide +kernel
theorem dX4_share_90 : decode cX4_share 90 = .ok (.iload_n 1, 1) := by decide +kernel
theorem dX4_share_91 : decode cX4_share 91 = .ok (.imul, 1) := by decide +kernel
theorem dX4_share_92 : decode cX4_share 92 = .ok (.iload_n 2, 1) := by decide +kernel
theorem dX4_share_93 : decode cX4_share 93 = .ok (.iadd, 1) := by decide +kernel
theorem dX4_share_94 : decode cX4_share 94 = .ok (.imul, 1) := by decide +kernel
theorem dX4_share_95 : decode cX4_share 95 = .ok (.iload 8, 2) := by decide +kernel
theorem dX4_share_97 : decode cX4_share 97 = .ok (.iadd, 1) := by decide +kernel
theorem dX4_share_98 : decode cX4_share 98 = .ok (.iaload, 1) := by decide +kernel
theorem dX4_share_99 : decode cX4_share 99 = .ok (.iconst 2, 1) := by decide +kernel
theorem dX4_share_100 : decode cX4_share 100 = .ok (.if_icmp .ne 17, 3) := by decide +kernel
theorem dX4_share_103 : decode cX4_share 103 = .ok (.iload 6, 2) := by decide +kernel
theorem dX4_share_105 : decode cX4_share 105 = .ok (.aload_n 0, 1) := by decide +kernel
theorem dX4_share_106 : decode cX4_share 106 = .ok (.iload 5, 2) := by decide +kernel
theorem dX4_share_108 : decode cX4_share 108 = .ok (.iload_n 1, 1) := by decide +kernel
theorem dX4_share_109 : decode cX4_share 109 = .ok (.iload 8, 2) := by decide +kernel
theorem dX4_share_111 : decode cX4_share 111 = .ok (.invokevirtual 153, 3) := by decide +kernel
theorem dX4_share_114 : decode cX4_share 114 = .ok (.iadd, 1) := by decide +kernel
theorem dX4_share_115 : decode cX4_share 115 = .ok (.istore 6, 2) := by decide +kernel
theorem dX4_share_117 : decode cX4_share 117 = .ok (.iinc 7 1, 3) := by decide +kernel
theorem dX4_share_120 : decode cX4_share 120 = .ok (.goto (-72), 3) := by decide +kernel
theorem dX4_share_123 : decode cX4_share 123 = .ok (.aload_n 0, 1) := by decide +kernel
theorem dX4_share_124 : decode cX4_share 124 = .ok (.iload 5, 2) := by decide +kernel
theorem dX4_share_126 : decode cX4_share 126 = .ok (.invokevirtual 157, 3) := by decide +kernel
theorem dX4_share_129 : decode cX4_share 129 = .ok (.iload 6, 2) := by decide +kernel
theorem dX4_share_131 : decode cX4_share 131 = .ok (.ireturn, 1) := by decide +kernel
theorem dX4_count_0 : decode cX4_count 0 = .ok (.iconst 0, 1) := by decide +kernel
theorem dX4_count_1 : decode cX4_count 1 = .ok (.istore 4, 2) := by decide +kernel
theorem dX4_count_3 : decode cX4_count 3 = .ok (.iconst 0, 1) := by decide +kernel
theorem dX4_count_4 : decode cX4_count 4 = .ok (.istore 5, 2) := by decide +kernel
theorem dX4_count_6 : decode cX4_count 6 = .ok (.iload 5, 2) := by decide +kernel
theorem dX4_count_8 : decode cX4_count 8 = .ok (.aload_n 0, 1) := by decide +kernel
theorem dX4_count_9 : decode cX4_count 9 = .ok (.getfield 31, 3) := by decide +kernel
theorem dX4_count_12 : decode cX4_count 12 = .ok (.iload_n 2, 1) := by decide +kernel
theorem dX4_count_13 : decode cX4_count 13 = .ok (.iaload, 1) := by decide +kernel
theorem dX4_count_14 : decode cX4_count 14 = .ok (.if_icmp .ge 36, 3) := by decide +kernel
theorem dX4_count_17 : decode cX4_count 17 = .ok (.iload 4, 2) := by decide +kernel
theorem dX4_count_19 : decode cX4_count 19 = .ok (.aload_n 0, 1) := by decide +kernel
theorem dX4_count_20 : decode cX4_count 20 = .ok (.getfield 59, 3) := by decide +kernel
theorem dX4_count_23 : decode cX4_count 23 = .ok (.sipush 160, 3) := by decide +kernel
theorem dX4_count_26 : decode cX4_count 26 = .ok (.iload_n 1, 1) := by decide +kernel
theorem dX4_count_27 : decode cX4_count 27 = .ok (.imul, 1) := by decide +kernel
theorem dX4_count_28 : decode cX4_count 28 = .ok (.iload 5, 2) := by decide +kernel
theorem dX4_count_30 : decode cX4_count 30 = .ok (.iadd, 1) := by decide +kernel
theorem dX4_count_31 : decode cX4_count 31 = .ok (.iaload, 1) := by decide +kernel
theorem dX4_count_32 : decode cX4_count 32 = .ok (.iload_n 3, 1) := by decide +kernel
theorem dX4_count_33 : decode cX4_count 33 = .ok (.if_icmp .ne 7, 3) := by decide +kernel
theorem dX4_count_36 : decode cX4_count 36 = .ok (.iconst 1, 1) := by decide +kernel
theorem dX4_count_37 : decode cX4_count 37 = .ok (.goto 4, 3) := by decide +kernel
theorem dX4_count_40 : decode cX4_count 40 = .ok (.iconst 0, 1) := by decide +kernel
theorem dX4_count_41 : decode cX4_count 41 = .ok (.iadd, 1) := by decide +kernel
theorem dX4_count_42 : decode cX4_count 42 = .ok (.istore 4, 2) := by decide +kernel
theorem dX4_count_44 : decode cX4_count 44 = .ok (.iinc 5 1, 3) := by decide +kernel
theorem dX4_count_47 : decode cX4_count 47 = .ok (.goto (-41), 3) := by decide +kernel
theorem dX4_count_50 : decode cX4_count 50 = .ok (.iload 4, 2) := by decide +kernel
theorem dX4_count_52 : decode cX4_count 52 = .ok (.ireturn, 1) := by decide +kernel
set_option maxRecDepth 20000 in
theorem ggX4_look_X4_isText : GoodIn wsX4_look wsX4_isText := goodIn_r _ [10] (by decide +kernel) (by decide +kernel)
set_option maxRecDepth 20000 in
theorem gX4_look_X4_isText : GoodIn wsX4_look (wsV RX4 132 RX4 yX4_isText wsX4_isText) := goodIn_app (goodIn_of _ (by decide +kernel)) ggX4_look_X4_isText
set_option maxRecDepth 20000 in
theorem ggX4_look_X4_isSite : GoodIn wsX4_look wsX4_isSite := goodIn_r _ [14] (by decide +kernel) (by decide +kernel)
set_option maxRecDepth 20000 in
theorem gX4_look_X4_isSite : GoodIn wsX4_look (wsV RX4 136 RX4 yX4_isSite wsX4_isSite) := goodIn_app (goodIn_of _ (by decide +kernel)) ggX4_look_X4_isSite
set_option maxRecDepth 20000 in
theorem ggX4_look_X4_allSeen : GoodIn wsX4_look wsX4_allSeen := goodIn_r _ [18, 4, 19, 20, 26, 27, 28, 29, 30, 31, 32, 33, 34, 35, 36, 37, 38, 39, 40, 41, 42, 43, 44, 45, 46, 47, 48, 49, 50, 51, 52, 53, 54] (by decide +kernel) (by decide +kernel)
set_option maxRecDepth 20000 in
theorem gX4_look_X4_allSeen : GoodIn wsX4_look (wsV RX4 139 RX4 yX4_allSeen wsX4_allSeen) := goodIn_app (goodIn_of _ (by decide +kernel)) ggX4_look_X4_allSeen
set_option maxRecDepth 20000 in
theorem ggX4_look_X4_count : GoodIn wsX4_look wsX4_count := goodIn_r _ [24, 2, 25, 26, 27, 28, 29, 30, 31, 32, 33, 34, 35, 36, 37, 38, 39, 40, 41, 42, 43, 44, 45, 46, 47, 48, 49, 50, 51, 52, 53, 54] (by decide +kernel) (by decide +kernel)
set_option maxRecDepth 20000 in
theorem gX4_look_X4_count : GoodIn wsX4_look (wsV RX4 164 RX4 yX4_count wsX4_count) := goodIn_app (goodIn_of _ (by decide +kernel)) ggX4_look_X4_count
theorem dX4_look_0 : decode cX4_look 0 = .ok (.aload_n 0, 1) := by decide +kernel
theorem dX4_look_1 : decode cX4_look 1 = .ok (.iconst 0, 1) := by decide +kernel
theorem dX4_look_2 : decode cX4_look 2 = .ok (.putfield 87, 3) := by decide +kernel
theorem dX4_look_5 : decode cX4_look 5 = .ok (.aload_n 0, 1) := by decide +kernel
theorem dX4_look_6 : decode cX4_look 6 = .ok (.iload_n 1, 1) := by decide +kernel
theorem dX4_look_7 : decode cX4_look 7 = .ok (.invokevirtual 132, 3) := by decide +kernel
theorem dX4_look_10 : decode cX4_look 10 = .ok (.ifCond .eq 11, 3) := by decide +kernel
theorem dX4_look_13 : decode cX4_look 13 = .ok (.aload_n 0, 1) := by decide +kernel
theorem dX4_look_14 : decode cX4_look 14 = .ok (.iload_n 2, 1) := by decide +kernel
theorem dX4_look_15 : decode cX4_look 15 = .ok (.invokevirtual 136, 3) := by decide +kernel
theorem dX4_look_18 : decode cX4_look 18 = .ok (.ifCond .ne 5, 3) := by decide +kernel
theorem dX4_look_21 : decode cX4_look 21 = .ok (.iconst (-1), 1) := by decide +kernel
theorem dX4_look_22 : decode cX4_look 22 = .ok (.ireturn, 1) := by decide +kernel
theorem dX4_look_23 : decode cX4_look 23 = .ok (.iconst 5, 1) := by decide +kernel
theorem dX4_look_24 : decode cX4_look 24 = .ok (.iload_n 1, 1) := by decide +kernel
theorem dX4_look_25 : decode cX4_look 25 = .ok (.imul, 1) := by decide +kernel
theorem dX4_look_26 : decode cX4_look 26 = .ok (.iload_n 2, 1) := by decide +kernel
theorem dX4_look_27 : decode cX4_look 27 = .ok (.iadd, 1) := by decide +kernel
theorem dX4_look_28 : decode cX4_look 28 = .ok (.istore 4, 2) := by decide +kernel
theorem dX4_look_30 : decode cX4_look 30 = .ok (.iload_n 3, 1) := by decide +kernel
theorem dX4_look_31 : decode cX4_look 31 = .ok (.ifCond .ne 10, 3) := by decide +kernel
theorem dX4_look_34 : decode cX4_look 34 = .ok (.aload_n 0, 1) := by decide +kernel
theorem dX4_look_35 : decode cX4_look 35 = .ok (.getfield 31, 3) := by decide +kernel
theorem dX4_look_38 : decode cX4_look 38 = .ok (.iload_n 1, 1) := by decide +kernel
theorem dX4_look_39 : decode cX4_look 39 = .ok (.iaload, 1) := by decide +kernel
theorem dX4_look_40 : decode cX4_look 40 = .ok (.ireturn, 1) := by decide +kernel
theorem dX4_look_41 : decode cX4_look 41 = .ok (.iload_n 3, 1) := by decide +kernel
theorem dX4_look_42 : decode cX4_look 42 = .ok (.iconst 1, 1) := by decide +kernel
theorem dX4_look_43 : decode cX4_look 43 = .ok (.if_icmp .ne 10, 3) := by decide +kernel
theorem dX4_look_46 : decode cX4_look 46 = .ok (.aload_n 0, 1) := by decide +kernel
theorem dX4_look_47 : decode cX4_look 47 = .ok (.getfield 7, 3) := by decide +kernel
theorem dX4_look_50 : decode cX4_look 50 = .ok (.iload_n 1, 1) := by decide +kernel
theorem dX4_look_51 : decode cX4_look 51 = .ok (.iaload, 1) := by decide +kernel
theorem dX4_look_52 : decode cX4_look 52 = .ok (.ireturn, 1) := by decide +kernel
theorem dX4_look_53 : decode cX4_look 53 = .ok (.iload_n 3, 1) := by decide +kernel
theorem dX4_look_54 : decode cX4_look 54 = .ok (.iconst 2, 1) := by decide +kernel
theorem dX4_look_55 : decode cX4_look 55 = .ok (.if_icmp .ne 11, 3) := by decide +kernel
theorem dX4_look_58 : decode cX4_look 58 = .ok (.aload_n 0, 1) := by decide +kernel
theorem dX4_look_59 : decode cX4_look 59 = .ok (.getfield 50, 3) := by decide +kernel
theorem dX4_look_62 : decode cX4_look 62 = .ok (.iload 4, 2) := by decide +kernel
theorem dX4_look_64 : decode cX4_look 64 = .ok (.iaload, 1) := by decide +kernel
theorem dX4_look_65 : decode cX4_look 65 = .ok (.ireturn, 1) := by decide +kernel
theorem dX4_look_66 : decode cX4_look 66 = .ok (.iload_n 3, 1) := by decide +kernel
theorem dX4_look_67 : decode cX4_look 67 = .ok (.iconst 3, 1) := by decide +kernel
theorem dX4_look_68 : decode cX4_look 68 = .ok (.if_icmp .ne 10, 3) := by decide +kernel
theorem dX4_look_71 : decode cX4_look 71 = .ok (.aload_n 0, 1) := by decide +kernel
theorem dX4_look_72 : decode cX4_look 72 = .ok (.iload 4, 2) := by decide +kernel
theorem dX4_look_74 : decode cX4_look 74 = .ok (.invokevirtual 139, 3) := by decide +kernel
theorem dX4_look_77 : decode cX4_look 77 = .ok (.ireturn, 1) := by decide +kernel
theorem dX4_look_78 : decode cX4_look 78 = .ok (.iload_n 3, 1) := by decide +kernel
theorem dX4_look_79 : decode cX4_look 79 = .ok (.iconst 4, 1) := by decide +kernel
theorem dX4_look_80 : decode cX4_look 80 = .ok (.if_icmp .ne 12, 3) := by decide +kernel
theorem dX4_look_83 : decode cX4_look 83 = .ok (.aload_n 0, 1) := by decide +kernel
theorem dX4_look_84 : decode cX4_look 84 = .ok (.iload 4, 2) := by decide +kernel
theorem dX4_look_86 : decode cX4_look 86 = .ok (.iload_n 1, 1) := by decide +kernel
theorem dX4_look_87 : decode cX4_look 87 = .ok (.iconst 2, 1) := by decide +kernel
theorem dX4_look_88 : decode cX4_look 88 = .ok (.invokevirtual 164, 3) := by decide +kernel
theorem dX4_look_91 : decode cX4_look 91 = .ok (.ireturn, 1) := by decide +kernel
theorem dX4_look_92 : decode cX4_look 92 = .ok (.iload_n 3, 1) := by decide +kernel
theorem dX4_look_93 : decode cX4_look 93 = .ok (.iconst 5, 1) := by decide +kernel
theorem dX4_look_94 : decode cX4_look 94 = .ok (.if_icmp .ne 12, 3) := by decide +kernel
theorem dX4_look_97 : decode cX4_look 97 = .ok (.aload_n 0, 1) := by decide +kernel
theorem dX4_look_98 : decode cX4_look 98 = .ok (.iload 4, 2) := by decide +kernel
theorem dX4_look_100 : decode cX4_look 100 = .ok (.iload_n 1, 1) := by decide +kernel
theorem dX4_look_101 : decode cX4_look 101 = .ok (.iconst 1, 1) := by decide +kernel
theorem dX4_look_102 : decode cX4_look 102 = .ok (.invokevirtual 164, 3) := by decide +kernel
theorem dX4_look_105 : decode cX4_look 105 = .ok (.ireturn, 1) := by decide +kernel
theorem dX4_look_106 : decode cX4_look 106 = .ok (.iload_n 3, 1) := by decide +kernel
theorem dX4_look_107 : decode cX4_look 107 = .ok (.bipush 6, 2) := by decide +kernel
theorem dX4_look_109 : decode cX4_look 109 = .ok (.if_icmp .ne 13, 3) := by decide +kernel
theorem dX4_look_112 : decode cX4_look 112 = .ok (.aload_n 0, 1) := by decide +kernel
theorem dX4_look_113 : decode cX4_look 113 = .ok (.getfield 62, 3) := by decide +kernel
theorem dX4_look_116 : decode cX4_look 116 = .ok (.iload 4, 2) := by decide +kernel
theorem dX4_look_118 : decode cX4_look 118 = .ok (.iaload, 1) := by decide +kernel
theorem dX4_look_119 : decode cX4_look 119 = .ok (.goto 4, 3) := by decide +kernel
theorem dX4_look_122 : decode cX4_look 122 = .ok (.iconst (-1), 1) := by decide +kernel
theorem dX4_look_123 : decode cX4_look 123 = .ok (.ireturn, 1) := by decide +kernel
set_option maxRecDepth 20000 in
theorem ggX4_message__X4_isText : GoodIn wsX4_message_ wsX4_isText := goodIn_r _ [12] (by decide +kernel) (by decide +kernel)
set_option maxRecDepth 20000 in
theorem gX4_message__X4_isText : GoodIn wsX4_message_ (wsV RX4 132 RX4 yX4_isText wsX4_isText) := goodIn_app (goodIn_of _ (by decide +kernel)) ggX4_message__X4_isText
set_option maxRecDepth 20000 in
theorem ggX4_message__X4_isMessage : GoodIn wsX4_message_ wsX4_isMessage := goodIn_r _ [16, 17, 24, 25, 26, 27, 28, 29, 30, 31, 32, 33, 34, 35, 36, 37, 38, 39, 40, 41, 42, 43, 44, 45, 46, 47, 48, 49, 50, 51, 52] (by decide +kernel) (by decide +kernel)
set_option maxRecDepth 20000 in
theorem gX4_message__X4_isMessage : GoodIn wsX4_message_ (wsV RX4 161 RX4 yX4_isMessage wsX4_isMessage) := goodIn_app (goodIn_of _ (by decide +kernel)) ggX4_message__X4_isMessage
set_option maxRecDepth 20000 in
theorem ggX4_message__X4_mark : GoodIn wsX4_message_ wsX4_mark := goodIn_r _ [21, 22, 23, 24, 25, 26, 27, 28, 29, 30, 31, 32, 33, 34, 35, 36, 37, 38, 39, 40, 41, 42, 43, 44, 45, 46, 47, 48, 49, 50, 51, 52] (by decide +kernel) (by decide +kernel)
set_option maxRecDepth 20000 in
theorem gX4_message__X4_mark : GoodIn wsX4_message_ (wsV RX4 108 RX4 yX4_mark wsX4_mark) := goodIn_app (goodIn_of _ (by decide +kernel)) ggX4_message__X4_mark
theorem dX4_message__0 : decode cX4_message_ 0 = .ok (.aload_n 0, 1) := by decide +kernel
theorem dX4_message__1 : decode cX4_message_ 1 = .ok (.iconst 0, 1) := by decide +kernel
theorem dX4_message__2 : decode cX4_message_ 2 = .ok (.putfield 87, 3) := by decide +kernel
theorem dX4_message__5 : decode cX4_message_ 5 = .ok (.aload_n 0, 1) := by decide +kernel
theorem dX4_message__6 : decode cX4_message_ 6 = .ok (.iload_n 1, 1) := by decide +kernel
theorem dX4_message__7 : decode cX4_message_ 7 = .ok (.invokevirtual 132, 3) := by decide +kernel
theorem dX4_message__10 : decode cX4_message_ 10 = .ok (.ifCond .eq 12, 3) := by decide +kernel
theorem dX4_message__13 : decode cX4_message_ 13 = .ok (.aload_n 0, 1) := by decide +kernel
theorem dX4_message__14 : decode cX4_message_ 14 = .ok (.iload_n 1, 1) := by decide +kernel
theorem dX4_message__15 : decode cX4_message_ 15 = .ok (.iload_n 2, 1) := by decide +kernel
theorem dX4_message__16 : decode cX4_message_ 16 = .ok (.invokevirtual 161, 3) := by decide +kernel
theorem dX4_message__19 : decode cX4_message_ 19 = .ok (.ifCond .ne 5, 3) := by decide +kernel
theorem dX4_message__22 : decode cX4_message_ 22 = .ok (.iconst (-1), 1) := by decide +kernel
theorem dX4_message__23 : decode cX4_message_ 23 = .ok (.ireturn, 1) := by decide +kernel
theorem dX4_message__24 : decode cX4_message_ 24 = .ok (.aload_n 0, 1) := by decide +kernel
theorem dX4_message__25 : decode cX4_message_ 25 = .ok (.getfield 41, 3) := by decide +kernel
theorem dX4_message__28 : decode cX4_message_ 28 = .ok (.sipush 160, 3) := by decide +kernel
theorem dX4_message__31 : decode cX4_message_ 31 = .ok (.iload_n 1, 1) := by decide +kernel
theorem dX4_message__32 : decode cX4_message_ 32 = .ok (.imul, 1) := by decide +kernel
theorem dX4_message__33 : decode cX4_message_ 33 = .ok (.iload_n 2, 1) := by decide +kernel
theorem dX4_message__34 : decode cX4_message_ 34 = .ok (.iadd, 1) := by decide +kernel
theorem dX4_message__35 : decode cX4_message_ 35 = .ok (.iaload, 1) := by decide +kernel
theorem dX4_message__36 : decode cX4_message_ 36 = .ok (.istore 4, 2) := by decide +kernel
theorem dX4_message__38 : decode cX4_message_ 38 = .ok (.iload_n 3, 1) := by decide +kernel
theorem dX4_message__39 : decode cX4_message_ 39 = .ok (.ifCond .ne 24, 3) := by decide +kernel
theorem dX4_message__42 : decode cX4_message_ 42 = .ok (.aload_n 0, 1) := by decide +kernel
theorem dX4_message__43 : decode cX4_message_ 43 = .ok (.getfield 37, 3) := by decide +kernel
theorem dX4_message__46 : decode cX4_message_ 46 = .ok (.sipush 160, 3) := by decide +kernel
theorem dX4_message__49 : decode cX4_message_ 49 = .ok (.iload_n 1, 1) := by decide +kernel
theorem dX4_message__50 : decode cX4_message_ 50 = .ok (.imul, 1) := by decide +kernel
theorem dX4_message__51 : decode cX4_message_ 51 = .ok (.iload_n 2, 1) := by decide +kernel
theorem dX4_message__52 : decode cX4_message_ 52 = .ok (.iadd, 1) := by decide +kernel
theorem dX4_message__53 : decode cX4_message_ 53 = .ok (.baload, 1) := by decide +kernel
theorem dX4_message__54 : decode cX4_message_ 54 = .ok (.ifCond .eq 7, 3) := by decide +kernel
theorem dX4_message__57 : decode cX4_message_ 57 = .ok (.iconst 1, 1) := by decide +kernel
theorem dX4_message__58 : decode cX4_message_ 58 = .ok (.goto 4, 3) := by decide +kernel
theorem dX4_message__61 : decode cX4_message_ 61 = .ok (.iconst 0, 1) := by decide +kernel
theorem dX4_message__62 : decode cX4_message_ 62 = .ok (.ireturn, 1) := by decide +kernel
theorem dX4_message__63 : decode cX4_message_ 63 = .ok (.iload_n 3, 1) := by decide +kernel
theorem dX4_message__64 : decode cX4_message_ 64 = .ok (.iconst 1, 1) := by decide +kernel
theorem dX4_message__65 : decode cX4_message_ 65 = .ok (.if_icmp .ne 16, 3) := by decide +kernel
theorem dX4_message__68 : decode cX4_message_ 68 = .ok (.aload_n 0, 1) := by decide +kernel
theorem dX4_message__69 : decode cX4_message_ 69 = .ok (.getfield 44, 3) := by decide +kernel
theorem dX4_message__72 : decode cX4_message_ 72 = .ok (.sipush 160, 3) := by decide +kernel
theorem dX4_message__75 : decode cX4_message_ 75 = .ok (.iload_n 1, 1) := by decide +kernel
theorem dX4_message__76 : decode cX4_message_ 76 = .ok (.imul, 1) := by decide +kernel
theorem dX4_message__77 : decode cX4_message_ 77 = .ok (.iload_n 2, 1) := by decide +kernel
theorem dX4_message__78 : decode cX4_message_ 78 = .ok (.iadd, 1) := by decide +kernel
theorem dX4_message__79 : decode cX4_message_ 79 = .ok (.iaload, 1) := by decide +kernel
theorem dX4_message__80 : decode cX4_message_ 80 = .ok (.ireturn, 1) := by decide +kernel
theorem dX4_message__81 : decode cX4_message_ 81 = .ok (.iload_n 3, 1) := by decide +kernel
theorem dX4_message__82 : decode cX4_message_ 82 = .ok (.iconst 2, 1) := by decide +kernel
theorem dX4_message__83 : decode cX4_message_ 83 = .ok (.if_icmp .ne 11, 3) := by decide +kernel
theorem dX4_message__86 : decode cX4_message_ 86 = .ok (.aload_n 0, 1) := by decide +kernel
theorem dX4_message__87 : decode cX4_message_ 87 = .ok (.iload_n 1, 1) := by decide +kernel
theorem dX4_message__88 : decode cX4_message_ 88 = .ok (.iload 4, 2) := by decide +kernel
theorem dX4_message__90 : decode cX4_message_ 90 = .ok (.invokevirtual 108, 3) := by decide +kernel
theorem dX4_message__93 : decode cX4_message_ 93 = .ok (.ireturn, 1) := by decide +kernel
theorem dX4_message__94 : decode cX4_message_ 94 = .ok (.iload_n 3, 1) := by decide +kernel
theorem dX4_message__95 : decode cX4_message_ 95 = .ok (.iconst 3, 1) := by decide +kernel
theorem dX4_message__96 : decode cX4_message_ 96 = .ok (.if_icmp .ne 21, 3) := by decide +kernel
theorem dX4_message__99 : decode cX4_message_ 99 = .ok (.aload_n 0, 1) := by decide +kernel
theorem dX4_message__100 : decode cX4_message_ 100 = .ok (.iload_n 1, 1) := by decide +kernel
theorem dX4_message__101 : decode cX4_message_ 101 = .ok (.aload_n 0, 1) := by decide +kernel
theorem dX4_message__102 : decode cX4_message_ 102 = .ok (.getfield 22, 3) := by decide +kernel
theorem dX4_message__105 : decode cX4_message_ 105 = .ok (.bipush 60, 2) := by decide +kernel
theorem dX4_message__107 : decode cX4_message_ 107 = .ok (.iload_n 1, 1) := by decide +kernel
theorem dX4_message__108 : decode cX4_message_ 108 = .ok (.imul, 1) := by decide +kernel
theorem dX4_message__109 : decode cX4_message_ 109 = .ok (.iload 4, 2) := by decide +kernel
theorem dX4_message__111 : decode cX4_message_ 111 = .ok (.iadd, 1) := by decide +kernel
theorem dX4_message__112 : decode cX4_message_ 112 = .ok (.iaload, 1) := by decide +kernel
theorem dX4_message__113 : decode cX4_message_ 113 = .ok (.invokevirtual 108, 3) := by decide +kernel
theorem dX4_message__116 : decode cX4_message_ 116 = .ok (.ireturn, 1) := by decide +kernel
theorem dX4_message__117 : decode cX4_message_ 117 = .ok (.iload_n 3, 1) := by decide +kernel
theorem dX4_message__118 : decode cX4_message_ 118 = .ok (.iconst 4, 1) := by decide +kernel
theorem dX4_message__119 : decode cX4_message_ 119 = .ok (.if_icmp .ne 21, 3) := by decide +kernel
theorem dX4_message__122 : decode cX4_message_ 122 = .ok (.aload_n 0, 1) := by decide +kernel
theorem dX4_message__123 : decode cX4_message_ 123 = .ok (.iload_n 1, 1) := by decide +kernel
theorem dX4_message__124 : decode cX4_message_ 124 = .ok (.aload_n 0, 1) := by decide +kernel
theorem dX4_message__125 : decode cX4_message_ 125 = .ok (.getfield 25, 3) := by decide +kernel
theorem dX4_message__128 : decode cX4_message_ 128 = .ok (.bipush 60, 2) := by decide +kernel
theorem dX4_message__130 : decode cX4_message_ 130 = .ok (.iload_n 1, 1) := by decide +kernel
theorem dX4_message__131 : decode cX4_message_ 131 = .ok (.imul, 1) := by decide +kernel
theorem dX4_message__132 : decode cX4_message_ 132 = .ok (.iload 4, 2) := by decide +kernel
theorem dX4_message__134 : decode cX4_message_ 134 = .ok (.iadd, 1) := by decide +kernel
theorem dX4_message__135 : decode cX4_message_ 135 = .ok (.iaload, 1) := by decide +kernel
theorem dX4_message__136 : decode cX4_message_ 136 = .ok (.invokevirtual 108, 3) := by decide +kernel
theorem dX4_message__139 : decode cX4_message_ 139 = .ok (.ireturn, 1) := by decide +kernel
theorem dX4_message__140 : decode cX4_message_ 140 = .ok (.iload_n 3, 1) := by decide +kernel
theorem dX4_message__141 : decode cX4_message_ 141 = .ok (.iconst 5, 1) := by decide +kernel
theorem dX4_message__142 : decode cX4_message_ 142 = .ok (.if_icmp .ne 18, 3) := by decide +kernel
theorem dX4_message__145 : decode cX4_message_ 145 = .ok (.aload_n 0, 1) := by decide +kernel
theorem dX4_message__146 : decode cX4_message_ 146 = .ok (.getfield 19, 3) := by decide +kernel
theorem dX4_message__149 : decode cX4_message_ 149 = .ok (.bipush 60, 2) := by decide +kernel
theorem dX4_message__151 : decode cX4_message_ 151 = .ok (.iload_n 1, 1) := by decide +kernel
theorem dX4_message__152 : decode cX4_message_ 152 = .ok (.imul, 1) := by decide +kernel
theorem dX4_message__153 : decode cX4_message_ 153 = .ok (.iload 4, 2) := by decide +kernel
theorem dX4_message__155 : decode cX4_message_ 155 = .ok (.iadd, 1) := by decide +kernel
theorem dX4_message__156 : decode cX4_message_ 156 = .ok (.iaload, 1) := by decide +kernel
theorem dX4_message__157 : decode cX4_message_ 157 = .ok (.goto 4, 3) := by decide +kernel
theorem dX4_message__160 : decode cX4_message_ 160 = .ok (.iconst (-1), 1) := by decide +kernel
theorem dX4_message__161 : decode cX4_message_ 161 = .ok (.ireturn, 1) := by decide +kernel
set_option maxRecDepth 20000 in
theorem ggX4_state_X4_isText : GoodIn wsX4_state wsX4_isText := goodIn_r _ [7] (by decide +kernel) (by decide +kernel)
set_option maxRecDepth 20000 in
theorem gX4_state_X4_isText : GoodIn wsX4_state (wsV RX4 132 RX4 yX4_isText wsX4_isText) := goodIn_app (goodIn_of _ (by decide +kernel)) ggX4_state_X4_isText
set_option maxRecDepth 20000 in
theorem ggX4_state_X4_isSite : GoodIn wsX4_state wsX4_isSite := goodIn_r _ [11] (by decide +kernel) (by decide +kernel)
set_option maxRecDepth 20000 in
theorem gX4_state_X4_isSite : GoodIn wsX4_state (wsV RX4 136 RX4 yX4_isSite wsX4_isSite) := goodIn_app (goodIn_of _ (by decide +kernel)) ggX4_state_X4_isSite
set_option maxRecDepth 20000 in
theorem ggX4_state_X4_isMessage : GoodIn wsX4_state wsX4_isMessage := goodIn_r _ [15, 16, 17, 18, 19, 20, 21, 22, 23, 24, 25, 26, 27, 28, 29, 30, 31, 32, 33, 34, 35, 36, 37, 38, 39, 40, 41, 42, 43, 44, 45] (by decide +kernel) (by decide +kernel)
set_option maxRecDepth 20000 in
theorem gX4_state_X4_isMessage : GoodIn wsX4_state (wsV RX4 161 RX4 yX4_isMessage wsX4_isMessage) := goodIn_app (goodIn_of _ (by decide +kernel)) ggX4_state_X4_isMessage
theorem dX4_state_0 : decode cX4_state 0 = .ok (.aload_n 0, 1) := by decide +kernel
theorem dX4_state_1 : decode cX4_state 1 = .ok (.iconst 0, 1) := by decide +kernel
theorem dX4_state_2 : decode cX4_state 2 = .ok (.putfield 87, 3) := by decide +kernel
theorem dX4_state_5 : decode cX4_state 5 = .ok (.aload_n 0, 1) := by decide +kernel
theorem dX4_state_6 : decode cX4_state 6 = .ok (.iload_n 1, 1) := by decide +kernel
theorem dX4_state_7 : decode cX4_state 7 = .ok (.invokevirtual 132, 3) := by decide +kernel
theorem dX4_state_10 : decode cX4_state 10 = .ok (.ifCond .eq 20, 3) := by decide +kernel
theorem dX4_state_13 : decode cX4_state 13 = .ok (.aload_n 0, 1) := by decide +kernel
theorem dX4_state_14 : decode cX4_state 14 = .ok (.iload_n 2, 1) := by decide +kernel
theorem dX4_state_15 : decode cX4_state 15 = .ok (.invokevirtual 136, 3) := by decide +kernel
theorem dX4_state_18 : decode cX4_state 18 = .ok (.ifCond .eq 12, 3) := by decide +kernel
theorem dX4_state_21 : decode cX4_state 21 = .ok (.aload_n 0, 1) := by decide +kernel
theorem dX4_state_22 : decode cX4_state 22 = .ok (.iload_n 1, 1) := by decide +kernel
theorem dX4_state_23 : decode cX4_state 23 = .ok (.iload_n 3, 1) := by decide +kernel
theorem dX4_state_24 : decode cX4_state 24 = .ok (.invokevirtual 161, 3) := by decide +kernel
theorem dX4_state_27 : decode cX4_state 27 = .ok (.ifCond .ne 5, 3) := by decide +kernel
theorem dX4_state_30 : decode cX4_state 30 = .ok (.iconst (-1), 1) := by decide +kernel
theorem dX4_state_31 : decode cX4_state 31 = .ok (.ireturn, 1) := by decide +kernel
theorem dX4_state_32 : decode cX4_state 32 = .ok (.aload_n 0, 1) := by decide +kernel
theorem dX4_state_33 : decode cX4_state 33 = .ok (.getfield 59, 3) := by decide +kernel
theorem dX4_state_36 : decode cX4_state 36 = .ok (.sipush 160, 3) := by decide +kernel
theorem dX4_state_39 : decode cX4_state 39 = .ok (.iconst 5, 1) := by decide +kernel
theorem dX4_state_40 : decode cX4_state 40 = .ok (.iload_n 1, 1) := by decide +kernel
theorem dX4_state_41 : decode cX4_state 41 = .ok (.imul, 1) := by decide +kernel
theorem dX4_state_42 : decode cX4_state 42 = .ok (.iload_n 2, 1) := by decide +kernel
theorem dX4_state_43 : decode cX4_state 43 = .ok (.iadd, 1) := by decide +kernel
theorem dX4_state_44 : decode cX4_state 44 = .ok (.imul, 1) := by decide +kernel
theorem dX4_state_45 : decode cX4_state 45 = .ok (.iload_n 3, 1) := by decide +kernel
theorem dX4_state_46 : decode cX4_state 46 = .ok (.iadd, 1) := by decide +kernel
theorem dX4_state_47 : decode cX4_state 47 = .ok (.iaload, 1) := by decide +kernel
theorem dX4_state_48 : decode cX4_state 48 = .ok (.ireturn, 1) := by decide +kernel
set_option maxRecDepth 20000 in
theorem ggX4_character_X4_isText : GoodIn wsX4_character wsX4_isText := goodIn_r _ [12] (by decide +kernel) (by decide +kernel)
set_option maxRecDepth 20000 in
theorem gX4_character_X4_isText : GoodIn wsX4_character (wsV RX4 132 RX4 yX4_isText wsX4_isText) := goodIn_app (goodIn_of _ (by decide +kernel)) ggX4_character_X4_isText
set_option maxRecDepth 20000 in
theorem ggX4_character_X4_isSite : GoodIn wsX4_character wsX4_isSite := goodIn_r _ [16] (by decide +kernel) (by decide +kernel)
set_option maxRecDepth 20000 in
theorem gX4_character_X4_isSite : GoodIn wsX4_character (wsV RX4 136 RX4 yX4_isSite wsX4_isSite) := goodIn_app (goodIn_of _ (by decide +kernel)) ggX4_character_X4_isSite
set_option maxRecDepth 20000 in
theorem ggX4_character_X4_mark : GoodIn wsX4_character wsX4_mark := goodIn_r _ [20, 21, 22, 27, 28, 29, 30, 31, 32, 33, 34, 35, 36, 37, 38, 39, 40, 41, 42, 43, 44, 45, 46, 47, 48, 49, 50, 51, 52, 53, 54, 55] (by decide +kernel) (by decide +kernel)
set_option maxRecDepth 20000 in
theorem gX4_character_X4_mark : GoodIn wsX4_character (wsV RX4 108 RX4 yX4_mark wsX4_mark) := goodIn_app (goodIn_of _ (by decide +kernel)) ggX4_character_X4_mark
set_option maxRecDepth 20000 in
theorem ggX4_character_X4_place : GoodIn wsX4_character wsX4_place := goodIn_r _ [26, 2, 3, 27, 28, 29, 30, 31, 32, 33, 34, 35, 36, 37, 38, 39, 40, 41, 42, 43, 44, 45, 46, 47, 48, 49, 50, 51, 52, 53, 54, 55] (by decide +kernel) (by decide +kernel)
set_option maxRecDepth 20000 in
theorem gX4_character_X4_place : GoodIn wsX4_character (wsV RX4 101 RX4 yX4_place wsX4_place) := goodIn_app (goodIn_of _ (by decide +kernel)) ggX4_character_X4_place
theorem dX4_character_0 : decode cX4_character 0 = .ok (.aload_n 0, 1) := by decide +kernel
theorem dX4_character_1 : decode cX4_character 1 = .ok (.iconst 0, 1) := by decide +kernel
theorem dX4_character_2 : decode cX4_character 2 = .ok (.putfield 87, 3) := by decide +kernel
theorem dX4_character_5 : decode cX4_character 5 = .ok (.aload_n 0, 1) := by decide +kernel
theorem dX4_character_6 : decode cX4_character 6 = .ok (.iload_n 1, 1) := by decide +kernel
theorem dX4_character_7 : decode cX4_character 7 = .ok (.invokevirtual 132, 3) := by decide +kernel
theorem dX4_character_10 : decode cX4_character 10 = .ok (.ifCond .eq 11, 3) := by decide +kernel
theorem dX4_character_13 : decode cX4_character 13 = .ok (.aload_n 0, 1) := by decide +kernel
theorem dX4_character_14 : decode cX4_character 14 = .ok (.iload_n 2, 1) := by decide +kernel
theorem dX4_character_15 : decode cX4_character 15 = .ok (.invokevirtual 136, 3) := by decide +kernel
theorem dX4_character_18 : decode cX4_character 18 = .ok (.ifCond .ne 5, 3) := by decide +kernel
theorem dX4_character_21 : decode cX4_character 21 = .ok (.iconst (-1), 1) := by decide +kernel
theorem dX4_character_22 : decode cX4_character 22 = .ok (.ireturn, 1) := by decide +kernel
theorem dX4_character_23 : decode cX4_character 23 = .ok (.iconst 5, 1) := by decide +kernel
theorem dX4_character_24 : decode cX4_character 24 = .ok (.iload_n 1, 1) := by decide +kernel
theorem dX4_character_25 : decode cX4_character 25 = .ok (.imul, 1) := by decide +kernel
theorem dX4_character_26 : decode cX4_character 26 = .ok (.iload_n 2, 1) := by decide +kernel
theorem dX4_character_27 : decode cX4_character 27 = .ok (.iadd, 1) := by decide +kernel
theorem dX4_character_28 : decode cX4_character 28 = .ok (.istore 5, 2) := by decide +kernel
theorem dX4_character_30 : decode cX4_character 30 = .ok (.iload_n 3, 1) := by decide +kernel
theorem dX4_character_31 : decode cX4_character 31 = .ok (.ifCond .lt 14, 3) := by decide +kernel
theorem dX4_character_34 : decode cX4_character 34 = .ok (.iload_n 3, 1) := by decide +kernel
theorem dX4_character_35 : decode cX4_character 35 = .ok (.aload_n 0, 1) := by decide +kernel
theorem dX4_character_36 : decode cX4_character 36 = .ok (.getfield 50, 3) := by decide +kernel
theorem dX4_character_39 : decode cX4_character 39 = .ok (.iload 5, 2) := by decide +kernel
theorem dX4_character_41 : decode cX4_character 41 = .ok (.iaload, 1) := by decide +kernel
theorem dX4_character_42 : decode cX4_character 42 = .ok (.if_icmp .lt 5, 3) := by decide +kernel
theorem dX4_character_45 : decode cX4_character 45 = .ok (.iconst (-1), 1) := by decide +kernel
theorem dX4_character_46 : decode cX4_character 46 = .ok (.ireturn, 1) := by decide +kernel
theorem dX4_character_47 : decode cX4_character 47 = .ok (.aload_n 0, 1) := by decide +kernel
theorem dX4_character_48 : decode cX4_character 48 = .ok (.getfield 47, 3) := by decide +kernel
theorem dX4_character_51 : decode cX4_character 51 = .ok (.bipush 60, 2) := by decide +kernel
theorem dX4_character_53 : decode cX4_character 53 = .ok (.iload 5, 2) := by decide +kernel
theorem dX4_character_55 : decode cX4_character 55 = .ok (.imul, 1) := by decide +kernel
theorem dX4_character_56 : decode cX4_character 56 = .ok (.iload_n 3, 1) := by decide +kernel
theorem dX4_character_57 : decode cX4_character 57 = .ok (.iadd, 1) := by decide +kernel
theorem dX4_character_58 : decode cX4_character 58 = .ok (.iaload, 1) := by decide +kernel
theorem dX4_character_59 : decode cX4_character 59 = .ok (.istore 6, 2) := by decide +kernel
theorem dX4_character_61 : decode cX4_character 61 = .ok (.iload 4, 2) := by decide +kernel
theorem dX4_character_63 : decode cX4_character 63 = .ok (.ifCond .ne 11, 3) := by decide +kernel
theorem dX4_character_66 : decode cX4_character 66 = .ok (.aload_n 0, 1) := by decide +kernel
theorem dX4_character_67 : decode cX4_character 67 = .ok (.iload_n 1, 1) := by decide +kernel
theorem dX4_character_68 : decode cX4_character 68 = .ok (.iload 6, 2) := by decide +kernel
theorem dX4_character_70 : decode cX4_character 70 = .ok (.invokevirtual 108, 3) := by decide +kernel
theorem dX4_character_73 : decode cX4_character 73 = .ok (.ireturn, 1) := by decide +kernel
theorem dX4_character_74 : decode cX4_character 74 = .ok (.iload 4, 2) := by decide +kernel
theorem dX4_character_76 : decode cX4_character 76 = .ok (.iconst 1, 1) := by decide +kernel
theorem dX4_character_77 : decode cX4_character 77 = .ok (.if_icmp .ne 16, 3) := by decide +kernel
theorem dX4_character_80 : decode cX4_character 80 = .ok (.aload_n 0, 1) := by decide +kernel
theorem dX4_character_81 : decode cX4_character 81 = .ok (.getfield 19, 3) := by decide +kernel
theorem dX4_character_84 : decode cX4_character 84 = .ok (.bipush 60, 2) := by decide +kernel
theorem dX4_character_86 : decode cX4_character 86 = .ok (.iload_n 1, 1) := by decide +kernel
theorem dX4_character_87 : decode cX4_character 87 = .ok (.imul, 1) := by decide +kernel
theorem dX4_character_88 : decode cX4_character 88 = .ok (.iload 6, 2) := by decide +kernel
theorem dX4_character_90 : decode cX4_character 90 = .ok (.iadd, 1) := by decide +kernel
theorem dX4_character_91 : decode cX4_character 91 = .ok (.iaload, 1) := by decide +kernel
theorem dX4_character_92 : decode cX4_character 92 = .ok (.ireturn, 1) := by decide +kernel
theorem dX4_character_93 : decode cX4_character 93 = .ok (.iload 4, 2) := by decide +kernel
theorem dX4_character_95 : decode cX4_character 95 = .ok (.iconst 2, 1) := by decide +kernel
theorem dX4_character_96 : decode cX4_character 96 = .ok (.if_icmp .ne 25, 3) := by decide +kernel
theorem dX4_character_99 : decode cX4_character 99 = .ok (.aload_n 0, 1) := by decide +kernel
theorem dX4_character_100 : decode cX4_character 100 = .ok (.getfield 56, 3) := by decide +kernel
theorem dX4_character_103 : decode cX4_character 103 = .ok (.bipush 60, 2) := by decide +kernel
theorem dX4_character_105 : decode cX4_character 105 = .ok (.iload 5, 2) := by decide +kernel
theorem dX4_character_107 : decode cX4_character 107 = .ok (.imul, 1) := by decide +kernel
theorem dX4_character_108 : decode cX4_character 108 = .ok (.iload 6, 2) := by decide +kernel
theorem dX4_character_110 : decode cX4_character 110 = .ok (.iadd, 1) := by decide +kernel
theorem dX4_character_111 : decode cX4_character 111 = .ok (.baload, 1) := by decide +kernel
theorem dX4_character_112 : decode cX4_character 112 = .ok (.ifCond .eq 7, 3) := by decide +kernel
theorem dX4_character_115 : decode cX4_character 115 = .ok (.iconst 0, 1) := by decide +kernel
theorem dX4_character_116 : decode cX4_character 116 = .ok (.goto 4, 3) := by decide +kernel
theorem dX4_character_119 : decode cX4_character 119 = .ok (.iconst 1, 1) := by decide +kernel
theorem dX4_character_120 : decode cX4_character 120 = .ok (.ireturn, 1) := by decide +kernel
theorem dX4_character_121 : decode cX4_character 121 = .ok (.iload 4, 2) := by decide +kernel
theorem dX4_character_123 : decode cX4_character 123 = .ok (.iconst 3, 1) := by decide +kernel
theorem dX4_character_124 : decode cX4_character 124 = .ok (.if_icmp .ne 22, 3) := by decide +kernel
theorem dX4_character_127 : decode cX4_character 127 = .ok (.aload_n 0, 1) := by decide +kernel
theorem dX4_character_128 : decode cX4_character 128 = .ok (.iload 5, 2) := by decide +kernel
theorem dX4_character_130 : decode cX4_character 130 = .ok (.aload_n 0, 1) := by decide +kernel
theorem dX4_character_131 : decode cX4_character 131 = .ok (.getfield 22, 3) := by decide +kernel
end
section
theorem dX4_character_134 : decode cX4_character 134 = .ok (.bipush 60, 2) := by decide +kernel
theorem dX4_character_136 : decode cX4_character 136 = .ok (.iload_n 1, 1) := by decide +kernel
theorem dX4_character_137 : decode cX4_character 137 = .ok (.imul, 1) := by decide +kernel
theorem dX4_character_138 : decode cX4_character 138 = .ok (.iload 6, 2) := by decide +kernel
theorem dX4_character_140 : decode cX4_character 140 = .ok (.iadd, 1) := by decide +kernel
theorem dX4_character_141 : decode cX4_character 141 = .ok (.iaload, 1) := by decide +kernel
theorem dX4_character_142 : decode cX4_character 142 = .ok (.invokevirtual 101, 3) := by decide +kernel
theorem dX4_character_145 : decode cX4_character 145 = .ok (.ireturn, 1) := by decide +kernel
theorem dX4_character_146 : decode cX4_character 146 = .ok (.iload 4, 2) := by decide +kernel
theorem dX4_character_148 : decode cX4_character 148 = .ok (.iconst 4, 1) := by decide +kernel
theorem dX4_character_149 : decode cX4_character 149 = .ok (.if_icmp .ne 24, 3) := by decide +kernel
theorem dX4_character_152 : decode cX4_character 152 = .ok (.aload_n 0, 1) := by decide +kernel
theorem dX4_character_153 : decode cX4_character 153 = .ok (.iload 5, 2) := by decide +kernel
theorem dX4_character_155 : decode cX4_character 155 = .ok (.aload_n 0, 1) := by decide +kernel
theorem dX4_character_156 : decode cX4_character 156 = .ok (.getfield 25, 3) := by decide +kernel
theorem dX4_character_159 : decode cX4_character 159 = .ok (.bipush 60, 2) := by decide +kernel
theorem dX4_character_161 : decode cX4_character 161 = .ok (.iload_n 1, 1) := by decide +kernel
theorem dX4_character_162 : decode cX4_character 162 = .ok (.imul, 1) := by decide +kernel
theorem dX4_character_163 : decode cX4_character 163 = .ok (.iload 6, 2) := by decide +kernel
theorem dX4_character_165 : decode cX4_character 165 = .ok (.iadd, 1) := by decide +kernel
theorem dX4_character_166 : decode cX4_character 166 = .ok (.iaload, 1) := by decide +kernel
theorem dX4_character_167 : decode cX4_character 167 = .ok (.invokevirtual 101, 3) := by decide +kernel
theorem dX4_character_170 : decode cX4_character 170 = .ok (.goto 4, 3) := by decide +kernel
theorem dX4_character_173 : decode cX4_character 173 = .ok (.iconst (-1), 1) := by decide +kernel
theorem dX4_character_174 : decode cX4_character 174 = .ok (.ireturn, 1) := by decide +kernel
set_option maxRecDepth 20000 in
theorem ggX4_write_X4_isText : GoodIn wsX4_write wsX4_isText := goodIn_r _ [12] (by decide +kernel) (by decide +kernel)
set_option maxRecDepth 20000 in
theorem gX4_write_X4_isText : GoodIn wsX4_write (wsV RX4 132 RX4 yX4_isText wsX4_isText) := goodIn_app (goodIn_of _ (by decide +kernel)) ggX4_write_X4_isText
set_option maxRecDepth 20000 in
theorem ggX4_write_X4_isSite : GoodIn wsX4_write wsX4_isSite := goodIn_r _ [16] (by decide +kernel) (by decide +kernel)
set_option maxRecDepth 20000 in
theorem gX4_write_X4_isSite : GoodIn wsX4_write (wsV RX4 136 RX4 yX4_isSite wsX4_isSite) := goodIn_app (goodIn_of _ (by decide +kernel)) ggX4_write_X4_isSite
theorem dX4_write_0 : decode cX4_write 0 = .ok (.aload_n 0, 1) := by decide +kernel
theorem dX4_write_1 : decode cX4_write 1 = .ok (.iconst 0, 1) := by decide +kernel
theorem dX4_write_2 : decode cX4_write 2 = .ok (.putfield 87, 3) := by decide +kernel
theorem dX4_write_5 : decode cX4_write 5 = .ok (.aload_n 0, 1) := by decide +kernel
theorem dX4_write_6 : decode cX4_write 6 = .ok (.iload_n 1, 1) := by decide +kernel
theorem dX4_write_7 : decode cX4_write 7 = .ok (.invokevirtual 132, 3) := by decide +kernel
theorem dX4_write_10 : decode cX4_write 10 = .ok (.ifCond .eq 11, 3) := by decide +kernel
theorem dX4_write_13 : decode cX4_write 13 = .ok (.aload_n 0, 1) := by decide +kernel
theorem dX4_write_14 : decode cX4_write 14 = .ok (.iload_n 2, 1) := by decide +kernel
theorem dX4_write_15 : decode cX4_write 15 = .ok (.invokevirtual 136, 3) := by decide +kernel
theorem dX4_write_18 : decode cX4_write 18 = .ok (.ifCond .ne 5, 3) := by decide +kernel
theorem dX4_write_21 : decode cX4_write 21 = .ok (.iconst (-1), 1) := by decide +kernel
theorem dX4_write_22 : decode cX4_write 22 = .ok (.ireturn, 1) := by decide +kernel
theorem dX4_write_23 : decode cX4_write 23 = .ok (.iconst 5, 1) := by decide +kernel
theorem dX4_write_24 : decode cX4_write 24 = .ok (.iload_n 1, 1) := by decide +kernel
theorem dX4_write_25 : decode cX4_write 25 = .ok (.imul, 1) := by decide +kernel
theorem dX4_write_26 : decode cX4_write 26 = .ok (.iload_n 2, 1) := by decide +kernel
theorem dX4_write_27 : decode cX4_write 27 = .ok (.iadd, 1) := by decide +kernel
theorem dX4_write_28 : decode cX4_write 28 = .ok (.istore_n 3, 1) := by decide +kernel
theorem dX4_write_29 : decode cX4_write 29 = .ok (.aload_n 0, 1) := by decide +kernel
theorem dX4_write_30 : decode cX4_write 30 = .ok (.iconst 0, 1) := by decide +kernel
theorem dX4_write_31 : decode cX4_write 31 = .ok (.putfield 167, 3) := by decide +kernel
theorem dX4_write_34 : decode cX4_write 34 = .ok (.iconst 0, 1) := by decide +kernel
theorem dX4_write_35 : decode cX4_write 35 = .ok (.istore 4, 2) := by decide +kernel
theorem dX4_write_37 : decode cX4_write 37 = .ok (.iload 4, 2) := by decide +kernel
theorem dX4_write_39 : decode cX4_write 39 = .ok (.aload_n 0, 1) := by decide +kernel
theorem dX4_write_40 : decode cX4_write 40 = .ok (.getfield 50, 3) := by decide +kernel
theorem dX4_write_43 : decode cX4_write 43 = .ok (.iload_n 3, 1) := by decide +kernel
theorem dX4_write_44 : decode cX4_write 44 = .ok (.iaload, 1) := by decide +kernel
theorem dX4_write_45 : decode cX4_write 45 = .ok (.if_icmp .ge 72, 3) := by decide +kernel
theorem dX4_write_48 : decode cX4_write 48 = .ok (.aload_n 0, 1) := by decide +kernel
theorem dX4_write_49 : decode cX4_write 49 = .ok (.getfield 47, 3) := by decide +kernel
theorem dX4_write_52 : decode cX4_write 52 = .ok (.bipush 60, 2) := by decide +kernel
theorem dX4_write_54 : decode cX4_write 54 = .ok (.iload_n 3, 1) := by decide +kernel
theorem dX4_write_55 : decode cX4_write 55 = .ok (.imul, 1) := by decide +kernel
theorem dX4_write_56 : decode cX4_write 56 = .ok (.iload 4, 2) := by decide +kernel
theorem dX4_write_58 : decode cX4_write 58 = .ok (.iadd, 1) := by decide +kernel
theorem dX4_write_59 : decode cX4_write 59 = .ok (.iaload, 1) := by decide +kernel
theorem dX4_write_60 : decode cX4_write 60 = .ok (.istore 5, 2) := by decide +kernel
theorem dX4_write_62 : decode cX4_write 62 = .ok (.aload_n 0, 1) := by decide +kernel
theorem dX4_write_63 : decode cX4_write 63 = .ok (.getfield 56, 3) := by decide +kernel
theorem dX4_write_66 : decode cX4_write 66 = .ok (.bipush 60, 2) := by decide +kernel
theorem dX4_write_68 : decode cX4_write 68 = .ok (.iload_n 3, 1) := by decide +kernel
theorem dX4_write_69 : decode cX4_write 69 = .ok (.imul, 1) := by decide +kernel
theorem dX4_write_70 : decode cX4_write 70 = .ok (.iload 5, 2) := by decide +kernel
theorem dX4_write_72 : decode cX4_write 72 = .ok (.iadd, 1) := by decide +kernel
theorem dX4_write_73 : decode cX4_write 73 = .ok (.baload, 1) := by decide +kernel
theorem dX4_write_74 : decode cX4_write 74 = .ok (.ifCond .eq 6, 3) := by decide +kernel
theorem dX4_write_77 : decode cX4_write 77 = .ok (.goto 34, 3) := by decide +kernel
theorem dX4_write_80 : decode cX4_write 80 = .ok (.aload_n 0, 1) := by decide +kernel
theorem dX4_write_81 : decode cX4_write 81 = .ok (.getfield 65, 3) := by decide +kernel
theorem dX4_write_84 : decode cX4_write 84 = .ok (.aload_n 0, 1) := by decide +kernel
theorem dX4_write_85 : decode cX4_write 85 = .ok (.getfield 167, 3) := by decide +kernel
theorem dX4_write_88 : decode cX4_write 88 = .ok (.aload_n 0, 1) := by decide +kernel
theorem dX4_write_89 : decode cX4_write 89 = .ok (.getfield 19, 3) := by decide +kernel
theorem dX4_write_92 : decode cX4_write 92 = .ok (.bipush 60, 2) := by decide +kernel
theorem dX4_write_94 : decode cX4_write 94 = .ok (.iload_n 1, 1) := by decide +kernel
theorem dX4_write_95 : decode cX4_write 95 = .ok (.imul, 1) := by decide +kernel
theorem dX4_write_96 : decode cX4_write 96 = .ok (.iload 5, 2) := by decide +kernel
theorem dX4_write_98 : decode cX4_write 98 = .ok (.iadd, 1) := by decide +kernel
theorem dX4_write_99 : decode cX4_write 99 = .ok (.iaload, 1) := by decide +kernel
theorem dX4_write_100 : decode cX4_write 100 = .ok (.iastore, 1) := by decide +kernel
theorem dX4_write_101 : decode cX4_write 101 = .ok (.aload_n 0, 1) := by decide +kernel
theorem dX4_write_102 : decode cX4_write 102 = .ok (.aload_n 0, 1) := by decide +kernel
theorem dX4_write_103 : decode cX4_write 103 = .ok (.getfield 167, 3) := by decide +kernel
theorem dX4_write_106 : decode cX4_write 106 = .ok (.iconst 1, 1) := by decide +kernel
theorem dX4_write_107 : decode cX4_write 107 = .ok (.iadd, 1) := by decide +kernel
theorem dX4_write_108 : decode cX4_write 108 = .ok (.putfield 167, 3) := by decide +kernel
theorem dX4_write_111 : decode cX4_write 111 = .ok (.iinc 4 1, 3) := by decide +kernel
theorem dX4_write_114 : decode cX4_write 114 = .ok (.goto (-77), 3) := by decide +kernel
theorem dX4_write_117 : decode cX4_write 117 = .ok (.aload_n 0, 1) := by decide +kernel
theorem dX4_write_118 : decode cX4_write 118 = .ok (.getfield 167, 3) := by decide +kernel
theorem dX4_write_121 : decode cX4_write 121 = .ok (.ireturn, 1) := by decide +kernel
theorem dX4_out_0 : decode cX4_out 0 = .ok (.aload_n 0, 1) := by decide +kernel
theorem dX4_out_1 : decode cX4_out 1 = .ok (.iconst 0, 1) := by decide +kernel
theorem dX4_out_2 : decode cX4_out 2 = .ok (.putfield 87, 3) := by decide +kernel
theorem dX4_out_5 : decode cX4_out 5 = .ok (.iload_n 1, 1) := by decide +kernel
theorem dX4_out_6 : decode cX4_out 6 = .ok (.ifCond .lt 20, 3) := by decide +kernel
theorem dX4_out_9 : decode cX4_out 9 = .ok (.iload_n 1, 1) := by decide +kernel
theorem dX4_out_10 : decode cX4_out 10 = .ok (.aload_n 0, 1) := by decide +kernel
theorem dX4_out_11 : decode cX4_out 11 = .ok (.getfield 167, 3) := by decide +kernel
theorem dX4_out_14 : decode cX4_out 14 = .ok (.if_icmp .ge 12, 3) := by decide +kernel
theorem dX4_out_17 : decode cX4_out 17 = .ok (.aload_n 0, 1) := by decide +kernel
theorem dX4_out_18 : decode cX4_out 18 = .ok (.getfield 65, 3) := by decide +kernel
theorem dX4_out_21 : decode cX4_out 21 = .ok (.iload_n 1, 1) := by decide +kernel
theorem dX4_out_22 : decode cX4_out 22 = .ok (.iaload, 1) := by decide +kernel
theorem dX4_out_23 : decode cX4_out 23 = .ok (.goto 4, 3) := by decide +kernel
theorem dX4_out_26 : decode cX4_out 26 = .ok (.iconst (-1), 1) := by decide +kernel
theorem dX4_out_27 : decode cX4_out 27 = .ok (.ireturn, 1) := by decide +kernel
theorem dX4_isSame_0 : decode cX4_isSame 0 = .ok (.aload_n 0, 1) := by decide +kernel
theorem dX4_isSame_1 : decode cX4_isSame 1 = .ok (.getfield 50, 3) := by decide +kernel
theorem dX4_isSame_4 : decode cX4_isSame 4 = .ok (.iload_n 1, 1) := by decide +kernel
theorem dX4_isSame_5 : decode cX4_isSame 5 = .ok (.iaload, 1) := by decide +kernel
theorem dX4_isSame_6 : decode cX4_isSame 6 = .ok (.aload_n 0, 1) := by decide +kernel
theorem dX4_isSame_7 : decode cX4_isSame 7 = .ok (.getfield 50, 3) := by decide +kernel
theorem dX4_isSame_10 : decode cX4_isSame 10 = .ok (.iload_n 2, 1) := by decide +kernel
theorem dX4_isSame_11 : decode cX4_isSame 11 = .ok (.iaload, 1) := by decide +kernel
theorem dX4_isSame_12 : decode cX4_isSame 12 = .ok (.if_icmp .eq 5, 3) := by decide +kernel
theorem dX4_isSame_15 : decode cX4_isSame 15 = .ok (.iconst 0, 1) := by decide +kernel
theorem dX4_isSame_16 : decode cX4_isSame 16 = .ok (.ireturn, 1) := by decide +kernel
theorem dX4_isSame_17 : decode cX4_isSame 17 = .ok (.iconst 0, 1) := by decide +kernel
theorem dX4_isSame_18 : decode cX4_isSame 18 = .ok (.istore_n 3, 1) := by decide +kernel
theorem dX4_isSame_19 : decode cX4_isSame 19 = .ok (.iload_n 3, 1) := by decide +kernel
theorem dX4_isSame_20 : decode cX4_isSame 20 = .ok (.aload_n 0, 1) := by decide +kernel
theorem dX4_isSame_21 : decode cX4_isSame 21 = .ok (.getfield 50, 3) := by decide +kernel
theorem dX4_isSame_24 : decode cX4_isSame 24 = .ok (.iload_n 1, 1) := by decide +kernel
theorem dX4_isSame_25 : decode cX4_isSame 25 = .ok (.iaload, 1) := by decide +kernel
theorem dX4_isSame_26 : decode cX4_isSame 26 = .ok (.if_icmp .ge 67, 3) := by decide +kernel
theorem dX4_isSame_29 : decode cX4_isSame 29 = .ok (.aload_n 0, 1) := by decide +kernel
theorem dX4_isSame_30 : decode cX4_isSame 30 = .ok (.getfield 47, 3) := by decide +kernel
theorem dX4_isSame_33 : decode cX4_isSame 33 = .ok (.bipush 60, 2) := by decide +kernel
theorem dX4_isSame_35 : decode cX4_isSame 35 = .ok (.iload_n 1, 1) := by decide +kernel
theorem dX4_isSame_36 : decode cX4_isSame 36 = .ok (.imul, 1) := by decide +kernel
theorem dX4_isSame_37 : decode cX4_isSame 37 = .ok (.iload_n 3, 1) := by decide +kernel
theorem dX4_isSame_38 : decode cX4_isSame 38 = .ok (.iadd, 1) := by decide +kernel
theorem dX4_isSame_39 : decode cX4_isSame 39 = .ok (.iaload, 1) := by decide +kernel
theorem dX4_isSame_40 : decode cX4_isSame 40 = .ok (.istore 4, 2) := by decide +kernel
theorem dX4_isSame_42 : decode cX4_isSame 42 = .ok (.aload_n 0, 1) := by decide +kernel
theorem dX4_isSame_43 : decode cX4_isSame 43 = .ok (.getfield 47, 3) := by decide +kernel
theorem dX4_isSame_46 : decode cX4_isSame 46 = .ok (.bipush 60, 2) := by decide +kernel
theorem dX4_isSame_48 : decode cX4_isSame 48 = .ok (.iload_n 2, 1) := by decide +kernel
theorem dX4_isSame_49 : decode cX4_isSame 49 = .ok (.imul, 1) := by decide +kernel
theorem dX4_isSame_50 : decode cX4_isSame 50 = .ok (.iload_n 3, 1) := by decide +kernel
theorem dX4_isSame_51 : decode cX4_isSame 51 = .ok (.iadd, 1) := by decide +kernel
theorem dX4_isSame_52 : decode cX4_isSame 52 = .ok (.iaload, 1) := by decide +kernel
theorem dX4_isSame_53 : decode cX4_isSame 53 = .ok (.iload 4, 2) := by decide +kernel
theorem dX4_isSame_55 : decode cX4_isSame 55 = .ok (.if_icmp .ne 30, 3) := by decide +kernel
theorem dX4_isSame_58 : decode cX4_isSame 58 = .ok (.aload_n 0, 1) := by decide +kernel
theorem dX4_isSame_59 : decode cX4_isSame 59 = .ok (.getfield 56, 3) := by decide +kernel
theorem dX4_isSame_62 : decode cX4_isSame 62 = .ok (.bipush 60, 2) := by decide +kernel
theorem dX4_isSame_64 : decode cX4_isSame 64 = .ok (.iload_n 1, 1) := by decide +kernel
theorem dX4_isSame_65 : decode cX4_isSame 65 = .ok (.imul, 1) := by decide +kernel
theorem dX4_isSame_66 : decode cX4_isSame 66 = .ok (.iload 4, 2) := by decide +kernel
theorem dX4_isSame_68 : decode cX4_isSame 68 = .ok (.iadd, 1) := by decide +kernel
theorem dX4_isSame_69 : decode cX4_isSame 69 = .ok (.baload, 1) := by decide +kernel
theorem dX4_isSame_70 : decode cX4_isSame 70 = .ok (.aload_n 0, 1) := by decide +kernel
theorem dX4_isSame_71 : decode cX4_isSame 71 = .ok (.getfield 56, 3) := by decide +kernel
theorem dX4_isSame_74 : decode cX4_isSame 74 = .ok (.bipush 60, 2) := by decide +kernel
theorem dX4_isSame_76 : decode cX4_isSame 76 = .ok (.iload_n 2, 1) := by decide +kernel
theorem dX4_isSame_77 : decode cX4_isSame 77 = .ok (.imul, 1) := by decide +kernel
theorem dX4_isSame_78 : decode cX4_isSame 78 = .ok (.iload 4, 2) := by decide +kernel
theorem dX4_isSame_80 : decode cX4_isSame 80 = .ok (.iadd, 1) := by decide +kernel
theorem dX4_isSame_81 : decode cX4_isSame 81 = .ok (.baload, 1) := by decide +kernel
theorem dX4_isSame_82 : decode cX4_isSame 82 = .ok (.if_icmp .eq 5, 3) := by decide +kernel
theorem dX4_isSame_85 : decode cX4_isSame 85 = .ok (.iconst 0, 1) := by decide +kernel
theorem dX4_isSame_86 : decode cX4_isSame 86 = .ok (.ireturn, 1) := by decide +kernel
theorem dX4_isSame_87 : decode cX4_isSame 87 = .ok (.iinc 3 1, 3) := by decide +kernel
theorem dX4_isSame_90 : decode cX4_isSame 90 = .ok (.goto (-71), 3) := by decide +kernel
theorem dX4_isSame_93 : decode cX4_isSame 93 = .ok (.iconst 1, 1) := by decide +kernel
theorem dX4_isSame_94 : decode cX4_isSame 94 = .ok (.ireturn, 1) := by decide +kernel
set_option maxRecDepth 20000 in
theorem ggX4_same_X4_isText : GoodIn wsX4_same wsX4_isText := goodIn_r _ [6] (by decide +kernel) (by decide +kernel)
set_option maxRecDepth 20000 in
theorem gX4_same_X4_isText : GoodIn wsX4_same (wsV RX4 132 RX4 yX4_isText wsX4_isText) := goodIn_app (goodIn_of _ (by decide +kernel)) ggX4_same_X4_isText
set_option maxRecDepth 20000 in
theorem ggX4_same_X4_isSite : GoodIn wsX4_same wsX4_isSite := goodIn_r _ [10] (by decide +kernel) (by decide +kernel)
set_option maxRecDepth 20000 in
theorem gX4_same_X4_isSite : GoodIn wsX4_same (wsV RX4 136 RX4 yX4_isSite wsX4_isSite) := goodIn_app (goodIn_of _ (by decide +kernel)) ggX4_same_X4_isSite
set_option maxRecDepth 20000 in
theorem ggX4_same_X4_isSame : GoodIn wsX4_same wsX4_isSame := goodIn_r _ [14, 15, 16, 17, 18, 19, 20, 21, 22, 23, 24, 25, 26, 27, 28, 29, 30, 31, 32, 33, 34, 35, 36, 37, 38, 39, 40, 41, 42, 43, 44, 45, 46] (by decide +kernel) (by decide +kernel)
set_option maxRecDepth 20000 in
theorem gX4_same_X4_isSame : GoodIn wsX4_same (wsV RX4 170 RX4 yX4_isSame wsX4_isSame) := goodIn_app (goodIn_of _ (by decide +kernel)) ggX4_same_X4_isSame
theorem dX4_same_0 : decode cX4_same 0 = .ok (.aload_n 0, 1) := by decide +kernel
theorem dX4_same_1 : decode cX4_same 1 = .ok (.iconst 0, 1) := by decide +kernel
theorem dX4_same_2 : decode cX4_same 2 = .ok (.putfield 87, 3) := by decide +kernel
theorem dX4_same_5 : decode cX4_same 5 = .ok (.aload_n 0, 1) := by decide +kernel
theorem dX4_same_6 : decode cX4_same 6 = .ok (.iload_n 1, 1) := by decide +kernel
theorem dX4_same_7 : decode cX4_same 7 = .ok (.invokevirtual 132, 3) := by decide +kernel
theorem dX4_same_10 : decode cX4_same 10 = .ok (.ifCond .eq 40, 3) := by decide +kernel
theorem dX4_same_13 : decode cX4_same 13 = .ok (.aload_n 0, 1) := by decide +kernel
theorem dX4_same_14 : decode cX4_same 14 = .ok (.iload_n 2, 1) := by decide +kernel
theorem dX4_same_15 : decode cX4_same 15 = .ok (.invokevirtual 136, 3) := by decide +kernel
theorem dX4_same_18 : decode cX4_same 18 = .ok (.ifCond .eq 32, 3) := by decide +kernel
theorem dX4_same_21 : decode cX4_same 21 = .ok (.aload_n 0, 1) := by decide +kernel
theorem dX4_same_22 : decode cX4_same 22 = .ok (.iload_n 3, 1) := by decide +kernel
theorem dX4_same_23 : decode cX4_same 23 = .ok (.invokevirtual 136, 3) := by decide +kernel
theorem dX4_same_26 : decode cX4_same 26 = .ok (.ifCond .eq 24, 3) := by decide +kernel
theorem dX4_same_29 : decode cX4_same 29 = .ok (.aload_n 0, 1) := by decide +kernel
theorem dX4_same_30 : decode cX4_same 30 = .ok (.iconst 5, 1) := by decide +kernel
theorem dX4_same_31 : decode cX4_same 31 = .ok (.iload_n 1, 1) := by decide +kernel
theorem dX4_same_32 : decode cX4_same 32 = .ok (.imul, 1) := by decide +kernel
theorem dX4_same_33 : decode cX4_same 33 = .ok (.iload_n 2, 1) := by decide +kernel
theorem dX4_same_34 : decode cX4_same 34 = .ok (.iadd, 1) := by decide +kernel
theorem dX4_same_35 : decode cX4_same 35 = .ok (.iconst 5, 1) := by decide +kernel
theorem dX4_same_36 : decode cX4_same 36 = .ok (.iload_n 1, 1) := by decide +kernel
theorem dX4_same_37 : decode cX4_same 37 = .ok (.imul, 1) := by decide +kernel
theorem dX4_same_38 : decode cX4_same 38 = .ok (.iload_n 3, 1) := by decide +kernel
theorem dX4_same_39 : decode cX4_same 39 = .ok (.iadd, 1) := by decide +kernel
theorem dX4_same_40 : decode cX4_same 40 = .ok (.invokevirtual 170, 3) := by decide +kernel
theorem dX4_same_43 : decode cX4_same 43 = .ok (.ifCond .eq 7, 3) := by decide +kernel
theorem dX4_same_46 : decode cX4_same 46 = .ok (.iconst 1, 1) := by decide +kernel
theorem dX4_same_47 : decode cX4_same 47 = .ok (.goto 4, 3) := by decide +kernel
theorem dX4_same_50 : decode cX4_same 50 = .ok (.iconst 0, 1) := by decide +kernel
theorem dX4_same_51 : decode cX4_same 51 = .ok (.ireturn, 1) := by decide +kernel
set_option maxRecDepth 20000 in
theorem ggX4_shuffle_X4_isText : GoodIn wsX4_shuffle wsX4_isText := goodIn_r _ [13] (by decide +kernel) (by decide +kernel)
set_option maxRecDepth 20000 in
theorem gX4_shuffle_X4_isText : GoodIn wsX4_shuffle (wsV RX4 132 RX4 yX4_isText wsX4_isText) := goodIn_app (goodIn_of _ (by decide +kernel)) ggX4_shuffle_X4_isText
set_option maxRecDepth 20000 in
theorem ggX4_shuffle_X4_isSite : GoodIn wsX4_shuffle wsX4_isSite := goodIn_r _ [17] (by decide +kernel) (by decide +kernel)
set_option maxRecDepth 20000 in
theorem gX4_shuffle_X4_isSite : GoodIn wsX4_shuffle (wsV RX4 136 RX4 yX4_isSite wsX4_isSite) := goodIn_app (goodIn_of _ (by decide +kernel)) ggX4_shuffle_X4_isSite
set_option maxRecDepth 20000 in
theorem ggX4_shuffle_X4_hears : GoodIn wsX4_shuffle wsX4_hears := goodIn_r _ [21, 5, 6, 22, 23, 24, 12, 25, 26, 27, 28, 29, 30, 31, 32, 33, 3, 34, 35, 36, 37, 4, 38, 39, 40, 41, 42, 43, 44, 45, 46, 47, 48, 49, 50, 51, 52, 53, 2, 54, 55, 56, 57, 58, 59, 60, 61, 62, 63, 64, 65, 66, 67, 68, 69, 70, 71, 72, 73, 82, 83, 84, 85, 86, 87, 88, 89, 90, 91, 92, 93, 94, 95, 96, 97, 98, 99, 100, 101, 102, 103, 104, 105, 106, 107, 108, 109, 110] (by decide +kernel) (by decide +kernel)
set_option maxRecDepth 20000 in
theorem gX4_shuffle_X4_hears : GoodIn wsX4_shuffle (wsV RX4 153 RX4 yX4_hears wsX4_hears) := goodIn_app (goodIn_of _ (by decide +kernel)) ggX4_shuffle_X4_hears
set_option maxRecDepth 20000 in
theorem ggX4_shuffle_X4_count : GoodIn wsX4_shuffle wsX4_count := goodIn_r _ [77, 6, 5, 82, 83, 84, 85, 86, 87, 88, 89, 90, 91, 92, 93, 94, 95, 96, 97, 98, 99, 100, 101, 102, 103, 104, 105, 106, 107, 108, 109, 110] (by decide +kernel) (by decide +kernel)
set_option maxRecDepth 20000 in
theorem gX4_shuffle_X4_count : GoodIn wsX4_shuffle (wsV RX4 164 RX4 yX4_count wsX4_count) := goodIn_app (goodIn_of _ (by decide +kernel)) ggX4_shuffle_X4_count
set_option maxRecDepth 20000 in
theorem ggX4_shuffle_X4_isSame : GoodIn wsX4_shuffle wsX4_isSame := goodIn_r _ [81, 2, 49, 4, 82, 83, 84, 85, 86, 87, 88, 89, 90, 91, 92, 93, 94, 95, 96, 97, 98, 99, 100, 101, 102, 103, 104, 105, 106, 107, 108, 109, 110] (by decide +kernel) (by decide +kernel)
set_option maxRecDepth 20000 in
theorem gX4_shuffle_X4_isSame : GoodIn wsX4_shuffle (wsV RX4 170 RX4 yX4_isSame wsX4_isSame) := goodIn_app (goodIn_of _ (by decide +kernel)) ggX4_shuffle_X4_isSame
theorem dX4_shuffle_0 : decode cX4_shuffle 0 = .ok (.aload_n 0, 1) := by decide +kernel
theorem dX4_shuffle_1 : decode cX4_shuffle 1 = .ok (.iconst 0, 1) := by decide +kernel
theorem dX4_shuffle_2 : decode cX4_shuffle 2 = .ok (.putfield 87, 3) := by decide +kernel
theorem dX4_shuffle_5 : decode cX4_shuffle 5 = .ok (.aload_n 0, 1) := by decide +kernel
theorem dX4_shuffle_6 : decode cX4_shuffle 6 = .ok (.iload_n 1, 1) := by decide +kernel
theorem dX4_shuffle_7 : decode cX4_shuffle 7 = .ok (.invokevirtual 132, 3) := by decide +kernel
theorem dX4_shuffle_10 : decode cX4_shuffle 10 = .ok (.ifCond .eq 11, 3) := by decide +kernel
theorem dX4_shuffle_13 : decode cX4_shuffle 13 = .ok (.aload_n 0, 1) := by decide +kernel
theorem dX4_shuffle_14 : decode cX4_shuffle 14 = .ok (.iload_n 2, 1) := by decide +kernel
theorem dX4_shuffle_15 : decode cX4_shuffle 15 = .ok (.invokevirtual 136, 3) := by decide +kernel
theorem dX4_shuffle_18 : decode cX4_shuffle 18 = .ok (.ifCond .ne 5, 3) := by decide +kernel
theorem dX4_shuffle_21 : decode cX4_shuffle 21 = .ok (.iconst 0, 1) := by decide +kernel
theorem dX4_shuffle_22 : decode cX4_shuffle 22 = .ok (.ireturn, 1) := by decide +kernel
theorem dX4_shuffle_23 : decode cX4_shuffle 23 = .ok (.iconst 5, 1) := by decide +kernel
theorem dX4_shuffle_24 : decode cX4_shuffle 24 = .ok (.iload_n 1, 1) := by decide +kernel
theorem dX4_shuffle_25 : decode cX4_shuffle 25 = .ok (.imul, 1) := by decide +kernel
theorem dX4_shuffle_26 : decode cX4_shuffle 26 = .ok (.iload_n 2, 1) := by decide +kernel
theorem dX4_shuffle_27 : decode cX4_shuffle 27 = .ok (.iadd, 1) := by decide +kernel
theorem dX4_shuffle_28 : decode cX4_shuffle 28 = .ok (.istore 4, 2) := by decide +kernel
theorem dX4_shuffle_30 : decode cX4_shuffle 30 = .ok (.aload_n 0, 1) := by decide +kernel
theorem dX4_shuffle_31 : decode cX4_shuffle 31 = .ok (.getfield 50, 3) := by decide +kernel
theorem dX4_shuffle_34 : decode cX4_shuffle 34 = .ok (.bipush 10, 2) := by decide +kernel
theorem dX4_shuffle_36 : decode cX4_shuffle 36 = .ok (.iconst 0, 1) := by decide +kernel
theorem dX4_shuffle_37 : decode cX4_shuffle 37 = .ok (.iastore, 1) := by decide +kernel
theorem dX4_shuffle_38 : decode cX4_shuffle 38 = .ok (.iconst 0, 1) := by decide +kernel
theorem dX4_shuffle_39 : decode cX4_shuffle 39 = .ok (.istore 5, 2) := by decide +kernel
theorem dX4_shuffle_41 : decode cX4_shuffle 41 = .ok (.iload 5, 2) := by decide +kernel
theorem dX4_shuffle_43 : decode cX4_shuffle 43 = .ok (.bipush 60, 2) := by decide +kernel
theorem dX4_shuffle_45 : decode cX4_shuffle 45 = .ok (.if_icmp .ge 33, 3) := by decide +kernel
theorem dX4_shuffle_48 : decode cX4_shuffle 48 = .ok (.aload_n 0, 1) := by decide +kernel
theorem dX4_shuffle_49 : decode cX4_shuffle 49 = .ok (.getfield 53, 3) := by decide +kernel
theorem dX4_shuffle_52 : decode cX4_shuffle 52 = .ok (.sipush 600, 3) := by decide +kernel
theorem dX4_shuffle_55 : decode cX4_shuffle 55 = .ok (.iload 5, 2) := by decide +kernel
theorem dX4_shuffle_57 : decode cX4_shuffle 57 = .ok (.iadd, 1) := by decide +kernel
theorem dX4_shuffle_58 : decode cX4_shuffle 58 = .ok (.iconst 0, 1) := by decide +kernel
theorem dX4_shuffle_59 : decode cX4_shuffle 59 = .ok (.bastore, 1) := by decide +kernel
theorem dX4_shuffle_60 : decode cX4_shuffle 60 = .ok (.aload_n 0, 1) := by decide +kernel
theorem dX4_shuffle_61 : decode cX4_shuffle 61 = .ok (.getfield 56, 3) := by decide +kernel
theorem dX4_shuffle_64 : decode cX4_shuffle 64 = .ok (.sipush 600, 3) := by decide +kernel
theorem dX4_shuffle_67 : decode cX4_shuffle 67 = .ok (.iload 5, 2) := by decide +kernel
theorem dX4_shuffle_69 : decode cX4_shuffle 69 = .ok (.iadd, 1) := by decide +kernel
theorem dX4_shuffle_70 : decode cX4_shuffle 70 = .ok (.iconst 0, 1) := by decide +kernel
theorem dX4_shuffle_71 : decode cX4_shuffle 71 = .ok (.bastore, 1) := by decide +kernel
theorem dX4_shuffle_72 : decode cX4_shuffle 72 = .ok (.iinc 5 1, 3) := by decide +kernel
theorem dX4_shuffle_75 : decode cX4_shuffle 75 = .ok (.goto (-34), 3) := by decide +kernel
theorem dX4_shuffle_78 : decode cX4_shuffle 78 = .ok (.iconst 0, 1) := by decide +kernel
theorem dX4_shuffle_79 : decode cX4_shuffle 79 = .ok (.istore 5, 2) := by decide +kernel
theorem dX4_shuffle_81 : decode cX4_shuffle 81 = .ok (.iload 5, 2) := by decide +kernel
theorem dX4_shuffle_83 : decode cX4_shuffle 83 = .ok (.sipush 160, 3) := by decide +kernel
theorem dX4_shuffle_86 : decode cX4_shuffle 86 = .ok (.if_icmp .ge 21, 3) := by decide +kernel
theorem dX4_shuffle_89 : decode cX4_shuffle 89 = .ok (.aload_n 0, 1) := by decide +kernel
theorem dX4_shuffle_90 : decode cX4_shuffle 90 = .ok (.getfield 59, 3) := by decide +kernel
theorem dX4_shuffle_93 : decode cX4_shuffle 93 = .ok (.sipush 1600, 3) := by decide +kernel
theorem dX4_shuffle_96 : decode cX4_shuffle 96 = .ok (.iload 5, 2) := by decide +kernel
theorem dX4_shuffle_98 : decode cX4_shuffle 98 = .ok (.iadd, 1) := by decide +kernel
theorem dX4_shuffle_99 : decode cX4_shuffle 99 = .ok (.iconst 0, 1) := by decide +kernel
theorem dX4_shuffle_100 : decode cX4_shuffle 100 = .ok (.iastore, 1) := by decide +kernel
theorem dX4_shuffle_101 : decode cX4_shuffle 101 = .ok (.iinc 5 1, 3) := by decide +kernel
theorem dX4_shuffle_104 : decode cX4_shuffle 104 = .ok (.goto (-23), 3) := by decide +kernel
theorem dX4_shuffle_107 : decode cX4_shuffle 107 = .ok (.iconst 0, 1) := by decide +kernel
theorem dX4_shuffle_108 : decode cX4_shuffle 108 = .ok (.istore 5, 2) := by decide +kernel
theorem dX4_shuffle_110 : decode cX4_shuffle 110 = .ok (.iconst 0, 1) := by decide +kernel
theorem dX4_shuffle_111 : decode cX4_shuffle 111 = .ok (.istore 6, 2) := by decide +kernel
theorem dX4_shuffle_113 : decode cX4_shuffle 113 = .ok (.iload 6, 2) := by decide +kernel
theorem dX4_shuffle_115 : decode cX4_shuffle 115 = .ok (.aload_n 0, 1) := by decide +kernel
theorem dX4_shuffle_116 : decode cX4_shuffle 116 = .ok (.getfield 31, 3) := by decide +kernel
theorem dX4_shuffle_119 : decode cX4_shuffle 119 = .ok (.iload_n 1, 1) := by decide +kernel
theorem dX4_shuffle_120 : decode cX4_shuffle 120 = .ok (.iaload, 1) := by decide +kernel
theorem dX4_shuffle_121 : decode cX4_shuffle 121 = .ok (.if_icmp .ge 45, 3) := by decide +kernel
theorem dX4_shuffle_124 : decode cX4_shuffle 124 = .ok (.aload_n 0, 1) := by decide +kernel
theorem dX4_shuffle_125 : decode cX4_shuffle 125 = .ok (.getfield 59, 3) := by decide +kernel
theorem dX4_shuffle_128 : decode cX4_shuffle 128 = .ok (.sipush 160, 3) := by decide +kernel
theorem dX4_shuffle_131 : decode cX4_shuffle 131 = .ok (.iload 4, 2) := by decide +kernel
theorem dX4_shuffle_133 : decode cX4_shuffle 133 = .ok (.imul, 1) := by decide +kernel
theorem dX4_shuffle_134 : decode cX4_shuffle 134 = .ok (.iload 6, 2) := by decide +kernel
theorem dX4_shuffle_136 : decode cX4_shuffle 136 = .ok (.iadd, 1) := by decide +kernel
theorem dX4_shuffle_137 : decode cX4_shuffle 137 = .ok (.iaload, 1) := by decide +kernel
theorem dX4_shuffle_138 : decode cX4_shuffle 138 = .ok (.iconst 2, 1) := by decide +kernel
theorem dX4_shuffle_139 : decode cX4_shuffle 139 = .ok (.if_icmp .eq 6, 3) := by decide +kernel
theorem dX4_shuffle_142 : decode cX4_shuffle 142 = .ok (.goto 18, 3) := by decide +kernel
theorem dX4_shuffle_145 : decode cX4_shuffle 145 = .ok (.aload_n 0, 1) := by decide +kernel
theorem dX4_shuffle_146 : decode cX4_shuffle 146 = .ok (.getfield 77, 3) := by decide +kernel
theorem dX4_shuffle_149 : decode cX4_shuffle 149 = .ok (.iload 5, 2) := by decide +kernel
theorem dX4_shuffle_151 : decode cX4_shuffle 151 = .ok (.iload 6, 2) := by decide +kernel
theorem dX4_shuffle_153 : decode cX4_shuffle 153 = .ok (.iastore, 1) := by decide +kernel
theorem dX4_shuffle_154 : decode cX4_shuffle 154 = .ok (.iload 5, 2) := by decide +kernel
theorem dX4_shuffle_156 : decode cX4_shuffle 156 = .ok (.iconst 1, 1) := by decide +kernel
theorem dX4_shuffle_157 : decode cX4_shuffle 157 = .ok (.iadd, 1) := by decide +kernel
theorem dX4_shuffle_158 : decode cX4_shuffle 158 = .ok (.istore 5, 2) := by decide +kernel
theorem dX4_shuffle_160 : decode cX4_shuffle 160 = .ok (.iinc 6 1, 3) := by decide +kernel
theorem dX4_shuffle_163 : decode cX4_shuffle 163 = .ok (.goto (-50), 3) := by decide +kernel
theorem dX4_shuffle_166 : decode cX4_shuffle 166 = .ok (.iload_n 3, 1) := by decide +kernel
theorem dX4_shuffle_167 : decode cX4_shuffle 167 = .ok (.istore 6, 2) := by decide +kernel
theorem dX4_shuffle_169 : decode cX4_shuffle 169 = .ok (.iload 5, 2) := by decide +kernel
theorem dX4_shuffle_171 : decode cX4_shuffle 171 = .ok (.ifCond .le 87, 3) := by decide +kernel
theorem dX4_shuffle_174 : decode cX4_shuffle 174 = .ok (.iload 6, 2) := by decide +kernel
theorem dX4_shuffle_176 : decode cX4_shuffle 176 = .ok (.ldc 173, 2) := by decide +kernel
theorem dX4_shuffle_178 : decode cX4_shuffle 178 = .ok (.imul, 1) := by decide +kernel
theorem dX4_shuffle_179 : decode cX4_shuffle 179 = .ok (.sipush 12345, 3) := by decide +kernel
theorem dX4_shuffle_182 : decode cX4_shuffle 182 = .ok (.iadd, 1) := by decide +kernel
theorem dX4_shuffle_183 : decode cX4_shuffle 183 = .ok (.istore 6, 2) := by decide +kernel
theorem dX4_shuffle_185 : decode cX4_shuffle 185 = .ok (.iload 6, 2) := by decide +kernel
theorem dX4_shuffle_187 : decode cX4_shuffle 187 = .ok (.bipush 16, 2) := by decide +kernel
theorem dX4_shuffle_189 : decode cX4_shuffle 189 = .ok (.iushr, 1) := by decide +kernel
theorem dX4_shuffle_190 : decode cX4_shuffle 190 = .ok (.iload 5, 2) := by decide +kernel
theorem dX4_shuffle_192 : decode cX4_shuffle 192 = .ok (.irem, 1) := by decide +kernel
theorem dX4_shuffle_193 : decode cX4_shuffle 193 = .ok (.istore 7, 2) := by decide +kernel
theorem dX4_shuffle_195 : decode cX4_shuffle 195 = .ok (.aload_n 0, 1) := by decide +kernel
theorem dX4_shuffle_196 : decode cX4_shuffle 196 = .ok (.getfield 77, 3) := by decide +kernel
theorem dX4_shuffle_199 : decode cX4_shuffle 199 = .ok (.iload 7, 2) := by decide +kernel
theorem dX4_shuffle_201 : decode cX4_shuffle 201 = .ok (.iaload, 1) := by decide +kernel
theorem dX4_shuffle_202 : decode cX4_shuffle 202 = .ok (.istore 8, 2) := by decide +kernel
theorem dX4_shuffle_204 : decode cX4_shuffle 204 = .ok (.iload 7, 2) := by decide +kernel
theorem dX4_shuffle_206 : decode cX4_shuffle 206 = .ok (.istore 9, 2) := by decide +kernel
theorem dX4_shuffle_208 : decode cX4_shuffle 208 = .ok (.iload 9, 2) := by decide +kernel
theorem dX4_shuffle_210 : decode cX4_shuffle 210 = .ok (.iload 5, 2) := by decide +kernel
theorem dX4_shuffle_212 : decode cX4_shuffle 212 = .ok (.iconst 1, 1) := by decide +kernel
theorem dX4_shuffle_213 : decode cX4_shuffle 213 = .ok (.isub, 1) := by decide +kernel
theorem dX4_shuffle_214 : decode cX4_shuffle 214 = .ok (.if_icmp .ge 25, 3) := by decide +kernel
theorem dX4_shuffle_217 : decode cX4_shuffle 217 = .ok (.aload_n 0, 1) := by decide +kernel
theorem dX4_shuffle_218 : decode cX4_shuffle 218 = .ok (.getfield 77, 3) := by decide +kernel
theorem dX4_shuffle_221 : decode cX4_shuffle 221 = .ok (.iload 9, 2) := by decide +kernel
theorem dX4_shuffle_223 : decode cX4_shuffle 223 = .ok (.aload_n 0, 1) := by decide +kernel
theorem dX4_shuffle_224 : decode cX4_shuffle 224 = .ok (.getfield 77, 3) := by decide +kernel
theorem dX4_shuffle_227 : decode cX4_shuffle 227 = .ok (.iload 9, 2) := by decide +kernel
theorem dX4_shuffle_229 : decode cX4_shuffle 229 = .ok (.iconst 1, 1) := by decide +kernel
theorem dX4_shuffle_230 : decode cX4_shuffle 230 = .ok (.iadd, 1) := by decide +kernel
theorem dX4_shuffle_231 : decode cX4_shuffle 231 = .ok (.iaload, 1) := by decide +kernel
theorem dX4_shuffle_232 : decode cX4_shuffle 232 = .ok (.iastore, 1) := by decide +kernel
theorem dX4_shuffle_233 : decode cX4_shuffle 233 = .ok (.iinc 9 1, 3) := by decide +kernel
theorem dX4_shuffle_236 : decode cX4_shuffle 236 = .ok (.goto (-28), 3) := by decide +kernel
theorem dX4_shuffle_239 : decode cX4_shuffle 239 = .ok (.iload 5, 2) := by decide +kernel
theorem dX4_shuffle_241 : decode cX4_shuffle 241 = .ok (.iconst 1, 1) := by decide +kernel
theorem dX4_shuffle_242 : decode cX4_shuffle 242 = .ok (.isub, 1) := by decide +kernel
theorem dX4_shuffle_243 : decode cX4_shuffle 243 = .ok (.istore 5, 2) := by decide +kernel
theorem dX4_shuffle_245 : decode cX4_shuffle 245 = .ok (.aload_n 0, 1) := by decide +kernel
theorem dX4_shuffle_246 : decode cX4_shuffle 246 = .ok (.bipush 10, 2) := by decide +kernel
theorem dX4_shuffle_248 : decode cX4_shuffle 248 = .ok (.iload_n 1, 1) := by decide +kernel
theorem dX4_shuffle_249 : decode cX4_shuffle 249 = .ok (.iload 8, 2) := by decide +kernel
theorem dX4_shuffle_251 : decode cX4_shuffle 251 = .ok (.invokevirtual 153, 3) := by decide +kernel
theorem dX4_shuffle_254 : decode cX4_shuffle 254 = .ok (.pop, 1) := by decide +kernel
theorem dX4_shuffle_255 : decode cX4_shuffle 255 = .ok (.goto (-86), 3) := by decide +kernel
theorem dX4_shuffle_258 : decode cX4_shuffle 258 = .ok (.aload_n 0, 1) := by decide +kernel
theorem dX4_shuffle_259 : decode cX4_shuffle 259 = .ok (.bipush 10, 2) := by decide +kernel
theorem dX4_shuffle_261 : decode cX4_shuffle 261 = .ok (.iload_n 1, 1) := by decide +kernel
theorem dX4_shuffle_262 : decode cX4_shuffle 262 = .ok (.iconst 1, 1) := by decide +kernel
theorem dX4_shuffle_263 : decode cX4_shuffle 263 = .ok (.invokevirtual 164, 3) := by decide +kernel
theorem dX4_shuffle_266 : decode cX4_shuffle 266 = .ok (.ifCond .ne 18, 3) := by decide +kernel
theorem dX4_shuffle_269 : decode cX4_shuffle 269 = .ok (.aload_n 0, 1) := by decide +kernel
theorem dX4_shuffle_270 : decode cX4_shuffle 270 = .ok (.bipush 10, 2) := by decide +kernel
theorem dX4_shuffle_272 : decode cX4_shuffle 272 = .ok (.iload 4, 2) := by decide +kernel
theorem dX4_shuffle_274 : decode cX4_shuffle 274 = .ok (.invokevirtual 170, 3) := by decide +kernel
theorem dX4_shuffle_277 : decode cX4_shuffle 277 = .ok (.ifCond .eq 7, 3) := by decide +kernel
theorem dX4_shuffle_280 : decode cX4_shuffle 280 = .ok (.iconst 1, 1) := by decide +kernel
theorem dX4_shuffle_281 : decode cX4_shuffle 281 = .ok (.goto 4, 3) := by decide +kernel
theorem dX4_shuffle_284 : decode cX4_shuffle 284 = .ok (.iconst 0, 1) := by decide +kernel
theorem dX4_shuffle_285 : decode cX4_shuffle 285 = .ok (.ireturn, 1) := by decide +kernel
set_option maxRecDepth 20000 in
theorem ggX4_counts_X4_place : GoodIn wsX4_counts wsX4_place := goodIn_r _ [11, 1, 3, 12, 13, 14, 15, 16, 17, 18, 19, 20, 21, 22, 23, 24, 25, 26, 27, 28, 29, 30, 31, 32, 33, 34, 35, 36, 37, 38, 39, 40] (by decide +kernel) (by decide +kernel)
set_option maxRecDepth 20000 in
theorem gX4_counts_X4_place : GoodIn wsX4_counts (wsV RX4 101 RX4 yX4_place wsX4_place) := goodIn_app (goodIn_of _ (by decide +kernel)) ggX4_counts_X4_place
theorem dX4_counts_0 : decode cX4_counts 0 = .ok (.aload_n 0, 1) := by decide +kernel
theorem dX4_counts_1 : decode cX4_counts 1 = .ok (.getfield 50, 3) := by decide +kernel
theorem dX4_counts_4 : decode cX4_counts 4 = .ok (.iload_n 1, 1) := by decide +kernel
theorem dX4_counts_5 : decode cX4_counts 5 = .ok (.iaload, 1) := by decide +kernel
theorem dX4_counts_6 : decode cX4_counts 6 = .ok (.istore_n 3, 1) := by decide +kernel
theorem dX4_counts_7 : decode cX4_counts 7 = .ok (.iconst 0, 1) := by decide +kernel
theorem dX4_counts_8 : decode cX4_counts 8 = .ok (.istore 4, 2) := by decide +kernel
theorem dX4_counts_10 : decode cX4_counts 10 = .ok (.iload 4, 2) := by decide +kernel
theorem dX4_counts_12 : decode cX4_counts 12 = .ok (.iload_n 3, 1) := by decide +kernel
theorem dX4_counts_13 : decode cX4_counts 13 = .ok (.if_icmp .ge 17, 3) := by decide +kernel
theorem dX4_counts_16 : decode cX4_counts 16 = .ok (.aload_n 0, 1) := by decide +kernel
theorem dX4_counts_17 : decode cX4_counts 17 = .ok (.getfield 80, 3) := by decide +kernel
theorem dX4_counts_20 : decode cX4_counts 20 = .ok (.iload 4, 2) := by decide +kernel
theorem dX4_counts_22 : decode cX4_counts 22 = .ok (.iconst 0, 1) := by decide +kernel
theorem dX4_counts_23 : decode cX4_counts 23 = .ok (.iastore, 1) := by decide +kernel
theorem dX4_counts_24 : decode cX4_counts 24 = .ok (.iinc 4 1, 3) := by decide +kernel
theorem dX4_counts_27 : decode cX4_counts 27 = .ok (.goto (-17), 3) := by decide +kernel
theorem dX4_counts_30 : decode cX4_counts 30 = .ok (.iconst 0, 1) := by decide +kernel
theorem dX4_counts_31 : decode cX4_counts 31 = .ok (.istore 4, 2) := by decide +kernel
theorem dX4_counts_33 : decode cX4_counts 33 = .ok (.iload 4, 2) := by decide +kernel
theorem dX4_counts_35 : decode cX4_counts 35 = .ok (.iload_n 3, 1) := by decide +kernel
theorem dX4_counts_36 : decode cX4_counts 36 = .ok (.if_icmp .ge 112, 3) := by decide +kernel
theorem dX4_counts_39 : decode cX4_counts 39 = .ok (.bipush 60, 2) := by decide +kernel
theorem dX4_counts_41 : decode cX4_counts 41 = .ok (.iload_n 2, 1) := by decide +kernel
theorem dX4_counts_42 : decode cX4_counts 42 = .ok (.imul, 1) := by decide +kernel
theorem dX4_counts_43 : decode cX4_counts 43 = .ok (.aload_n 0, 1) := by decide +kernel
theorem dX4_counts_44 : decode cX4_counts 44 = .ok (.getfield 47, 3) := by decide +kernel
theorem dX4_counts_47 : decode cX4_counts 47 = .ok (.bipush 60, 2) := by decide +kernel
theorem dX4_counts_49 : decode cX4_counts 49 = .ok (.iload_n 1, 1) := by decide +kernel
theorem dX4_counts_50 : decode cX4_counts 50 = .ok (.imul, 1) := by decide +kernel
theorem dX4_counts_51 : decode cX4_counts 51 = .ok (.iload 4, 2) := by decide +kernel
theorem dX4_counts_53 : decode cX4_counts 53 = .ok (.iadd, 1) := by decide +kernel
theorem dX4_counts_54 : decode cX4_counts 54 = .ok (.iaload, 1) := by decide +kernel
theorem dX4_counts_55 : decode cX4_counts 55 = .ok (.iadd, 1) := by decide +kernel
theorem dX4_counts_56 : decode cX4_counts 56 = .ok (.istore 5, 2) := by decide +kernel
theorem dX4_counts_58 : decode cX4_counts 58 = .ok (.aload_n 0, 1) := by decide +kernel
theorem dX4_counts_59 : decode cX4_counts 59 = .ok (.getfield 22, 3) := by decide +kernel
theorem dX4_counts_62 : decode cX4_counts 62 = .ok (.iload 5, 2) := by decide +kernel
theorem dX4_counts_64 : decode cX4_counts 64 = .ok (.iaload, 1) := by decide +kernel
theorem dX4_counts_65 : decode cX4_counts 65 = .ok (.istore 6, 2) := by decide +kernel
theorem dX4_counts_67 : decode cX4_counts 67 = .ok (.aload_n 0, 1) := by decide +kernel
theorem dX4_counts_68 : decode cX4_counts 68 = .ok (.getfield 25, 3) := by decide +kernel
theorem dX4_counts_71 : decode cX4_counts 71 = .ok (.iload 5, 2) := by decide +kernel
theorem dX4_counts_73 : decode cX4_counts 73 = .ok (.iaload, 1) := by decide +kernel
theorem dX4_counts_74 : decode cX4_counts 74 = .ok (.istore 7, 2) := by decide +kernel
theorem dX4_counts_76 : decode cX4_counts 76 = .ok (.iload 6, 2) := by decide +kernel
theorem dX4_counts_78 : decode cX4_counts 78 = .ok (.iconst (-1), 1) := by decide +kernel
theorem dX4_counts_79 : decode cX4_counts 79 = .ok (.if_icmp .eq 27, 3) := by decide +kernel
theorem dX4_counts_82 : decode cX4_counts 82 = .ok (.aload_n 0, 1) := by decide +kernel
theorem dX4_counts_83 : decode cX4_counts 83 = .ok (.getfield 80, 3) := by decide +kernel
theorem dX4_counts_86 : decode cX4_counts 86 = .ok (.iload 4, 2) := by decide +kernel
theorem dX4_counts_88 : decode cX4_counts 88 = .ok (.aload_n 0, 1) := by decide +kernel
theorem dX4_counts_89 : decode cX4_counts 89 = .ok (.getfield 80, 3) := by decide +kernel
theorem dX4_counts_92 : decode cX4_counts 92 = .ok (.iload 4, 2) := by decide +kernel
theorem dX4_counts_94 : decode cX4_counts 94 = .ok (.iaload, 1) := by decide +kernel
theorem dX4_counts_95 : decode cX4_counts 95 = .ok (.iconst 1, 1) := by decide +kernel
theorem dX4_counts_96 : decode cX4_counts 96 = .ok (.aload_n 0, 1) := by decide +kernel
theorem dX4_counts_97 : decode cX4_counts 97 = .ok (.iload_n 1, 1) := by decide +kernel
theorem dX4_counts_98 : decode cX4_counts 98 = .ok (.iload 6, 2) := by decide +kernel
theorem dX4_counts_100 : decode cX4_counts 100 = .ok (.invokevirtual 101, 3) := by decide +kernel
theorem dX4_counts_103 : decode cX4_counts 103 = .ok (.ishl, 1) := by decide +kernel
theorem dX4_counts_104 : decode cX4_counts 104 = .ok (.ior, 1) := by decide +kernel
theorem dX4_counts_105 : decode cX4_counts 105 = .ok (.iastore, 1) := by decide +kernel
theorem dX4_counts_106 : decode cX4_counts 106 = .ok (.iload 7, 2) := by decide +kernel
theorem dX4_counts_108 : decode cX4_counts 108 = .ok (.bipush 60, 2) := by decide +kernel
theorem dX4_counts_110 : decode cX4_counts 110 = .ok (.if_icmp .eq 32, 3) := by decide +kernel
theorem dX4_counts_113 : decode cX4_counts 113 = .ok (.aload_n 0, 1) := by decide +kernel
theorem dX4_counts_114 : decode cX4_counts 114 = .ok (.getfield 80, 3) := by decide +kernel
theorem dX4_counts_117 : decode cX4_counts 117 = .ok (.aload_n 0, 1) := by decide +kernel
theorem dX4_counts_118 : decode cX4_counts 118 = .ok (.iload_n 1, 1) := by decide +kernel
theorem dX4_counts_119 : decode cX4_counts 119 = .ok (.iload 7, 2) := by decide +kernel
theorem dX4_counts_121 : decode cX4_counts 121 = .ok (.invokevirtual 101, 3) := by decide +kernel
theorem dX4_counts_124 : decode cX4_counts 124 = .ok (.aload_n 0, 1) := by decide +kernel
theorem dX4_counts_125 : decode cX4_counts 125 = .ok (.getfield 80, 3) := by decide +kernel
theorem dX4_counts_128 : decode cX4_counts 128 = .ok (.aload_n 0, 1) := by decide +kernel
theorem dX4_counts_129 : decode cX4_counts 129 = .ok (.iload_n 1, 1) := by decide +kernel
theorem dX4_counts_130 : decode cX4_counts 130 = .ok (.iload 7, 2) := by decide +kernel
theorem dX4_counts_132 : decode cX4_counts 132 = .ok (.invokevirtual 101, 3) := by decide +kernel
theorem dX4_counts_135 : decode cX4_counts 135 = .ok (.iaload, 1) := by decide +kernel
theorem dX4_counts_136 : decode cX4_counts 136 = .ok (.iconst 1, 1) := by decide +kernel
theorem dX4_counts_137 : decode cX4_counts 137 = .ok (.iload 4, 2) := by decide +kernel
theorem dX4_counts_139 : decode cX4_counts 139 = .ok (.ishl, 1) := by decide +kernel
theorem dX4_counts_140 : decode cX4_counts 140 = .ok (.ior, 1) := by decide +kernel
theorem dX4_counts_141 : decode cX4_counts 141 = .ok (.iastore, 1) := by decide +kernel
theorem dX4_counts_142 : decode cX4_counts 142 = .ok (.iinc 4 1, 3) := by decide +kernel
theorem dX4_counts_145 : decode cX4_counts 145 = .ok (.goto (-112), 3) := by decide +kernel
theorem dX4_counts_148 : decode cX4_counts 148 = .ok (.iconst 1, 1) := by decide +kernel
theorem dX4_counts_149 : decode cX4_counts 149 = .ok (.iload_n 3, 1) := by decide +kernel
theorem dX4_counts_150 : decode cX4_counts 150 = .ok (.ishl, 1) := by decide +kernel
theorem dX4_counts_151 : decode cX4_counts 151 = .ok (.iconst 1, 1) := by decide +kernel
theorem dX4_counts_152 : decode cX4_counts 152 = .ok (.isub, 1) := by decide +kernel
theorem dX4_counts_153 : decode cX4_counts 153 = .ok (.istore 4, 2) := by decide +kernel
theorem dX4_counts_155 : decode cX4_counts 155 = .ok (.aload_n 0, 1) := by decide +kernel
theorem dX4_counts_156 : decode cX4_counts 156 = .ok (.getfield 83, 3) := by decide +kernel
theorem dX4_counts_159 : decode cX4_counts 159 = .ok (.iload 4, 2) := by decide +kernel
theorem dX4_counts_161 : decode cX4_counts 161 = .ok (.lconst 1, 1) := by decide +kernel
theorem dX4_counts_162 : decode cX4_counts 162 = .ok (.lastore, 1) := by decide +kernel
theorem dX4_counts_163 : decode cX4_counts 163 = .ok (.iload 4, 2) := by decide +kernel
theorem dX4_counts_165 : decode cX4_counts 165 = .ok (.iconst 1, 1) := by decide +kernel
theorem dX4_counts_166 : decode cX4_counts 166 = .ok (.isub, 1) := by decide +kernel
theorem dX4_counts_167 : decode cX4_counts 167 = .ok (.istore 5, 2) := by decide +kernel
theorem dX4_counts_169 : decode cX4_counts 169 = .ok (.iload 5, 2) := by decide +kernel
theorem dX4_counts_171 : decode cX4_counts 171 = .ok (.ifCond .lt 78, 3) := by decide +kernel
theorem dX4_counts_174 : decode cX4_counts 174 = .ok (.lconst 0, 1) := by decide +kernel
theorem dX4_counts_175 : decode cX4_counts 175 = .ok (.lstore 6, 2) := by decide +kernel
theorem dX4_counts_177 : decode cX4_counts 177 = .ok (.iconst 0, 1) := by decide +kernel
theorem dX4_counts_178 : decode cX4_counts 178 = .ok (.istore 8, 2) := by decide +kernel
theorem dX4_counts_180 : decode cX4_counts 180 = .ok (.iload 8, 2) := by decide +kernel
theorem dX4_counts_182 : decode cX4_counts 182 = .ok (.iload_n 3, 1) := by decide +kernel
theorem dX4_counts_183 : decode cX4_counts 183 = .ok (.if_icmp .ge 51, 3) := by decide +kernel
theorem dX4_counts_186 : decode cX4_counts 186 = .ok (.iload 5, 2) := by decide +kernel
theorem dX4_counts_188 : decode cX4_counts 188 = .ok (.iload 8, 2) := by decide +kernel
theorem dX4_counts_190 : decode cX4_counts 190 = .ok (.ishr, 1) := by decide +kernel
theorem dX4_counts_191 : decode cX4_counts 191 = .ok (.iconst 1, 1) := by decide +kernel
theorem dX4_counts_192 : decode cX4_counts 192 = .ok (.iand, 1) := by decide +kernel
theorem dX4_counts_193 : decode cX4_counts 193 = .ok (.ifCond .ne 35, 3) := by decide +kernel
theorem dX4_counts_196 : decode cX4_counts 196 = .ok (.aload_n 0, 1) := by decide +kernel
theorem dX4_counts_197 : decode cX4_counts 197 = .ok (.getfield 80, 3) := by decide +kernel
theorem dX4_counts_200 : decode cX4_counts 200 = .ok (.iload 8, 2) := by decide +kernel
theorem dX4_counts_202 : decode cX4_counts 202 = .ok (.iaload, 1) := by decide +kernel
theorem dX4_counts_203 : decode cX4_counts 203 = .ok (.iload 5, 2) := by decide +kernel
theorem dX4_counts_205 : decode cX4_counts 205 = .ok (.iconst (-1), 1) := by decide +kernel
theorem dX4_counts_206 : decode cX4_counts 206 = .ok (.ixor, 1) := by decide +kernel
theorem dX4_counts_207 : decode cX4_counts 207 = .ok (.iand, 1) := by decide +kernel
theorem dX4_counts_208 : decode cX4_counts 208 = .ok (.ifCond .ne 20, 3) := by decide +kernel
theorem dX4_counts_211 : decode cX4_counts 211 = .ok (.lload 6, 2) := by decide +kernel
theorem dX4_counts_213 : decode cX4_counts 213 = .ok (.aload_n 0, 1) := by decide +kernel
theorem dX4_counts_214 : decode cX4_counts 214 = .ok (.getfield 83, 3) := by decide +kernel
theorem dX4_counts_217 : decode cX4_counts 217 = .ok (.iload 5, 2) := by decide +kernel
theorem dX4_counts_219 : decode cX4_counts 219 = .ok (.iconst 1, 1) := by decide +kernel
theorem dX4_counts_220 : decode cX4_counts 220 = .ok (.iload 8, 2) := by decide +kernel
theorem dX4_counts_222 : decode cX4_counts 222 = .ok (.ishl, 1) := by decide +kernel
theorem dX4_counts_223 : decode cX4_counts 223 = .ok (.ior, 1) := by decide +kernel
theorem dX4_counts_224 : decode cX4_counts 224 = .ok (.laload, 1) := by decide +kernel
theorem dX4_counts_225 : decode cX4_counts 225 = .ok (.ladd, 1) := by decide +kernel
theorem dX4_counts_226 : decode cX4_counts 226 = .ok (.lstore 6, 2) := by decide +kernel
theorem dX4_counts_228 : decode cX4_counts 228 = .ok (.iinc 8 1, 3) := by decide +kernel
theorem dX4_counts_231 : decode cX4_counts 231 = .ok (.goto (-51), 3) := by decide +kernel
theorem dX4_counts_234 : decode cX4_counts 234 = .ok (.aload_n 0, 1) := by decide +kernel
theorem dX4_counts_235 : decode cX4_counts 235 = .ok (.getfield 83, 3) := by decide +kernel
theorem dX4_counts_238 : decode cX4_counts 238 = .ok (.iload 5, 2) := by decide +kernel
theorem dX4_counts_240 : decode cX4_counts 240 = .ok (.lload 6, 2) := by decide +kernel
theorem dX4_counts_242 : decode cX4_counts 242 = .ok (.lastore, 1) := by decide +kernel
theorem dX4_counts_243 : decode cX4_counts 243 = .ok (.iinc 5 (-1), 3) := by decide +kernel
theorem dX4_counts_246 : decode cX4_counts 246 = .ok (.goto (-77), 3) := by decide +kernel
theorem dX4_counts_249 : decode cX4_counts 249 = .ok (.return_, 1) := by decide +kernel
set_option maxRecDepth 20000 in
theorem ggX4_orders_X4_isText : GoodIn wsX4_orders wsX4_isText := goodIn_r _ [9] (by decide +kernel) (by decide +kernel)
set_option maxRecDepth 20000 in
theorem gX4_orders_X4_isText : GoodIn wsX4_orders (wsV RX4 132 RX4 yX4_isText wsX4_isText) := goodIn_app (goodIn_of _ (by decide +kernel)) ggX4_orders_X4_isText
set_option maxRecDepth 20000 in
theorem ggX4_orders_X4_isSite : GoodIn wsX4_orders wsX4_isSite := goodIn_r _ [13] (by decide +kernel) (by decide +kernel)
set_option maxRecDepth 20000 in
theorem gX4_orders_X4_isSite : GoodIn wsX4_orders (wsV RX4 136 RX4 yX4_isSite wsX4_isSite) := goodIn_app (goodIn_of _ (by decide +kernel)) ggX4_orders_X4_isSite
set_option maxRecDepth 20000 in
theorem ggX4_orders_X4_counts : GoodIn wsX4_orders wsX4_counts := goodIn_r _ [17, 2, 18, 19, 20, 21, 4, 22, 23, 24, 8, 25, 26, 27, 28, 29, 30, 31, 32, 33, 34, 35, 36, 37, 38, 39, 40, 41, 42, 43, 44, 45, 46, 47, 48, 49, 50, 51, 52, 53, 54] (by decide +kernel) (by decide +kernel)
set_option maxRecDepth 20000 in
theorem gX4_orders_X4_counts : GoodIn wsX4_orders (wsV RX4 176 RX4 yX4_counts wsX4_counts) := goodIn_app (goodIn_of _ (by decide +kernel)) ggX4_orders_X4_counts
theorem dX4_orders_0 : decode cX4_orders 0 = .ok (.aload_n 0, 1) := by decide +kernel
theorem dX4_orders_1 : decode cX4_orders 1 = .ok (.iconst 0, 1) := by decide +kernel
theorem dX4_orders_2 : decode cX4_orders 2 = .ok (.putfield 87, 3) := by decide +kernel
theorem dX4_orders_5 : decode cX4_orders 5 = .ok (.aload_n 0, 1) := by decide +kernel
theorem dX4_orders_6 : decode cX4_orders 6 = .ok (.iload_n 1, 1) := by decide +kernel
theorem dX4_orders_7 : decode cX4_orders 7 = .ok (.invokevirtual 132, 3) := by decide +kernel
theorem dX4_orders_10 : decode cX4_orders 10 = .ok (.ifCond .eq 26, 3) := by decide +kernel
theorem dX4_orders_13 : decode cX4_orders 13 = .ok (.aload_n 0, 1) := by decide +kernel
theorem dX4_orders_14 : decode cX4_orders 14 = .ok (.iload_n 2, 1) := by decide +kernel
theorem dX4_orders_15 : decode cX4_orders 15 = .ok (.invokevirtual 136, 3) := by decide +kernel
theorem dX4_orders_18 : decode cX4_orders 18 = .ok (.ifCond .eq 18, 3) := by decide +kernel
theorem dX4_orders_21 : decode cX4_orders 21 = .ok (.aload_n 0, 1) := by decide +kernel
theorem dX4_orders_22 : decode cX4_orders 22 = .ok (.getfield 50, 3) := by decide +kernel
theorem dX4_orders_25 : decode cX4_orders 25 = .ok (.iconst 5, 1) := by decide +kernel
theorem dX4_orders_26 : decode cX4_orders 26 = .ok (.iload_n 1, 1) := by decide +kernel
theorem dX4_orders_27 : decode cX4_orders 27 = .ok (.imul, 1) := by decide +kernel
theorem dX4_orders_28 : decode cX4_orders 28 = .ok (.iload_n 2, 1) := by decide +kernel
theorem dX4_orders_29 : decode cX4_orders 29 = .ok (.iadd, 1) := by decide +kernel
theorem dX4_orders_30 : decode cX4_orders 30 = .ok (.iaload, 1) := by decide +kernel
theorem dX4_orders_31 : decode cX4_orders 31 = .ok (.bipush 12, 2) := by decide +kernel
theorem dX4_orders_33 : decode cX4_orders 33 = .ok (.if_icmp .le 7, 3) := by decide +kernel
theorem dX4_orders_36 : decode cX4_orders 36 = .ok (.ldc2_w 174, 3) := by decide +kernel
theorem dX4_orders_39 : decode cX4_orders 39 = .ok (.lreturn, 1) := by decide +kernel
theorem dX4_orders_40 : decode cX4_orders 40 = .ok (.aload_n 0, 1) := by decide +kernel
theorem dX4_orders_41 : decode cX4_orders 41 = .ok (.iconst 5, 1) := by decide +kernel
theorem dX4_orders_42 : decode cX4_orders 42 = .ok (.iload_n 1, 1) := by decide +kernel
theorem dX4_orders_43 : decode cX4_orders 43 = .ok (.imul, 1) := by decide +kernel
theorem dX4_orders_44 : decode cX4_orders 44 = .ok (.iload_n 2, 1) := by decide +kernel
theorem dX4_orders_45 : decode cX4_orders 45 = .ok (.iadd, 1) := by decide +kernel
theorem dX4_orders_46 : decode cX4_orders 46 = .ok (.iload_n 1, 1) := by decide +kernel
theorem dX4_orders_47 : decode cX4_orders 47 = .ok (.invokevirtual 176, 3) := by decide +kernel
theorem dX4_orders_50 : decode cX4_orders 50 = .ok (.aload_n 0, 1) := by decide +kernel
theorem dX4_orders_51 : decode cX4_orders 51 = .ok (.getfield 83, 3) := by decide +kernel
theorem dX4_orders_54 : decode cX4_orders 54 = .ok (.iconst 0, 1) := by decide +kernel
theorem dX4_orders_55 : decode cX4_orders 55 = .ok (.laload, 1) := by decide +kernel
theorem dX4_orders_56 : decode cX4_orders 56 = .ok (.lreturn, 1) := by decide +kernel
set_option maxRecDepth 20000 in
theorem ggX4_number_X4_isText : GoodIn wsX4_number wsX4_isText := goodIn_r _ [11] (by decide +kernel) (by decide +kernel)
set_option maxRecDepth 20000 in
theorem gX4_number_X4_isText : GoodIn wsX4_number (wsV RX4 132 RX4 yX4_isText wsX4_isText) := goodIn_app (goodIn_of _ (by decide +kernel)) ggX4_number_X4_isText
set_option maxRecDepth 20000 in
theorem ggX4_number_X4_isSite : GoodIn wsX4_number wsX4_isSite := goodIn_r _ [15] (by decide +kernel) (by decide +kernel)
set_option maxRecDepth 20000 in
theorem gX4_number_X4_isSite : GoodIn wsX4_number (wsV RX4 136 RX4 yX4_isSite wsX4_isSite) := goodIn_app (goodIn_of _ (by decide +kernel)) ggX4_number_X4_isSite
set_option maxRecDepth 20000 in
theorem ggX4_number_X4_counts : GoodIn wsX4_number wsX4_counts := goodIn_r _ [19, 2, 5, 4, 20, 21, 6, 22, 23, 24, 10, 25, 32, 33, 34, 35, 36, 37, 38, 39, 40, 41, 42, 43, 44, 45, 46, 47, 48, 49, 50, 51, 52, 53, 54, 55, 56, 57, 58, 59, 60] (by decide +kernel) (by decide +kernel)
set_option maxRecDepth 20000 in
theorem gX4_number_X4_counts : GoodIn wsX4_number (wsV RX4 176 RX4 yX4_counts wsX4_counts) := goodIn_app (goodIn_of _ (by decide +kernel)) ggX4_number_X4_counts
set_option maxRecDepth 20000 in
theorem ggX4_number_X4_mark : GoodIn wsX4_number wsX4_mark := goodIn_r _ [29, 30, 31, 32, 33, 34, 35, 36, 37, 38, 39, 40, 41, 42, 43, 44, 45, 46, 47, 48, 49, 50, 51, 52, 53, 54, 55, 56, 57, 58, 59, 60] (by decide +kernel) (by decide +kernel)
set_option maxRecDepth 20000 in
theorem gX4_number_X4_mark : GoodIn wsX4_number (wsV RX4 108 RX4 yX4_mark wsX4_mark) := goodIn_app (goodIn_of _ (by decide +kernel)) ggX4_number_X4_mark
theorem dX4_number_0 : decode cX4_number 0 = .ok (.aload_n 0, 1) := by decide +kernel
theorem dX4_number_1 : decode cX4_number 1 = .ok (.iconst 0, 1) := by decide +kernel
theorem dX4_number_2 : decode cX4_number 2 = .ok (.putfield 87, 3) := by decide +kernel
theorem dX4_number_5 : decode cX4_number 5 = .ok (.aload_n 0, 1) := by decide +kernel
theorem dX4_number_6 : decode cX4_number 6 = .ok (.iload_n 1, 1) := by decide +kernel
theorem dX4_number_7 : decode cX4_number 7 = .ok (.invokevirtual 132, 3) := by decide +kernel
theorem dX4_number_10 : decode cX4_number 10 = .ok (.ifCond .eq 26, 3) := by decide +kernel
theorem dX4_number_13 : decode cX4_number 13 = .ok (.aload_n 0, 1) := by decide +kernel
theorem dX4_number_14 : decode cX4_number 14 = .ok (.iload_n 2, 1) := by decide +kernel
theorem dX4_number_15 : decode cX4_number 15 = .ok (.invokevirtual 136, 3) := by decide +kernel
theorem dX4_number_18 : decode cX4_number 18 = .ok (.ifCond .eq 18, 3) := by decide +kernel
theorem dX4_number_21 : decode cX4_number 21 = .ok (.aload_n 0, 1) := by decide +kernel
theorem dX4_number_22 : decode cX4_number 22 = .ok (.getfield 50, 3) := by decide +kernel
theorem dX4_number_25 : decode cX4_number 25 = .ok (.iconst 5, 1) := by decide +kernel
theorem dX4_number_26 : decode cX4_number 26 = .ok (.iload_n 1, 1) := by decide +kernel
theorem dX4_number_27 : decode cX4_number 27 = .ok (.imul, 1) := by decide +kernel
theorem dX4_number_28 : decode cX4_number 28 = .ok (.iload_n 2, 1) := by decide +kernel
theorem dX4_number_29 : decode cX4_number 29 = .ok (.iadd, 1) := by decide +kernel
theorem dX4_number_30 : decode cX4_number 30 = .ok (.iaload, 1) := by decide +kernel
theorem dX4_number_31 : decode cX4_number 31 = .ok (.bipush 12, 2) := by decide +kernel
theorem dX4_number_33 : decode cX4_number 33 = .ok (.if_icmp .le 7, 3) := by decide +kernel
theorem dX4_number_36 : decode cX4_number 36 = .ok (.ldc2_w 174, 3) := by decide +kernel
theorem dX4_number_39 : decode cX4_number 39 = .ok (.lreturn, 1) := by decide +kernel
theorem dX4_number_40 : decode cX4_number 40 = .ok (.iconst 5, 1) := by decide +kernel
theorem dX4_number_41 : decode cX4_number 41 = .ok (.iload_n 1, 1) := by decide +kernel
theorem dX4_number_42 : decode cX4_number 42 = .ok (.imul, 1) := by decide +kernel
theorem dX4_number_43 : decode cX4_number 43 = .ok (.iload_n 2, 1) := by decide +kernel
theorem dX4_number_44 : decode cX4_number 44 = .ok (.iadd, 1) := by decide +kernel
theorem dX4_number_45 : decode cX4_number 45 = .ok (.istore_n 3, 1) := by decide +kernel
theorem dX4_number_46 : decode cX4_number 46 = .ok (.aload_n 0, 1) := by decide +kernel
theorem dX4_number_47 : decode cX4_number 47 = .ok (.iload_n 3, 1) := by decide +kernel
theorem dX4_number_48 : decode cX4_number 48 = .ok (.iload_n 1, 1) := by decide +kernel
theorem dX4_number_49 : decode cX4_number 49 = .ok (.invokevirtual 176, 3) := by decide +kernel
theorem dX4_number_52 : decode cX4_number 52 = .ok (.lconst 0, 1) := by decide +kernel
theorem dX4_number_53 : decode cX4_number 53 = .ok (.lstore 4, 2) := by decide +kernel
theorem dX4_number_55 : decode cX4_number 55 = .ok (.iconst 0, 1) := by decide +kernel
theorem dX4_number_56 : decode cX4_number 56 = .ok (.istore 6, 2) := by decide +kernel
theorem dX4_number_58 : decode cX4_number 58 = .ok (.iconst 0, 1) := by decide +kernel
theorem dX4_number_59 : decode cX4_number 59 = .ok (.istore 7, 2) := by decide +kernel
theorem dX4_number_61 : decode cX4_number 61 = .ok (.iload 7, 2) := by decide +kernel
theorem dX4_number_63 : decode cX4_number 63 = .ok (.aload_n 0, 1) := by decide +kernel
theorem dX4_number_64 : decode cX4_number 64 = .ok (.getfield 50, 3) := by decide +kernel
theorem dX4_number_67 : decode cX4_number 67 = .ok (.iload_n 3, 1) := by decide +kernel
theorem dX4_number_68 : decode cX4_number 68 = .ok (.iaload, 1) := by decide +kernel
theorem dX4_number_69 : decode cX4_number 69 = .ok (.if_icmp .ge 133, 3) := by decide +kernel
theorem dX4_number_72 : decode cX4_number 72 = .ok (.aload_n 0, 1) := by decide +kernel
theorem dX4_number_73 : decode cX4_number 73 = .ok (.iload_n 1, 1) := by decide +kernel
theorem dX4_number_74 : decode cX4_number 74 = .ok (.aload_n 0, 1) := by decide +kernel
theorem dX4_number_75 : decode cX4_number 75 = .ok (.getfield 47, 3) := by decide +kernel
theorem dX4_number_78 : decode cX4_number 78 = .ok (.bipush 60, 2) := by decide +kernel
theorem dX4_number_80 : decode cX4_number 80 = .ok (.iload_n 3, 1) := by decide +kernel
theorem dX4_number_81 : decode cX4_number 81 = .ok (.imul, 1) := by decide +kernel
theorem dX4_number_82 : decode cX4_number 82 = .ok (.iload 7, 2) := by decide +kernel
theorem dX4_number_84 : decode cX4_number 84 = .ok (.iadd, 1) := by decide +kernel
theorem dX4_number_85 : decode cX4_number 85 = .ok (.iaload, 1) := by decide +kernel
theorem dX4_number_86 : decode cX4_number 86 = .ok (.invokevirtual 108, 3) := by decide +kernel
theorem dX4_number_89 : decode cX4_number 89 = .ok (.istore 8, 2) := by decide +kernel
theorem dX4_number_91 : decode cX4_number 91 = .ok (.iconst 0, 1) := by decide +kernel
theorem dX4_number_92 : decode cX4_number 92 = .ok (.istore 9, 2) := by decide +kernel
theorem dX4_number_94 : decode cX4_number 94 = .ok (.iload 9, 2) := by decide +kernel
theorem dX4_number_96 : decode cX4_number 96 = .ok (.aload_n 0, 1) := by decide +kernel
theorem dX4_number_97 : decode cX4_number 97 = .ok (.getfield 50, 3) := by decide +kernel
theorem dX4_number_100 : decode cX4_number 100 = .ok (.iload_n 3, 1) := by decide +kernel
theorem dX4_number_101 : decode cX4_number 101 = .ok (.iaload, 1) := by decide +kernel
theorem dX4_number_102 : decode cX4_number 102 = .ok (.if_icmp .ge 85, 3) := by decide +kernel
theorem dX4_number_105 : decode cX4_number 105 = .ok (.iload 6, 2) := by decide +kernel
theorem dX4_number_107 : decode cX4_number 107 = .ok (.iload 9, 2) := by decide +kernel
theorem dX4_number_109 : decode cX4_number 109 = .ok (.ishr, 1) := by decide +kernel
theorem dX4_number_110 : decode cX4_number 110 = .ok (.iconst 1, 1) := by decide +kernel
theorem dX4_number_111 : decode cX4_number 111 = .ok (.iand, 1) := by decide +kernel
theorem dX4_number_112 : decode cX4_number 112 = .ok (.ifCond .ne 22, 3) := by decide +kernel
theorem dX4_number_115 : decode cX4_number 115 = .ok (.aload_n 0, 1) := by decide +kernel
theorem dX4_number_116 : decode cX4_number 116 = .ok (.getfield 80, 3) := by decide +kernel
theorem dX4_number_119 : decode cX4_number 119 = .ok (.iload 9, 2) := by decide +kernel
theorem dX4_number_121 : decode cX4_number 121 = .ok (.iaload, 1) := by decide +kernel
theorem dX4_number_122 : decode cX4_number 122 = .ok (.iload 6, 2) := by decide +kernel
theorem dX4_number_124 : decode cX4_number 124 = .ok (.iconst (-1), 1) := by decide +kernel
theorem dX4_number_125 : decode cX4_number 125 = .ok (.ixor, 1) := by decide +kernel
theorem dX4_number_126 : decode cX4_number 126 = .ok (.iand, 1) := by decide +kernel
theorem dX4_number_127 : decode cX4_number 127 = .ok (.ifCond .ne 7, 3) := by decide +kernel
theorem dX4_number_130 : decode cX4_number 130 = .ok (.iconst 1, 1) := by decide +kernel
theorem dX4_number_131 : decode cX4_number 131 = .ok (.goto 4, 3) := by decide +kernel
theorem dX4_number_134 : decode cX4_number 134 = .ok (.iconst 0, 1) := by decide +kernel
theorem dX4_number_135 : decode cX4_number 135 = .ok (.istore 10, 2) := by decide +kernel
theorem dX4_number_137 : decode cX4_number 137 = .ok (.iload 10, 2) := by decide +kernel
theorem dX4_number_139 : decode cX4_number 139 = .ok (.ifCond .eq 42, 3) := by decide +kernel
theorem dX4_number_142 : decode cX4_number 142 = .ok (.aload_n 0, 1) := by decide +kernel
theorem dX4_number_143 : decode cX4_number 143 = .ok (.iload_n 1, 1) := by decide +kernel
theorem dX4_number_144 : decode cX4_number 144 = .ok (.aload_n 0, 1) := by decide +kernel
theorem dX4_number_145 : decode cX4_number 145 = .ok (.getfield 47, 3) := by decide +kernel
theorem dX4_number_148 : decode cX4_number 148 = .ok (.bipush 60, 2) := by decide +kernel
theorem dX4_number_150 : decode cX4_number 150 = .ok (.iload_n 3, 1) := by decide +kernel
theorem dX4_number_151 : decode cX4_number 151 = .ok (.imul, 1) := by decide +kernel
theorem dX4_number_152 : decode cX4_number 152 = .ok (.iload 9, 2) := by decide +kernel
theorem dX4_number_154 : decode cX4_number 154 = .ok (.iadd, 1) := by decide +kernel
theorem dX4_number_155 : decode cX4_number 155 = .ok (.iaload, 1) := by decide +kernel
theorem dX4_number_156 : decode cX4_number 156 = .ok (.invokevirtual 108, 3) := by decide +kernel
theorem dX4_number_159 : decode cX4_number 159 = .ok (.iload 8, 2) := by decide +kernel
theorem dX4_number_161 : decode cX4_number 161 = .ok (.if_icmp .ge 20, 3) := by decide +kernel
theorem dX4_number_164 : decode cX4_number 164 = .ok (.lload 4, 2) := by decide +kernel
theorem dX4_number_166 : decode cX4_number 166 = .ok (.aload_n 0, 1) := by decide +kernel
theorem dX4_number_167 : decode cX4_number 167 = .ok (.getfield 83, 3) := by decide +kernel
theorem dX4_number_170 : decode cX4_number 170 = .ok (.iload 6, 2) := by decide +kernel
theorem dX4_number_172 : decode cX4_number 172 = .ok (.iconst 1, 1) := by decide +kernel
theorem dX4_number_173 : decode cX4_number 173 = .ok (.iload 9, 2) := by decide +kernel
theorem dX4_number_175 : decode cX4_number 175 = .ok (.ishl, 1) := by decide +kernel
theorem dX4_number_176 : decode cX4_number 176 = .ok (.ior, 1) := by decide +kernel
theorem dX4_number_177 : decode cX4_number 177 = .ok (.laload, 1) := by decide +kernel
theorem dX4_number_178 : decode cX4_number 178 = .ok (.ladd, 1) := by decide +kernel
theorem dX4_number_179 : decode cX4_number 179 = .ok (.lstore 4, 2) := by decide +kernel
theorem dX4_number_181 : decode cX4_number 181 = .ok (.iinc 9 1, 3) := by decide +kernel
theorem dX4_number_184 : decode cX4_number 184 = .ok (.goto (-90), 3) := by decide +kernel
theorem dX4_number_187 : decode cX4_number 187 = .ok (.iload 6, 2) := by decide +kernel
theorem dX4_number_189 : decode cX4_number 189 = .ok (.iconst 1, 1) := by decide +kernel
theorem dX4_number_190 : decode cX4_number 190 = .ok (.iload 7, 2) := by decide +kernel
theorem dX4_number_192 : decode cX4_number 192 = .ok (.ishl, 1) := by decide +kernel
theorem dX4_number_193 : decode cX4_number 193 = .ok (.ior, 1) := by decide +kernel
theorem dX4_number_194 : decode cX4_number 194 = .ok (.istore 6, 2) := by decide +kernel
theorem dX4_number_196 : decode cX4_number 196 = .ok (.iinc 7 1, 3) := by decide +kernel
theorem dX4_number_199 : decode cX4_number 199 = .ok (.goto (-138), 3) := by decide +kernel
theorem dX4_number_202 : decode cX4_number 202 = .ok (.lload 4, 2) := by decide +kernel
theorem dX4_number_204 : decode cX4_number 204 = .ok (.lreturn, 1) := by decide +kernel
theorem dJ9_min_7cf53_0 : decode cJ9_min_7cf53 0 = .ok (.iload_n 0, 1) := by decide +kernel
theorem dJ9_min_7cf53_1 : decode cJ9_min_7cf53 1 = .ok (.iload_n 1, 1) := by decide +kernel
theorem dJ9_min_7cf53_2 : decode cJ9_min_7cf53 2 = .ok (.if_icmp .gt 7, 3) := by decide +kernel
theorem dJ9_min_7cf53_5 : decode cJ9_min_7cf53 5 = .ok (.iload_n 0, 1) := by decide +kernel
theorem dJ9_min_7cf53_6 : decode cJ9_min_7cf53 6 = .ok (.goto 4, 3) := by decide +kernel
theorem dJ9_min_7cf53_9 : decode cJ9_min_7cf53 9 = .ok (.iload_n 1, 1) := by decide +kernel
theorem dJ9_min_7cf53_10 : decode cJ9_min_7cf53 10 = .ok (.ireturn, 1) := by decide +kernel
set_option maxRecDepth 20000 in
theorem ggL_law_X3_init : GoodIn wsL_law wsX3_init := goodIn_r _ [8, 9, 10, 11, 12, 13, 14, 15, 16, 17, 18, 19, 20, 21, 22, 23, 24, 25, 26, 27, 28, 29, 30, 31, 32, 33, 34, 35, 36, 37, 38, 39, 40, 41, 42, 43, 44, 45, 46, 47, 48, 49, 50, 51, 52, 53, 54, 55, 56, 57, 58, 59, 60, 61, 62, 63, 64, 65, 66, 67, 68, 69, 70, 71, 72, 73, 536, 537, 538, 539, 540, 541, 542, 572, 573, 574, 575, 576, 577, 578, 579, 580, 581, 582, 583, 584, 585, 586, 587, 588, 589, 590, 591, 592, 593, 594, 595, 596, 597, 598] (by decide +kernel) (by decide +kernel)
set_option maxRecDepth 20000 in
theorem gL_law_X3_init : GoodIn wsL_law (wsX3_init) := ggL_law_X3_init
set_option maxRecDepth 20000 in
theorem ggL_law_X4_init : GoodIn wsL_law wsX4_init := goodIn_r _ [76, 77, 10, 11, 25, 78, 79, 80, 81, 82, 83, 84, 85, 86, 53, 87, 88, 89, 90, 91, 92, 93, 94, 95, 96, 97, 98, 99, 100, 101, 71, 102, 543, 544, 545, 546, 547, 548, 549, 550, 551, 552, 553, 554, 555, 556, 557, 558, 559, 560, 561, 562, 563, 564, 565, 566, 567, 568, 569, 570, 571] (by decide +kernel) (by decide +kernel)
set_option maxRecDepth 20000 in
theorem gL_law_X4_init : GoodIn wsL_law (wsX4_init) := ggL_law_X4_init
set_option maxRecDepth 20000 in
theorem ggL_law_X3_insert : GoodIn wsL_law wsX3_insert := goodIn_r _ [106, 107, 108, 109, 110, 111, 2, 112, 15, 113, 114, 115, 20, 116, 117, 118, 119, 120, 60, 121, 122, 123, 124, 51, 125, 126, 127, 128, 52, 54, 129, 130, 131, 132, 50, 133, 134, 135, 136, 137, 138, 139, 140, 141, 18, 142, 43, 34, 35, 42, 36, 37, 38, 143, 144, 145, 146, 44, 39, 40, 41, 147, 148, 149, 150, 151, 152, 153, 154, 155, 156, 157, 158, 65, 66, 159, 160, 161, 162, 62, 163, 164, 165, 166, 167, 168, 169, 170, 171, 55, 172, 173, 174, 175, 176, 177, 178, 179, 61, 180, 181, 182, 183, 184, 185, 186, 187, 188, 189, 190, 191, 192, 193, 194, 195, 196, 197, 198, 199, 200, 201, 202, 203, 204, 205, 206, 207, 208, 209, 210, 211, 212, 213, 214, 215, 216, 217, 218, 219, 220, 221, 222, 223, 64, 585, 586, 587, 588, 589, 590, 591, 592, 593, 594, 595, 596, 536, 537, 538, 539, 540, 541, 542, 572, 573, 574, 575, 576, 577, 578, 579, 580, 581, 582, 583, 584] (by decide +kernel) (by decide +kernel)
set_option maxRecDepth 20000 in
theorem gL_law_X3_insert : GoodIn wsL_law (wsV RL 13 RX3 yX3_insert wsX3_insert) := goodIn_app (goodIn_of _ (by decide +kernel)) ggL_law_X3_insert
set_option maxRecDepth 20000 in
theorem ggL_law_X4_insert : GoodIn wsL_law wsX4_insert := goodIn_r _ [227, 228, 78, 91, 79, 80, 84, 81, 82, 90, 83, 229, 230, 231, 5, 232, 233, 234, 235, 236, 237, 238, 239, 240, 93, 241, 242, 243, 244, 245, 246, 247, 248, 85, 87, 88, 89, 249, 250, 251, 252, 253, 254, 255, 256, 257, 258, 94, 259, 260, 261, 262, 263, 264, 265, 266, 92, 267, 268, 269, 270, 271, 272, 273, 274, 275, 276, 277, 278, 97, 279, 280, 281, 282, 283, 284, 285, 286, 287, 288, 289, 290, 291, 292, 293, 294, 98, 99, 295, 296, 297, 298, 299, 300, 301, 302, 95, 543, 544, 545, 546, 547, 548, 549, 550, 551, 552, 553, 554, 555, 556, 557, 558, 559, 560, 561, 562, 563, 564, 565, 566, 567, 568, 569, 570, 571] (by decide +kernel) (by decide +kernel)
set_option maxRecDepth 20000 in
theorem gL_law_X4_insert : GoodIn wsL_law (wsV RL 17 RX4 yX4_insert wsX4_insert) := goodIn_app (goodIn_of _ (by decide +kernel)) ggL_law_X4_insert
set_option maxRecDepth 20000 in
theorem ggL_law_X3_erase : GoodIn wsL_law wsX3_erase := goodIn_r _ [306, 107, 108, 109, 110, 111, 2, 112, 15, 307, 118, 119, 20, 120, 60, 121, 122, 123, 124, 51, 125, 126, 127, 128, 52, 54, 308, 309, 310, 18, 311, 45, 143, 144, 145, 146, 44, 39, 40, 41, 147, 148, 149, 150, 50, 151, 152, 153, 154, 155, 156, 157, 158, 65, 66, 159, 160, 161, 162, 62, 133, 163, 164, 165, 166, 167, 168, 169, 170, 171, 55, 172, 173, 174, 175, 176, 177, 178, 179, 61, 180, 181, 182, 183, 184, 185, 186, 187, 37, 188, 189, 190, 191, 43, 135, 136, 137, 138, 192, 193, 194, 195, 38, 196, 197, 198, 199, 35, 200, 201, 202, 203, 204, 205, 206, 207, 208, 209, 210, 211, 34, 212, 213, 214, 215, 216, 217, 218, 219, 220, 221, 222, 223, 64, 585, 586, 587, 588, 589, 590, 591, 592, 593, 594, 595, 596, 536, 537, 538, 539, 540, 541, 542, 572, 573, 574, 575, 576, 577, 578, 579, 580, 581, 582, 583, 584] (by decide +kernel) (by decide +kernel)
end
section
set_option maxRecDepth 20000 in
theorem gL_law_X3_erase : GoodIn wsL_law (wsV RL 18 RX3 yX3_erase wsX3_erase) := goodIn_app (goodIn_of _ (by decide +kernel)) ggL_law_X3_erase
set_option maxRecDepth 20000 in
theorem ggL_law_X4_erase : GoodIn wsL_law wsX4_erase := goodIn_r _ [315, 228, 86, 90, 229, 230, 231, 5, 232, 233, 234, 235, 236, 237, 238, 239, 240, 91, 93, 241, 242, 243, 244, 245, 246, 247, 248, 85, 87, 88, 89, 249, 250, 251, 252, 253, 254, 255, 256, 257, 258, 94, 259, 260, 261, 262, 82, 83, 263, 264, 265, 266, 92, 267, 268, 269, 270, 271, 272, 273, 274, 275, 276, 277, 278, 97, 279, 280, 281, 282, 283, 284, 285, 286, 79, 80, 287, 288, 289, 290, 291, 292, 293, 294, 98, 99, 295, 296, 297, 298, 543, 544, 545, 546, 547, 548, 549, 550, 551, 552, 553, 554, 555, 556, 557, 558, 559, 560, 561, 562, 563, 564, 565, 566, 567, 568, 569, 570, 571] (by decide +kernel) (by decide +kernel)
set_option maxRecDepth 20000 in
theorem gL_law_X4_erase : GoodIn wsL_law (wsV RL 22 RX4 yX4_erase wsX4_erase) := goodIn_app (goodIn_of _ (by decide +kernel)) ggL_law_X4_erase
set_option maxRecDepth 20000 in
theorem ggL_law_X3_tell : GoodIn wsL_law wsX3_tell := goodIn_r _ [319, 108, 109, 110, 111, 2, 112, 15, 320, 152, 153, 18, 154, 44, 321, 156, 157, 20, 158, 65, 66, 322, 323, 324, 325, 50, 63, 151, 326, 327, 328, 329, 55, 330, 331, 332, 333, 163, 164, 165, 166, 41, 167, 172, 173, 174, 175, 39, 135, 136, 137, 138, 52, 60, 184, 185, 186, 187, 37, 188, 189, 190, 191, 43, 192, 193, 194, 195, 38, 168, 169, 170, 171, 159, 160, 161, 162, 62, 133, 176, 177, 178, 179, 54, 61, 125, 126, 127, 128, 180, 181, 182, 183, 196, 197, 198, 199, 35, 121, 122, 123, 124, 51, 200, 201, 202, 203, 204, 205, 206, 207, 208, 209, 210, 211, 34, 212, 213, 214, 215, 216, 217, 218, 219, 334, 335, 336, 337, 338, 339, 221, 222, 223, 64, 585, 586, 587, 588, 589, 590, 591, 592, 593, 594, 595, 596, 536, 537, 538, 539, 540, 541, 542, 572, 573, 574, 575, 576, 577, 578, 579, 580, 581, 582, 583, 584] (by decide +kernel) (by decide +kernel)
set_option maxRecDepth 20000 in
theorem gL_law_X3_tell : GoodIn wsL_law (wsV RL 23 RX3 yX3_tell wsX3_tell) := goodIn_app (goodIn_of _ (by decide +kernel)) ggL_law_X3_tell
set_option maxRecDepth 20000 in
theorem ggL_law_X4_tell : GoodIn wsL_law wsX4_tell := goodIn_r _ [343, 228, 229, 230, 231, 5, 232, 233, 234, 235, 236, 344, 345, 346, 347, 85, 249, 250, 251, 252, 253, 254, 255, 256, 257, 258, 94, 259, 260, 261, 262, 88, 87, 82, 83, 263, 264, 265, 266, 92, 267, 268, 269, 270, 93, 271, 272, 273, 274, 275, 276, 277, 278, 97, 90, 279, 280, 281, 282, 91, 283, 284, 285, 286, 79, 80, 287, 288, 289, 290, 291, 292, 293, 294, 98, 99, 295, 296, 297, 298, 299, 300, 301, 302, 95, 543, 544, 545, 546, 547, 548, 549, 550, 551, 552, 553, 554, 555, 556, 557, 558, 559, 560, 561, 562, 563, 564, 565, 566, 567, 568, 569, 570, 571] (by decide +kernel) (by decide +kernel)
set_option maxRecDepth 20000 in
theorem gL_law_X4_tell : GoodIn wsL_law (wsV RL 26 RX4 yX4_tell wsX4_tell) := goodIn_app (goodIn_of _ (by decide +kernel)) ggL_law_X4_tell
set_option maxRecDepth 20000 in
theorem ggL_law_X3_share : GoodIn wsL_law wsX3_share := goodIn_r _ [351, 108, 352, 109, 110, 111, 2, 112, 15, 321, 156, 157, 20, 158, 65, 66, 353, 327, 328, 329, 55, 322, 323, 324, 325, 50, 63, 151, 152, 153, 18, 154, 44, 326, 330, 331, 332, 333, 163, 164, 165, 166, 41, 167, 172, 173, 174, 175, 39, 135, 136, 137, 138, 52, 60, 184, 185, 186, 187, 37, 188, 189, 190, 191, 43, 192, 193, 194, 195, 38, 168, 169, 170, 171, 159, 160, 161, 162, 62, 133, 176, 177, 178, 179, 54, 61, 125, 126, 127, 128, 180, 181, 182, 183, 196, 197, 198, 199, 35, 121, 122, 123, 124, 51, 200, 201, 202, 203, 204, 205, 206, 207, 208, 209, 210, 211, 34, 212, 213, 214, 215, 216, 217, 218, 219, 334, 335, 336, 337, 338, 339, 221, 222, 223, 64, 585, 586, 587, 588, 589, 590, 591, 592, 593, 594, 595, 596, 572, 573, 574, 575, 576, 577, 578, 579, 580, 581, 582, 583, 584, 536, 537, 538, 539, 540, 541, 542] (by decide +kernel) (by decide +kernel)
set_option maxRecDepth 20000 in
theorem gL_law_X3_share : GoodIn wsL_law (wsV RL 27 RX3 yX3_share wsX3_share) := goodIn_app (goodIn_of _ (by decide +kernel)) ggL_law_X3_share
set_option maxRecDepth 20000 in
theorem ggL_law_X4_share : GoodIn wsL_law wsX4_share := goodIn_r _ [357, 228, 85, 94, 229, 230, 231, 5, 232, 233, 234, 235, 236, 249, 250, 251, 252, 253, 254, 255, 256, 257, 258, 259, 260, 261, 262, 88, 87, 82, 83, 263, 264, 265, 266, 92, 267, 268, 269, 270, 93, 271, 272, 273, 274, 275, 276, 277, 278, 97, 90, 279, 280, 281, 282, 91, 283, 284, 285, 286, 79, 80, 287, 288, 289, 290, 291, 292, 293, 294, 98, 99, 295, 296, 297, 298, 299, 300, 301, 302, 95, 543, 544, 545, 546, 547, 548, 549, 550, 551, 552, 553, 554, 555, 556, 557, 558, 559, 560, 561, 562, 563, 564, 565, 566, 567, 568, 569, 570, 571] (by decide +kernel) (by decide +kernel)
set_option maxRecDepth 20000 in
theorem gL_law_X4_share : GoodIn wsL_law (wsV RL 31 RX4 yX4_share wsX4_share) := goodIn_app (goodIn_of _ (by decide +kernel)) ggL_law_X4_share
set_option maxRecDepth 20000 in
theorem ggL_law_X3_look : GoodIn wsL_law wsX3_look := goodIn_r _ [361, 108, 352, 362, 363, 107, 364, 365, 366, 109, 110, 111, 2, 112, 15, 585, 586, 587, 588, 589, 590, 591, 592, 593, 594, 595, 596, 572, 573, 574, 575, 576, 577, 578, 579, 580, 581, 582, 583, 584, 536, 537, 538, 539, 540, 541, 542] (by decide +kernel) (by decide +kernel)
set_option maxRecDepth 20000 in
theorem gL_law_X3_look : GoodIn wsL_law (wsV RL 32 RX3 yX3_look wsX3_look) := goodIn_app (goodIn_of _ (by decide +kernel)) ggL_law_X3_look
set_option maxRecDepth 20000 in
theorem ggL_law_X4_look : GoodIn wsL_law wsX4_look := goodIn_r _ [370, 228, 85, 78, 91, 95, 229, 230, 231, 5, 232, 233, 234, 235, 236, 237, 238, 239, 240, 93, 90, 371, 372, 373, 374, 94, 543, 544, 545, 546, 547, 548, 549, 550, 551, 552, 553, 554, 555, 556, 557, 558, 559, 560, 561, 562, 563, 564, 565, 566, 567, 568, 569, 570, 571] (by decide +kernel) (by decide +kernel)
set_option maxRecDepth 20000 in
theorem gL_law_X4_look : GoodIn wsL_law (wsV RL 35 RX4 yX4_look wsX4_look) := goodIn_app (goodIn_of _ (by decide +kernel)) ggL_law_X4_look
set_option maxRecDepth 20000 in
theorem ggL_law_X3_message : GoodIn wsL_law wsX3_message := goodIn_r _ [378, 379, 380, 381, 2, 382, 13, 320, 152, 153, 18, 154, 44, 383, 164, 165, 166, 41, 167, 384, 173, 174, 175, 39, 385, 386, 387, 388, 40, 389, 197, 198, 199, 35, 188, 189, 190, 191, 43, 390, 185, 186, 187, 37, 391, 193, 194, 195, 38, 392, 393, 394, 395, 36, 536, 537, 538, 539, 540, 541, 542, 572, 573, 574, 575, 576, 577, 578, 579, 580, 581, 582, 583, 584] (by decide +kernel) (by decide +kernel)
set_option maxRecDepth 20000 in
theorem gL_law_X3_message : GoodIn wsL_law (wsV RL 36 RX3 yX3_message wsX3_message) := goodIn_app (goodIn_of _ (by decide +kernel)) ggL_law_X3_message
set_option maxRecDepth 20000 in
theorem ggL_law_X4_message_ : GoodIn wsL_law wsX4_message_ := goodIn_r _ [399, 228, 88, 87, 89, 82, 83, 81, 229, 230, 231, 5, 232, 344, 345, 346, 347, 85, 283, 284, 285, 286, 79, 80, 543, 544, 545, 546, 547, 548, 549, 550, 551, 552, 553, 554, 555, 556, 557, 558, 559, 560, 561, 562, 563, 564, 565, 566, 567, 568, 569, 570, 571] (by decide +kernel) (by decide +kernel)
set_option maxRecDepth 20000 in
theorem gL_law_X4_message_ : GoodIn wsL_law (wsV RL 39 RX4 yX4_message_ wsX4_message_) := goodIn_app (goodIn_of _ (by decide +kernel)) ggL_law_X4_message_
set_option maxRecDepth 20000 in
theorem ggL_law_X3_state : GoodIn wsL_law wsX3_state := goodIn_r _ [403, 108, 109, 110, 111, 2, 112, 15, 320, 152, 153, 18, 154, 44, 353, 327, 328, 20, 329, 55, 585, 586, 587, 588, 589, 590, 591, 592, 593, 594, 595, 596, 536, 537, 538, 539, 540, 541, 542, 572, 573, 574, 575, 576, 577, 578, 579, 580, 581, 582, 583, 584] (by decide +kernel) (by decide +kernel)
set_option maxRecDepth 20000 in
theorem gL_law_X3_state : GoodIn wsL_law (wsV RL 40 RX3 yX3_state wsX3_state) := goodIn_app (goodIn_of _ (by decide +kernel)) ggL_law_X3_state
set_option maxRecDepth 20000 in
theorem ggL_law_X4_state : GoodIn wsL_law wsX4_state := goodIn_r _ [407, 228, 94, 229, 230, 231, 5, 232, 233, 234, 235, 236, 344, 345, 346, 347, 85, 543, 544, 545, 546, 547, 548, 549, 550, 551, 552, 553, 554, 555, 556, 557, 558, 559, 560, 561, 562, 563, 564, 565, 566, 567, 568, 569, 570, 571] (by decide +kernel) (by decide +kernel)
set_option maxRecDepth 20000 in
theorem gL_law_X4_state : GoodIn wsL_law (wsV RL 43 RX4 yX4_state wsX4_state) := goodIn_app (goodIn_of _ (by decide +kernel)) ggL_law_X4_state
set_option maxRecDepth 20000 in
theorem ggL_law_X3_character : GoodIn wsL_law wsX3_character := goodIn_r _ [411, 363, 108, 109, 110, 111, 2, 112, 15, 412, 122, 123, 20, 124, 60, 51, 389, 197, 198, 18, 199, 35, 188, 189, 190, 191, 43, 392, 393, 394, 395, 36, 413, 126, 127, 128, 52, 54, 390, 185, 186, 187, 37, 414, 136, 137, 138, 391, 193, 194, 195, 38, 585, 586, 587, 588, 589, 590, 591, 592, 593, 594, 595, 596, 536, 537, 538, 539, 540, 541, 542, 572, 573, 574, 575, 576, 577, 578, 579, 580, 581, 582, 583, 584] (by decide +kernel) (by decide +kernel)
set_option maxRecDepth 20000 in
theorem gL_law_X3_character : GoodIn wsL_law (wsV RL 44 RX3 yX3_character wsX3_character) := goodIn_app (goodIn_of _ (by decide +kernel)) ggL_law_X3_character
set_option maxRecDepth 20000 in
theorem ggL_law_X4_character : GoodIn wsL_law wsX4_character := goodIn_r _ [418, 228, 91, 90, 81, 93, 82, 83, 229, 230, 231, 5, 232, 233, 234, 235, 236, 283, 284, 285, 286, 79, 80, 279, 280, 281, 282, 543, 544, 545, 546, 547, 548, 549, 550, 551, 552, 553, 554, 555, 556, 557, 558, 559, 560, 561, 562, 563, 564, 565, 566, 567, 568, 569, 570, 571] (by decide +kernel) (by decide +kernel)
set_option maxRecDepth 20000 in
theorem gL_law_X4_character : GoodIn wsL_law (wsV RL 47 RX4 yX4_character wsX4_character) := goodIn_app (goodIn_of _ (by decide +kernel)) ggL_law_X4_character
set_option maxRecDepth 20000 in
theorem ggL_law_X3_write : GoodIn wsL_law wsX3_write := goodIn_r _ [422, 363, 27, 108, 28, 109, 110, 111, 2, 112, 15, 412, 122, 123, 20, 124, 60, 51, 413, 126, 127, 128, 52, 54, 392, 393, 394, 18, 395, 36, 188, 189, 190, 191, 43, 585, 586, 587, 588, 589, 590, 591, 592, 593, 594, 595, 596, 536, 537, 538, 539, 540, 541, 542, 572, 573, 574, 575, 576, 577, 578, 579, 580, 581, 582, 583, 584] (by decide +kernel) (by decide +kernel)
set_option maxRecDepth 20000 in
theorem gL_law_X3_write : GoodIn wsL_law (wsV RL 48 RX3 yX3_write wsX3_write) := goodIn_app (goodIn_of _ (by decide +kernel)) ggL_law_X3_write
set_option maxRecDepth 20000 in
theorem ggL_law_X4_write : GoodIn wsL_law wsX4_write := goodIn_r _ [426, 228, 427, 91, 90, 93, 96, 81, 229, 230, 231, 5, 232, 233, 234, 235, 236, 543, 544, 545, 546, 547, 548, 549, 550, 551, 552, 553, 554, 555, 556, 557, 558, 559, 560, 561, 562, 563, 564, 565, 566, 567, 568, 569, 570, 571] (by decide +kernel) (by decide +kernel)
set_option maxRecDepth 20000 in
theorem gL_law_X4_write : GoodIn wsL_law (wsV RL 52 RX4 yX4_write wsX4_write) := goodIn_app (goodIn_of _ (by decide +kernel)) ggL_law_X4_write
set_option maxRecDepth 20000 in
theorem ggL_law_X3_out : GoodIn wsL_law wsX3_out := goodIn_r _ [431, 28, 27, 536, 537, 538, 539, 540, 541, 542] (by decide +kernel) (by decide +kernel)
set_option maxRecDepth 20000 in
theorem gL_law_X3_out : GoodIn wsL_law (wsV RL 53 RX3 yX3_out wsX3_out) := goodIn_app (goodIn_of _ (by decide +kernel)) ggL_law_X3_out
set_option maxRecDepth 20000 in
theorem ggL_law_X4_out : GoodIn wsL_law wsX4_out := goodIn_r _ [435, 228, 427, 96, 543, 544, 545, 546, 547, 548, 549, 550, 551, 552, 553, 554, 555, 556, 557, 558, 559, 560, 561, 562, 563, 564, 565, 566, 567, 568, 569, 570, 571] (by decide +kernel) (by decide +kernel)
set_option maxRecDepth 20000 in
theorem gL_law_X4_out : GoodIn wsL_law (wsV RL 57 RX4 yX4_out wsX4_out) := goodIn_app (goodIn_of _ (by decide +kernel)) ggL_law_X4_out
set_option maxRecDepth 20000 in
theorem ggL_law_X3_same : GoodIn wsL_law wsX3_same := goodIn_r _ [439, 109, 110, 111, 2, 112, 15, 440, 441, 442, 20, 443, 60, 121, 122, 123, 124, 51, 125, 126, 127, 128, 52, 54, 536, 537, 538, 539, 540, 541, 542, 585, 586, 587, 588, 589, 590, 591, 592, 593, 594, 595, 596] (by decide +kernel) (by decide +kernel)
set_option maxRecDepth 20000 in
theorem gL_law_X3_same : GoodIn wsL_law (wsV RL 58 RX3 yX3_same wsX3_same) := goodIn_app (goodIn_of _ (by decide +kernel)) ggL_law_X3_same
set_option maxRecDepth 20000 in
theorem ggL_law_X4_same : GoodIn wsL_law wsX4_same := goodIn_r _ [447, 228, 229, 230, 231, 5, 232, 233, 234, 235, 236, 448, 449, 450, 451, 91, 90, 93, 543, 544, 545, 546, 547, 548, 549, 550, 551, 552, 553, 554, 555, 556, 557, 558, 559, 560, 561, 562, 563, 564, 565, 566, 567, 568, 569, 570, 571] (by decide +kernel) (by decide +kernel)
set_option maxRecDepth 20000 in
theorem gL_law_X4_same : GoodIn wsL_law (wsV RL 62 RX4 yX4_same wsX4_same) := goodIn_app (goodIn_of _ (by decide +kernel)) ggL_law_X4_same
set_option maxRecDepth 20000 in
theorem ggL_law_X3_shuffle : GoodIn wsL_law wsX3_shuffle := goodIn_r _ [455, 456, 365, 109, 110, 111, 2, 112, 15, 457, 458, 459, 460, 16, 461, 57, 58, 20, 59, 52, 54, 55, 60, 61, 62, 63, 64, 65, 66, 462, 463, 464, 465, 108, 352, 26, 353, 327, 328, 329, 466, 467, 468, 469, 322, 323, 324, 325, 50, 151, 152, 153, 18, 154, 44, 326, 330, 331, 332, 333, 163, 164, 165, 166, 41, 167, 172, 173, 174, 175, 39, 135, 136, 137, 138, 184, 185, 186, 187, 37, 188, 189, 190, 191, 43, 192, 193, 194, 195, 38, 168, 169, 170, 171, 159, 160, 161, 162, 133, 176, 177, 178, 179, 125, 126, 127, 128, 180, 181, 182, 183, 196, 197, 198, 199, 35, 121, 122, 123, 124, 51, 200, 201, 202, 203, 204, 205, 206, 207, 208, 209, 210, 211, 34, 212, 213, 214, 215, 216, 217, 218, 219, 334, 335, 336, 337, 338, 440, 441, 442, 443, 585, 586, 587, 588, 589, 590, 591, 592, 593, 594, 595, 596, 536, 537, 538, 539, 540, 541, 542, 572, 573, 574, 575, 576, 577, 578, 579, 580, 581, 582, 583, 584] (by decide +kernel) (by decide +kernel)
set_option maxRecDepth 20000 in
theorem gL_law_X3_shuffle : GoodIn wsL_law (wsV RL 63 RX3 yX3_shuffle wsX3_shuffle) := goodIn_app (goodIn_of _ (by decide +kernel)) ggL_law_X3_shuffle
set_option maxRecDepth 20000 in
theorem ggL_law_X4_shuffle : GoodIn wsL_law wsX4_shuffle := goodIn_r _ [473, 228, 91, 92, 93, 94, 85, 100, 474, 229, 230, 231, 5, 232, 233, 234, 235, 236, 255, 256, 257, 258, 259, 260, 261, 262, 88, 87, 82, 83, 263, 264, 265, 266, 267, 268, 269, 270, 271, 272, 273, 274, 254, 275, 276, 277, 278, 97, 253, 90, 279, 280, 281, 282, 283, 284, 285, 286, 79, 80, 287, 288, 289, 290, 291, 292, 293, 294, 98, 99, 295, 296, 297, 298, 371, 372, 373, 374, 448, 449, 450, 451, 543, 544, 545, 546, 547, 548, 549, 550, 551, 552, 553, 554, 555, 556, 557, 558, 559, 560, 561, 562, 563, 564, 565, 566, 567, 568, 569, 570, 571] (by decide +kernel) (by decide +kernel)
set_option maxRecDepth 20000 in
theorem gL_law_X4_shuffle : GoodIn wsL_law (wsV RL 66 RX4 yX4_shuffle wsX4_shuffle) := goodIn_app (goodIn_of _ (by decide +kernel)) ggL_law_X4_shuffle
set_option maxRecDepth 20000 in
theorem ggL_law_X3_orders : GoodIn wsL_law wsX3_orders := goodIn_r _ [478, 363, 479, 24, 109, 110, 111, 2, 112, 15, 480, 481, 482, 23, 483, 484, 485, 486, 487, 488, 489, 490, 491, 492, 72, 493, 494, 495, 496, 73, 497, 498, 122, 123, 20, 124, 60, 51, 499, 185, 186, 18, 187, 37, 188, 189, 190, 191, 43, 500, 136, 137, 138, 52, 501, 502, 503, 504, 505, 193, 194, 195, 38, 506, 507, 508, 509, 510, 511, 512, 513, 585, 586, 587, 588, 589, 590, 591, 592, 593, 594, 595, 596, 536, 537, 538, 539, 540, 541, 542, 597, 598, 572, 573, 574, 575, 576, 577, 578, 579, 580, 581, 582, 583, 584] (by decide +kernel) (by decide +kernel)
set_option maxRecDepth 20000 in
theorem gL_law_X3_orders : GoodIn wsL_law (wsV RL 67 RX3 yX3_orders wsX3_orders) := goodIn_app (goodIn_of _ (by decide +kernel)) ggL_law_X3_orders
set_option maxRecDepth 20000 in
theorem ggL_law_X4_orders : GoodIn wsL_law wsX4_orders := goodIn_r _ [517, 228, 91, 518, 102, 229, 230, 231, 5, 232, 233, 234, 235, 236, 519, 520, 521, 522, 101, 90, 82, 83, 279, 280, 281, 282, 543, 544, 545, 546, 547, 548, 549, 550, 551, 552, 553, 554, 555, 556, 557, 558, 559, 560, 561, 562, 563, 564, 565, 566, 567, 568, 569, 570, 571] (by decide +kernel) (by decide +kernel)
set_option maxRecDepth 20000 in
theorem gL_law_X4_orders : GoodIn wsL_law (wsV RL 71 RX4 yX4_orders wsX4_orders) := goodIn_app (goodIn_of _ (by decide +kernel)) ggL_law_X4_orders
set_option maxRecDepth 20000 in
theorem ggL_law_X3_number : GoodIn wsL_law wsX3_number := goodIn_r _ [526, 363, 479, 24, 109, 110, 111, 2, 112, 15, 527, 528, 529, 23, 530, 488, 489, 490, 491, 492, 497, 484, 485, 486, 487, 72, 493, 494, 495, 496, 73, 498, 122, 123, 20, 124, 60, 51, 499, 185, 186, 18, 187, 37, 188, 189, 190, 191, 43, 500, 136, 137, 138, 52, 501, 502, 503, 504, 505, 193, 194, 195, 38, 506, 507, 508, 509, 510, 511, 512, 513, 531, 197, 198, 199, 35, 585, 586, 587, 588, 589, 590, 591, 592, 593, 594, 595, 596, 536, 537, 538, 539, 540, 541, 542, 597, 598, 572, 573, 574, 575, 576, 577, 578, 579, 580, 581, 582, 583, 584] (by decide +kernel) (by decide +kernel)
set_option maxRecDepth 20000 in
theorem gL_law_X3_number : GoodIn wsL_law (wsV RL 72 RX3 yX3_number wsX3_number) := goodIn_app (goodIn_of _ (by decide +kernel)) ggL_law_X3_number
set_option maxRecDepth 20000 in
theorem ggL_law_X4_number : GoodIn wsL_law wsX4_number := goodIn_r _ [535, 228, 91, 518, 90, 101, 102, 229, 230, 231, 5, 232, 233, 234, 235, 236, 519, 520, 521, 522, 82, 83, 279, 280, 281, 282, 283, 284, 285, 286, 79, 80, 543, 544, 545, 546, 547, 548, 549, 550, 551, 552, 553, 554, 555, 556, 557, 558, 559, 560, 561, 562, 563, 564, 565, 566, 567, 568, 569, 570, 571] (by decide +kernel) (by decide +kernel)
set_option maxRecDepth 20000 in
theorem gL_law_X4_number : GoodIn wsL_law (wsV RL 75 RX4 yX4_number wsX4_number) := goodIn_app (goodIn_of _ (by decide +kernel)) ggL_law_X4_number
theorem dL_law_0 : decode cL_law 0 = .ok (.new 7, 3) := by decide +kernel
theorem dL_law_3 : decode cL_law 3 = .ok (.dup, 1) := by decide +kernel
theorem dL_law_4 : decode cL_law 4 = .ok (.invokespecial 9, 3) := by decide +kernel
theorem dL_law_7 : decode cL_law 7 = .ok (.astore_n 1, 1) := by decide +kernel
theorem dL_law_8 : decode cL_law 8 = .ok (.new 10, 3) := by decide +kernel
theorem dL_law_11 : decode cL_law 11 = .ok (.dup, 1) := by decide +kernel
theorem dL_law_12 : decode cL_law 12 = .ok (.invokespecial 12, 3) := by decide +kernel
theorem dL_law_15 : decode cL_law 15 = .ok (.astore_n 2, 1) := by decide +kernel
theorem dL_law_16 : decode cL_law 16 = .ok (.iconst 0, 1) := by decide +kernel
theorem dL_law_17 : decode cL_law 17 = .ok (.istore_n 3, 1) := by decide +kernel
theorem dL_law_18 : decode cL_law 18 = .ok (.iload_n 3, 1) := by decide +kernel
theorem dL_law_19 : decode cL_law 19 = .ok (.aload_n 0, 1) := by decide +kernel
theorem dL_law_20 : decode cL_law 20 = .ok (.arraylength, 1) := by decide +kernel
theorem dL_law_21 : decode cL_law 21 = .ok (.iconst 5, 1) := by decide +kernel
theorem dL_law_22 : decode cL_law 22 = .ok (.isub, 1) := by decide +kernel
theorem dL_law_23 : decode cL_law 23 = .ok (.if_icmp .gt 687, 3) := by decide +kernel
theorem dL_law_26 : decode cL_law 26 = .ok (.aload_n 0, 1) := by decide +kernel
theorem dL_law_27 : decode cL_law 27 = .ok (.iload_n 3, 1) := by decide +kernel
theorem dL_law_28 : decode cL_law 28 = .ok (.iaload, 1) := by decide +kernel
theorem dL_law_29 : decode cL_law 29 = .ok (.bipush 15, 2) := by decide +kernel
theorem dL_law_31 : decode cL_law 31 = .ok (.iand, 1) := by decide +kernel
theorem dL_law_32 : decode cL_law 32 = .ok (.tableswitch 672 0 13 #[72, 125, 168, 211, 280, 323, 366, 409, 462, 495, 518, 561, 604, 638], 72) := by decide +kernel
theorem dL_law_104 : decode cL_law 104 = .ok (.aload_n 1, 1) := by decide +kernel
theorem dL_law_105 : decode cL_law 105 = .ok (.aload_n 0, 1) := by decide +kernel
theorem dL_law_106 : decode cL_law 106 = .ok (.iload_n 3, 1) := by decide +kernel
theorem dL_law_107 : decode cL_law 107 = .ok (.iconst 1, 1) := by decide +kernel
theorem dL_law_108 : decode cL_law 108 = .ok (.iadd, 1) := by decide +kernel
theorem dL_law_109 : decode cL_law 109 = .ok (.iaload, 1) := by decide +kernel
theorem dL_law_110 : decode cL_law 110 = .ok (.aload_n 0, 1) := by decide +kernel
theorem dL_law_111 : decode cL_law 111 = .ok (.iload_n 3, 1) := by decide +kernel
theorem dL_law_112 : decode cL_law 112 = .ok (.iconst 2, 1) := by decide +kernel
theorem dL_law_113 : decode cL_law 113 = .ok (.iadd, 1) := by decide +kernel
theorem dL_law_114 : decode cL_law 114 = .ok (.iaload, 1) := by decide +kernel
theorem dL_law_115 : decode cL_law 115 = .ok (.aload_n 0, 1) := by decide +kernel
theorem dL_law_116 : decode cL_law 116 = .ok (.iload_n 3, 1) := by decide +kernel
theorem dL_law_117 : decode cL_law 117 = .ok (.iconst 3, 1) := by decide +kernel
theorem dL_law_118 : decode cL_law 118 = .ok (.iadd, 1) := by decide +kernel
theorem dL_law_119 : decode cL_law 119 = .ok (.iaload, 1) := by decide +kernel
theorem dL_law_120 : decode cL_law 120 = .ok (.aload_n 0, 1) := by decide +kernel
theorem dL_law_121 : decode cL_law 121 = .ok (.iload_n 3, 1) := by decide +kernel
theorem dL_law_122 : decode cL_law 122 = .ok (.iconst 4, 1) := by decide +kernel
theorem dL_law_123 : decode cL_law 123 = .ok (.iadd, 1) := by decide +kernel
theorem dL_law_124 : decode cL_law 124 = .ok (.iaload, 1) := by decide +kernel
theorem dL_law_125 : decode cL_law 125 = .ok (.invokevirtual 13, 3) := by decide +kernel
theorem dL_law_128 : decode cL_law 128 = .ok (.aload_n 2, 1) := by decide +kernel
theorem dL_law_129 : decode cL_law 129 = .ok (.aload_n 0, 1) := by decide +kernel
theorem dL_law_130 : decode cL_law 130 = .ok (.iload_n 3, 1) := by decide +kernel
theorem dL_law_131 : decode cL_law 131 = .ok (.iconst 1, 1) := by decide +kernel
theorem dL_law_132 : decode cL_law 132 = .ok (.iadd, 1) := by decide +kernel
theorem dL_law_133 : decode cL_law 133 = .ok (.iaload, 1) := by decide +kernel
theorem dL_law_134 : decode cL_law 134 = .ok (.aload_n 0, 1) := by decide +kernel
theorem dL_law_135 : decode cL_law 135 = .ok (.iload_n 3, 1) := by decide +kernel
theorem dL_law_136 : decode cL_law 136 = .ok (.iconst 2, 1) := by decide +kernel
theorem dL_law_137 : decode cL_law 137 = .ok (.iadd, 1) := by decide +kernel
theorem dL_law_138 : decode cL_law 138 = .ok (.iaload, 1) := by decide +kernel
theorem dL_law_139 : decode cL_law 139 = .ok (.aload_n 0, 1) := by decide +kernel
theorem dL_law_140 : decode cL_law 140 = .ok (.iload_n 3, 1) := by decide +kernel
theorem dL_law_141 : decode cL_law 141 = .ok (.iconst 3, 1) := by decide +kernel
theorem dL_law_142 : decode cL_law 142 = .ok (.iadd, 1) := by decide +kernel
theorem dL_law_143 : decode cL_law 143 = .ok (.iaload, 1) := by decide +kernel
theorem dL_law_144 : decode cL_law 144 = .ok (.aload_n 0, 1) := by decide +kernel
theorem dL_law_145 : decode cL_law 145 = .ok (.iload_n 3, 1) := by decide +kernel
theorem dL_law_146 : decode cL_law 146 = .ok (.iconst 4, 1) := by decide +kernel
theorem dL_law_147 : decode cL_law 147 = .ok (.iadd, 1) := by decide +kernel
theorem dL_law_148 : decode cL_law 148 = .ok (.iaload, 1) := by decide +kernel
theorem dL_law_149 : decode cL_law 149 = .ok (.invokevirtual 17, 3) := by decide +kernel
theorem dL_law_152 : decode cL_law 152 = .ok (.if_icmp .eq 552, 3) := by decide +kernel
theorem dL_law_155 : decode cL_law 155 = .ok (.iconst 0, 1) := by decide +kernel
theorem dL_law_156 : decode cL_law 156 = .ok (.ireturn, 1) := by decide +kernel
theorem dL_law_157 : decode cL_law 157 = .ok (.aload_n 1, 1) := by decide +kernel
theorem dL_law_158 : decode cL_law 158 = .ok (.aload_n 0, 1) := by decide +kernel
theorem dL_law_159 : decode cL_law 159 = .ok (.iload_n 3, 1) := by decide +kernel
theorem dL_law_160 : decode cL_law 160 = .ok (.iconst 1, 1) := by decide +kernel
theorem dL_law_161 : decode cL_law 161 = .ok (.iadd, 1) := by decide +kernel
theorem dL_law_162 : decode cL_law 162 = .ok (.iaload, 1) := by decide +kernel
theorem dL_law_163 : decode cL_law 163 = .ok (.aload_n 0, 1) := by decide +kernel
theorem dL_law_164 : decode cL_law 164 = .ok (.iload_n 3, 1) := by decide +kernel
theorem dL_law_165 : decode cL_law 165 = .ok (.iconst 2, 1) := by decide +kernel
theorem dL_law_166 : decode cL_law 166 = .ok (.iadd, 1) := by decide +kernel
theorem dL_law_167 : decode cL_law 167 = .ok (.iaload, 1) := by decide +kernel
theorem dL_law_168 : decode cL_law 168 = .ok (.aload_n 0, 1) := by decide +kernel
theorem dL_law_169 : decode cL_law 169 = .ok (.iload_n 3, 1) := by decide +kernel
theorem dL_law_170 : decode cL_law 170 = .ok (.iconst 3, 1) := by decide +kernel
theorem dL_law_171 : decode cL_law 171 = .ok (.iadd, 1) := by decide +kernel
theorem dL_law_172 : decode cL_law 172 = .ok (.iaload, 1) := by decide +kernel
theorem dL_law_173 : decode cL_law 173 = .ok (.invokevirtual 18, 3) := by decide +kernel
theorem dL_law_176 : decode cL_law 176 = .ok (.aload_n 2, 1) := by decide +kernel
theorem dL_law_177 : decode cL_law 177 = .ok (.aload_n 0, 1) := by decide +kernel
theorem dL_law_178 : decode cL_law 178 = .ok (.iload_n 3, 1) := by decide +kernel
theorem dL_law_179 : decode cL_law 179 = .ok (.iconst 1, 1) := by decide +kernel
theorem dL_law_180 : decode cL_law 180 = .ok (.iadd, 1) := by decide +kernel
theorem dL_law_181 : decode cL_law 181 = .ok (.iaload, 1) := by decide +kernel
theorem dL_law_182 : decode cL_law 182 = .ok (.aload_n 0, 1) := by decide +kernel
theorem dL_law_183 : decode cL_law 183 = .ok (.iload_n 3, 1) := by decide +kernel
theorem dL_law_184 : decode cL_law 184 = .ok (.iconst 2, 1) := by decide +kernel
theorem dL_law_185 : decode cL_law 185 = .ok (.iadd, 1) := by decide +kernel
theorem dL_law_186 : decode cL_law 186 = .ok (.iaload, 1) := by decide +kernel
theorem dL_law_187 : decode cL_law 187 = .ok (.aload_n 0, 1) := by decide +kernel
theorem dL_law_188 : decode cL_law 188 = .ok (.iload_n 3, 1) := by decide +kernel
theorem dL_law_189 : decode cL_law 189 = .ok (.iconst 3, 1) := by decide +kernel
theorem dL_law_190 : decode cL_law 190 = .ok (.iadd, 1) := by decide +kernel
theorem dL_law_191 : decode cL_law 191 = .ok (.iaload, 1) := by decide +kernel
theorem dL_law_192 : decode cL_law 192 = .ok (.invokevirtual 22, 3) := by decide +kernel
theorem dL_law_195 : decode cL_law 195 = .ok (.if_icmp .eq 509, 3) := by decide +kernel
theorem dL_law_198 : decode cL_law 198 = .ok (.iconst 0, 1) := by decide +kernel
theorem dL_law_199 : decode cL_law 199 = .ok (.ireturn, 1) := by decide +kernel
theorem dL_law_200 : decode cL_law 200 = .ok (.aload_n 1, 1) := by decide +kernel
theorem dL_law_201 : decode cL_law 201 = .ok (.aload_n 0, 1) := by decide +kernel
theorem dL_law_202 : decode cL_law 202 = .ok (.iload_n 3, 1) := by decide +kernel
theorem dL_law_203 : decode cL_law 203 = .ok (.iconst 1, 1) := by decide +kernel
theorem dL_law_204 : decode cL_law 204 = .ok (.iadd, 1) := by decide +kernel
theorem dL_law_205 : decode cL_law 205 = .ok (.iaload, 1) := by decide +kernel
theorem dL_law_206 : decode cL_law 206 = .ok (.aload_n 0, 1) := by decide +kernel
theorem dL_law_207 : decode cL_law 207 = .ok (.iload_n 3, 1) := by decide +kernel
theorem dL_law_208 : decode cL_law 208 = .ok (.iconst 2, 1) := by decide +kernel
theorem dL_law_209 : decode cL_law 209 = .ok (.iadd, 1) := by decide +kernel
theorem dL_law_210 : decode cL_law 210 = .ok (.iaload, 1) := by decide +kernel
theorem dL_law_211 : decode cL_law 211 = .ok (.aload_n 0, 1) := by decide +kernel
theorem dL_law_212 : decode cL_law 212 = .ok (.iload_n 3, 1) := by decide +kernel
theorem dL_law_213 : decode cL_law 213 = .ok (.iconst 3, 1) := by decide +kernel
theorem dL_law_214 : decode cL_law 214 = .ok (.iadd, 1) := by decide +kernel
theorem dL_law_215 : decode cL_law 215 = .ok (.iaload, 1) := by decide +kernel
theorem dL_law_216 : decode cL_law 216 = .ok (.invokevirtual 23, 3) := by decide +kernel
theorem dL_law_219 : decode cL_law 219 = .ok (.aload_n 2, 1) := by decide +kernel
theorem dL_law_220 : decode cL_law 220 = .ok (.aload_n 0, 1) := by decide +kernel
theorem dL_law_221 : decode cL_law 221 = .ok (.iload_n 3, 1) := by decide +kernel
theorem dL_law_222 : decode cL_law 222 = .ok (.iconst 1, 1) := by decide +kernel
theorem dL_law_223 : decode cL_law 223 = .ok (.iadd, 1) := by decide +kernel
theorem dL_law_224 : decode cL_law 224 = .ok (.iaload, 1) := by decide +kernel
theorem dL_law_225 : decode cL_law 225 = .ok (.aload_n 0, 1) := by decide +kernel
theorem dL_law_226 : decode cL_law 226 = .ok (.iload_n 3, 1) := by decide +kernel
theorem dL_law_227 : decode cL_law 227 = .ok (.iconst 2, 1) := by decide +kernel
theorem dL_law_228 : decode cL_law 228 = .ok (.iadd, 1) := by decide +kernel
theorem dL_law_229 : decode cL_law 229 = .ok (.iaload, 1) := by decide +kernel
theorem dL_law_230 : decode cL_law 230 = .ok (.aload_n 0, 1) := by decide +kernel
theorem dL_law_231 : decode cL_law 231 = .ok (.iload_n 3, 1) := by decide +kernel
theorem dL_law_232 : decode cL_law 232 = .ok (.iconst 3, 1) := by decide +kernel
theorem dL_law_233 : decode cL_law 233 = .ok (.iadd, 1) := by decide +kernel
theorem dL_law_234 : decode cL_law 234 = .ok (.iaload, 1) := by decide +kernel
theorem dL_law_235 : decode cL_law 235 = .ok (.invokevirtual 26, 3) := by decide +kernel
theorem dL_law_238 : decode cL_law 238 = .ok (.if_icmp .eq 466, 3) := by decide +kernel
theorem dL_law_241 : decode cL_law 241 = .ok (.iconst 0, 1) := by decide +kernel
theorem dL_law_242 : decode cL_law 242 = .ok (.ireturn, 1) := by decide +kernel
theorem dL_law_243 : decode cL_law 243 = .ok (.aload_n 1, 1) := by decide +kernel
theorem dL_law_244 : decode cL_law 244 = .ok (.aload_n 0, 1) := by decide +kernel
theorem dL_law_245 : decode cL_law 245 = .ok (.iload_n 3, 1) := by decide +kernel
theorem dL_law_246 : decode cL_law 246 = .ok (.iconst 1, 1) := by decide +kernel
theorem dL_law_247 : decode cL_law 247 = .ok (.iadd, 1) := by decide +kernel
theorem dL_law_248 : decode cL_law 248 = .ok (.iaload, 1) := by decide +kernel
theorem dL_law_249 : decode cL_law 249 = .ok (.aload_n 0, 1) := by decide +kernel
theorem dL_law_250 : decode cL_law 250 = .ok (.iload_n 3, 1) := by decide +kernel
theorem dL_law_251 : decode cL_law 251 = .ok (.iconst 2, 1) := by decide +kernel
theorem dL_law_252 : decode cL_law 252 = .ok (.iadd, 1) := by decide +kernel
theorem dL_law_253 : decode cL_law 253 = .ok (.iaload, 1) := by decide +kernel
theorem dL_law_254 : decode cL_law 254 = .ok (.aload_n 0, 1) := by decide +kernel
theorem dL_law_255 : decode cL_law 255 = .ok (.iload_n 3, 1) := by decide +kernel
theorem dL_law_256 : decode cL_law 256 = .ok (.iconst 3, 1) := by decide +kernel
theorem dL_law_257 : decode cL_law 257 = .ok (.iadd, 1) := by decide +kernel
theorem dL_law_258 : decode cL_law 258 = .ok (.iaload, 1) := by decide +kernel
theorem dL_law_259 : decode cL_law 259 = .ok (.aload_n 0, 1) := by decide +kernel
theorem dL_law_260 : decode cL_law 260 = .ok (.iload_n 3, 1) := by decide +kernel
theorem dL_law_261 : decode cL_law 261 = .ok (.iconst 4, 1) := by decide +kernel
theorem dL_law_262 : decode cL_law 262 = .ok (.iadd, 1) := by decide +kernel
theorem dL_law_263 : decode cL_law 263 = .ok (.iaload, 1) := by decide +kernel
theorem dL_law_264 : decode cL_law 264 = .ok (.ifCond .eq 7, 3) := by decide +kernel
theorem dL_law_267 : decode cL_law 267 = .ok (.iconst 1, 1) := by decide +kernel
theorem dL_law_268 : decode cL_law 268 = .ok (.goto 4, 3) := by decide +kernel
theorem dL_law_271 : decode cL_law 271 = .ok (.iconst 0, 1) := by decide +kernel
theorem dL_law_272 : decode cL_law 272 = .ok (.invokevirtual 27, 3) := by decide +kernel
theorem dL_law_275 : decode cL_law 275 = .ok (.aload_n 2, 1) := by decide +kernel
theorem dL_law_276 : decode cL_law 276 = .ok (.aload_n 0, 1) := by decide +kernel
theorem dL_law_277 : decode cL_law 277 = .ok (.iload_n 3, 1) := by decide +kernel
theorem dL_law_278 : decode cL_law 278 = .ok (.iconst 1, 1) := by decide +kernel
theorem dL_law_279 : decode cL_law 279 = .ok (.iadd, 1) := by decide +kernel
theorem dL_law_280 : decode cL_law 280 = .ok (.iaload, 1) := by decide +kernel
theorem dL_law_281 : decode cL_law 281 = .ok (.aload_n 0, 1) := by decide +kernel
theorem dL_law_282 : decode cL_law 282 = .ok (.iload_n 3, 1) := by decide +kernel
theorem dL_law_283 : decode cL_law 283 = .ok (.iconst 2, 1) := by decide +kernel
theorem dL_law_284 : decode cL_law 284 = .ok (.iadd, 1) := by decide +kernel
theorem dL_law_285 : decode cL_law 285 = .ok (.iaload, 1) := by decide +kernel
theorem dL_law_286 : decode cL_law 286 = .ok (.aload_n 0, 1) := by decide +kernel
theorem dL_law_287 : decode cL_law 287 = .ok (.iload_n 3, 1) := by decide +kernel
theorem dL_law_288 : decode cL_law 288 = .ok (.iconst 3, 1) := by decide +kernel
theorem dL_law_289 : decode cL_law 289 = .ok (.iadd, 1) := by decide +kernel
theorem dL_law_290 : decode cL_law 290 = .ok (.iaload, 1) := by decide +kernel
theorem dL_law_291 : decode cL_law 291 = .ok (.aload_n 0, 1) := by decide +kernel
theorem dL_law_292 : decode cL_law 292 = .ok (.iload_n 3, 1) := by decide +kernel
theorem dL_law_293 : decode cL_law 293 = .ok (.iconst 4, 1) := by decide +kernel
theorem dL_law_294 : decode cL_law 294 = .ok (.iadd, 1) := by decide +kernel
theorem dL_law_295 : decode cL_law 295 = .ok (.iaload, 1) := by decide +kernel
theorem dL_law_296 : decode cL_law 296 = .ok (.ifCond .eq 7, 3) := by decide +kernel
theorem dL_law_299 : decode cL_law 299 = .ok (.iconst 1, 1) := by decide +kernel
theorem dL_law_300 : decode cL_law 300 = .ok (.goto 4, 3) := by decide +kernel
theorem dL_law_303 : decode cL_law 303 = .ok (.iconst 0, 1) := by decide +kernel
theorem dL_law_304 : decode cL_law 304 = .ok (.invokevirtual 31, 3) := by decide +kernel
theorem dL_law_307 : decode cL_law 307 = .ok (.if_icmp .eq 397, 3) := by decide +kernel
theorem dL_law_310 : decode cL_law 310 = .ok (.iconst 0, 1) := by decide +kernel
theorem dL_law_311 : decode cL_law 311 = .ok (.ireturn, 1) := by decide +kernel
theorem dL_law_312 : decode cL_law 312 = .ok (.aload_n 1, 1) := by decide +kernel
theorem dL_law_313 : decode cL_law 313 = .ok (.aload_n 0, 1) := by decide +kernel
theorem dL_law_314 : decode cL_law 314 = .ok (.iload_n 3, 1) := by decide +kernel
theorem dL_law_315 : decode cL_law 315 = .ok (.iconst 1, 1) := by decide +kernel
theorem dL_law_316 : decode cL_law 316 = .ok (.iadd, 1) := by decide +kernel
theorem dL_law_317 : decode cL_law 317 = .ok (.iaload, 1) := by decide +kernel
theorem dL_law_318 : decode cL_law 318 = .ok (.aload_n 0, 1) := by decide +kernel
theorem dL_law_319 : decode cL_law 319 = .ok (.iload_n 3, 1) := by decide +kernel
theorem dL_law_320 : decode cL_law 320 = .ok (.iconst 2, 1) := by decide +kernel
theorem dL_law_321 : decode cL_law 321 = .ok (.iadd, 1) := by decide +kernel
theorem dL_law_322 : decode cL_law 322 = .ok (.iaload, 1) := by decide +kernel
theorem dL_law_323 : decode cL_law 323 = .ok (.aload_n 0, 1) := by decide +kernel
theorem dL_law_324 : decode cL_law 324 = .ok (.iload_n 3, 1) := by decide +kernel
theorem dL_law_325 : decode cL_law 325 = .ok (.iconst 3, 1) := by decide +kernel
theorem dL_law_326 : decode cL_law 326 = .ok (.iadd, 1) := by decide +kernel
theorem dL_law_327 : decode cL_law 327 = .ok (.iaload, 1) := by decide +kernel
theorem dL_law_328 : decode cL_law 328 = .ok (.invokevirtual 32, 3) := by decide +kernel
theorem dL_law_331 : decode cL_law 331 = .ok (.aload_n 2, 1) := by decide +kernel
theorem dL_law_332 : decode cL_law 332 = .ok (.aload_n 0, 1) := by decide +kernel
theorem dL_law_333 : decode cL_law 333 = .ok (.iload_n 3, 1) := by decide +kernel
theorem dL_law_334 : decode cL_law 334 = .ok (.iconst 1, 1) := by decide +kernel
theorem dL_law_335 : decode cL_law 335 = .ok (.iadd, 1) := by decide +kernel
theorem dL_law_336 : decode cL_law 336 = .ok (.iaload, 1) := by decide +kernel
theorem dL_law_337 : decode cL_law 337 = .ok (.aload_n 0, 1) := by decide +kernel
theorem dL_law_338 : decode cL_law 338 = .ok (.iload_n 3, 1) := by decide +kernel
theorem dL_law_339 : decode cL_law 339 = .ok (.iconst 2, 1) := by decide +kernel
theorem dL_law_340 : decode cL_law 340 = .ok (.iadd, 1) := by decide +kernel
theorem dL_law_341 : decode cL_law 341 = .ok (.iaload, 1) := by decide +kernel
theorem dL_law_342 : decode cL_law 342 = .ok (.aload_n 0, 1) := by decide +kernel
theorem dL_law_343 : decode cL_law 343 = .ok (.iload_n 3, 1) := by decide +kernel
theorem dL_law_344 : decode cL_law 344 = .ok (.iconst 3, 1) := by decide +kernel
theorem dL_law_345 : decode cL_law 345 = .ok (.iadd, 1) := by decide +kernel
theorem dL_law_346 : decode cL_law 346 = .ok (.iaload, 1) := by decide +kernel
theorem dL_law_347 : decode cL_law 347 = .ok (.invokevirtual 35, 3) := by decide +kernel
theorem dL_law_350 : decode cL_law 350 = .ok (.if_icmp .eq 354, 3) := by decide +kernel
theorem dL_law_353 : decode cL_law 353 = .ok (.iconst 0, 1) := by decide +kernel
theorem dL_law_354 : decode cL_law 354 = .ok (.ireturn, 1) := by decide +kernel
theorem dL_law_355 : decode cL_law 355 = .ok (.aload_n 1, 1) := by decide +kernel
theorem dL_law_356 : decode cL_law 356 = .ok (.aload_n 0, 1) := by decide +kernel
theorem dL_law_357 : decode cL_law 357 = .ok (.iload_n 3, 1) := by decide +kernel
theorem dL_law_358 : decode cL_law 358 = .ok (.iconst 1, 1) := by decide +kernel
theorem dL_law_359 : decode cL_law 359 = .ok (.iadd, 1) := by decide +kernel
theorem dL_law_360 : decode cL_law 360 = .ok (.iaload, 1) := by decide +kernel
theorem dL_law_361 : decode cL_law 361 = .ok (.aload_n 0, 1) := by decide +kernel
theorem dL_law_362 : decode cL_law 362 = .ok (.iload_n 3, 1) := by decide +kernel
theorem dL_law_363 : decode cL_law 363 = .ok (.iconst 2, 1) := by decide +kernel
theorem dL_law_364 : decode cL_law 364 = .ok (.iadd, 1) := by decide +kernel
theorem dL_law_365 : decode cL_law 365 = .ok (.iaload, 1) := by decide +kernel
theorem dL_law_366 : decode cL_law 366 = .ok (.aload_n 0, 1) := by decide +kernel
theorem dL_law_367 : decode cL_law 367 = .ok (.iload_n 3, 1) := by decide +kernel
theorem dL_law_368 : decode cL_law 368 = .ok (.iconst 3, 1) := by decide +kernel
theorem dL_law_369 : decode cL_law 369 = .ok (.iadd, 1) := by decide +kernel
theorem dL_law_370 : decode cL_law 370 = .ok (.iaload, 1) := by decide +kernel
theorem dL_law_371 : decode cL_law 371 = .ok (.invokevirtual 36, 3) := by decide +kernel
theorem dL_law_374 : decode cL_law 374 = .ok (.aload_n 2, 1) := by decide +kernel
theorem dL_law_375 : decode cL_law 375 = .ok (.aload_n 0, 1) := by decide +kernel
theorem dL_law_376 : decode cL_law 376 = .ok (.iload_n 3, 1) := by decide +kernel
theorem dL_law_377 : decode cL_law 377 = .ok (.iconst 1, 1) := by decide +kernel
theorem dL_law_378 : decode cL_law 378 = .ok (.iadd, 1) := by decide +kernel
theorem dL_law_379 : decode cL_law 379 = .ok (.iaload, 1) := by decide +kernel
theorem dL_law_380 : decode cL_law 380 = .ok (.aload_n 0, 1) := by decide +kernel
theorem dL_law_381 : decode cL_law 381 = .ok (.iload_n 3, 1) := by decide +kernel
theorem dL_law_382 : decode cL_law 382 = .ok (.iconst 2, 1) := by decide +kernel
theorem dL_law_383 : decode cL_law 383 = .ok (.iadd, 1) := by decide +kernel
theorem dL_law_384 : decode cL_law 384 = .ok (.iaload, 1) := by decide +kernel
theorem dL_law_385 : decode cL_law 385 = .ok (.aload_n 0, 1) := by decide +kernel
theorem dL_law_386 : decode cL_law 386 = .ok (.iload_n 3, 1) := by decide +kernel
theorem dL_law_387 : decode cL_law 387 = .ok (.iconst 3, 1) := by decide +kernel
theorem dL_law_388 : decode cL_law 388 = .ok (.iadd, 1) := by decide +kernel
theorem dL_law_389 : decode cL_law 389 = .ok (.iaload, 1) := by decide +kernel
theorem dL_law_390 : decode cL_law 390 = .ok (.invokevirtual 39, 3) := by decide +kernel
theorem dL_law_393 : decode cL_law 393 = .ok (.if_icmp .eq 311, 3) := by decide +kernel
theorem dL_law_396 : decode cL_law 396 = .ok (.iconst 0, 1) := by decide +kernel
theorem dL_law_397 : decode cL_law 397 = .ok (.ireturn, 1) := by decide +kernel
theorem dL_law_398 : decode cL_law 398 = .ok (.aload_n 1, 1) := by decide +kernel
theorem dL_law_399 : decode cL_law 399 = .ok (.aload_n 0, 1) := by decide +kernel
theorem dL_law_400 : decode cL_law 400 = .ok (.iload_n 3, 1) := by decide +kernel
theorem dL_law_401 : decode cL_law 401 = .ok (.iconst 1, 1) := by decide +kernel
theorem dL_law_402 : decode cL_law 402 = .ok (.iadd, 1) := by decide +kernel
theorem dL_law_403 : decode cL_law 403 = .ok (.iaload, 1) := by decide +kernel
theorem dL_law_404 : decode cL_law 404 = .ok (.aload_n 0, 1) := by decide +kernel
theorem dL_law_405 : decode cL_law 405 = .ok (.iload_n 3, 1) := by decide +kernel
theorem dL_law_406 : decode cL_law 406 = .ok (.iconst 2, 1) := by decide +kernel
theorem dL_law_407 : decode cL_law 407 = .ok (.iadd, 1) := by decide +kernel
theorem dL_law_408 : decode cL_law 408 = .ok (.iaload, 1) := by decide +kernel
theorem dL_law_409 : decode cL_law 409 = .ok (.aload_n 0, 1) := by decide +kernel
theorem dL_law_410 : decode cL_law 410 = .ok (.iload_n 3, 1) := by decide +kernel
theorem dL_law_411 : decode cL_law 411 = .ok (.iconst 3, 1) := by decide +kernel
theorem dL_law_412 : decode cL_law 412 = .ok (.iadd, 1) := by decide +kernel
theorem dL_law_413 : decode cL_law 413 = .ok (.iaload, 1) := by decide +kernel
theorem dL_law_414 : decode cL_law 414 = .ok (.invokevirtual 40, 3) := by decide +kernel
theorem dL_law_417 : decode cL_law 417 = .ok (.aload_n 2, 1) := by decide +kernel
theorem dL_law_418 : decode cL_law 418 = .ok (.aload_n 0, 1) := by decide +kernel
theorem dL_law_419 : decode cL_law 419 = .ok (.iload_n 3, 1) := by decide +kernel
theorem dL_law_420 : decode cL_law 420 = .ok (.iconst 1, 1) := by decide +kernel
theorem dL_law_421 : decode cL_law 421 = .ok (.iadd, 1) := by decide +kernel
theorem dL_law_422 : decode cL_law 422 = .ok (.iaload, 1) := by decide +kernel
theorem dL_law_423 : decode cL_law 423 = .ok (.aload_n 0, 1) := by decide +kernel
theorem dL_law_424 : decode cL_law 424 = .ok (.iload_n 3, 1) := by decide +kernel
theorem dL_law_425 : decode cL_law 425 = .ok (.iconst 2, 1) := by decide +kernel
theorem dL_law_426 : decode cL_law 426 = .ok (.iadd, 1) := by decide +kernel
theorem dL_law_427 : decode cL_law 427 = .ok (.iaload, 1) := by decide +kernel
theorem dL_law_428 : decode cL_law 428 = .ok (.aload_n 0, 1) := by decide +kernel
theorem dL_law_429 : decode cL_law 429 = .ok (.iload_n 3, 1) := by decide +kernel
theorem dL_law_430 : decode cL_law 430 = .ok (.iconst 3, 1) := by decide +kernel
theorem dL_law_431 : decode cL_law 431 = .ok (.iadd, 1) := by decide +kernel
theorem dL_law_432 : decode cL_law 432 = .ok (.iaload, 1) := by decide +kernel
theorem dL_law_433 : decode cL_law 433 = .ok (.invokevirtual 43, 3) := by decide +kernel
theorem dL_law_436 : decode cL_law 436 = .ok (.if_icmp .eq 268, 3) := by decide +kernel
theorem dL_law_439 : decode cL_law 439 = .ok (.iconst 0, 1) := by decide +kernel
theorem dL_law_440 : decode cL_law 440 = .ok (.ireturn, 1) := by decide +kernel
theorem dL_law_441 : decode cL_law 441 = .ok (.aload_n 1, 1) := by decide +kernel
theorem dL_law_442 : decode cL_law 442 = .ok (.aload_n 0, 1) := by decide +kernel
theorem dL_law_443 : decode cL_law 443 = .ok (.iload_n 3, 1) := by decide +kernel
theorem dL_law_444 : decode cL_law 444 = .ok (.iconst 1, 1) := by decide +kernel
theorem dL_law_445 : decode cL_law 445 = .ok (.iadd, 1) := by decide +kernel
theorem dL_law_446 : decode cL_law 446 = .ok (.iaload, 1) := by decide +kernel
theorem dL_law_447 : decode cL_law 447 = .ok (.aload_n 0, 1) := by decide +kernel
theorem dL_law_448 : decode cL_law 448 = .ok (.iload_n 3, 1) := by decide +kernel
theorem dL_law_449 : decode cL_law 449 = .ok (.iconst 2, 1) := by decide +kernel
theorem dL_law_450 : decode cL_law 450 = .ok (.iadd, 1) := by decide +kernel
theorem dL_law_451 : decode cL_law 451 = .ok (.iaload, 1) := by decide +kernel
theorem dL_law_452 : decode cL_law 452 = .ok (.aload_n 0, 1) := by decide +kernel
theorem dL_law_453 : decode cL_law 453 = .ok (.iload_n 3, 1) := by decide +kernel
theorem dL_law_454 : decode cL_law 454 = .ok (.iconst 3, 1) := by decide +kernel
theorem dL_law_455 : decode cL_law 455 = .ok (.iadd, 1) := by decide +kernel
theorem dL_law_456 : decode cL_law 456 = .ok (.iaload, 1) := by decide +kernel
theorem dL_law_457 : decode cL_law 457 = .ok (.aload_n 0, 1) := by decide +kernel
theorem dL_law_458 : decode cL_law 458 = .ok (.iload_n 3, 1) := by decide +kernel
theorem dL_law_459 : decode cL_law 459 = .ok (.iconst 4, 1) := by decide +kernel
theorem dL_law_460 : decode cL_law 460 = .ok (.iadd, 1) := by decide +kernel
theorem dL_law_461 : decode cL_law 461 = .ok (.iaload, 1) := by decide +kernel
theorem dL_law_462 : decode cL_law 462 = .ok (.invokevirtual 44, 3) := by decide +kernel
theorem dL_law_465 : decode cL_law 465 = .ok (.aload_n 2, 1) := by decide +kernel
theorem dL_law_466 : decode cL_law 466 = .ok (.aload_n 0, 1) := by decide +kernel
theorem dL_law_467 : decode cL_law 467 = .ok (.iload_n 3, 1) := by decide +kernel
theorem dL_law_468 : decode cL_law 468 = .ok (.iconst 1, 1) := by decide +kernel
theorem dL_law_469 : decode cL_law 469 = .ok (.iadd, 1) := by decide +kernel
theorem dL_law_470 : decode cL_law 470 = .ok (.iaload, 1) := by decide +kernel
theorem dL_law_471 : decode cL_law 471 = .ok (.aload_n 0, 1) := by decide +kernel
theorem dL_law_472 : decode cL_law 472 = .ok (.iload_n 3, 1) := by decide +kernel
theorem dL_law_473 : decode cL_law 473 = .ok (.iconst 2, 1) := by decide +kernel
theorem dL_law_474 : decode cL_law 474 = .ok (.iadd, 1) := by decide +kernel
theorem dL_law_475 : decode cL_law 475 = .ok (.iaload, 1) := by decide +kernel
theorem dL_law_476 : decode cL_law 476 = .ok (.aload_n 0, 1) := by decide +kernel
theorem dL_law_477 : decode cL_law 477 = .ok (.iload_n 3, 1) := by decide +kernel
theorem dL_law_478 : decode cL_law 478 = .ok (.iconst 3, 1) := by decide +kernel
theorem dL_law_479 : decode cL_law 479 = .ok (.iadd, 1) := by decide +kernel
theorem dL_law_480 : decode cL_law 480 = .ok (.iaload, 1) := by decide +kernel
theorem dL_law_481 : decode cL_law 481 = .ok (.aload_n 0, 1) := by decide +kernel
theorem dL_law_482 : decode cL_law 482 = .ok (.iload_n 3, 1) := by decide +kernel
theorem dL_law_483 : decode cL_law 483 = .ok (.iconst 4, 1) := by decide +kernel
theorem dL_law_484 : decode cL_law 484 = .ok (.iadd, 1) := by decide +kernel
theorem dL_law_485 : decode cL_law 485 = .ok (.iaload, 1) := by decide +kernel
theorem dL_law_486 : decode cL_law 486 = .ok (.invokevirtual 47, 3) := by decide +kernel
theorem dL_law_489 : decode cL_law 489 = .ok (.if_icmp .eq 215, 3) := by decide +kernel
theorem dL_law_492 : decode cL_law 492 = .ok (.iconst 0, 1) := by decide +kernel
theorem dL_law_493 : decode cL_law 493 = .ok (.ireturn, 1) := by decide +kernel
theorem dL_law_494 : decode cL_law 494 = .ok (.aload_n 1, 1) := by decide +kernel
theorem dL_law_495 : decode cL_law 495 = .ok (.aload_n 0, 1) := by decide +kernel
theorem dL_law_496 : decode cL_law 496 = .ok (.iload_n 3, 1) := by decide +kernel
theorem dL_law_497 : decode cL_law 497 = .ok (.iconst 1, 1) := by decide +kernel
theorem dL_law_498 : decode cL_law 498 = .ok (.iadd, 1) := by decide +kernel
theorem dL_law_499 : decode cL_law 499 = .ok (.iaload, 1) := by decide +kernel
theorem dL_law_500 : decode cL_law 500 = .ok (.aload_n 0, 1) := by decide +kernel
theorem dL_law_501 : decode cL_law 501 = .ok (.iload_n 3, 1) := by decide +kernel
theorem dL_law_502 : decode cL_law 502 = .ok (.iconst 2, 1) := by decide +kernel
theorem dL_law_503 : decode cL_law 503 = .ok (.iadd, 1) := by decide +kernel
theorem dL_law_504 : decode cL_law 504 = .ok (.iaload, 1) := by decide +kernel
theorem dL_law_505 : decode cL_law 505 = .ok (.invokevirtual 48, 3) := by decide +kernel
theorem dL_law_508 : decode cL_law 508 = .ok (.aload_n 2, 1) := by decide +kernel
theorem dL_law_509 : decode cL_law 509 = .ok (.aload_n 0, 1) := by decide +kernel
theorem dL_law_510 : decode cL_law 510 = .ok (.iload_n 3, 1) := by decide +kernel
theorem dL_law_511 : decode cL_law 511 = .ok (.iconst 1, 1) := by decide +kernel
theorem dL_law_512 : decode cL_law 512 = .ok (.iadd, 1) := by decide +kernel
theorem dL_law_513 : decode cL_law 513 = .ok (.iaload, 1) := by decide +kernel
theorem dL_law_514 : decode cL_law 514 = .ok (.aload_n 0, 1) := by decide +kernel
theorem dL_law_515 : decode cL_law 515 = .ok (.iload_n 3, 1) := by decide +kernel
theorem dL_law_516 : decode cL_law 516 = .ok (.iconst 2, 1) := by decide +kernel
theorem dL_law_517 : decode cL_law 517 = .ok (.iadd, 1) := by decide +kernel
theorem dL_law_518 : decode cL_law 518 = .ok (.iaload, 1) := by decide +kernel
theorem dL_law_519 : decode cL_law 519 = .ok (.invokevirtual 52, 3) := by decide +kernel
theorem dL_law_522 : decode cL_law 522 = .ok (.if_icmp .eq 182, 3) := by decide +kernel
theorem dL_law_525 : decode cL_law 525 = .ok (.iconst 0, 1) := by decide +kernel
theorem dL_law_526 : decode cL_law 526 = .ok (.ireturn, 1) := by decide +kernel
theorem dL_law_527 : decode cL_law 527 = .ok (.aload_n 1, 1) := by decide +kernel
theorem dL_law_528 : decode cL_law 528 = .ok (.aload_n 0, 1) := by decide +kernel
theorem dL_law_529 : decode cL_law 529 = .ok (.iload_n 3, 1) := by decide +kernel
theorem dL_law_530 : decode cL_law 530 = .ok (.iconst 1, 1) := by decide +kernel
theorem dL_law_531 : decode cL_law 531 = .ok (.iadd, 1) := by decide +kernel
theorem dL_law_532 : decode cL_law 532 = .ok (.iaload, 1) := by decide +kernel
theorem dL_law_533 : decode cL_law 533 = .ok (.invokevirtual 53, 3) := by decide +kernel
theorem dL_law_536 : decode cL_law 536 = .ok (.aload_n 2, 1) := by decide +kernel
theorem dL_law_537 : decode cL_law 537 = .ok (.aload_n 0, 1) := by decide +kernel
theorem dL_law_538 : decode cL_law 538 = .ok (.iload_n 3, 1) := by decide +kernel
theorem dL_law_539 : decode cL_law 539 = .ok (.iconst 1, 1) := by decide +kernel
theorem dL_law_540 : decode cL_law 540 = .ok (.iadd, 1) := by decide +kernel
theorem dL_law_541 : decode cL_law 541 = .ok (.iaload, 1) := by decide +kernel
theorem dL_law_542 : decode cL_law 542 = .ok (.invokevirtual 57, 3) := by decide +kernel
theorem dL_law_545 : decode cL_law 545 = .ok (.if_icmp .eq 159, 3) := by decide +kernel
theorem dL_law_548 : decode cL_law 548 = .ok (.iconst 0, 1) := by decide +kernel
theorem dL_law_549 : decode cL_law 549 = .ok (.ireturn, 1) := by decide +kernel
theorem dL_law_550 : decode cL_law 550 = .ok (.aload_n 1, 1) := by decide +kernel
theorem dL_law_551 : decode cL_law 551 = .ok (.aload_n 0, 1) := by decide +kernel
theorem dL_law_552 : decode cL_law 552 = .ok (.iload_n 3, 1) := by decide +kernel
theorem dL_law_553 : decode cL_law 553 = .ok (.iconst 1, 1) := by decide +kernel
theorem dL_law_554 : decode cL_law 554 = .ok (.iadd, 1) := by decide +kernel
theorem dL_law_555 : decode cL_law 555 = .ok (.iaload, 1) := by decide +kernel
theorem dL_law_556 : decode cL_law 556 = .ok (.aload_n 0, 1) := by decide +kernel
theorem dL_law_557 : decode cL_law 557 = .ok (.iload_n 3, 1) := by decide +kernel
theorem dL_law_558 : decode cL_law 558 = .ok (.iconst 2, 1) := by decide +kernel
theorem dL_law_559 : decode cL_law 559 = .ok (.iadd, 1) := by decide +kernel
theorem dL_law_560 : decode cL_law 560 = .ok (.iaload, 1) := by decide +kernel
theorem dL_law_561 : decode cL_law 561 = .ok (.aload_n 0, 1) := by decide +kernel
theorem dL_law_562 : decode cL_law 562 = .ok (.iload_n 3, 1) := by decide +kernel
theorem dL_law_563 : decode cL_law 563 = .ok (.iconst 3, 1) := by decide +kernel
theorem dL_law_564 : decode cL_law 564 = .ok (.iadd, 1) := by decide +kernel
theorem dL_law_565 : decode cL_law 565 = .ok (.iaload, 1) := by decide +kernel
theorem dL_law_566 : decode cL_law 566 = .ok (.invokevirtual 58, 3) := by decide +kernel
theorem dL_law_569 : decode cL_law 569 = .ok (.aload_n 2, 1) := by decide +kernel
theorem dL_law_570 : decode cL_law 570 = .ok (.aload_n 0, 1) := by decide +kernel
theorem dL_law_571 : decode cL_law 571 = .ok (.iload_n 3, 1) := by decide +kernel
theorem dL_law_572 : decode cL_law 572 = .ok (.iconst 1, 1) := by decide +kernel
theorem dL_law_573 : decode cL_law 573 = .ok (.iadd, 1) := by decide +kernel
theorem dL_law_574 : decode cL_law 574 = .ok (.iaload, 1) := by decide +kernel
theorem dL_law_575 : decode cL_law 575 = .ok (.aload_n 0, 1) := by decide +kernel
theorem dL_law_576 : decode cL_law 576 = .ok (.iload_n 3, 1) := by decide +kernel
theorem dL_law_577 : decode cL_law 577 = .ok (.iconst 2, 1) := by decide +kernel
theorem dL_law_578 : decode cL_law 578 = .ok (.iadd, 1) := by decide +kernel
theorem dL_law_579 : decode cL_law 579 = .ok (.iaload, 1) := by decide +kernel
theorem dL_law_580 : decode cL_law 580 = .ok (.aload_n 0, 1) := by decide +kernel
theorem dL_law_581 : decode cL_law 581 = .ok (.iload_n 3, 1) := by decide +kernel
theorem dL_law_582 : decode cL_law 582 = .ok (.iconst 3, 1) := by decide +kernel
theorem dL_law_583 : decode cL_law 583 = .ok (.iadd, 1) := by decide +kernel
theorem dL_law_584 : decode cL_law 584 = .ok (.iaload, 1) := by decide +kernel
theorem dL_law_585 : decode cL_law 585 = .ok (.invokevirtual 62, 3) := by decide +kernel
theorem dL_law_588 : decode cL_law 588 = .ok (.if_icmp .eq 116, 3) := by decide +kernel
theorem dL_law_591 : decode cL_law 591 = .ok (.iconst 0, 1) := by decide +kernel
theorem dL_law_592 : decode cL_law 592 = .ok (.ireturn, 1) := by decide +kernel
theorem dL_law_593 : decode cL_law 593 = .ok (.aload_n 1, 1) := by decide +kernel
theorem dL_law_594 : decode cL_law 594 = .ok (.aload_n 0, 1) := by decide +kernel
theorem dL_law_595 : decode cL_law 595 = .ok (.iload_n 3, 1) := by decide +kernel
theorem dL_law_596 : decode cL_law 596 = .ok (.iconst 1, 1) := by decide +kernel
theorem dL_law_597 : decode cL_law 597 = .ok (.iadd, 1) := by decide +kernel
theorem dL_law_598 : decode cL_law 598 = .ok (.iaload, 1) := by decide +kernel
theorem dL_law_599 : decode cL_law 599 = .ok (.aload_n 0, 1) := by decide +kernel
theorem dL_law_600 : decode cL_law 600 = .ok (.iload_n 3, 1) := by decide +kernel
theorem dL_law_601 : decode cL_law 601 = .ok (.iconst 2, 1) := by decide +kernel
theorem dL_law_602 : decode cL_law 602 = .ok (.iadd, 1) := by decide +kernel
theorem dL_law_603 : decode cL_law 603 = .ok (.iaload, 1) := by decide +kernel
theorem dL_law_604 : decode cL_law 604 = .ok (.aload_n 0, 1) := by decide +kernel
theorem dL_law_605 : decode cL_law 605 = .ok (.iload_n 3, 1) := by decide +kernel
theorem dL_law_606 : decode cL_law 606 = .ok (.iconst 3, 1) := by decide +kernel
theorem dL_law_607 : decode cL_law 607 = .ok (.iadd, 1) := by decide +kernel
theorem dL_law_608 : decode cL_law 608 = .ok (.iaload, 1) := by decide +kernel
theorem dL_law_609 : decode cL_law 609 = .ok (.invokevirtual 63, 3) := by decide +kernel
theorem dL_law_612 : decode cL_law 612 = .ok (.aload_n 2, 1) := by decide +kernel
theorem dL_law_613 : decode cL_law 613 = .ok (.aload_n 0, 1) := by decide +kernel
theorem dL_law_614 : decode cL_law 614 = .ok (.iload_n 3, 1) := by decide +kernel
theorem dL_law_615 : decode cL_law 615 = .ok (.iconst 1, 1) := by decide +kernel
theorem dL_law_616 : decode cL_law 616 = .ok (.iadd, 1) := by decide +kernel
theorem dL_law_617 : decode cL_law 617 = .ok (.iaload, 1) := by decide +kernel
theorem dL_law_618 : decode cL_law 618 = .ok (.aload_n 0, 1) := by decide +kernel
theorem dL_law_619 : decode cL_law 619 = .ok (.iload_n 3, 1) := by decide +kernel
theorem dL_law_620 : decode cL_law 620 = .ok (.iconst 2, 1) := by decide +kernel
theorem dL_law_621 : decode cL_law 621 = .ok (.iadd, 1) := by decide +kernel
theorem dL_law_622 : decode cL_law 622 = .ok (.iaload, 1) := by decide +kernel
theorem dL_law_623 : decode cL_law 623 = .ok (.aload_n 0, 1) := by decide +kernel
theorem dL_law_624 : decode cL_law 624 = .ok (.iload_n 3, 1) := by decide +kernel
theorem dL_law_625 : decode cL_law 625 = .ok (.iconst 3, 1) := by decide +kernel
theorem dL_law_626 : decode cL_law 626 = .ok (.iadd, 1) := by decide +kernel
theorem dL_law_627 : decode cL_law 627 = .ok (.iaload, 1) := by decide +kernel
theorem dL_law_628 : decode cL_law 628 = .ok (.invokevirtual 66, 3) := by decide +kernel
theorem dL_law_631 : decode cL_law 631 = .ok (.if_icmp .eq 73, 3) := by decide +kernel
theorem dL_law_634 : decode cL_law 634 = .ok (.iconst 0, 1) := by decide +kernel
theorem dL_law_635 : decode cL_law 635 = .ok (.ireturn, 1) := by decide +kernel
theorem dL_law_636 : decode cL_law 636 = .ok (.aload_n 1, 1) := by decide +kernel
theorem dL_law_637 : decode cL_law 637 = .ok (.aload_n 0, 1) := by decide +kernel
theorem dL_law_638 : decode cL_law 638 = .ok (.iload_n 3, 1) := by decide +kernel
theorem dL_law_639 : decode cL_law 639 = .ok (.iconst 1, 1) := by decide +kernel
theorem dL_law_640 : decode cL_law 640 = .ok (.iadd, 1) := by decide +kernel
theorem dL_law_641 : decode cL_law 641 = .ok (.iaload, 1) := by decide +kernel
theorem dL_law_642 : decode cL_law 642 = .ok (.aload_n 0, 1) := by decide +kernel
theorem dL_law_643 : decode cL_law 643 = .ok (.iload_n 3, 1) := by decide +kernel
theorem dL_law_644 : decode cL_law 644 = .ok (.iconst 2, 1) := by decide +kernel
theorem dL_law_645 : decode cL_law 645 = .ok (.iadd, 1) := by decide +kernel
theorem dL_law_646 : decode cL_law 646 = .ok (.iaload, 1) := by decide +kernel
theorem dL_law_647 : decode cL_law 647 = .ok (.invokevirtual 67, 3) := by decide +kernel
theorem dL_law_650 : decode cL_law 650 = .ok (.aload_n 2, 1) := by decide +kernel
theorem dL_law_651 : decode cL_law 651 = .ok (.aload_n 0, 1) := by decide +kernel
theorem dL_law_652 : decode cL_law 652 = .ok (.iload_n 3, 1) := by decide +kernel
theorem dL_law_653 : decode cL_law 653 = .ok (.iconst 1, 1) := by decide +kernel
theorem dL_law_654 : decode cL_law 654 = .ok (.iadd, 1) := by decide +kernel
theorem dL_law_655 : decode cL_law 655 = .ok (.iaload, 1) := by decide +kernel
theorem dL_law_656 : decode cL_law 656 = .ok (.aload_n 0, 1) := by decide +kernel
theorem dL_law_657 : decode cL_law 657 = .ok (.iload_n 3, 1) := by decide +kernel
theorem dL_law_658 : decode cL_law 658 = .ok (.iconst 2, 1) := by decide +kernel
theorem dL_law_659 : decode cL_law 659 = .ok (.iadd, 1) := by decide +kernel
theorem dL_law_660 : decode cL_law 660 = .ok (.iaload, 1) := by decide +kernel
theorem dL_law_661 : decode cL_law 661 = .ok (.invokevirtual 71, 3) := by decide +kernel
theorem dL_law_664 : decode cL_law 664 = .ok (.lcmp, 1) := by decide +kernel
theorem dL_law_665 : decode cL_law 665 = .ok (.ifCond .eq 39, 3) := by decide +kernel
theorem dL_law_668 : decode cL_law 668 = .ok (.iconst 0, 1) := by decide +kernel
theorem dL_law_669 : decode cL_law 669 = .ok (.ireturn, 1) := by decide +kernel
theorem dL_law_670 : decode cL_law 670 = .ok (.aload_n 1, 1) := by decide +kernel
theorem dL_law_671 : decode cL_law 671 = .ok (.aload_n 0, 1) := by decide +kernel
theorem dL_law_672 : decode cL_law 672 = .ok (.iload_n 3, 1) := by decide +kernel
theorem dL_law_673 : decode cL_law 673 = .ok (.iconst 1, 1) := by decide +kernel
theorem dL_law_674 : decode cL_law 674 = .ok (.iadd, 1) := by decide +kernel
theorem dL_law_675 : decode cL_law 675 = .ok (.iaload, 1) := by decide +kernel
theorem dL_law_676 : decode cL_law 676 = .ok (.aload_n 0, 1) := by decide +kernel
theorem dL_law_677 : decode cL_law 677 = .ok (.iload_n 3, 1) := by decide +kernel
theorem dL_law_678 : decode cL_law 678 = .ok (.iconst 2, 1) := by decide +kernel
theorem dL_law_679 : decode cL_law 679 = .ok (.iadd, 1) := by decide +kernel
theorem dL_law_680 : decode cL_law 680 = .ok (.iaload, 1) := by decide +kernel
theorem dL_law_681 : decode cL_law 681 = .ok (.invokevirtual 72, 3) := by decide +kernel
theorem dL_law_684 : decode cL_law 684 = .ok (.aload_n 2, 1) := by decide +kernel
theorem dL_law_685 : decode cL_law 685 = .ok (.aload_n 0, 1) := by decide +kernel
theorem dL_law_686 : decode cL_law 686 = .ok (.iload_n 3, 1) := by decide +kernel
theorem dL_law_687 : decode cL_law 687 = .ok (.iconst 1, 1) := by decide +kernel
theorem dL_law_688 : decode cL_law 688 = .ok (.iadd, 1) := by decide +kernel
theorem dL_law_689 : decode cL_law 689 = .ok (.iaload, 1) := by decide +kernel
theorem dL_law_690 : decode cL_law 690 = .ok (.aload_n 0, 1) := by decide +kernel
theorem dL_law_691 : decode cL_law 691 = .ok (.iload_n 3, 1) := by decide +kernel
theorem dL_law_692 : decode cL_law 692 = .ok (.iconst 2, 1) := by decide +kernel
theorem dL_law_693 : decode cL_law 693 = .ok (.iadd, 1) := by decide +kernel
theorem dL_law_694 : decode cL_law 694 = .ok (.iaload, 1) := by decide +kernel
theorem dL_law_695 : decode cL_law 695 = .ok (.invokevirtual 75, 3) := by decide +kernel
theorem dL_law_698 : decode cL_law 698 = .ok (.lcmp, 1) := by decide +kernel
theorem dL_law_699 : decode cL_law 699 = .ok (.ifCond .eq 5, 3) := by decide +kernel
theorem dL_law_702 : decode cL_law 702 = .ok (.iconst 0, 1) := by decide +kernel
theorem dL_law_703 : decode cL_law 703 = .ok (.ireturn, 1) := by decide +kernel
theorem dL_law_704 : decode cL_law 704 = .ok (.iinc 3 5, 3) := by decide +kernel
theorem dL_law_707 : decode cL_law 707 = .ok (.goto (-689), 3) := by decide +kernel
theorem dL_law_710 : decode cL_law 710 = .ok (.iconst 1, 1) := by decide +kernel
theorem dL_law_711 : decode cL_law 711 = .ok (.ireturn, 1) := by decide +kernel
abbrev vwCl : List vw_C := [(RX0, TX0, 12), (RX1, TX1, 2), (RX2, TX2, 13), (RX3, TX3, 7), (RX4, TX4, 29)]
end
section
/-! the flat memory: cells 0 .. N-1 at addresses ad, ints M, longs L; the judgement sj hides the heap and the locals' array -/
abbrev sjM : Type := Nat → Int → Int32
abbrev sjL : Type := Nat → Int → Int64
abbrev rng (z : Int) : Prop := -2147483648 ≤ z ∧ z ≤ 2147483647
def iI (z : Int) : Int32 := Int32.ofInt z
theorem iI_of (x : Int32) : iI x.toInt = x := Int32.ofInt_toInt x
theorem rg (x : Int32) : rng x.toInt := ⟨Int32.le_toInt x, by have := Int32.toInt_lt x; omega⟩
theorem iI_toInt {z : Int} (h : rng z) : (iI z).toInt = z := by
  obtain ⟨h1, h2⟩ := h
  show (Int32.ofInt z).toInt = z
  exact Int32.toInt_ofInt_of_le (by omega) (by omega)
theorem iI_add (a b : Int) : iI a + iI b = iI (a + b) := (Int32.ofInt_add a b).symm
theorem iI_sub (a b : Int) : iI a - iI b = iI (a - b) := (Int32.ofInt_sub a b).symm
theorem iI_mul (a b : Int) : iI a * iI b = iI (a * b) := (Int32.ofInt_mul a b).symm
theorem iI_lt {a b : Int} (ha : rng a) (hb : rng b) : iI a < iI b ↔ a < b := by
  rw [Int32.lt_iff_toInt_lt, iI_toInt ha, iI_toInt hb]
theorem iI_le {a b : Int} (ha : rng a) (hb : rng b) : iI a ≤ iI b ↔ a ≤ b := by
  rw [Int32.le_iff_toInt_le, iI_toInt ha, iI_toInt hb]
theorem iI_eq {a b : Int} (ha : rng a) (hb : rng b) : iI a = iI b ↔ a = b := by
  rw [← Int32.toInt_inj, iI_toInt ha, iI_toInt hb]
theorem iI_0 : (0 : Int32) = iI 0 := rfl
theorem iI_in {z : Int} {n : Nat} (h0 : 0 ≤ z) (h1 : z < n) (hn : n ≤ 5000) : vp_in (iI z) n := by
  rw [vp_in_iff, iI_toInt ⟨by omega, by omega⟩]
  exact ⟨h0, h1⟩
theorem iI_cl {z : Int} (h0 : 0 ≤ z) (h1 : z ≤ 5000) : (((iI z).toNatClampNeg : Nat) : Int) = z := by
  have h : (iI z).toInt = z := iI_toInt ⟨by omega, by omega⟩
  show (((iI z).toInt.toNat : Nat) : Int) = z
  rw [h]
  exact Int.toNat_of_nonneg h0
def sjW (N : Nat) (ad : Nat → Nat) (ct : Nat → va_E) : va_W := (List.range N).map (fun k => (ad k, ct k))
theorem sjW_get {N : Nat} {ad : Nat → Nat} {ct : Nat → va_E} {k : Nat} (h : k < N) : (sjW N ad ct)[k]? = some (ad k, ct k) := by
  simp [sjW, h]
theorem sjW_out {N : Nat} {ad : Nat → Nat} {ct : Nat → va_E} {k : Nat} (h : ¬ k < N) : (sjW N ad ct)[k]? = none := by
  simp [sjW]; omega
theorem sjW_set {N : Nat} {ad : Nat → Nat} {ct ct' : Nat → va_E} {k : Nat} {e : va_E} (hk : k < N) (he : ct' k = e) (ho : ∀ j, j ≠ k → ct' j = ct j) : (sjW N ad ct).set k (ad k, e) = sjW N ad ct' := by
  apply List.ext_getElem?
  intro j
  by_cases hj : k = j
  · subst hj
    rw [List.getElem?_set_self (by simp [sjW, hk]), sjW_get hk, he]
  · rw [List.getElem?_set_ne hj]
    by_cases hn : j < N
    · rw [sjW_get hn, sjW_get hn, ho j (Ne.symm hj)]
    · rw [sjW_out hn, sjW_out hn]
def sjU (M : sjM) (k : Nat) (z : Int) (x : Int32) : sjM := fun a b => if a = k ∧ b = z then x else M a b
def sjV (L : sjL) (k : Nat) (z : Int) (x : Int64) : sjL := fun a b => if a = k ∧ b = z then x else L a b
theorem sjU_o {M : sjM} {k a : Nat} {z : Int} {x : Int32} (h : a ≠ k) : sjU M k z x a = M a := by
  funext b; simp [sjU, h]
theorem sjV_o {M : sjL} {k a : Nat} {z : Int} {x : Int64} (h : a ≠ k) : sjV M k z x a = M a := by
  funext b; simp [sjV, h]
theorem sjU_s (M : sjM) (k : Nat) (z b : Int) (x : Int32) : sjU M k z x k b = if b = z then x else M k b := by
  simp [sjU]
theorem sjV_s (M : sjL) (k : Nat) (z b : Int) (x : Int64) : sjV M k z x k b = if b = z then x else M k b := by
  simp [sjV]
/-- the locals: by slot -/
def sjH (ls : Array Slot) (nL : Nat) (lv : List (Option Value)) : Prop := ls.size = nL ∧ lv_wf ls ∧ ∀ (i : Nat) (v : Value), lv[i]? = some (some v) → ls[i]? = some (.val v)
def sjPr (lv : List (Option Value)) : List (Nat × Value) := (List.range lv.length).filterMap (fun i => match lv[i]? with | some (some v) => some (i, v) | _ => none)
theorem sjPr_mem {lv : List (Option Value)} {i : Nat} {v : Value} : (i, v) ∈ sjPr lv ↔ lv[i]? = some (some v) := by
  unfold sjPr
  rw [List.mem_filterMap]
  constructor
  · rintro ⟨j, -, hj⟩
    split at hj
    · rename_i w hw
      cases hj
      exact hw
    · cases hj
  · intro h
    refine ⟨i, ?_, by rw [h]⟩
    rw [List.mem_range]
    exact (List.getElem?_eq_some_iff.mp h).1
theorem sjH_has {ls : Array Slot} {nL : Nat} {lv : List (Option Value)} (h : sjH ls nL lv) : lv_has ls nL (sjPr lv) := ⟨h.1, h.2.1, fun q hq => h.2.2 q.1 q.2 (sjPr_mem.mp hq)⟩
def sjKill (lv : List (Option Value)) (i : Nat) : List (Option Value) := match i with
  | 0 => lv
  | j + 1 => match lv[j]? with
    | some (some v) => if v.category = 2 then lv.set j none else lv
    | _ => lv
theorem sjKill_get {lv : List (Option Value)} {i a : Nat} {v : Value} (h : (sjKill lv i)[a]? = some (some v)) : lv[a]? = some (some v) ∧ ¬ (a + 1 = i ∧ v.category = 2) := by
  unfold sjKill at h
  cases i with
  | zero => exact ⟨h, fun q => by omega⟩
  | succ j =>
    dsimp only at h
    split at h
    · rename_i w hw
      split at h
      · by_cases ha : j = a
        · subst ha
          rw [List.getElem?_set_self (List.getElem?_eq_some_iff.mp hw).1] at h
          cases h
        · rw [List.getElem?_set_ne ha] at h
          exact ⟨h, fun q => ha (by omega)⟩
      · rename_i hc
        refine ⟨h, fun q => ?_⟩
        have ha : a = j := by omega
        subst ha
        rw [hw] at h
        cases h
        exact hc q.2
    · rename_i hn
      refine ⟨h, fun q => ?_⟩
      have ha : a = j := by omega
      subst ha
      exact hn v h
def sjS1 (lv : List (Option Value)) (i : Nat) (v : Value) : List (Option Value) := (sjKill lv i).set i (some v)
def sjS2 (lv : List (Option Value)) (i : Nat) (v : Value) : List (Option Value) := ((sjKill lv i).set i (some v)).set (i + 1) none
theorem sjH_of1 {ls : Array Slot} {nL i : Nat} {lv : List (Option Value)} {v : Value} (h : lv_has ls nL ((i, v) :: (sjPr lv).filter (fun q => !(q.1 == i) && !(q.1 + 1 == i && q.2.category == 2)))) : sjH ls nL (sjS1 lv i v) := by
  refine ⟨h.1, h.2.1, fun a w hw => ?_⟩
  unfold sjS1 at hw
  by_cases ha : i = a
  · subst ha
    rw [List.getElem?_set_self'] at hw
    cases hq : (sjKill lv i)[i]? with
    | none => rw [hq] at hw; cases hw
    | some z =>
      rw [hq] at hw
      cases hw
      exact h.2.2 (i, v) List.mem_cons_self
  · rw [List.getElem?_set_ne ha] at hw
    obtain ⟨h1, h2⟩ := sjKill_get hw
    refine h.2.2 (a, w) (List.mem_cons_of_mem _ (List.mem_filter.mpr ⟨sjPr_mem.mpr h1, ?_⟩))
    simp only [Bool.and_eq_true, Bool.not_eq_true', beq_eq_false_iff_ne, ne_eq, Bool.and_eq_false_imp, beq_iff_eq]
    exact ⟨fun q => ha q.symm, fun q1 q2 => h2 ⟨q1, q2⟩⟩
theorem sjH_of2 {ls : Array Slot} {nL i : Nat} {lv : List (Option Value)} {v : Value} (h : lv_has ls nL ((i, v) :: (sjPr lv).filter (fun q => !(q.1 == i) && (!(q.1 == i + 1) && !(q.1 + 1 == i && q.2.category == 2))))) : sjH ls nL (sjS2 lv i v) := by
  refine ⟨h.1, h.2.1, fun a w hw => ?_⟩
  unfold sjS2 at hw
  by_cases hb : i + 1 = a
  · subst hb
    rw [List.getElem?_set_self'] at hw
    cases hq : ((sjKill lv i).set i (some v))[i + 1]? with
    | none => rw [hq] at hw; cases hw
    | some z => rw [hq] at hw; cases hw
  · rw [List.getElem?_set_ne hb] at hw
    by_cases ha : i = a
    · subst ha
      rw [List.getElem?_set_self'] at hw
      cases hq : (sjKill lv i)[i]? with
      | none => rw [hq] at hw; cases hw
      | some z =>
        rw [hq] at hw
        cases hw
        exact h.2.2 (i, v) List.mem_cons_self
    · rw [List.getElem?_set_ne ha] at hw
      obtain ⟨h1, h2⟩ := sjKill_get hw
      refine h.2.2 (a, w) (List.mem_cons_of_mem _ (List.mem_filter.mpr ⟨sjPr_mem.mpr h1, ?_⟩))
      simp only [Bool.and_eq_true, Bool.not_eq_true', beq_eq_false_iff_ne, ne_eq, Bool.and_eq_false_imp, beq_iff_eq]
      exact ⟨fun q => ha q.symm, fun q => hb q.symm, fun q1 q2 => h2 ⟨q1, q2⟩⟩
end
section
/-- cells of a world, by number: int, boolean, long rows; rows of cells; objects -/
def sjI (N : Nat) (ct : sjM → sjL → Nat → va_E) (cI : ClassId) (k n : Nat) : Prop := k < N ∧ n ≤ 5000 ∧ ∀ (M : sjM) (L : sjL), ct M L k = .inl (cI, n, .inl (fun j : Nat => M k (j : Int)))
def sjJ (N : Nat) (ct : sjM → sjL → Nat → va_E) (cJ : ClassId) (k n : Nat) : Prop := k < N ∧ n ≤ 5000 ∧ ∀ (M : sjM) (L : sjL), ct M L k = .inl (cJ, n, .inr (.inl (fun j : Nat => L k (j : Int))))
def sjR (N : Nat) (ct : sjM → sjL → Nat → va_E) (cR : ClassId) (k n : Nat) (g : Int → Nat) : Prop := k < N ∧ n ≤ 5000 ∧ ∀ (M : sjM) (L : sjL), ct M L k = .inl (cR, n, .inr (.inr (.inr (.inr (fun j : Nat => some (g (j : Int)))))))
def sjO (N : Nat) (ct : sjM → sjL → Nat → va_E) (ci k : Nat) (fs : sjM → List Value) : Prop := k < N ∧ ∀ (M : sjM) (L : sjL), ct M L k = .inr (ci, fs M)
def sjP (k : Nat) (fs : sjM → List Value) (j : Nat) (z : Int) : Prop := (∀ M : sjM, (fs M)[j]? = some (.int (M k z))) ∧ ∀ (M : sjM) (x : Int32), fs (sjU M k z x) = (fs M).set j (.int x)
def sjT (cI cZ cJ cT cC : ClassId) : List (ClassId × FieldType) := [(cI, .int), (cZ, .boolean), (cJ, .long), (cT, .object "SharedPage$Text"), (cC, .object "SharedPage$Copy")]
/-- what stays over a method's run -/
def sjF (p : Program) (s : State) (m : MethodId) (args : Array Value) (c : Code) (cc : ByteArray) (nL : Nat) (Ts : List Cond) (own : String) (D : va_G) (cI cZ cJ cT cC : ClassId) (N : Nat) (ad : Nat → Nat) (ct : sjM → sjL → Nat → va_E) (A : Nat → Prop) : Prop :=
  CallFix p m c cc nL s args Ts own ∧ va_K D vwCl (sjT cI cZ cJ cT cC) s ∧ (∀ g : Nat → va_E, va_D A (sjW N ad g)) ∧ ∀ (M M' : sjM) (L L' : sjL) (k : Nat), M k = M' k → L k = L' k → ct M L k = ct M' L' k
/-- the machine, at pc, memory M and L, locals lv, operand stack st, comes to Q -/
def sj (p : Program) (l : Launch) (e : Env) (R : Room) (s : State) (m : MethodId) (args : Array Value) (below : List Frame) (meth : Method) (c : Code) (D : va_G) (N : Nat) (ad : Nat → Nat) (ct : sjM → sjL → Nat → va_E) (A : Nat → Prop) (H0 : Heap) (nL : Nat) (Q : State → Prop) (pc : Nat) (M : sjM) (L : sjL) (lv : List (Option Value)) (st : List Value) : Prop :=
  ∀ (H : Heap) (locs : List Loc) (ls : Array Slot), va_P D vwCl (sjW N ad (ct M L)) H → va_S A H0 H locs → H.size = H0.size → sjH ls nL lv → W p l e R s m args below meth c H locs 0 0 Q (F0 m pc ls st)
section SJ
variable {p : Program} {l : Launch} {e : Env} {R : Room} {s : State} {m : MethodId} {args : Array Value} {below : List Frame} {meth : Method} {c : Code} {cc : ByteArray} {nL : Nat} {Ts : List Cond} {own : String} {D : va_G} {cI cZ cJ cT cC : ClassId} {N : Nat} {ad : Nat → Nat} {ct : sjM → sjL → Nat → va_E} {A : Nat → Prop} {H0 : Heap} {Q : State → Prop} {pc : Nat} {M : sjM} {L : sjL} {lv lv' : List (Option Value)} {st : List Value}
theorem sj_iconst (F : sjF p s m args c cc nL Ts own D cI cZ cJ cT cC N ad ct A) {n : Int} (hdg : decode cc pc = .ok (.iconst n, 1)) (k : sj p l e R s m args below meth c D N ad ct A H0 nL Q (pc + 1) M L lv (.int (iI n) :: st)) : sj p l e R s m args below meth c D N ad ct A H0 nL Q pc M L lv st :=
  fun H locs ls hP hS hz hl => lv_iconst F.1.1 F.1.2.1 hdg rfl (k H locs ls hP hS hz hl)
theorem sj_bipush (F : sjF p s m args c cc nL Ts own D cI cZ cJ cT cC N ad ct A) {n : Int} (hdg : decode cc pc = .ok (.bipush n, 2)) (hv : (Int8.ofInt n).toInt32 = iI n) (k : sj p l e R s m args below meth c D N ad ct A H0 nL Q (pc + 2) M L lv (.int (iI n) :: st)) : sj p l e R s m args below meth c D N ad ct A H0 nL Q pc M L lv st :=
  fun H locs ls hP hS hz hl => lv_bipush F.1.1 F.1.2.1 hdg hv (k H locs ls hP hS hz hl)
theorem sj_sipush (F : sjF p s m args c cc nL Ts own D cI cZ cJ cT cC N ad ct A) {n : Int} (hdg : decode cc pc = .ok (.sipush n, 3)) (hv : (Int16.ofInt n).toInt32 = iI n) (k : sj p l e R s m args below meth c D N ad ct A H0 nL Q (pc + 3) M L lv (.int (iI n) :: st)) : sj p l e R s m args below meth c D N ad ct A H0 nL Q pc M L lv st :=
  fun H locs ls hP hS hz hl => lv_sipush F.1.1 F.1.2.1 hdg hv (k H locs ls hP hS hz hl)
theorem sj_ldc (F : sjF p s m args c cc nL Ts own D cI cZ cJ cT cC N ad ct A) {index : Nat} {v : Int32} (hconst : Jvm.Cond.constant own index v ∈ Ts) (hdg : decode cc pc = .ok (.ldc index, 2)) (k : sj p l e R s m args below meth c D N ad ct A H0 nL Q (pc + 2) M L lv (.int (iI v.toInt) :: st)) : sj p l e R s m args below meth c D N ad ct A H0 nL Q pc M L lv st := by
  rw [iI_of] at k
  exact fun H locs ls hP hS hz hl => lv_ldc F.1.1 F.1.2.1 F.1.2.2.2.1 (F.1.2.2.2.2 _ hconst) hdg (k H locs ls hP hS hz hl)
theorem sj_lconst (F : sjF p s m args c cc nL Ts own D cI cZ cJ cT cC N ad ct A) {n : Fin 2} {v : Int64} (hdg : decode cc pc = .ok (.lconst n, 1)) (hv : Int64.ofNat (n : Nat) = v) (k : sj p l e R s m args below meth c D N ad ct A H0 nL Q (pc + 1) M L lv (.long v :: st)) : sj p l e R s m args below meth c D N ad ct A H0 nL Q pc M L lv st :=
  fun H locs ls hP hS hz hl => lv_lconst F.1.1 F.1.2.1 hdg hv (k H locs ls hP hS hz hl)
theorem sj_ldc2 (F : sjF p s m args c cc nL Ts own D cI cZ cJ cT cC N ad ct A) {index : Nat} {v : Int64} (hconst : Jvm.Cond.constantLong own index v ∈ Ts) (hdg : decode cc pc = .ok (.ldc2_w index, 3)) (k : sj p l e R s m args below meth c D N ad ct A H0 nL Q (pc + 3) M L lv (.long v :: st)) : sj p l e R s m args below meth c D N ad ct A H0 nL Q pc M L lv st :=
  fun H locs ls hP hS hz hl => lv_ldc2 F.1.1 F.1.2.1 F.1.2.2.2.1 (F.1.2.2.2.2 _ hconst) hdg (k H locs ls hP hS hz hl)
theorem sj_iload_n (F : sjF p s m args c cc nL Ts own D cI cZ cJ cT cC N ad ct A) {i : Fin 4} {x : Int32} (hdg : decode cc pc = .ok (.iload_n i, 1)) (hv : lv[(i : Nat)]? = some (some (.int x))) (k : sj p l e R s m args below meth c D N ad ct A H0 nL Q (pc + 1) M L lv (.int x :: st)) : sj p l e R s m args below meth c D N ad ct A H0 nL Q pc M L lv st :=
  fun H locs ls hP hS hz hl => lv_iload_n F.1.1 F.1.2.1 hdg rfl (hl.2.2 _ _ hv) (k H locs ls hP hS hz hl)
theorem sj_iload (F : sjF p s m args c cc nL Ts own D cI cZ cJ cT cC N ad ct A) {i : Nat} {x : Int32} (hdg : decode cc pc = .ok (.iload i, 2)) (hv : lv[i]? = some (some (.int x))) (k : sj p l e R s m args below meth c D N ad ct A H0 nL Q (pc + 2) M L lv (.int x :: st)) : sj p l e R s m args below meth c D N ad ct A H0 nL Q pc M L lv st :=
  fun H locs ls hP hS hz hl => lv_iload F.1.1 F.1.2.1 hdg (hl.2.2 _ _ hv) (k H locs ls hP hS hz hl)
theorem sj_lload_n (F : sjF p s m args c cc nL Ts own D cI cZ cJ cT cC N ad ct A) {i : Fin 4} {x : Int64} (hdg : decode cc pc = .ok (.lload_n i, 1)) (hv : lv[(i : Nat)]? = some (some (.long x))) (k : sj p l e R s m args below meth c D N ad ct A H0 nL Q (pc + 1) M L lv (.long x :: st)) : sj p l e R s m args below meth c D N ad ct A H0 nL Q pc M L lv st :=
  fun H locs ls hP hS hz hl => lv_lload_n F.1.1 F.1.2.1 hdg rfl (hl.2.2 _ _ hv) (k H locs ls hP hS hz hl)
theorem sj_lload (F : sjF p s m args c cc nL Ts own D cI cZ cJ cT cC N ad ct A) {i : Nat} {x : Int64} (hdg : decode cc pc = .ok (.lload i, 2)) (hv : lv[i]? = some (some (.long x))) (k : sj p l e R s m args below meth c D N ad ct A H0 nL Q (pc + 2) M L lv (.long x :: st)) : sj p l e R s m args below meth c D N ad ct A H0 nL Q pc M L lv st :=
  fun H locs ls hP hS hz hl => lv_lload F.1.1 F.1.2.1 hdg (hl.2.2 _ _ hv) (k H locs ls hP hS hz hl)
theorem sj_aload_n (F : sjF p s m args c cc nL Ts own D cI cZ cJ cT cC N ad ct A) {i : Fin 4} {x : Nat} (hdg : decode cc pc = .ok (.aload_n i, 1)) (hv : lv[(i : Nat)]? = some (some (.ref x))) (k : sj p l e R s m args below meth c D N ad ct A H0 nL Q (pc + 1) M L lv (.ref x :: st)) : sj p l e R s m args below meth c D N ad ct A H0 nL Q pc M L lv st :=
  fun H locs ls hP hS hz hl => lv_aload_n F.1.1 F.1.2.1 hdg rfl (hl.2.2 _ _ hv) (k H locs ls hP hS hz hl)
theorem sj_aload (F : sjF p s m args c cc nL Ts own D cI cZ cJ cT cC N ad ct A) {i : Nat} {x : Nat} (hdg : decode cc pc = .ok (.aload i, 2)) (hv : lv[i]? = some (some (.ref x))) (k : sj p l e R s m args below meth c D N ad ct A H0 nL Q (pc + 2) M L lv (.ref x :: st)) : sj p l e R s m args below meth c D N ad ct A H0 nL Q pc M L lv st :=
  fun H locs ls hP hS hz hl => lv_aload F.1.1 F.1.2.1 hdg (hl.2.2 _ _ hv) (k H locs ls hP hS hz hl)
theorem sj_aload_nN (F : sjF p s m args c cc nL Ts own D cI cZ cJ cT cC N ad ct A) {i : Fin 4} (hdg : decode cc pc = .ok (.aload_n i, 1)) (hv : lv[(i : Nat)]? = some (some .null)) (k : sj p l e R s m args below meth c D N ad ct A H0 nL Q (pc + 1) M L lv (.null :: st)) : sj p l e R s m args below meth c D N ad ct A H0 nL Q pc M L lv st :=
  fun H locs ls hP hS hz hl => lv_aload_nN F.1.1 F.1.2.1 hdg rfl (hl.2.2 _ _ hv) (k H locs ls hP hS hz hl)
theorem sj_aloadN (F : sjF p s m args c cc nL Ts own D cI cZ cJ cT cC N ad ct A) {i : Nat} (hdg : decode cc pc = .ok (.aload i, 2)) (hv : lv[i]? = some (some .null)) (k : sj p l e R s m args below meth c D N ad ct A H0 nL Q (pc + 2) M L lv (.null :: st)) : sj p l e R s m args below meth c D N ad ct A H0 nL Q pc M L lv st :=
  fun H locs ls hP hS hz hl => lv_aloadN F.1.1 F.1.2.1 hdg (hl.2.2 _ _ hv) (k H locs ls hP hS hz hl)
theorem sj_istore_n (F : sjF p s m args c cc nL Ts own D cI cZ cJ cT cC N ad ct A) {i : Fin 4} {x : Int32} (hdg : decode cc pc = .ok (.istore_n i, 1)) (hn : (i : Nat) < nL) (hv : sjS1 lv i (.int x) = lv') (k : sj p l e R s m args below meth c D N ad ct A H0 nL Q (pc + 1) M L lv' st) : sj p l e R s m args below meth c D N ad ct A H0 nL Q pc M L lv (.int x :: st) :=
  fun H locs ls hP hS hz hl => lv_istore_n F.1.1 F.1.2.1 hdg rfl (sjH_has hl) hn rfl (fun ls' hl' => k H locs ls' hP hS hz (hv ▸ sjH_of1 hl'))
theorem sj_istore (F : sjF p s m args c cc nL Ts own D cI cZ cJ cT cC N ad ct A) {i : Nat} {x : Int32} (hdg : decode cc pc = .ok (.istore i, 2)) (hn : i < nL) (hv : sjS1 lv i (.int x) = lv') (k : sj p l e R s m args below meth c D N ad ct A H0 nL Q (pc + 2) M L lv' st) : sj p l e R s m args below meth c D N ad ct A H0 nL Q pc M L lv (.int x :: st) :=
  fun H locs ls hP hS hz hl => lv_istore F.1.1 F.1.2.1 hdg (sjH_has hl) hn rfl (fun ls' hl' => k H locs ls' hP hS hz (hv ▸ sjH_of1 hl'))
theorem sj_astore_n (F : sjF p s m args c cc nL Ts own D cI cZ cJ cT cC N ad ct A) {i : Fin 4} {x : Nat} (hdg : decode cc pc = .ok (.astore_n i, 1)) (hn : (i : Nat) < nL) (hv : sjS1 lv i (.ref x) = lv') (k : sj p l e R s m args below meth c D N ad ct A H0 nL Q (pc + 1) M L lv' st) : sj p l e R s m args below meth c D N ad ct A H0 nL Q pc M L lv (.ref x :: st) :=
  fun H locs ls hP hS hz hl => lv_astore_n F.1.1 F.1.2.1 hdg rfl (sjH_has hl) hn rfl (fun ls' hl' => k H locs ls' hP hS hz (hv ▸ sjH_of1 hl'))
theorem sj_astore (F : sjF p s m args c cc nL Ts own D cI cZ cJ cT cC N ad ct A) {i : Nat} {x : Nat} (hdg : decode cc pc = .ok (.astore i, 2)) (hn : i < nL) (hv : sjS1 lv i (.ref x) = lv') (k : sj p l e R s m args below meth c D N ad ct A H0 nL Q (pc + 2) M L lv' st) : sj p l e R s m args below meth c D N ad ct A H0 nL Q pc M L lv (.ref x :: st) :=
  fun H locs ls hP hS hz hl => lv_astore F.1.1 F.1.2.1 hdg (sjH_has hl) hn rfl (fun ls' hl' => k H locs ls' hP hS hz (hv ▸ sjH_of1 hl'))
theorem sj_astore_nN (F : sjF p s m args c cc nL Ts own D cI cZ cJ cT cC N ad ct A) {i : Fin 4} (hdg : decode cc pc = .ok (.astore_n i, 1)) (hn : (i : Nat) < nL) (hv : sjS1 lv i .null = lv') (k : sj p l e R s m args below meth c D N ad ct A H0 nL Q (pc + 1) M L lv' st) : sj p l e R s m args below meth c D N ad ct A H0 nL Q pc M L lv (.null :: st) :=
  fun H locs ls hP hS hz hl => lv_astore_nN F.1.1 F.1.2.1 hdg rfl (sjH_has hl) hn rfl (fun ls' hl' => k H locs ls' hP hS hz (hv ▸ sjH_of1 hl'))
theorem sj_astoreN (F : sjF p s m args c cc nL Ts own D cI cZ cJ cT cC N ad ct A) {i : Nat} (hdg : decode cc pc = .ok (.astore i, 2)) (hn : i < nL) (hv : sjS1 lv i .null = lv') (k : sj p l e R s m args below meth c D N ad ct A H0 nL Q (pc + 2) M L lv' st) : sj p l e R s m args below meth c D N ad ct A H0 nL Q pc M L lv (.null :: st) :=
  fun H locs ls hP hS hz hl => lv_astoreN F.1.1 F.1.2.1 hdg (sjH_has hl) hn rfl (fun ls' hl' => k H locs ls' hP hS hz (hv ▸ sjH_of1 hl'))
theorem sj_lstore_n (F : sjF p s m args c cc nL Ts own D cI cZ cJ cT cC N ad ct A) {i : Fin 4} {x : Int64} (hdg : decode cc pc = .ok (.lstore_n i, 1)) (hn : (i : Nat) + 1 < nL) (hv : sjS2 lv i (.long x) = lv') (k : sj p l e R s m args below meth c D N ad ct A H0 nL Q (pc + 1) M L lv' st) : sj p l e R s m args below meth c D N ad ct A H0 nL Q pc M L lv (.long x :: st) :=
  fun H locs ls hP hS hz hl => lv_lstore_n F.1.1 F.1.2.1 hdg rfl (sjH_has hl) hn rfl (fun ls' hl' => k H locs ls' hP hS hz (hv ▸ sjH_of2 hl'))
theorem sj_lstore (F : sjF p s m args c cc nL Ts own D cI cZ cJ cT cC N ad ct A) {i : Nat} {x : Int64} (hdg : decode cc pc = .ok (.lstore i, 2)) (hn : i + 1 < nL) (hv : sjS2 lv i (.long x) = lv') (k : sj p l e R s m args below meth c D N ad ct A H0 nL Q (pc + 2) M L lv' st) : sj p l e R s m args below meth c D N ad ct A H0 nL Q pc M L lv (.long x :: st) :=
  fun H locs ls hP hS hz hl => lv_lstore F.1.1 F.1.2.1 hdg (sjH_has hl) hn rfl (fun ls' hl' => k H locs ls' hP hS hz (hv ▸ sjH_of2 hl'))
theorem sj_iinc (F : sjF p s m args c cc nL Ts own D cI cZ cJ cT cC N ad ct A) {i : Nat} {n a : Int} (hdg : decode cc pc = .ok (.iinc i n, 3)) (hn : i < nL) (hg : lv[i]? = some (some (.int (iI a)))) (hv : sjS1 lv i (.int (iI (a + n))) = lv') (k : sj p l e R s m args below meth c D N ad ct A H0 nL Q (pc + 3) M L lv' st) : sj p l e R s m args below meth c D N ad ct A H0 nL Q pc M L lv st := by
  intro H locs ls hP hS hz hl
  obtain ⟨q, hq⟩ := List.getElem?_of_mem (sjPr_mem.mpr hg)
  exact lv_iinc F.1.1 F.1.2.1 hdg (sjH_has hl) hq (iI_add a n) hn rfl (fun ls' hl' => k H locs ls' hP hS hz (hv ▸ sjH_of1 hl'))
theorem sj_iadd (F : sjF p s m args c cc nL Ts own D cI cZ cJ cT cC N ad ct A) {a b : Int} (hdg : decode cc pc = .ok (.iadd, 1)) (k : sj p l e R s m args below meth c D N ad ct A H0 nL Q (pc + 1) M L lv (.int (iI (a + b)) :: st)) : sj p l e R s m args below meth c D N ad ct A H0 nL Q pc M L lv (.int (iI b) :: .int (iI a) :: st) := by
  rw [← iI_add] at k
  exact fun H locs ls hP hS hz hl => lv_iadd F.1.1 F.1.2.1 hdg (k H locs ls hP hS hz hl)
theorem sj_isub (F : sjF p s m args c cc nL Ts own D cI cZ cJ cT cC N ad ct A) {a b : Int} (hdg : decode cc pc = .ok (.isub, 1)) (k : sj p l e R s m args below meth c D N ad ct A H0 nL Q (pc + 1) M L lv (.int (iI (a - b)) :: st)) : sj p l e R s m args below meth c D N ad ct A H0 nL Q pc M L lv (.int (iI b) :: .int (iI a) :: st) := by
  rw [← iI_sub] at k
  exact fun H locs ls hP hS hz hl => lv_isub F.1.1 F.1.2.1 hdg (k H locs ls hP hS hz hl)
theorem sj_imul (F : sjF p s m args c cc nL Ts own D cI cZ cJ cT cC N ad ct A) {a b : Int} (hdg : decode cc pc = .ok (.imul, 1)) (k : sj p l e R s m args below meth c D N ad ct A H0 nL Q (pc + 1) M L lv (.int (iI (a * b)) :: st)) : sj p l e R s m args below meth c D N ad ct A H0 nL Q pc M L lv (.int (iI b) :: .int (iI a) :: st) := by
  rw [← iI_mul] at k
  exact fun H locs ls hP hS hz hl => lv_imul F.1.1 F.1.2.1 hdg (k H locs ls hP hS hz hl)
theorem sj_iand (F : sjF p s m args c cc nL Ts own D cI cZ cJ cT cC N ad ct A) {x y : Int32} (hdg : decode cc pc = .ok (.iand, 1)) (k : sj p l e R s m args below meth c D N ad ct A H0 nL Q (pc + 1) M L lv (.int (x &&& y) :: st)) : sj p l e R s m args below meth c D N ad ct A H0 nL Q pc M L lv (.int y :: .int x :: st) :=
  fun H locs ls hP hS hz hl => lv_iand F.1.1 F.1.2.1 hdg (k H locs ls hP hS hz hl)
theorem sj_ior (F : sjF p s m args c cc nL Ts own D cI cZ cJ cT cC N ad ct A) {x y : Int32} (hdg : decode cc pc = .ok (.ior, 1)) (k : sj p l e R s m args below meth c D N ad ct A H0 nL Q (pc + 1) M L lv (.int (x ||| y) :: st)) : sj p l e R s m args below meth c D N ad ct A H0 nL Q pc M L lv (.int y :: .int x :: st) :=
  fun H locs ls hP hS hz hl => lv_ior F.1.1 F.1.2.1 hdg (k H locs ls hP hS hz hl)
theorem sj_ixor (F : sjF p s m args c cc nL Ts own D cI cZ cJ cT cC N ad ct A) {x y : Int32} (hdg : decode cc pc = .ok (.ixor, 1)) (k : sj p l e R s m args below meth c D N ad ct A H0 nL Q (pc + 1) M L lv (.int (x ^^^ y) :: st)) : sj p l e R s m args below meth c D N ad ct A H0 nL Q pc M L lv (.int y :: .int x :: st) :=
  fun H locs ls hP hS hz hl => lv_ixor F.1.1 F.1.2.1 hdg (k H locs ls hP hS hz hl)
theorem sj_ishl (F : sjF p s m args c cc nL Ts own D cI cZ cJ cT cC N ad ct A) {x y : Int32} (hdg : decode cc pc = .ok (.ishl, 1)) (k : sj p l e R s m args below meth c D N ad ct A H0 nL Q (pc + 1) M L lv (.int (x <<< (y &&& 31)) :: st)) : sj p l e R s m args below meth c D N ad ct A H0 nL Q pc M L lv (.int y :: .int x :: st) :=
  fun H locs ls hP hS hz hl => lv_ishl F.1.1 F.1.2.1 hdg (k H locs ls hP hS hz hl)
theorem sj_ishr (F : sjF p s m args c cc nL Ts own D cI cZ cJ cT cC N ad ct A) {x y : Int32} (hdg : decode cc pc = .ok (.ishr, 1)) (k : sj p l e R s m args below meth c D N ad ct A H0 nL Q (pc + 1) M L lv (.int (x >>> (y &&& 31)) :: st)) : sj p l e R s m args below meth c D N ad ct A H0 nL Q pc M L lv (.int y :: .int x :: st) :=
  fun H locs ls hP hS hz hl => lv_ishr F.1.1 F.1.2.1 hdg (k H locs ls hP hS hz hl)
theorem sj_iushr (F : sjF p s m args c cc nL Ts own D cI cZ cJ cT cC N ad ct A) {x y : Int32} (hdg : decode cc pc = .ok (.iushr, 1)) (k : sj p l e R s m args below meth c D N ad ct A H0 nL Q (pc + 1) M L lv (.int (x.toUInt32 >>> (y.toUInt32 &&& Int32.toUInt32 31)).toInt32 :: st)) : sj p l e R s m args below meth c D N ad ct A H0 nL Q pc M L lv (.int y :: .int x :: st) :=
  fun H locs ls hP hS hz hl => lv_iushr F.1.1 F.1.2.1 hdg rfl (k H locs ls hP hS hz hl)
theorem sj_irem (F : sjF p s m args c cc nL Ts own D cI cZ cJ cT cC N ad ct A) {x y : Int32} (hdg : decode cc pc = .ok (.irem, 1)) (hne : ¬ y = 0) (k : sj p l e R s m args below meth c D N ad ct A H0 nL Q (pc + 1) M L lv (.int (x - x / y * y) :: st)) : sj p l e R s m args below meth c D N ad ct A H0 nL Q pc M L lv (.int y :: .int x :: st) :=
  fun H locs ls hP hS hz hl => lv_irem F.1.1 F.1.2.1 hdg hne (k H locs ls hP hS hz hl)
theorem sj_top {x y : Int32} (h : x = y) (k : sj p l e R s m args below meth c D N ad ct A H0 nL Q pc M L lv (.int y :: st)) : sj p l e R s m args below meth c D N ad ct A H0 nL Q pc M L lv (.int x :: st) := by
  rw [h]; exact k
theorem sj_mem {M' : sjM} {L' : sjL} (k : ∀ (M1 : sjM) (L1 : sjL), M1 = M' → L1 = L' → sj p l e R s m args below meth c D N ad ct A H0 nL Q pc M1 L1 lv st) : sj p l e R s m args below meth c D N ad ct A H0 nL Q pc M' L' lv st := k M' L' rfl rfl
theorem sj_ladd (F : sjF p s m args c cc nL Ts own D cI cZ cJ cT cC N ad ct A) {x y : Int64} (hdg : decode cc pc = .ok (.ladd, 1)) (k : sj p l e R s m args below meth c D N ad ct A H0 nL Q (pc + 1) M L lv (.long (x + y) :: st)) : sj p l e R s m args below meth c D N ad ct A H0 nL Q pc M L lv (.long y :: .long x :: st) :=
  fun H locs ls hP hS hz hl => lv_ladd F.1.1 F.1.2.1 hdg (k H locs ls hP hS hz hl)
theorem sj_lcmp (F : sjF p s m args c cc nL Ts own D cI cZ cJ cT cC N ad ct A) {x y : Int64} (hdg : decode cc pc = .ok (.lcmp, 1)) (k : sj p l e R s m args below meth c D N ad ct A H0 nL Q (pc + 1) M L lv (.int (lg_cmp x y) :: st)) : sj p l e R s m args below meth c D N ad ct A H0 nL Q pc M L lv (.long y :: .long x :: st) :=
  fun H locs ls hP hS hz hl => W.lcmp F.1.1 F.1.2.1 hdg (k H locs ls hP hS hz hl)
theorem sj_i2l (F : sjF p s m args c cc nL Ts own D cI cZ cJ cT cC N ad ct A) {x : Int32} (hdg : decode cc pc = .ok (.i2l, 1)) (k : sj p l e R s m args below meth c D N ad ct A H0 nL Q (pc + 1) M L lv (.long x.toInt64 :: st)) : sj p l e R s m args below meth c D N ad ct A H0 nL Q pc M L lv (.int x :: st) :=
  fun H locs ls hP hS hz hl => lv_i2l F.1.1 F.1.2.1 hdg rfl (k H locs ls hP hS hz hl)
theorem sj_dup (F : sjF p s m args c cc nL Ts own D cI cZ cJ cT cC N ad ct A) {v : Value} (hdg : decode cc pc = .ok (.dup, 1)) (hv : v.category = 1) (k : sj p l e R s m args below meth c D N ad ct A H0 nL Q (pc + 1) M L lv (v :: v :: st)) : sj p l e R s m args below meth c D N ad ct A H0 nL Q pc M L lv (v :: st) :=
  fun H locs ls hP hS hz hl => lv_dup F.1.1 F.1.2.1 hdg hv (k H locs ls hP hS hz hl)
theorem sj_dup2 (F : sjF p s m args c cc nL Ts own D cI cZ cJ cT cC N ad ct A) {v w : Value} (hdg : decode cc pc = .ok (.dup2, 1)) (hv : v.category = 1) (hw : w.category = 1) (k : sj p l e R s m args below meth c D N ad ct A H0 nL Q (pc + 1) M L lv (v :: w :: v :: w :: st)) : sj p l e R s m args below meth c D N ad ct A H0 nL Q pc M L lv (v :: w :: st) :=
  fun H locs ls hP hS hz hl => lv_dup2_11 F.1.1 F.1.2.1 hdg hv hw (k H locs ls hP hS hz hl)
theorem sj_pop (F : sjF p s m args c cc nL Ts own D cI cZ cJ cT cC N ad ct A) {v : Value} (hdg : decode cc pc = .ok (.pop, 1)) (hv : v.category = 1) (k : sj p l e R s m args below meth c D N ad ct A H0 nL Q (pc + 1) M L lv st) : sj p l e R s m args below meth c D N ad ct A H0 nL Q pc M L lv (v :: st) :=
  fun H locs ls hP hS hz hl => lv_pop F.1.1 F.1.2.1 hdg hv (k H locs ls hP hS hz hl)
theorem sj_null (F : sjF p s m args c cc nL Ts own D cI cZ cJ cT cC N ad ct A) (hdg : decode cc pc = .ok (.aconst_null, 1)) (k : sj p l e R s m args below meth c D N ad ct A H0 nL Q (pc + 1) M L lv (.null :: st)) : sj p l e R s m args below meth c D N ad ct A H0 nL Q pc M L lv st :=
  fun H locs ls hP hS hz hl => lv_null F.1.1 F.1.2.1 hdg (k H locs ls hP hS hz hl)
theorem sj_goto (F : sjF p s m args c cc nL Ts own D cI cZ cJ cT cC N ad ct A) {off : Int} (tgt : Nat) (hdg : decode cc pc = .ok (.goto off, 3)) (ht : (pc : Int) + off = (tgt : Int)) (k : sj p l e R s m args below meth c D N ad ct A H0 nL Q tgt M L lv st) : sj p l e R s m args below meth c D N ad ct A H0 nL Q pc M L lv st :=
  fun H locs ls hP hS hz hl => lv_goto F.1.1 F.1.2.1 hdg ht (k H locs ls hP hS hz hl)
theorem sj_ifnullN (F : sjF p s m args c cc nL Ts own D cI cZ cJ cT cC N ad ct A) {off : Int} (tgt : Nat) (hdg : decode cc pc = .ok (.ifnull off, 3)) (ht : (pc : Int) + off = (tgt : Int)) (k : sj p l e R s m args below meth c D N ad ct A H0 nL Q tgt M L lv st) : sj p l e R s m args below meth c D N ad ct A H0 nL Q pc M L lv (.null :: st) :=
  fun H locs ls hP hS hz hl => lv_ifnullN F.1.1 F.1.2.1 hdg ht (k H locs ls hP hS hz hl)
theorem sj_ifnull (F : sjF p s m args c cc nL Ts own D cI cZ cJ cT cC N ad ct A) {x : Nat} {off : Int} (hdg : decode cc pc = .ok (.ifnull off, 3)) (k : sj p l e R s m args below meth c D N ad ct A H0 nL Q (pc + 3) M L lv st) : sj p l e R s m args below meth c D N ad ct A H0 nL Q pc M L lv (.ref x :: st) :=
  fun H locs ls hP hS hz hl => lv_ifnull F.1.1 F.1.2.1 hdg (k H locs ls hP hS hz hl)
theorem sj_ifnonnullN (F : sjF p s m args c cc nL Ts own D cI cZ cJ cT cC N ad ct A) {off : Int} (hdg : decode cc pc = .ok (.ifnonnull off, 3)) (k : sj p l e R s m args below meth c D N ad ct A H0 nL Q (pc + 3) M L lv st) : sj p l e R s m args below meth c D N ad ct A H0 nL Q pc M L lv (.null :: st) :=
  fun H locs ls hP hS hz hl => lv_ifnonnullN F.1.1 F.1.2.1 hdg (k H locs ls hP hS hz hl)
theorem sj_ifnonnull (F : sjF p s m args c cc nL Ts own D cI cZ cJ cT cC N ad ct A) {x : Nat} {off : Int} (tgt : Nat) (hdg : decode cc pc = .ok (.ifnonnull off, 3)) (ht : (pc : Int) + off = (tgt : Int)) (k : sj p l e R s m args below meth c D N ad ct A H0 nL Q tgt M L lv st) : sj p l e R s m args below meth c D N ad ct A H0 nL Q pc M L lv (.ref x :: st) :=
  fun H locs ls hP hS hz hl => lv_ifnonnull F.1.1 F.1.2.1 hdg ht (k H locs ls hP hS hz hl)
end SJ
end
section
theorem sjz : rng 0 := ⟨by decide, by decide⟩
section SJC
variable {p : Program} {l : Launch} {e : Env} {R : Room} {s : State} {m : MethodId} {args : Array Value} {below : List Frame} {meth : Method} {c : Code} {cc : ByteArray} {nL : Nat} {Ts : List Cond} {own : String} {D : va_G} {cI cZ cJ cT cC : ClassId} {N : Nat} {ad : Nat → Nat} {ct : sjM → sjL → Nat → va_E} {A : Nat → Prop} {H0 : Heap} {Q : State → Prop} {pc : Nat} {M : sjM} {L : sjL} {lv lv' : List (Option Value)} {st : List Value}
theorem sj_icmp_eq (F : sjF p s m args c cc nL Ts own D cI cZ cJ cT cC N ad ct A) {a b : Int} (ha : rng a) (hb : rng b) {off : Int} (tgt : Nat) (hdg : decode cc pc = .ok (.if_icmp .eq off, 3)) (ht : (pc : Int) + off = (tgt : Int)) (kt : a = b → sj p l e R s m args below meth c D N ad ct A H0 nL Q (tgt) M L lv st) (kf : ¬ a = b → sj p l e R s m args below meth c D N ad ct A H0 nL Q (pc + 3) M L lv st) : sj p l e R s m args below meth c D N ad ct A H0 nL Q (pc) M L lv (.int (iI b) :: .int (iI a) :: st) :=
  fun H locs ls hP hS hz hl => lv_icmp_eq F.1.1 F.1.2.1 hdg ht (fun q => (fun q => kt ((iI_eq ha hb).mp q)) q H locs ls hP hS hz hl) (fun q => (fun q => kf (fun z => q ((iI_eq ha hb).mpr z))) q H locs ls hP hS hz hl)
theorem sj_if_eq (F : sjF p s m args c cc nL Ts own D cI cZ cJ cT cC N ad ct A) {a : Int} (ha : rng a) {off : Int} (tgt : Nat) (hdg : decode cc pc = .ok (.ifCond .eq off, 3)) (ht : (pc : Int) + off = (tgt : Int)) (kt : a = 0 → sj p l e R s m args below meth c D N ad ct A H0 nL Q (tgt) M L lv st) (kf : ¬ a = 0 → sj p l e R s m args below meth c D N ad ct A H0 nL Q (pc + 3) M L lv st) : sj p l e R s m args below meth c D N ad ct A H0 nL Q (pc) M L lv (.int (iI a) :: st) :=
  fun H locs ls hP hS hz hl => lv_if_eq F.1.1 F.1.2.1 hdg ht (fun q => (fun q => kt ((iI_eq ha sjz).mp q)) q H locs ls hP hS hz hl) (fun q => (fun q => kf (fun z => q ((iI_eq ha sjz).mpr z))) q H locs ls hP hS hz hl)
theorem sj_icmp_ne (F : sjF p s m args c cc nL Ts own D cI cZ cJ cT cC N ad ct A) {a b : Int} (ha : rng a) (hb : rng b) {off : Int} (tgt : Nat) (hdg : decode cc pc = .ok (.if_icmp .ne off, 3)) (ht : (pc : Int) + off = (tgt : Int)) (kt : ¬ a = b → sj p l e R s m args below meth c D N ad ct A H0 nL Q (tgt) M L lv st) (kf : a = b → sj p l e R s m args below meth c D N ad ct A H0 nL Q (pc + 3) M L lv st) : sj p l e R s m args below meth c D N ad ct A H0 nL Q (pc) M L lv (.int (iI b) :: .int (iI a) :: st) :=
  fun H locs ls hP hS hz hl => lv_icmp_ne F.1.1 F.1.2.1 hdg ht (fun q => (fun q => kt (fun z => q ((iI_eq ha hb).mpr z))) q H locs ls hP hS hz hl) (fun q => (fun q => kf ((iI_eq ha hb).mp q)) q H locs ls hP hS hz hl)
theorem sj_if_ne (F : sjF p s m args c cc nL Ts own D cI cZ cJ cT cC N ad ct A) {a : Int} (ha : rng a) {off : Int} (tgt : Nat) (hdg : decode cc pc = .ok (.ifCond .ne off, 3)) (ht : (pc : Int) + off = (tgt : Int)) (kt : ¬ a = 0 → sj p l e R s m args below meth c D N ad ct A H0 nL Q (tgt) M L lv st) (kf : a = 0 → sj p l e R s m args below meth c D N ad ct A H0 nL Q (pc + 3) M L lv st) : sj p l e R s m args below meth c D N ad ct A H0 nL Q (pc) M L lv (.int (iI a) :: st) :=
  fun H locs ls hP hS hz hl => lv_if_ne F.1.1 F.1.2.1 hdg ht (fun q => (fun q => kt (fun z => q ((iI_eq ha sjz).mpr z))) q H locs ls hP hS hz hl) (fun q => (fun q => kf ((iI_eq ha sjz).mp q)) q H locs ls hP hS hz hl)
theorem sj_icmp_lt (F : sjF p s m args c cc nL Ts own D cI cZ cJ cT cC N ad ct A) {a b : Int} (ha : rng a) (hb : rng b) {off : Int} (tgt : Nat) (hdg : decode cc pc = .ok (.if_icmp .lt off, 3)) (ht : (pc : Int) + off = (tgt : Int)) (kt : a < b → sj p l e R s m args below meth c D N ad ct A H0 nL Q (tgt) M L lv st) (kf : b ≤ a → sj p l e R s m args below meth c D N ad ct A H0 nL Q (pc + 3) M L lv st) : sj p l e R s m args below meth c D N ad ct A H0 nL Q (pc) M L lv (.int (iI b) :: .int (iI a) :: st) :=
  fun H locs ls hP hS hz hl => lv_icmp_lt F.1.1 F.1.2.1 hdg ht (fun q => (fun q => kt ((iI_lt ha hb).mp q)) q H locs ls hP hS hz hl) (fun q => (fun q => kf (Int.not_lt.mp (fun z => q ((iI_lt ha hb).mpr z)))) q H locs ls hP hS hz hl)
theorem sj_if_lt (F : sjF p s m args c cc nL Ts own D cI cZ cJ cT cC N ad ct A) {a : Int} (ha : rng a) {off : Int} (tgt : Nat) (hdg : decode cc pc = .ok (.ifCond .lt off, 3)) (ht : (pc : Int) + off = (tgt : Int)) (kt : a < 0 → sj p l e R s m args below meth c D N ad ct A H0 nL Q (tgt) M L lv st) (kf : 0 ≤ a → sj p l e R s m args below meth c D N ad ct A H0 nL Q (pc + 3) M L lv st) : sj p l e R s m args below meth c D N ad ct A H0 nL Q (pc) M L lv (.int (iI a) :: st) :=
  fun H locs ls hP hS hz hl => lv_if_lt F.1.1 F.1.2.1 hdg ht (fun q => (fun q => kt ((iI_lt ha sjz).mp q)) q H locs ls hP hS hz hl) (fun q => (fun q => kf (Int.not_lt.mp (fun z => q ((iI_lt ha sjz).mpr z)))) q H locs ls hP hS hz hl)
theorem sj_icmp_ge (F : sjF p s m args c cc nL Ts own D cI cZ cJ cT cC N ad ct A) {a b : Int} (ha : rng a) (hb : rng b) {off : Int} (tgt : Nat) (hdg : decode cc pc = .ok (.if_icmp .ge off, 3)) (ht : (pc : Int) + off = (tgt : Int)) (kt : b ≤ a → sj p l e R s m args below meth c D N ad ct A H0 nL Q (tgt) M L lv st) (kf : a < b → sj p l e R s m args below meth c D N ad ct A H0 nL Q (pc + 3) M L lv st) : sj p l e R s m args below meth c D N ad ct A H0 nL Q (pc) M L lv (.int (iI b) :: .int (iI a) :: st) :=
  fun H locs ls hP hS hz hl => lv_icmp_ge F.1.1 F.1.2.1 hdg ht (fun q => (fun q => kt ((iI_le hb ha).mp q)) q H locs ls hP hS hz hl) (fun q => (fun q => kf (Int.not_le.mp (fun z => q ((iI_le hb ha).mpr z)))) q H locs ls hP hS hz hl)
theorem sj_if_ge (F : sjF p s m args c cc nL Ts own D cI cZ cJ cT cC N ad ct A) {a : Int} (ha : rng a) {off : Int} (tgt : Nat) (hdg : decode cc pc = .ok (.ifCond .ge off, 3)) (ht : (pc : Int) + off = (tgt : Int)) (kt : 0 ≤ a → sj p l e R s m args below meth c D N ad ct A H0 nL Q (tgt) M L lv st) (kf : a < 0 → sj p l e R s m args below meth c D N ad ct A H0 nL Q (pc + 3) M L lv st) : sj p l e R s m args below meth c D N ad ct A H0 nL Q (pc) M L lv (.int (iI a) :: st) :=
  fun H locs ls hP hS hz hl => lv_if_ge F.1.1 F.1.2.1 hdg ht (fun q => (fun q => kt ((iI_le sjz ha).mp q)) q H locs ls hP hS hz hl) (fun q => (fun q => kf (Int.not_le.mp (fun z => q ((iI_le sjz ha).mpr z)))) q H locs ls hP hS hz hl)
theorem sj_icmp_gt (F : sjF p s m args c cc nL Ts own D cI cZ cJ cT cC N ad ct A) {a b : Int} (ha : rng a) (hb : rng b) {off : Int} (tgt : Nat) (hdg : decode cc pc = .ok (.if_icmp .gt off, 3)) (ht : (pc : Int) + off = (tgt : Int)) (kt : b < a → sj p l e R s m args below meth c D N ad ct A H0 nL Q (tgt) M L lv st) (kf : a ≤ b → sj p l e R s m args below meth c D N ad ct A H0 nL Q (pc + 3) M L lv st) : sj p l e R s m args below meth c D N ad ct A H0 nL Q (pc) M L lv (.int (iI b) :: .int (iI a) :: st) :=
  fun H locs ls hP hS hz hl => lv_icmp_gt F.1.1 F.1.2.1 hdg ht (fun q => (fun q => kt ((iI_lt hb ha).mp q)) q H locs ls hP hS hz hl) (fun q => (fun q => kf (Int.not_lt.mp (fun z => q ((iI_lt hb ha).mpr z)))) q H locs ls hP hS hz hl)
theorem sj_if_gt (F : sjF p s m args c cc nL Ts own D cI cZ cJ cT cC N ad ct A) {a : Int} (ha : rng a) {off : Int} (tgt : Nat) (hdg : decode cc pc = .ok (.ifCond .gt off, 3)) (ht : (pc : Int) + off = (tgt : Int)) (kt : 0 < a → sj p l e R s m args below meth c D N ad ct A H0 nL Q (tgt) M L lv st) (kf : a ≤ 0 → sj p l e R s m args below meth c D N ad ct A H0 nL Q (pc + 3) M L lv st) : sj p l e R s m args below meth c D N ad ct A H0 nL Q (pc) M L lv (.int (iI a) :: st) :=
  fun H locs ls hP hS hz hl => lv_if_gt F.1.1 F.1.2.1 hdg ht (fun q => (fun q => kt ((iI_lt sjz ha).mp q)) q H locs ls hP hS hz hl) (fun q => (fun q => kf (Int.not_lt.mp (fun z => q ((iI_lt sjz ha).mpr z)))) q H locs ls hP hS hz hl)
theorem sj_icmp_le (F : sjF p s m args c cc nL Ts own D cI cZ cJ cT cC N ad ct A) {a b : Int} (ha : rng a) (hb : rng b) {off : Int} (tgt : Nat) (hdg : decode cc pc = .ok (.if_icmp .le off, 3)) (ht : (pc : Int) + off = (tgt : Int)) (kt : a ≤ b → sj p l e R s m args below meth c D N ad ct A H0 nL Q (tgt) M L lv st) (kf : b < a → sj p l e R s m args below meth c D N ad ct A H0 nL Q (pc + 3) M L lv st) : sj p l e R s m args below meth c D N ad ct A H0 nL Q (pc) M L lv (.int (iI b) :: .int (iI a) :: st) :=
  fun H locs ls hP hS hz hl => lv_icmp_le F.1.1 F.1.2.1 hdg ht (fun q => (fun q => kt ((iI_le ha hb).mp q)) q H locs ls hP hS hz hl) (fun q => (fun q => kf (Int.not_le.mp (fun z => q ((iI_le ha hb).mpr z)))) q H locs ls hP hS hz hl)
theorem sj_if_le (F : sjF p s m args c cc nL Ts own D cI cZ cJ cT cC N ad ct A) {a : Int} (ha : rng a) {off : Int} (tgt : Nat) (hdg : decode cc pc = .ok (.ifCond .le off, 3)) (ht : (pc : Int) + off = (tgt : Int)) (kt : a ≤ 0 → sj p l e R s m args below meth c D N ad ct A H0 nL Q (tgt) M L lv st) (kf : 0 < a → sj p l e R s m args below meth c D N ad ct A H0 nL Q (pc + 3) M L lv st) : sj p l e R s m args below meth c D N ad ct A H0 nL Q (pc) M L lv (.int (iI a) :: st) :=
  fun H locs ls hP hS hz hl => lv_if_le F.1.1 F.1.2.1 hdg ht (fun q => (fun q => kt ((iI_le ha sjz).mp q)) q H locs ls hP hS hz hl) (fun q => (fun q => kf (Int.not_le.mp (fun z => q ((iI_le ha sjz).mpr z)))) q H locs ls hP hS hz hl)
end SJC
end
section
section SJM
variable {p : Program} {l : Launch} {e : Env} {R : Room} {s : State} {m : MethodId} {args : Array Value} {below : List Frame} {meth : Method} {c : Code} {cc : ByteArray} {nL : Nat} {Ts : List Cond} {own : String} {D : va_G} {cI cZ cJ cT cC : ClassId} {N : Nat} {ad : Nat → Nat} {ct : sjM → sjL → Nat → va_E} {A : Nat → Prop} {H0 : Heap} {Q : State → Prop} {pc : Nat} {M : sjM} {L : sjL} {lv lv' : List (Option Value)} {st : List Value}
theorem sj_iald (F : sjF p s m args c cc nL Ts own D cI cZ cJ cT cC N ad ct A) {k n : Nat} {z : Int} (hI : sjI N ct cI k n) (hz : 0 ≤ z ∧ z < n) (hdg : decode cc pc = .ok (.iaload, 1)) (kk : sj p l e R s m args below meth c D N ad ct A H0 nL Q (pc + 1) M L lv (.int (iI (M k z).toInt) :: st)) : sj p l e R s m args below meth c D N ad ct A H0 nL Q pc M L lv (.int (iI z) :: .ref (ad k) :: st) := by
  obtain ⟨hk, hn, hc⟩ := hI
  rw [iI_of] at kk
  intro H locs ls hP hS hsz hl
  refine va_iald (n := n) (f := fun j : Nat => M k (j : Int)) F.1.1 F.1.2.1 F.2.1 hP k 0 (by rw [sjW_get hk, hc]) rfl (iI_in hz.1 hz.2 hn) hdg ?_
  have h := iI_cl hz.1 (show z ≤ 5000 by omega)
  try dsimp only
  rw [h]
  exact kk H locs ls hP hS hsz hl
theorem sj_zald (F : sjF p s m args c cc nL Ts own D cI cZ cJ cT cC N ad ct A) {k n : Nat} {z : Int} (hI : sjI N ct cZ k n) (hz : 0 ≤ z ∧ z < n) (hdg : decode cc pc = .ok (.baload, 1)) (kk : sj p l e R s m args below meth c D N ad ct A H0 nL Q (pc + 1) M L lv (.int (iI (M k z).toInt) :: st)) : sj p l e R s m args below meth c D N ad ct A H0 nL Q pc M L lv (.int (iI z) :: .ref (ad k) :: st) := by
  obtain ⟨hk, hn, hc⟩ := hI
  rw [iI_of] at kk
  intro H locs ls hP hS hsz hl
  refine va_zald (n := n) (f := fun j : Nat => M k (j : Int)) F.1.1 F.1.2.1 F.2.1 hP k 1 (by rw [sjW_get hk, hc]) rfl (iI_in hz.1 hz.2 hn) hdg ?_
  have h := iI_cl hz.1 (show z ≤ 5000 by omega)
  try dsimp only
  rw [h]
  exact kk H locs ls hP hS hsz hl
theorem sj_lald (F : sjF p s m args c cc nL Ts own D cI cZ cJ cT cC N ad ct A) {k n : Nat} {z : Int} (hI : sjJ N ct cJ k n) (hz : 0 ≤ z ∧ z < n) (hdg : decode cc pc = .ok (.laload, 1)) (kk : sj p l e R s m args below meth c D N ad ct A H0 nL Q (pc + 1) M L lv (.long (L k z) :: st)) : sj p l e R s m args below meth c D N ad ct A H0 nL Q pc M L lv (.int (iI z) :: .ref (ad k) :: st) := by
  obtain ⟨hk, hn, hc⟩ := hI
  intro H locs ls hP hS hsz hl
  refine va_lald (n := n) (f := fun j : Nat => L k (j : Int)) F.1.1 F.1.2.1 F.2.1 hP k 2 (by rw [sjW_get hk, hc]) rfl (iI_in hz.1 hz.2 hn) hdg ?_
  have h := iI_cl hz.1 (show z ≤ 5000 by omega)
  try dsimp only
  rw [h]
  exact kk H locs ls hP hS hsz hl
theorem sj_aald (F : sjF p s m args c cc nL Ts own D cI cZ cJ cT cC N ad ct A) {k n : Nat} {z : Int} {cR : ClassId} {g : Int → Nat} (t0 : Nat) {C : String} (ht : (sjT cI cZ cJ cT cC)[t0]? = some (cR, .object C)) (hI : sjR N ct cR k n g) (hz : 0 ≤ z ∧ z < n) (hdg : decode cc pc = .ok (.aaload, 1)) (kk : sj p l e R s m args below meth c D N ad ct A H0 nL Q (pc + 1) M L lv (.ref (g z) :: st)) : sj p l e R s m args below meth c D N ad ct A H0 nL Q pc M L lv (.int (iI z) :: .ref (ad k) :: st) := by
  obtain ⟨hk, hn, hc⟩ := hI
  intro H locs ls hP hS hsz hl
  refine va_aldq (n := n) (f := fun j : Nat => some (g (j : Int))) F.1.1 F.1.2.1 F.2.1 hP k t0 (by rw [sjW_get hk, hc]) ht (iI_in hz.1 hz.2 hn) hdg ?_
  have h := iI_cl hz.1 (show z ≤ 5000 by omega)
  try dsimp only
  rw [h]
  exact kk H locs ls hP hS hsz hl
theorem sj_alenI (F : sjF p s m args c cc nL Ts own D cI cZ cJ cT cC N ad ct A) {k n : Nat} (hI : sjI N ct cI k n) (hdg : decode cc pc = .ok (.arraylength, 1)) (kk : sj p l e R s m args below meth c D N ad ct A H0 nL Q (pc + 1) M L lv (.int (iI n) :: st)) : sj p l e R s m args below meth c D N ad ct A H0 nL Q pc M L lv (.ref (ad k) :: st) := by
  obtain ⟨hk, hn, hc⟩ := hI
  intro H locs ls hP hS hsz hl
  exact va_alen F.1.1 F.1.2.1 F.2.1 hP k 0 (by rw [sjW_get hk, hc]) rfl (v := iI n) (by exact (Int32.ofInt_eq_ofNat).symm) hdg (kk H locs ls hP hS hsz hl)
theorem sj_alenJ (F : sjF p s m args c cc nL Ts own D cI cZ cJ cT cC N ad ct A) {k n : Nat} (hI : sjJ N ct cJ k n) (hdg : decode cc pc = .ok (.arraylength, 1)) (kk : sj p l e R s m args below meth c D N ad ct A H0 nL Q (pc + 1) M L lv (.int (iI n) :: st)) : sj p l e R s m args below meth c D N ad ct A H0 nL Q pc M L lv (.ref (ad k) :: st) := by
  obtain ⟨hk, hn, hc⟩ := hI
  intro H locs ls hP hS hsz hl
  exact va_alen F.1.1 F.1.2.1 F.2.1 hP k 2 (by rw [sjW_get hk, hc]) rfl (v := iI n) (by exact (Int32.ofInt_eq_ofNat).symm) hdg (kk H locs ls hP hS hsz hl)
theorem sj_alenR (F : sjF p s m args c cc nL Ts own D cI cZ cJ cT cC N ad ct A) {k n : Nat} {cR : ClassId} {g : Int → Nat} (t0 : Nat) {C : String} (ht : (sjT cI cZ cJ cT cC)[t0]? = some (cR, .object C)) (hI : sjR N ct cR k n g) (hdg : decode cc pc = .ok (.arraylength, 1)) (kk : sj p l e R s m args below meth c D N ad ct A H0 nL Q (pc + 1) M L lv (.int (iI n) :: st)) : sj p l e R s m args below meth c D N ad ct A H0 nL Q pc M L lv (.ref (ad k) :: st) := by
  obtain ⟨hk, hn, hc⟩ := hI
  intro H locs ls hP hS hsz hl
  exact va_alen F.1.1 F.1.2.1 F.2.1 hP k t0 (by rw [sjW_get hk, hc]) ht (v := iI n) (by exact (Int32.ofInt_eq_ofNat).symm) hdg (kk H locs ls hP hS hsz hl)
theorem sjW_put (F : sjF p s m args c cc nL Ts own D cI cZ cJ cT cC N ad ct A) {M' : sjM} {L' : sjL} {k : Nat} {a : va_E} (hk : k < N) (h1 : ∀ j, j ≠ k → M' j = M j) (h2 : ∀ j, j ≠ k → L' j = L j) (ha : ct M' L' k = a) : (sjW N ad (ct M L)).set k (ad k, a) = sjW N ad (ct M' L') :=
  sjW_set hk ha (fun j hj => F.2.2.2 M' M L' L j (h1 j hj) (h2 j hj))
theorem sj_iast (F : sjF p s m args c cc nL Ts own D cI cZ cJ cT cC N ad ct A) {k n : Nat} {z : Int} {x : Int32} (hI : sjI N ct cI k n) (hz : 0 ≤ z ∧ z < n) (hdg : decode cc pc = .ok (.iastore, 1)) (kk : sj p l e R s m args below meth c D N ad ct A H0 nL Q (pc + 1) (sjU M k z x) L lv st) : sj p l e R s m args below meth c D N ad ct A H0 nL Q pc M L lv (.int x :: .int (iI z) :: .ref (ad k) :: st) := by
  obtain ⟨hk, hn, hc⟩ := hI
  intro H locs ls hP hS hsz hl
  have hin := iI_in hz.1 hz.2 hn
  have hcell : (sjW N ad (ct M L))[k]? = some (ad k, .inl (cI, n, .inl (fun j : Nat => M k (j : Int)))) := by rw [sjW_get hk, hc]
  refine W.iast F.1.1 F.1.2.1 (hP k _ hcell) ((F.2.1.2 0 _ rfl).1 n (fun j => .int (M k (j : Int)))) (fun q => by cases q) (by show ¬ (iI z < 0 ∨ (arrV _ _ _).slots.size ≤ _); rw [arrV_size]; exact hin) rfl rfl hdg fun H1 e z1 oq => ?_
  have hA := (F.2.2.1 (ct M L)).2 k _ hcell
  have hput : (sjW N ad (ct M L)).set k (ad k, .inl (cI, n, .inl (fun j : Nat => sjU M k z x k (j : Int)))) = sjW N ad (ct (sjU M k z x) L) := sjW_put F hk (fun j hj => sjU_o hj) (fun j _ => rfl) (hc _ _)
  refine kk H1 _ ls ?_ (hS.put z1 oq hA) (z1.trans hsz) hl
  rw [← hput]
  refine hP.set (F.2.2.1 (ct M L)) hcell ?_ oq
  show H1[ad k]? = some (vp_cell _ _)
  rw [e]
  rw [vp_cell_i, vp_cell_i, arrV_store]
  congr 2
  funext q
  have h := iI_cl hz.1 (show z ≤ 5000 by omega)
  by_cases hq : q = (iI z).toNatClampNeg
  · subst hq
    simp [updV, sjU, h]
  · have hq2 : ¬ ((q : Int) = z) := fun w => hq (by omega)
    simp [updV, sjU, hq, hq2]
theorem sj_last (F : sjF p s m args c cc nL Ts own D cI cZ cJ cT cC N ad ct A) {k n : Nat} {z : Int} {x : Int64} (hI : sjJ N ct cJ k n) (hz : 0 ≤ z ∧ z < n) (hdg : decode cc pc = .ok (.lastore, 1)) (kk : sj p l e R s m args below meth c D N ad ct A H0 nL Q (pc + 1) M (sjV L k z x) lv st) : sj p l e R s m args below meth c D N ad ct A H0 nL Q pc M L lv (.long x :: .int (iI z) :: .ref (ad k) :: st) := by
  obtain ⟨hk, hn, hc⟩ := hI
  intro H locs ls hP hS hsz hl
  have hin := iI_in hz.1 hz.2 hn
  have hcell : (sjW N ad (ct M L))[k]? = some (ad k, .inl (cJ, n, .inr (.inl (fun j : Nat => L k (j : Int))))) := by rw [sjW_get hk, hc]
  refine W.last F.1.1 F.1.2.1 (hP k _ hcell) ((F.2.1.2 2 _ rfl).1 n (fun j => .long (L k (j : Int)))) (fun q => by cases q) (by show ¬ (iI z < 0 ∨ (arrV _ _ _).slots.size ≤ _); rw [arrV_size]; exact hin) rfl rfl hdg fun H1 e z1 oq => ?_
  have hA := (F.2.2.1 (ct M L)).2 k _ hcell
  have hput : (sjW N ad (ct M L)).set k (ad k, .inl (cJ, n, .inr (.inl (fun j : Nat => sjV L k z x k (j : Int))))) = sjW N ad (ct M (sjV L k z x)) := sjW_put F hk (fun j _ => rfl) (fun j hj => sjV_o hj) (hc _ _)
  refine kk H1 _ ls ?_ (hS.put z1 oq hA) (z1.trans hsz) hl
  rw [← hput]
  refine hP.set (F.2.2.1 (ct M L)) hcell ?_ oq
  show H1[ad k]? = some (vp_cell _ _)
  rw [e]
  rw [vp_cell_l, vp_cell_l, arrV_store]
  congr 2
  funext q
  have h := iI_cl hz.1 (show z ≤ 5000 by omega)
  by_cases hq : q = (iI z).toNatClampNeg
  · subst hq
    simp [updV, sjV, h]
  · have hq2 : ¬ ((q : Int) = z) := fun w => hq (by omega)
    simp [updV, sjV, hq, hq2]
end SJM
end
section
section SJO
variable {p : Program} {l : Launch} {e : Env} {R : Room} {s : State} {m : MethodId} {args : Array Value} {below : List Frame} {meth : Method} {c : Code} {cc : ByteArray} {nL : Nat} {Ts : List Cond} {own : String} {D : va_G} {cI cZ cJ cT cC : ClassId} {N : Nat} {ad : Nat → Nat} {ct : sjM → sjL → Nat → va_E} {A : Nat → Prop} {H0 : Heap} {Q : State → Prop} {pc : Nat} {M : sjM} {L : sjL} {lv lv' : List (Option Value)} {st : List Value}
theorem sj_zast (F : sjF p s m args c cc nL Ts own D cI cZ cJ cT cC N ad ct A) {k n : Nat} {z : Int} {x : Int32} (hI : sjI N ct cZ k n) (hz : 0 ≤ z ∧ z < n) (hx : vp_nar .boolean x = x) (hdg : decode cc pc = .ok (.bastore, 1)) (kk : sj p l e R s m args below meth c D N ad ct A H0 nL Q (pc + 1) (sjU M k z x) L lv st) : sj p l e R s m args below meth c D N ad ct A H0 nL Q pc M L lv (.int x :: .int (iI z) :: .ref (ad k) :: st) := by
  obtain ⟨hk, hn, hc⟩ := hI
  intro H locs ls hP hS hsz hl
  have hin := iI_in hz.1 hz.2 hn
  have hcell : (sjW N ad (ct M L))[k]? = some (ad k, .inl (cZ, n, .inl (fun j : Nat => M k (j : Int)))) := by rw [sjW_get hk, hc]
  refine W.zast F.1.1 F.1.2.1 (hP k _ hcell) ((F.2.1.2 1 _ rfl).1 n (fun j => .int (M k (j : Int)))) (fun q => by cases q) (by show ¬ (iI z < 0 ∨ (arrV _ _ _).slots.size ≤ _); rw [arrV_size]; exact hin) rfl rfl hdg fun H1 e z1 oq => ?_
  have hA := (F.2.2.1 (ct M L)).2 k _ hcell
  have hput : (sjW N ad (ct M L)).set k (ad k, .inl (cZ, n, .inl (fun j : Nat => sjU M k z x k (j : Int)))) = sjW N ad (ct (sjU M k z x) L) := sjW_put F hk (fun j hj => sjU_o hj) (fun j _ => rfl) (hc _ _)
  refine kk H1 _ ls ?_ (hS.put z1 oq hA) (z1.trans hsz) hl
  rw [← hput]
  refine hP.set (F.2.2.1 (ct M L)) hcell ?_ oq
  show H1[ad k]? = some (vp_cell _ _)
  rw [e]
  rw [vp_cell_i, vp_cell_i, arrV_store]
  congr 2
  funext q
  have h := iI_cl hz.1 (show z ≤ 5000 by omega)
  by_cases hq : q = (iI z).toNatClampNeg
  · subst hq
    have hx2 : narrow .boolean (.int x) = .int x := by
      have h3 : narrow .boolean (.int x) = .int (vp_nar .boolean x) := by first | rfl | simp [vp_nar, narrow]
      rw [h3, hx]
    simp [updV, sjU, h, hx2]
  · have hq2 : ¬ ((q : Int) = z) := fun w => hq (by omega)
    simp [updV, sjU, hq, hq2]
/-- a field that holds a cell -/
theorem sj_getR (F : sjF p s m args c cc nL Ts own D cI cZ cJ cT cC N ad ct A) {k ci n index a : Nat} {C ref : String} {T : u_T} {fs : sjM → List Value} (hin : ∀ w ∈ u_ws C T n, w ∈ Ts) (hO : sjO N ct ci k fs) (hc : vwCl[ci]? = some (C, T, n)) (j : Nat) (hj : j < n) (hlink : Cond.fieldLink own index ref (T j).2.1 (T j).2.2.1 ∈ Ts) (hsame : (T j).1 = ref) (hv : (fs M)[j]? = some (.ref a)) (hdg : decode cc pc = .ok (.getfield index, 3)) (kk : sj p l e R s m args below meth c D N ad ct A H0 nL Q (pc + 3) M L lv (.ref a :: st)) : sj p l e R s m args below meth c D N ad ct A H0 nL Q pc M L lv (.ref (ad k) :: st) := by
  obtain ⟨hk, hcc⟩ := hO
  intro H locs ls hP hS hsz hl
  exact va_get F.1.1 F.1.2.1 F.1.2.2.2.2 hin F.1.2.2.2.1 F.2.1 hP k (by rw [sjW_get hk, hcc]) hc j hj (F.1.2.2.2.2 _ hlink) (fun x hx => by rw [← hsame]; exact hx) hv hdg (kk H locs ls hP hS hsz hl)
theorem sj_getI (F : sjF p s m args c cc nL Ts own D cI cZ cJ cT cC N ad ct A) {k ci n index : Nat} {x : Int32} {C ref : String} {T : u_T} {fs : sjM → List Value} (hin : ∀ w ∈ u_ws C T n, w ∈ Ts) (hO : sjO N ct ci k fs) (hc : vwCl[ci]? = some (C, T, n)) (j : Nat) (hj : j < n) (hlink : Cond.fieldLink own index ref (T j).2.1 (T j).2.2.1 ∈ Ts) (hsame : (T j).1 = ref) (hv : (fs M)[j]? = some (.int x)) (hdg : decode cc pc = .ok (.getfield index, 3)) (kk : sj p l e R s m args below meth c D N ad ct A H0 nL Q (pc + 3) M L lv (.int (iI x.toInt) :: st)) : sj p l e R s m args below meth c D N ad ct A H0 nL Q pc M L lv (.ref (ad k) :: st) := by
  obtain ⟨hk, hcc⟩ := hO
  rw [iI_of] at kk
  intro H locs ls hP hS hsz hl
  exact va_get F.1.1 F.1.2.1 F.1.2.2.2.2 hin F.1.2.2.2.1 F.2.1 hP k (by rw [sjW_get hk, hcc]) hc j hj (F.1.2.2.2.2 _ hlink) (fun x hx => by rw [← hsame]; exact hx) hv hdg (kk H locs ls hP hS hsz hl)
theorem sj_put (F : sjF p s m args c cc nL Ts own D cI cZ cJ cT cC N ad ct A) {k ci n index : Nat} {z : Int} {x : Int32} {C ref : String} {T : u_T} {fs : sjM → List Value} (ty0 : Nat → FieldType) (hty : ∀ k, k < n → parseFieldDescriptor (T k).2.2.1 = some (ty0 k)) (hnm : ∀ a, a < n → ∀ b, b < n → a ≠ b → (T a).2.1 ≠ (T b).2.1) (hin : ∀ w ∈ u_ws C T n, w ∈ Ts) (hO : sjO N ct ci k fs) (hc : vwCl[ci]? = some (C, T, n)) (j : Nat) (hj : j < n) (hp : sjP k fs j z) (hlink : Cond.fieldLink own index ref (T j).2.1 (T j).2.2.1 ∈ Ts) (hsame : (T j).1 = ref) (hfin : (T j).2.2.2 = false) (hd : parseFieldDescriptor (T j).2.2.1 = some .int) (hdg : decode cc pc = .ok (.putfield index, 3)) (kk : sj p l e R s m args below meth c D N ad ct A H0 nL Q (pc + 3) (sjU M k z x) L lv st) : sj p l e R s m args below meth c D N ad ct A H0 nL Q pc M L lv (.int x :: .ref (ad k) :: st) := by
  obtain ⟨hk, hcc⟩ := hO
  intro H locs ls hP hS hsz hl
  have hcell : (sjW N ad (ct M L))[k]? = some (ad k, .inr (ci, fs M)) := by rw [sjW_get hk, hcc]
  have hll : j < (fs M).length := (List.getElem?_eq_some_iff.mp (hp.1 M)).1
  have hput : (sjW N ad (ct M L)).set k (ad k, .inr (ci, (fs M).set j (.int x))) = sjW N ad (ct (sjU M k z x) L) := sjW_put F hk (fun j hj => sjU_o hj) (fun j _ => rfl) (by rw [hcc, hp.2])
  have hts := F.1.2.2.2.2
  have hK := F.2.1
  have hD := F.2.2.1 (ct M L)
  have hap := va_apart (own := own) hts hin ty0 hty hnm hK hc
  obtain ⟨r, h1, cell, q1, q2, q3, q4⟩ := hP k _ hcell
  have hr : r = (C, T, n) := Option.some.inj (h1.symm.trans hc)
  subst hr
  obtain ⟨hS1, hfc, kC, hkC, hkind⟩ := hK.1 ci _ hc
  obtain ⟨cf, kf, fi, f, hi, hsl⟩ := hS1 j hj
  have hlay := hts _ (hin _ (u_in_lay hj))
  unfold u_lay at hlay
  rw [if_neg (by rw [hfin]; decide)] at hlay
  have hst := (u_facts hfc hkC (u_lays hts hin hj) hi).1
  have h6 := u_store hfc hkC hkind hlay hi hd (v := .int x) rfl rfl
  refine W.putK F.1.1 F.1.2.1 (f := f) ⟨F.1.2.2.2.1, hts _ hlink, ⟨_, _, _, (by rw [← hsame]; exact hi)⟩, hst⟩ (by rw [q2]; exact h6) q1 q3 (by rw [hsl]; exact k2_hasslot (q4 j hj)) rfl rfl hdg fun H' e1 e2 e3 => ?_
  rw [hsl] at e1 ⊢
  refine kk H' _ ls ?_ (hS.put e2 e3 (hD.2 k _ hcell)) (e2.trans hsz) hl
  rw [← hput]
  exact hP.set hD hcell ⟨_, hc, t_OB.to (V := updV (vp_V (fs M)) j (.int x)) ⟨_, e1, q2, q3, t_set q4 hap hj (.int x)⟩ (fun i _ => vp_updV_set hll (.int x) i)⟩ e3
end SJO
/-- a contract's start and end, in the flat memory -/
def sjA (D : va_G) (cI cZ cJ cT cC : ClassId) (N : Nat) (ad : Nat → Nat) (ct : sjM → sjL → Nat → va_E) (av : List Value) (M : sjM) (L : sjL) : Array Value → State → Prop := va_Pc av (fun U => va_P D vwCl (sjW N ad (ct M L)) U.heap ∧ va_K D vwCl (sjT cI cZ cJ cT cC) U)
def sjZ (D : va_G) (N : Nat) (ad : Nat → Nat) (ct : sjM → sjL → Nat → va_E) (A : Nat → Prop) (post : Option Value → sjM → sjL → Prop) : Array Value → State → Outcome → State → Prop := fun _ u o t => ∃ (v : Option Value) (M : sjM) (L : sjL), o = .returned v ∧ post v M L ∧ va_P D vwCl (sjW N ad (ct M L)) t.heap ∧ t.heap.size = u.heap.size ∧ ∀ q : Nat, q < u.heap.size → ¬ A q → t.heap[q]? = u.heap[q]?
theorem sjA_blind (D : va_G) (cI cZ cJ cT cC : ClassId) (N : Nat) (ad : Nat → Nat) (ct : sjM → sjL → Nat → va_E) (av : List Value) (M : sjM) (L : sjL) : FrameBlind (sjA D cI cZ cJ cT cC N ad ct av M L) := fun a U g mk q => ⟨q.1, q.2.1, va_K.moved (u := U) (U := U.calling g mk a) (Vm.Alike.refl U.vm) q.2.2⟩
section SJE
variable {p : Program} {l : Launch} {e : Env} {R : Room} {s : State} {m : MethodId} {args : Array Value} {below : List Frame} {meth : Method} {c : Code} {cc : ByteArray} {nL : Nat} {Ts : List Cond} {own : String} {D : va_G} {cI cZ cJ cT cC : ClassId} {N : Nat} {ad : Nat → Nat} {ct : sjM → sjL → Nat → va_E} {A : Nat → Prop} {H0 : Heap} {Q : State → Prop} {pc : Nat} {M : sjM} {L : sjL} {lv lv' : List (Option Value)} {st : List Value}
theorem sj_call (F : sjF p s m args c cc nL Ts own D cI cZ cJ cT cC N ad ct A) {y : MethodName} {bytes : ByteArray} {maxL n index k ci nn : Nat} {ret : Option FieldType} {ws ws' : List Cond} {rm : Room} {C : String} {T : u_T} {As rest : List Value} {post : Option Value → sjM → sjL → Prop} {fs : sjM → List Value}
    (hM : Met l y ws rm (sjA D cI cZ cJ cT cC N ad ct (.ref (ad k) :: As) M L) (sjZ D N ad ct A post) 0 0 A) (hT : GoodIn Ts (wsV own index C y ws)) (hO : sjO N ct ci k fs) (hc : vwCl[ci]? = some (C, T, nn)) (hw : ws = Cond.code y bytes maxL ret :: ws') (hd : y.cls = C ∧ y.cls ≠ "java/lang/invoke/MethodHandle" ∧ y.cls ≠ "java/lang/invoke/VarHandle" ∧ (parseMethodDescriptor y.desc).map (fun d => d.parameters.length) = some n) (hrc : rm.cells = 0) (hrs : rm.slots = 0) (hR : rm.frames + 1 ≤ R.frames ∧ 8 + (maxL + 11) + rm.locals ≤ R.locals) (hn : As.length = n) (hst : st = As.reverse ++ .ref (ad k) :: rest) (hW : (rest.map fun v => v.category).sum ≤ 8) (hdg : decode cc pc = .ok (.invokevirtual index, 3))
    (kk : ∀ (v : Option Value) (M1 : sjM) (L1 : sjL), post v M1 L1 → sj p l e R s m args below meth c D N ad ct A H0 nL Q (pc + 3) M1 L1 lv (v.toList ++ rest)) : sj p l e R s m args below meth c D N ad ct A H0 nL Q pc M L lv st := by
  intro H locs ls hP hS hsz hl T0 hT0 X
  obtain ⟨hk, hcc⟩ := hO
  have hcell : (sjW N ad (ct M L))[k]? = some (ad k, .inr (ci, fs M)) := by rw [sjW_get hk, hcc]
  obtain ⟨v, u0, t, T', L2, h0, X', hL, e1, e2, ⟨v', M', L', hv, hpost, hP', hz', hk'⟩, steps⟩ := va_runV (g := F0 m pc ls st) (cells := 0) (slots := 0) (locs := locs) (As := As) (rest := rest) (below := below) (meth := meth) F.1 hM (cwV n F.1.2.2.2.2 hT hw hrc hrs hd hR) ⟨sjA_blind D cI cZ cJ cT cC N ad ct _ M L, va_recv F.2.1 hP hc hcell, fun U hU hW => ⟨rfl, by rw [hU]; exact hP, va_K.moved hW.alike F.2.1⟩⟩ rfl hn hl.1 hst (lv_room hW) hdg ⟨Nat.zero_le _, Nat.zero_le _⟩ T0 hT0 X
  cases hv
  rw [h0] at hz' hk'
  obtain ⟨t2, a1, b1⟩ := kk v M' L' hpost T'.heap (locs ++ L2) ls (by rw [e1]; exact hP') ⟨by rw [e1, hz']; exact hS.1, fun q h1 h2 => by rw [e1, hk' q (Nat.lt_of_lt_of_le h1 hS.1) h2]; exact hS.2.1 q h1 h2, fun q hq => by
      rcases List.mem_append.mp hq with h | h
      · exact hS.2.2 q h
      · exact hL q h⟩ (by rw [e1, hz', hsz]) hl T' rfl X'
  exact ⟨t2, steps t2 a1, b1⟩
theorem sj_min (F : sjF p s m args c cc nL Ts own D cI cZ cJ cT cC N ad ct A) {index : Nat} {a b : Int} (ha : rng a) (hb : rng b) (hlink : Cond.methodLink own index Lib.Math.min.name ∈ Ts) (hstat : Cond.static Lib.Math.min.name ∈ Ts) (hini : Cond.initialized "java/lang/Math" ∈ Ts) (hcode : Cond.code Lib.Math.min.name Lib.Math.min.code 2 (some .int) ∈ Ts) (hframes : 1 ≤ R.frames) (hlocals : (st.map fun v => v.category).sum + 13 ≤ R.locals) (hdg : decode cc pc = .ok (.invokestatic index, 3))
    (kk : sj p l e R s m args below meth c D N ad ct A H0 nL Q (pc + 3) M L lv (.int (iI (if b < a then b else a)) :: st)) : sj p l e R s m args below meth c D N ad ct A H0 nL Q pc M L lv (.int (iI b) :: .int (iI a) :: st) := by
  intro H locs ls hP hS hsz hl
  refine va_mmin F.1.1 F.1.2.1 (by rw [F.1.2.2.1, hl.1]) F.1.2.2.2.1 (F.1.2.2.2.2 _ hlink) (F.1.2.2.2.2 _ hstat) (F.1.2.2.2.2 _ hini) (F.1.2.2.2.2 _ hcode) hframes hlocals (Nat.zero_le _) (Nat.zero_le _) hdg ?_
  have h : (if iI b < iI a then iI b else iI a) = iI (if b < a then b else a) := by
    by_cases q : b < a
    · rw [if_pos q, if_pos ((iI_lt hb ha).mpr q)]
    · rw [if_neg q, if_neg (fun w => q ((iI_lt hb ha).mp w))]
  rw [h]
  exact kk H locs ls hP hS hsz hl
theorem sj_iret (F : sjF p s m args c cc nL Ts own D cI cZ cJ cT cC N ad ct A) {x : Int32} {post : Option Value → sjM → sjL → Prop} (hr : meth.sig.returnType = some .int) (hlocks : meth.locks = false) (hdg : decode cc pc = .ok (.ireturn, 1)) (h : post (some (.int x)) M L) : sj p l e R s m args below meth c D N ad ct A s.heap nL (MQ below (sjZ D N ad ct A post) args s 0 0 A) pc M L lv [.int x] :=
  fun H locs ls hP hS hsz hl => W.iret F.1.1 F.1.2.1 hr (fun t ht hW => ⟨_, M, L, rfl, h, by rw [ht]; exact hP, by rw [ht, hsz], fun q h1 h2 => by rw [ht]; exact hS.2.1 q h1 h2⟩) hS.2.2 hdg hlocks
theorem sj_zret (F : sjF p s m args c cc nL Ts own D cI cZ cJ cT cC N ad ct A) {x : Int32} {post : Option Value → sjM → sjL → Prop} (hr : meth.sig.returnType = some .boolean) (hx : vp_nar .boolean x = x) (hlocks : meth.locks = false) (hdg : decode cc pc = .ok (.ireturn, 1)) (h : post (some (.int x)) M L) : sj p l e R s m args below meth c D N ad ct A s.heap nL (MQ below (sjZ D N ad ct A post) args s 0 0 A) pc M L lv [.int x] :=
  fun H locs ls hP hS hsz hl => W.zret F.1.1 F.1.2.1 hr (by
      have h3 : narrow .boolean (.int x) = .int (vp_nar .boolean x) := by first | rfl | simp [vp_nar, narrow]
      rw [h3, hx]) (fun t ht hW => ⟨_, M, L, rfl, h, by rw [ht]; exact hP, by rw [ht, hsz], fun q h1 h2 => by rw [ht]; exact hS.2.1 q h1 h2⟩) hS.2.2 hdg hlocks
theorem sj_lret (F : sjF p s m args c cc nL Ts own D cI cZ cJ cT cC N ad ct A) {x : Int64} {post : Option Value → sjM → sjL → Prop} (hr : meth.sig.returnType = some .long) (hlocks : meth.locks = false) (hdg : decode cc pc = .ok (.lreturn, 1)) (h : post (some (.long x)) M L) : sj p l e R s m args below meth c D N ad ct A s.heap nL (MQ below (sjZ D N ad ct A post) args s 0 0 A) pc M L lv [.long x] :=
  fun H locs ls hP hS hsz hl => W.lret F.1.1 F.1.2.1 hr (fun t ht hW => ⟨_, M, L, rfl, h, by rw [ht]; exact hP, by rw [ht, hsz], fun q h1 h2 => by rw [ht]; exact hS.2.1 q h1 h2⟩) hS.2.2 hdg hlocks
theorem sj_vret (F : sjF p s m args c cc nL Ts own D cI cZ cJ cT cC N ad ct A) {post : Option Value → sjM → sjL → Prop} (hr : meth.sig.returnType = none) (hlocks : meth.locks = false) (hdg : decode cc pc = .ok (.return_, 1)) (h : post none M L) : sj p l e R s m args below meth c D N ad ct A s.heap nL (MQ below (sjZ D N ad ct A post) args s 0 0 A) pc M L lv [] :=
  fun H locs ls hP hS hsz hl => W.vret F.1.1 F.1.2.1 hr (fun t ht hW => ⟨_, M, L, rfl, h, by rw [ht]; exact hP, by rw [ht, hsz], fun q h1 h2 => by rw [ht]; exact hS.2.1 q h1 h2⟩) hS.2.2 hdg hlocks
theorem sj_aret (F : sjF p s m args c cc nL Ts own D cI cZ cJ cT cC N ad ct A) {v : Value} {rt : FieldType} {post : Option Value → sjM → sjL → Prop} (hr : meth.sig.returnType = some rt) (hrt : (∃ n, rt = .object n) ∨ ∃ t, rt = .array t) (hv : v = .null ∨ ∃ a, v = .ref a) (hlocks : meth.locks = false) (hdg : decode cc pc = .ok (.areturn, 1)) (h : post (some v) M L) : sj p l e R s m args below meth c D N ad ct A s.heap nL (MQ below (sjZ D N ad ct A post) args s 0 0 A) pc M L lv [v] :=
  fun H locs ls hP hS hsz hl => W.aret F.1.1 F.1.2.1 hr hrt hv (fun t ht hW => ⟨_, M, L, rfl, h, by rw [ht]; exact hP, by rw [ht, hsz], fun q h1 h2 => by rw [ht]; exact hS.2.1 q h1 h2⟩) hS.2.2 hdg hlocks
theorem lv_args1 : ∀ (av : List Value) (o : Nat), (∀ v ∈ av, v.category = 1) → ∀ (i : Nat) (v : Value), av[i]? = some v → (o + i, v) ∈ lv_args o av
  | [], _, _, i, v, h => by simp at h
  | w :: av, o, hc, 0, v, h => by
    simp at h
    subst h
    simp [lv_args]
  | w :: av, o, hc, i + 1, v, h => by
    simp only [List.getElem?_cons_succ] at h
    have hw : ¬ w.category = 2 := by rw [hc w List.mem_cons_self]; decide
    simp only [lv_args, if_neg hw]
    refine List.mem_cons_of_mem _ ?_
    have := lv_args1 av (o + 1) (fun v hv => hc v (List.mem_cons_of_mem _ hv)) i v h
    rw [show o + (i + 1) = o + 1 + i by omega]
    exact this
theorem sj_met {y : MethodName} {ws ws' : List Cond} {rm : Room} {maxL : Nat} {ret : Option FieldType} {av : List Value} {post : Option Value → sjM → sjL → Prop} (hy : plainName y.cls = true) (hw : ws = Cond.code y cc maxL ret :: ws') (hD : ∀ g : Nat → va_E, va_D A (sjW N ad g)) (hloc : ∀ (M M' : sjM) (L L' : sjL) (k : Nat), M k = M' k → L k = L' k → ct M L k = ct M' L' k)
    (hav : ∀ v ∈ av, v.category = 1) (hlen : (lg_sl av).length ≤ maxL) (hlv : av.map some ++ List.replicate (maxL - av.length) none = lv)
    (body : ∀ (p : Program) (e : Env) (s : State) (m : MethodId) (args : Array Value) (below : List Frame) (meth : Method) (c : Code), sjF p s m args c cc maxL ws y.cls D cI cZ cJ cT cC N ad ct A → meth.sig.returnType = ret → meth.locks = false → sj p l e (headSpec ws rm).room s m args below meth c D N ad ct A s.heap maxL (MQ below (sjZ D N ad ct A post) args s 0 0 A) 0 M L lv []) : Met l y ws rm (sjA D cI cZ cJ cT cC N ad ct av M L) (sjZ D N ad ct A post) 0 0 A := by
  refine Met.ofW (cc := cc) (maxL := maxL) (ret := ret) hy hw ?_
  intro p e s m args below meth c s₁ B hml hv
  obtain ⟨rfl, hP, hK⟩ := hv
  have hl := lv_entry av (n := maxL) hlen
  rw [lg_entry_eq]
  refine body p e s m _ below meth c ⟨⟨B.exec, B.bytes, hml, findClass_of_methodNamed B.named, atoms_spec (ws := ws) B.pre⟩, hK, hD, hloc⟩ B.returns B.notSynchronized s.heap [] _ hP va_S.rf rfl ⟨hl.1, hl.2.1, fun i v hi => ?_⟩
  rw [← hlv] at hi
  by_cases hlt : i < av.length
  · rw [List.getElem?_append_left (by simpa using hlt), List.getElem?_map] at hi
    have hi2 : av[i]? = some v := by
      cases hq : av[i]? with
      | none => rw [hq] at hi; cases hi
      | some w => rw [hq] at hi; cases hi; rfl
    have h9 := lv_args1 av 0 hav i v hi2
    rw [Nat.zero_add] at h9
    exact hl.2.2 (i, v) h9
  · rw [List.getElem?_append_right (by simp; omega), List.getElem?_replicate] at hi
    split at hi <;> cases hi
end SJE
end
section
/-! the class's world: 89 cells. 0 the page; 1 texts, 2 copies, 3 spares; 4 the orders, 5 ways, 6 followers; 7 drawing; 8 written; 9 + 10 t + j: text t; 29 + 5 i + j: copy i (5 t + site; 10, 11 the spares) -/
def tI (i : Nat) : Nat := if i < 5 then 0 else if i < 10 then 1 else if i = 10 then 0 else 1
theorem tI_lt (i : Nat) : tI i < 2 := by unfold tI; (repeat' split) <;> omega
def fPage (ad : Nat → Nat) (M : sjM) : List Value := [.ref (ad 1), .ref (ad 2), .ref (ad 3), .ref (ad 4), .ref (ad 7), .ref (ad 8), .int (M 0 0)]
def fFree (ad : Nat → Nat) (_ : sjM) : List Value := [.ref (ad 5), .ref (ad 6)]
def fText (ad : Nat → Nat) (k : Nat) (w : Int32) (M : sjM) : List Value := [.int w, .ref (ad (k + 1)), .ref (ad (k + 2)), .ref (ad (k + 3)), .ref (ad (k + 4)), .ref (ad (k + 5)), .ref (ad (k + 6)), .ref (ad (k + 7)), .ref (ad (k + 8)), .ref (ad (k + 9)), .int (M k 0), .int (M k 1), .int (M k 2)]
def fCopy (ad : Nat → Nat) (k t : Nat) (M : sjM) : List Value := [.ref (ad (9 + 10 * t)), .ref (ad (k + 1)), .ref (ad (k + 2)), .ref (ad (k + 3)), .ref (ad (k + 4)), .int (M k 0), .int (M k 1), .int (M k 2), .int (M k 3), .int (M k 4), .int (M k 5), .int (M k 6)]
def wI (c : ClassId) (n k : Nat) (M : sjM) : va_E := .inl (c, n, .inl (fun j : Nat => M k (j : Int)))
def wooti (t : Nat) : Int32 := if t = 0 then 1 else 0
def kC (cI cZ cJ cT cC : ClassId) (ad : Nat → Nat) (M : sjM) (L : sjL) (k : Nat) : va_E :=
  if k < 9 then
    (if k = 0 then .inr (3, fPage ad M) else if k = 1 then .inl (cT, 2, .inr (.inr (.inr (.inr (fun j : Nat => some (ad (9 + 10 * (j : Int).toNat))))))) else if k = 2 then .inl (cC, 10, .inr (.inr (.inr (.inr (fun j : Nat => some (ad (29 + 5 * (j : Int).toNat))))))) else if k = 3 then .inl (cC, 2, .inr (.inr (.inr (.inr (fun j : Nat => some (ad (29 + 5 * (10 + (j : Int).toNat)))))))) else if k = 4 then .inr (1, fFree ad M) else if k = 5 then .inl (cJ, 4096, .inr (.inl (fun j : Nat => L k (j : Int)))) else if k = 6 then wI cI 12 k M else if k = 7 then wI cI 160 k M else wI cI 60 k M)
  else if k < 29 then
    (if (k - 9) % 10 = 0 then .inr (2, fText ad k (wooti ((k - 9) / 10)) M) else if (k - 9) % 10 < 6 then wI cI 60 k M else if (k - 9) % 10 < 9 then wI cI 160 k M else wI cI 5 k M)
  else
    (if (k - 29) % 5 = 0 then .inr (0, fCopy ad k (tI ((k - 29) / 5)) M) else if (k - 29) % 5 = 3 then wI cZ 60 k M else if (k - 29) % 5 = 4 then wI cI 160 k M else wI cI 60 k M)
section WC
variable {cI cZ cJ cT cC : ClassId} {ad : Nat → Nat}
theorem kC_loc : ∀ (M M' : sjM) (L L' : sjL) (k : Nat), M k = M' k → L k = L' k → kC cI cZ cJ cT cC ad M L k = kC cI cZ cJ cT cC ad M' L' k := by
  intro M M' L L' k h1 h2
  unfold kC fPage fFree fText fCopy wI
  by_cases h0 : k = 0
  · subst h0
    simp [h1]
  · simp [h0, h1, h2]
theorem oPage : sjO 89 (kC cI cZ cJ cT cC ad) 3 0 (fPage ad) := ⟨by omega, fun M L => by simp [kC]⟩
theorem oFree : sjO 89 (kC cI cZ cJ cT cC ad) 1 4 (fFree ad) := ⟨by omega, fun M L => by simp [kC]⟩
theorem oText (t : Nat) (ht : t < 2) : sjO 89 (kC cI cZ cJ cT cC ad) 2 (9 + 10 * t) (fText ad (9 + 10 * t) (wooti t)) := by
  refine ⟨by omega, fun M L => ?_⟩
  have h1 : ¬ (9 + 10 * t < 9) := by omega
  have h2 : 9 + 10 * t < 29 := by omega
  have h3 : (9 + 10 * t - 9) % 10 = 0 := by omega
  have h4 : (9 + 10 * t - 9) / 10 = t := by omega
  simp only [kC, h1, h2, h3, h4, if_true, if_false]
theorem oCopy (i : Nat) (hi : i < 12) : sjO 89 (kC cI cZ cJ cT cC ad) 0 (29 + 5 * i) (fCopy ad (29 + 5 * i) (tI i)) := by
  refine ⟨by omega, fun M L => ?_⟩
  have h1 : ¬ (29 + 5 * i < 9) := by omega
  have h2 : ¬ (29 + 5 * i < 29) := by omega
  have h3 : (29 + 5 * i - 29) % 5 = 0 := by omega
  have h4 : (29 + 5 * i - 29) / 5 = i := by omega
  simp only [kC, h1, h2, h3, h4, if_true, if_false]
theorem aTexts : sjR 89 (kC cI cZ cJ cT cC ad) cT 1 2 (fun z => ad (9 + 10 * z.toNat)) := ⟨by omega, by omega, fun M L => by simp [kC]⟩
theorem aCopies : sjR 89 (kC cI cZ cJ cT cC ad) cC 2 10 (fun z => ad (29 + 5 * z.toNat)) := ⟨by omega, by omega, fun M L => by simp [kC]⟩
theorem aSpares : sjR 89 (kC cI cZ cJ cT cC ad) cC 3 2 (fun z => ad (29 + 5 * (10 + z.toNat))) := ⟨by omega, by omega, fun M L => by simp [kC]⟩
theorem aWays : sjJ 89 (kC cI cZ cJ cT cC ad) cJ 5 4096 := ⟨by omega, by omega, fun M L => by simp [kC]⟩
theorem aFoll : sjI 89 (kC cI cZ cJ cT cC ad) cI 6 12 := ⟨by omega, by omega, fun M L => by simp [kC, wI]⟩
theorem aDraw : sjI 89 (kC cI cZ cJ cT cC ad) cI 7 160 := ⟨by omega, by omega, fun M L => by simp [kC, wI]⟩
theorem aWritten : sjI 89 (kC cI cZ cJ cT cC ad) cI 8 60 := ⟨by omega, by omega, fun M L => by simp [kC, wI]⟩
theorem aText60 (t j : Nat) (ht : t < 2) (h1 : 1 ≤ j) (h2 : j ≤ 5) : sjI 89 (kC cI cZ cJ cT cC ad) cI (9 + 10 * t + j) 60 := by
  refine ⟨by omega, by omega, fun M L => ?_⟩
  have a1 : ¬ (9 + 10 * t + j < 9) := by omega
  have a2 : 9 + 10 * t + j < 29 := by omega
  have a3 : ¬ ((9 + 10 * t + j - 9) % 10 = 0) := by omega
  have a4 : (9 + 10 * t + j - 9) % 10 < 6 := by omega
  simp only [kC, a1, a2, a3, a4, if_true, if_false, wI]
theorem aText160 (t j : Nat) (ht : t < 2) (h1 : 6 ≤ j) (h2 : j ≤ 8) : sjI 89 (kC cI cZ cJ cT cC ad) cI (9 + 10 * t + j) 160 := by
  refine ⟨by omega, by omega, fun M L => ?_⟩
  have a1 : ¬ (9 + 10 * t + j < 9) := by omega
  have a2 : 9 + 10 * t + j < 29 := by omega
  have a3 : ¬ ((9 + 10 * t + j - 9) % 10 = 0) := by omega
  have a4 : ¬ ((9 + 10 * t + j - 9) % 10 < 6) := by omega
  have a5 : (9 + 10 * t + j - 9) % 10 < 9 := by omega
  simp only [kC, a1, a2, a3, a4, a5, if_true, if_false, wI]
theorem aText5 (t : Nat) (ht : t < 2) : sjI 89 (kC cI cZ cJ cT cC ad) cI (9 + 10 * t + 9) 5 := by
  refine ⟨by omega, by omega, fun M L => ?_⟩
  have a1 : ¬ (9 + 10 * t + 9 < 9) := by omega
  have a2 : 9 + 10 * t + 9 < 29 := by omega
  have a3 : ¬ ((9 + 10 * t + 9 - 9) % 10 = 0) := by omega
  have a4 : ¬ ((9 + 10 * t + 9 - 9) % 10 < 6) := by omega
  have a5 : ¬ ((9 + 10 * t + 9 - 9) % 10 < 9) := by omega
  simp only [kC, a1, a2, a3, a4, a5, if_true, if_false, wI]
theorem aCopy60 (i j : Nat) (hi : i < 12) (h1 : 1 ≤ j) (h2 : j ≤ 2) : sjI 89 (kC cI cZ cJ cT cC ad) cI (29 + 5 * i + j) 60 := by
  refine ⟨by omega, by omega, fun M L => ?_⟩
  have a1 : ¬ (29 + 5 * i + j < 9) := by omega
  have a2 : ¬ (29 + 5 * i + j < 29) := by omega
  have a3 : ¬ ((29 + 5 * i + j - 29) % 5 = 0) := by omega
  have a4 : ¬ ((29 + 5 * i + j - 29) % 5 = 3) := by omega
  have a5 : ¬ ((29 + 5 * i + j - 29) % 5 = 4) := by omega
  simp only [kC, a1, a2, a3, a4, a5, if_true, if_false, wI]
theorem aCopyZ (i : Nat) (hi : i < 12) : sjI 89 (kC cI cZ cJ cT cC ad) cZ (29 + 5 * i + 3) 60 := by
  refine ⟨by omega, by omega, fun M L => ?_⟩
  have a1 : ¬ (29 + 5 * i + 3 < 9) := by omega
  have a2 : ¬ (29 + 5 * i + 3 < 29) := by omega
  have a3 : ¬ ((29 + 5 * i + 3 - 29) % 5 = 0) := by omega
  have a4 : (29 + 5 * i + 3 - 29) % 5 = 3 := by omega
  simp only [kC, a1, a2, a3, a4, if_true, if_false, wI]
  rfl
theorem aCopyS (i : Nat) (hi : i < 12) : sjI 89 (kC cI cZ cJ cT cC ad) cI (29 + 5 * i + 4) 160 := by
  refine ⟨by omega, by omega, fun M L => ?_⟩
  have a1 : ¬ (29 + 5 * i + 4 < 9) := by omega
  have a2 : ¬ (29 + 5 * i + 4 < 29) := by omega
  have a3 : ¬ ((29 + 5 * i + 4 - 29) % 5 = 0) := by omega
  have a4 : ¬ ((29 + 5 * i + 4 - 29) % 5 = 3) := by omega
  have a5 : (29 + 5 * i + 4 - 29) % 5 = 4 := by omega
  simp only [kC, a1, a2, a3, a4, a5, if_true, if_false, wI]
  rfl
theorem pPage : sjP 0 (fPage ad) 6 0 := ⟨fun _ => rfl, fun M x => by simp [fPage, sjU]⟩
theorem pText (k : Nat) (w : Int32) : sjP k (fText ad k w) 10 0 ∧ sjP k (fText ad k w) 11 1 ∧ sjP k (fText ad k w) 12 2 :=
  ⟨⟨fun _ => rfl, fun M x => by simp [fText, sjU]⟩, ⟨fun _ => rfl, fun M x => by simp [fText, sjU]⟩, ⟨fun _ => rfl, fun M x => by simp [fText, sjU]⟩⟩
theorem pCopy0 (k t : Nat) : sjP k (fCopy ad k t) 5 0 := ⟨fun _ => rfl, fun M x => by simp [fCopy, sjU]⟩
theorem pCopy1 (k t : Nat) : sjP k (fCopy ad k t) 6 1 := ⟨fun _ => rfl, fun M x => by simp [fCopy, sjU]⟩
theorem pCopy2 (k t : Nat) : sjP k (fCopy ad k t) 7 2 := ⟨fun _ => rfl, fun M x => by simp [fCopy, sjU]⟩
theorem pCopy3 (k t : Nat) : sjP k (fCopy ad k t) 8 3 := ⟨fun _ => rfl, fun M x => by simp [fCopy, sjU]⟩
theorem pCopy4 (k t : Nat) : sjP k (fCopy ad k t) 9 4 := ⟨fun _ => rfl, fun M x => by simp [fCopy, sjU]⟩
theorem pCopy5 (k t : Nat) : sjP k (fCopy ad k t) 10 5 := ⟨fun _ => rfl, fun M x => by simp [fCopy, sjU]⟩
theorem pCopy6 (k t : Nat) : sjP k (fCopy ad k t) 11 6 := ⟨fun _ => rfl, fun M x => by simp [fCopy, sjU]⟩
end WC
/-! the reference's world: 26 cells -/
def fModel (ad : Nat → Nat) (M : sjM) : List Value := [.int (M 0 0), .ref (ad 1), .ref (ad 2), .ref (ad 3), .ref (ad 4), .ref (ad 5), .ref (ad 6), .ref (ad 7), .ref (ad 8), .ref (ad 9), .ref (ad 10), .ref (ad 11), .ref (ad 12), .ref (ad 13), .ref (ad 14), .ref (ad 15), .ref (ad 16), .ref (ad 17), .ref (ad 18), .int (M 0 1), .int (M 0 2), .ref (ad 19), .int (M 0 3), .ref (ad 20), .ref (ad 21), .ref (ad 22), .ref (ad 23), .ref (ad 24), .ref (ad 25)]
def lenR (k : Nat) : Nat := match k with
  | 1 => 2 | 2 => 120 | 3 => 120 | 4 => 120 | 5 => 120 | 6 => 120 | 7 => 10 | 8 => 2 | 9 => 2 | 10 => 320 | 11 => 320 | 12 => 320 | 13 => 660 | 14 => 11 | 15 => 660 | 16 => 660 | 17 => 1760 | 18 => 10 | 19 => 60 | 20 => 62 | 21 => 60 | 22 => 60 | 23 => 160 | 24 => 12 | _ => 4096
def kR (cI cZ cJ : ClassId) (ad : Nat → Nat) (M : sjM) (L : sjL) (k : Nat) : va_E :=
  if k = 0 then .inr (4, fModel ad M) else if k = 25 then .inl (cJ, 4096, .inr (.inl (fun j : Nat => L k (j : Int)))) else if k = 10 ∨ k = 15 ∨ k = 16 ∨ k = 21 ∨ k = 22 then wI cZ (lenR k) k M else wI cI (lenR k) k M
section WR
variable {cI cZ cJ : ClassId} {ad : Nat → Nat}
theorem kR_loc : ∀ (M M' : sjM) (L L' : sjL) (k : Nat), M k = M' k → L k = L' k → kR cI cZ cJ ad M L k = kR cI cZ cJ ad M' L' k := by
  intro M M' L L' k h1 h2
  unfold kR fModel wI
  by_cases h0 : k = 0
  · subst h0
    simp [h1]
  · simp [h0, h1, h2]
theorem oModel : sjO 26 (kR cI cZ cJ ad) 4 0 (fModel ad) := ⟨by omega, fun M L => by simp [kR]⟩
theorem rWays : sjJ 26 (kR cI cZ cJ ad) cJ 25 4096 := ⟨by omega, by omega, fun M L => by simp [kR]⟩
theorem pModel0 : sjP 0 (fModel ad) 0 0 := ⟨fun _ => rfl, fun M x => by simp [fModel, sjU]⟩
theorem pModel1 : sjP 0 (fModel ad) 19 1 := ⟨fun _ => rfl, fun M x => by simp [fModel, sjU]⟩
theorem pModel2 : sjP 0 (fModel ad) 20 2 := ⟨fun _ => rfl, fun M x => by simp [fModel, sjU]⟩
theorem pModel3 : sjP 0 (fModel ad) 22 3 := ⟨fun _ => rfl, fun M x => by simp [fModel, sjU]⟩
theorem rMade : sjI 26 (kR cI cZ cJ ad) cI 1 2 := ⟨by omega, by omega, fun M L => by simp [kR, wI, lenR]⟩
theorem rSite : sjI 26 (kR cI cZ cJ ad) cI 2 120 := ⟨by omega, by omega, fun M L => by simp [kR, wI, lenR]⟩
theorem rClock : sjI 26 (kR cI cZ cJ ad) cI 3 120 := ⟨by omega, by omega, fun M L => by simp [kR, wI, lenR]⟩
theorem rLetter : sjI 26 (kR cI cZ cJ ad) cI 4 120 := ⟨by omega, by omega, fun M L => by simp [kR, wI, lenR]⟩
theorem rLeft : sjI 26 (kR cI cZ cJ ad) cI 5 120 := ⟨by omega, by omega, fun M L => by simp [kR, wI, lenR]⟩
theorem rRight : sjI 26 (kR cI cZ cJ ad) cI 6 120 := ⟨by omega, by omega, fun M L => by simp [kR, wI, lenR]⟩
theorem rClocks : sjI 26 (kR cI cZ cJ ad) cI 7 10 := ⟨by omega, by omega, fun M L => by simp [kR, wI, lenR]⟩
theorem rMsgs : sjI 26 (kR cI cZ cJ ad) cI 8 2 := ⟨by omega, by omega, fun M L => by simp [kR, wI, lenR]⟩
theorem rErases : sjI 26 (kR cI cZ cJ ad) cI 9 2 := ⟨by omega, by omega, fun M L => by simp [kR, wI, lenR]⟩
theorem rIsE : sjI 26 (kR cI cZ cJ ad) cZ 10 320 := ⟨by omega, by omega, fun M L => by simp [kR, wI, lenR]⟩
theorem rChar : sjI 26 (kR cI cZ cJ ad) cI 11 320 := ⟨by omega, by omega, fun M L => by simp [kR, wI, lenR]⟩
theorem rMaker : sjI 26 (kR cI cZ cJ ad) cI 12 320 := ⟨by omega, by omega, fun M L => by simp [kR, wI, lenR]⟩
theorem rRow : sjI 26 (kR cI cZ cJ ad) cI 13 660 := ⟨by omega, by omega, fun M L => by simp [kR, wI, lenR]⟩
theorem rMany : sjI 26 (kR cI cZ cJ ad) cI 14 11 := ⟨by omega, by omega, fun M L => by simp [kR, wI, lenR]⟩
theorem rHas : sjI 26 (kR cI cZ cJ ad) cZ 15 660 := ⟨by omega, by omega, fun M L => by simp [kR, wI, lenR]⟩
theorem rErased : sjI 26 (kR cI cZ cJ ad) cZ 16 660 := ⟨by omega, by omega, fun M L => by simp [kR, wI, lenR]⟩
theorem rState : sjI 26 (kR cI cZ cJ ad) cI 17 1760 := ⟨by omega, by omega, fun M L => by simp [kR, wI, lenR]⟩
theorem rLooks : sjI 26 (kR cI cZ cJ ad) cI 18 10 := ⟨by omega, by omega, fun M L => by simp [kR, wI, lenR]⟩
theorem rOut : sjI 26 (kR cI cZ cJ ad) cI 19 60 := ⟨by omega, by omega, fun M L => by simp [kR, wI, lenR]⟩
theorem rLine : sjI 26 (kR cI cZ cJ ad) cI 20 62 := ⟨by omega, by omega, fun M L => by simp [kR, wI, lenR]⟩
theorem rPassed : sjI 26 (kR cI cZ cJ ad) cZ 21 60 := ⟨by omega, by omega, fun M L => by simp [kR, wI, lenR]⟩
theorem rOpen : sjI 26 (kR cI cZ cJ ad) cZ 22 60 := ⟨by omega, by omega, fun M L => by simp [kR, wI, lenR]⟩
theorem rLeftR : sjI 26 (kR cI cZ cJ ad) cI 23 160 := ⟨by omega, by omega, fun M L => by simp [kR, wI, lenR]⟩
theorem rAhead : sjI 26 (kR cI cZ cJ ad) cI 24 12 := ⟨by omega, by omega, fun M L => by simp [kR, wI, lenR]⟩
end WR
end
section
/-- J is the judgement of one run of a method: its code cc, its words Ts, its room R, its answer's type ret, its end post -/
def sjG (J : Nat → sjM → sjL → List (Option Value) → List Value → Prop) (l : Launch) (cc : ByteArray) (nL : Nat) (Ts : List Cond) (own : String) (R : Room) (ret : Option FieldType) (D : va_G) (cI cZ cJ cT cC : ClassId) (N : Nat) (ad : Nat → Nat) (ct : sjM → sjL → Nat → va_E) (A : Nat → Prop) (post : Option Value → sjM → sjL → Prop) : Prop :=
  ∃ (p : Program) (e : Env) (s : State) (m : MethodId) (args : Array Value) (below : List Frame) (meth : Method) (c : Code), sjF p s m args c cc nL Ts own D cI cZ cJ cT cC N ad ct A ∧ meth.sig.returnType = ret ∧ meth.locks = false ∧ J = sj p l e R s m args below meth c D N ad ct A s.heap nL (MQ below (sjZ D N ad ct A post) args s 0 0 A)
section SJG
variable {J : Nat → sjM → sjL → List (Option Value) → List Value → Prop} {l : Launch} {R : Room} {ret : Option FieldType} {cc : ByteArray} {nL : Nat} {Ts : List Cond} {own : String} {D : va_G} {cI cZ cJ cT cC : ClassId} {N : Nat} {ad : Nat → Nat} {ct : sjM → sjL → Nat → va_E} {A : Nat → Prop} {post : Option Value → sjM → sjL → Prop} {pc : Nat} {M : sjM} {L : sjL} {lv lv' : List (Option Value)} {st : List Value}
theorem g_iconst (G : sjG J l cc nL Ts own R ret D cI cZ cJ cT cC N ad ct A post) {n : Int} (hdg : decode cc pc = .ok (.iconst n, 1)) (k : J (pc + 1) M L lv (.int (iI n) :: st)) : J pc M L lv st := by
  obtain ⟨p, e, s, m, args, below, meth, c, F, hr, hlocks, rfl⟩ := G
  exact sj_iconst F hdg k
theorem g_bipush (G : sjG J l cc nL Ts own R ret D cI cZ cJ cT cC N ad ct A post) {n : Int} (hdg : decode cc pc = .ok (.bipush n, 2)) (hv : (Int8.ofInt n).toInt32 = iI n) (k : J (pc + 2) M L lv (.int (iI n) :: st)) : J pc M L lv st := by
  obtain ⟨p, e, s, m, args, below, meth, c, F, hr, hlocks, rfl⟩ := G
  exact sj_bipush F hdg hv k
theorem g_sipush (G : sjG J l cc nL Ts own R ret D cI cZ cJ cT cC N ad ct A post) {n : Int} (hdg : decode cc pc = .ok (.sipush n, 3)) (hv : (Int16.ofInt n).toInt32 = iI n) (k : J (pc + 3) M L lv (.int (iI n) :: st)) : J pc M L lv st := by
  obtain ⟨p, e, s, m, args, below, meth, c, F, hr, hlocks, rfl⟩ := G
  exact sj_sipush F hdg hv k
theorem g_ldc (G : sjG J l cc nL Ts own R ret D cI cZ cJ cT cC N ad ct A post) {index : Nat} {v : Int32} (hconst : Jvm.Cond.constant own index v ∈ Ts) (hdg : decode cc pc = .ok (.ldc index, 2)) (k : J (pc + 2) M L lv (.int (iI v.toInt) :: st)) : J pc M L lv st := by
  obtain ⟨p, e, s, m, args, below, meth, c, F, hr, hlocks, rfl⟩ := G
  exact sj_ldc F hconst hdg k
theorem g_lconst (G : sjG J l cc nL Ts own R ret D cI cZ cJ cT cC N ad ct A post) {n : Fin 2} {v : Int64} (hdg : decode cc pc = .ok (.lconst n, 1)) (hv : Int64.ofNat (n : Nat) = v) (k : J (pc + 1) M L lv (.long v :: st)) : J pc M L lv st := by
  obtain ⟨p, e, s, m, args, below, meth, c, F, hr, hlocks, rfl⟩ := G
  exact sj_lconst F hdg hv k
theorem g_ldc2 (G : sjG J l cc nL Ts own R ret D cI cZ cJ cT cC N ad ct A post) {index : Nat} {v : Int64} (hconst : Jvm.Cond.constantLong own index v ∈ Ts) (hdg : decode cc pc = .ok (.ldc2_w index, 3)) (k : J (pc + 3) M L lv (.long v :: st)) : J pc M L lv st := by
  obtain ⟨p, e, s, m, args, below, meth, c, F, hr, hlocks, rfl⟩ := G
  exact sj_ldc2 F hconst hdg k
theorem g_iload_n (G : sjG J l cc nL Ts own R ret D cI cZ cJ cT cC N ad ct A post) {i : Fin 4} {x : Int32} (hdg : decode cc pc = .ok (.iload_n i, 1)) (hv : lv[(i : Nat)]? = some (some (.int x))) (k : J (pc + 1) M L lv (.int x :: st)) : J pc M L lv st := by
  obtain ⟨p, e, s, m, args, below, meth, c, F, hr, hlocks, rfl⟩ := G
  exact sj_iload_n F hdg hv k
theorem g_iload (G : sjG J l cc nL Ts own R ret D cI cZ cJ cT cC N ad ct A post) {i : Nat} {x : Int32} (hdg : decode cc pc = .ok (.iload i, 2)) (hv : lv[i]? = some (some (.int x))) (k : J (pc + 2) M L lv (.int x :: st)) : J pc M L lv st := by
  obtain ⟨p, e, s, m, args, below, meth, c, F, hr, hlocks, rfl⟩ := G
  exact sj_iload F hdg hv k
theorem g_lload_n (G : sjG J l cc nL Ts own R ret D cI cZ cJ cT cC N ad ct A post) {i : Fin 4} {x : Int64} (hdg : decode cc pc = .ok (.lload_n i, 1)) (hv : lv[(i : Nat)]? = some (some (.long x))) (k : J (pc + 1) M L lv (.long x :: st)) : J pc M L lv st := by
  obtain ⟨p, e, s, m, args, below, meth, c, F, hr, hlocks, rfl⟩ := G
  exact sj_lload_n F hdg hv k
theorem g_lload (G : sjG J l cc nL Ts own R ret D cI cZ cJ cT cC N ad ct A post) {i : Nat} {x : Int64} (hdg : decode cc pc = .ok (.lload i, 2)) (hv : lv[i]? = some (some (.long x))) (k : J (pc + 2) M L lv (.long x :: st)) : J pc M L lv st := by
  obtain ⟨p, e, s, m, args, below, meth, c, F, hr, hlocks, rfl⟩ := G
  exact sj_lload F hdg hv k
theorem g_aload_n (G : sjG J l cc nL Ts own R ret D cI cZ cJ cT cC N ad ct A post) {i : Fin 4} {x : Nat} (hdg : decode cc pc = .ok (.aload_n i, 1)) (hv : lv[(i : Nat)]? = some (some (.ref x))) (k : J (pc + 1) M L lv (.ref x :: st)) : J pc M L lv st := by
  obtain ⟨p, e, s, m, args, below, meth, c, F, hr, hlocks, rfl⟩ := G
  exact sj_aload_n F hdg hv k
theorem g_aload (G : sjG J l cc nL Ts own R ret D cI cZ cJ cT cC N ad ct A post) {i : Nat} {x : Nat} (hdg : decode cc pc = .ok (.aload i, 2)) (hv : lv[i]? = some (some (.ref x))) (k : J (pc + 2) M L lv (.ref x :: st)) : J pc M L lv st := by
  obtain ⟨p, e, s, m, args, below, meth, c, F, hr, hlocks, rfl⟩ := G
  exact sj_aload F hdg hv k
theorem g_aload_nN (G : sjG J l cc nL Ts own R ret D cI cZ cJ cT cC N ad ct A post) {i : Fin 4} (hdg : decode cc pc = .ok (.aload_n i, 1)) (hv : lv[(i : Nat)]? = some (some .null)) (k : J (pc + 1) M L lv (.null :: st)) : J pc M L lv st := by
  obtain ⟨p, e, s, m, args, below, meth, c, F, hr, hlocks, rfl⟩ := G
  exact sj_aload_nN F hdg hv k
theorem g_aloadN (G : sjG J l cc nL Ts own R ret D cI cZ cJ cT cC N ad ct A post) {i : Nat} (hdg : decode cc pc = .ok (.aload i, 2)) (hv : lv[i]? = some (some .null)) (k : J (pc + 2) M L lv (.null :: st)) : J pc M L lv st := by
  obtain ⟨p, e, s, m, args, below, meth, c, F, hr, hlocks, rfl⟩ := G
  exact sj_aloadN F hdg hv k
theorem g_istore_n (G : sjG J l cc nL Ts own R ret D cI cZ cJ cT cC N ad ct A post) {i : Fin 4} {x : Int32} (hdg : decode cc pc = .ok (.istore_n i, 1)) (hn : (i : Nat) < nL) (hv : sjS1 lv i (.int x) = lv') (k : J (pc + 1) M L lv' st) : J pc M L lv (.int x :: st) := by
  obtain ⟨p, e, s, m, args, below, meth, c, F, hr, hlocks, rfl⟩ := G
  exact sj_istore_n F hdg hn hv k
theorem g_istore (G : sjG J l cc nL Ts own R ret D cI cZ cJ cT cC N ad ct A post) {i : Nat} {x : Int32} (hdg : decode cc pc = .ok (.istore i, 2)) (hn : i < nL) (hv : sjS1 lv i (.int x) = lv') (k : J (pc + 2) M L lv' st) : J pc M L lv (.int x :: st) := by
  obtain ⟨p, e, s, m, args, below, meth, c, F, hr, hlocks, rfl⟩ := G
  exact sj_istore F hdg hn hv k
theorem g_astore_n (G : sjG J l cc nL Ts own R ret D cI cZ cJ cT cC N ad ct A post) {i : Fin 4} {x : Nat} (hdg : decode cc pc = .ok (.astore_n i, 1)) (hn : (i : Nat) < nL) (hv : sjS1 lv i (.ref x) = lv') (k : J (pc + 1) M L lv' st) : J pc M L lv (.ref x :: st) := by
  obtain ⟨p, e, s, m, args, below, meth, c, F, hr, hlocks, rfl⟩ := G
  exact sj_astore_n F hdg hn hv k
theorem g_astore (G : sjG J l cc nL Ts own R ret D cI cZ cJ cT cC N ad ct A post) {i : Nat} {x : Nat} (hdg : decode cc pc = .ok (.astore i, 2)) (hn : i < nL) (hv : sjS1 lv i (.ref x) = lv') (k : J (pc + 2) M L lv' st) : J pc M L lv (.ref x :: st) := by
  obtain ⟨p, e, s, m, args, below, meth, c, F, hr, hlocks, rfl⟩ := G
  exact sj_astore F hdg hn hv k
theorem g_astore_nN (G : sjG J l cc nL Ts own R ret D cI cZ cJ cT cC N ad ct A post) {i : Fin 4} (hdg : decode cc pc = .ok (.astore_n i, 1)) (hn : (i : Nat) < nL) (hv : sjS1 lv i .null = lv') (k : J (pc + 1) M L lv' st) : J pc M L lv (.null :: st) := by
  obtain ⟨p, e, s, m, args, below, meth, c, F, hr, hlocks, rfl⟩ := G
  exact sj_astore_nN F hdg hn hv k
theorem g_astoreN (G : sjG J l cc nL Ts own R ret D cI cZ cJ cT cC N ad ct A post) {i : Nat} (hdg : decode cc pc = .ok (.astore i, 2)) (hn : i < nL) (hv : sjS1 lv i .null = lv') (k : J (pc + 2) M L lv' st) : J pc M L lv (.null :: st) := by
  obtain ⟨p, e, s, m, args, below, meth, c, F, hr, hlocks, rfl⟩ := G
  exact sj_astoreN F hdg hn hv k
theorem g_lstore_n (G : sjG J l cc nL Ts own R ret D cI cZ cJ cT cC N ad ct A post) {i : Fin 4} {x : Int64} (hdg : decode cc pc = .ok (.lstore_n i, 1)) (hn : (i : Nat) + 1 < nL) (hv : sjS2 lv i (.long x) = lv') (k : J (pc + 1) M L lv' st) : J pc M L lv (.long x :: st) := by
  obtain ⟨p, e, s, m, args, below, meth, c, F, hr, hlocks, rfl⟩ := G
  exact sj_lstore_n F hdg hn hv k
theorem g_lstore (G : sjG J l cc nL Ts own R ret D cI cZ cJ cT cC N ad ct A post) {i : Nat} {x : Int64} (hdg : decode cc pc = .ok (.lstore i, 2)) (hn : i + 1 < nL) (hv : sjS2 lv i (.long x) = lv') (k : J (pc + 2) M L lv' st) : J pc M L lv (.long x :: st) := by
  obtain ⟨p, e, s, m, args, below, meth, c, F, hr, hlocks, rfl⟩ := G
  exact sj_lstore F hdg hn hv k
theorem g_iinc (G : sjG J l cc nL Ts own R ret D cI cZ cJ cT cC N ad ct A post) {i : Nat} {n a : Int} (hdg : decode cc pc = .ok (.iinc i n, 3)) (hn : i < nL) (hg : lv[i]? = some (some (.int (iI a)))) (hv : sjS1 lv i (.int (iI (a + n))) = lv') (k : J (pc + 3) M L lv' st) : J pc M L lv st := by
  obtain ⟨p, e, s, m, args, below, meth, c, F, hr, hlocks, rfl⟩ := G
  exact sj_iinc F hdg hn hg hv k
theorem g_iadd (G : sjG J l cc nL Ts own R ret D cI cZ cJ cT cC N ad ct A post) {a b : Int} (hdg : decode cc pc = .ok (.iadd, 1)) (k : J (pc + 1) M L lv (.int (iI (a + b)) :: st)) : J pc M L lv (.int (iI b) :: .int (iI a) :: st) := by
  obtain ⟨p, e, s, m, args, below, meth, c, F, hr, hlocks, rfl⟩ := G
  exact sj_iadd F hdg k
theorem g_isub (G : sjG J l cc nL Ts own R ret D cI cZ cJ cT cC N ad ct A post) {a b : Int} (hdg : decode cc pc = .ok (.isub, 1)) (k : J (pc + 1) M L lv (.int (iI (a - b)) :: st)) : J pc M L lv (.int (iI b) :: .int (iI a) :: st) := by
  obtain ⟨p, e, s, m, args, below, meth, c, F, hr, hlocks, rfl⟩ := G
  exact sj_isub F hdg k
theorem g_imul (G : sjG J l cc nL Ts own R ret D cI cZ cJ cT cC N ad ct A post) {a b : Int} (hdg : decode cc pc = .ok (.imul, 1)) (k : J (pc + 1) M L lv (.int (iI (a * b)) :: st)) : J pc M L lv (.int (iI b) :: .int (iI a) :: st) := by
  obtain ⟨p, e, s, m, args, below, meth, c, F, hr, hlocks, rfl⟩ := G
  exact sj_imul F hdg k
theorem g_iand (G : sjG J l cc nL Ts own R ret D cI cZ cJ cT cC N ad ct A post) {x y : Int32} (hdg : decode cc pc = .ok (.iand, 1)) (k : J (pc + 1) M L lv (.int (x &&& y) :: st)) : J pc M L lv (.int y :: .int x :: st) := by
  obtain ⟨p, e, s, m, args, below, meth, c, F, hr, hlocks, rfl⟩ := G
  exact sj_iand F hdg k
theorem g_ior (G : sjG J l cc nL Ts own R ret D cI cZ cJ cT cC N ad ct A post) {x y : Int32} (hdg : decode cc pc = .ok (.ior, 1)) (k : J (pc + 1) M L lv (.int (x ||| y) :: st)) : J pc M L lv (.int y :: .int x :: st) := by
  obtain ⟨p, e, s, m, args, below, meth, c, F, hr, hlocks, rfl⟩ := G
  exact sj_ior F hdg k
theorem g_ixor (G : sjG J l cc nL Ts own R ret D cI cZ cJ cT cC N ad ct A post) {x y : Int32} (hdg : decode cc pc = .ok (.ixor, 1)) (k : J (pc + 1) M L lv (.int (x ^^^ y) :: st)) : J pc M L lv (.int y :: .int x :: st) := by
  obtain ⟨p, e, s, m, args, below, meth, c, F, hr, hlocks, rfl⟩ := G
  exact sj_ixor F hdg k
theorem g_ishl (G : sjG J l cc nL Ts own R ret D cI cZ cJ cT cC N ad ct A post) {x y : Int32} (hdg : decode cc pc = .ok (.ishl, 1)) (k : J (pc + 1) M L lv (.int (x <<< (y &&& 31)) :: st)) : J pc M L lv (.int y :: .int x :: st) := by
  obtain ⟨p, e, s, m, args, below, meth, c, F, hr, hlocks, rfl⟩ := G
  exact sj_ishl F hdg k
theorem g_ishr (G : sjG J l cc nL Ts own R ret D cI cZ cJ cT cC N ad ct A post) {x y : Int32} (hdg : decode cc pc = .ok (.ishr, 1)) (k : J (pc + 1) M L lv (.int (x >>> (y &&& 31)) :: st)) : J pc M L lv (.int y :: .int x :: st) := by
  obtain ⟨p, e, s, m, args, below, meth, c, F, hr, hlocks, rfl⟩ := G
  exact sj_ishr F hdg k
theorem g_iushr (G : sjG J l cc nL Ts own R ret D cI cZ cJ cT cC N ad ct A post) {x y : Int32} (hdg : decode cc pc = .ok (.iushr, 1)) (k : J (pc + 1) M L lv (.int (x.toUInt32 >>> (y.toUInt32 &&& Int32.toUInt32 31)).toInt32 :: st)) : J pc M L lv (.int y :: .int x :: st) := by
  obtain ⟨p, e, s, m, args, below, meth, c, F, hr, hlocks, rfl⟩ := G
  exact sj_iushr F hdg k
theorem g_irem (G : sjG J l cc nL Ts own R ret D cI cZ cJ cT cC N ad ct A post) {x y : Int32} (hdg : decode cc pc = .ok (.irem, 1)) (hne : ¬ y = 0) (k : J (pc + 1) M L lv (.int (x - x / y * y) :: st)) : J pc M L lv (.int y :: .int x :: st) := by
  obtain ⟨p, e, s, m, args, below, meth, c, F, hr, hlocks, rfl⟩ := G
  exact sj_irem F hdg hne k
theorem g_lcmp (G : sjG J l cc nL Ts own R ret D cI cZ cJ cT cC N ad ct A post) {x y : Int64} (hdg : decode cc pc = .ok (.lcmp, 1)) (k : J (pc + 1) M L lv (.int (lg_cmp x y) :: st)) : J pc M L lv (.long y :: .long x :: st) := by
  obtain ⟨p, e, s, m, args, below, meth, c, F, hr, hlocks, rfl⟩ := G
  exact sj_lcmp F hdg k
theorem g_i2l (G : sjG J l cc nL Ts own R ret D cI cZ cJ cT cC N ad ct A post) {x : Int32} (hdg : decode cc pc = .ok (.i2l, 1)) (k : J (pc + 1) M L lv (.long x.toInt64 :: st)) : J pc M L lv (.int x :: st) := by
  obtain ⟨p, e, s, m, args, below, meth, c, F, hr, hlocks, rfl⟩ := G
  exact sj_i2l F hdg k
theorem g_dup (G : sjG J l cc nL Ts own R ret D cI cZ cJ cT cC N ad ct A post) {v : Value} (hdg : decode cc pc = .ok (.dup, 1)) (hv : v.category = 1) (k : J (pc + 1) M L lv (v :: v :: st)) : J pc M L lv (v :: st) := by
  obtain ⟨p, e, s, m, args, below, meth, c, F, hr, hlocks, rfl⟩ := G
  exact sj_dup F hdg hv k
theorem g_dup2 (G : sjG J l cc nL Ts own R ret D cI cZ cJ cT cC N ad ct A post) {v w : Value} (hdg : decode cc pc = .ok (.dup2, 1)) (hv : v.category = 1) (hw : w.category = 1) (k : J (pc + 1) M L lv (v :: w :: v :: w :: st)) : J pc M L lv (v :: w :: st) := by
  obtain ⟨p, e, s, m, args, below, meth, c, F, hr, hlocks, rfl⟩ := G
  exact sj_dup2 F hdg hv hw k
theorem g_pop (G : sjG J l cc nL Ts own R ret D cI cZ cJ cT cC N ad ct A post) {v : Value} (hdg : decode cc pc = .ok (.pop, 1)) (hv : v.category = 1) (k : J (pc + 1) M L lv st) : J pc M L lv (v :: st) := by
  obtain ⟨p, e, s, m, args, below, meth, c, F, hr, hlocks, rfl⟩ := G
  exact sj_pop F hdg hv k
theorem g_null (G : sjG J l cc nL Ts own R ret D cI cZ cJ cT cC N ad ct A post) (hdg : decode cc pc = .ok (.aconst_null, 1)) (k : J (pc + 1) M L lv (.null :: st)) : J pc M L lv st := by
  obtain ⟨p, e, s, m, args, below, meth, c, F, hr, hlocks, rfl⟩ := G
  exact sj_null F hdg k
theorem g_goto (G : sjG J l cc nL Ts own R ret D cI cZ cJ cT cC N ad ct A post) {off : Int} (tgt : Nat) (hdg : decode cc pc = .ok (.goto off, 3)) (ht : (pc : Int) + off = (tgt : Int)) (k : J tgt M L lv st) : J pc M L lv st := by
  obtain ⟨p, e, s, m, args, below, meth, c, F, hr, hlocks, rfl⟩ := G
  exact sj_goto F tgt hdg ht k
theorem g_ifnullN (G : sjG J l cc nL Ts own R ret D cI cZ cJ cT cC N ad ct A post) {off : Int} (tgt : Nat) (hdg : decode cc pc = .ok (.ifnull off, 3)) (ht : (pc : Int) + off = (tgt : Int)) (k : J tgt M L lv st) : J pc M L lv (.null :: st) := by
  obtain ⟨p, e, s, m, args, below, meth, c, F, hr, hlocks, rfl⟩ := G
  exact sj_ifnullN F tgt hdg ht k
theorem g_ifnull (G : sjG J l cc nL Ts own R ret D cI cZ cJ cT cC N ad ct A post) {x : Nat} {off : Int} (hdg : decode cc pc = .ok (.ifnull off, 3)) (k : J (pc + 3) M L lv st) : J pc M L lv (.ref x :: st) := by
  obtain ⟨p, e, s, m, args, below, meth, c, F, hr, hlocks, rfl⟩ := G
  exact sj_ifnull F hdg k
theorem g_ifnonnullN (G : sjG J l cc nL Ts own R ret D cI cZ cJ cT cC N ad ct A post) {off : Int} (hdg : decode cc pc = .ok (.ifnonnull off, 3)) (k : J (pc + 3) M L lv st) : J pc M L lv (.null :: st) := by
  obtain ⟨p, e, s, m, args, below, meth, c, F, hr, hlocks, rfl⟩ := G
  exact sj_ifnonnullN F hdg k
theorem g_ifnonnull (G : sjG J l cc nL Ts own R ret D cI cZ cJ cT cC N ad ct A post) {x : Nat} {off : Int} (tgt : Nat) (hdg : decode cc pc = .ok (.ifnonnull off, 3)) (ht : (pc : Int) + off = (tgt : Int)) (k : J tgt M L lv st) : J pc M L lv (.ref x :: st) := by
  obtain ⟨p, e, s, m, args, below, meth, c, F, hr, hlocks, rfl⟩ := G
  exact sj_ifnonnull F tgt hdg ht k
theorem g_icmp_eq (G : sjG J l cc nL Ts own R ret D cI cZ cJ cT cC N ad ct A post) {a b : Int} (ha : rng a) (hb : rng b) {off : Int} (tgt : Nat) (hdg : decode cc pc = .ok (.if_icmp .eq off, 3)) (ht : (pc : Int) + off = (tgt : Int)) (kt : a = b → J (tgt) M L lv st) (kf : ¬ a = b → J (pc + 3) M L lv st) : J (pc) M L lv (.int (iI b) :: .int (iI a) :: st) := by
  obtain ⟨p, e, s, m, args, below, meth, c, F, hr, hlocks, rfl⟩ := G
  exact sj_icmp_eq F ha hb tgt hdg ht kt kf
theorem g_if_eq (G : sjG J l cc nL Ts own R ret D cI cZ cJ cT cC N ad ct A post) {a : Int} (ha : rng a) {off : Int} (tgt : Nat) (hdg : decode cc pc = .ok (.ifCond .eq off, 3)) (ht : (pc : Int) + off = (tgt : Int)) (kt : a = 0 → J (tgt) M L lv st) (kf : ¬ a = 0 → J (pc + 3) M L lv st) : J (pc) M L lv (.int (iI a) :: st) := by
  obtain ⟨p, e, s, m, args, below, meth, c, F, hr, hlocks, rfl⟩ := G
  exact sj_if_eq F ha tgt hdg ht kt kf
theorem g_icmp_ne (G : sjG J l cc nL Ts own R ret D cI cZ cJ cT cC N ad ct A post) {a b : Int} (ha : rng a) (hb : rng b) {off : Int} (tgt : Nat) (hdg : decode cc pc = .ok (.if_icmp .ne off, 3)) (ht : (pc : Int) + off = (tgt : Int)) (kt : ¬ a = b → J (tgt) M L lv st) (kf : a = b → J (pc + 3) M L lv st) : J (pc) M L lv (.int (iI b) :: .int (iI a) :: st) := by
  obtain ⟨p, e, s, m, args, below, meth, c, F, hr, hlocks, rfl⟩ := G
  exact sj_icmp_ne F ha hb tgt hdg ht kt kf
theorem g_if_ne (G : sjG J l cc nL Ts own R ret D cI cZ cJ cT cC N ad ct A post) {a : Int} (ha : rng a) {off : Int} (tgt : Nat) (hdg : decode cc pc = .ok (.ifCond .ne off, 3)) (ht : (pc : Int) + off = (tgt : Int)) (kt : ¬ a = 0 → J (tgt) M L lv st) (kf : a = 0 → J (pc + 3) M L lv st) : J (pc) M L lv (.int (iI a) :: st) := by
  obtain ⟨p, e, s, m, args, below, meth, c, F, hr, hlocks, rfl⟩ := G
  exact sj_if_ne F ha tgt hdg ht kt kf
theorem g_icmp_lt (G : sjG J l cc nL Ts own R ret D cI cZ cJ cT cC N ad ct A post) {a b : Int} (ha : rng a) (hb : rng b) {off : Int} (tgt : Nat) (hdg : decode cc pc = .ok (.if_icmp .lt off, 3)) (ht : (pc : Int) + off = (tgt : Int)) (kt : a < b → J (tgt) M L lv st) (kf : b ≤ a → J (pc + 3) M L lv st) : J (pc) M L lv (.int (iI b) :: .int (iI a) :: st) := by
  obtain ⟨p, e, s, m, args, below, meth, c, F, hr, hlocks, rfl⟩ := G
  exact sj_icmp_lt F ha hb tgt hdg ht kt kf
theorem g_if_lt (G : sjG J l cc nL Ts own R ret D cI cZ cJ cT cC N ad ct A post) {a : Int} (ha : rng a) {off : Int} (tgt : Nat) (hdg : decode cc pc = .ok (.ifCond .lt off, 3)) (ht : (pc : Int) + off = (tgt : Int)) (kt : a < 0 → J (tgt) M L lv st) (kf : 0 ≤ a → J (pc + 3) M L lv st) : J (pc) M L lv (.int (iI a) :: st) := by
  obtain ⟨p, e, s, m, args, below, meth, c, F, hr, hlocks, rfl⟩ := G
  exact sj_if_lt F ha tgt hdg ht kt kf
theorem g_icmp_ge (G : sjG J l cc nL Ts own R ret D cI cZ cJ cT cC N ad ct A post) {a b : Int} (ha : rng a) (hb : rng b) {off : Int} (tgt : Nat) (hdg : decode cc pc = .ok (.if_icmp .ge off, 3)) (ht : (pc : Int) + off = (tgt : Int)) (kt : b ≤ a → J (tgt) M L lv st) (kf : a < b → J (pc + 3) M L lv st) : J (pc) M L lv (.int (iI b) :: .int (iI a) :: st) := by
  obtain ⟨p, e, s, m, args, below, meth, c, F, hr, hlocks, rfl⟩ := G
  exact sj_icmp_ge F ha hb tgt hdg ht kt kf
theorem g_if_ge (G : sjG J l cc nL Ts own R ret D cI cZ cJ cT cC N ad ct A post) {a : Int} (ha : rng a) {off : Int} (tgt : Nat) (hdg : decode cc pc = .ok (.ifCond .ge off, 3)) (ht : (pc : Int) + off = (tgt : Int)) (kt : 0 ≤ a → J (tgt) M L lv st) (kf : a < 0 → J (pc + 3) M L lv st) : J (pc) M L lv (.int (iI a) :: st) := by
  obtain ⟨p, e, s, m, args, below, meth, c, F, hr, hlocks, rfl⟩ := G
  exact sj_if_ge F ha tgt hdg ht kt kf
theorem g_icmp_gt (G : sjG J l cc nL Ts own R ret D cI cZ cJ cT cC N ad ct A post) {a b : Int} (ha : rng a) (hb : rng b) {off : Int} (tgt : Nat) (hdg : decode cc pc = .ok (.if_icmp .gt off, 3)) (ht : (pc : Int) + off = (tgt : Int)) (kt : b < a → J (tgt) M L lv st) (kf : a ≤ b → J (pc + 3) M L lv st) : J (pc) M L lv (.int (iI b) :: .int (iI a) :: st) := by
  obtain ⟨p, e, s, m, args, below, meth, c, F, hr, hlocks, rfl⟩ := G
  exact sj_icmp_gt F ha hb tgt hdg ht kt kf
theorem g_if_gt (G : sjG J l cc nL Ts own R ret D cI cZ cJ cT cC N ad ct A post) {a : Int} (ha : rng a) {off : Int} (tgt : Nat) (hdg : decode cc pc = .ok (.ifCond .gt off, 3)) (ht : (pc : Int) + off = (tgt : Int)) (kt : 0 < a → J (tgt) M L lv st) (kf : a ≤ 0 → J (pc + 3) M L lv st) : J (pc) M L lv (.int (iI a) :: st) := by
  obtain ⟨p, e, s, m, args, below, meth, c, F, hr, hlocks, rfl⟩ := G
  exact sj_if_gt F ha tgt hdg ht kt kf
theorem g_icmp_le (G : sjG J l cc nL Ts own R ret D cI cZ cJ cT cC N ad ct A post) {a b : Int} (ha : rng a) (hb : rng b) {off : Int} (tgt : Nat) (hdg : decode cc pc = .ok (.if_icmp .le off, 3)) (ht : (pc : Int) + off = (tgt : Int)) (kt : a ≤ b → J (tgt) M L lv st) (kf : b < a → J (pc + 3) M L lv st) : J (pc) M L lv (.int (iI b) :: .int (iI a) :: st) := by
  obtain ⟨p, e, s, m, args, below, meth, c, F, hr, hlocks, rfl⟩ := G
  exact sj_icmp_le F ha hb tgt hdg ht kt kf
theorem g_if_le (G : sjG J l cc nL Ts own R ret D cI cZ cJ cT cC N ad ct A post) {a : Int} (ha : rng a) {off : Int} (tgt : Nat) (hdg : decode cc pc = .ok (.ifCond .le off, 3)) (ht : (pc : Int) + off = (tgt : Int)) (kt : a ≤ 0 → J (tgt) M L lv st) (kf : 0 < a → J (pc + 3) M L lv st) : J (pc) M L lv (.int (iI a) :: st) := by
  obtain ⟨p, e, s, m, args, below, meth, c, F, hr, hlocks, rfl⟩ := G
  exact sj_if_le F ha tgt hdg ht kt kf
theorem g_iald (G : sjG J l cc nL Ts own R ret D cI cZ cJ cT cC N ad ct A post) {k n : Nat} {z : Int} (hI : sjI N ct cI k n) (hz : 0 ≤ z ∧ z < n) (hdg : decode cc pc = .ok (.iaload, 1)) (kk : J (pc + 1) M L lv (.int (iI (M k z).toInt) :: st)) : J pc M L lv (.int (iI z) :: .ref (ad k) :: st) := by
  obtain ⟨p, e, s, m, args, below, meth, c, F, hr, hlocks, rfl⟩ := G
  exact sj_iald F hI hz hdg kk
theorem g_zald (G : sjG J l cc nL Ts own R ret D cI cZ cJ cT cC N ad ct A post) {k n : Nat} {z : Int} (hI : sjI N ct cZ k n) (hz : 0 ≤ z ∧ z < n) (hdg : decode cc pc = .ok (.baload, 1)) (kk : J (pc + 1) M L lv (.int (iI (M k z).toInt) :: st)) : J pc M L lv (.int (iI z) :: .ref (ad k) :: st) := by
  obtain ⟨p, e, s, m, args, below, meth, c, F, hr, hlocks, rfl⟩ := G
  exact sj_zald F hI hz hdg kk
theorem g_lald (G : sjG J l cc nL Ts own R ret D cI cZ cJ cT cC N ad ct A post) {k n : Nat} {z : Int} (hI : sjJ N ct cJ k n) (hz : 0 ≤ z ∧ z < n) (hdg : decode cc pc = .ok (.laload, 1)) (kk : J (pc + 1) M L lv (.long (L k z) :: st)) : J pc M L lv (.int (iI z) :: .ref (ad k) :: st) := by
  obtain ⟨p, e, s, m, args, below, meth, c, F, hr, hlocks, rfl⟩ := G
  exact sj_lald F hI hz hdg kk
theorem g_aald (G : sjG J l cc nL Ts own R ret D cI cZ cJ cT cC N ad ct A post) {k n : Nat} {z : Int} {cR : ClassId} {g : Int → Nat} (t0 : Nat) {C : String} (ht : (sjT cI cZ cJ cT cC)[t0]? = some (cR, .object C)) (hI : sjR N ct cR k n g) (hz : 0 ≤ z ∧ z < n) (hdg : decode cc pc = .ok (.aaload, 1)) (kk : J (pc + 1) M L lv (.ref (g z) :: st)) : J pc M L lv (.int (iI z) :: .ref (ad k) :: st) := by
  obtain ⟨p, e, s, m, args, below, meth, c, F, hr, hlocks, rfl⟩ := G
  exact sj_aald F t0 ht hI hz hdg kk
theorem g_alenI (G : sjG J l cc nL Ts own R ret D cI cZ cJ cT cC N ad ct A post) {k n : Nat} (hI : sjI N ct cI k n) (hdg : decode cc pc = .ok (.arraylength, 1)) (kk : J (pc + 1) M L lv (.int (iI n) :: st)) : J pc M L lv (.ref (ad k) :: st) := by
  obtain ⟨p, e, s, m, args, below, meth, c, F, hr, hlocks, rfl⟩ := G
  exact sj_alenI F hI hdg kk
theorem g_alenJ (G : sjG J l cc nL Ts own R ret D cI cZ cJ cT cC N ad ct A post) {k n : Nat} (hI : sjJ N ct cJ k n) (hdg : decode cc pc = .ok (.arraylength, 1)) (kk : J (pc + 1) M L lv (.int (iI n) :: st)) : J pc M L lv (.ref (ad k) :: st) := by
  obtain ⟨p, e, s, m, args, below, meth, c, F, hr, hlocks, rfl⟩ := G
  exact sj_alenJ F hI hdg kk
theorem g_alenR (G : sjG J l cc nL Ts own R ret D cI cZ cJ cT cC N ad ct A post) {k n : Nat} {cR : ClassId} {g : Int → Nat} (t0 : Nat) {C : String} (ht : (sjT cI cZ cJ cT cC)[t0]? = some (cR, .object C)) (hI : sjR N ct cR k n g) (hdg : decode cc pc = .ok (.arraylength, 1)) (kk : J (pc + 1) M L lv (.int (iI n) :: st)) : J pc M L lv (.ref (ad k) :: st) := by
  obtain ⟨p, e, s, m, args, below, meth, c, F, hr, hlocks, rfl⟩ := G
  exact sj_alenR F t0 ht hI hdg kk
theorem g_iast (G : sjG J l cc nL Ts own R ret D cI cZ cJ cT cC N ad ct A post) {k n : Nat} {z : Int} {x : Int32} (hI : sjI N ct cI k n) (hz : 0 ≤ z ∧ z < n) (hdg : decode cc pc = .ok (.iastore, 1)) (kk : J (pc + 1) (sjU M k z x) L lv st) : J pc M L lv (.int x :: .int (iI z) :: .ref (ad k) :: st) := by
  obtain ⟨p, e, s, m, args, below, meth, c, F, hr, hlocks, rfl⟩ := G
  exact sj_iast F hI hz hdg kk
theorem g_last (G : sjG J l cc nL Ts own R ret D cI cZ cJ cT cC N ad ct A post) {k n : Nat} {z : Int} {x : Int64} (hI : sjJ N ct cJ k n) (hz : 0 ≤ z ∧ z < n) (hdg : decode cc pc = .ok (.lastore, 1)) (kk : J (pc + 1) M (sjV L k z x) lv st) : J pc M L lv (.long x :: .int (iI z) :: .ref (ad k) :: st) := by
  obtain ⟨p, e, s, m, args, below, meth, c, F, hr, hlocks, rfl⟩ := G
  exact sj_last F hI hz hdg kk
theorem g_zast (G : sjG J l cc nL Ts own R ret D cI cZ cJ cT cC N ad ct A post) {k n : Nat} {z : Int} {x : Int32} (hI : sjI N ct cZ k n) (hz : 0 ≤ z ∧ z < n) (hx : vp_nar .boolean x = x) (hdg : decode cc pc = .ok (.bastore, 1)) (kk : J (pc + 1) (sjU M k z x) L lv st) : J pc M L lv (.int x :: .int (iI z) :: .ref (ad k) :: st) := by
  obtain ⟨p, e, s, m, args, below, meth, c, F, hr, hlocks, rfl⟩ := G
  exact sj_zast F hI hz hx hdg kk
theorem g_getR (G : sjG J l cc nL Ts own R ret D cI cZ cJ cT cC N ad ct A post) {k ci n index a : Nat} {C ref : String} {T : u_T} {fs : sjM → List Value} (hin : ∀ w ∈ u_ws C T n, w ∈ Ts) (hO : sjO N ct ci k fs) (hc : vwCl[ci]? = some (C, T, n)) (j : Nat) (hj : j < n) (hlink : Cond.fieldLink own index ref (T j).2.1 (T j).2.2.1 ∈ Ts) (hsame : (T j).1 = ref) (hv : (fs M)[j]? = some (.ref a)) (hdg : decode cc pc = .ok (.getfield index, 3)) (kk : J (pc + 3) M L lv (.ref a :: st)) : J pc M L lv (.ref (ad k) :: st) := by
  obtain ⟨p, e, s, m, args, below, meth, c, F, hr, hlocks, rfl⟩ := G
  exact sj_getR F hin hO hc j hj hlink hsame hv hdg kk
theorem g_getI (G : sjG J l cc nL Ts own R ret D cI cZ cJ cT cC N ad ct A post) {k ci n index : Nat} {x : Int32} {C ref : String} {T : u_T} {fs : sjM → List Value} (hin : ∀ w ∈ u_ws C T n, w ∈ Ts) (hO : sjO N ct ci k fs) (hc : vwCl[ci]? = some (C, T, n)) (j : Nat) (hj : j < n) (hlink : Cond.fieldLink own index ref (T j).2.1 (T j).2.2.1 ∈ Ts) (hsame : (T j).1 = ref) (hv : (fs M)[j]? = some (.int x)) (hdg : decode cc pc = .ok (.getfield index, 3)) (kk : J (pc + 3) M L lv (.int (iI x.toInt) :: st)) : J pc M L lv (.ref (ad k) :: st) := by
  obtain ⟨p, e, s, m, args, below, meth, c, F, hr, hlocks, rfl⟩ := G
  exact sj_getI F hin hO hc j hj hlink hsame hv hdg kk
theorem g_put (G : sjG J l cc nL Ts own R ret D cI cZ cJ cT cC N ad ct A post) {k ci n index : Nat} {z : Int} {x : Int32} {C ref : String} {T : u_T} {fs : sjM → List Value} (ty0 : Nat → FieldType) (hty : ∀ k, k < n → parseFieldDescriptor (T k).2.2.1 = some (ty0 k)) (hnm : ∀ a, a < n → ∀ b, b < n → a ≠ b → (T a).2.1 ≠ (T b).2.1) (hin : ∀ w ∈ u_ws C T n, w ∈ Ts) (hO : sjO N ct ci k fs) (hc : vwCl[ci]? = some (C, T, n)) (j : Nat) (hj : j < n) (hp : sjP k fs j z) (hlink : Cond.fieldLink own index ref (T j).2.1 (T j).2.2.1 ∈ Ts) (hsame : (T j).1 = ref) (hfin : (T j).2.2.2 = false) (hd : parseFieldDescriptor (T j).2.2.1 = some .int) (hdg : decode cc pc = .ok (.putfield index, 3)) (kk : J (pc + 3) (sjU M k z x) L lv st) : J pc M L lv (.int x :: .ref (ad k) :: st) := by
  obtain ⟨p, e, s, m, args, below, meth, c, F, hr, hlocks, rfl⟩ := G
  exact sj_put F ty0 hty hnm hin hO hc j hj hp hlink hsame hfin hd hdg kk
theorem g_call (G : sjG J l cc nL Ts own R ret D cI cZ cJ cT cC N ad ct A post) {y : MethodName} {bytes : ByteArray} {maxL n index k ci nn : Nat} {ret : Option FieldType} {ws ws' : List Cond} {rm : Room} {C : String} {T : u_T} {As rest : List Value} {pq : Option Value → sjM → sjL → Prop}  {fs : sjM → List Value}     (hM : Met l y ws rm (sjA D cI cZ cJ cT cC N ad ct (.ref (ad k) :: As) M L) (sjZ D N ad ct A pq) 0 0 A) (hT : GoodIn Ts (wsV own index C y ws)) (hO : sjO N ct ci k fs) (hc : vwCl[ci]? = some (C, T, nn)) (hw : ws = Cond.code y bytes maxL ret :: ws') (hd : y.cls = C ∧ y.cls ≠ "java/lang/invoke/MethodHandle" ∧ y.cls ≠ "java/lang/invoke/VarHandle" ∧ (parseMethodDescriptor y.desc).map (fun d => d.parameters.length) = some n) (hrc : rm.cells = 0) (hrs : rm.slots = 0) (hR : rm.frames + 1 ≤ R.frames ∧ 8 + (maxL + 11) + rm.locals ≤ R.locals) (hn : As.length = n) (hst : st = As.reverse ++ .ref (ad k) :: rest) (hW : (rest.map fun v => v.category).sum ≤ 8) (hdg : decode cc pc = .ok (.invokevirtual index, 3))     (kk : ∀ (v : Option Value) (M1 : sjM) (L1 : sjL), pq v M1 L1 → J (pc + 3) M1 L1 lv (v.toList ++ rest)) : J pc M L lv st := by
  obtain ⟨p, e, s, m, args, below, meth, c, F, hr, hlocks, rfl⟩ := G
  exact sj_call F hM hT hO hc hw hd hrc hrs hR hn hst hW hdg kk
theorem g_min (G : sjG J l cc nL Ts own R ret D cI cZ cJ cT cC N ad ct A post) {index : Nat} {a b : Int} (ha : rng a) (hb : rng b) (hlink : Cond.methodLink own index Lib.Math.min.name ∈ Ts) (hstat : Cond.static Lib.Math.min.name ∈ Ts) (hini : Cond.initialized "java/lang/Math" ∈ Ts) (hcode : Cond.code Lib.Math.min.name Lib.Math.min.code 2 (some .int) ∈ Ts) (hframes : 1 ≤ R.frames) (hlocals : (st.map fun v => v.category).sum + 13 ≤ R.locals) (hdg : decode cc pc = .ok (.invokestatic index, 3))     (kk : J (pc + 3) M L lv (.int (iI (if b < a then b else a)) :: st)) : J pc M L lv (.int (iI b) :: .int (iI a) :: st) := by
  obtain ⟨p, e, s, m, args, below, meth, c, F, hr, hlocks, rfl⟩ := G
  exact sj_min F ha hb hlink hstat hini hcode hframes hlocals hdg kk
theorem g_iret (G : sjG J l cc nL Ts own R (some .int) D cI cZ cJ cT cC N ad ct A post) {x : Int32}  (hdg : decode cc pc = .ok (.ireturn, 1)) (h : post (some (.int x)) M L) : J pc M L lv [.int x] := by
  obtain ⟨p, e, s, m, args, below, meth, c, F, hr, hlocks, rfl⟩ := G
  exact sj_iret F hr hlocks hdg h
theorem g_zret (G : sjG J l cc nL Ts own R (some .boolean) D cI cZ cJ cT cC N ad ct A post) {x : Int32}  (hx : vp_nar .boolean x = x) (hdg : decode cc pc = .ok (.ireturn, 1)) (h : post (some (.int x)) M L) : J pc M L lv [.int x] := by
  obtain ⟨p, e, s, m, args, below, meth, c, F, hr, hlocks, rfl⟩ := G
  exact sj_zret F hr hx hlocks hdg h
theorem g_lret (G : sjG J l cc nL Ts own R (some .long) D cI cZ cJ cT cC N ad ct A post) {x : Int64}  (hdg : decode cc pc = .ok (.lreturn, 1)) (h : post (some (.long x)) M L) : J pc M L lv [.long x] := by
  obtain ⟨p, e, s, m, args, below, meth, c, F, hr, hlocks, rfl⟩ := G
  exact sj_lret F hr hlocks hdg h
theorem g_vret (G : sjG J l cc nL Ts own R (none) D cI cZ cJ cT cC N ad ct A post)  (hdg : decode cc pc = .ok (.return_, 1)) (h : post none M L) : J pc M L lv [] := by
  obtain ⟨p, e, s, m, args, below, meth, c, F, hr, hlocks, rfl⟩ := G
  exact sj_vret F hr hlocks hdg h
theorem g_aret {rt : FieldType} (G : sjG J l cc nL Ts own R (some rt) D cI cZ cJ cT cC N ad ct A post) {v : Value}   (hrt : (∃ n, rt = .object n) ∨ ∃ t, rt = .array t) (hv : v = .null ∨ ∃ a, v = .ref a) (hdg : decode cc pc = .ok (.areturn, 1)) (h : post (some v) M L) : J pc M L lv [v] := by
  obtain ⟨p, e, s, m, args, below, meth, c, F, hr, hlocks, rfl⟩ := G
  exact sj_aret F hr hrt hv hlocks hdg h
theorem g_top {x y : Int32} (h : x = y) (k : J pc M L lv (.int y :: st)) : J pc M L lv (.int x :: st) := by
  rw [h]; exact k
theorem g_mem (k : ∀ (M1 : sjM) (L1 : sjL), M1 = M → L1 = L → J pc M1 L1 lv st) : J pc M L lv st := k M L rfl rfl
theorem g_met {y : MethodName} {ws ws' : List Cond} {rm : Room} {maxL : Nat} {av : List Value} (hy : plainName y.cls = true) (hw : ws = Cond.code y cc maxL ret :: ws') (hD : ∀ g : Nat → va_E, va_D A (sjW N ad g)) (hloc : ∀ (M M' : sjM) (L L' : sjL) (k : Nat), M k = M' k → L k = L' k → ct M L k = ct M' L' k)
    (hav : ∀ v ∈ av, v.category = 1) (hlen : (lg_sl av).length ≤ maxL) (hlv : av.map some ++ List.replicate (maxL - av.length) none = lv)
    (body : ∀ J : Nat → sjM → sjL → List (Option Value) → List Value → Prop, sjG J l cc maxL ws y.cls (headSpec ws rm).room ret D cI cZ cJ cT cC N ad ct A post → J 0 M L lv []) : Met l y ws rm (sjA D cI cZ cJ cT cC N ad ct av M L) (sjZ D N ad ct A post) 0 0 A :=
  sj_met hy hw hD hloc hav hlen hlv (fun p e s m args below meth c F hr hlk => body _ ⟨p, e, s, m, args, below, meth, c, F, hr, hlk, rfl⟩)
end SJG
end
section
/-! a text T and a copy X as numbers. T: 0: 0 CHARACTERS, 1 messages, 2 erases; 1 site, 2 mark, 3 letter, 4 left, 5 right, 6 kind, 7 maker, 8 subject, 9 made by a site. X: 0: 0 length, 1 seen, 2 done, 3 waiting; 1 sequence, 2 places, 3 erased, 4 states -/
abbrev aS : Type := Nat → Int → Int
def vT (M : sjM) (t : Nat) : aS := fun j z => if j < 10 then (M (9 + 10 * t + j) z).toInt else 0
def vX (M : sjM) (i : Nat) : aS := fun j z => if j < 5 then (M (29 + 5 * i + j) z).toInt else 0
def aUp (X : aS) (j : Nat) (z v : Int) : aS := fun a b => if a = j ∧ b = z then v else X a b
theorem vT_0 (M : sjM) (t : Nat) (z : Int) : vT M t 0 z = (M (9 + 10 * t) z).toInt := rfl
theorem vX_0 (M : sjM) (i : Nat) (z : Int) : vX M i 0 z = (M (29 + 5 * i) z).toInt := rfl
theorem vT_j (M : sjM) (t j : Nat) (z : Int) (h : j < 10) : vT M t j z = (M (9 + 10 * t + j) z).toInt := by unfold vT; rw [if_pos h]
theorem vX_j (M : sjM) (i j : Nat) (z : Int) (h : j < 5) : vX M i j z = (M (29 + 5 * i + j) z).toInt := by unfold vX; rw [if_pos h]
/-- what a store into a copy's cell does to the views -/
theorem vX_U (M : sjM) (i j : Nat) (z : Int) (x : Int32) (h : j < 5) : vX (sjU M (29 + 5 * i + j) z x) i = aUp (vX M i) j z x.toInt := by
  funext a b
  unfold vX aUp sjU
  by_cases ha : a < 5
  · by_cases hj : a = j
    · subst hj
      by_cases hb : b = z <;> simp [ha, hb]
    · have : ¬ (29 + 5 * i + a = 29 + 5 * i + j) := by omega
      simp [ha, hj, this]
  · have : ¬ a = j := by omega
    simp [ha, this]
theorem vX_U0 (M : sjM) (i : Nat) (z : Int) (x : Int32) : vX (sjU M (29 + 5 * i) z x) i = aUp (vX M i) 0 z x.toInt := vX_U M i 0 z x (by omega)
theorem vX_o (M M' : sjM) (i : Nat) (h : ∀ k, 29 + 5 * i ≤ k → k ≤ 29 + 5 * i + 4 → M' k = M k) : vX M' i = vX M i := by
  funext a b
  unfold vX
  by_cases ha : a < 5
  · rw [if_pos ha, if_pos ha, h _ (by omega) (by omega)]
  · rw [if_neg ha, if_neg ha]
theorem vT_o (M M' : sjM) (t : Nat) (h : ∀ k, 9 + 10 * t ≤ k → k ≤ 9 + 10 * t + 9 → M' k = M k) : vT M' t = vT M t := by
  funext a b
  unfold vT
  by_cases ha : a < 10
  · rw [if_pos ha, if_pos ha, h _ (by omega) (by omega)]
  · rw [if_neg ha, if_neg ha]
/-- nothing but copy i's five cells has changed -/
def onC (M M' : sjM) (i : Nat) : Prop := ∀ k, ¬ (29 + 5 * i ≤ k ∧ k ≤ 29 + 5 * i + 4) → M' k = M k
theorem onC_rf (M : sjM) (i : Nat) : onC M M i := fun _ _ => rfl
theorem onC_tr {M M1 M2 : sjM} {i : Nat} (h1 : onC M M1 i) (h2 : onC M1 M2 i) : onC M M2 i := fun k h => (h2 k h).trans (h1 k h)
theorem onC_U (M : sjM) (i j : Nat) (z : Int) (x : Int32) (h : j < 5) : onC M (sjU M (29 + 5 * i + j) z x) i := fun k hk => sjU_o (by omega)
theorem onC_U0 (M : sjM) (i : Nat) (z : Int) (x : Int32) : onC M (sjU M (29 + 5 * i) z x) i := onC_U M i 0 z x (by omega)
theorem onC_T {M M' : sjM} {i : Nat} (h : onC M M' i) (t : Nat) (ht : t < 2) : vT M' t = vT M t := vT_o M M' t (fun k h1 h2 => h k (by omega))
theorem onC_X {M M' : sjM} {i i2 : Nat} (h : onC M M' i) (hn : i2 ≠ i) : vX M' i2 = vX M i2 := vX_o M M' i2 (fun k h1 h2 => h k (by omega))
theorem iI_wr (a b : Int) : iI ((iI a).toInt + b) = iI (a + b) := by rw [← iI_add, iI_of, iI_add]
theorem sjU_self (M : sjM) (k : Nat) (z : Int) : sjU M k z (M k z) = M := by
  funext a b
  unfold sjU
  by_cases h : a = k ∧ b = z
  · rw [if_pos h, h.1, h.2]
  · rw [if_neg h]
theorem sjU_U (M : sjM) (k : Nat) (z : Int) (x y : Int32) : sjU (sjU M k z x) k z y = sjU M k z y := by
  funext a b
  unfold sjU
  by_cases h : a = k ∧ b = z
  · rw [if_pos h, if_pos h]
  · rw [if_neg h, if_neg h, if_neg h]
abbrev aHasM (T : aS) (k : Int) : Prop := 0 ≤ k ∧ k < T 0 1 ∧ k < 160
abbrev aHasC (T : aS) (c : Int) : Prop := 0 ≤ c ∧ c < T 0 0 ∧ c < 60
def aKind (T : aS) (k : Int) : Int := if aHasM T k then T 6 k else -1
def aMaker (T : aS) (k : Int) : Int := if aHasM T k then T 7 k else -1
def aSubj (T : aS) (k : Int) : Int := if aHasM T k then T 8 k else -1
def aSite (T : aS) (c : Int) : Int := if aHasC T c then T 1 c else -1
def aMark (T : aS) (c : Int) : Int := if aHasC T c then T 2 c else if c = -1 then -1 else 9999
def aLetter (T : aS) (c : Int) : Int := if aHasC T c then T 3 c else -1
def aLeft (T : aS) (c : Int) : Int := if aHasC T c then T 4 c else -1
def aRight (T : aS) (c : Int) : Int := if aHasC T c then T 5 c else 60
def aPl (X : aS) (c : Int) : Int := if c < 0 then -1 else if c < 60 then X 2 c else X 0 0
def aAt (X : aS) (q : Int) : Int := if 0 ≤ q ∧ q < X 0 0 ∧ q < 60 then X 1 q else 60
abbrev aSeen (X : aS) (c : Int) : Prop := 0 ≤ c ∧ c < 60 ∧ ¬ X 2 c = -2 ∧ X 3 c = 0
def aSt (X : aS) (k : Int) : Int := if 0 ≤ k ∧ k < 160 then X 4 k else 0
abbrev aSpans (T X : aS) (o l r : Int) : Prop := aPl X (aLeft T o) ≤ l ∧ r ≤ aPl X (aRight T o)
abbrev aCan (T X : aS) (k : Int) : Prop := (aKind T k = 1 ∧ ¬ aPl X (aSubj T k) = -2) ∨ (¬ aKind T k = 1 ∧ ¬ aPl X (aLeft T (aSubj T k)) = -2 ∧ ¬ aPl X (aRight T (aSubj T k)) = -2)
/-- the least that waits and can be done, from k on -/
def aReadyF (T X : aS) : Nat → Int → Int
  | 0, _ => -1
  | n + 1, k => if aSt X k = 1 ∧ aCan T X k then k else aReadyF T X n (k + 1)
def aReady (T X : aS) : Int := if X 0 3 = 0 then -1 else aReadyF T X (T 0 1).toNat 0
def aSeenAtF (X : aS) (i : Int) : Nat → Int → Int → Int
  | 0, _, _ => 60
  | n + 1, q, a => if aSeen X (aAt X q) then (if a = i then aAt X q else aSeenAtF X i n (q + 1) (a + 1)) else aSeenAtF X i n (q + 1) a
def aSeenAt (X : aS) (i : Int) : Int := aSeenAtF X i (X 0 0).toNat 0 0
def aLFP (X : aS) (i : Int) : Int := if i ≤ 0 then -1 else aSeenAt X (i - 1)
def aRFP (X : aS) (w : Bool) (i : Int) : Int := if w then aSeenAt X i else aAt X (aPl X (aLFP X i) + 1)
/-- WOOT's ROW from q on: the last one that goes ahead, the one that comes behind, how many were asked -/
def aRow (T X : aS) (mk l r : Int) : Nat → Int → Int → Int × Int × Int
  | 0, _, a => (a, r, 0)
  | n + 1, q, a => if aSpans T X (aAt X q) l r then (if aMark T (aAt X q) < mk then ((aRow T X mk l r n (q + 1) q).1, (aRow T X mk l r n (q + 1) q).2.1, (aRow T X mk l r n (q + 1) q).2.2 + 1) else (a, q, 1)) else aRow T X mk l r n (q + 1) a
def aWootF (T X : aS) (mk : Int) : Nat → Int → Int → Int × Int
  | 0, _, r => (r, 0)
  | n + 1, l, r => if 1 < r - l then
      ((aWootF T X mk n (aRow T X mk l r (r - l - 1).toNat (l + 1) l).1 (aRow T X mk l r (r - l - 1).toNat (l + 1) l).2.1).1,
       (r - l - 1) + (aRow T X mk l r (r - l - 1).toNat (l + 1) l).2.2 + (aWootF T X mk n (aRow T X mk l r (r - l - 1).toNat (l + 1) l).1 (aRow T X mk l r (r - l - 1).toNat (l + 1) l).2.1).2)
    else (r, 0)
def aWoot (T X : aS) (c : Int) : Int × Int := aWootF T X (aMark T c) 60 (aPl X (aLeft T c)) (aPl X (aRight T c))
/-- YATA from place q on, the place so far being a: where it comes, how many were looked at -/
def aYataF (T X : aS) (c first : Int) : Nat → Int → Int → Int × Int
  | 0, _, a => (a, 0)
  | n + 1, q, a =>
    if aLeft T (aAt X q) = aLeft T c then
      (if aSite T (aAt X q) < aSite T c then ((aYataF T X c first n (q + 1) (q + 1)).1, (aYataF T X c first n (q + 1) (q + 1)).2 + 1)
       else if aRight T (aAt X q) = aRight T c then (a, 1)
       else ((aYataF T X c first n (q + 1) a).1, (aYataF T X c first n (q + 1) a).2 + 1))
    else if aPl X (aLeft T (aAt X q)) < first then (a, 1)
    else if aPl X (aLeft T (aAt X q)) < a then ((aYataF T X c first n (q + 1) (q + 1)).1, (aYataF T X c first n (q + 1) (q + 1)).2 + 1)
    else ((aYataF T X c first n (q + 1) a).1, (aYataF T X c first n (q + 1) a).2 + 1)
def aYata (T X : aS) (c : Int) : Int × Int := aYataF T X c (aPl X (aLeft T c) + 1) (aPl X (aRight T c) - (aPl X (aLeft T c) + 1)).toNat (aPl X (aLeft T c) + 1) (aPl X (aLeft T c) + 1)
/-- whether two copies are alike, from place q on -/
def aLikeF (X Y : aS) : Nat → Int → Prop
  | 0, _ => True
  | n + 1, q => aAt X q = aAt Y q ∧ (aSeen X (aAt X q) ↔ aSeen Y (aAt X q)) ∧ aLikeF X Y n (q + 1)
def aLike (X Y : aS) : Prop := X 0 0 = Y 0 0 ∧ aLikeF X Y (X 0 0).toNat 0
theorem rg_c {z : Int} (h : rng z) : rng z := h
theorem rg_kind (M : sjM) (t : Nat) (k : Int) : rng (aKind (vT M t) k) := by unfold aKind; split; exact rg _; exact ⟨by decide, by decide⟩
theorem rg_maker (M : sjM) (t : Nat) (k : Int) : rng (aMaker (vT M t) k) := by unfold aMaker; split; exact rg _; exact ⟨by decide, by decide⟩
theorem rg_subj (M : sjM) (t : Nat) (k : Int) : rng (aSubj (vT M t) k) := by unfold aSubj; split; exact rg _; exact ⟨by decide, by decide⟩
theorem rg_site (M : sjM) (t : Nat) (c : Int) : rng (aSite (vT M t) c) := by unfold aSite; split; exact rg _; exact ⟨by decide, by decide⟩
theorem rg_letter (M : sjM) (t : Nat) (c : Int) : rng (aLetter (vT M t) c) := by unfold aLetter; split; exact rg _; exact ⟨by decide, by decide⟩
theorem rg_left (M : sjM) (t : Nat) (c : Int) : rng (aLeft (vT M t) c) := by unfold aLeft; split; exact rg _; exact ⟨by decide, by decide⟩
theorem rg_right (M : sjM) (t : Nat) (c : Int) : rng (aRight (vT M t) c) := by unfold aRight; split; exact rg _; exact ⟨by decide, by decide⟩
theorem rg_mark (M : sjM) (t : Nat) (c : Int) : rng (aMark (vT M t) c) := by
  unfold aMark
  split
  · exact rg _
  · split <;> exact ⟨by decide, by decide⟩
theorem rg_pl (M : sjM) (i : Nat) (c : Int) : rng (aPl (vX M i) c) := by
  unfold aPl
  split
  · exact ⟨by decide, by decide⟩
  · split <;> exact rg _
theorem rg_at (M : sjM) (i : Nat) (q : Int) : rng (aAt (vX M i) q) := by unfold aAt; split; exact rg _; exact ⟨by decide, by decide⟩
theorem rg_st (M : sjM) (i : Nat) (k : Int) : rng (aSt (vX M i) k) := by unfold aSt; split; exact rg _; exact ⟨by decide, by decide⟩
theorem rg_seenAtF (M : sjM) (i : Nat) (z : Int) : ∀ (n : Nat) (q a : Int), rng (aSeenAtF (vX M i) z n q a)
  | 0, _, _ => by rw [aSeenAtF]; exact ⟨by decide, by decide⟩
  | n + 1, q, a => by
    rw [aSeenAtF]
    split
    · split
      · exact rg_at M i q
      · exact rg_seenAtF M i z n _ _
    · exact rg_seenAtF M i z n _ _
theorem rg_seenAt (M : sjM) (i : Nat) (z : Int) : rng (aSeenAt (vX M i) z) := rg_seenAtF M i z _ _ _
theorem rg_lfp (M : sjM) (i : Nat) (z : Int) : rng (aLFP (vX M i) z) := by unfold aLFP; split; exact ⟨by decide, by decide⟩; exact rg_seenAt M i _
theorem aAt_up0 (X : aS) (z v q : Int) (hz : ¬ z = 0) : aAt (aUp X 0 z v) q = aAt X q := by
  unfold aAt aUp; simp [Ne.symm hz, hz]
theorem aPl_up0 (X : aS) (z v q : Int) (hz : ¬ z = 0) : aPl (aUp X 0 z v) q = aPl X q := by
  unfold aPl aUp; simp [Ne.symm hz, hz]
theorem aSt_up0 (X : aS) (z v q : Int) : aSt (aUp X 0 z v) q = aSt X q := by
  unfold aSt aUp; simp
end
section
/-! WOOT's order as words: an odd digit names a CHARACTER by its MARK, an even one the gap below it. A word ends with its odd digit. Bounds: [] is none. -/
def wl : List Nat → List Nat → Prop
  | [], _ => False
  | _ :: _, [] => False
  | a :: l, b :: u => a < b ∨ (a = b ∧ wl l u)
def wV : List Nat → Prop
  | [] => False
  | a :: l => (l = [] ∧ a % 2 = 1) ∨ (a % 2 = 0 ∧ wV l)
def wB (l : List Nat) : Prop := l = [] ∨ wV l
def wL (l x : List Nat) : Prop := l = [] ∨ wl l x
def wU (x u : List Nat) : Prop := u = [] ∨ wl x u
def wO (lo hi : List Nat) : Prop := lo = [] ∨ hi = [] ∨ wl lo hi
def psi (lo hi : List Nat) (t : Nat) : List Nat :=
  match lo, hi with
  | [], [] => [t]
  | [], b :: u => if t < b then [t] else (b - b % 2) :: psi [] u t
  | a :: l, [] => if a < t then [t] else (a + a % 2) :: psi l [] t
  | a :: l, b :: u => if t ≤ a then (a + a % 2) :: psi l (if b = a + a % 2 then u else []) t else if t < b then [t] else (b - b % 2) :: psi (if a = b - b % 2 then l else []) u t
termination_by lo.length + hi.length
decreasing_by
  all_goals simp_wf
  all_goals first | omega | (split <;> first | omega | (simp; done) | (simp; omega)) | (simp; omega)
theorem wl_irrefl : ∀ l : List Nat, ¬ wl l l
  | [], h => h
  | a :: l, h => by
    rcases h with h | h
    · omega
    · exact wl_irrefl l h.2
theorem wl_trans : ∀ (a b c : List Nat), wl a b → wl b c → wl a c
  | [], _, _, h, _ => absurd h (fun q => q)
  | _ :: _, [], _, h, _ => absurd h (fun q => q)
  | _ :: _, _ :: _, [], _, h => absurd h (fun q => q)
  | x :: a, y :: b, z :: c, h1, h2 => by
    rcases h1 with h1 | ⟨h1, k1⟩ <;> rcases h2 with h2 | ⟨h2, k2⟩
    · exact Or.inl (by omega)
    · exact Or.inl (by omega)
    · exact Or.inl (by omega)
    · exact Or.inr ⟨by omega, wl_trans a b c k1 k2⟩
theorem wl_total : ∀ (a b : List Nat), wV a → wV b → a = b ∨ wl a b ∨ wl b a
  | [], _, h, _ => absurd h (fun q => q)
  | _ :: _, [], _, h => absurd h (fun q => q)
  | x :: a, y :: b, h1, h2 => by
    rcases Nat.lt_trichotomy x y with h | h | h
    · exact Or.inr (Or.inl (Or.inl h))
    · subst h
      rcases h1 with ⟨h1, o1⟩ | ⟨o1, h1⟩ <;> rcases h2 with ⟨h2, o2⟩ | ⟨o2, h2⟩
      · subst h1; subst h2; exact Or.inl rfl
      · omega
      · omega
      · rcases wl_total a b h1 h2 with q | q | q
        · exact Or.inl (by rw [q])
        · exact Or.inr (Or.inl (Or.inr ⟨rfl, q⟩))
        · exact Or.inr (Or.inr (Or.inr ⟨rfl, q⟩))
    · exact Or.inr (Or.inr (Or.inl h))
theorem wB_tail {a : Nat} {l : List Nat} (h : wB (a :: l)) : wB l := by
  rcases h with h | h | h
  · cases h
  · exact Or.inl h.1
  · exact Or.inr h.2
theorem wB_odd {a : Nat} {l : List Nat} (h : wB (a :: l)) (ho : a % 2 = 1) : l = [] := by
  rcases h with h | h | h
  · cases h
  · exact h.1
  · omega
theorem wB_even {a : Nat} {l : List Nat} (h : wB (a :: l)) (ho : a % 2 = 0) : wV l := by
  rcases h with h | h | h
  · cases h
  · omega
  · exact h.2
theorem wV_ne {l : List Nat} (h : wV l) : l ≠ [] := by
  intro q; subst q; exact h
theorem wO_cons {a b : Nat} {l u : List Nat} (h : wO (a :: l) (b :: u)) : a < b ∨ (a = b ∧ wl l u) := by
  rcases h with h | h | h
  · cases h
  · cases h
  · exact h
theorem psi_A : ∀ (n : Nat) (lo hi : List Nat) (t : Nat), lo.length + hi.length ≤ n → wB lo → wB hi → wO lo hi → t % 2 = 1 → wV (psi lo hi t) ∧ wL lo (psi lo hi t) ∧ wU (psi lo hi t) hi := by
  intro n
  induction n with
  | zero =>
    intro lo hi t hn h1 h2 h3 ht
    have e1 : lo = [] := List.length_eq_zero_iff.mp (by omega)
    have e2 : hi = [] := List.length_eq_zero_iff.mp (by omega)
    subst e1; subst e2
    rw [psi]
    exact ⟨Or.inl ⟨rfl, ht⟩, Or.inl rfl, Or.inl rfl⟩
  | succ n ih =>
    intro lo hi t hn h1 h2 h3 ht
    match lo, hi, hn, h1, h2, h3 with
    | [], [], hn, h1, h2, h3 =>
      rw [psi]
      exact ⟨Or.inl ⟨rfl, ht⟩, Or.inl rfl, Or.inl rfl⟩
    | [], b :: u, hn, h1, h2, h3 =>
      rw [psi]
      split
      · rename_i q
        exact ⟨Or.inl ⟨rfl, ht⟩, Or.inl rfl, Or.inr (Or.inl q)⟩
      · rename_i q
        obtain ⟨a1, a2, a3⟩ := ih [] u t (by simp at hn ⊢; omega) (Or.inl rfl) (wB_tail h2) (Or.inl rfl) ht
        refine ⟨Or.inr ⟨by omega, a1⟩, Or.inl rfl, Or.inr ?_⟩
        rcases Nat.mod_two_eq_zero_or_one b with o | o
        · rcases a3 with a3 | a3
          · exact absurd a3 (wV_ne (wB_even h2 o))
          · exact Or.inr ⟨by omega, a3⟩
        · exact Or.inl (by omega)
    | a :: l, [], hn, h1, h2, h3 =>
      rw [psi]
      split
      · rename_i q
        exact ⟨Or.inl ⟨rfl, ht⟩, Or.inr (Or.inl q), Or.inl rfl⟩
      · rename_i q
        obtain ⟨a1, a2, a3⟩ := ih l [] t (by simp at hn ⊢; omega) (wB_tail h1) (Or.inl rfl) (Or.inr (Or.inl rfl)) ht
        refine ⟨Or.inr ⟨by omega, a1⟩, Or.inr ?_, Or.inl rfl⟩
        rcases Nat.mod_two_eq_zero_or_one a with o | o
        · rcases a2 with a2 | a2
          · exact absurd a2 (wV_ne (wB_even h1 o))
          · exact Or.inr ⟨by omega, a2⟩
        · exact Or.inl (by omega)
    | a :: l, b :: u, hn, h1, h2, h3 =>
      have h4 := wO_cons h3
      rw [psi]
      split
      · rename_i q
        by_cases hb : b = a + a % 2
        · rw [if_pos hb]
          have o2 : wO l u := by
            rcases h4 with h4 | h4
            · exact Or.inl (wB_odd h1 (by omega))
            · exact Or.inr (Or.inr h4.2)
          obtain ⟨a1, a2, a3⟩ := ih l u t (by simp at hn ⊢; omega) (wB_tail h1) (wB_tail h2) o2 ht
          refine ⟨Or.inr ⟨by omega, a1⟩, Or.inr ?_, Or.inr ?_⟩
          · rcases Nat.mod_two_eq_zero_or_one a with o | o
            · rcases a2 with a2 | a2
              · exact absurd a2 (wV_ne (wB_even h1 o))
              · exact Or.inr ⟨by omega, a2⟩
            · exact Or.inl (by omega)
          · rcases a3 with a3 | a3
            · exact absurd a3 (wV_ne (wB_even h2 (by omega)))
            · exact Or.inr ⟨by omega, a3⟩
        · rw [if_neg hb]
          obtain ⟨a1, a2, a3⟩ := ih l [] t (by simp at hn ⊢; omega) (wB_tail h1) (Or.inl rfl) (Or.inr (Or.inl rfl)) ht
          refine ⟨Or.inr ⟨by omega, a1⟩, Or.inr ?_, Or.inr (Or.inl ?_)⟩
          · rcases Nat.mod_two_eq_zero_or_one a with o | o
            · rcases a2 with a2 | a2
              · exact absurd a2 (wV_ne (wB_even h1 o))
              · exact Or.inr ⟨by omega, a2⟩
            · exact Or.inl (by omega)
          · rcases h4 with h4 | ⟨h4, h5⟩
            · omega
            · rcases Nat.mod_two_eq_zero_or_one a with o | o
              · omega
              · exact absurd h5 (by rw [wB_odd h1 o]; exact fun q => q)
      · split
        · rename_i q1 q2
          exact ⟨Or.inl ⟨rfl, ht⟩, Or.inr (Or.inl (by omega)), Or.inr (Or.inl q2)⟩
        · rename_i q1 q2
          by_cases hb : a = b - b % 2
          · rw [if_pos hb]
            have o2 : wO l u := by
              rcases h4 with h4 | h4
              · exact Or.inr (Or.inl (wB_odd h2 (by omega)))
              · exact Or.inr (Or.inr h4.2)
            obtain ⟨a1, a2, a3⟩ := ih l u t (by simp at hn ⊢; omega) (wB_tail h1) (wB_tail h2) o2 ht
            refine ⟨Or.inr ⟨by omega, a1⟩, Or.inr ?_, Or.inr ?_⟩
            · rcases a2 with a2 | a2
              · exact absurd a2 (wV_ne (wB_even h1 (by omega)))
              · exact Or.inr ⟨by omega, a2⟩
            · rcases Nat.mod_two_eq_zero_or_one b with o | o
              · rcases a3 with a3 | a3
                · exact absurd a3 (wV_ne (wB_even h2 o))
                · exact Or.inr ⟨by omega, a3⟩
              · exact Or.inl (by omega)
          · rw [if_neg hb]
            obtain ⟨a1, a2, a3⟩ := ih [] u t (by simp at hn ⊢; omega) (Or.inl rfl) (wB_tail h2) (Or.inl rfl) ht
            refine ⟨Or.inr ⟨by omega, a1⟩, Or.inr (Or.inl ?_), Or.inr ?_⟩
            · rcases h4 with h4 | ⟨h4, h5⟩
              · omega
              · rcases Nat.mod_two_eq_zero_or_one b with o | o
                · omega
                · rw [wB_odd h2 o] at h5
                  cases l with
                  | nil => exact absurd h5 (fun q => q)
                  | cons x l => exact absurd h5 (fun q => q)
            · rcases Nat.mod_two_eq_zero_or_one b with o | o
              · rcases a3 with a3 | a3
                · exact absurd a3 (wV_ne (wB_even h2 o))
                · exact Or.inr ⟨by omega, a3⟩
              · exact Or.inl (by omega)
theorem psi_M : ∀ (n : Nat) (lo hi : List Nat) (t t' : Nat), lo.length + hi.length ≤ n → wB lo → wB hi → wO lo hi → t % 2 = 1 → t' % 2 = 1 → t < t' → wl (psi lo hi t) (psi lo hi t') := by
  intro n
  induction n with
  | zero =>
    intro lo hi t t' hn h1 h2 h3 ht ht' hl
    have e1 : lo = [] := List.length_eq_zero_iff.mp (by omega)
    have e2 : hi = [] := List.length_eq_zero_iff.mp (by omega)
    subst e1; subst e2
    rw [psi, psi]
    exact Or.inl hl
  | succ n ih =>
    intro lo hi t t' hn h1 h2 h3 ht ht' hl
    match lo, hi, hn, h1, h2, h3 with
    | [], [], hn, h1, h2, h3 =>
      rw [psi, psi]
      exact Or.inl hl
    | [], b :: u, hn, h1, h2, h3 =>
      rw [psi, psi]
      by_cases q : t < b <;> by_cases q' : t' < b
      · rw [if_pos q, if_pos q']; exact Or.inl hl
      · rw [if_pos q, if_neg q']; exact Or.inl (by omega)
      · omega
      · rw [if_neg q, if_neg q']
        exact Or.inr ⟨rfl, ih [] u t t' (by simp at hn ⊢; omega) (Or.inl rfl) (wB_tail h2) (Or.inl rfl) ht ht' hl⟩
    | a :: l, [], hn, h1, h2, h3 =>
      rw [psi, psi]
      by_cases q : a < t <;> by_cases q' : a < t'
      · rw [if_pos q, if_pos q']; exact Or.inl hl
      · omega
      · rw [if_neg q, if_pos q']; exact Or.inl (by omega)
      · rw [if_neg q, if_neg q']
        exact Or.inr ⟨rfl, ih l [] t t' (by simp at hn ⊢; omega) (wB_tail h1) (Or.inl rfl) (Or.inr (Or.inl rfl)) ht ht' hl⟩
    | a :: l, b :: u, hn, h1, h2, h3 =>
      have h4 := wO_cons h3
      rw [psi, psi]
      by_cases q : t ≤ a
      · rw [if_pos q]
        by_cases q' : t' ≤ a
        · rw [if_pos q']
          by_cases hb : b = a + a % 2
          · rw [if_pos hb]
            have o2 : wO l u := by
              rcases h4 with h4 | h4
              · exact Or.inl (wB_odd h1 (by omega))
              · exact Or.inr (Or.inr h4.2)
            exact Or.inr ⟨rfl, ih l u t t' (by simp at hn ⊢; omega) (wB_tail h1) (wB_tail h2) o2 ht ht' hl⟩
          · rw [if_neg hb]
            exact Or.inr ⟨rfl, ih l [] t t' (by simp at hn ⊢; omega) (wB_tail h1) (Or.inl rfl) (Or.inr (Or.inl rfl)) ht ht' hl⟩
        · rw [if_neg q']
          by_cases r' : t' < b
          · rw [if_pos r']; exact Or.inl (by omega)
          · rw [if_neg r']
            by_cases hg : a + a % 2 = b - b % 2
            · have o2 : wO l u := by
                rcases h4 with h4 | h4
                · by_cases oa : a % 2 = 1
                  · exact Or.inl (wB_odd h1 oa)
                  · exact Or.inr (Or.inl (wB_odd h2 (by omega)))
                · exact Or.inr (Or.inr h4.2)
              have eu : (if b = a + a % 2 then u else []) = u := by
                by_cases hb : b = a + a % 2
                · rw [if_pos hb]
                · rw [if_neg hb, wB_odd h2 (by omega)]
              have el : (if a = b - b % 2 then l else []) = l := by
                by_cases hb : a = b - b % 2
                · rw [if_pos hb]
                · rw [if_neg hb, wB_odd h1 (by omega)]
              rw [eu, el]
              exact Or.inr ⟨hg, ih l u t t' (by simp at hn ⊢; omega) (wB_tail h1) (wB_tail h2) o2 ht ht' hl⟩
            · refine Or.inl ?_
              rcases h4 with h4 | ⟨h4, h5⟩
              · omega
              · subst h4
                rcases Nat.mod_two_eq_zero_or_one a with o | o
                · omega
                · exact absurd h5 (by rw [wB_odd h1 o]; exact fun q => q)
      · rw [if_neg q, if_neg (show ¬ t' ≤ a by omega)]
        by_cases r : t < b
        · rw [if_pos r]
          by_cases r' : t' < b
          · rw [if_pos r']; exact Or.inl hl
          · rw [if_neg r']; exact Or.inl (by omega)
        · rw [if_neg r, if_neg (show ¬ t' < b by omega)]
          by_cases hb : a = b - b % 2
          · rw [if_pos hb]
            have o2 : wO l u := by
              rcases h4 with h4 | h4
              · exact Or.inr (Or.inl (wB_odd h2 (by omega)))
              · exact Or.inr (Or.inr h4.2)
            exact Or.inr ⟨rfl, ih l u t t' (by simp at hn ⊢; omega) (wB_tail h1) (wB_tail h2) o2 ht ht' hl⟩
          · rw [if_neg hb]
            exact Or.inr ⟨rfl, ih [] u t t' (by simp at hn ⊢; omega) (Or.inl rfl) (wB_tail h2) (Or.inl rfl) ht ht' hl⟩
def gap (h : List Nat) (g : Nat) : List Nat := match h with
  | [] => []
  | b :: u => if b = g then u else []
theorem gap_len (h : List Nat) (g : Nat) : (gap h g).length ≤ h.length := by
  cases h with
  | nil => exact Nat.le_refl _
  | cons b u => simp only [gap]; split <;> simp
theorem gap_B {h : List Nat} (g : Nat) (hb : wB h) : wB (gap h g) := by
  cases h with
  | nil => exact Or.inl rfl
  | cons b u =>
    simp only [gap]
    split
    · exact wB_tail hb
    · exact Or.inl rfl
theorem wl_nil (l : List Nat) : ¬ wl l [] := by
  cases l <;> exact fun q => q
theorem psi_lo {a t : Nat} {l hi : List Nat} (h : t ≤ a) : psi (a :: l) hi t = (a + a % 2) :: psi l (gap hi (a + a % 2)) t := by
  cases hi with
  | nil => rw [psi, if_neg (by omega)]; rfl
  | cons b u => rw [psi, if_pos h]; rfl
theorem psi_hi {b t : Nat} {lo u : List Nat} (h0 : ∀ a l, lo = a :: l → a < t) (h : b ≤ t) : psi lo (b :: u) t = (b - b % 2) :: psi (gap lo (b - b % 2)) u t := by
  cases lo with
  | nil => rw [psi, if_neg (by omega)]; rfl
  | cons a l =>
    have := h0 a l rfl
    rw [psi, if_neg (by omega), if_neg (by omega)]; rfl
theorem psi_t {t : Nat} {lo hi : List Nat} (h1 : ∀ a l, lo = a :: l → a < t) (h2 : ∀ b u, hi = b :: u → t < b) : psi lo hi t = [t] := by
  cases lo with
  | nil =>
    cases hi with
    | nil => rw [psi]
    | cons b u => rw [psi, if_pos (h2 b u rfl)]
  | cons a l =>
    have := h1 a l rfl
    cases hi with
    | nil => rw [psi, if_pos this]
    | cons b u => rw [psi, if_neg (by omega), if_pos (h2 b u rfl)]
theorem psi_B : ∀ (n : Nat) (lo hi lo2 hi2 : List Nat) (t : Nat), lo.length + hi.length ≤ n → wB lo → wB hi → wB lo2 → wB hi2 → wO lo hi → t % 2 = 1 → (lo = [] ∨ lo = lo2 ∨ wl lo lo2) → wL lo2 (psi lo hi t) → wU (psi lo hi t) hi2 → (hi = [] ∨ hi2 = hi ∨ wl hi2 hi) → psi lo2 hi2 t = psi lo hi t := by
  intro n
  induction n with
  | zero =>
    intro lo hi lo2 hi2 t hn b1 b2 c1 c2 ho ht k1 k2 k3 k4
    have e1 : lo = [] := List.length_eq_zero_iff.mp (by omega)
    have e2 : hi = [] := List.length_eq_zero_iff.mp (by omega)
    subst e1; subst e2
    rw [psi] at k2 k3 ⊢
    refine psi_t (fun a l e => ?_) (fun b u e => ?_)
    · subst e
      rcases k2 with k2 | k2 | k2
      · cases k2
      · exact k2
      · exact absurd k2.2 (wl_nil _)
    · subst e
      rcases k3 with k3 | k3 | k3
      · cases k3
      · exact k3
      · exact absurd k3.2 (fun q => q)
  | succ n ih =>
    intro lo hi lo2 hi2 t hn b1 b2 c1 c2 ho ht k1 k2 k3 k4
    by_cases hL : ∃ a l, lo = a :: l ∧ t ≤ a
    · obtain ⟨a, l, rfl, hta⟩ := hL
      rw [psi_lo hta] at k2 k3 ⊢
      generalize hg : a + a % 2 = g at k2 k3 ⊢
      have h2 : ∃ a2 l2, lo2 = a2 :: l2 ∧ (a < a2 ∨ (a = a2 ∧ (l = l2 ∨ wl l l2))) := by
        rcases k1 with k1 | k1 | k1
        · cases k1
        · exact ⟨a, l, k1.symm, Or.inr ⟨rfl, Or.inl rfl⟩⟩
        · cases lo2 with
          | nil => exact absurd k1 (fun q => q)
          | cons a2 l2 =>
            rcases k1 with k1 | k1
            · exact ⟨a2, l2, rfl, Or.inl k1⟩
            · exact ⟨a2, l2, rfl, Or.inr ⟨k1.1, Or.inr k1.2⟩⟩
      obtain ⟨a2, l2, rfl, h3⟩ := h2
      have k2' : a2 < g ∨ (a2 = g ∧ wl l2 (psi l (gap hi g) t)) := by
        rcases k2 with k2 | k2
        · cases k2
        · exact k2
      have hge : a ≤ a2 := by rcases h3 with h3 | h3 <;> omega
      have hle : a2 ≤ g := by rcases k2' with h3 | h3 <;> omega
      rw [psi_lo (show t ≤ a2 by omega)]
      have hg2 : a2 + a2 % 2 = g := by omega
      rw [hg2]
      congr 1
      have hlen := gap_len hi g
      refine ih l (gap hi g) l2 (gap hi2 g) t (by simp at hn; omega) (wB_tail b1) (gap_B g b2) (wB_tail c1) (gap_B g c2) ?_ ht ?_ ?_ ?_ ?_
      · cases hi with
        | nil => exact Or.inr (Or.inl rfl)
        | cons b u =>
          by_cases hb : b = g
          · simp only [gap, if_pos hb]
            rcases wO_cons ho with h | h
            · exact Or.inl (wB_odd b1 (by omega))
            · exact Or.inr (Or.inr h.2)
          · simp only [gap, if_neg hb]
            exact Or.inr (Or.inl rfl)
      · rcases Nat.mod_two_eq_zero_or_one a with o | o
        · rcases h3 with h3 | h3
          · omega
          · exact Or.inr h3.2
        · exact Or.inl (wB_odd b1 o)
      · rcases k2' with h | h
        · exact Or.inl (wB_odd c1 (by omega))
        · exact Or.inr h.2
      · cases hi2 with
        | nil => exact Or.inl rfl
        | cons b2' u2 =>
          rcases k3 with k3 | k3 | k3
          · cases k3
          · simp only [gap, if_neg (show ¬ b2' = g by omega)]
            exact Or.inl rfl
          · simp only [gap, if_pos k3.1.symm]
            exact Or.inr k3.2
      · cases hi with
        | nil => exact Or.inl rfl
        | cons b u =>
          by_cases hb : b = g
          · rcases k4 with k4 | k4 | k4
            · cases k4
            · rw [k4]; exact Or.inr (Or.inl rfl)
            · cases hi2 with
              | nil => exact absurd k4 (fun q => q)
              | cons b2' u2 =>
                have k3' : g < b2' ∨ (g = b2' ∧ wl (psi l (gap (b :: u) g) t) u2) := by
                  rcases k3 with k3 | k3
                  · cases k3
                  · exact k3
                rcases k4 with k4 | k4
                · rcases k3' with q | q <;> omega
                · simp only [gap, if_pos hb, if_pos (show b2' = g by omega)]
                  exact Or.inr (Or.inr k4.2)
          · simp only [gap, if_neg hb]
            exact Or.inl trivial
    · have hL2 : ∀ a l, lo = a :: l → a < t := fun a l e => Nat.lt_of_not_le (fun q => hL ⟨a, l, e, q⟩)
      by_cases hH : ∃ b u, hi = b :: u ∧ b ≤ t
      · obtain ⟨b, u, rfl, htb⟩ := hH
        rw [psi_hi hL2 htb] at k2 k3 ⊢
        generalize hg : b - b % 2 = g at k2 k3 ⊢
        have h2 : ∃ b2' u2, hi2 = b2' :: u2 ∧ (b2' < b ∨ (b2' = b ∧ (u2 = u ∨ wl u2 u))) := by
          rcases k4 with k4 | k4 | k4
          · cases k4
          · exact ⟨b, u, k4, Or.inr ⟨rfl, Or.inl rfl⟩⟩
          · cases hi2 with
            | nil => exact absurd k4 (fun q => q)
            | cons b2' u2 =>
              rcases k4 with k4 | k4
              · exact ⟨b2', u2, rfl, Or.inl k4⟩
              · exact ⟨b2', u2, rfl, Or.inr ⟨k4.1, Or.inr k4.2⟩⟩
        obtain ⟨b2', u2, rfl, h3⟩ := h2
        have k3' : g < b2' ∨ (g = b2' ∧ wl (psi (gap lo g) u t) u2) := by
          rcases k3 with k3 | k3
          · cases k3
          · exact k3
        have hle : b2' ≤ b := by rcases h3 with h3 | h3 <;> omega
        have hge : g ≤ b2' := by rcases k3' with h3 | h3 <;> omega
        have k2' : ∀ a2 l2, lo2 = a2 :: l2 → a2 < g ∨ (a2 = g ∧ wl l2 (psi (gap lo g) u t)) := by
          intro a2 l2 e
          subst e
          rcases k2 with k2 | k2
          · cases k2
          · exact k2
        rw [psi_hi (fun a2 l2 e => by rcases k2' a2 l2 e with q | q <;> omega) (show b2' ≤ t by omega)]
        have hg2 : b2' - b2' % 2 = g := by omega
        rw [hg2]
        congr 1
        have hlen := gap_len lo g
        refine ih (gap lo g) u (gap lo2 g) u2 t (by simp at hn; omega) (gap_B g b1) (wB_tail b2) (gap_B g c1) (wB_tail c2) ?_ ht ?_ ?_ ?_ ?_
        · cases lo with
          | nil => exact Or.inl rfl
          | cons a l =>
            by_cases ha : a = g
            · simp only [gap, if_pos ha]
              rcases wO_cons ho with h | h
              · exact Or.inr (Or.inl (wB_odd b2 (by omega)))
              · exact Or.inr (Or.inr h.2)
            · simp only [gap, if_neg ha]
              exact Or.inl rfl
        · cases lo with
          | nil => exact Or.inl rfl
          | cons a l =>
            by_cases ha : a = g
            · rcases k1 with k1 | k1 | k1
              · cases k1
              · rw [← k1]; exact Or.inr (Or.inl rfl)
              · cases lo2 with
                | nil => exact absurd k1 (fun q => q)
                | cons a2 l2 =>
                  have k5 := k2' a2 l2 rfl
                  rcases k1 with k1 | k1
                  · rcases k5 with q | q <;> omega
                  · simp only [gap, if_pos ha, if_pos (show a2 = g by omega)]
                    exact Or.inr (Or.inr k1.2)
            · simp only [gap, if_neg ha]
              exact Or.inl trivial
        · cases lo2 with
          | nil => exact Or.inl rfl
          | cons a2 l2 =>
            by_cases ha : a2 = g
            · simp only [gap, if_pos ha]
              rcases k2' a2 l2 rfl with q | q
              · omega
              · exact Or.inr q.2
            · simp only [gap, if_neg ha]
              exact Or.inl rfl
        · rcases k3' with h | h
          · exact Or.inl (wB_odd c2 (by omega))
          · exact Or.inr h.2
        · rcases Nat.mod_two_eq_zero_or_one b with o | o
          · rcases h3 with h3 | h3
            · omega
            · exact Or.inr h3.2
          · exact Or.inl (wB_odd b2 o)
      · have hH2 : ∀ b u, hi = b :: u → t < b := fun b u e => Nat.lt_of_not_le (fun q => hH ⟨b, u, e, q⟩)
        rw [psi_t hL2 hH2] at k2 k3 ⊢
        refine psi_t (fun a l e => ?_) (fun b u e => ?_)
        · subst e
          rcases k2 with k2 | k2 | k2
          · cases k2
          · exact k2
          · exact absurd k2.2 (wl_nil _)
        · subst e
          rcases k3 with k3 | k3 | k3
          · cases k3
          · exact k3
          · exact absurd k3.2 (fun q => q)
end
section
/-! copies that are sorted by a rank -/
theorem sj_lg (a b : Int) : a < b ∨ b ≤ a := by omega
abbrev inX (X : aS) (a : Int) : Prop := a = -1 ∨ a = 60 ∨ (0 ≤ a ∧ a < 60 ∧ ¬ X 2 a = -2)
abbrev isR (T : aS) (a : Int) : Prop := a = -1 ∨ a = 60 ∨ aHasC T a
/-- the CHARACTERS' LEFT and RIGHT are elder -/
def tRef (T : aS) : Prop := ∀ c, aHasC T c → (aLeft T c = -1 ∨ (0 ≤ aLeft T c ∧ aLeft T c < c)) ∧ (aRight T c = 60 ∨ (0 ≤ aRight T c ∧ aRight T c < c))
/-- a copy's SEQUENCE and places fit; what is in it has its LEFT and RIGHT in it -/
def cpOK (T X : aS) : Prop := 0 ≤ X 0 0 ∧ X 0 0 ≤ 60 ∧ (∀ q, 0 ≤ q → q < X 0 0 → aHasC T (X 1 q) ∧ X 2 (X 1 q) = q) ∧ (∀ c, 0 ≤ c → c < 60 → X 2 c = -2 ∨ (0 ≤ X 2 c ∧ X 2 c < X 0 0 ∧ X 1 (X 2 c) = c)) ∧ (∀ c, 0 ≤ c → c < 60 → ¬ X 2 c = -2 → inX X (aLeft T c) ∧ inX X (aRight T c))
theorem tRef_l {T : aS} (h : tRef T) {c : Int} (hc : aHasC T c) : isR T (aLeft T c) := by
  rcases (h c hc).1 with q | q
  · exact Or.inl q
  · exact Or.inr (Or.inr ⟨q.1, by omega, by omega⟩)
theorem tRef_r {T : aS} (h : tRef T) {c : Int} (hc : aHasC T c) : isR T (aRight T c) := by
  rcases (h c hc).2 with q | q
  · exact Or.inr (Or.inl q)
  · exact Or.inr (Or.inr ⟨q.1, by omega, by omega⟩)
theorem at_in {X : aS} {q : Int} (h0 : 0 ≤ q) (h1 : q < X 0 0) (h2 : X 0 0 ≤ 60) : aAt X q = X 1 q := by
  unfold aAt; rw [if_pos ⟨h0, h1, by omega⟩]
theorem pl_char {X : aS} {c : Int} (h0 : 0 ≤ c) (h1 : c < 60) : aPl X c = X 2 c := by
  unfold aPl; rw [if_neg (by omega), if_pos h1]
theorem pl_beg {X : aS} : aPl X (-1) = -1 := by
  unfold aPl; rw [if_pos (by omega)]
theorem pl_end {X : aS} : aPl X 60 = X 0 0 := by
  unfold aPl; rw [if_neg (by omega), if_neg (by omega)]
theorem cp_has {T X : aS} (h : cpOK T X) {a : Int} (h0 : 0 ≤ a) (h1 : a < 60) (h2 : ¬ X 2 a = -2) : aHasC T a ∧ 0 ≤ X 2 a ∧ X 2 a < X 0 0 ∧ X 1 (X 2 a) = a := by
  obtain ⟨-, -, h3, h4, -⟩ := h
  rcases h4 a h0 h1 with q | ⟨q1, q2, q3⟩
  · exact absurd q h2
  · have := (h3 _ q1 q2).1
    rw [q3] at this
    exact ⟨this, q1, q2, q3⟩
theorem cp_isR {T X : aS} (h : cpOK T X) {a : Int} (ha : inX X a) : isR T a := by
  rcases ha with ha | ha | ⟨h0, h1, h2⟩
  · exact Or.inl ha
  · exact Or.inr (Or.inl ha)
  · exact Or.inr (Or.inr (cp_has h h0 h1 h2).1)
theorem cp_at {T X : aS} (h : cpOK T X) {q : Int} (h0 : 0 ≤ q) (h1 : q < X 0 0) : aHasC T (aAt X q) ∧ aPl X (aAt X q) = q ∧ inX X (aAt X q) ∧ inX X (aLeft T (aAt X q)) ∧ inX X (aRight T (aAt X q)) := by
  have h' := h
  obtain ⟨a1, a2, a3, a4, a5⟩ := h
  rw [at_in h0 h1 a2]
  obtain ⟨b1, b2⟩ := a3 q h0 h1
  have b3 : ¬ X 2 (X 1 q) = -2 := by rw [b2]; omega
  refine ⟨b1, by rw [pl_char b1.1 b1.2.2]; exact b2, Or.inr (Or.inr ⟨b1.1, b1.2.2, b3⟩), a5 _ b1.1 b1.2.2 b3⟩
def srt (ρ : Int → Int) (X : aS) : Prop := ∀ a b, 0 ≤ a → a < b → b < X 0 0 → ρ (X 1 a) < ρ (X 1 b)
def rnk (T : aS) (ρ : Int → Int) : Prop := (∀ a b, isR T a → isR T b → ρ a = ρ b → a = b) ∧ (∀ c, aHasC T c → ρ (-1) < ρ c ∧ ρ c < ρ 60) ∧ ρ (-1) < ρ 60
theorem pl_lt {T X : aS} {ρ : Int → Int} (hr : rnk T ρ) (h : cpOK T X) (hs : srt ρ X) {a b : Int} (ha : inX X a) (hb : inX X b) : ρ a < ρ b ↔ aPl X a < aPl X b := by
  obtain ⟨r1, r2, r3⟩ := hr
  have hl := h.1
  rcases ha with rfl | rfl | ⟨a0, a1, a2⟩ <;> rcases hb with rfl | rfl | ⟨b0, b1, b2⟩
  · simp
  · rw [pl_beg, pl_end]; constructor <;> intro <;> omega
  · obtain ⟨c1, c2, c3, c4⟩ := cp_has h b0 b1 b2
    rw [pl_beg, pl_char b0 b1]
    have := r2 b c1
    constructor <;> intro <;> omega
  · rw [pl_beg, pl_end]; constructor <;> intro <;> omega
  · simp
  · obtain ⟨c1, c2, c3, c4⟩ := cp_has h b0 b1 b2
    rw [pl_end, pl_char b0 b1]
    have := r2 b c1
    constructor <;> intro <;> omega
  · obtain ⟨c1, c2, c3, c4⟩ := cp_has h a0 a1 a2
    rw [pl_beg, pl_char a0 a1]
    have := r2 a c1
    constructor <;> intro <;> omega
  · obtain ⟨c1, c2, c3, c4⟩ := cp_has h a0 a1 a2
    rw [pl_end, pl_char a0 a1]
    have := r2 a c1
    constructor <;> intro <;> omega
  · obtain ⟨c1, c2, c3, c4⟩ := cp_has h a0 a1 a2
    obtain ⟨d1, d2, d3, d4⟩ := cp_has h b0 b1 b2
    rw [pl_char a0 a1, pl_char b0 b1]
    rcases Int.lt_trichotomy (X 2 a) (X 2 b) with q | q | q
    · have := hs _ _ c2 q d3
      rw [c4, d4] at this
      exact ⟨fun _ => q, fun _ => this⟩
    · have : a = b := by rw [← c4, ← d4, q]
      subst this
      constructor <;> intro <;> omega
    · have := hs _ _ d2 q c3
      rw [c4, d4] at this
      constructor <;> intro <;> omega
/-- where a rank stands in a sorted copy that doesn't hold it -/
theorem srt_place {T X : aS} {ρ : Int → Int} (hr : rnk T ρ) (h : cpOK T X) (hs : srt ρ X) {c : Int} (hc : aHasC T c) (hn : X 2 c = -2) : ∃ z, 0 ≤ z ∧ z ≤ X 0 0 ∧ (∀ q, 0 ≤ q → q < z → ρ (X 1 q) < ρ c) ∧ ∀ q, z ≤ q → q < X 0 0 → ρ c < ρ (X 1 q) := by
  obtain ⟨k, hk1, hk2⟩ := pk_least (fun k : Nat => X 0 0 ≤ (k : Int) ∨ ρ c < ρ (X 1 k)) ⟨(X 0 0).toNat, Or.inl (by omega)⟩
  have h0 := h.1
  have hkl : (k : Int) ≤ X 0 0 := by
    rcases sj_lg (X 0 0) k with q | q
    · exfalso
      refine hk2 (k - 1) (by omega) (Or.inl (by omega))
    · exact q
  refine ⟨k, by omega, hkl, fun q q0 q1 => ?_, fun q q0 q1 => ?_⟩
  · have h1 := hk2 q.toNat (by omega)
    have e : ((q.toNat : Nat) : Int) = q := Int.toNat_of_nonneg q0
    rw [e] at h1
    have h2 : ¬ ρ c < ρ (X 1 q) := fun w => h1 (Or.inr w)
    have h3 := h.2.2.1 q q0 (by omega)
    rcases Int.lt_or_eq_of_le (Int.not_lt.mp h2) with w | w
    · exact w
    · have := hr.1 _ _ (Or.inr (Or.inr h3.1)) (Or.inr (Or.inr hc)) w
      rw [this, hn] at h3
      omega
  · have h1 : ρ c < ρ (X 1 k) := by
      rcases hk1 with w | w
      · omega
      · exact w
    rcases Int.lt_or_eq_of_le q0 with w | w
    · have := hs k q (by omega) w q1
      omega
    · rw [← w]; exact h1
/-! YATA -/
def yOK (T : aS) (ρ : Int → Int) : Prop := rnk T ρ ∧
  (∀ c o, aHasC T c → aHasC T o → ρ (aLeft T c) < ρ o → ρ o < ρ c → ρ (aLeft T c) ≤ ρ (aLeft T o)) ∧
  (∀ c, aHasC T c → ρ (aLeft T c) < ρ c ∧ ρ c < ρ (aRight T c) ∧ (aRight T c = 60 ∨ ρ (aLeft T (aRight T c)) ≤ ρ (aLeft T c))) ∧
  ∀ c o, aHasC T c → aHasC T o → aLeft T c = aLeft T o → ρ c < ρ o → ρ (aRight T c) ≤ ρ o ∨ aSite T c < aSite T o
section YT
variable {T X : aS} {ρ : Int → Int} {c z : Int}
/-- behind its place nothing moves it -/
theorem yata_3 (hy : yOK T ρ) (hf : tRef T) (h : cpOK T X) (hs : srt ρ X) (hc : aHasC T c) (hn : X 2 c = -2) (hl : inX X (aLeft T c)) (hr : inX X (aRight T c)) (hz0 : 0 ≤ z) (hz : ∀ q, 0 ≤ q → q < z → ρ (X 1 q) < ρ c) (hz2 : ∀ q, z ≤ q → q < X 0 0 → ρ c < ρ (X 1 q)) :
    ∀ (k : Nat) (q : Int), z ≤ q → q + k = aPl X (aRight T c) → (aYataF T X c (aPl X (aLeft T c) + 1) k q z).1 = z := by
  intro k
  induction k with
  | zero => intro q _ _; rw [aYataF]
  | succ k ih =>
    intro q hq hk
    have hy' := hy
    obtain ⟨y0, y1, y2, y3⟩ := hy
    have hRl : aPl X (aRight T c) ≤ X 0 0 := by
      rcases hr with w | w | ⟨w0, w1, w2⟩
      · have := (hf c hc).2; omega
      · rw [w, pl_end]; omega
      · rw [pl_char w0 w1]; have := (cp_has h w0 w1 w2).2; omega
    obtain ⟨o1, o2, o3, o4, o5⟩ := cp_at h (q := q) (by omega) (by omega)
    have ho : aAt X q = X 1 q := at_in (by omega) (by omega) h.2.1
    have hco : ρ c < ρ (aAt X q) := by rw [ho]; exact hz2 q hq (by omega)
    have hoR : ρ (aAt X q) < ρ (aRight T c) := (pl_lt y0 h hs o3 hr).mpr (by rw [o2]; omega)
    rw [aYataF]
    by_cases hL : aLeft T (aAt X q) = aLeft T c
    · rw [if_pos hL]
      have hst : aSite T c < aSite T (aAt X q) := by
        rcases y3 c _ hc o1 hL.symm hco with w | w
        · omega
        · exact w
      rw [if_neg (by omega)]
      split
      · rfl
      · exact ih (q + 1) (by omega) (by omega)
    · rw [if_neg hL]
      split
      · rfl
      · rename_i hfst
        rw [if_neg ?_]
        · exact ih (q + 1) (by omega) (by omega)
        · intro hlt
          have hp : inX X (aLeft T (aAt X q)) := o4
          -- it stands ahead of c
          have h1 : ρ (aLeft T (aAt X q)) < ρ c := by
            rcases hp with w | w | ⟨w0, w1, w2⟩
            · rw [w]; exact (y0.2.1 c hc).1
            · have := (hf _ o1).1; omega
            · obtain ⟨c1, c2, c3, c4⟩ := cp_has h w0 w1 w2
              rw [pl_char w0 w1] at hlt
              have := hz _ c2 hlt
              rw [c4] at this
              exact this
          have h2 := y1 (aAt X q) c o1 hc h1 hco
          have h3 : ¬ aPl X (aLeft T c) < aPl X (aLeft T (aAt X q)) := fun w => by
            have := (pl_lt y0 h hs hl hp).mpr w
            omega
          omega
/-- from the last sibling ahead of it on, the place goes along -/
theorem yata_2 (hy : yOK T ρ) (hf : tRef T) (h : cpOK T X) (hs : srt ρ X) (hc : aHasC T c) (hn : X 2 c = -2) (hl : inX X (aLeft T c)) (hr : inX X (aRight T c)) (hz0 : 0 ≤ z) (hzl : z ≤ X 0 0) (hz : ∀ q, 0 ≤ q → q < z → ρ (X 1 q) < ρ c) (hz2 : ∀ q, z ≤ q → q < X 0 0 → ρ c < ρ (X 1 q)) (hzR : z ≤ aPl X (aRight T c)) {b : Int} (hb0 : aPl X (aLeft T c) + 1 ≤ b) (hb1 : b < z) (hbL : aLeft T (aAt X b) = aLeft T c) (hlast : ∀ q, b < q → q < z → ¬ aLeft T (aAt X q) = aLeft T c) (hL0 : -1 ≤ aPl X (aLeft T c)) :
    ∀ (k : Nat) (q : Int), b < q → q ≤ z → q + k = aPl X (aRight T c) → (aYataF T X c (aPl X (aLeft T c) + 1) k q q).1 = z := by
  intro k
  induction k with
  | zero => intro q h1 h2 h3; rw [aYataF]; show q = z; omega
  | succ k ih =>
    intro q h1 h2 h3
    by_cases hqz : q = z
    · subst hqz
      exact yata_3 hy hf h hs hc hn hl hr hz0 hz hz2 (k + 1) q (Int.le_refl _) h3
    · have hy' := hy
      obtain ⟨y0, y1, y2, y3⟩ := hy
      obtain ⟨o1, o2, o3, o4, o5⟩ := cp_at h (q := q) (by omega) (by omega)
      obtain ⟨b1, b2, b3, b4, b5⟩ := cp_at h (q := b) (by omega) (by omega)
      rw [aYataF, if_neg (hlast q h1 (by omega))]
      have hoc : ρ (aAt X q) < ρ c := by rw [at_in (by omega) (by omega) h.2.1]; exact hz q (by omega) (by omega)
      have hLo : ρ (aLeft T c) < ρ (aAt X q) := (pl_lt y0 h hs hl o3).mpr (by rw [o2]; omega)
      have hT := y1 c _ hc o1 hLo hoc
      have hge : aPl X (aLeft T c) ≤ aPl X (aLeft T (aAt X q)) := by
        rcases sj_lg (aPl X (aLeft T (aAt X q))) (aPl X (aLeft T c)) with w | w
        · have := (pl_lt y0 h hs o4 hl).mpr w; omega
        · exact w
      have hne : ¬ aPl X (aLeft T (aAt X q)) = aPl X (aLeft T c) := fun w => by
        refine hlast q h1 (by omega) (y0.1 _ _ (cp_isR h o4) (cp_isR h hl) ?_)
        rcases Int.lt_trichotomy (ρ (aLeft T (aAt X q))) (ρ (aLeft T c)) with v | v | v
        · have := (pl_lt y0 h hs o4 hl).mp v; omega
        · exact v
        · have := (pl_lt y0 h hs hl o4).mp v; omega
      have hlq : aPl X (aLeft T (aAt X q)) < q := by
        have := (pl_lt y0 h hs o4 o3).mp (y2 _ o1).1
        omega
      rw [if_neg (by omega), if_pos hlq]
      exact ih (q + 1) (by omega) (by omega) (by omega)
theorem yata_1 (hy : yOK T ρ) (hf : tRef T) (h : cpOK T X) (hs : srt ρ X) (hc : aHasC T c) (hn : X 2 c = -2) (hl : inX X (aLeft T c)) (hr : inX X (aRight T c)) (hz0 : 0 ≤ z) (hzl : z ≤ X 0 0) (hz : ∀ q, 0 ≤ q → q < z → ρ (X 1 q) < ρ c) (hz2 : ∀ q, z ≤ q → q < X 0 0 → ρ c < ρ (X 1 q)) (hzR : z ≤ aPl X (aRight T c)) {b : Int} (hb0 : aPl X (aLeft T c) + 1 ≤ b) (hb1 : b < z) (hbL : aLeft T (aAt X b) = aLeft T c) (hlast : ∀ q, b < q → q < z → ¬ aLeft T (aAt X q) = aLeft T c) (hL0 : -1 ≤ aPl X (aLeft T c)) :
    ∀ (k : Nat) (q a : Int), aPl X (aLeft T c) + 1 ≤ q → q ≤ b → q + k = aPl X (aRight T c) → (aYataF T X c (aPl X (aLeft T c) + 1) k q a).1 = z := by
  intro k
  induction k with
  | zero => intro q a h1 h2 h3; omega
  | succ k ih =>
    intro q a h1 h2 h3
    have hy' := hy
    obtain ⟨y0, y1, y2, y3⟩ := hy
    obtain ⟨o1, o2, o3, o4, o5⟩ := cp_at h (q := q) (by omega) (by omega)
    have hoc : ρ (aAt X q) < ρ c := by rw [at_in (by omega) (by omega) h.2.1]; exact hz q (by omega) (by omega)
    have hLo : ρ (aLeft T c) < ρ (aAt X q) := (pl_lt y0 h hs hl o3).mpr (by rw [o2]; omega)
    rw [aYataF]
    by_cases hqb : q = b
    · subst hqb
      rw [if_pos hbL]
      have hst : aSite T (aAt X q) < aSite T c := by
        rcases y3 _ c o1 hc hbL hoc with w | w
        · exfalso
          -- its RIGHT would be a later sibling ahead of c
          have hRne : ¬ aRight T (aAt X q) = c := fun e => by
            rw [e] at o5
            rcases o5 with v | v | v
            · have := hc.1; omega
            · have := hc.2.2; omega
            · exact v.2.2 hn
          have hRlt : ρ (aRight T (aAt X q)) < ρ c := by
            rcases Int.lt_or_eq_of_le w with v | v
            · exact v
            · exact absurd (y0.1 _ _ (cp_isR h o5) (Or.inr (Or.inr hc)) v) hRne
          have hR60 : ¬ aRight T (aAt X q) = 60 := fun e => by
            rw [e] at hRlt
            have := (y0.2.1 c hc).2
            omega
          have hRc : aHasC T (aRight T (aAt X q)) := by
            rcases cp_isR h o5 with v | v | v
            · have := (hf _ o1).2; omega
            · exact absurd v hR60
            · exact v
          have hRin : 0 ≤ aRight T (aAt X q) ∧ aRight T (aAt X q) < 60 ∧ ¬ X 2 (aRight T (aAt X q)) = -2 := by
            rcases o5 with v | v | v
            · have := hRc.1; omega
            · exact absurd v hR60
            · exact v
          obtain ⟨c1, c2, c3, c4⟩ := cp_has h hRin.1 hRin.2.1 hRin.2.2
          have e1 := (y2 _ o1).2.1
          have e2 := (y2 _ o1).2.2
          have e3 : ρ (aLeft T (aRight T (aAt X q))) ≤ ρ (aLeft T c) := by
            rcases e2 with v | v
            · exact absurd v hR60
            · rw [hbL] at v; exact v
          have e4 := y1 c _ hc hRc (by omega) hRlt
          have e5 : aLeft T (aRight T (aAt X q)) = aLeft T c := y0.1 _ _ (tRef_l hf hRc) (tRef_l hf hc) (by omega)
          have e6 : q < X 2 (aRight T (aAt X q)) := by
            have := (pl_lt y0 h hs o3 o5).mp e1
            rw [o2, pl_char hRin.1 hRin.2.1] at this
            exact this
          have e7 : X 2 (aRight T (aAt X q)) < z := by
            rcases sj_lg (X 2 (aRight T (aAt X q))) z with v | v
            · exact v
            · have := hz2 _ v c3
              rw [c4] at this
              omega
          have e8 := hlast _ e6 e7
          rw [at_in c2 c3 h.2.1, c4] at e8
          exact e8 e5
        · exact w
      rw [if_pos hst]
      exact yata_2 hy' hf h hs hc hn hl hr hz0 hzl hz hz2 hzR hb0 hb1 hbL hlast hL0 k (q + 1) (by omega) (by omega) (by omega)
    · by_cases hL : aLeft T (aAt X q) = aLeft T c
      · rw [if_pos hL]
        split
        · exact ih (q + 1) _ (by omega) (by omega) (by omega)
        · rename_i hst
          rw [if_neg ?_]
          · exact ih (q + 1) _ (by omega) (by omega) (by omega)
          · intro e
            rcases y3 _ c o1 hc hL hoc with w | w
            · have := (y2 c hc).2.1
              rw [e] at w
              omega
            · exact hst w
      · rw [if_neg hL]
        have hT := y1 c _ hc o1 hLo hoc
        have hge : aPl X (aLeft T c) ≤ aPl X (aLeft T (aAt X q)) := by
          rcases sj_lg (aPl X (aLeft T (aAt X q))) (aPl X (aLeft T c)) with w | w
          · have := (pl_lt y0 h hs o4 hl).mpr w; omega
          · exact w
        have hne : ¬ aPl X (aLeft T (aAt X q)) = aPl X (aLeft T c) := fun w => by
          refine hL (y0.1 _ _ (cp_isR h o4) (cp_isR h hl) ?_)
          rcases Int.lt_trichotomy (ρ (aLeft T (aAt X q))) (ρ (aLeft T c)) with v | v | v
          · have := (pl_lt y0 h hs o4 hl).mp v; omega
          · exact v
          · have := (pl_lt y0 h hs hl o4).mp v; omega
        rw [if_neg (by omega)]
        split
        · exact ih (q + 1) _ (by omega) (by omega) (by omega)
        · exact ih (q + 1) _ (by omega) (by omega) (by omega)
end YT
/-- YATA puts a CHARACTER where its rank stands -/
theorem yata_place {T X : aS} {ρ : Int → Int} {c : Int} (hy : yOK T ρ) (hf : tRef T) (h : cpOK T X) (hs : srt ρ X) (hc : aHasC T c) (hn : X 2 c = -2) (hl : inX X (aLeft T c)) (hr : inX X (aRight T c)) :
    0 ≤ (aYata T X c).1 ∧ (aYata T X c).1 ≤ X 0 0 ∧ aPl X (aLeft T c) < (aYata T X c).1 ∧ (aYata T X c).1 ≤ aPl X (aRight T c) ∧ (∀ q, 0 ≤ q → q < (aYata T X c).1 → ρ (X 1 q) < ρ c) ∧ ∀ q, (aYata T X c).1 ≤ q → q < X 0 0 → ρ c < ρ (X 1 q) := by
  obtain ⟨z, z0, z1, z2, z3⟩ := srt_place hy.1 h hs hc hn
  have y0 := hy.1
  have hLb : -1 ≤ aPl X (aLeft T c) ∧ aPl X (aLeft T c) < z := by
    rcases hl with w | w | ⟨w0, w1, w2⟩
    · rw [w, pl_beg]; omega
    · have := (hf c hc).1; omega
    · obtain ⟨c1, c2, c3, c4⟩ := cp_has h w0 w1 w2
      rw [pl_char w0 w1]
      refine ⟨by omega, ?_⟩
      rcases sj_lg (X 2 (aLeft T c)) z with v | v
      · exact v
      · have := z3 _ v c3
        rw [c4] at this
        have := (hy.2.2.1 c hc).1
        omega
  have hRb : z ≤ aPl X (aRight T c) ∧ aPl X (aRight T c) ≤ X 0 0 := by
    rcases hr with w | w | ⟨w0, w1, w2⟩
    · have := (hf c hc).2; omega
    · rw [w, pl_end]; omega
    · obtain ⟨c1, c2, c3, c4⟩ := cp_has h w0 w1 w2
      rw [pl_char w0 w1]
      refine ⟨?_, by omega⟩
      rcases sj_lg (X 2 (aRight T c)) z with v | v
      · have := z2 _ c2 v
        rw [c4] at this
        have := (hy.2.2.1 c hc).2.1
        omega
      · exact v
  have key : (aYata T X c).1 = z := by
    unfold aYata
    by_cases hE : aPl X (aLeft T c) + 1 = z
    · rw [hE]
      rw [← hE]
      rw [hE]
      have := yata_3 hy hf h hs hc hn hl hr z0 z2 z3 (aPl X (aRight T c) - z).toNat z (Int.le_refl _) (by omega)
      rw [hE] at this
      exact this
    · -- the last sibling ahead of it
      have hex : ∃ b, aPl X (aLeft T c) + 1 ≤ b ∧ b < z ∧ aLeft T (aAt X b) = aLeft T c ∧ ∀ q, b < q → q < z → ¬ aLeft T (aAt X q) = aLeft T c := by
        have hfirst : aLeft T (aAt X (aPl X (aLeft T c) + 1)) = aLeft T c := by
          obtain ⟨o1, o2, o3, o4, o5⟩ := cp_at h (q := aPl X (aLeft T c) + 1) (by omega) (by omega)
          have hoc : ρ (aAt X (aPl X (aLeft T c) + 1)) < ρ c := by rw [at_in (by omega) (by omega) h.2.1]; exact z2 _ (by omega) (by omega)
          have hLo : ρ (aLeft T c) < ρ (aAt X (aPl X (aLeft T c) + 1)) := (pl_lt y0 h hs hl o3).mpr (by rw [o2]; omega)
          have hT := hy.2.1 c _ hc o1 hLo hoc
          have hlo := (hy.2.2.1 _ o1).1
          refine y0.1 _ _ (cp_isR h o4) (cp_isR h hl) ?_
          rcases Int.lt_or_eq_of_le hT with v | v
          · have a1 := (pl_lt y0 h hs hl o4).mp v
            have a2 := (pl_lt y0 h hs o4 o3).mp hlo
            rw [o2] at a2
            omega
          · exact v.symm
        obtain ⟨k, hk1, hk2⟩ := pk_least (fun k : Nat => aPl X (aLeft T c) + 1 ≤ z - 1 - k ∧ aLeft T (aAt X (z - 1 - k)) = aLeft T c) ⟨(z - 1 - (aPl X (aLeft T c) + 1)).toNat, by
          rw [show z - 1 - (((z - 1 - (aPl X (aLeft T c) + 1)).toNat : Nat) : Int) = aPl X (aLeft T c) + 1 by omega]
          exact ⟨Int.le_refl _, hfirst⟩⟩
        refine ⟨z - 1 - k, hk1.1, by omega, hk1.2, fun q q0 q1 e => ?_⟩
        have := hk2 (z - 1 - q).toNat (by omega)
        rw [show z - 1 - (((z - 1 - q).toNat : Nat) : Int) = q by omega] at this
        exact this ⟨by omega, e⟩
      obtain ⟨b, b0, b1, b2, b3⟩ := hex
      exact yata_1 hy hf h hs hc hn hl hr z0 z1 z2 z3 hRb.1 b0 b1 b2 b3 hLb.1 _ _ _ (Int.le_refl _) b0 (by omega)
  rw [key]
  exact ⟨z0, z1, hLb.2, hRb.1, z2, z3⟩
end
section
/-! WOOT: copies are sorted by their CHARACTERS' words -/
def kl (T : aS) (key : Int → List Nat) (a : Int) : List Nat := if aHasC T a then key a else []
def tg (T : aS) (c : Int) : Nat := 2 * (aMark T c).toNat + 1
def wOK (T : aS) (key : Int → List Nat) : Prop := (∀ c, aHasC T c → wO (kl T key (aLeft T c)) (kl T key (aRight T c)) ∧ key c = psi (kl T key (aLeft T c)) (kl T key (aRight T c)) (tg T c)) ∧ (∀ c, aHasC T c → wV (key c)) ∧ (∀ c, aHasC T c → 0 ≤ aMark T c) ∧ ∀ c o, aHasC T c → aHasC T o → aMark T c = aMark T o → c = o
def srtK (key : Int → List Nat) (X : aS) : Prop := ∀ a b, 0 ≤ a → a < b → b < X 0 0 → wl (key (X 1 a)) (key (X 1 b))
def lowK (key : Int → List Nat) (X : aS) (q : Int) : List Nat := if q < 0 then [] else key (X 1 q)
def uppK (key : Int → List Nat) (X : aS) (q : Int) : List Nat := if X 0 0 ≤ q then [] else key (X 1 q)
theorem wl_asym {a b : List Nat} (h : wl a b) (h2 : wl b a) : False := wl_irrefl _ (wl_trans _ _ _ h h2)
section WT
variable {T X : aS} {key : Int → List Nat} {c : Int}
theorem kl_B (hw : wOK T key) (a : Int) : wB (kl T key a) := by
  unfold kl
  split
  · rename_i h; exact Or.inr (hw.2.1 a h)
  · exact Or.inl rfl
theorem lowK_B (hw : wOK T key) (h : cpOK T X) {q : Int} (h1 : q < X 0 0) : wB (lowK key X q) := by
  unfold lowK
  split
  · exact Or.inl rfl
  · exact Or.inr (hw.2.1 _ (h.2.2.1 q (by omega) h1).1)
theorem uppK_B (hw : wOK T key) (h : cpOK T X) {q : Int} (h1 : 0 ≤ q) : wB (uppK key X q) := by
  unfold uppK
  split
  · exact Or.inl rfl
  · exact Or.inr (hw.2.1 _ (h.2.2.1 q h1 (by omega)).1)
theorem lu_O (hs : srtK key X) {a b : Int} (h : a < b) : wO (lowK key X a) (uppK key X b) := by
  unfold lowK uppK
  split
  · exact Or.inl rfl
  · split
    · exact Or.inr (Or.inl rfl)
    · exact Or.inr (Or.inr (hs a b (by omega) h (by omega)))
theorem kl_none {a : Int} (h : ¬ aHasC T a) : kl T key a = [] := by unfold kl; rw [if_neg h]
theorem kl_some {a : Int} (h : aHasC T a) : kl T key a = key a := by unfold kl; rw [if_pos h]
theorem key_between (hw : wOK T key) (hc : aHasC T c) : wL (kl T key (aLeft T c)) (key c) ∧ wU (key c) (kl T key (aRight T c)) := by
  obtain ⟨h1, h2⟩ := hw.1 c hc
  have := psi_A _ _ _ (tg T c) (Nat.le_refl _) (kl_B hw _) (kl_B hw _) h1 (by unfold tg; omega)
  rw [← h2] at this
  exact this.2
/-- in a sorted copy each one stands behind its LEFT and ahead of its RIGHT -/
theorem woot_free (hw : wOK T key) (hf : tRef T) (h : cpOK T X) (hs : srtK key X) {q : Int} (h0 : 0 ≤ q) (h1 : q < X 0 0) : aPl X (aLeft T (X 1 q)) < q ∧ q < aPl X (aRight T (X 1 q)) := by
  obtain ⟨o1, o2, o3, o4, o5⟩ := cp_at h h0 h1
  rw [at_in h0 h1 h.2.1] at o1 o2 o3 o4 o5
  obtain ⟨k1, k2⟩ := key_between hw o1
  constructor
  · rcases o4 with w | w | ⟨w0, w1, w2⟩
    · rw [w, pl_beg]; omega
    · have := (hf _ o1).1; omega
    · obtain ⟨c1, c2, c3, c4⟩ := cp_has h w0 w1 w2
      rw [pl_char w0 w1]
      rw [kl_some c1] at k1
      have k1' : wl (key (aLeft T (X 1 q))) (key (X 1 q)) := by
        rcases k1 with k1 | k1
        · exact absurd k1 (wV_ne (hw.2.1 _ c1))
        · exact k1
      rcases Int.lt_trichotomy (X 2 (aLeft T (X 1 q))) q with v | v | v
      · exact v
      · exfalso
        rw [v] at c4
        rw [← c4] at k1'
        exact wl_irrefl _ k1'
      · have := hs _ _ h0 v c3
        rw [c4] at this
        exact absurd this (fun q => wl_asym k1' q)
  · rcases o5 with w | w | ⟨w0, w1, w2⟩
    · have := (hf _ o1).2; omega
    · rw [w, pl_end]; omega
    · obtain ⟨c1, c2, c3, c4⟩ := cp_has h w0 w1 w2
      rw [pl_char w0 w1]
      rw [kl_some c1] at k2
      have k2' : wl (key (X 1 q)) (key (aRight T (X 1 q))) := by
        rcases k2 with k2 | k2
        · exact absurd k2 (wV_ne (hw.2.1 _ c1))
        · exact k2
      rcases Int.lt_trichotomy (X 2 (aRight T (X 1 q))) q with v | v | v
      · have := hs _ _ c2 v h1
        rw [c4] at this
        exact absurd this (fun q => wl_asym k2' q)
      · exfalso
        rw [v] at c4
        rw [← c4] at k2'
        exact wl_irrefl _ k2'
      · exact v
/-- what of a ROW is known by its MARK -/
theorem row_psi (hw : wOK T key) (hf : tRef T) (h : cpOK T X) (hs : srtK key X) {a b q : Int} (ha : -1 ≤ a) (hb : b ≤ X 0 0) (h1 : a < q) (h2 : q < b) (hr : aSpans T X (aAt X q) a b) : psi (lowK key X a) (uppK key X b) (tg T (aAt X q)) = key (aAt X q) := by
  obtain ⟨o1, o2, o3, o4, o5⟩ := cp_at h (q := q) (by omega) (by omega)
  obtain ⟨r1, r2⟩ := hr
  obtain ⟨k1, k2⟩ := hw.1 _ o1
  have hat : aAt X q = X 1 q := at_in (by omega) (by omega) h.2.1
  have e := psi_B _ _ _ (lowK key X a) (uppK key X b) (tg T (aAt X q)) (Nat.le_refl _) (kl_B hw (aLeft T (aAt X q))) (kl_B hw (aRight T (aAt X q))) (lowK_B hw h (by omega)) (uppK_B hw h (by omega)) k1 (by unfold tg; omega) ?_ ?_ ?_ ?_
  · rw [e, ← k2]
  · rcases o4 with w | w | ⟨w0, w1, w2⟩
    · exact Or.inl (kl_none (fun z => by have := z.1; omega))
    · have := (hf _ o1).1; omega
    · obtain ⟨c1, c2, c3, c4⟩ := cp_has h w0 w1 w2
      rw [pl_char w0 w1] at r1
      rw [kl_some c1]
      unfold lowK
      rw [if_neg (by omega)]
      rcases Int.lt_or_eq_of_le r1 with v | v
      · have := hs _ _ c2 v (by omega)
        rw [c4] at this
        exact Or.inr (Or.inr this)
      · exact Or.inr (Or.inl (by rw [← v, c4]))
  · rw [← k2]
    unfold lowK
    split
    · exact Or.inl rfl
    · rw [hat]; exact Or.inr (hs _ _ (by omega) h1 (by omega))
  · rw [← k2]
    unfold uppK
    split
    · exact Or.inl rfl
    · rw [hat]; exact Or.inr (hs _ _ (by omega) h2 (by omega))
  · rcases o5 with w | w | ⟨w0, w1, w2⟩
    · have := (hf _ o1).2; omega
    · exact Or.inl (kl_none (fun z => by have := z.2.2; omega))
    · obtain ⟨c1, c2, c3, c4⟩ := cp_has h w0 w1 w2
      rw [pl_char w0 w1] at r2
      rw [kl_some c1]
      unfold uppK
      rw [if_neg (by omega)]
      rcases Int.lt_or_eq_of_le r2 with v | v
      · have := hs _ _ (by omega) v c3
        rw [c4] at this
        exact Or.inr (Or.inr this)
      · exact Or.inr (Or.inl (by rw [v, c4]))
theorem aRow_spec (mk a b : Int) : ∀ (k : Nat) (q d : Int), q + k = b → a < q → a ≤ d → d < q → (d = a ∨ (a < d ∧ aSpans T X (aAt X d) a b ∧ aMark T (aAt X d) < mk)) →
    a ≤ (aRow T X mk a b k q d).1 ∧ (aRow T X mk a b k q d).1 < (aRow T X mk a b k q d).2.1 ∧ (aRow T X mk a b k q d).2.1 ≤ b ∧
    ((aRow T X mk a b k q d).1 = a ∨ (a < (aRow T X mk a b k q d).1 ∧ aSpans T X (aAt X (aRow T X mk a b k q d).1) a b ∧ aMark T (aAt X (aRow T X mk a b k q d).1) < mk)) ∧
    ((aRow T X mk a b k q d).2.1 = b ∨ ((aRow T X mk a b k q d).2.1 < b ∧ aSpans T X (aAt X (aRow T X mk a b k q d).2.1) a b ∧ ¬ aMark T (aAt X (aRow T X mk a b k q d).2.1) < mk)) ∧
    ((¬ d = a ∨ ∃ y, q ≤ y ∧ y < b ∧ aSpans T X (aAt X y) a b) → ¬ (aRow T X mk a b k q d).1 = a ∨ ¬ (aRow T X mk a b k q d).2.1 = b) ∧
    0 ≤ (aRow T X mk a b k q d).2.2 ∧ (aRow T X mk a b k q d).2.2 ≤ k := by
  intro k
  induction k with
  | zero =>
    intro q d h1 h2 h3 h4 h5
    rw [aRow]
    refine ⟨h3, by dsimp only; omega, by dsimp only; omega, h5, Or.inl rfl, fun w => ?_, by dsimp only; omega, by dsimp only; omega⟩
    rcases w with w | ⟨y, w1, w2, -⟩
    · exact Or.inl w
    · omega
  | succ k ih =>
    intro q d h1 h2 h3 h4 h5
    rw [aRow]
    by_cases hsp : aSpans T X (aAt X q) a b
    · rw [if_pos hsp]
      by_cases hm : aMark T (aAt X q) < mk
      · rw [if_pos hm]
        obtain ⟨i1, i2, i3, i4, i5, i6, i7, i8⟩ := ih (q + 1) q (by omega) (by omega) (by omega) (by omega) (Or.inr ⟨h2, hsp, hm⟩)
        exact ⟨i1, i2, i3, i4, i5, fun _ => i6 (Or.inl (by omega)), by dsimp only; omega, by dsimp only; omega⟩
      · rw [if_neg hm]
        exact ⟨h3, by dsimp only; omega, by dsimp only; omega, h5, Or.inr ⟨by dsimp only; omega, hsp, hm⟩, fun _ => Or.inr (by dsimp only; omega), by dsimp only; omega, by dsimp only; omega⟩
    · rw [if_neg hsp]
      obtain ⟨i1, i2, i3, i4, i5, i6, i7, i8⟩ := ih (q + 1) d (by omega) (by omega) h3 (by omega) h5
      refine ⟨i1, i2, i3, i4, i5, fun w => i6 ?_, i7, by omega⟩
      rcases w with w | ⟨y, w1, w2, w3⟩
      · exact Or.inl w
      · refine Or.inr ⟨y, ?_, w2, w3⟩
        rcases Int.lt_or_eq_of_le w1 with v | v
        · omega
        · rw [← v] at w3; exact absurd w3 hsp
/-- between two places that aren't side by side the eldest is in the ROW -/
theorem row_some (hw : wOK T key) (hf : tRef T) (h : cpOK T X) (hs : srtK key X) {a b : Int} (ha : -1 ≤ a) (hb : b ≤ X 0 0) (hab : 1 < b - a) : ∃ y, a + 1 ≤ y ∧ y < b ∧ aSpans T X (aAt X y) a b := by
  obtain ⟨k, ⟨y, y1, y2, y3⟩, hk⟩ := pk_least (fun k : Nat => ∃ y, a < y ∧ y < b ∧ X 1 y = k) ⟨(X 1 (a + 1)).toNat, a + 1, by omega, by omega, by
    have := (h.2.2.1 (a + 1) (by omega) (by omega)).1.1
    omega⟩
  refine ⟨y, by omega, y2, ?_⟩
  have hf' := woot_free hw hf h hs (q := y) (by omega) (by omega)
  obtain ⟨o1, o2, o3, o4, o5⟩ := cp_at h (q := y) (by omega) (by omega)
  rw [at_in (by omega) (by omega) h.2.1] at o1 o2 o3 o4 o5 ⊢
  have hr := hf _ o1
  constructor
  · rcases o4 with w | w | ⟨w0, w1, w2⟩
    · rw [w, pl_beg]; omega
    · omega
    · obtain ⟨c1, c2, c3, c4⟩ := cp_has h w0 w1 w2
      have h9 := hf'.1
      rw [pl_char w0 w1] at h9 ⊢
      rcases sj_lg a (X 2 (aLeft T (X 1 y))) with v | v
      · exfalso
        refine hk (aLeft T (X 1 y)).toNat ?_ ⟨_, v, by omega, by rw [c4]; omega⟩
        rcases hr.1 with u | u <;> omega
      · exact v
  · rcases o5 with w | w | ⟨w0, w1, w2⟩
    · omega
    · rw [w, pl_end]; omega
    · obtain ⟨c1, c2, c3, c4⟩ := cp_has h w0 w1 w2
      have h9 := hf'.2
      rw [pl_char w0 w1] at h9 ⊢
      rcases sj_lg (X 2 (aRight T (X 1 y))) b with v | v
      · exfalso
        refine hk (aRight T (X 1 y)).toNat ?_ ⟨_, by omega, v, by rw [c4]; omega⟩
        rcases hr.2 with u | u <;> omega
      · exact v
theorem tg_lt (hw : wOK T key) {o : Int} (hc : aHasC T c) (ho : aHasC T o) (hm : aMark T o < aMark T c) : tg T o < tg T c := by
  have h1 := hw.2.2.1 c hc
  have h2 := hw.2.2.1 o ho
  unfold tg
  omega
/-- one turn of WOOT's loop: what stays, what gets less -/
theorem woot_turn (hw : wOK T key) (hf : tRef T) (h : cpOK T X) (hs : srtK key X) (hc : aHasC T c) (hn : X 2 c = -2) {a b : Int} (ha : -1 ≤ a) (hb : b ≤ X 0 0) (hab : 1 < b - a) (hp : psi (lowK key X a) (uppK key X b) (tg T c) = key c) :
    -1 ≤ (aRow T X (aMark T c) a b (b - a - 1).toNat (a + 1) a).1 ∧ (aRow T X (aMark T c) a b (b - a - 1).toNat (a + 1) a).1 < (aRow T X (aMark T c) a b (b - a - 1).toNat (a + 1) a).2.1 ∧ (aRow T X (aMark T c) a b (b - a - 1).toNat (a + 1) a).2.1 ≤ X 0 0 ∧
    a ≤ (aRow T X (aMark T c) a b (b - a - 1).toNat (a + 1) a).1 ∧ (aRow T X (aMark T c) a b (b - a - 1).toNat (a + 1) a).2.1 ≤ b ∧
    (aRow T X (aMark T c) a b (b - a - 1).toNat (a + 1) a).2.1 - (aRow T X (aMark T c) a b (b - a - 1).toNat (a + 1) a).1 < b - a ∧
    psi (lowK key X (aRow T X (aMark T c) a b (b - a - 1).toNat (a + 1) a).1) (uppK key X (aRow T X (aMark T c) a b (b - a - 1).toNat (a + 1) a).2.1) (tg T c) = key c := by
  obtain ⟨i1, i2, i3, i4, i5, i6, i7, i8⟩ := aRow_spec (T := T) (X := X) (aMark T c) a b (b - a - 1).toNat (a + 1) a (by omega) (by omega) (by omega) (by omega) (Or.inl rfl)
  have hsome := i6 (Or.inr (row_some hw hf h hs ha hb hab))
  generalize aRow T X (aMark T c) a b (b - a - 1).toNat (a + 1) a = res at i1 i2 i3 i4 i5 i6 i7 i8 hsome ⊢
  have hO := lu_O hs (show a < b by omega)
  have hA := psi_A _ _ _ (tg T c) (Nat.le_refl _) (lowK_B hw h (show a < X 0 0 by omega)) (uppK_B hw h (show 0 ≤ b by omega)) hO (by unfold tg; omega)
  rw [hp] at hA
  -- the lower end
  have hlow : (lowK key X a = [] ∨ lowK key X a = lowK key X res.1 ∨ wl (lowK key X a) (lowK key X res.1)) ∧ wL (lowK key X res.1) (key c) := by
    rcases i4 with e | ⟨e1, e2, e3⟩
    · rw [e]; exact ⟨Or.inr (Or.inl rfl), hA.2.1⟩
    · obtain ⟨o1, o2, o3, o4, o5⟩ := cp_at h (q := res.1) (by omega) (by omega)
      have hat : aAt X res.1 = X 1 res.1 := at_in (by omega) (by omega) h.2.1
      have hk := row_psi hw hf h hs ha hb e1 (by omega) e2
      have hlt := psi_M _ _ _ _ _ (Nat.le_refl _) (lowK_B hw h (show a < X 0 0 by omega)) (uppK_B hw h (show 0 ≤ b by omega)) hO (show tg T (aAt X res.1) % 2 = 1 by unfold tg; omega) (show tg T c % 2 = 1 by unfold tg; omega) (tg_lt hw hc o1 e3)
      rw [hk, hp] at hlt
      have e9 : lowK key X res.1 = key (aAt X res.1) := by unfold lowK; rw [if_neg (by omega), hat]
      rw [e9]
      refine ⟨?_, Or.inr hlt⟩
      unfold lowK
      split
      · exact Or.inl rfl
      · rw [hat]; exact Or.inr (Or.inr (hs _ _ (by omega) e1 (by omega)))
  have hupp : (uppK key X b = [] ∨ uppK key X res.2.1 = uppK key X b ∨ wl (uppK key X res.2.1) (uppK key X b)) ∧ wU (key c) (uppK key X res.2.1) := by
    rcases i5 with e | ⟨e1, e2, e3⟩
    · rw [e]; exact ⟨Or.inr (Or.inl rfl), hA.2.2⟩
    · obtain ⟨o1, o2, o3, o4, o5⟩ := cp_at h (q := res.2.1) (by omega) (by omega)
      have hat : aAt X res.2.1 = X 1 res.2.1 := at_in (by omega) (by omega) h.2.1
      have hk := row_psi hw hf h hs ha hb (by omega) e1 e2
      have hne : ¬ aMark T (aAt X res.2.1) = aMark T c := fun w => by
        have := hw.2.2.2 _ _ o1 hc w
        rw [hat] at this
        have h9 := (h.2.2.1 res.2.1 (by omega) (by omega)).2
        rw [this, hn] at h9
        omega
      have hlt := psi_M _ _ _ _ _ (Nat.le_refl _) (lowK_B hw h (show a < X 0 0 by omega)) (uppK_B hw h (show 0 ≤ b by omega)) hO (show tg T c % 2 = 1 by unfold tg; omega) (show tg T (aAt X res.2.1) % 2 = 1 by unfold tg; omega) (tg_lt hw o1 hc (by omega))
      rw [hk, hp] at hlt
      have e9 : uppK key X res.2.1 = key (aAt X res.2.1) := by unfold uppK; rw [if_neg (by omega), hat]
      rw [e9]
      refine ⟨?_, Or.inr hlt⟩
      unfold uppK
      split
      · exact Or.inl rfl
      · rw [hat]; exact Or.inr (Or.inr (hs _ _ (by omega) e1 (by omega)))
  refine ⟨by omega, i2, by omega, i1, i3, by omega, ?_⟩
  rw [psi_B _ _ _ _ _ (tg T c) (Nat.le_refl _) (lowK_B hw h (show a < X 0 0 by omega)) (uppK_B hw h (show 0 ≤ b by omega)) (lowK_B hw h (show res.1 < X 0 0 by omega)) (uppK_B hw h (show 0 ≤ res.2.1 by omega)) hO (by unfold tg; omega) hlow.1 (by rw [hp]; exact hlow.2) (by rw [hp]; exact hupp.2) hupp.1, hp]
theorem woot_end (hw : wOK T key) (h : cpOK T X) (hs : srtK key X) {a b : Int} (ha : -1 ≤ a) (hb : b ≤ X 0 0) (hab : a < b) (h1 : b - a ≤ 1) (hp : psi (lowK key X a) (uppK key X b) (tg T c) = key c) : (∀ q, 0 ≤ q → q < b → wl (key (X 1 q)) (key c)) ∧ ∀ q, b ≤ q → q < X 0 0 → wl (key c) (key (X 1 q)) := by
  have hA := psi_A _ _ _ (tg T c) (Nat.le_refl _) (lowK_B hw h (show a < X 0 0 by omega)) (uppK_B hw h (show 0 ≤ b by omega)) (lu_O hs hab) (by unfold tg; omega)
  rw [hp] at hA
  constructor
  · intro q q0 q1
    have hl : wl (key (X 1 a)) (key c) := by
      rcases hA.2.1 with w | w
      · unfold lowK at w
        rw [if_neg (by omega)] at w
        exact absurd w (wV_ne (hw.2.1 _ (h.2.2.1 a (by omega) (by omega)).1))
      · unfold lowK at w
        rw [if_neg (by omega)] at w
        exact w
    rcases Int.lt_or_eq_of_le (show q ≤ a by omega) with w | w
    · exact wl_trans _ _ _ (hs _ _ q0 w (by omega)) hl
    · rw [w]; exact hl
  · intro q q0 q1
    have hl : wl (key c) (key (X 1 b)) := by
      rcases hA.2.2 with w | w
      · unfold uppK at w
        rw [if_neg (by omega)] at w
        exact absurd w (wV_ne (hw.2.1 _ (h.2.2.1 b (by omega) (by omega)).1))
      · unfold uppK at w
        rw [if_neg (by omega)] at w
        exact w
    rcases Int.lt_or_eq_of_le q0 with w | w
    · exact wl_trans _ _ _ hl (hs _ _ (by omega) w q1)
    · rw [← w]; exact hl
theorem wootF_place (hw : wOK T key) (hf : tRef T) (h : cpOK T X) (hs : srtK key X) (hc : aHasC T c) (hn : X 2 c = -2) : ∀ (n : Nat) (a b : Int), -1 ≤ a → a < b → b ≤ X 0 0 → b - a - 1 ≤ n → psi (lowK key X a) (uppK key X b) (tg T c) = key c →
    a < (aWootF T X (aMark T c) n a b).1 ∧ (aWootF T X (aMark T c) n a b).1 ≤ b ∧ (∀ q, 0 ≤ q → q < (aWootF T X (aMark T c) n a b).1 → wl (key (X 1 q)) (key c)) ∧ ∀ q, (aWootF T X (aMark T c) n a b).1 ≤ q → q < X 0 0 → wl (key c) (key (X 1 q)) := by
  intro n
  induction n with
  | zero =>
    intro a b h1 h2 h3 h4 h5
    rw [aWootF]
    exact ⟨h2, Int.le_refl _, woot_end hw h hs h1 h3 h2 (by omega) h5⟩
  | succ n ih =>
    intro a b h1 h2 h3 h4 h5
    rw [aWootF]
    by_cases hab : 1 < b - a
    · rw [if_pos hab]
      obtain ⟨t1, t2, t3, t4, t5, t6, t7⟩ := woot_turn hw hf h hs hc hn h1 h3 hab h5
      obtain ⟨i1, i2, i3, i4⟩ := ih _ _ t1 t2 t3 (by omega) t7
      exact ⟨by dsimp only; omega, by dsimp only; omega, i3, i4⟩
    · rw [if_neg hab]
      exact ⟨h2, Int.le_refl _, woot_end hw h hs h1 h3 h2 (by omega) h5⟩
end WT
/-- the start of WOOT's loop -/
theorem woot_start {T X : aS} {key : Int → List Nat} {c : Int} (hw : wOK T key) (hf : tRef T) (h : cpOK T X) (hs : srtK key X) (hc : aHasC T c) (hl : inX X (aLeft T c)) (hr : inX X (aRight T c)) :
    -1 ≤ aPl X (aLeft T c) ∧ aPl X (aLeft T c) < aPl X (aRight T c) ∧ aPl X (aRight T c) ≤ X 0 0 ∧ psi (lowK key X (aPl X (aLeft T c))) (uppK key X (aPl X (aRight T c))) (tg T c) = key c := by
  obtain ⟨k1, k2⟩ := hw.1 c hc
  have el : -1 ≤ aPl X (aLeft T c) ∧ aPl X (aLeft T c) < X 0 0 ∧ lowK key X (aPl X (aLeft T c)) = kl T key (aLeft T c) ∨ (X 0 0 = 0 ∧ aPl X (aLeft T c) = -1 ∧ lowK key X (aPl X (aLeft T c)) = kl T key (aLeft T c)) := by
    rcases hl with w | w | ⟨w0, w1, w2⟩
    · have e : kl T key (aLeft T c) = [] := kl_none (fun z => by have := z.1; omega)
      rw [e, w, pl_beg]
      have : lowK key X (-1) = [] := by unfold lowK; rw [if_pos (by omega)]
      rw [this]
      have := h.1
      exact Or.inl ⟨by omega, by omega, rfl⟩
    · have := (hf c hc).1; omega
    · obtain ⟨c1, c2, c3, c4⟩ := cp_has h w0 w1 w2
      rw [pl_char w0 w1, kl_some c1]
      refine Or.inl ⟨by omega, c3, ?_⟩
      unfold lowK
      rw [if_neg (by omega), c4]
  have er : 0 ≤ aPl X (aRight T c) ∧ aPl X (aRight T c) ≤ X 0 0 ∧ uppK key X (aPl X (aRight T c)) = kl T key (aRight T c) := by
    rcases hr with w | w | ⟨w0, w1, w2⟩
    · have := (hf c hc).2; omega
    · have e : kl T key (aRight T c) = [] := kl_none (fun z => by have := z.2.2; omega)
      rw [e, w, pl_end]
      have : uppK key X (X 0 0) = [] := by unfold uppK; rw [if_pos (Int.le_refl _)]
      rw [this]
      have := h.1
      exact ⟨by omega, by omega, rfl⟩
    · obtain ⟨c1, c2, c3, c4⟩ := cp_has h w0 w1 w2
      rw [pl_char w0 w1, kl_some c1]
      refine ⟨c2, by omega, ?_⟩
      unfold uppK
      rw [if_neg (by omega), c4]
  have e1 : -1 ≤ aPl X (aLeft T c) ∧ lowK key X (aPl X (aLeft T c)) = kl T key (aLeft T c) := by
    rcases el with w | w
    · exact ⟨w.1, w.2.2⟩
    · exact ⟨by omega, w.2.2⟩
  refine ⟨e1.1, ?_, er.2.1, by rw [e1.2, er.2.2]; exact k2.symm⟩
  -- LEFT stands ahead of RIGHT
  rcases hl with w | w | ⟨w0, w1, w2⟩
  · rw [w, pl_beg]; omega
  · have := (hf c hc).1; omega
  · obtain ⟨c1, c2, c3, c4⟩ := cp_has h w0 w1 w2
    rcases hr with v | v | ⟨v0, v1, v2⟩
    · have := (hf c hc).2; omega
    · rw [v, pl_end, pl_char w0 w1]; exact c3
    · obtain ⟨d1, d2, d3, d4⟩ := cp_has h v0 v1 v2
      rw [kl_some c1, kl_some d1] at k1
      have k : wl (key (aLeft T c)) (key (aRight T c)) := by
        rcases k1 with u | u | u
        · exact absurd u (wV_ne (hw.2.1 _ c1))
        · exact absurd u (wV_ne (hw.2.1 _ d1))
        · exact u
      rw [pl_char w0 w1, pl_char v0 v1]
      rcases Int.lt_trichotomy (X 2 (aLeft T c)) (X 2 (aRight T c)) with u | u | u
      · exact u
      · exfalso
        rw [u, d4] at c4
        rw [← c4] at k
        exact wl_irrefl _ k
      · have := hs _ _ d2 u c3
        rw [c4, d4] at this
        exact absurd this (fun q => wl_asym k q)
/-- WOOT puts a CHARACTER where its word stands -/
theorem woot_place {T X : aS} {key : Int → List Nat} {c : Int} (hw : wOK T key) (hf : tRef T) (h : cpOK T X) (hs : srtK key X) (hc : aHasC T c) (hn : X 2 c = -2) (hl : inX X (aLeft T c)) (hr : inX X (aRight T c)) :
    0 ≤ (aWoot T X c).1 ∧ (aWoot T X c).1 ≤ X 0 0 ∧ aPl X (aLeft T c) < (aWoot T X c).1 ∧ (aWoot T X c).1 ≤ aPl X (aRight T c) ∧ (∀ q, 0 ≤ q → q < (aWoot T X c).1 → wl (key (X 1 q)) (key c)) ∧ ∀ q, (aWoot T X c).1 ≤ q → q < X 0 0 → wl (key c) (key (X 1 q)) := by
  obtain ⟨s1, s2, s3, s4⟩ := woot_start hw hf h hs hc hl hr
  have h60 := h.2.1
  obtain ⟨i1, i2, i3, i4⟩ := wootF_place hw hf h hs hc hn 60 _ _ s1 s2 s3 (by omega) s4
  exact ⟨by show 0 ≤ (aWootF _ _ _ _ _ _).1; omega, by show (aWootF _ _ _ _ _ _).1 ≤ _; omega, i1, i2, i3, i4⟩
end
section
/-! what the class's writes do to a copy's numbers -/
def wr (z : Int) : Int := (iI z).toInt
def aStrike (X : aS) (c : Int) : aS := if aSeen X c then aUp (aUp X 3 c 1) 0 1 (X 0 1 - 1) else X
/-- all from place p on have moved up by one -/
def aSh (X : aS) (p : Int) : aS := fun j z =>
  if j = 1 then (if p < z ∧ z ≤ X 0 0 then X 1 (z - 1) else X 1 z)
  else if j = 2 then (if 0 ≤ z ∧ z < 60 ∧ p ≤ X 2 z then X 2 z + 1 else X 2 z)
  else X j z
def aIns (X : aS) (c a : Int) : aS := aUp (aUp (aUp (aUp (aUp (aSh X a) 1 a c) 2 c a) 0 0 (X 0 0 + 1)) 0 1 (X 0 1 + 1)) 0 6 (X 0 6 + 1)
def aPut (T : aS) (w : Bool) (X : aS) (c : Int) : Int × Int := if w then aWoot T X c else aYata T X c
def aMk (X : aS) (k : Int) : aS := aUp (aUp X 4 k 2) 0 2 (X 0 2 + 1)
def aDo (T : aS) (w : Bool) (X : aS) (k : Int) : aS :=
  if aKind T k = 1 then aStrike (aMk X k) (aSubj T k)
  else aIns (aUp (aMk X k) 0 5 (wr (X 0 5 + (aPut T w (aMk X k) (aSubj T k)).2))) (aSubj T k) (aPut T w (aMk X k) (aSubj T k)).1
def aSettle (T : aS) (w : Bool) : Nat → aS → Int → aS × Int
  | 0, X, n => (X, n)
  | f + 1, X, n => if aReady T X = -1 then (X, n) else aSettle T w f (aDo T w (aUp X 0 3 (X 0 3 - 1)) (aReady T X)) (n + 1)
def aHear (T : aS) (w : Bool) (X : aS) (k : Int) : aS × Int :=
  if ¬ aHasM T k ∨ ¬ aSt X k = 0 then (X, 0)
  else if ¬ aCan T X k then (aUp (aUp X 4 k 1) 0 3 (X 0 3 + 1), 0)
  else aSettle T w 160 (aDo T w X k) 1
/-- the places fit the SEQUENCE -/
def seqOK (X : aS) : Prop := 0 ≤ X 0 0 ∧ X 0 0 ≤ 60 ∧ (∀ q, 0 ≤ q → q < X 0 0 → 0 ≤ X 1 q ∧ X 1 q < 60 ∧ X 2 (X 1 q) = q) ∧ ∀ c, 0 ≤ c → c < 60 → X 2 c = -2 ∨ (0 ≤ X 2 c ∧ X 2 c < X 0 0 ∧ X 1 (X 2 c) = c)
theorem aSh_top {X : aS} (h : seqOK X) : aSh X (X 0 0) = X := by
  funext j z
  unfold aSh
  by_cases h1 : j = 1
  · subst h1
    rw [if_pos rfl, if_neg (by omega)]
  · rw [if_neg h1]
    by_cases h2 : j = 2
    · subst h2
      rw [if_pos rfl]
      by_cases hz : 0 ≤ z ∧ z < 60
      · rcases h.2.2.2 z hz.1 hz.2 with q | q
        · rw [if_neg (by have := h.1; omega)]
        · rw [if_neg (by omega)]
      · rw [if_neg (fun w => hz ⟨w.1, w.2.1⟩)]
    · rw [if_neg h2]
theorem aSh_step {X : aS} (h : seqOK X) {p : Int} (h0 : 0 < p) (h1 : p ≤ X 0 0) : aUp (aUp (aSh X p) 1 p (X 1 (p - 1))) 2 (X 1 (p - 1)) p = aSh X (p - 1) := by
  obtain ⟨s0, s1, s2, s3⟩ := h
  obtain ⟨q1, q2, q3⟩ := s2 (p - 1) (by omega) (by omega)
  funext j z
  unfold aUp aSh
  by_cases hj1 : j = 1
  · subst hj1
    by_cases hz : z = p
    · subst hz
      simp
      intro w
      exfalso
      have := w (by omega)
      omega
    · have e1 : ¬ ((1 : Nat) = 2 ∧ z = X 1 (p - 1)) := fun w => absurd w.1 (by decide)
      have e2 : ¬ ((1 : Nat) = 1 ∧ z = p) := fun w => hz w.2
      rw [if_neg e1, if_neg e2, if_pos rfl, if_pos rfl]
      by_cases hc : p < z ∧ z ≤ X 0 0
      · rw [if_pos hc, if_pos (by omega)]
      · rw [if_neg hc, if_neg (by omega)]
  · by_cases hj2 : j = 2
    · subst hj2
      have e2 : ¬ ((2 : Nat) = 1 ∧ z = p) := fun w => absurd w.1 (by decide)
      have e3 : ¬ ((2 : Nat) = 1) := by decide
      by_cases hz : z = X 1 (p - 1)
      · rw [if_pos ⟨rfl, hz⟩, if_neg e3, if_pos rfl, hz, q3, if_pos (by omega)]
        omega
      · have e1 : ¬ ((2 : Nat) = 2 ∧ z = X 1 (p - 1)) := fun w => hz w.2
        rw [if_neg e1, if_neg e2, if_neg e3, if_pos rfl, if_neg e3, if_pos rfl]
        by_cases hr : 0 ≤ z ∧ z < 60
        · have hne : ¬ X 2 z = p - 1 := fun w => by
            rcases s3 z hr.1 hr.2 with v | v
            · omega
            · rw [w] at v; exact hz v.2.2.symm
          by_cases hc : p ≤ X 2 z
          · rw [if_pos ⟨hr.1, hr.2, hc⟩, if_pos ⟨hr.1, hr.2, by omega⟩]
          · rw [if_neg (fun w => hc w.2.2), if_neg (fun w => by have := w.2.2; omega)]
        · rw [if_neg (fun w => hr ⟨w.1, w.2.1⟩), if_neg (fun w => hr ⟨w.1, w.2.1⟩)]
    · have e1 : ¬ (j = 2 ∧ z = X 1 (p - 1)) := fun w => hj2 w.1
      have e2 : ¬ (j = 1 ∧ z = p) := fun w => hj1 w.1
      rw [if_neg e1, if_neg e2, if_neg hj1, if_neg hj2, if_neg hj1, if_neg hj2]
theorem aUp_ne {X : aS} {j a : Nat} {z v b : Int} (h : ¬ (a = j ∧ b = z)) : aUp X j z v a b = X a b := by unfold aUp; rw [if_neg h]
theorem aUp_eq {X : aS} {j : Nat} {z v : Int} : aUp X j z v j z = v := by unfold aUp; rw [if_pos ⟨rfl, rfl⟩]
theorem aAt_upj (X : aS) (j : Nat) (z v q : Int) (h0 : ¬ j = 0) (h1 : ¬ j = 1) : aAt (aUp X j z v) q = aAt X q := by
  unfold aAt
  rw [aUp_ne (fun w => h0 w.1.symm), aUp_ne (fun w => h1 w.1.symm)]
theorem aPl_upj (X : aS) (j : Nat) (z v q : Int) (h0 : ¬ j = 0) (h1 : ¬ j = 2) : aPl (aUp X j z v) q = aPl X q := by
  unfold aPl
  rw [aUp_ne (fun w => h0 w.1.symm), aUp_ne (fun w => h1 w.1.symm)]
end
section
set_option maxHeartbeats 4000000 in
set_option maxRecDepth 100000 in
theorem kX2_hasMessage {l : Launch} {D : va_G} {cI cZ cJ cT cC : ClassId} {ad : Nat → Nat} {A : Nat → Prop} (hD : ∀ g : Nat → va_E, va_D A (sjW 89 ad g)) (t : Nat) (ht : t < 2) (k : Int) (hk : rng k) (M : sjM) (L : sjL)  : Met l yX2_hasMessage wsX2_hasMessage { frames := 0, cells := 0, slots := 0, locals := 0 } (sjA D cI cZ cJ cT cC 89 ad (kC cI cZ cJ cT cC ad) [.ref (ad (9 + 10 * t)), .int (iI k)] M L) (sjZ D 89 ad (kC cI cZ cJ cT cC ad) A (fun v M' L' => M' = M ∧ L' = L ∧ v = some (.int (iI (if aHasM (vT M t) k then 1 else 0))))) 0 0 A := by
  refine g_met (cc := cX2_hasMessage) (maxL := 2) (ret := (some .boolean)) (lv := [_, _]) (by decide) rfl hD kC_loc (List.forall_mem_cons.mpr ⟨rfl, List.forall_mem_cons.mpr ⟨rfl, fun _ h => absurd h List.not_mem_nil⟩⟩) (Nat.le_of_ble_eq_true rfl) rfl ?_
  intro J G
  have f47 : Cond.fieldLink RX2 47 "SharedPage$Text" "messages" "I" ∈ wsX2_hasMessage := by decide +kernel
  have hinX2 : ∀ w ∈ u_ws RX2 TX2 13, w ∈ wsX2_hasMessage := fun w h => List.mem_cons_of_mem _ (List.mem_append_right _ h)
  refine g_iload_n G dX2_hasMessage_0 rfl ?_
  refine g_if_lt G (by first | exact rg _ | assumption | exact rg_pl _ _ _ | exact rg_at _ _ _ | exact rg_left _ _ _ | exact rg_right _ _ _ | exact rg_mark _ _ _ | exact rg_site _ _ _ | exact rg_kind _ _ _ | exact rg_st _ _ _ | omega) 23 dX2_hasMessage_1 (by decide) (fun h1 => ?_) (fun h1 => ?_)
  · -- 1 t
    refine g_iconst G dX2_hasMessage_23 ?_
    refine g_zret G rfl dX2_hasMessage_24 ?_
    refine ⟨rfl, rfl, ?_⟩
    show some (Value.int _) = some (Value.int (iI (if 0 ≤ k ∧ k < (M (9 + 10 * t) 1).toInt ∧ k < 160 then 1 else 0)))
    (repeat' split) <;> first | rfl | omega
  · -- 1 f
    refine g_iload_n G dX2_hasMessage_4 rfl ?_
    refine g_aload_n G dX2_hasMessage_5 rfl ?_
    refine g_getI G hinX2 (oText t ht) rfl 11 (by decide) f47 rfl rfl dX2_hasMessage_6 ?_
    refine g_icmp_ge G (by first | exact rg _ | assumption | exact rg_pl _ _ _ | exact rg_at _ _ _ | exact rg_left _ _ _ | exact rg_right _ _ _ | exact rg_mark _ _ _ | exact rg_site _ _ _ | exact rg_kind _ _ _ | exact rg_st _ _ _ | omega) (by first | exact rg _ | assumption | exact rg_pl _ _ _ | exact rg_at _ _ _ | exact rg_left _ _ _ | exact rg_right _ _ _ | exact rg_mark _ _ _ | exact rg_site _ _ _ | exact rg_kind _ _ _ | exact rg_st _ _ _ | omega) 23 dX2_hasMessage_9 (by decide) (fun h9 => ?_) (fun h9 => ?_)
    · -- 9 t
      refine g_iconst G dX2_hasMessage_23 ?_
      refine g_zret G rfl dX2_hasMessage_24 ?_
      refine ⟨rfl, rfl, ?_⟩
      show some (Value.int _) = some (Value.int (iI (if 0 ≤ k ∧ k < (M (9 + 10 * t) 1).toInt ∧ k < 160 then 1 else 0)))
      (repeat' split) <;> first | rfl | omega
    · -- 9 f
      refine g_iload_n G dX2_hasMessage_12 rfl ?_
      refine g_sipush G dX2_hasMessage_13 rfl ?_
      refine g_icmp_ge G (by first | exact rg _ | assumption | exact rg_pl _ _ _ | exact rg_at _ _ _ | exact rg_left _ _ _ | exact rg_right _ _ _ | exact rg_mark _ _ _ | exact rg_site _ _ _ | exact rg_kind _ _ _ | exact rg_st _ _ _ | omega) (by first | exact rg _ | assumption | exact rg_pl _ _ _ | exact rg_at _ _ _ | exact rg_left _ _ _ | exact rg_right _ _ _ | exact rg_mark _ _ _ | exact rg_site _ _ _ | exact rg_kind _ _ _ | exact rg_st _ _ _ | omega) 23 dX2_hasMessage_16 (by decide) (fun h16 => ?_) (fun h16 => ?_)
      · -- 16 t
        refine g_iconst G dX2_hasMessage_23 ?_
        refine g_zret G rfl dX2_hasMessage_24 ?_
        refine ⟨rfl, rfl, ?_⟩
        show some (Value.int _) = some (Value.int (iI (if 0 ≤ k ∧ k < (M (9 + 10 * t) 1).toInt ∧ k < 160 then 1 else 0)))
        (repeat' split) <;> first | rfl | omega
      · -- 16 f
        refine g_iconst G dX2_hasMessage_19 ?_
        refine g_goto G 24 dX2_hasMessage_20 (by decide) ?_
        refine g_zret G rfl dX2_hasMessage_24 ?_
        refine ⟨rfl, rfl, ?_⟩
        show some (Value.int _) = some (Value.int (iI (if 0 ≤ k ∧ k < (M (9 + 10 * t) 1).toInt ∧ k < 160 then 1 else 0)))
        (repeat' split) <;> first | rfl | omega
set_option maxHeartbeats 4000000 in
set_option maxRecDepth 100000 in
theorem kX2_hasCharacter {l : Launch} {D : va_G} {cI cZ cJ cT cC : ClassId} {ad : Nat → Nat} {A : Nat → Prop} (hD : ∀ g : Nat → va_E, va_D A (sjW 89 ad g)) (t : Nat) (ht : t < 2) (c : Int) (hc : rng c) (M : sjM) (L : sjL)  : Met l yX2_hasCharacter wsX2_hasCharacter { frames := 0, cells := 0, slots := 0, locals := 0 } (sjA D cI cZ cJ cT cC 89 ad (kC cI cZ cJ cT cC ad) [.ref (ad (9 + 10 * t)), .int (iI c)] M L) (sjZ D 89 ad (kC cI cZ cJ cT cC ad) A (fun v M' L' => M' = M ∧ L' = L ∧ v = some (.int (iI (if aHasC (vT M t) c then 1 else 0))))) 0 0 A := by
  refine g_met (cc := cX2_hasCharacter) (maxL := 2) (ret := (some .boolean)) (lv := [_, _]) (by decide) rfl hD kC_loc (List.forall_mem_cons.mpr ⟨rfl, List.forall_mem_cons.mpr ⟨rfl, fun _ h => absurd h List.not_mem_nil⟩⟩) (Nat.le_of_ble_eq_true rfl) rfl ?_
  intro J G
  have f43 : Cond.fieldLink RX2 43 "SharedPage$Text" "characters" "I" ∈ wsX2_hasCharacter := by decide +kernel
  have hinX2 : ∀ w ∈ u_ws RX2 TX2 13, w ∈ wsX2_hasCharacter := fun w h => List.mem_cons_of_mem _ (List.mem_append_right _ h)
  refine g_iload_n G dX2_hasCharacter_0 rfl ?_
  refine g_if_lt G (by first | exact rg _ | assumption | exact rg_pl _ _ _ | exact rg_at _ _ _ | exact rg_left _ _ _ | exact rg_right _ _ _ | exact rg_mark _ _ _ | exact rg_site _ _ _ | exact rg_kind _ _ _ | exact rg_st _ _ _ | omega) 22 dX2_hasCharacter_1 (by decide) (fun h1 => ?_) (fun h1 => ?_)
  · -- 1 t
    refine g_iconst G dX2_hasCharacter_22 ?_
    refine g_zret G rfl dX2_hasCharacter_23 ?_
    refine ⟨rfl, rfl, ?_⟩
    show some (Value.int _) = some (Value.int (iI (if 0 ≤ c ∧ c < (M (9 + 10 * t) 0).toInt ∧ c < 60 then 1 else 0)))
    (repeat' split) <;> first | rfl | omega
  · -- 1 f
    refine g_iload_n G dX2_hasCharacter_4 rfl ?_
    refine g_aload_n G dX2_hasCharacter_5 rfl ?_
    refine g_getI G hinX2 (oText t ht) rfl 10 (by decide) f43 rfl rfl dX2_hasCharacter_6 ?_
    refine g_icmp_ge G (by first | exact rg _ | assumption | exact rg_pl _ _ _ | exact rg_at _ _ _ | exact rg_left _ _ _ | exact rg_right _ _ _ | exact rg_mark _ _ _ | exact rg_site _ _ _ | exact rg_kind _ _ _ | exact rg_st _ _ _ | omega) (by first | exact rg _ | assumption | exact rg_pl _ _ _ | exact rg_at _ _ _ | exact rg_left _ _ _ | exact rg_right _ _ _ | exact rg_mark _ _ _ | exact rg_site _ _ _ | exact rg_kind _ _ _ | exact rg_st _ _ _ | omega) 22 dX2_hasCharacter_9 (by decide) (fun h9 => ?_) (fun h9 => ?_)
    · -- 9 t
      refine g_iconst G dX2_hasCharacter_22 ?_
      refine g_zret G rfl dX2_hasCharacter_23 ?_
      refine ⟨rfl, rfl, ?_⟩
      show some (Value.int _) = some (Value.int (iI (if 0 ≤ c ∧ c < (M (9 + 10 * t) 0).toInt ∧ c < 60 then 1 else 0)))
      (repeat' split) <;> first | rfl | omega
    · -- 9 f
      refine g_iload_n G dX2_hasCharacter_12 rfl ?_
      refine g_bipush G dX2_hasCharacter_13 rfl ?_
      refine g_icmp_ge G (by first | exact rg _ | assumption | exact rg_pl _ _ _ | exact rg_at _ _ _ | exact rg_left _ _ _ | exact rg_right _ _ _ | exact rg_mark _ _ _ | exact rg_site _ _ _ | exact rg_kind _ _ _ | exact rg_st _ _ _ | omega) (by first | exact rg _ | assumption | exact rg_pl _ _ _ | exact rg_at _ _ _ | exact rg_left _ _ _ | exact rg_right _ _ _ | exact rg_mark _ _ _ | exact rg_site _ _ _ | exact rg_kind _ _ _ | exact rg_st _ _ _ | omega) 22 dX2_hasCharacter_15 (by decide) (fun h15 => ?_) (fun h15 => ?_)
      · -- 15 t
        refine g_iconst G dX2_hasCharacter_22 ?_
        refine g_zret G rfl dX2_hasCharacter_23 ?_
        refine ⟨rfl, rfl, ?_⟩
        show some (Value.int _) = some (Value.int (iI (if 0 ≤ c ∧ c < (M (9 + 10 * t) 0).toInt ∧ c < 60 then 1 else 0)))
        (repeat' split) <;> first | rfl | omega
      · -- 15 f
        refine g_iconst G dX2_hasCharacter_18 ?_
        refine g_goto G 23 dX2_hasCharacter_19 (by decide) ?_
        refine g_zret G rfl dX2_hasCharacter_23 ?_
        refine ⟨rfl, rfl, ?_⟩
        show some (Value.int _) = some (Value.int (iI (if 0 ≤ c ∧ c < (M (9 + 10 * t) 0).toInt ∧ c < 60 then 1 else 0)))
        (repeat' split) <;> first | rfl | omega
set_option maxHeartbeats 4000000 in
set_option maxRecDepth 100000 in
theorem kX2_kindOf {l : Launch} {D : va_G} {cI cZ cJ cT cC : ClassId} {ad : Nat → Nat} {A : Nat → Prop} (hD : ∀ g : Nat → va_E, va_D A (sjW 89 ad g)) (t : Nat) (ht : t < 2) (k : Int) (hk : rng k) (M : sjM) (L : sjL)  : Met l yX2_kindOf wsX2_kindOf { frames := 1, cells := 0, slots := 0, locals := 21 } (sjA D cI cZ cJ cT cC 89 ad (kC cI cZ cJ cT cC ad) [.ref (ad (9 + 10 * t)), .int (iI k)] M L) (sjZ D 89 ad (kC cI cZ cJ cT cC ad) A (fun v M' L' => M' = M ∧ L' = L ∧ v = some (.int (iI (aKind (vT M t) k))))) 0 0 A := by
  refine g_met (cc := cX2_kindOf) (maxL := 2) (ret := (some .int)) (lv := [_, _]) (by decide) rfl hD kC_loc (List.forall_mem_cons.mpr ⟨rfl, List.forall_mem_cons.mpr ⟨rfl, fun _ h => absurd h List.not_mem_nil⟩⟩) (Nat.le_of_ble_eq_true rfl) rfl ?_
  intro J G
  have f31 : Cond.fieldLink RX2 31 "SharedPage$Text" "kinds" "[I" ∈ wsX2_kindOf := by decide +kernel
  have hinX2 : ∀ w ∈ u_ws RX2 TX2 13, w ∈ wsX2_kindOf := fun w h => List.mem_cons_of_mem _ (List.mem_append_right _ h)
  refine g_aload_n G dX2_kindOf_0 rfl ?_
  refine g_iload_n G dX2_kindOf_1 rfl ?_
  refine g_call (As := [_]) G (kX2_hasMessage hD t ht k hk M L) gX2_kindOf_X2_hasMessage (oText t ht) rfl rfl (by decide +kernel) rfl rfl ⟨Nat.le_of_ble_eq_true rfl, Nat.le_of_ble_eq_true rfl⟩ rfl rfl (Nat.le_of_ble_eq_true rfl) dX2_kindOf_2 ?_
  rintro _ _ _ ⟨rfl, rfl, rfl⟩
  by_cases qa : aHasM (vT M t) k
  · rw [if_pos qa]
    refine g_if_eq G (by omega) 17 dX2_kindOf_5 (by decide) (fun h => absurd h (by decide)) (fun _ => ?_)
    
    refine g_aload_n G dX2_kindOf_8 rfl ?_
    refine g_getR G hinX2 (oText t ht) rfl 6 (by decide) f31 rfl rfl dX2_kindOf_9 ?_
    refine g_iload_n G dX2_kindOf_12 rfl ?_
    refine g_iald G (aText160 t 6 ht (by omega) (by omega)) (by have h1 := qa.1; have h2 := qa.2.2; omega) dX2_kindOf_13 ?_
    refine g_goto G 18 dX2_kindOf_14 (by decide) ?_
    refine g_iret G dX2_kindOf_18 ?_
    first | exact ⟨rfl, rfl, by rw [aKind, if_pos qa]; rfl⟩ | exact ⟨rfl, rfl, by rw [aKind, if_neg qa]⟩
  · rw [if_neg qa]
    refine g_if_eq G (by omega) 17 dX2_kindOf_5 (by decide) (fun _ => ?_) (fun h => absurd h (by decide))
    refine g_iconst G dX2_kindOf_17 ?_
    refine g_iret G dX2_kindOf_18 ?_
    first | exact ⟨rfl, rfl, by rw [aKind, if_pos qa]; rfl⟩ | exact ⟨rfl, rfl, by rw [aKind, if_neg qa]⟩
set_option maxHeartbeats 4000000 in
set_option maxRecDepth 100000 in
theorem kX2_makerOf {l : Launch} {D : va_G} {cI cZ cJ cT cC : ClassId} {ad : Nat → Nat} {A : Nat → Prop} (hD : ∀ g : Nat → va_E, va_D A (sjW 89 ad g)) (t : Nat) (ht : t < 2) (k : Int) (hk : rng k) (M : sjM) (L : sjL)  : Met l yX2_makerOf wsX2_makerOf { frames := 1, cells := 0, slots := 0, locals := 21 } (sjA D cI cZ cJ cT cC 89 ad (kC cI cZ cJ cT cC ad) [.ref (ad (9 + 10 * t)), .int (iI k)] M L) (sjZ D 89 ad (kC cI cZ cJ cT cC ad) A (fun v M' L' => M' = M ∧ L' = L ∧ v = some (.int (iI (aMaker (vT M t) k))))) 0 0 A := by
  refine g_met (cc := cX2_makerOf) (maxL := 2) (ret := (some .int)) (lv := [_, _]) (by decide) rfl hD kC_loc (List.forall_mem_cons.mpr ⟨rfl, List.forall_mem_cons.mpr ⟨rfl, fun _ h => absurd h List.not_mem_nil⟩⟩) (Nat.le_of_ble_eq_true rfl) rfl ?_
  intro J G
  have f34 : Cond.fieldLink RX2 34 "SharedPage$Text" "makers" "[I" ∈ wsX2_makerOf := by decide +kernel
  have hinX2 : ∀ w ∈ u_ws RX2 TX2 13, w ∈ wsX2_makerOf := fun w h => List.mem_cons_of_mem _ (List.mem_append_right _ h)
  refine g_aload_n G dX2_makerOf_0 rfl ?_
  refine g_iload_n G dX2_makerOf_1 rfl ?_
  refine g_call (As := [_]) G (kX2_hasMessage hD t ht k hk M L) gX2_makerOf_X2_hasMessage (oText t ht) rfl rfl (by decide +kernel) rfl rfl ⟨Nat.le_of_ble_eq_true rfl, Nat.le_of_ble_eq_true rfl⟩ rfl rfl (Nat.le_of_ble_eq_true rfl) dX2_makerOf_2 ?_
  rintro _ _ _ ⟨rfl, rfl, rfl⟩
  by_cases qa : aHasM (vT M t) k
  · rw [if_pos qa]
    refine g_if_eq G (by omega) 17 dX2_makerOf_5 (by decide) (fun h => absurd h (by decide)) (fun _ => ?_)
    
    refine g_aload_n G dX2_makerOf_8 rfl ?_
    refine g_getR G hinX2 (oText t ht) rfl 7 (by decide) f34 rfl rfl dX2_makerOf_9 ?_
    refine g_iload_n G dX2_makerOf_12 rfl ?_
    refine g_iald G (aText160 t 7 ht (by omega) (by omega)) (by have h1 := qa.1; have h2 := qa.2.2; omega) dX2_makerOf_13 ?_
    refine g_goto G 18 dX2_makerOf_14 (by decide) ?_
    refine g_iret G dX2_makerOf_18 ?_
    first | exact ⟨rfl, rfl, by rw [aMaker, if_pos qa]; rfl⟩ | exact ⟨rfl, rfl, by rw [aMaker, if_neg qa]⟩
  · rw [if_neg qa]
    refine g_if_eq G (by omega) 17 dX2_makerOf_5 (by decide) (fun _ => ?_) (fun h => absurd h (by decide))
    refine g_iconst G dX2_makerOf_17 ?_
    refine g_iret G dX2_makerOf_18 ?_
    first | exact ⟨rfl, rfl, by rw [aMaker, if_pos qa]; rfl⟩ | exact ⟨rfl, rfl, by rw [aMaker, if_neg qa]⟩
set_option maxHeartbeats 4000000 in
set_option maxRecDepth 100000 in
theorem kX2_subjectOf {l : Launch} {D : va_G} {cI cZ cJ cT cC : ClassId} {ad : Nat → Nat} {A : Nat → Prop} (hD : ∀ g : Nat → va_E, va_D A (sjW 89 ad g)) (t : Nat) (ht : t < 2) (k : Int) (hk : rng k) (M : sjM) (L : sjL)  : Met l yX2_subjectOf wsX2_subjectOf { frames := 1, cells := 0, slots := 0, locals := 21 } (sjA D cI cZ cJ cT cC 89 ad (kC cI cZ cJ cT cC ad) [.ref (ad (9 + 10 * t)), .int (iI k)] M L) (sjZ D 89 ad (kC cI cZ cJ cT cC ad) A (fun v M' L' => M' = M ∧ L' = L ∧ v = some (.int (iI (aSubj (vT M t) k))))) 0 0 A := by
  refine g_met (cc := cX2_subjectOf) (maxL := 2) (ret := (some .int)) (lv := [_, _]) (by decide) rfl hD kC_loc (List.forall_mem_cons.mpr ⟨rfl, List.forall_mem_cons.mpr ⟨rfl, fun _ h => absurd h List.not_mem_nil⟩⟩) (Nat.le_of_ble_eq_true rfl) rfl ?_
  intro J G
  have f37 : Cond.fieldLink RX2 37 "SharedPage$Text" "subjects" "[I" ∈ wsX2_subjectOf := by decide +kernel
  have hinX2 : ∀ w ∈ u_ws RX2 TX2 13, w ∈ wsX2_subjectOf := fun w h => List.mem_cons_of_mem _ (List.mem_append_right _ h)
  refine g_aload_n G dX2_subjectOf_0 rfl ?_
  refine g_iload_n G dX2_subjectOf_1 rfl ?_
  refine g_call (As := [_]) G (kX2_hasMessage hD t ht k hk M L) gX2_subjectOf_X2_hasMessage (oText t ht) rfl rfl (by decide +kernel) rfl rfl ⟨Nat.le_of_ble_eq_true rfl, Nat.le_of_ble_eq_true rfl⟩ rfl rfl (Nat.le_of_ble_eq_true rfl) dX2_subjectOf_2 ?_
  rintro _ _ _ ⟨rfl, rfl, rfl⟩
  by_cases qa : aHasM (vT M t) k
  · rw [if_pos qa]
    refine g_if_eq G (by omega) 17 dX2_subjectOf_5 (by decide) (fun h => absurd h (by decide)) (fun _ => ?_)
    
    refine g_aload_n G dX2_subjectOf_8 rfl ?_
    refine g_getR G hinX2 (oText t ht) rfl 8 (by decide) f37 rfl rfl dX2_subjectOf_9 ?_
    refine g_iload_n G dX2_subjectOf_12 rfl ?_
    refine g_iald G (aText160 t 8 ht (by omega) (by omega)) (by have h1 := qa.1; have h2 := qa.2.2; omega) dX2_subjectOf_13 ?_
    refine g_goto G 18 dX2_subjectOf_14 (by decide) ?_
    refine g_iret G dX2_subjectOf_18 ?_
    first | exact ⟨rfl, rfl, by rw [aSubj, if_pos qa]; rfl⟩ | exact ⟨rfl, rfl, by rw [aSubj, if_neg qa]⟩
  · rw [if_neg qa]
    refine g_if_eq G (by omega) 17 dX2_subjectOf_5 (by decide) (fun _ => ?_) (fun h => absurd h (by decide))
    refine g_iconst G dX2_subjectOf_17 ?_
    refine g_iret G dX2_subjectOf_18 ?_
    first | exact ⟨rfl, rfl, by rw [aSubj, if_pos qa]; rfl⟩ | exact ⟨rfl, rfl, by rw [aSubj, if_neg qa]⟩
set_option maxHeartbeats 4000000 in
set_option maxRecDepth 100000 in
theorem kX2_siteOf {l : Launch} {D : va_G} {cI cZ cJ cT cC : ClassId} {ad : Nat → Nat} {A : Nat → Prop} (hD : ∀ g : Nat → va_E, va_D A (sjW 89 ad g)) (t : Nat) (ht : t < 2) (c : Int) (hc : rng c) (M : sjM) (L : sjL)  : Met l yX2_siteOf wsX2_siteOf { frames := 1, cells := 0, slots := 0, locals := 21 } (sjA D cI cZ cJ cT cC 89 ad (kC cI cZ cJ cT cC ad) [.ref (ad (9 + 10 * t)), .int (iI c)] M L) (sjZ D 89 ad (kC cI cZ cJ cT cC ad) A (fun v M' L' => M' = M ∧ L' = L ∧ v = some (.int (iI (aSite (vT M t) c))))) 0 0 A := by
  refine g_met (cc := cX2_siteOf) (maxL := 2) (ret := (some .int)) (lv := [_, _]) (by decide) rfl hD kC_loc (List.forall_mem_cons.mpr ⟨rfl, List.forall_mem_cons.mpr ⟨rfl, fun _ h => absurd h List.not_mem_nil⟩⟩) (Nat.le_of_ble_eq_true rfl) rfl ?_
  intro J G
  have f15 : Cond.fieldLink RX2 15 "SharedPage$Text" "sites" "[I" ∈ wsX2_siteOf := by decide +kernel
  have hinX2 : ∀ w ∈ u_ws RX2 TX2 13, w ∈ wsX2_siteOf := fun w h => List.mem_cons_of_mem _ (List.mem_append_right _ h)
  refine g_aload_n G dX2_siteOf_0 rfl ?_
  refine g_iload_n G dX2_siteOf_1 rfl ?_
  refine g_call (As := [_]) G (kX2_hasCharacter hD t ht c hc M L) gX2_siteOf_X2_hasCharacter (oText t ht) rfl rfl (by decide +kernel) rfl rfl ⟨Nat.le_of_ble_eq_true rfl, Nat.le_of_ble_eq_true rfl⟩ rfl rfl (Nat.le_of_ble_eq_true rfl) dX2_siteOf_2 ?_
  rintro _ _ _ ⟨rfl, rfl, rfl⟩
  by_cases qa : aHasC (vT M t) c
  · rw [if_pos qa]
    refine g_if_eq G (by omega) 17 dX2_siteOf_5 (by decide) (fun h => absurd h (by decide)) (fun _ => ?_)
    refine g_aload_n G dX2_siteOf_8 rfl ?_
    refine g_getR G hinX2 (oText t ht) rfl 1 (by decide) f15 rfl rfl dX2_siteOf_9 ?_
    refine g_iload_n G dX2_siteOf_12 rfl ?_
    refine g_iald G (aText60 t 1 ht (by omega) (by omega)) (by have h1 := qa.1; have h2 := qa.2.2; omega) dX2_siteOf_13 ?_
    refine g_goto G 18 dX2_siteOf_14 (by decide) ?_
    refine g_iret G dX2_siteOf_18 ?_
    first | exact ⟨rfl, rfl, by rw [aSite, if_pos qa]; rfl⟩ | exact ⟨rfl, rfl, by rw [aSite, if_neg qa]⟩
  · rw [if_neg qa]
    refine g_if_eq G (by omega) 17 dX2_siteOf_5 (by decide) (fun _ => ?_) (fun h => absurd h (by decide))
    refine g_iconst G dX2_siteOf_17 ?_
    refine g_iret G dX2_siteOf_18 ?_
    first | exact ⟨rfl, rfl, by rw [aSite, if_pos qa]; rfl⟩ | exact ⟨rfl, rfl, by rw [aSite, if_neg qa]⟩
set_option maxHeartbeats 4000000 in
set_option maxRecDepth 100000 in
theorem kX2_letterOf {l : Launch} {D : va_G} {cI cZ cJ cT cC : ClassId} {ad : Nat → Nat} {A : Nat → Prop} (hD : ∀ g : Nat → va_E, va_D A (sjW 89 ad g)) (t : Nat) (ht : t < 2) (c : Int) (hc : rng c) (M : sjM) (L : sjL)  : Met l yX2_letterOf wsX2_letterOf { frames := 1, cells := 0, slots := 0, locals := 21 } (sjA D cI cZ cJ cT cC 89 ad (kC cI cZ cJ cT cC ad) [.ref (ad (9 + 10 * t)), .int (iI c)] M L) (sjZ D 89 ad (kC cI cZ cJ cT cC ad) A (fun v M' L' => M' = M ∧ L' = L ∧ v = some (.int (iI (aLetter (vT M t) c))))) 0 0 A := by
  refine g_met (cc := cX2_letterOf) (maxL := 2) (ret := (some .int)) (lv := [_, _]) (by decide) rfl hD kC_loc (List.forall_mem_cons.mpr ⟨rfl, List.forall_mem_cons.mpr ⟨rfl, fun _ h => absurd h List.not_mem_nil⟩⟩) (Nat.le_of_ble_eq_true rfl) rfl ?_
  intro J G
  have f22 : Cond.fieldLink RX2 22 "SharedPage$Text" "letters" "[I" ∈ wsX2_letterOf := by decide +kernel
  have hinX2 : ∀ w ∈ u_ws RX2 TX2 13, w ∈ wsX2_letterOf := fun w h => List.mem_cons_of_mem _ (List.mem_append_right _ h)
  refine g_aload_n G dX2_letterOf_0 rfl ?_
  refine g_iload_n G dX2_letterOf_1 rfl ?_
  refine g_call (As := [_]) G (kX2_hasCharacter hD t ht c hc M L) gX2_letterOf_X2_hasCharacter (oText t ht) rfl rfl (by decide +kernel) rfl rfl ⟨Nat.le_of_ble_eq_true rfl, Nat.le_of_ble_eq_true rfl⟩ rfl rfl (Nat.le_of_ble_eq_true rfl) dX2_letterOf_2 ?_
  rintro _ _ _ ⟨rfl, rfl, rfl⟩
  by_cases qa : aHasC (vT M t) c
  · rw [if_pos qa]
    refine g_if_eq G (by omega) 17 dX2_letterOf_5 (by decide) (fun h => absurd h (by decide)) (fun _ => ?_)
    refine g_aload_n G dX2_letterOf_8 rfl ?_
    refine g_getR G hinX2 (oText t ht) rfl 3 (by decide) f22 rfl rfl dX2_letterOf_9 ?_
    refine g_iload_n G dX2_letterOf_12 rfl ?_
    refine g_iald G (aText60 t 3 ht (by omega) (by omega)) (by have h1 := qa.1; have h2 := qa.2.2; omega) dX2_letterOf_13 ?_
    refine g_goto G 18 dX2_letterOf_14 (by decide) ?_
    refine g_iret G dX2_letterOf_18 ?_
    first | exact ⟨rfl, rfl, by rw [aLetter, if_pos qa]; rfl⟩ | exact ⟨rfl, rfl, by rw [aLetter, if_neg qa]⟩
  · rw [if_neg qa]
    refine g_if_eq G (by omega) 17 dX2_letterOf_5 (by decide) (fun _ => ?_) (fun h => absurd h (by decide))
    refine g_iconst G dX2_letterOf_17 ?_
    refine g_iret G dX2_letterOf_18 ?_
    first | exact ⟨rfl, rfl, by rw [aLetter, if_pos qa]; rfl⟩ | exact ⟨rfl, rfl, by rw [aLetter, if_neg qa]⟩
set_option maxHeartbeats 4000000 in
set_option maxRecDepth 100000 in
theorem kX2_leftOf {l : Launch} {D : va_G} {cI cZ cJ cT cC : ClassId} {ad : Nat → Nat} {A : Nat → Prop} (hD : ∀ g : Nat → va_E, va_D A (sjW 89 ad g)) (t : Nat) (ht : t < 2) (c : Int) (hc : rng c) (M : sjM) (L : sjL)  : Met l yX2_leftOf wsX2_leftOf { frames := 1, cells := 0, slots := 0, locals := 21 } (sjA D cI cZ cJ cT cC 89 ad (kC cI cZ cJ cT cC ad) [.ref (ad (9 + 10 * t)), .int (iI c)] M L) (sjZ D 89 ad (kC cI cZ cJ cT cC ad) A (fun v M' L' => M' = M ∧ L' = L ∧ v = some (.int (iI (aLeft (vT M t) c))))) 0 0 A := by
  refine g_met (cc := cX2_leftOf) (maxL := 2) (ret := (some .int)) (lv := [_, _]) (by decide) rfl hD kC_loc (List.forall_mem_cons.mpr ⟨rfl, List.forall_mem_cons.mpr ⟨rfl, fun _ h => absurd h List.not_mem_nil⟩⟩) (Nat.le_of_ble_eq_true rfl) rfl ?_
  intro J G
  have f25 : Cond.fieldLink RX2 25 "SharedPage$Text" "lefts" "[I" ∈ wsX2_leftOf := by decide +kernel
  have hinX2 : ∀ w ∈ u_ws RX2 TX2 13, w ∈ wsX2_leftOf := fun w h => List.mem_cons_of_mem _ (List.mem_append_right _ h)
  refine g_aload_n G dX2_leftOf_0 rfl ?_
  refine g_iload_n G dX2_leftOf_1 rfl ?_
  refine g_call (As := [_]) G (kX2_hasCharacter hD t ht c hc M L) gX2_leftOf_X2_hasCharacter (oText t ht) rfl rfl (by decide +kernel) rfl rfl ⟨Nat.le_of_ble_eq_true rfl, Nat.le_of_ble_eq_true rfl⟩ rfl rfl (Nat.le_of_ble_eq_true rfl) dX2_leftOf_2 ?_
  rintro _ _ _ ⟨rfl, rfl, rfl⟩
  by_cases qa : aHasC (vT M t) c
  · rw [if_pos qa]
    refine g_if_eq G (by omega) 17 dX2_leftOf_5 (by decide) (fun h => absurd h (by decide)) (fun _ => ?_)
    refine g_aload_n G dX2_leftOf_8 rfl ?_
    refine g_getR G hinX2 (oText t ht) rfl 4 (by decide) f25 rfl rfl dX2_leftOf_9 ?_
    refine g_iload_n G dX2_leftOf_12 rfl ?_
    refine g_iald G (aText60 t 4 ht (by omega) (by omega)) (by have h1 := qa.1; have h2 := qa.2.2; omega) dX2_leftOf_13 ?_
    refine g_goto G 18 dX2_leftOf_14 (by decide) ?_
    refine g_iret G dX2_leftOf_18 ?_
    first | exact ⟨rfl, rfl, by rw [aLeft, if_pos qa]; rfl⟩ | exact ⟨rfl, rfl, by rw [aLeft, if_neg qa]⟩
  · rw [if_neg qa]
    refine g_if_eq G (by omega) 17 dX2_leftOf_5 (by decide) (fun _ => ?_) (fun h => absurd h (by decide))
    refine g_iconst G dX2_leftOf_17 ?_
    refine g_iret G dX2_leftOf_18 ?_
    first | exact ⟨rfl, rfl, by rw [aLeft, if_pos qa]; rfl⟩ | exact ⟨rfl, rfl, by rw [aLeft, if_neg qa]⟩
set_option maxHeartbeats 4000000 in
set_option maxRecDepth 100000 in
theorem kX2_rightOf {l : Launch} {D : va_G} {cI cZ cJ cT cC : ClassId} {ad : Nat → Nat} {A : Nat → Prop} (hD : ∀ g : Nat → va_E, va_D A (sjW 89 ad g)) (t : Nat) (ht : t < 2) (c : Int) (hc : rng c) (M : sjM) (L : sjL)  : Met l yX2_rightOf wsX2_rightOf { frames := 1, cells := 0, slots := 0, locals := 21 } (sjA D cI cZ cJ cT cC 89 ad (kC cI cZ cJ cT cC ad) [.ref (ad (9 + 10 * t)), .int (iI c)] M L) (sjZ D 89 ad (kC cI cZ cJ cT cC ad) A (fun v M' L' => M' = M ∧ L' = L ∧ v = some (.int (iI (aRight (vT M t) c))))) 0 0 A := by
  refine g_met (cc := cX2_rightOf) (maxL := 2) (ret := (some .int)) (lv := [_, _]) (by decide) rfl hD kC_loc (List.forall_mem_cons.mpr ⟨rfl, List.forall_mem_cons.mpr ⟨rfl, fun _ h => absurd h List.not_mem_nil⟩⟩) (Nat.le_of_ble_eq_true rfl) rfl ?_
  intro J G
  have f28 : Cond.fieldLink RX2 28 "SharedPage$Text" "rights" "[I" ∈ wsX2_rightOf := by decide +kernel
  have hinX2 : ∀ w ∈ u_ws RX2 TX2 13, w ∈ wsX2_rightOf := fun w h => List.mem_cons_of_mem _ (List.mem_append_right _ h)
  refine g_aload_n G dX2_rightOf_0 rfl ?_
  refine g_iload_n G dX2_rightOf_1 rfl ?_
  refine g_call (As := [_]) G (kX2_hasCharacter hD t ht c hc M L) gX2_rightOf_X2_hasCharacter (oText t ht) rfl rfl (by decide +kernel) rfl rfl ⟨Nat.le_of_ble_eq_true rfl, Nat.le_of_ble_eq_true rfl⟩ rfl rfl (Nat.le_of_ble_eq_true rfl) dX2_rightOf_2 ?_
  rintro _ _ _ ⟨rfl, rfl, rfl⟩
  by_cases qa : aHasC (vT M t) c
  · rw [if_pos qa]
    refine g_if_eq G (by omega) 17 dX2_rightOf_5 (by decide) (fun h => absurd h (by decide)) (fun _ => ?_)
    refine g_aload_n G dX2_rightOf_8 rfl ?_
    refine g_getR G hinX2 (oText t ht) rfl 5 (by decide) f28 rfl rfl dX2_rightOf_9 ?_
    refine g_iload_n G dX2_rightOf_12 rfl ?_
    refine g_iald G (aText60 t 5 ht (by omega) (by omega)) (by have h1 := qa.1; have h2 := qa.2.2; omega) dX2_rightOf_13 ?_
    refine g_goto G 19 dX2_rightOf_14 (by decide) ?_
    refine g_iret G dX2_rightOf_19 ?_
    first | exact ⟨rfl, rfl, by rw [aRight, if_pos qa]; rfl⟩ | exact ⟨rfl, rfl, by rw [aRight, if_neg qa]⟩
  · rw [if_neg qa]
    refine g_if_eq G (by omega) 17 dX2_rightOf_5 (by decide) (fun _ => ?_) (fun h => absurd h (by decide))
    refine g_bipush G dX2_rightOf_17 rfl ?_
    refine g_iret G dX2_rightOf_19 ?_
    first | exact ⟨rfl, rfl, by rw [aRight, if_pos qa]; rfl⟩ | exact ⟨rfl, rfl, by rw [aRight, if_neg qa]⟩
set_option maxHeartbeats 4000000 in
set_option maxRecDepth 100000 in
theorem kX2_markOf {l : Launch} {D : va_G} {cI cZ cJ cT cC : ClassId} {ad : Nat → Nat} {A : Nat → Prop} (hD : ∀ g : Nat → va_E, va_D A (sjW 89 ad g)) (t : Nat) (ht : t < 2) (c : Int) (hc : rng c) (M : sjM) (L : sjL)  : Met l yX2_markOf wsX2_markOf { frames := 1, cells := 0, slots := 0, locals := 21 } (sjA D cI cZ cJ cT cC 89 ad (kC cI cZ cJ cT cC ad) [.ref (ad (9 + 10 * t)), .int (iI c)] M L) (sjZ D 89 ad (kC cI cZ cJ cT cC ad) A (fun v M' L' => M' = M ∧ L' = L ∧ v = some (.int (iI (aMark (vT M t) c))))) 0 0 A := by
  refine g_met (cc := cX2_markOf) (maxL := 2) (ret := (some .int)) (lv := [_, _]) (by decide) rfl hD kC_loc (List.forall_mem_cons.mpr ⟨rfl, List.forall_mem_cons.mpr ⟨rfl, fun _ h => absurd h List.not_mem_nil⟩⟩) (Nat.le_of_ble_eq_true rfl) rfl ?_
  intro J G
  have f19 : Cond.fieldLink RX2 19 "SharedPage$Text" "marks" "[I" ∈ wsX2_markOf := by decide +kernel
  have hinX2 : ∀ w ∈ u_ws RX2 TX2 13, w ∈ wsX2_markOf := fun w h => List.mem_cons_of_mem _ (List.mem_append_right _ h)
  refine g_aload_n G dX2_markOf_0 rfl ?_
  refine g_iload_n G dX2_markOf_1 rfl ?_
  refine g_call (As := [_]) G (kX2_hasCharacter hD t ht c hc M L) gX2_markOf_X2_hasCharacter (oText t ht) rfl rfl (by decide +kernel) rfl rfl ⟨Nat.le_of_ble_eq_true rfl, Nat.le_of_ble_eq_true rfl⟩ rfl rfl (Nat.le_of_ble_eq_true rfl) dX2_markOf_2 ?_
  rintro _ _ _ ⟨rfl, rfl, rfl⟩
  by_cases qa : aHasC (vT M t) c
  · rw [if_pos qa]
    refine g_if_eq G (by omega) 15 dX2_markOf_5 (by decide) (fun h => absurd h (by decide)) (fun _ => ?_)
    refine g_aload_n G dX2_markOf_8 rfl ?_
    refine g_getR G hinX2 (oText t ht) rfl 2 (by decide) f19 rfl rfl dX2_markOf_9 ?_
    refine g_iload_n G dX2_markOf_12 rfl ?_
    refine g_iald G (aText60 t 2 ht (by omega) (by omega)) (by have h1 := qa.1; have h2 := qa.2.2; omega) dX2_markOf_13 ?_
    refine g_iret G dX2_markOf_14 ?_
    first | exact ⟨rfl, rfl, by rw [aMark, if_pos qa]; rfl⟩ | (refine ⟨rfl, rfl, ?_⟩; rw [aMark, if_neg qa]; split <;> first | rfl | omega)
  · rw [if_neg qa]
    refine g_if_eq G (by omega) 15 dX2_markOf_5 (by decide) (fun _ => ?_) (fun h => absurd h (by decide))
    refine g_iload_n G dX2_markOf_15 rfl ?_
    refine g_iconst G dX2_markOf_16 ?_
    refine g_icmp_ne G (by first | exact rg _ | assumption | exact rg_pl _ _ _ | exact rg_at _ _ _ | exact rg_left _ _ _ | exact rg_right _ _ _ | exact rg_mark _ _ _ | exact rg_site _ _ _ | exact rg_kind _ _ _ | exact rg_st _ _ _ | omega) (by first | exact rg _ | assumption | exact rg_pl _ _ _ | exact rg_at _ _ _ | exact rg_left _ _ _ | exact rg_right _ _ _ | exact rg_mark _ _ _ | exact rg_site _ _ _ | exact rg_kind _ _ _ | exact rg_st _ _ _ | omega) 24 dX2_markOf_17 (by decide) (fun h17 => ?_) (fun h17 => ?_)
    · -- 17 t
      refine g_sipush G dX2_markOf_24 rfl ?_
      refine g_iret G dX2_markOf_27 ?_
      first | exact ⟨rfl, rfl, by rw [aMark, if_pos qa]; rfl⟩ | (refine ⟨rfl, rfl, ?_⟩; rw [aMark, if_neg qa]; split <;> first | rfl | omega)
    · -- 17 f
      refine g_iconst G dX2_markOf_20 ?_
      refine g_goto G 27 dX2_markOf_21 (by decide) ?_
      refine g_iret G dX2_markOf_27 ?_
      first | exact ⟨rfl, rfl, by rw [aMark, if_pos qa]; rfl⟩ | (refine ⟨rfl, rfl, ?_⟩; rw [aMark, if_neg qa]; split <;> first | rfl | omega)
set_option maxHeartbeats 4000000 in
set_option maxRecDepth 100000 in
theorem kX0_placeOf {l : Launch} {D : va_G} {cI cZ cJ cT cC : ClassId} {ad : Nat → Nat} {A : Nat → Prop} (hD : ∀ g : Nat → va_E, va_D A (sjW 89 ad g)) (i : Nat) (hi : i < 12) (c : Int) (hc : rng c) (M : sjM) (L : sjL)  : Met l yX0_placeOf wsX0_placeOf { frames := 0, cells := 0, slots := 0, locals := 0 } (sjA D cI cZ cJ cT cC 89 ad (kC cI cZ cJ cT cC ad) [.ref (ad (29 + 5 * i)), .int (iI c)] M L) (sjZ D 89 ad (kC cI cZ cJ cT cC ad) A (fun v M' L' => M' = M ∧ L' = L ∧ v = some (.int (iI (aPl (vX M i) c))))) 0 0 A := by
  refine g_met (cc := cX0_placeOf) (maxL := 2) (ret := (some .int)) (lv := [_, _]) (by decide) rfl hD kC_loc (List.forall_mem_cons.mpr ⟨rfl, List.forall_mem_cons.mpr ⟨rfl, fun _ h => absurd h List.not_mem_nil⟩⟩) (Nat.le_of_ble_eq_true rfl) rfl ?_
  intro J G
  have f19 : Cond.fieldLink RX0 19 "SharedPage$Copy" "places" "[I" ∈ wsX0_placeOf := by decide +kernel
  have f32 : Cond.fieldLink RX0 32 "SharedPage$Copy" "length" "I" ∈ wsX0_placeOf := by decide +kernel
  have hinX0 : ∀ w ∈ u_ws RX0 TX0 12, w ∈ wsX0_placeOf := fun w h => List.mem_cons_of_mem _ (List.mem_append_right _ h)
  refine g_iload_n G dX0_placeOf_0 rfl ?_
  refine g_if_ge G (by first | exact rg _ | assumption | exact rg_pl _ _ _ | exact rg_at _ _ _ | exact rg_left _ _ _ | exact rg_right _ _ _ | exact rg_mark _ _ _ | exact rg_site _ _ _ | exact rg_kind _ _ _ | exact rg_st _ _ _ | omega) 6 dX0_placeOf_1 (by decide) (fun h1 => ?_) (fun h1 => ?_)
  · -- 1 t
    refine g_iload_n G dX0_placeOf_6 rfl ?_
    refine g_bipush G dX0_placeOf_7 rfl ?_
    refine g_icmp_ge G (by first | exact rg _ | assumption | exact rg_pl _ _ _ | exact rg_at _ _ _ | exact rg_left _ _ _ | exact rg_right _ _ _ | exact rg_mark _ _ _ | exact rg_site _ _ _ | exact rg_kind _ _ _ | exact rg_st _ _ _ | omega) (by first | exact rg _ | assumption | exact rg_pl _ _ _ | exact rg_at _ _ _ | exact rg_left _ _ _ | exact rg_right _ _ _ | exact rg_mark _ _ _ | exact rg_site _ _ _ | exact rg_kind _ _ _ | exact rg_st _ _ _ | omega) 21 dX0_placeOf_9 (by decide) (fun h9 => ?_) (fun h9 => ?_)
    · -- 9 t
      refine g_aload_n G dX0_placeOf_21 rfl ?_
      refine g_getI G hinX0 (oCopy i hi) rfl 5 (by decide) f32 rfl rfl dX0_placeOf_22 ?_
      refine g_iret G dX0_placeOf_25 ?_
      refine ⟨rfl, rfl, ?_⟩
      show some (Value.int _) = some (Value.int (iI (if c < 0 then -1 else if c < 60 then (M (29 + 5 * i + 2) c).toInt else (M (29 + 5 * i) 0).toInt)))
      (repeat' split) <;> first | rfl | omega
    · -- 9 f
      refine g_aload_n G dX0_placeOf_12 rfl ?_
      refine g_getR G hinX0 (oCopy i hi) rfl 2 (by decide) f19 rfl rfl dX0_placeOf_13 ?_
      refine g_iload_n G dX0_placeOf_16 rfl ?_
      refine g_iald G (aCopy60 i 2 hi (by omega) (by omega)) (by omega) dX0_placeOf_17 ?_
      refine g_goto G 25 dX0_placeOf_18 (by decide) ?_
      refine g_iret G dX0_placeOf_25 ?_
      refine ⟨rfl, rfl, ?_⟩
      show some (Value.int _) = some (Value.int (iI (if c < 0 then -1 else if c < 60 then (M (29 + 5 * i + 2) c).toInt else (M (29 + 5 * i) 0).toInt)))
      (repeat' split) <;> first | rfl | omega
  · -- 1 f
    refine g_iconst G dX0_placeOf_4 ?_
    refine g_iret G dX0_placeOf_5 ?_
    refine ⟨rfl, rfl, ?_⟩
    show some (Value.int _) = some (Value.int (iI (if c < 0 then -1 else if c < 60 then (M (29 + 5 * i + 2) c).toInt else (M (29 + 5 * i) 0).toInt)))
    (repeat' split) <;> first | rfl | omega
set_option maxHeartbeats 4000000 in
set_option maxRecDepth 100000 in
theorem kX0_characterAt {l : Launch} {D : va_G} {cI cZ cJ cT cC : ClassId} {ad : Nat → Nat} {A : Nat → Prop} (hD : ∀ g : Nat → va_E, va_D A (sjW 89 ad g)) (i : Nat) (hi : i < 12) (q : Int) (hq : rng q) (M : sjM) (L : sjL)  : Met l yX0_characterAt wsX0_characterAt { frames := 0, cells := 0, slots := 0, locals := 0 } (sjA D cI cZ cJ cT cC 89 ad (kC cI cZ cJ cT cC ad) [.ref (ad (29 + 5 * i)), .int (iI q)] M L) (sjZ D 89 ad (kC cI cZ cJ cT cC ad) A (fun v M' L' => M' = M ∧ L' = L ∧ v = some (.int (iI (aAt (vX M i) q))))) 0 0 A := by
  refine g_met (cc := cX0_characterAt) (maxL := 2) (ret := (some .int)) (lv := [_, _]) (by decide) rfl hD kC_loc (List.forall_mem_cons.mpr ⟨rfl, List.forall_mem_cons.mpr ⟨rfl, fun _ h => absurd h List.not_mem_nil⟩⟩) (Nat.le_of_ble_eq_true rfl) rfl ?_
  intro J G
  have f15 : Cond.fieldLink RX0 15 "SharedPage$Copy" "sequence" "[I" ∈ wsX0_characterAt := by decide +kernel
  have f32 : Cond.fieldLink RX0 32 "SharedPage$Copy" "length" "I" ∈ wsX0_characterAt := by decide +kernel
  have hinX0 : ∀ w ∈ u_ws RX0 TX0 12, w ∈ wsX0_characterAt := fun w h => List.mem_cons_of_mem _ (List.mem_append_right _ h)
  refine g_iload_n G dX0_characterAt_0 rfl ?_
  refine g_if_lt G (by first | exact rg _ | assumption | exact rg_pl _ _ _ | exact rg_at _ _ _ | exact rg_left _ _ _ | exact rg_right _ _ _ | exact rg_mark _ _ _ | exact rg_site _ _ _ | exact rg_kind _ _ _ | exact rg_st _ _ _ | omega) 27 dX0_characterAt_1 (by decide) (fun h1 => ?_) (fun h1 => ?_)
  · -- 1 t
    refine g_bipush G dX0_characterAt_27 rfl ?_
    refine g_iret G dX0_characterAt_29 ?_
    refine ⟨rfl, rfl, ?_⟩
    show some (Value.int _) = some (Value.int (iI (if 0 ≤ q ∧ q < (M (29 + 5 * i) 0).toInt ∧ q < 60 then (M (29 + 5 * i + 1) q).toInt else 60)))
    (repeat' split) <;> first | rfl | omega
  · -- 1 f
    refine g_iload_n G dX0_characterAt_4 rfl ?_
    refine g_aload_n G dX0_characterAt_5 rfl ?_
    refine g_getI G hinX0 (oCopy i hi) rfl 5 (by decide) f32 rfl rfl dX0_characterAt_6 ?_
    refine g_icmp_ge G (by first | exact rg _ | assumption | exact rg_pl _ _ _ | exact rg_at _ _ _ | exact rg_left _ _ _ | exact rg_right _ _ _ | exact rg_mark _ _ _ | exact rg_site _ _ _ | exact rg_kind _ _ _ | exact rg_st _ _ _ | omega) (by first | exact rg _ | assumption | exact rg_pl _ _ _ | exact rg_at _ _ _ | exact rg_left _ _ _ | exact rg_right _ _ _ | exact rg_mark _ _ _ | exact rg_site _ _ _ | exact rg_kind _ _ _ | exact rg_st _ _ _ | omega) 27 dX0_characterAt_9 (by decide) (fun h9 => ?_) (fun h9 => ?_)
    · -- 9 t
      refine g_bipush G dX0_characterAt_27 rfl ?_
      refine g_iret G dX0_characterAt_29 ?_
      refine ⟨rfl, rfl, ?_⟩
      show some (Value.int _) = some (Value.int (iI (if 0 ≤ q ∧ q < (M (29 + 5 * i) 0).toInt ∧ q < 60 then (M (29 + 5 * i + 1) q).toInt else 60)))
      (repeat' split) <;> first | rfl | omega
    · -- 9 f
      refine g_iload_n G dX0_characterAt_12 rfl ?_
      refine g_bipush G dX0_characterAt_13 rfl ?_
      refine g_icmp_ge G (by first | exact rg _ | assumption | exact rg_pl _ _ _ | exact rg_at _ _ _ | exact rg_left _ _ _ | exact rg_right _ _ _ | exact rg_mark _ _ _ | exact rg_site _ _ _ | exact rg_kind _ _ _ | exact rg_st _ _ _ | omega) (by first | exact rg _ | assumption | exact rg_pl _ _ _ | exact rg_at _ _ _ | exact rg_left _ _ _ | exact rg_right _ _ _ | exact rg_mark _ _ _ | exact rg_site _ _ _ | exact rg_kind _ _ _ | exact rg_st _ _ _ | omega) 27 dX0_characterAt_15 (by decide) (fun h15 => ?_) (fun h15 => ?_)
      · -- 15 t
        refine g_bipush G dX0_characterAt_27 rfl ?_
        refine g_iret G dX0_characterAt_29 ?_
        refine ⟨rfl, rfl, ?_⟩
        show some (Value.int _) = some (Value.int (iI (if 0 ≤ q ∧ q < (M (29 + 5 * i) 0).toInt ∧ q < 60 then (M (29 + 5 * i + 1) q).toInt else 60)))
        (repeat' split) <;> first | rfl | omega
      · -- 15 f
        refine g_aload_n G dX0_characterAt_18 rfl ?_
        refine g_getR G hinX0 (oCopy i hi) rfl 1 (by decide) f15 rfl rfl dX0_characterAt_19 ?_
        refine g_iload_n G dX0_characterAt_22 rfl ?_
        refine g_iald G (aCopy60 i 1 hi (by omega) (by omega)) (by omega) dX0_characterAt_23 ?_
        refine g_goto G 29 dX0_characterAt_24 (by decide) ?_
        refine g_iret G dX0_characterAt_29 ?_
        refine ⟨rfl, rfl, ?_⟩
        show some (Value.int _) = some (Value.int (iI (if 0 ≤ q ∧ q < (M (29 + 5 * i) 0).toInt ∧ q < 60 then (M (29 + 5 * i + 1) q).toInt else 60)))
        (repeat' split) <;> first | rfl | omega
set_option maxHeartbeats 4000000 in
set_option maxRecDepth 100000 in
theorem kX0_stateOf {l : Launch} {D : va_G} {cI cZ cJ cT cC : ClassId} {ad : Nat → Nat} {A : Nat → Prop} (hD : ∀ g : Nat → va_E, va_D A (sjW 89 ad g)) (i : Nat) (hi : i < 12) (k : Int) (hk : rng k) (M : sjM) (L : sjL)  : Met l yX0_stateOf wsX0_stateOf { frames := 0, cells := 0, slots := 0, locals := 0 } (sjA D cI cZ cJ cT cC 89 ad (kC cI cZ cJ cT cC ad) [.ref (ad (29 + 5 * i)), .int (iI k)] M L) (sjZ D 89 ad (kC cI cZ cJ cT cC ad) A (fun v M' L' => M' = M ∧ L' = L ∧ v = some (.int (iI (aSt (vX M i) k))))) 0 0 A := by
  refine g_met (cc := cX0_stateOf) (maxL := 2) (ret := (some .int)) (lv := [_, _]) (by decide) rfl hD kC_loc (List.forall_mem_cons.mpr ⟨rfl, List.forall_mem_cons.mpr ⟨rfl, fun _ h => absurd h List.not_mem_nil⟩⟩) (Nat.le_of_ble_eq_true rfl) rfl ?_
  intro J G
  have f26 : Cond.fieldLink RX0 26 "SharedPage$Copy" "states" "[I" ∈ wsX0_stateOf := by decide +kernel
  have hinX0 : ∀ w ∈ u_ws RX0 TX0 12, w ∈ wsX0_stateOf := fun w h => List.mem_cons_of_mem _ (List.mem_append_right _ h)
  refine g_iload_n G dX0_stateOf_0 rfl ?_
  refine g_if_lt G (by first | exact rg _ | assumption | exact rg_pl _ _ _ | exact rg_at _ _ _ | exact rg_left _ _ _ | exact rg_right _ _ _ | exact rg_mark _ _ _ | exact rg_site _ _ _ | exact rg_kind _ _ _ | exact rg_st _ _ _ | omega) 20 dX0_stateOf_1 (by decide) (fun h1 => ?_) (fun h1 => ?_)
  · -- 1 t
    refine g_iconst G dX0_stateOf_20 ?_
    refine g_iret G dX0_stateOf_21 ?_
    refine ⟨rfl, rfl, ?_⟩
    show some (Value.int _) = some (Value.int (iI (if 0 ≤ k ∧ k < 160 then (M (29 + 5 * i + 4) k).toInt else 0)))
    (repeat' split) <;> first | rfl | omega
  · -- 1 f
    refine g_iload_n G dX0_stateOf_4 rfl ?_
    refine g_sipush G dX0_stateOf_5 rfl ?_
    refine g_icmp_ge G (by first | exact rg _ | assumption | exact rg_pl _ _ _ | exact rg_at _ _ _ | exact rg_left _ _ _ | exact rg_right _ _ _ | exact rg_mark _ _ _ | exact rg_site _ _ _ | exact rg_kind _ _ _ | exact rg_st _ _ _ | omega) (by first | exact rg _ | assumption | exact rg_pl _ _ _ | exact rg_at _ _ _ | exact rg_left _ _ _ | exact rg_right _ _ _ | exact rg_mark _ _ _ | exact rg_site _ _ _ | exact rg_kind _ _ _ | exact rg_st _ _ _ | omega) 20 dX0_stateOf_8 (by decide) (fun h8 => ?_) (fun h8 => ?_)
    · -- 8 t
      refine g_iconst G dX0_stateOf_20 ?_
      refine g_iret G dX0_stateOf_21 ?_
      refine ⟨rfl, rfl, ?_⟩
      show some (Value.int _) = some (Value.int (iI (if 0 ≤ k ∧ k < 160 then (M (29 + 5 * i + 4) k).toInt else 0)))
      (repeat' split) <;> first | rfl | omega
    · -- 8 f
      refine g_aload_n G dX0_stateOf_11 rfl ?_
      refine g_getR G hinX0 (oCopy i hi) rfl 4 (by decide) f26 rfl rfl dX0_stateOf_12 ?_
      refine g_iload_n G dX0_stateOf_15 rfl ?_
      refine g_iald G (aCopyS i hi) (by omega) dX0_stateOf_16 ?_
      refine g_goto G 21 dX0_stateOf_17 (by decide) ?_
      refine g_iret G dX0_stateOf_21 ?_
      refine ⟨rfl, rfl, ?_⟩
      show some (Value.int _) = some (Value.int (iI (if 0 ≤ k ∧ k < 160 then (M (29 + 5 * i + 4) k).toInt else 0)))
      (repeat' split) <;> first | rfl | omega
set_option maxHeartbeats 4000000 in
set_option maxRecDepth 100000 in
theorem kX0_isSeen {l : Launch} {D : va_G} {cI cZ cJ cT cC : ClassId} {ad : Nat → Nat} {A : Nat → Prop} (hD : ∀ g : Nat → va_E, va_D A (sjW 89 ad g)) (i : Nat) (hi : i < 12) (c : Int) (hc : rng c) (M : sjM) (L : sjL)  : Met l yX0_isSeen wsX0_isSeen { frames := 0, cells := 0, slots := 0, locals := 0 } (sjA D cI cZ cJ cT cC 89 ad (kC cI cZ cJ cT cC ad) [.ref (ad (29 + 5 * i)), .int (iI c)] M L) (sjZ D 89 ad (kC cI cZ cJ cT cC ad) A (fun v M' L' => M' = M ∧ L' = L ∧ v = some (.int (iI (if aSeen (vX M i) c then 1 else 0))))) 0 0 A := by
  refine g_met (cc := cX0_isSeen) (maxL := 2) (ret := (some .boolean)) (lv := [_, _]) (by decide) rfl hD kC_loc (List.forall_mem_cons.mpr ⟨rfl, List.forall_mem_cons.mpr ⟨rfl, fun _ h => absurd h List.not_mem_nil⟩⟩) (Nat.le_of_ble_eq_true rfl) rfl ?_
  intro J G
  have f19 : Cond.fieldLink RX0 19 "SharedPage$Copy" "places" "[I" ∈ wsX0_isSeen := by decide +kernel
  have f22 : Cond.fieldLink RX0 22 "SharedPage$Copy" "erased" "[Z" ∈ wsX0_isSeen := by decide +kernel
  have hinX0 : ∀ w ∈ u_ws RX0 TX0 12, w ∈ wsX0_isSeen := fun w h => List.mem_cons_of_mem _ (List.mem_append_right _ h)
  refine g_iload_n G dX0_isSeen_0 rfl ?_
  refine g_if_lt G (by first | exact rg _ | assumption | exact rg_pl _ _ _ | exact rg_at _ _ _ | exact rg_left _ _ _ | exact rg_right _ _ _ | exact rg_mark _ _ _ | exact rg_site _ _ _ | exact rg_kind _ _ _ | exact rg_st _ _ _ | omega) 34 dX0_isSeen_1 (by decide) (fun h1 => ?_) (fun h1 => ?_)
  · -- 1 t
    refine g_iconst G dX0_isSeen_34 ?_
    refine g_zret G rfl dX0_isSeen_35 ?_
    refine ⟨rfl, rfl, ?_⟩
    show some (Value.int _) = some (Value.int (iI (if 0 ≤ c ∧ c < 60 ∧ ¬ (M (29 + 5 * i + 2) c).toInt = -2 ∧ (M (29 + 5 * i + 3) c).toInt = 0 then 1 else 0)))
    (repeat' split) <;> first | rfl | omega
  · -- 1 f
    refine g_iload_n G dX0_isSeen_4 rfl ?_
    refine g_bipush G dX0_isSeen_5 rfl ?_
    refine g_icmp_ge G (by first | exact rg _ | assumption | exact rg_pl _ _ _ | exact rg_at _ _ _ | exact rg_left _ _ _ | exact rg_right _ _ _ | exact rg_mark _ _ _ | exact rg_site _ _ _ | exact rg_kind _ _ _ | exact rg_st _ _ _ | omega) (by first | exact rg _ | assumption | exact rg_pl _ _ _ | exact rg_at _ _ _ | exact rg_left _ _ _ | exact rg_right _ _ _ | exact rg_mark _ _ _ | exact rg_site _ _ _ | exact rg_kind _ _ _ | exact rg_st _ _ _ | omega) 34 dX0_isSeen_7 (by decide) (fun h7 => ?_) (fun h7 => ?_)
    · -- 7 t
      refine g_iconst G dX0_isSeen_34 ?_
      refine g_zret G rfl dX0_isSeen_35 ?_
      refine ⟨rfl, rfl, ?_⟩
      show some (Value.int _) = some (Value.int (iI (if 0 ≤ c ∧ c < 60 ∧ ¬ (M (29 + 5 * i + 2) c).toInt = -2 ∧ (M (29 + 5 * i + 3) c).toInt = 0 then 1 else 0)))
      (repeat' split) <;> first | rfl | omega
    · -- 7 f
      refine g_aload_n G dX0_isSeen_10 rfl ?_
      refine g_getR G hinX0 (oCopy i hi) rfl 2 (by decide) f19 rfl rfl dX0_isSeen_11 ?_
      refine g_iload_n G dX0_isSeen_14 rfl ?_
      refine g_iald G (aCopy60 i 2 hi (by omega) (by omega)) (by omega) dX0_isSeen_15 ?_
      refine g_bipush G dX0_isSeen_16 rfl ?_
      refine g_icmp_eq G (by first | exact rg _ | assumption | exact rg_pl _ _ _ | exact rg_at _ _ _ | exact rg_left _ _ _ | exact rg_right _ _ _ | exact rg_mark _ _ _ | exact rg_site _ _ _ | exact rg_kind _ _ _ | exact rg_st _ _ _ | omega) (by first | exact rg _ | assumption | exact rg_pl _ _ _ | exact rg_at _ _ _ | exact rg_left _ _ _ | exact rg_right _ _ _ | exact rg_mark _ _ _ | exact rg_site _ _ _ | exact rg_kind _ _ _ | exact rg_st _ _ _ | omega) 34 dX0_isSeen_18 (by decide) (fun h18 => ?_) (fun h18 => ?_)
      · -- 18 t
        refine g_iconst G dX0_isSeen_34 ?_
        refine g_zret G rfl dX0_isSeen_35 ?_
        refine ⟨rfl, rfl, ?_⟩
        show some (Value.int _) = some (Value.int (iI (if 0 ≤ c ∧ c < 60 ∧ ¬ (M (29 + 5 * i + 2) c).toInt = -2 ∧ (M (29 + 5 * i + 3) c).toInt = 0 then 1 else 0)))
        (repeat' split) <;> first | rfl | omega
      · -- 18 f
        refine g_aload_n G dX0_isSeen_21 rfl ?_
        refine g_getR G hinX0 (oCopy i hi) rfl 3 (by decide) f22 rfl rfl dX0_isSeen_22 ?_
        refine g_iload_n G dX0_isSeen_25 rfl ?_
        refine g_zald G (aCopyZ i hi) (by omega) dX0_isSeen_26 ?_
        refine g_if_ne G (by first | exact rg _ | assumption | exact rg_pl _ _ _ | exact rg_at _ _ _ | exact rg_left _ _ _ | exact rg_right _ _ _ | exact rg_mark _ _ _ | exact rg_site _ _ _ | exact rg_kind _ _ _ | exact rg_st _ _ _ | omega) 34 dX0_isSeen_27 (by decide) (fun h27 => ?_) (fun h27 => ?_)
        · -- 27 t
          refine g_iconst G dX0_isSeen_34 ?_
          refine g_zret G rfl dX0_isSeen_35 ?_
          refine ⟨rfl, rfl, ?_⟩
          show some (Value.int _) = some (Value.int (iI (if 0 ≤ c ∧ c < 60 ∧ ¬ (M (29 + 5 * i + 2) c).toInt = -2 ∧ (M (29 + 5 * i + 3) c).toInt = 0 then 1 else 0)))
          (repeat' split) <;> first | rfl | omega
        · -- 27 f
          refine g_iconst G dX0_isSeen_30 ?_
          refine g_goto G 35 dX0_isSeen_31 (by decide) ?_
          refine g_zret G rfl dX0_isSeen_35 ?_
          refine ⟨rfl, rfl, ?_⟩
          show some (Value.int _) = some (Value.int (iI (if 0 ≤ c ∧ c < 60 ∧ ¬ (M (29 + 5 * i + 2) c).toInt = -2 ∧ (M (29 + 5 * i + 3) c).toInt = 0 then 1 else 0)))
          (repeat' split) <;> first | rfl | omega
set_option maxHeartbeats 4000000 in
set_option maxRecDepth 100000 in
theorem kX0_setPlace {l : Launch} {D : va_G} {cI cZ cJ cT cC : ClassId} {ad : Nat → Nat} {A : Nat → Prop} (hD : ∀ g : Nat → va_E, va_D A (sjW 89 ad g)) (i : Nat) (hi : i < 12) (c q : Int) (hc : rng c) (M : sjM) (L : sjL)  : Met l yX0_setPlace wsX0_setPlace { frames := 0, cells := 0, slots := 0, locals := 0 } (sjA D cI cZ cJ cT cC 89 ad (kC cI cZ cJ cT cC ad) [.ref (ad (29 + 5 * i)), .int (iI c), .int (iI q)] M L) (sjZ D 89 ad (kC cI cZ cJ cT cC ad) A (fun v M' L' => v = none ∧ L' = L ∧ M' = if 0 ≤ c ∧ c < 60 then sjU M (29 + 5 * i + 2) c (iI q) else M)) 0 0 A := by
  refine g_met (cc := cX0_setPlace) (maxL := 3) (ret := none) (lv := [_, _, _]) (by decide) rfl hD kC_loc (List.forall_mem_cons.mpr ⟨rfl, List.forall_mem_cons.mpr ⟨rfl, List.forall_mem_cons.mpr ⟨rfl, fun _ h => absurd h List.not_mem_nil⟩⟩⟩) (Nat.le_of_ble_eq_true rfl) rfl ?_
  intro J G
  have f19 : Cond.fieldLink RX0 19 "SharedPage$Copy" "places" "[I" ∈ wsX0_setPlace := by decide +kernel
  have hinX0 : ∀ w ∈ u_ws RX0 TX0 12, w ∈ wsX0_setPlace := fun w h => List.mem_cons_of_mem _ (List.mem_append_right _ h)
  refine g_iload_n G dX0_setPlace_0 rfl ?_
  refine g_if_lt G (by first | exact rg _ | assumption | exact rg_pl _ _ _ | exact rg_at _ _ _ | exact rg_left _ _ _ | exact rg_right _ _ _ | exact rg_mark _ _ _ | exact rg_site _ _ _ | exact rg_kind _ _ _ | exact rg_st _ _ _ | omega) 17 dX0_setPlace_1 (by decide) (fun h1 => ?_) (fun h1 => ?_)
  · -- 1 t
    refine g_vret G dX0_setPlace_17 ?_
    refine ⟨rfl, rfl, ?_⟩
    (repeat' split) <;> first | rfl | omega
  · -- 1 f
    refine g_iload_n G dX0_setPlace_4 rfl ?_
    refine g_bipush G dX0_setPlace_5 rfl ?_
    refine g_icmp_ge G (by first | exact rg _ | assumption | exact rg_pl _ _ _ | exact rg_at _ _ _ | exact rg_left _ _ _ | exact rg_right _ _ _ | exact rg_mark _ _ _ | exact rg_site _ _ _ | exact rg_kind _ _ _ | exact rg_st _ _ _ | omega) (by first | exact rg _ | assumption | exact rg_pl _ _ _ | exact rg_at _ _ _ | exact rg_left _ _ _ | exact rg_right _ _ _ | exact rg_mark _ _ _ | exact rg_site _ _ _ | exact rg_kind _ _ _ | exact rg_st _ _ _ | omega) 17 dX0_setPlace_7 (by decide) (fun h7 => ?_) (fun h7 => ?_)
    · -- 7 t
      refine g_vret G dX0_setPlace_17 ?_
      refine ⟨rfl, rfl, ?_⟩
      (repeat' split) <;> first | rfl | omega
    · -- 7 f
      refine g_aload_n G dX0_setPlace_10 rfl ?_
      refine g_getR G hinX0 (oCopy i hi) rfl 2 (by decide) f19 rfl rfl dX0_setPlace_11 ?_
      refine g_iload_n G dX0_setPlace_14 rfl ?_
      refine g_iload_n G dX0_setPlace_15 rfl ?_
      refine g_iast G (aCopy60 i 2 hi (by omega) (by omega)) (by omega) dX0_setPlace_16 ?_
      refine g_vret G dX0_setPlace_17 ?_
      refine ⟨rfl, rfl, ?_⟩
      (repeat' split) <;> first | rfl | omega
set_option maxHeartbeats 4000000 in
set_option maxRecDepth 100000 in
theorem kX0_setState {l : Launch} {D : va_G} {cI cZ cJ cT cC : ClassId} {ad : Nat → Nat} {A : Nat → Prop} (hD : ∀ g : Nat → va_E, va_D A (sjW 89 ad g)) (i : Nat) (hi : i < 12) (k q : Int) (hk : rng k) (M : sjM) (L : sjL)  : Met l yX0_setState wsX0_setState { frames := 0, cells := 0, slots := 0, locals := 0 } (sjA D cI cZ cJ cT cC 89 ad (kC cI cZ cJ cT cC ad) [.ref (ad (29 + 5 * i)), .int (iI k), .int (iI q)] M L) (sjZ D 89 ad (kC cI cZ cJ cT cC ad) A (fun v M' L' => v = none ∧ L' = L ∧ M' = if 0 ≤ k ∧ k < 160 then sjU M (29 + 5 * i + 4) k (iI q) else M)) 0 0 A := by
  refine g_met (cc := cX0_setState) (maxL := 3) (ret := none) (lv := [_, _, _]) (by decide) rfl hD kC_loc (List.forall_mem_cons.mpr ⟨rfl, List.forall_mem_cons.mpr ⟨rfl, List.forall_mem_cons.mpr ⟨rfl, fun _ h => absurd h List.not_mem_nil⟩⟩⟩) (Nat.le_of_ble_eq_true rfl) rfl ?_
  intro J G
  have f26 : Cond.fieldLink RX0 26 "SharedPage$Copy" "states" "[I" ∈ wsX0_setState := by decide +kernel
  have hinX0 : ∀ w ∈ u_ws RX0 TX0 12, w ∈ wsX0_setState := fun w h => List.mem_cons_of_mem _ (List.mem_append_right _ h)
  refine g_iload_n G dX0_setState_0 rfl ?_
  refine g_if_lt G (by first | exact rg _ | assumption | exact rg_pl _ _ _ | exact rg_at _ _ _ | exact rg_left _ _ _ | exact rg_right _ _ _ | exact rg_mark _ _ _ | exact rg_site _ _ _ | exact rg_kind _ _ _ | exact rg_st _ _ _ | omega) 18 dX0_setState_1 (by decide) (fun h1 => ?_) (fun h1 => ?_)
  · -- 1 t
    refine g_vret G dX0_setState_18 ?_
    refine ⟨rfl, rfl, ?_⟩
    (repeat' split) <;> first | rfl | omega
  · -- 1 f
    refine g_iload_n G dX0_setState_4 rfl ?_
    refine g_sipush G dX0_setState_5 rfl ?_
    refine g_icmp_ge G (by first | exact rg _ | assumption | exact rg_pl _ _ _ | exact rg_at _ _ _ | exact rg_left _ _ _ | exact rg_right _ _ _ | exact rg_mark _ _ _ | exact rg_site _ _ _ | exact rg_kind _ _ _ | exact rg_st _ _ _ | omega) (by first | exact rg _ | assumption | exact rg_pl _ _ _ | exact rg_at _ _ _ | exact rg_left _ _ _ | exact rg_right _ _ _ | exact rg_mark _ _ _ | exact rg_site _ _ _ | exact rg_kind _ _ _ | exact rg_st _ _ _ | omega) 18 dX0_setState_8 (by decide) (fun h8 => ?_) (fun h8 => ?_)
    · -- 8 t
      refine g_vret G dX0_setState_18 ?_
      refine ⟨rfl, rfl, ?_⟩
      (repeat' split) <;> first | rfl | omega
    · -- 8 f
      refine g_aload_n G dX0_setState_11 rfl ?_
      refine g_getR G hinX0 (oCopy i hi) rfl 4 (by decide) f26 rfl rfl dX0_setState_12 ?_
      refine g_iload_n G dX0_setState_15 rfl ?_
      refine g_iload_n G dX0_setState_16 rfl ?_
      refine g_iast G (aCopyS i hi) (by omega) dX0_setState_17 ?_
      refine g_vret G dX0_setState_18 ?_
      refine ⟨rfl, rfl, ?_⟩
      (repeat' split) <;> first | rfl | omega
set_option maxHeartbeats 4000000 in
set_option maxRecDepth 100000 in
theorem kX0_startCall {l : Launch} {D : va_G} {cI cZ cJ cT cC : ClassId} {ad : Nat → Nat} {A : Nat → Prop} (hD : ∀ g : Nat → va_E, va_D A (sjW 89 ad g)) (i : Nat) (hi : i < 12) (M : sjM) (L : sjL)  : Met l yX0_startCall wsX0_startCall { frames := 0, cells := 0, slots := 0, locals := 0 } (sjA D cI cZ cJ cT cC 89 ad (kC cI cZ cJ cT cC ad) [.ref (ad (29 + 5 * i))] M L) (sjZ D 89 ad (kC cI cZ cJ cT cC ad) A (fun v M' L' => v = none ∧ L' = L ∧ M' = sjU (sjU M (29 + 5 * i) 5 (iI 0)) (29 + 5 * i) 6 (iI 0))) 0 0 A := by
  refine g_met (cc := cX0_startCall) (maxL := 1) (ret := none) (lv := [_]) (by decide) rfl hD kC_loc (List.forall_mem_cons.mpr ⟨rfl, fun _ h => absurd h List.not_mem_nil⟩) (Nat.le_of_ble_eq_true rfl) rfl ?_
  intro J G
  have f48 : Cond.fieldLink RX0 48 "SharedPage$Copy" "looksOfCall" "I" ∈ wsX0_startCall := by decide +kernel
  have f51 : Cond.fieldLink RX0 51 "SharedPage$Copy" "integratedInCall" "I" ∈ wsX0_startCall := by decide +kernel
  have hinX0 : ∀ w ∈ u_ws RX0 TX0 12, w ∈ wsX0_startCall := fun w h => List.mem_cons_of_mem _ (List.mem_append_right _ h)
  refine g_aload_n G dX0_startCall_0 rfl ?_
  refine g_iconst G dX0_startCall_1 ?_
  refine g_put G tyX0 tyX0_ok nmX0 hinX0 (oCopy i hi) rfl 10 (by decide) (pCopy5 _ _) f48 rfl rfl rfl dX0_startCall_2 ?_
  refine g_aload_n G dX0_startCall_5 rfl ?_
  refine g_iconst G dX0_startCall_6 ?_
  refine g_put G tyX0 tyX0_ok nmX0 hinX0 (oCopy i hi) rfl 11 (by decide) (pCopy6 _ _) f51 rfl rfl rfl dX0_startCall_7 ?_
  refine g_vret G dX0_startCall_10 ?_
  exact ⟨rfl, rfl, rfl⟩
set_option maxHeartbeats 4000000 in
set_option maxRecDepth 100000 in
theorem kX0_endCall {l : Launch} {D : va_G} {cI cZ cJ cT cC : ClassId} {ad : Nat → Nat} {A : Nat → Prop} (hD : ∀ g : Nat → va_E, va_D A (sjW 89 ad g)) (i : Nat) (hi : i < 12) (M : sjM) (L : sjL)  : Met l yX0_endCall wsX0_endCall { frames := 0, cells := 0, slots := 0, locals := 0 } (sjA D cI cZ cJ cT cC 89 ad (kC cI cZ cJ cT cC ad) [.ref (ad (29 + 5 * i))] M L) (sjZ D 89 ad (kC cI cZ cJ cT cC ad) A (fun v M' L' => v = none ∧ L' = L ∧ M' = if 0 < (M (29 + 5 * i) 6).toInt then sjU M (29 + 5 * i) 4 (M (29 + 5 * i) 5) else M)) 0 0 A := by
  refine g_met (cc := cX0_endCall) (maxL := 1) (ret := none) (lv := [_]) (by decide) rfl hD kC_loc (List.forall_mem_cons.mpr ⟨rfl, fun _ h => absurd h List.not_mem_nil⟩) (Nat.le_of_ble_eq_true rfl) rfl ?_
  intro J G
  have f45 : Cond.fieldLink RX0 45 "SharedPage$Copy" "looks" "I" ∈ wsX0_endCall := by decide +kernel
  have f48 : Cond.fieldLink RX0 48 "SharedPage$Copy" "looksOfCall" "I" ∈ wsX0_endCall := by decide +kernel
  have f51 : Cond.fieldLink RX0 51 "SharedPage$Copy" "integratedInCall" "I" ∈ wsX0_endCall := by decide +kernel
  have hinX0 : ∀ w ∈ u_ws RX0 TX0 12, w ∈ wsX0_endCall := fun w h => List.mem_cons_of_mem _ (List.mem_append_right _ h)
  refine g_aload_n G dX0_endCall_0 rfl ?_
  refine g_getI G hinX0 (oCopy i hi) rfl 11 (by decide) f51 rfl rfl dX0_endCall_1 ?_
  refine g_if_le G (by first | exact rg _ | assumption | exact rg_pl _ _ _ | exact rg_at _ _ _ | exact rg_left _ _ _ | exact rg_right _ _ _ | exact rg_mark _ _ _ | exact rg_site _ _ _ | exact rg_kind _ _ _ | exact rg_st _ _ _ | omega) 15 dX0_endCall_4 (by decide) (fun h4 => ?_) (fun h4 => ?_)
  · -- 4 t
    refine g_vret G dX0_endCall_15 ?_
    refine ⟨rfl, rfl, ?_⟩
    (repeat' split) <;> first | rfl | omega | (rw [iI_of])
  · -- 4 f
    refine g_aload_n G dX0_endCall_7 rfl ?_
    refine g_aload_n G dX0_endCall_8 rfl ?_
    refine g_getI G hinX0 (oCopy i hi) rfl 10 (by decide) f48 rfl rfl dX0_endCall_9 ?_
    refine g_put G tyX0 tyX0_ok nmX0 hinX0 (oCopy i hi) rfl 9 (by decide) (pCopy4 _ _) f45 rfl rfl rfl dX0_endCall_12 ?_
    refine g_vret G dX0_endCall_15 ?_
    refine ⟨rfl, rfl, ?_⟩
    (repeat' split) <;> first | rfl | omega | (rw [iI_of])
end
