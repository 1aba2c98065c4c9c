section
def lw_okq (q : MethodName × Nat) : Prop := (q.1.cls ≠ "java/lang/invoke/MethodHandle" ∧ q.1.cls ≠ "java/lang/invoke/VarHandle") ∧ Cond.instantiable q.1.cls q.2 ∈ tables_1 ∧ Cond.privateMethod q.1 ∈ tables_1 ∧ Cond.instanceMethod q.1 ∈ tables_1
theorem lw_p0 : lw_okq (⟨"WakingPagers", "isAddressUsed", "(I)Z"⟩, 12) := ⟨⟨by decide +kernel, by decide +kernel⟩, List.mem_of_getElem? (i := 17) (by decide +kernel), List.mem_of_getElem? (i := 171) (by decide +kernel), List.mem_of_getElem? (i := 172) (by decide +kernel)⟩
theorem lw_p1 : lw_okq (⟨"WakingPagers", "pagerAt", "(I)LWakingPagers$Pager;"⟩, 12) := ⟨⟨by decide +kernel, by decide +kernel⟩, List.mem_of_getElem? (i := 17) (by decide +kernel), List.mem_of_getElem? (i := 317) (by decide +kernel), List.mem_of_getElem? (i := 318) (by decide +kernel)⟩
theorem lw_p2 : lw_okq (⟨"WakingPagers", "identityAt", "(I)LWakingPagers$Identity;"⟩, 12) := ⟨⟨by decide +kernel, by decide +kernel⟩, List.mem_of_getElem? (i := 17) (by decide +kernel), List.mem_of_getElem? (i := 321) (by decide +kernel), List.mem_of_getElem? (i := 322) (by decide +kernel)⟩
theorem lw_p3 : lw_okq (⟨"WakingPagers", "areLoadedSignsOf", "(LWakingPagers$Identity;)Z"⟩, 12) := ⟨⟨by decide +kernel, by decide +kernel⟩, List.mem_of_getElem? (i := 17) (by decide +kernel), List.mem_of_getElem? (i := 366) (by decide +kernel), List.mem_of_getElem? (i := 367) (by decide +kernel)⟩
theorem lw_p4 : lw_okq (⟨"WakingPagers", "layMessages", "(I)V"⟩, 12) := ⟨⟨by decide +kernel, by decide +kernel⟩, List.mem_of_getElem? (i := 17) (by decide +kernel), List.mem_of_getElem? (i := 441) (by decide +kernel), List.mem_of_getElem? (i := 442) (by decide +kernel)⟩
theorem lw_p5 : lw_okq (⟨"WakingPagers$Layout", "findPlace", "(LWakingPagers$Identity;I)I"⟩, 2) := ⟨⟨by decide +kernel, by decide +kernel⟩, List.mem_of_getElem? (i := 31) (by decide +kernel), List.mem_of_getElem? (i := 457) (by decide +kernel), List.mem_of_getElem? (i := 458) (by decide +kernel)⟩
theorem lw_p6 : lw_okq (⟨"WakingPagers$Layout", "areFree", "(II)Z"⟩, 2) := ⟨⟨by decide +kernel, by decide +kernel⟩, List.mem_of_getElem? (i := 31) (by decide +kernel), List.mem_of_getElem? (i := 461) (by decide +kernel), List.mem_of_getElem? (i := 462) (by decide +kernel)⟩
theorem lw_p7 : lw_okq (⟨"WakingPagers$Listener", "hunt", "(I)I"⟩, 8) := ⟨⟨by decide +kernel, by decide +kernel⟩, List.mem_of_getElem? (i := 61) (by decide +kernel), List.mem_of_getElem? (i := 501) (by decide +kernel), List.mem_of_getElem? (i := 502) (by decide +kernel)⟩
theorem lw_p8 : lw_okq (⟨"WakingPagers$Listener", "takeBatch", "(I)I"⟩, 8) := ⟨⟨by decide +kernel, by decide +kernel⟩, List.mem_of_getElem? (i := 61) (by decide +kernel), List.mem_of_getElem? (i := 514) (by decide +kernel), List.mem_of_getElem? (i := 515) (by decide +kernel)⟩
theorem lw_p9 : lw_okq (⟨"WakingPagers$Listener", "takeWord", "(II)V"⟩, 8) := ⟨⟨by decide +kernel, by decide +kernel⟩, List.mem_of_getElem? (i := 61) (by decide +kernel), List.mem_of_getElem? (i := 526) (by decide +kernel), List.mem_of_getElem? (i := 527) (by decide +kernel)⟩
theorem lw_p10 : lw_okq (⟨"WakingPagers$Listener", "endMessage", "(Z)V"⟩, 8) := ⟨⟨by decide +kernel, by decide +kernel⟩, List.mem_of_getElem? (i := 61) (by decide +kernel), List.mem_of_getElem? (i := 531) (by decide +kernel), List.mem_of_getElem? (i := 532) (by decide +kernel)⟩
theorem lw_p11 : lw_okq (⟨"WakingPagers$Listener", "store", "(IZ)V"⟩, 8) := ⟨⟨by decide +kernel, by decide +kernel⟩, List.mem_of_getElem? (i := 61) (by decide +kernel), List.mem_of_getElem? (i := 543) (by decide +kernel), List.mem_of_getElem? (i := 544) (by decide +kernel)⟩
theorem lw_p12 : lw_okq (⟨"WakingPagers$Listener", "addContent", "(I)V"⟩, 8) := ⟨⟨by decide +kernel, by decide +kernel⟩, List.mem_of_getElem? (i := 61) (by decide +kernel), List.mem_of_getElem? (i := 564) (by decide +kernel), List.mem_of_getElem? (i := 565) (by decide +kernel)⟩
theorem lw_p13 : lw_okq (⟨"WakingPagers$Listener", "addSign", "(I)V"⟩, 8) := ⟨⟨by decide +kernel, by decide +kernel⟩, List.mem_of_getElem? (i := 61) (by decide +kernel), List.mem_of_getElem? (i := 568) (by decide +kernel), List.mem_of_getElem? (i := 569) (by decide +kernel)⟩
theorem lw_p14 : lw_okq (⟨"WakingPagers$Listener", "beginMessage", "(LWakingPagers$Heard;)V"⟩, 8) := ⟨⟨by decide +kernel, by decide +kernel⟩, List.mem_of_getElem? (i := 61) (by decide +kernel), List.mem_of_getElem? (i := 576) (by decide +kernel), List.mem_of_getElem? (i := 577) (by decide +kernel)⟩
theorem lw_p15 : lw_okq (⟨"WakingPagers$Listener", "takeSync", "(I)I"⟩, 8) := ⟨⟨by decide +kernel, by decide +kernel⟩, List.mem_of_getElem? (i := 61) (by decide +kernel), List.mem_of_getElem? (i := 580) (by decide +kernel), List.mem_of_getElem? (i := 581) (by decide +kernel)⟩
def lw_privs_1 : List (MethodName × Nat) := [(⟨"WakingPagers", "isAddressUsed", "(I)Z"⟩, 12), (⟨"WakingPagers", "pagerAt", "(I)LWakingPagers$Pager;"⟩, 12), (⟨"WakingPagers", "identityAt", "(I)LWakingPagers$Identity;"⟩, 12), (⟨"WakingPagers", "areLoadedSignsOf", "(LWakingPagers$Identity;)Z"⟩, 12), (⟨"WakingPagers", "layMessages", "(I)V"⟩, 12), (⟨"WakingPagers$Layout", "findPlace", "(LWakingPagers$Identity;I)I"⟩, 2), (⟨"WakingPagers$Layout", "areFree", "(II)Z"⟩, 2), (⟨"WakingPagers$Listener", "hunt", "(I)I"⟩, 8), (⟨"WakingPagers$Listener", "takeBatch", "(I)I"⟩, 8), (⟨"WakingPagers$Listener", "takeWord", "(II)V"⟩, 8), (⟨"WakingPagers$Listener", "endMessage", "(Z)V"⟩, 8), (⟨"WakingPagers$Listener", "store", "(IZ)V"⟩, 8), (⟨"WakingPagers$Listener", "addContent", "(I)V"⟩, 8), (⟨"WakingPagers$Listener", "addSign", "(I)V"⟩, 8), (⟨"WakingPagers$Listener", "beginMessage", "(LWakingPagers$Heard;)V"⟩, 8), (⟨"WakingPagers$Listener", "takeSync", "(I)I"⟩, 8)]
theorem lw_r1 : ∀ q ∈ lw_privs_1, lw_okq q := List.forall_mem_cons.mpr ⟨lw_p0, List.forall_mem_cons.mpr ⟨lw_p1, List.forall_mem_cons.mpr ⟨lw_p2, List.forall_mem_cons.mpr ⟨lw_p3, List.forall_mem_cons.mpr ⟨lw_p4, List.forall_mem_cons.mpr ⟨lw_p5, List.forall_mem_cons.mpr ⟨lw_p6, List.forall_mem_cons.mpr ⟨lw_p7, List.forall_mem_cons.mpr ⟨lw_p8, List.forall_mem_cons.mpr ⟨lw_p9, List.forall_mem_cons.mpr ⟨lw_p10, List.forall_mem_cons.mpr ⟨lw_p11, List.forall_mem_cons.mpr ⟨lw_p12, List.forall_mem_cons.mpr ⟨lw_p13, List.forall_mem_cons.mpr ⟨lw_p14, List.forall_mem_cons.mpr ⟨lw_p15, fun _ h => absurd h List.not_mem_nil⟩⟩⟩⟩⟩⟩⟩⟩⟩⟩⟩⟩⟩⟩⟩⟩
theorem lw_p16 : lw_okq (⟨"WakingPagers", "storedAt", "(II)LWakingPagers$Stored;"⟩, 12) := ⟨⟨by decide +kernel, by decide +kernel⟩, List.mem_of_getElem? (i := 17) (by decide +kernel), List.mem_of_getElem? (i := 592) (by decide +kernel), List.mem_of_getElem? (i := 593) (by decide +kernel)⟩
theorem lw_p17 : lw_okq (⟨"WakingPagersModel", "isPager", "(I)Z"⟩, 37) := ⟨⟨by decide +kernel, by decide +kernel⟩, List.mem_of_getElem? (i := 617) (by decide +kernel), List.mem_of_getElem? (i := 763) (by decide +kernel), List.mem_of_getElem? (i := 764) (by decide +kernel)⟩
theorem lw_p18 : lw_okq (⟨"WakingPagersModel", "isIdentity", "(I)Z"⟩, 37) := ⟨⟨by decide +kernel, by decide +kernel⟩, List.mem_of_getElem? (i := 617) (by decide +kernel), List.mem_of_getElem? (i := 767) (by decide +kernel), List.mem_of_getElem? (i := 768) (by decide +kernel)⟩
theorem lw_p19 : lw_okq (⟨"WakingPagersModel", "listensTo", "(II)Z"⟩, 37) := ⟨⟨by decide +kernel, by decide +kernel⟩, List.mem_of_getElem? (i := 617) (by decide +kernel), List.mem_of_getElem? (i := 771) (by decide +kernel), List.mem_of_getElem? (i := 772) (by decide +kernel)⟩
theorem lw_p20 : lw_okq (⟨"WakingPagersModel", "lay", "(III)I"⟩, 37) := ⟨⟨by decide +kernel, by decide +kernel⟩, List.mem_of_getElem? (i := 617) (by decide +kernel), List.mem_of_getElem? (i := 799) (by decide +kernel), List.mem_of_getElem? (i := 800) (by decide +kernel)⟩
theorem lw_p21 : lw_okq (⟨"WakingPagersModel", "fits", "(III)Z"⟩, 37) := ⟨⟨by decide +kernel, by decide +kernel⟩, List.mem_of_getElem? (i := 617) (by decide +kernel), List.mem_of_getElem? (i := 803) (by decide +kernel), List.mem_of_getElem? (i := 804) (by decide +kernel)⟩
theorem lw_p22 : lw_okq (⟨"WakingPagersModel", "wordsOf", "(I)I"⟩, 37) := ⟨⟨by decide +kernel, by decide +kernel⟩, List.mem_of_getElem? (i := 617) (by decide +kernel), List.mem_of_getElem? (i := 807) (by decide +kernel), List.mem_of_getElem? (i := 808) (by decide +kernel)⟩
theorem lw_p23 : lw_okq (⟨"WakingPagersModel", "layAt", "(II)V"⟩, 37) := ⟨⟨by decide +kernel, by decide +kernel⟩, List.mem_of_getElem? (i := 617) (by decide +kernel), List.mem_of_getElem? (i := 811) (by decide +kernel), List.mem_of_getElem? (i := 812) (by decide +kernel)⟩
theorem lw_p24 : lw_okq (⟨"WakingPagersModel", "addressData", "(I)I"⟩, 37) := ⟨⟨by decide +kernel, by decide +kernel⟩, List.mem_of_getElem? (i := 617) (by decide +kernel), List.mem_of_getElem? (i := 815) (by decide +kernel), List.mem_of_getElem? (i := 816) (by decide +kernel)⟩
theorem lw_p25 : lw_okq (⟨"WakingPagersModel", "outBit", "(II)I"⟩, 37) := ⟨⟨by decide +kernel, by decide +kernel⟩, List.mem_of_getElem? (i := 617) (by decide +kernel), List.mem_of_getElem? (i := 819) (by decide +kernel), List.mem_of_getElem? (i := 820) (by decide +kernel)⟩
theorem lw_p26 : lw_okq (⟨"WakingPagersModel", "outgoing", "(II)I"⟩, 37) := ⟨⟨by decide +kernel, by decide +kernel⟩, List.mem_of_getElem? (i := 617) (by decide +kernel), List.mem_of_getElem? (i := 823) (by decide +kernel), List.mem_of_getElem? (i := 824) (by decide +kernel)⟩
theorem lw_p27 : lw_okq (⟨"WakingPagersModel", "send", "(I)V"⟩, 37) := ⟨⟨by decide +kernel, by decide +kernel⟩, List.mem_of_getElem? (i := 617) (by decide +kernel), List.mem_of_getElem? (i := 828) (by decide +kernel), List.mem_of_getElem? (i := 829) (by decide +kernel)⟩
theorem lw_p28 : lw_okq (⟨"WakingPagersModel", "isSync", "(I)Z"⟩, 37) := ⟨⟨by decide +kernel, by decide +kernel⟩, List.mem_of_getElem? (i := 617) (by decide +kernel), List.mem_of_getElem? (i := 845) (by decide +kernel), List.mem_of_getElem? (i := 846) (by decide +kernel)⟩
theorem lw_p29 : lw_okq (⟨"WakingPagersModel", "wordAt", "(I)I"⟩, 37) := ⟨⟨by decide +kernel, by decide +kernel⟩, List.mem_of_getElem? (i := 617) (by decide +kernel), List.mem_of_getElem? (i := 849) (by decide +kernel), List.mem_of_getElem? (i := 850) (by decide +kernel)⟩
theorem lw_p30 : lw_okq (⟨"WakingPagersModel", "batches", "(I)I"⟩, 37) := ⟨⟨by decide +kernel, by decide +kernel⟩, List.mem_of_getElem? (i := 617) (by decide +kernel), List.mem_of_getElem? (i := 856) (by decide +kernel), List.mem_of_getElem? (i := 857) (by decide +kernel)⟩
theorem lw_p31 : lw_okq (⟨"WakingPagersModel", "isAwake", "(I)Z"⟩, 37) := ⟨⟨by decide +kernel, by decide +kernel⟩, List.mem_of_getElem? (i := 617) (by decide +kernel), List.mem_of_getElem? (i := 860) (by decide +kernel), List.mem_of_getElem? (i := 861) (by decide +kernel)⟩
def lw_privs_2 : List (MethodName × Nat) := [(⟨"WakingPagers", "storedAt", "(II)LWakingPagers$Stored;"⟩, 12), (⟨"WakingPagersModel", "isPager", "(I)Z"⟩, 37), (⟨"WakingPagersModel", "isIdentity", "(I)Z"⟩, 37), (⟨"WakingPagersModel", "listensTo", "(II)Z"⟩, 37), (⟨"WakingPagersModel", "lay", "(III)I"⟩, 37), (⟨"WakingPagersModel", "fits", "(III)Z"⟩, 37), (⟨"WakingPagersModel", "wordsOf", "(I)I"⟩, 37), (⟨"WakingPagersModel", "layAt", "(II)V"⟩, 37), (⟨"WakingPagersModel", "addressData", "(I)I"⟩, 37), (⟨"WakingPagersModel", "outBit", "(II)I"⟩, 37), (⟨"WakingPagersModel", "outgoing", "(II)I"⟩, 37), (⟨"WakingPagersModel", "send", "(I)V"⟩, 37), (⟨"WakingPagersModel", "isSync", "(I)Z"⟩, 37), (⟨"WakingPagersModel", "wordAt", "(I)I"⟩, 37), (⟨"WakingPagersModel", "batches", "(I)I"⟩, 37), (⟨"WakingPagersModel", "isAwake", "(I)Z"⟩, 37)]
theorem lw_r2 : ∀ q ∈ lw_privs_2, lw_okq q := List.forall_mem_cons.mpr ⟨lw_p16, List.forall_mem_cons.mpr ⟨lw_p17, List.forall_mem_cons.mpr ⟨lw_p18, List.forall_mem_cons.mpr ⟨lw_p19, List.forall_mem_cons.mpr ⟨lw_p20, List.forall_mem_cons.mpr ⟨lw_p21, List.forall_mem_cons.mpr ⟨lw_p22, List.forall_mem_cons.mpr ⟨lw_p23, List.forall_mem_cons.mpr ⟨lw_p24, List.forall_mem_cons.mpr ⟨lw_p25, List.forall_mem_cons.mpr ⟨lw_p26, List.forall_mem_cons.mpr ⟨lw_p27, List.forall_mem_cons.mpr ⟨lw_p28, List.forall_mem_cons.mpr ⟨lw_p29, List.forall_mem_cons.mpr ⟨lw_p30, List.forall_mem_cons.mpr ⟨lw_p31, fun _ h => absurd h List.not_mem_nil⟩⟩⟩⟩⟩⟩⟩⟩⟩⟩⟩⟩⟩⟩⟩⟩
theorem lw_p32 : lw_okq (⟨"WakingPagersModel", "look", "(II)V"⟩, 37) := ⟨⟨by decide +kernel, by decide +kernel⟩, List.mem_of_getElem? (i := 617) (by decide +kernel), List.mem_of_getElem? (i := 864) (by decide +kernel), List.mem_of_getElem? (i := 865) (by decide +kernel)⟩
theorem lw_p33 : lw_okq (⟨"WakingPagersModel", "finish", "(Z)V"⟩, 37) := ⟨⟨by decide +kernel, by decide +kernel⟩, List.mem_of_getElem? (i := 617) (by decide +kernel), List.mem_of_getElem? (i := 869) (by decide +kernel), List.mem_of_getElem? (i := 870) (by decide +kernel)⟩
theorem lw_p34 : lw_okq (⟨"WakingPagersModel", "numberOf", "(I)I"⟩, 37) := ⟨⟨by decide +kernel, by decide +kernel⟩, List.mem_of_getElem? (i := 617) (by decide +kernel), List.mem_of_getElem? (i := 873) (by decide +kernel), List.mem_of_getElem? (i := 874) (by decide +kernel)⟩
theorem lw_p35 : lw_okq (⟨"WakingPagersModel", "gotSign", "(I)I"⟩, 37) := ⟨⟨by decide +kernel, by decide +kernel⟩, List.mem_of_getElem? (i := 617) (by decide +kernel), List.mem_of_getElem? (i := 877) (by decide +kernel), List.mem_of_getElem? (i := 878) (by decide +kernel)⟩
theorem lw_p36 : lw_okq (⟨"WakingPagersModel", "room", "()I"⟩, 37) := ⟨⟨by decide +kernel, by decide +kernel⟩, List.mem_of_getElem? (i := 617) (by decide +kernel), List.mem_of_getElem? (i := 881) (by decide +kernel), List.mem_of_getElem? (i := 882) (by decide +kernel)⟩
theorem lw_p37 : lw_okq (⟨"WakingPagersModel", "note", "(I)V"⟩, 37) := ⟨⟨by decide +kernel, by decide +kernel⟩, List.mem_of_getElem? (i := 617) (by decide +kernel), List.mem_of_getElem? (i := 885) (by decide +kernel), List.mem_of_getElem? (i := 886) (by decide +kernel)⟩
theorem lw_p38 : lw_okq (⟨"WakingPagersModel", "add", "(I)V"⟩, 37) := ⟨⟨by decide +kernel, by decide +kernel⟩, List.mem_of_getElem? (i := 617) (by decide +kernel), List.mem_of_getElem? (i := 891) (by decide +kernel), List.mem_of_getElem? (i := 892) (by decide +kernel)⟩
theorem lw_p39 : lw_okq (⟨"WakingPagersModel", "identityOf", "(II)I"⟩, 37) := ⟨⟨by decide +kernel, by decide +kernel⟩, List.mem_of_getElem? (i := 617) (by decide +kernel), List.mem_of_getElem? (i := 895) (by decide +kernel), List.mem_of_getElem? (i := 896) (by decide +kernel)⟩
theorem lw_p40 : lw_okq (⟨"WakingPagersModel", "isKept", "(II)Z"⟩, 37) := ⟨⟨by decide +kernel, by decide +kernel⟩, List.mem_of_getElem? (i := 617) (by decide +kernel), List.mem_of_getElem? (i := 907) (by decide +kernel), List.mem_of_getElem? (i := 908) (by decide +kernel)⟩
def lw_privs_3 : List (MethodName × Nat) := [(⟨"WakingPagersModel", "look", "(II)V"⟩, 37), (⟨"WakingPagersModel", "finish", "(Z)V"⟩, 37), (⟨"WakingPagersModel", "numberOf", "(I)I"⟩, 37), (⟨"WakingPagersModel", "gotSign", "(I)I"⟩, 37), (⟨"WakingPagersModel", "room", "()I"⟩, 37), (⟨"WakingPagersModel", "note", "(I)V"⟩, 37), (⟨"WakingPagersModel", "add", "(I)V"⟩, 37), (⟨"WakingPagersModel", "identityOf", "(II)I"⟩, 37), (⟨"WakingPagersModel", "isKept", "(II)Z"⟩, 37)]
theorem lw_r3 : ∀ q ∈ lw_privs_3, lw_okq q := List.forall_mem_cons.mpr ⟨lw_p32, List.forall_mem_cons.mpr ⟨lw_p33, List.forall_mem_cons.mpr ⟨lw_p34, List.forall_mem_cons.mpr ⟨lw_p35, List.forall_mem_cons.mpr ⟨lw_p36, List.forall_mem_cons.mpr ⟨lw_p37, List.forall_mem_cons.mpr ⟨lw_p38, List.forall_mem_cons.mpr ⟨lw_p39, List.forall_mem_cons.mpr ⟨lw_p40, fun _ h => absurd h List.not_mem_nil⟩⟩⟩⟩⟩⟩⟩⟩⟩
def lw_privs : List (MethodName × Nat) := lw_privs_1 ++ (lw_privs_2 ++ (lw_privs_3))
def lw_tbl : List Cond := k2_sels lw_privs ++ tables_1
theorem lw_privs_ok : ∀ q ∈ lw_privs, lw_okq q := by
  show ∀ q ∈ lw_privs_1 ++ (lw_privs_2 ++ (lw_privs_3)), lw_okq q
  exact List.forall_mem_append.mpr ⟨lw_r1, List.forall_mem_append.mpr ⟨lw_r2, lw_r3⟩⟩
end
section
/-! names: the rows of objects and their fields, the methods, the words that the tables give; written by a program of mine out of the Statement -/
def RAi : String := "WakingPagers$Air"
def TAi : u_T := fun k => match k with
  | 0 => ("WakingPagers$Air", "words", "[I", true)
  | _ => ("WakingPagers$Air", "bitCount", "I", false)
def tyAi : Nat → FieldType := fun k => match k with
  | 0 => .array .int
  | _ => .int
theorem nmAi : ∀ a, a < 2 → ∀ b, b < 2 → a ≠ b → (TAi a).2.1 ≠ (TAi b).2.1 := by decide +kernel
theorem okAi : ∀ k, k < 2 → parseFieldDescriptor (TAi k).2.2.1 = some (tyAi k) := by decide +kernel
def RHd : String := "WakingPagers$Heard"
def THd : u_T := fun k => match k with
  | 0 => ("WakingPagers$Heard", "identity", "LWakingPagers$Identity;", true)
  | 1 => ("WakingPagers$Heard", "gaps", "J", false)
  | _ => ("WakingPagers$Heard", "latest", "I", false)
def tyHd : Nat → FieldType := fun k => match k with
  | 0 => .object "WakingPagers$Identity"
  | 1 => .long
  | _ => .int
theorem nmHd : ∀ a, a < 3 → ∀ b, b < 3 → a ≠ b → (THd a).2.1 ≠ (THd b).2.1 := by decide +kernel
theorem okHd : ∀ k, k < 3 → parseFieldDescriptor (THd k).2.2.1 = some (tyHd k) := by decide +kernel
def RId : String := "WakingPagers$Identity"
def TId : u_T := fun k => match k with
  | 0 => ("WakingPagers$Identity", "index", "I", true)
  | 1 => ("WakingPagers$Identity", "address", "I", true)
  | 2 => ("WakingPagers$Identity", "isText", "Z", true)
  | 3 => ("WakingPagers$Identity", "frame", "I", true)
  | 4 => ("WakingPagers$Identity", "addressWord", "I", true)
  | 5 => ("WakingPagers$Identity", "leastSign", "I", true)
  | 6 => ("WakingPagers$Identity", "greatestSign", "I", true)
  | 7 => ("WakingPagers$Identity", "signBits", "I", true)
  | 8 => ("WakingPagers$Identity", "filler", "I", true)
  | 9 => ("WakingPagers$Identity", "called", "I", false)
  | _ => ("WakingPagers$Identity", "nextPlace", "I", false)
def tyId : Nat → FieldType := fun k => match k with
  | 0 => .int
  | 1 => .int
  | 2 => .boolean
  | 3 => .int
  | 4 => .int
  | 5 => .int
  | 6 => .int
  | 7 => .int
  | 8 => .int
  | 9 => .int
  | _ => .int
theorem nmId : ∀ a, a < 11 → ∀ b, b < 11 → a ≠ b → (TId a).2.1 ≠ (TId b).2.1 := by decide +kernel
theorem okId : ∀ k, k < 11 → parseFieldDescriptor (TId k).2.2.1 = some (tyId k) := by decide +kernel
def RLy : String := "WakingPagers$Layout"
def TLy : u_T := fun k => match k with
  | 0 => ("WakingPagers$Layout", "places", "[I", true)
  | _ => ("WakingPagers$Layout", "placeCount", "I", false)
def tyLy : Nat → FieldType := fun k => match k with
  | 0 => .array .int
  | _ => .int
theorem nmLy : ∀ a, a < 2 → ∀ b, b < 2 → a ≠ b → (TLy a).2.1 ≠ (TLy b).2.1 := by decide +kernel
theorem okLy : ∀ k, k < 2 → parseFieldDescriptor (TLy k).2.2.1 = some (tyLy k) := by decide +kernel
def RLs : String := "WakingPagers$Listener"
def TLs : u_T := fun k => match k with
  | 0 => ("WakingPagers$Listener", "air", "LWakingPagers$Air;", false)
  | 1 => ("WakingPagers$Listener", "pager", "LWakingPagers$Pager;", false)
  | 2 => ("WakingPagers$Listener", "storedNow", "I", false)
  | 3 => ("WakingPagers$Listener", "running", "LWakingPagers$Heard;", false)
  | 4 => ("WakingPagers$Listener", "signs", "[I", true)
  | 5 => ("WakingPagers$Listener", "signCount", "I", false)
  | 6 => ("WakingPagers$Listener", "partOfSign", "I", false)
  | _ => ("WakingPagers$Listener", "partBits", "I", false)
def tyLs : Nat → FieldType := fun k => match k with
  | 0 => .object "WakingPagers$Air"
  | 1 => .object "WakingPagers$Pager"
  | 2 => .int
  | 3 => .object "WakingPagers$Heard"
  | 4 => .array .int
  | 5 => .int
  | 6 => .int
  | _ => .int
theorem nmLs : ∀ a, a < 8 → ∀ b, b < 8 → a ≠ b → (TLs a).2.1 ≠ (TLs b).2.1 := by decide +kernel
theorem okLs : ∀ k, k < 8 → parseFieldDescriptor (TLs k).2.2.1 = some (tyLs k) := by decide +kernel
def RMs : String := "WakingPagers$Message"
def TMs : u_T := fun k => match k with
  | 0 => ("WakingPagers$Message", "to", "LWakingPagers$Identity;", true)
  | 1 => ("WakingPagers$Message", "priority", "I", true)
  | 2 => ("WakingPagers$Message", "number", "I", true)
  | 3 => ("WakingPagers$Message", "signs", "[I", true)
  | 4 => ("WakingPagers$Message", "words", "[I", true)
  | _ => ("WakingPagers$Message", "waits", "Z", false)
def tyMs : Nat → FieldType := fun k => match k with
  | 0 => .object "WakingPagers$Identity"
  | 1 => .int
  | 2 => .int
  | 3 => .array .int
  | 4 => .array .int
  | _ => .boolean
theorem nmMs : ∀ a, a < 6 → ∀ b, b < 6 → a ≠ b → (TMs a).2.1 ≠ (TMs b).2.1 := by decide +kernel
theorem okMs : ∀ k, k < 6 → parseFieldDescriptor (TMs k).2.2.1 = some (tyMs k) := by decide +kernel
def RPg : String := "WakingPagers$Pager"
def TPg : u_T := fun k => match k with
  | 0 => ("WakingPagers$Pager", "heard", "[LWakingPagers$Heard;", true)
  | 1 => ("WakingPagers$Pager", "heardCount", "I", false)
  | 2 => ("WakingPagers$Pager", "ring", "[LWakingPagers$Stored;", true)
  | 3 => ("WakingPagers$Pager", "oldest", "I", false)
  | 4 => ("WakingPagers$Pager", "storedCount", "I", false)
  | 5 => ("WakingPagers$Pager", "bitsAwake", "I", false)
  | 6 => ("WakingPagers$Pager", "bitsRepaired", "I", false)
  | 7 => ("WakingPagers$Pager", "wordsBroken", "I", false)
  | _ => ("WakingPagers$Pager", "messagesLost", "I", false)
def tyPg : Nat → FieldType := fun k => match k with
  | 0 => .array (.object "WakingPagers$Heard")
  | 1 => .int
  | 2 => .array (.object "WakingPagers$Stored")
  | 3 => .int
  | 4 => .int
  | 5 => .int
  | 6 => .int
  | 7 => .int
  | _ => .int
theorem nmPg : ∀ a, a < 9 → ∀ b, b < 9 → a ≠ b → (TPg a).2.1 ≠ (TPg b).2.1 := by decide +kernel
theorem okPg : ∀ k, k < 9 → parseFieldDescriptor (TPg k).2.2.1 = some (tyPg k) := by decide +kernel
def RSd : String := "WakingPagers$Stored"
def TSd : u_T := fun k => match k with
  | 0 => ("WakingPagers$Stored", "identity", "I", false)
  | 1 => ("WakingPagers$Stored", "number", "I", false)
  | 2 => ("WakingPagers$Stored", "marked", "Z", false)
  | 3 => ("WakingPagers$Stored", "signs", "[I", true)
  | _ => ("WakingPagers$Stored", "signCount", "I", false)
def tySd : Nat → FieldType := fun k => match k with
  | 0 => .int
  | 1 => .int
  | 2 => .boolean
  | 3 => .array .int
  | _ => .int
theorem nmSd : ∀ a, a < 5 → ∀ b, b < 5 → a ≠ b → (TSd a).2.1 ≠ (TSd b).2.1 := by decide +kernel
theorem okSd : ∀ k, k < 5 → parseFieldDescriptor (TSd k).2.2.1 = some (tySd k) := by decide +kernel
def RWP : String := "WakingPagers"
def TWP : u_T := fun k => match k with
  | 0 => ("WakingPagers", "identities", "[LWakingPagers$Identity;", true)
  | 1 => ("WakingPagers", "identityCount", "I", false)
  | 2 => ("WakingPagers", "pagers", "[LWakingPagers$Pager;", true)
  | 3 => ("WakingPagers", "pagerCount", "I", false)
  | 4 => ("WakingPagers", "messages", "[LWakingPagers$Message;", true)
  | 5 => ("WakingPagers", "messageCount", "I", false)
  | 6 => ("WakingPagers", "waitingCount", "I", false)
  | 7 => ("WakingPagers", "loaded", "[I", true)
  | 8 => ("WakingPagers", "loadedCount", "I", false)
  | 9 => ("WakingPagers", "layout", "LWakingPagers$Layout;", true)
  | 10 => ("WakingPagers", "air", "LWakingPagers$Air;", true)
  | _ => ("WakingPagers", "listener", "LWakingPagers$Listener;", true)
def tyWP : Nat → FieldType := fun k => match k with
  | 0 => .array (.object "WakingPagers$Identity")
  | 1 => .int
  | 2 => .array (.object "WakingPagers$Pager")
  | 3 => .int
  | 4 => .array (.object "WakingPagers$Message")
  | 5 => .int
  | 6 => .int
  | 7 => .array .int
  | 8 => .int
  | 9 => .object "WakingPagers$Layout"
  | 10 => .object "WakingPagers$Air"
  | _ => .object "WakingPagers$Listener"
theorem nmWP : ∀ a, a < 12 → ∀ b, b < 12 → a ≠ b → (TWP a).2.1 ≠ (TWP b).2.1 := by decide +kernel
theorem okWP : ∀ k, k < 12 → parseFieldDescriptor (TWP k).2.2.1 = some (tyWP k) := by decide +kernel
def RMo : String := "WakingPagersModel"
def TMo : u_T := fun k => match k with
  | 0 => ("WakingPagersModel", "many", "I", false)
  | 1 => ("WakingPagersModel", "address", "[I", true)
  | 2 => ("WakingPagersModel", "kind", "[I", true)
  | 3 => ("WakingPagersModel", "called", "[I", true)
  | 4 => ("WakingPagersModel", "messages", "I", false)
  | 5 => ("WakingPagersModel", "to", "[I", true)
  | 6 => ("WakingPagersModel", "priority", "[I", true)
  | 7 => ("WakingPagersModel", "numbers", "[I", true)
  | 8 => ("WakingPagersModel", "lengths", "[I", true)
  | 9 => ("WakingPagersModel", "signs", "[I", true)
  | 10 => ("WakingPagersModel", "waits", "[Z", true)
  | 11 => ("WakingPagersModel", "loaded", "[I", true)
  | 12 => ("WakingPagersModel", "loads", "I", false)
  | 13 => ("WakingPagersModel", "words", "[I", true)
  | 14 => ("WakingPagersModel", "taken", "[Z", true)
  | 15 => ("WakingPagersModel", "air", "[I", true)
  | 16 => ("WakingPagersModel", "bits", "I", false)
  | 17 => ("WakingPagersModel", "content", "I", false)
  | 18 => ("WakingPagersModel", "filled", "I", false)
  | 19 => ("WakingPagersModel", "pagers", "I", false)
  | 20 => ("WakingPagersModel", "hears", "[I", true)
  | 21 => ("WakingPagersModel", "heard", "[I", true)
  | 22 => ("WakingPagersModel", "kept", "[I", true)
  | 23 => ("WakingPagersModel", "keptOf", "[I", true)
  | 24 => ("WakingPagersModel", "keptNumber", "[I", true)
  | 25 => ("WakingPagersModel", "keptMany", "[I", true)
  | 26 => ("WakingPagersModel", "marked", "[Z", true)
  | 27 => ("WakingPagersModel", "keptSigns", "[I", true)
  | 28 => ("WakingPagersModel", "missing", "[J", true)
  | 29 => ("WakingPagersModel", "latest", "[I", true)
  | 30 => ("WakingPagersModel", "counts", "[I", true)
  | 31 => ("WakingPagersModel", "who", "I", false)
  | 32 => ("WakingPagersModel", "running", "I", false)
  | 33 => ("WakingPagersModel", "got", "[I", true)
  | 34 => ("WakingPagersModel", "gotMany", "I", false)
  | 35 => ("WakingPagersModel", "fresh", "I", false)
  | _ => ("WakingPagersModel", "end", "[I", true)
def tyMo : Nat → FieldType := fun k => match k with
  | 0 => .int
  | 1 => .array .int
  | 2 => .array .int
  | 3 => .array .int
  | 4 => .int
  | 5 => .array .int
  | 6 => .array .int
  | 7 => .array .int
  | 8 => .array .int
  | 9 => .array .int
  | 10 => .array .boolean
  | 11 => .array .int
  | 12 => .int
  | 13 => .array .int
  | 14 => .array .boolean
  | 15 => .array .int
  | 16 => .int
  | 17 => .int
  | 18 => .int
  | 19 => .int
  | 20 => .array .int
  | 21 => .array .int
  | 22 => .array .int
  | 23 => .array .int
  | 24 => .array .int
  | 25 => .array .int
  | 26 => .array .boolean
  | 27 => .array .int
  | 28 => .array .long
  | 29 => .array .int
  | 30 => .array .int
  | 31 => .int
  | 32 => .int
  | 33 => .array .int
  | 34 => .int
  | 35 => .int
  | _ => .array .int
theorem nmMo : ∀ a, a < 37 → ∀ b, b < 37 → a ≠ b → (TMo a).2.1 ≠ (TMo b).2.1 := by decide +kernel
theorem okMo : ∀ k, k < 37 → parseFieldDescriptor (TMo k).2.2.1 = some (tyMo k) := by decide +kernel
abbrev vwCl : List vw_C := [(RAi, TAi, 2), (RHd, THd, 3), (RId, TId, 11), (RLy, TLy, 2), (RLs, TLs, 8), (RMs, TMs, 6), (RPg, TPg, 9), (RSd, TSd, 5), (RWP, TWP, 12), (RMo, TMo, 37)]
theorem hc_0 : vwCl[0]? = some (RAi, TAi, 2) := rfl
theorem hc_1 : vwCl[1]? = some (RHd, THd, 3) := rfl
theorem hc_2 : vwCl[2]? = some (RId, TId, 11) := rfl
theorem hc_3 : vwCl[3]? = some (RLy, TLy, 2) := rfl
theorem hc_4 : vwCl[4]? = some (RLs, TLs, 8) := rfl
theorem hc_5 : vwCl[5]? = some (RMs, TMs, 6) := rfl
theorem hc_6 : vwCl[6]? = some (RPg, TPg, 9) := rfl
theorem hc_7 : vwCl[7]? = some (RSd, TSd, 5) := rfl
theorem hc_8 : vwCl[8]? = some (RWP, TWP, 12) := rfl
theorem hc_9 : vwCl[9]? = some (RMo, TMo, 37) := rfl
def zw_rl : List Nat := [1, 2, 5, 6, 7]
def za_L : List String := [RHd, RId, RMs, RPg, RSd]
theorem za_1 : RHd ∈ za_L := List.mem_of_getElem? (i := 0) rfl
theorem za_2 : RId ∈ za_L := List.mem_of_getElem? (i := 1) rfl
theorem za_5 : RMs ∈ za_L := List.mem_of_getElem? (i := 2) rfl
theorem za_6 : RPg ∈ za_L := List.mem_of_getElem? (i := 3) rfl
theorem za_7 : RSd ∈ za_L := List.mem_of_getElem? (i := 4) rfl
abbrev cWP_init : ByteArray := prog_1_method_1_code
def yWP_init : MethodName := ⟨RWP, "<init>", "()V"⟩
abbrev cWP_areLoadedSignsOf : ByteArray := prog_1_method_25_code
def yWP_areLoadedSignsOf : MethodName := ⟨RWP, "areLoadedSignsOf", "(LWakingPagers$Identity;)Z"⟩
abbrev cWP_bit : ByteArray := prog_1_method_12_code
def yWP_bit : MethodName := ⟨RWP, "bit", "(I)I"⟩
abbrev cWP_byteOf : ByteArray := prog_1_method_27_code
def yWP_byteOf : MethodName := ⟨RWP, "byteOf", "(JI)I"⟩
abbrev cWP_call : ByteArray := prog_1_method_9_code
def yWP_call : MethodName := ⟨RWP, "call", "(II)I"⟩
abbrev cWP_code : ByteArray := prog_1_method_2_code
def yWP_code : MethodName := ⟨RWP, "code", "(I)I"⟩
abbrev cWP_codewordOf : ByteArray := prog_1_method_28_code
def yWP_codewordOf : MethodName := ⟨RWP, "codewordOf", "(I)I"⟩
abbrev cWP_count : ByteArray := prog_1_method_19_code
def yWP_count : MethodName := ⟨RWP, "count", "(II)I"⟩
abbrev cWP_desk : ByteArray := prog_1_method_20_code
def yWP_desk : MethodName := ⟨RWP, "desk", "(III)I"⟩
abbrev cWP_flip : ByteArray := prog_1_method_13_code
def yWP_flip : MethodName := ⟨RWP, "flip", "(I)I"⟩
abbrev cWP_hear : ByteArray := prog_1_method_14_code
def yWP_hear : MethodName := ⟨RWP, "hear", "(II)I"⟩
abbrev cWP_identity : ByteArray := prog_1_method_4_code
def yWP_identity : MethodName := ⟨RWP, "identity", "(II)I"⟩
abbrev cWP_identityAt : ByteArray := prog_1_method_21_code
def yWP_identityAt : MethodName := ⟨RWP, "identityAt", "(I)LWakingPagers$Identity;"⟩
abbrev cWP_isAddressUsed : ByteArray := prog_1_method_24_code
def yWP_isAddressUsed : MethodName := ⟨RWP, "isAddressUsed", "(I)Z"⟩
abbrev cWP_isSync : ByteArray := prog_1_method_29_code
def yWP_isSync : MethodName := ⟨RWP, "isSync", "(I)Z"⟩
abbrev cWP_join : ByteArray := prog_1_method_6_code
def yWP_join : MethodName := ⟨RWP, "join", "(II)I"⟩
abbrev cWP_kept : ByteArray := prog_1_method_15_code
def yWP_kept : MethodName := ⟨RWP, "kept", "(I)I"⟩
abbrev cWP_layMessages : ByteArray := prog_1_method_26_code
def yWP_layMessages : MethodName := ⟨RWP, "layMessages", "(I)V"⟩
abbrev cWP_load : ByteArray := prog_1_method_7_code
def yWP_load : MethodName := ⟨RWP, "load", "(JI)I"⟩
abbrev cWP_message : ByteArray := prog_1_method_16_code
def yWP_message : MethodName := ⟨RWP, "message", "(III)I"⟩
abbrev cWP_missed : ByteArray := prog_1_method_18_code
def yWP_missed : MethodName := ⟨RWP, "missed", "(II)J"⟩
abbrev cWP_pager : ByteArray := prog_1_method_5_code
def yWP_pager : MethodName := ⟨RWP, "pager", "()I"⟩
abbrev cWP_pagerAt : ByteArray := prog_1_method_22_code
def yWP_pagerAt : MethodName := ⟨RWP, "pagerAt", "(I)LWakingPagers$Pager;"⟩
abbrev cWP_repair : ByteArray := prog_1_method_3_code
def yWP_repair : MethodName := ⟨RWP, "repair", "(I)I"⟩
abbrev cWP_sign : ByteArray := prog_1_method_17_code
def yWP_sign : MethodName := ⟨RWP, "sign", "(III)I"⟩
abbrev cWP_storedAt : ByteArray := prog_1_method_23_code
def yWP_storedAt : MethodName := ⟨RWP, "storedAt", "(II)LWakingPagers$Stored;"⟩
abbrev cWP_transmit : ByteArray := prog_1_method_11_code
def yWP_transmit : MethodName := ⟨RWP, "transmit", "(I)I"⟩
abbrev cWP_unload : ByteArray := prog_1_method_8_code
def yWP_unload : MethodName := ⟨RWP, "unload", "()I"⟩
abbrev cWP_waiting : ByteArray := prog_1_method_10_code
def yWP_waiting : MethodName := ⟨RWP, "waiting", "()I"⟩
abbrev cAi_init : ByteArray := prog_2_method_1_code
def yAi_init : MethodName := ⟨RAi, "<init>", "()V"⟩
abbrev cAi_bitAt : ByteArray := prog_2_method_5_code
def yAi_bitAt : MethodName := ⟨RAi, "bitAt", "(I)I"⟩
abbrev cAi_changeBit : ByteArray := prog_2_method_6_code
def yAi_changeBit : MethodName := ⟨RAi, "changeBit", "(I)V"⟩
abbrev cAi_hasBit : ByteArray := prog_2_method_3_code
def yAi_hasBit : MethodName := ⟨RAi, "hasBit", "(I)Z"⟩
abbrev cAi_hasWord : ByteArray := prog_2_method_4_code
def yAi_hasWord : MethodName := ⟨RAi, "hasWord", "(I)Z"⟩
abbrev cAi_send : ByteArray := prog_2_method_2_code
def yAi_send : MethodName := ⟨RAi, "send", "([II)V"⟩
abbrev cAi_wordAt : ByteArray := prog_2_method_7_code
def yAi_wordAt : MethodName := ⟨RAi, "wordAt", "(I)I"⟩
abbrev cHd_init : ByteArray := prog_3_method_1_code
def yHd_init : MethodName := ⟨RHd, "<init>", "(LWakingPagers$Identity;)V"⟩
abbrev cHd_noteNumber : ByteArray := prog_3_method_2_code
def yHd_noteNumber : MethodName := ⟨RHd, "noteNumber", "(I)V"⟩
abbrev cId_init : ByteArray := prog_4_method_1_code
def yId_init : MethodName := ⟨RId, "<init>", "(III)V"⟩
abbrev cId_decimal : ByteArray := prog_4_method_5_code
def yId_decimal : MethodName := ⟨RId, "decimal", "(II)I"⟩
abbrev cId_numberIn : ByteArray := prog_4_method_4_code
def yId_numberIn : MethodName := ⟨RId, "numberIn", "([II)I"⟩
abbrev cId_numberSign : ByteArray := prog_4_method_3_code
def yId_numberSign : MethodName := ⟨RId, "numberSign", "(II)I"⟩
abbrev cId_numberSigns : ByteArray := prog_4_method_2_code
def yId_numberSigns : MethodName := ⟨RId, "numberSigns", "()I"⟩
abbrev cLy_init : ByteArray := prog_5_method_1_code
def yLy_init : MethodName := ⟨RLy, "<init>", "()V"⟩
abbrev cLy_areFree : ByteArray := prog_5_method_5_code
def yLy_areFree : MethodName := ⟨RLy, "areFree", "(II)Z"⟩
abbrev cLy_clear : ByteArray := prog_5_method_2_code
def yLy_clear : MethodName := ⟨RLy, "clear", "(I)V"⟩
abbrev cLy_findPlace : ByteArray := prog_5_method_4_code
def yLy_findPlace : MethodName := ⟨RLy, "findPlace", "(LWakingPagers$Identity;I)I"⟩
abbrev cLy_lay : ByteArray := prog_5_method_3_code
def yLy_lay : MethodName := ⟨RLy, "lay", "(LWakingPagers$Message;)Z"⟩
abbrev cLs_init : ByteArray := prog_6_method_1_code
def yLs_init : MethodName := ⟨RLs, "<init>", "()V"⟩
abbrev cLs_addContent : ByteArray := prog_6_method_8_code
def yLs_addContent : MethodName := ⟨RLs, "addContent", "(I)V"⟩
abbrev cLs_addSign : ByteArray := prog_6_method_9_code
def yLs_addSign : MethodName := ⟨RLs, "addSign", "(I)V"⟩
abbrev cLs_beginMessage : ByteArray := prog_6_method_7_code
def yLs_beginMessage : MethodName := ⟨RLs, "beginMessage", "(LWakingPagers$Heard;)V"⟩
abbrev cLs_endMessage : ByteArray := prog_6_method_10_code
def yLs_endMessage : MethodName := ⟨RLs, "endMessage", "(Z)V"⟩
abbrev cLs_hunt : ByteArray := prog_6_method_3_code
def yLs_hunt : MethodName := ⟨RLs, "hunt", "(I)I"⟩
abbrev cLs_listen : ByteArray := prog_6_method_2_code
def yLs_listen : MethodName := ⟨RLs, "listen", "(LWakingPagers$Pager;LWakingPagers$Air;I)I"⟩
abbrev cLs_store : ByteArray := prog_6_method_11_code
def yLs_store : MethodName := ⟨RLs, "store", "(IZ)V"⟩
abbrev cLs_takeBatch : ByteArray := prog_6_method_4_code
def yLs_takeBatch : MethodName := ⟨RLs, "takeBatch", "(I)I"⟩
abbrev cLs_takeSync : ByteArray := prog_6_method_5_code
def yLs_takeSync : MethodName := ⟨RLs, "takeSync", "(I)I"⟩
abbrev cLs_takeWord : ByteArray := prog_6_method_6_code
def yLs_takeWord : MethodName := ⟨RLs, "takeWord", "(II)V"⟩
abbrev cMs_init : ByteArray := prog_7_method_1_code
def yMs_init : MethodName := ⟨RMs, "<init>", "(LWakingPagers$Identity;II[I)V"⟩
abbrev cMs_sentSign : ByteArray := prog_7_method_3_code
def yMs_sentSign : MethodName := ⟨RMs, "sentSign", "(ILWakingPagers$Identity;I[I)I"⟩
abbrev cMs_wordsOf : ByteArray := prog_7_method_2_code
def yMs_wordsOf : MethodName := ⟨RMs, "wordsOf", "(LWakingPagers$Identity;I[I)[I"⟩
abbrev cPg_init : ByteArray := prog_8_method_1_code
def yPg_init : MethodName := ⟨RPg, "<init>", "()V"⟩
abbrev cPg_addHeard : ByteArray := prog_8_method_2_code
def yPg_addHeard : MethodName := ⟨RPg, "addHeard", "(LWakingPagers$Identity;)Z"⟩
abbrev cPg_calledBy : ByteArray := prog_8_method_5_code
def yPg_calledBy : MethodName := ⟨RPg, "calledBy", "(II)LWakingPagers$Heard;"⟩
abbrev cPg_hasFrame : ByteArray := prog_8_method_4_code
def yPg_hasFrame : MethodName := ⟨RPg, "hasFrame", "(I)Z"⟩
abbrev cPg_heardOf : ByteArray := prog_8_method_3_code
def yPg_heardOf : MethodName := ⟨RPg, "heardOf", "(I)LWakingPagers$Heard;"⟩
abbrev cPg_nextStored : ByteArray := prog_8_method_7_code
def yPg_nextStored : MethodName := ⟨RPg, "nextStored", "()LWakingPagers$Stored;"⟩
abbrev cPg_storedAt : ByteArray := prog_8_method_6_code
def yPg_storedAt : MethodName := ⟨RPg, "storedAt", "(I)LWakingPagers$Stored;"⟩
abbrev cRp_oneWrongBit : ByteArray := prog_9_method_5_code
def yRp_oneWrongBit : MethodName := ⟨"WakingPagers$Repairer", "oneWrongBit", "(I)I"⟩
abbrev cRp_remainder : ByteArray := prog_9_method_2_code
def yRp_remainder : MethodName := ⟨"WakingPagers$Repairer", "remainder", "(I)I"⟩
abbrev cRp_traceOf : ByteArray := prog_9_method_3_code
def yRp_traceOf : MethodName := ⟨"WakingPagers$Repairer", "traceOf", "(I)I"⟩
abbrev cRp_twoWrongBits : ByteArray := prog_9_method_6_code
def yRp_twoWrongBits : MethodName := ⟨"WakingPagers$Repairer", "twoWrongBits", "(I)I"⟩
abbrev cRp_wrongBits : ByteArray := prog_9_method_4_code
def yRp_wrongBits : MethodName := ⟨"WakingPagers$Repairer", "wrongBits", "(I)I"⟩
abbrev cSd_init : ByteArray := prog_10_method_1_code
def ySd_init : MethodName := ⟨RSd, "<init>", "()V"⟩
abbrev cMo_init : ByteArray := prog_12_method_1_code
def yMo_init : MethodName := ⟨RMo, "<init>", "()V"⟩
abbrev cMo_add : ByteArray := prog_12_method_36_code
def yMo_add : MethodName := ⟨RMo, "add", "(I)V"⟩
abbrev cMo_addressData : ByteArray := prog_12_method_17_code
def yMo_addressData : MethodName := ⟨RMo, "addressData", "(I)I"⟩
abbrev cMo_batches : ByteArray := prog_12_method_39_code
def yMo_batches : MethodName := ⟨RMo, "batches", "(I)I"⟩
abbrev cMo_bit : ByteArray := prog_12_method_26_code
def yMo_bit : MethodName := ⟨RMo, "bit", "(I)I"⟩
abbrev cMo_call : ByteArray := prog_12_method_16_code
def yMo_call : MethodName := ⟨RMo, "call", "(II)I"⟩
abbrev cMo_code : ByteArray := prog_12_method_3_code
def yMo_code : MethodName := ⟨RMo, "code", "(I)I"⟩
abbrev cMo_codeword : ByteArray := prog_12_method_2_code
def yMo_codeword : MethodName := ⟨RMo, "codeword", "(I)I"⟩
abbrev cMo_count : ByteArray := prog_12_method_46_code
def yMo_count : MethodName := ⟨RMo, "count", "(II)I"⟩
abbrev cMo_desk : ByteArray := prog_12_method_47_code
def yMo_desk : MethodName := ⟨RMo, "desk", "(III)I"⟩
abbrev cMo_finish : ByteArray := prog_12_method_34_code
def yMo_finish : MethodName := ⟨RMo, "finish", "(Z)V"⟩
abbrev cMo_fits : ByteArray := prog_12_method_22_code
def yMo_fits : MethodName := ⟨RMo, "fits", "(III)Z"⟩
abbrev cMo_flip : ByteArray := prog_12_method_27_code
def yMo_flip : MethodName := ⟨RMo, "flip", "(I)I"⟩
abbrev cMo_gotSign : ByteArray := prog_12_method_30_code
def yMo_gotSign : MethodName := ⟨RMo, "gotSign", "(I)I"⟩
abbrev cMo_hear : ByteArray := prog_12_method_40_code
def yMo_hear : MethodName := ⟨RMo, "hear", "(II)I"⟩
abbrev cMo_identity : ByteArray := prog_12_method_7_code
def yMo_identity : MethodName := ⟨RMo, "identity", "(II)I"⟩
abbrev cMo_identityOf : ByteArray := prog_12_method_35_code
def yMo_identityOf : MethodName := ⟨RMo, "identityOf", "(II)I"⟩
abbrev cMo_isAwake : ByteArray := prog_12_method_38_code
def yMo_isAwake : MethodName := ⟨RMo, "isAwake", "(I)Z"⟩
abbrev cMo_isCodeword : ByteArray := prog_12_method_4_code
def yMo_isCodeword : MethodName := ⟨RMo, "isCodeword", "(I)Z"⟩
abbrev cMo_isIdentity : ByteArray := prog_12_method_10_code
def yMo_isIdentity : MethodName := ⟨RMo, "isIdentity", "(I)Z"⟩
abbrev cMo_isKept : ByteArray := prog_12_method_42_code
def yMo_isKept : MethodName := ⟨RMo, "isKept", "(II)Z"⟩
abbrev cMo_isPager : ByteArray := prog_12_method_9_code
def yMo_isPager : MethodName := ⟨RMo, "isPager", "(I)Z"⟩
abbrev cMo_isSync : ByteArray := prog_12_method_29_code
def yMo_isSync : MethodName := ⟨RMo, "isSync", "(I)Z"⟩
abbrev cMo_join : ByteArray := prog_12_method_12_code
def yMo_join : MethodName := ⟨RMo, "join", "(II)I"⟩
abbrev cMo_kept : ByteArray := prog_12_method_41_code
def yMo_kept : MethodName := ⟨RMo, "kept", "(I)I"⟩
abbrev cMo_lay : ByteArray := prog_12_method_23_code
def yMo_lay : MethodName := ⟨RMo, "lay", "(III)I"⟩
abbrev cMo_layAt : ByteArray := prog_12_method_21_code
def yMo_layAt : MethodName := ⟨RMo, "layAt", "(II)V"⟩
abbrev cMo_listensTo : ByteArray := prog_12_method_11_code
def yMo_listensTo : MethodName := ⟨RMo, "listensTo", "(II)Z"⟩
abbrev cMo_load : ByteArray := prog_12_method_13_code
def yMo_load : MethodName := ⟨RMo, "load", "(JI)I"⟩
abbrev cMo_look : ByteArray := prog_12_method_37_code
def yMo_look : MethodName := ⟨RMo, "look", "(II)V"⟩
abbrev cMo_message : ByteArray := prog_12_method_43_code
def yMo_message : MethodName := ⟨RMo, "message", "(III)I"⟩
abbrev cMo_missed : ByteArray := prog_12_method_45_code
def yMo_missed : MethodName := ⟨RMo, "missed", "(II)J"⟩
abbrev cMo_note : ByteArray := prog_12_method_33_code
def yMo_note : MethodName := ⟨RMo, "note", "(I)V"⟩
abbrev cMo_numberOf : ByteArray := prog_12_method_31_code
def yMo_numberOf : MethodName := ⟨RMo, "numberOf", "(I)I"⟩
abbrev cMo_onesOf : ByteArray := prog_12_method_5_code
def yMo_onesOf : MethodName := ⟨RMo, "onesOf", "(I)I"⟩
abbrev cMo_outBit : ByteArray := prog_12_method_20_code
def yMo_outBit : MethodName := ⟨RMo, "outBit", "(II)I"⟩
abbrev cMo_outgoing : ByteArray := prog_12_method_19_code
def yMo_outgoing : MethodName := ⟨RMo, "outgoing", "(II)I"⟩
abbrev cMo_pager : ByteArray := prog_12_method_8_code
def yMo_pager : MethodName := ⟨RMo, "pager", "()I"⟩
abbrev cMo_repair : ByteArray := prog_12_method_6_code
def yMo_repair : MethodName := ⟨RMo, "repair", "(I)I"⟩
abbrev cMo_room : ByteArray := prog_12_method_32_code
def yMo_room : MethodName := ⟨RMo, "room", "()I"⟩
abbrev cMo_send : ByteArray := prog_12_method_24_code
def yMo_send : MethodName := ⟨RMo, "send", "(I)V"⟩
abbrev cMo_sign : ByteArray := prog_12_method_44_code
def yMo_sign : MethodName := ⟨RMo, "sign", "(III)I"⟩
abbrev cMo_transmit : ByteArray := prog_12_method_25_code
def yMo_transmit : MethodName := ⟨RMo, "transmit", "(I)I"⟩
abbrev cMo_unload : ByteArray := prog_12_method_14_code
def yMo_unload : MethodName := ⟨RMo, "unload", "()I"⟩
abbrev cMo_waiting : ByteArray := prog_12_method_15_code
def yMo_waiting : MethodName := ⟨RMo, "waiting", "()I"⟩
abbrev cMo_wordAt : ByteArray := prog_12_method_28_code
def yMo_wordAt : MethodName := ⟨RMo, "wordAt", "(I)I"⟩
abbrev cMo_wordsOf : ByteArray := prog_12_method_18_code
def yMo_wordsOf : MethodName := ⟨RMo, "wordsOf", "(I)I"⟩
abbrev cIn_bitCount : ByteArray := prog_14_method_49_code
def yIn_bitCount : MethodName := ⟨"java/lang/Integer", "bitCount", "(I)I"⟩
abbrev cMa_floorMod : ByteArray := prog_15_method_50_code
def yMa_floorMod : MethodName := ⟨"java/lang/Math", "floorMod", "(II)I"⟩
abbrev cMa_min : ByteArray := prog_15_method_69_code
def yMa_min : MethodName := ⟨"java/lang/Math", "min", "(II)I"⟩
abbrev cAr_copyOf : ByteArray := prog_17_method_123_code
def yAr_copyOf : MethodName := ⟨"java/util/Arrays", "copyOf", "([II)[I"⟩
abbrev cAr_fill : ByteArray := prog_17_method_103_code
def yAr_fill : MethodName := ⟨"java/util/Arrays", "fill", "([II)V"⟩
def zn_L : List (String × Nat × MethodName × String) := [(RWP, 49, yLy_init, RWP), (RWP, 56, yAi_init, RWP), (RWP, 63, yLs_init, RWP), (RId, 31, yWP_codewordOf, RWP), (RPg, 43, ySd_init, RWP), (RMs, 54, yWP_codewordOf, RWP), (RLs, 71, yWP_isSync, RWP)]
theorem zn_0 : (RWP, 49, yLy_init, RWP) ∈ zn_L := List.mem_of_getElem? (i := 0) rfl
theorem zn_1 : (RWP, 56, yAi_init, RWP) ∈ zn_L := List.mem_of_getElem? (i := 1) rfl
theorem zn_2 : (RWP, 63, yLs_init, RWP) ∈ zn_L := List.mem_of_getElem? (i := 2) rfl
theorem zn_3 : (RId, 31, yWP_codewordOf, RWP) ∈ zn_L := List.mem_of_getElem? (i := 3) rfl
theorem zn_4 : (RPg, 43, ySd_init, RWP) ∈ zn_L := List.mem_of_getElem? (i := 4) rfl
theorem zn_5 : (RMs, 54, yWP_codewordOf, RWP) ∈ zn_L := List.mem_of_getElem? (i := 5) rfl
theorem zn_6 : (RLs, 71, yWP_isSync, RWP) ∈ zn_L := List.mem_of_getElem? (i := 6) rfl
def zT : List Cond := lw_tbl.filter goodWord
theorem zt_mem {w : Cond} (i : Nat) (h : tables_1[i]? = some w) (hg : goodWord w = true) : w ∈ zT := List.mem_filter.mpr ⟨List.mem_append_right _ (List.mem_of_getElem? h), hg⟩
theorem zt_m1 {w : Cond} (i : Nat) (h : tables_1_1[i]? = some w) (hg : goodWord w = true) : w ∈ zT := List.mem_filter.mpr ⟨List.mem_append_right _ (List.mem_append_left _ (List.mem_of_getElem? h)), hg⟩
theorem zt_m2 {w : Cond} (i : Nat) (h : tables_1_2[i]? = some w) (hg : goodWord w = true) : w ∈ zT := List.mem_filter.mpr ⟨List.mem_append_right _ (List.mem_append_right _ (List.mem_append_left _ (List.mem_of_getElem? h))), hg⟩
theorem zt_m3 {w : Cond} (i : Nat) (h : tables_1_3[i]? = some w) (hg : goodWord w = true) : w ∈ zT := List.mem_filter.mpr ⟨List.mem_append_right _ (List.mem_append_right _ (List.mem_append_right _ (List.mem_append_left _ (List.mem_of_getElem? h)))), hg⟩
theorem zt_m4 {w : Cond} (i : Nat) (h : tables_1_4[i]? = some w) (hg : goodWord w = true) : w ∈ zT := List.mem_filter.mpr ⟨List.mem_append_right _ (List.mem_append_right _ (List.mem_append_right _ (List.mem_append_right _ (List.mem_of_getElem? h)))), hg⟩
theorem zt_sel {w : Cond} (i : Nat) (h : (k2_sels lw_privs)[i]? = some w) (hg : goodWord w = true) : w ∈ zT := List.mem_filter.mpr ⟨List.mem_append_left _ (List.mem_of_getElem? h), hg⟩
theorem zt_G {c : Cond} (h : c ∈ zT) : GoodIn zT (c :: zT) := by
  intro w hw
  have hz : w ∈ zT := by
    rcases List.mem_cons.mp hw with rfl | h1
    · exact h
    · exact h1
  exact ⟨hz, good_of_word (List.mem_filter.mp hz).2⟩
theorem zt_app {a b : List Cond} (ha : ∀ w ∈ a, w ∈ zT) (hb : GoodIn zT b) : GoodIn zT (a ++ b) := by
  intro w hw
  rcases List.mem_append.mp hw with h | h
  · exact ⟨ha w h, good_of_word (List.mem_filter.mp (ha w h)).2⟩
  · exact hb w h
theorem zt_S {own : String} {idx maxL : Nat} {y : MethodName} {b : ByteArray} {ret : Option FieldType} (h1 : Cond.methodLink own idx y ∈ zT) (h2 : Cond.static y ∈ zT) (h3 : Cond.initialized y.cls ∈ zT) (h4 : Cond.code y b maxL ret ∈ zT) : GoodIn zT (va_wsS own idx y (Cond.code y b maxL ret :: zT)) :=
  zt_app (List.forall_mem_cons.mpr ⟨h1, List.forall_mem_cons.mpr ⟨h2, List.forall_mem_cons.mpr ⟨h3, fun _ h => absurd h List.not_mem_nil⟩⟩⟩) (zt_G h4)
theorem zt_V {own C : String} {idx maxL : Nat} {y : MethodName} {b : ByteArray} {ret : Option FieldType} (h1 : Cond.methodLink own idx y ∈ zT) (h2 : Cond.instanceMethod y ∈ zT) (h5 : Cond.selects C y y ∈ zT) (h3 : Cond.initialized C ∈ zT) (h4 : Cond.code y b maxL ret ∈ zT) : GoodIn zT (wsV own idx C y (Cond.code y b maxL ret :: zT)) :=
  zt_app (List.forall_mem_cons.mpr ⟨h1, List.forall_mem_cons.mpr ⟨h2, List.forall_mem_cons.mpr ⟨h5, List.forall_mem_cons.mpr ⟨h3, fun _ h => absurd h List.not_mem_nil⟩⟩⟩⟩) (zt_G h4)
end
section
theorem dWP_init_0 : decode cWP_init 0 = .ok (.aload_n 0, 1) := by decide +kernel
theorem dWP_init_1 : decode cWP_init 1 = .ok (.invokespecial 3, 3) := by decide +kernel
theorem dWP_init_4 : decode cWP_init 4 = .ok (.aload_n 0, 1) := by decide +kernel
theorem dWP_init_5 : decode cWP_init 5 = .ok (.bipush 12, 2) := by decide +kernel
theorem dWP_init_7 : decode cWP_init 7 = .ok (.anewarray 9, 3) := by decide +kernel
theorem dWP_init_10 : decode cWP_init 10 = .ok (.putfield 11, 3) := by decide +kernel
theorem dWP_init_13 : decode cWP_init 13 = .ok (.aload_n 0, 1) := by decide +kernel
theorem dWP_init_14 : decode cWP_init 14 = .ok (.iconst 0, 1) := by decide +kernel
theorem dWP_init_15 : decode cWP_init 15 = .ok (.putfield 15, 3) := by decide +kernel
theorem dWP_init_18 : decode cWP_init 18 = .ok (.aload_n 0, 1) := by decide +kernel
theorem dWP_init_19 : decode cWP_init 19 = .ok (.bipush 6, 2) := by decide +kernel
theorem dWP_init_21 : decode cWP_init 21 = .ok (.anewarray 19, 3) := by decide +kernel
theorem dWP_init_24 : decode cWP_init 24 = .ok (.putfield 21, 3) := by decide +kernel
theorem dWP_init_27 : decode cWP_init 27 = .ok (.aload_n 0, 1) := by decide +kernel
theorem dWP_init_28 : decode cWP_init 28 = .ok (.iconst 0, 1) := by decide +kernel
theorem dWP_init_29 : decode cWP_init 29 = .ok (.putfield 25, 3) := by decide +kernel
theorem dWP_init_32 : decode cWP_init 32 = .ok (.aload_n 0, 1) := by decide +kernel
theorem dWP_init_33 : decode cWP_init 33 = .ok (.sipush 200, 3) := by decide +kernel
theorem dWP_init_36 : decode cWP_init 36 = .ok (.anewarray 28, 3) := by decide +kernel
theorem dWP_init_39 : decode cWP_init 39 = .ok (.putfield 30, 3) := by decide +kernel
theorem dWP_init_42 : decode cWP_init 42 = .ok (.aload_n 0, 1) := by decide +kernel
theorem dWP_init_43 : decode cWP_init 43 = .ok (.iconst 0, 1) := by decide +kernel
theorem dWP_init_44 : decode cWP_init 44 = .ok (.putfield 34, 3) := by decide +kernel
theorem dWP_init_47 : decode cWP_init 47 = .ok (.aload_n 0, 1) := by decide +kernel
theorem dWP_init_48 : decode cWP_init 48 = .ok (.iconst 0, 1) := by decide +kernel
theorem dWP_init_49 : decode cWP_init 49 = .ok (.putfield 37, 3) := by decide +kernel
theorem dWP_init_52 : decode cWP_init 52 = .ok (.aload_n 0, 1) := by decide +kernel
theorem dWP_init_53 : decode cWP_init 53 = .ok (.bipush 20, 2) := by decide +kernel
theorem dWP_init_55 : decode cWP_init 55 = .ok (.newarray .int, 2) := by decide +kernel
theorem dWP_init_57 : decode cWP_init 57 = .ok (.putfield 40, 3) := by decide +kernel
theorem dWP_init_60 : decode cWP_init 60 = .ok (.aload_n 0, 1) := by decide +kernel
theorem dWP_init_61 : decode cWP_init 61 = .ok (.iconst 0, 1) := by decide +kernel
theorem dWP_init_62 : decode cWP_init 62 = .ok (.putfield 44, 3) := by decide +kernel
theorem dWP_init_65 : decode cWP_init 65 = .ok (.aload_n 0, 1) := by decide +kernel
theorem dWP_init_66 : decode cWP_init 66 = .ok (.new 47, 3) := by decide +kernel
theorem dWP_init_69 : decode cWP_init 69 = .ok (.dup, 1) := by decide +kernel
theorem dWP_init_70 : decode cWP_init 70 = .ok (.invokespecial 49, 3) := by decide +kernel
theorem dWP_init_73 : decode cWP_init 73 = .ok (.putfield 50, 3) := by decide +kernel
theorem dWP_init_76 : decode cWP_init 76 = .ok (.aload_n 0, 1) := by decide +kernel
theorem dWP_init_77 : decode cWP_init 77 = .ok (.new 54, 3) := by decide +kernel
theorem dWP_init_80 : decode cWP_init 80 = .ok (.dup, 1) := by decide +kernel
theorem dWP_init_81 : decode cWP_init 81 = .ok (.invokespecial 56, 3) := by decide +kernel
theorem dWP_init_84 : decode cWP_init 84 = .ok (.putfield 57, 3) := by decide +kernel
theorem dWP_init_87 : decode cWP_init 87 = .ok (.aload_n 0, 1) := by decide +kernel
theorem dWP_init_88 : decode cWP_init 88 = .ok (.new 61, 3) := by decide +kernel
theorem dWP_init_91 : decode cWP_init 91 = .ok (.dup, 1) := by decide +kernel
theorem dWP_init_92 : decode cWP_init 92 = .ok (.invokespecial 63, 3) := by decide +kernel
theorem dWP_init_95 : decode cWP_init 95 = .ok (.putfield 64, 3) := by decide +kernel
theorem dWP_init_98 : decode cWP_init 98 = .ok (.return_, 1) := by decide +kernel
theorem dWP_areLoadedSignsOf_0 : decode cWP_areLoadedSignsOf 0 = .ok (.iconst 0, 1) := by decide +kernel
theorem dWP_areLoadedSignsOf_1 : decode cWP_areLoadedSignsOf 1 = .ok (.istore_n 2, 1) := by decide +kernel
theorem dWP_areLoadedSignsOf_2 : decode cWP_areLoadedSignsOf 2 = .ok (.iload_n 2, 1) := by decide +kernel
theorem dWP_areLoadedSignsOf_3 : decode cWP_areLoadedSignsOf 3 = .ok (.aload_n 0, 1) := by decide +kernel
theorem dWP_areLoadedSignsOf_4 : decode cWP_areLoadedSignsOf 4 = .ok (.getfield 44, 3) := by decide +kernel
theorem dWP_areLoadedSignsOf_7 : decode cWP_areLoadedSignsOf 7 = .ok (.if_icmp .ge 37, 3) := by decide +kernel
theorem dWP_areLoadedSignsOf_10 : decode cWP_areLoadedSignsOf 10 = .ok (.aload_n 0, 1) := by decide +kernel
theorem dWP_areLoadedSignsOf_11 : decode cWP_areLoadedSignsOf 11 = .ok (.getfield 40, 3) := by decide +kernel
theorem dWP_areLoadedSignsOf_14 : decode cWP_areLoadedSignsOf 14 = .ok (.iload_n 2, 1) := by decide +kernel
theorem dWP_areLoadedSignsOf_15 : decode cWP_areLoadedSignsOf 15 = .ok (.iaload, 1) := by decide +kernel
theorem dWP_areLoadedSignsOf_16 : decode cWP_areLoadedSignsOf 16 = .ok (.aload_n 1, 1) := by decide +kernel
theorem dWP_areLoadedSignsOf_17 : decode cWP_areLoadedSignsOf 17 = .ok (.getfield 207, 3) := by decide +kernel
theorem dWP_areLoadedSignsOf_20 : decode cWP_areLoadedSignsOf 20 = .ok (.if_icmp .lt 16, 3) := by decide +kernel
theorem dWP_areLoadedSignsOf_23 : decode cWP_areLoadedSignsOf 23 = .ok (.aload_n 0, 1) := by decide +kernel
theorem dWP_areLoadedSignsOf_24 : decode cWP_areLoadedSignsOf 24 = .ok (.getfield 40, 3) := by decide +kernel
theorem dWP_areLoadedSignsOf_27 : decode cWP_areLoadedSignsOf 27 = .ok (.iload_n 2, 1) := by decide +kernel
theorem dWP_areLoadedSignsOf_28 : decode cWP_areLoadedSignsOf 28 = .ok (.iaload, 1) := by decide +kernel
theorem dWP_areLoadedSignsOf_29 : decode cWP_areLoadedSignsOf 29 = .ok (.aload_n 1, 1) := by decide +kernel
theorem dWP_areLoadedSignsOf_30 : decode cWP_areLoadedSignsOf 30 = .ok (.getfield 210, 3) := by decide +kernel
theorem dWP_areLoadedSignsOf_33 : decode cWP_areLoadedSignsOf 33 = .ok (.if_icmp .le 5, 3) := by decide +kernel
theorem dWP_areLoadedSignsOf_36 : decode cWP_areLoadedSignsOf 36 = .ok (.iconst 0, 1) := by decide +kernel
theorem dWP_areLoadedSignsOf_37 : decode cWP_areLoadedSignsOf 37 = .ok (.ireturn, 1) := by decide +kernel
theorem dWP_areLoadedSignsOf_38 : decode cWP_areLoadedSignsOf 38 = .ok (.iinc 2 1, 3) := by decide +kernel
theorem dWP_areLoadedSignsOf_41 : decode cWP_areLoadedSignsOf 41 = .ok (.goto (-39), 3) := by decide +kernel
theorem dWP_areLoadedSignsOf_44 : decode cWP_areLoadedSignsOf 44 = .ok (.aload_n 0, 1) := by decide +kernel
theorem dWP_areLoadedSignsOf_45 : decode cWP_areLoadedSignsOf 45 = .ok (.getfield 44, 3) := by decide +kernel
theorem dWP_areLoadedSignsOf_48 : decode cWP_areLoadedSignsOf 48 = .ok (.ifCond .le 7, 3) := by decide +kernel
theorem dWP_areLoadedSignsOf_51 : decode cWP_areLoadedSignsOf 51 = .ok (.iconst 1, 1) := by decide +kernel
theorem dWP_areLoadedSignsOf_52 : decode cWP_areLoadedSignsOf 52 = .ok (.goto 4, 3) := by decide +kernel
theorem dWP_areLoadedSignsOf_55 : decode cWP_areLoadedSignsOf 55 = .ok (.iconst 0, 1) := by decide +kernel
theorem dWP_areLoadedSignsOf_56 : decode cWP_areLoadedSignsOf 56 = .ok (.ireturn, 1) := by decide +kernel
theorem dWP_bit_0 : decode cWP_bit 0 = .ok (.aload_n 0, 1) := by decide +kernel
theorem dWP_bit_1 : decode cWP_bit 1 = .ok (.getfield 57, 3) := by decide +kernel
theorem dWP_bit_4 : decode cWP_bit 4 = .ok (.iload_n 1, 1) := by decide +kernel
theorem dWP_bit_5 : decode cWP_bit 5 = .ok (.invokevirtual 135, 3) := by decide +kernel
theorem dWP_bit_8 : decode cWP_bit 8 = .ok (.ifCond .eq 14, 3) := by decide +kernel
theorem dWP_bit_11 : decode cWP_bit 11 = .ok (.aload_n 0, 1) := by decide +kernel
theorem dWP_bit_12 : decode cWP_bit 12 = .ok (.getfield 57, 3) := by decide +kernel
theorem dWP_bit_15 : decode cWP_bit 15 = .ok (.iload_n 1, 1) := by decide +kernel
theorem dWP_bit_16 : decode cWP_bit 16 = .ok (.invokevirtual 138, 3) := by decide +kernel
theorem dWP_bit_19 : decode cWP_bit 19 = .ok (.goto 4, 3) := by decide +kernel
theorem dWP_bit_22 : decode cWP_bit 22 = .ok (.iconst (-1), 1) := by decide +kernel
theorem dWP_bit_23 : decode cWP_bit 23 = .ok (.ireturn, 1) := by decide +kernel
theorem dWP_byteOf_0 : decode cWP_byteOf 0 = .ok (.lload_n 0, 1) := by decide +kernel
theorem dWP_byteOf_1 : decode cWP_byteOf 1 = .ok (.bipush 8, 2) := by decide +kernel
theorem dWP_byteOf_3 : decode cWP_byteOf 3 = .ok (.iload_n 2, 1) := by decide +kernel
theorem dWP_byteOf_4 : decode cWP_byteOf 4 = .ok (.imul, 1) := by decide +kernel
theorem dWP_byteOf_5 : decode cWP_byteOf 5 = .ok (.lushr, 1) := by decide +kernel
theorem dWP_byteOf_6 : decode cWP_byteOf 6 = .ok (.l2i, 1) := by decide +kernel
theorem dWP_byteOf_7 : decode cWP_byteOf 7 = .ok (.sipush 255, 3) := by decide +kernel
theorem dWP_byteOf_10 : decode cWP_byteOf 10 = .ok (.iand, 1) := by decide +kernel
theorem dWP_byteOf_11 : decode cWP_byteOf 11 = .ok (.ireturn, 1) := by decide +kernel
theorem dWP_call_0 : decode cWP_call 0 = .ok (.aload_n 0, 1) := by decide +kernel
theorem dWP_call_1 : decode cWP_call 1 = .ok (.iload_n 1, 1) := by decide +kernel
theorem dWP_call_2 : decode cWP_call 2 = .ok (.invokevirtual 91, 3) := by decide +kernel
theorem dWP_call_5 : decode cWP_call 5 = .ok (.astore_n 3, 1) := by decide +kernel
theorem dWP_call_6 : decode cWP_call 6 = .ok (.aload_n 3, 1) := by decide +kernel
theorem dWP_call_7 : decode cWP_call 7 = .ok (.ifnull 20, 3) := by decide +kernel
theorem dWP_call_10 : decode cWP_call 10 = .ok (.iload_n 2, 1) := by decide +kernel
theorem dWP_call_11 : decode cWP_call 11 = .ok (.ifCond .lt 16, 3) := by decide +kernel
theorem dWP_call_14 : decode cWP_call 14 = .ok (.iload_n 2, 1) := by decide +kernel
theorem dWP_call_15 : decode cWP_call 15 = .ok (.iconst 3, 1) := by decide +kernel
theorem dWP_call_16 : decode cWP_call 16 = .ok (.if_icmp .gt 11, 3) := by decide +kernel
theorem dWP_call_19 : decode cWP_call 19 = .ok (.aload_n 0, 1) := by decide +kernel
theorem dWP_call_20 : decode cWP_call 20 = .ok (.aload_n 3, 1) := by decide +kernel
theorem dWP_call_21 : decode cWP_call 21 = .ok (.invokevirtual 106, 3) := by decide +kernel
theorem dWP_call_24 : decode cWP_call 24 = .ok (.ifCond .ne 5, 3) := by decide +kernel
theorem dWP_call_27 : decode cWP_call 27 = .ok (.iconst (-1), 1) := by decide +kernel
theorem dWP_call_28 : decode cWP_call 28 = .ok (.ireturn, 1) := by decide +kernel
theorem dWP_call_29 : decode cWP_call 29 = .ok (.aload_n 0, 1) := by decide +kernel
theorem dWP_call_30 : decode cWP_call 30 = .ok (.getfield 37, 3) := by decide +kernel
theorem dWP_call_33 : decode cWP_call 33 = .ok (.bipush 60, 2) := by decide +kernel
theorem dWP_call_35 : decode cWP_call 35 = .ok (.if_icmp .ge 13, 3) := by decide +kernel
theorem dWP_call_38 : decode cWP_call 38 = .ok (.aload_n 0, 1) := by decide +kernel
theorem dWP_call_39 : decode cWP_call 39 = .ok (.getfield 34, 3) := by decide +kernel
theorem dWP_call_42 : decode cWP_call 42 = .ok (.sipush 200, 3) := by decide +kernel
theorem dWP_call_45 : decode cWP_call 45 = .ok (.if_icmp .lt 5, 3) := by decide +kernel
theorem dWP_call_48 : decode cWP_call 48 = .ok (.iconst (-1), 1) := by decide +kernel
theorem dWP_call_49 : decode cWP_call 49 = .ok (.ireturn, 1) := by decide +kernel
theorem dWP_call_50 : decode cWP_call 50 = .ok (.aload_n 3, 1) := by decide +kernel
theorem dWP_call_51 : decode cWP_call 51 = .ok (.getfield 109, 3) := by decide +kernel
theorem dWP_call_54 : decode cWP_call 54 = .ok (.bipush 64, 2) := by decide +kernel
theorem dWP_call_56 : decode cWP_call 56 = .ok (.irem, 1) := by decide +kernel
theorem dWP_call_57 : decode cWP_call 57 = .ok (.istore 4, 2) := by decide +kernel
theorem dWP_call_59 : decode cWP_call 59 = .ok (.aload_n 0, 1) := by decide +kernel
theorem dWP_call_60 : decode cWP_call 60 = .ok (.getfield 30, 3) := by decide +kernel
theorem dWP_call_63 : decode cWP_call 63 = .ok (.aload_n 0, 1) := by decide +kernel
theorem dWP_call_64 : decode cWP_call 64 = .ok (.getfield 34, 3) := by decide +kernel
theorem dWP_call_67 : decode cWP_call 67 = .ok (.new 28, 3) := by decide +kernel
theorem dWP_call_70 : decode cWP_call 70 = .ok (.dup, 1) := by decide +kernel
theorem dWP_call_71 : decode cWP_call 71 = .ok (.aload_n 3, 1) := by decide +kernel
theorem dWP_call_72 : decode cWP_call 72 = .ok (.iload_n 2, 1) := by decide +kernel
theorem dWP_call_73 : decode cWP_call 73 = .ok (.iload 4, 2) := by decide +kernel
theorem dWP_call_75 : decode cWP_call 75 = .ok (.aload_n 0, 1) := by decide +kernel
theorem dWP_call_76 : decode cWP_call 76 = .ok (.getfield 40, 3) := by decide +kernel
theorem dWP_call_79 : decode cWP_call 79 = .ok (.aload_n 0, 1) := by decide +kernel
theorem dWP_call_80 : decode cWP_call 80 = .ok (.getfield 44, 3) := by decide +kernel
theorem dWP_call_83 : decode cWP_call 83 = .ok (.invokestatic 112, 3) := by decide +kernel
theorem dWP_call_86 : decode cWP_call 86 = .ok (.invokespecial 118, 3) := by decide +kernel
theorem dWP_call_89 : decode cWP_call 89 = .ok (.aastore, 1) := by decide +kernel
theorem dWP_call_90 : decode cWP_call 90 = .ok (.aload_n 0, 1) := by decide +kernel
theorem dWP_call_91 : decode cWP_call 91 = .ok (.dup, 1) := by decide +kernel
theorem dWP_call_92 : decode cWP_call 92 = .ok (.getfield 34, 3) := by decide +kernel
theorem dWP_call_95 : decode cWP_call 95 = .ok (.iconst 1, 1) := by decide +kernel
theorem dWP_call_96 : decode cWP_call 96 = .ok (.iadd, 1) := by decide +kernel
theorem dWP_call_97 : decode cWP_call 97 = .ok (.putfield 34, 3) := by decide +kernel
theorem dWP_call_100 : decode cWP_call 100 = .ok (.aload_n 0, 1) := by decide +kernel
theorem dWP_call_101 : decode cWP_call 101 = .ok (.dup, 1) := by decide +kernel
theorem dWP_call_102 : decode cWP_call 102 = .ok (.getfield 37, 3) := by decide +kernel
theorem dWP_call_105 : decode cWP_call 105 = .ok (.iconst 1, 1) := by decide +kernel
theorem dWP_call_106 : decode cWP_call 106 = .ok (.iadd, 1) := by decide +kernel
theorem dWP_call_107 : decode cWP_call 107 = .ok (.putfield 37, 3) := by decide +kernel
theorem dWP_call_110 : decode cWP_call 110 = .ok (.aload_n 3, 1) := by decide +kernel
theorem dWP_call_111 : decode cWP_call 111 = .ok (.dup, 1) := by decide +kernel
theorem dWP_call_112 : decode cWP_call 112 = .ok (.getfield 109, 3) := by decide +kernel
theorem dWP_call_115 : decode cWP_call 115 = .ok (.iconst 1, 1) := by decide +kernel
theorem dWP_call_116 : decode cWP_call 116 = .ok (.iadd, 1) := by decide +kernel
theorem dWP_call_117 : decode cWP_call 117 = .ok (.putfield 109, 3) := by decide +kernel
theorem dWP_call_120 : decode cWP_call 120 = .ok (.aload_n 0, 1) := by decide +kernel
theorem dWP_call_121 : decode cWP_call 121 = .ok (.iconst 0, 1) := by decide +kernel
theorem dWP_call_122 : decode cWP_call 122 = .ok (.putfield 44, 3) := by decide +kernel
theorem dWP_call_125 : decode cWP_call 125 = .ok (.iload 4, 2) := by decide +kernel
theorem dWP_call_127 : decode cWP_call 127 = .ok (.ireturn, 1) := by decide +kernel
theorem dWP_code_0 : decode cWP_code 0 = .ok (.iload_n 1, 1) := by decide +kernel
theorem dWP_code_1 : decode cWP_code 1 = .ok (.ifCond .lt 16, 3) := by decide +kernel
theorem dWP_code_4 : decode cWP_code 4 = .ok (.iload_n 1, 1) := by decide +kernel
theorem dWP_code_5 : decode cWP_code 5 = .ok (.ldc 68, 2) := by decide +kernel
theorem dWP_code_7 : decode cWP_code 7 = .ok (.if_icmp .ge 10, 3) := by decide +kernel
theorem dWP_code_10 : decode cWP_code 10 = .ok (.iload_n 1, 1) := by decide +kernel
theorem dWP_code_11 : decode cWP_code 11 = .ok (.invokestatic 69, 3) := by decide +kernel
theorem dWP_code_14 : decode cWP_code 14 = .ok (.goto 4, 3) := by decide +kernel
theorem dWP_code_17 : decode cWP_code 17 = .ok (.iconst 0, 1) := by decide +kernel
theorem dWP_code_18 : decode cWP_code 18 = .ok (.ireturn, 1) := by decide +kernel
theorem dWP_codewordOf_0 : decode cWP_codewordOf 0 = .ok (.iload_n 0, 1) := by decide +kernel
theorem dWP_codewordOf_1 : decode cWP_codewordOf 1 = .ok (.bipush 11, 2) := by decide +kernel
theorem dWP_codewordOf_3 : decode cWP_codewordOf 3 = .ok (.ishl, 1) := by decide +kernel
theorem dWP_codewordOf_4 : decode cWP_codewordOf 4 = .ok (.istore_n 1, 1) := by decide +kernel
theorem dWP_codewordOf_5 : decode cWP_codewordOf 5 = .ok (.iload_n 1, 1) := by decide +kernel
theorem dWP_codewordOf_6 : decode cWP_codewordOf 6 = .ok (.iload_n 1, 1) := by decide +kernel
theorem dWP_codewordOf_7 : decode cWP_codewordOf 7 = .ok (.iconst 1, 1) := by decide +kernel
theorem dWP_codewordOf_8 : decode cWP_codewordOf 8 = .ok (.iushr, 1) := by decide +kernel
theorem dWP_codewordOf_9 : decode cWP_codewordOf 9 = .ok (.invokestatic 229, 3) := by decide +kernel
theorem dWP_codewordOf_12 : decode cWP_codewordOf 12 = .ok (.iconst 1, 1) := by decide +kernel
theorem dWP_codewordOf_13 : decode cWP_codewordOf 13 = .ok (.ishl, 1) := by decide +kernel
theorem dWP_codewordOf_14 : decode cWP_codewordOf 14 = .ok (.ior, 1) := by decide +kernel
theorem dWP_codewordOf_15 : decode cWP_codewordOf 15 = .ok (.istore_n 2, 1) := by decide +kernel
theorem dWP_codewordOf_16 : decode cWP_codewordOf 16 = .ok (.iload_n 2, 1) := by decide +kernel
theorem dWP_codewordOf_17 : decode cWP_codewordOf 17 = .ok (.iload_n 2, 1) := by decide +kernel
theorem dWP_codewordOf_18 : decode cWP_codewordOf 18 = .ok (.invokestatic 232, 3) := by decide +kernel
theorem dWP_codewordOf_21 : decode cWP_codewordOf 21 = .ok (.iconst 1, 1) := by decide +kernel
theorem dWP_codewordOf_22 : decode cWP_codewordOf 22 = .ok (.iand, 1) := by decide +kernel
theorem dWP_codewordOf_23 : decode cWP_codewordOf 23 = .ok (.ior, 1) := by decide +kernel
theorem dWP_codewordOf_24 : decode cWP_codewordOf 24 = .ok (.ireturn, 1) := by decide +kernel
theorem dWP_count_0 : decode cWP_count 0 = .ok (.aload_n 0, 1) := by decide +kernel
theorem dWP_count_1 : decode cWP_count 1 = .ok (.iload_n 1, 1) := by decide +kernel
theorem dWP_count_2 : decode cWP_count 2 = .ok (.invokevirtual 87, 3) := by decide +kernel
theorem dWP_count_5 : decode cWP_count 5 = .ok (.astore_n 3, 1) := by decide +kernel
theorem dWP_count_6 : decode cWP_count 6 = .ok (.aload_n 3, 1) := by decide +kernel
theorem dWP_count_7 : decode cWP_count 7 = .ok (.ifnonnull 5, 3) := by decide +kernel
theorem dWP_count_10 : decode cWP_count 10 = .ok (.iconst (-1), 1) := by decide +kernel
theorem dWP_count_11 : decode cWP_count 11 = .ok (.ireturn, 1) := by decide +kernel
theorem dWP_count_12 : decode cWP_count 12 = .ok (.iload_n 2, 1) := by decide +kernel
theorem dWP_count_13 : decode cWP_count 13 = .ok (.tableswitch 51 0 3 #[31, 36, 41, 46], 31) := by decide +kernel
theorem dWP_count_44 : decode cWP_count 44 = .ok (.aload_n 3, 1) := by decide +kernel
theorem dWP_count_45 : decode cWP_count 45 = .ok (.getfield 183, 3) := by decide +kernel
theorem dWP_count_48 : decode cWP_count 48 = .ok (.ireturn, 1) := by decide +kernel
theorem dWP_count_49 : decode cWP_count 49 = .ok (.aload_n 3, 1) := by decide +kernel
theorem dWP_count_50 : decode cWP_count 50 = .ok (.getfield 186, 3) := by decide +kernel
theorem dWP_count_53 : decode cWP_count 53 = .ok (.ireturn, 1) := by decide +kernel
theorem dWP_count_54 : decode cWP_count 54 = .ok (.aload_n 3, 1) := by decide +kernel
theorem dWP_count_55 : decode cWP_count 55 = .ok (.getfield 189, 3) := by decide +kernel
theorem dWP_count_58 : decode cWP_count 58 = .ok (.ireturn, 1) := by decide +kernel
theorem dWP_count_59 : decode cWP_count 59 = .ok (.aload_n 3, 1) := by decide +kernel
theorem dWP_count_60 : decode cWP_count 60 = .ok (.getfield 192, 3) := by decide +kernel
theorem dWP_count_63 : decode cWP_count 63 = .ok (.ireturn, 1) := by decide +kernel
theorem dWP_count_64 : decode cWP_count 64 = .ok (.iconst (-1), 1) := by decide +kernel
theorem dWP_count_65 : decode cWP_count 65 = .ok (.ireturn, 1) := by decide +kernel
theorem dWP_desk_0 : decode cWP_desk 0 = .ok (.aload_n 0, 1) := by decide +kernel
theorem dWP_desk_1 : decode cWP_desk 1 = .ok (.iload_n 1, 1) := by decide +kernel
theorem dWP_desk_2 : decode cWP_desk 2 = .ok (.invokevirtual 91, 3) := by decide +kernel
theorem dWP_desk_5 : decode cWP_desk 5 = .ok (.astore 4, 2) := by decide +kernel
theorem dWP_desk_7 : decode cWP_desk 7 = .ok (.aload 4, 2) := by decide +kernel
theorem dWP_desk_9 : decode cWP_desk 9 = .ok (.ifnonnull 5, 3) := by decide +kernel
theorem dWP_desk_12 : decode cWP_desk 12 = .ok (.iconst (-1), 1) := by decide +kernel
theorem dWP_desk_13 : decode cWP_desk 13 = .ok (.ireturn, 1) := by decide +kernel
theorem dWP_desk_14 : decode cWP_desk 14 = .ok (.aload_n 0, 1) := by decide +kernel
theorem dWP_desk_15 : decode cWP_desk 15 = .ok (.getfield 34, 3) := by decide +kernel
theorem dWP_desk_18 : decode cWP_desk 18 = .ok (.iconst 1, 1) := by decide +kernel
theorem dWP_desk_19 : decode cWP_desk 19 = .ok (.isub, 1) := by decide +kernel
theorem dWP_desk_20 : decode cWP_desk 20 = .ok (.istore 5, 2) := by decide +kernel
theorem dWP_desk_22 : decode cWP_desk 22 = .ok (.iload 5, 2) := by decide +kernel
theorem dWP_desk_24 : decode cWP_desk 24 = .ok (.ifCond .lt 70, 3) := by decide +kernel
theorem dWP_desk_27 : decode cWP_desk 27 = .ok (.aload_n 0, 1) := by decide +kernel
theorem dWP_desk_28 : decode cWP_desk 28 = .ok (.getfield 30, 3) := by decide +kernel
theorem dWP_desk_31 : decode cWP_desk 31 = .ok (.iload 5, 2) := by decide +kernel
theorem dWP_desk_33 : decode cWP_desk 33 = .ok (.aaload, 1) := by decide +kernel
theorem dWP_desk_34 : decode cWP_desk 34 = .ok (.getfield 195, 3) := by decide +kernel
theorem dWP_desk_37 : decode cWP_desk 37 = .ok (.aload 4, 2) := by decide +kernel
theorem dWP_desk_39 : decode cWP_desk 39 = .ok (.if_acmp .ne 49, 3) := by decide +kernel
theorem dWP_desk_42 : decode cWP_desk 42 = .ok (.aload_n 0, 1) := by decide +kernel
theorem dWP_desk_43 : decode cWP_desk 43 = .ok (.getfield 30, 3) := by decide +kernel
theorem dWP_desk_46 : decode cWP_desk 46 = .ok (.iload 5, 2) := by decide +kernel
theorem dWP_desk_48 : decode cWP_desk 48 = .ok (.aaload, 1) := by decide +kernel
theorem dWP_desk_49 : decode cWP_desk 49 = .ok (.getfield 199, 3) := by decide +kernel
theorem dWP_desk_52 : decode cWP_desk 52 = .ok (.iload_n 2, 1) := by decide +kernel
theorem dWP_desk_53 : decode cWP_desk 53 = .ok (.if_icmp .ne 35, 3) := by decide +kernel
theorem dWP_desk_56 : decode cWP_desk 56 = .ok (.aload_n 0, 1) := by decide +kernel
theorem dWP_desk_57 : decode cWP_desk 57 = .ok (.getfield 30, 3) := by decide +kernel
theorem dWP_desk_60 : decode cWP_desk 60 = .ok (.iload 5, 2) := by decide +kernel
theorem dWP_desk_62 : decode cWP_desk 62 = .ok (.aaload, 1) := by decide +kernel
theorem dWP_desk_63 : decode cWP_desk 63 = .ok (.getfield 200, 3) := by decide +kernel
theorem dWP_desk_66 : decode cWP_desk 66 = .ok (.astore 6, 2) := by decide +kernel
theorem dWP_desk_68 : decode cWP_desk 68 = .ok (.iload_n 3, 1) := by decide +kernel
theorem dWP_desk_69 : decode cWP_desk 69 = .ok (.ifCond .lt 17, 3) := by decide +kernel
theorem dWP_desk_72 : decode cWP_desk 72 = .ok (.iload_n 3, 1) := by decide +kernel
theorem dWP_desk_73 : decode cWP_desk 73 = .ok (.aload 6, 2) := by decide +kernel
theorem dWP_desk_75 : decode cWP_desk 75 = .ok (.arraylength, 1) := by decide +kernel
theorem dWP_desk_76 : decode cWP_desk 76 = .ok (.if_icmp .ge 10, 3) := by decide +kernel
theorem dWP_desk_79 : decode cWP_desk 79 = .ok (.aload 6, 2) := by decide +kernel
theorem dWP_desk_81 : decode cWP_desk 81 = .ok (.iload_n 3, 1) := by decide +kernel
theorem dWP_desk_82 : decode cWP_desk 82 = .ok (.iaload, 1) := by decide +kernel
theorem dWP_desk_83 : decode cWP_desk 83 = .ok (.goto 4, 3) := by decide +kernel
theorem dWP_desk_86 : decode cWP_desk 86 = .ok (.iconst (-1), 1) := by decide +kernel
theorem dWP_desk_87 : decode cWP_desk 87 = .ok (.ireturn, 1) := by decide +kernel
theorem dWP_desk_88 : decode cWP_desk 88 = .ok (.iinc 5 (-1), 3) := by decide +kernel
theorem dWP_desk_91 : decode cWP_desk 91 = .ok (.goto (-69), 3) := by decide +kernel
theorem dWP_desk_94 : decode cWP_desk 94 = .ok (.iconst (-1), 1) := by decide +kernel
theorem dWP_desk_95 : decode cWP_desk 95 = .ok (.ireturn, 1) := by decide +kernel
theorem dWP_flip_0 : decode cWP_flip 0 = .ok (.aload_n 0, 1) := by decide +kernel
theorem dWP_flip_1 : decode cWP_flip 1 = .ok (.getfield 57, 3) := by decide +kernel
theorem dWP_flip_4 : decode cWP_flip 4 = .ok (.iload_n 1, 1) := by decide +kernel
theorem dWP_flip_5 : decode cWP_flip 5 = .ok (.invokevirtual 135, 3) := by decide +kernel
theorem dWP_flip_8 : decode cWP_flip 8 = .ok (.ifCond .ne 5, 3) := by decide +kernel
theorem dWP_flip_11 : decode cWP_flip 11 = .ok (.iconst (-1), 1) := by decide +kernel
theorem dWP_flip_12 : decode cWP_flip 12 = .ok (.ireturn, 1) := by decide +kernel
theorem dWP_flip_13 : decode cWP_flip 13 = .ok (.aload_n 0, 1) := by decide +kernel
theorem dWP_flip_14 : decode cWP_flip 14 = .ok (.getfield 57, 3) := by decide +kernel
theorem dWP_flip_17 : decode cWP_flip 17 = .ok (.iload_n 1, 1) := by decide +kernel
theorem dWP_flip_18 : decode cWP_flip 18 = .ok (.invokevirtual 141, 3) := by decide +kernel
theorem dWP_flip_21 : decode cWP_flip 21 = .ok (.aload_n 0, 1) := by decide +kernel
theorem dWP_flip_22 : decode cWP_flip 22 = .ok (.getfield 57, 3) := by decide +kernel
theorem dWP_flip_25 : decode cWP_flip 25 = .ok (.iload_n 1, 1) := by decide +kernel
theorem dWP_flip_26 : decode cWP_flip 26 = .ok (.invokevirtual 138, 3) := by decide +kernel
theorem dWP_flip_29 : decode cWP_flip 29 = .ok (.ireturn, 1) := by decide +kernel
theorem dWP_hear_0 : decode cWP_hear 0 = .ok (.aload_n 0, 1) := by decide +kernel
theorem dWP_hear_1 : decode cWP_hear 1 = .ok (.iload_n 1, 1) := by decide +kernel
theorem dWP_hear_2 : decode cWP_hear 2 = .ok (.invokevirtual 87, 3) := by decide +kernel
theorem dWP_hear_5 : decode cWP_hear 5 = .ok (.astore_n 3, 1) := by decide +kernel
theorem dWP_hear_6 : decode cWP_hear 6 = .ok (.aload_n 3, 1) := by decide +kernel
theorem dWP_hear_7 : decode cWP_hear 7 = .ok (.ifnull 14, 3) := by decide +kernel
theorem dWP_hear_10 : decode cWP_hear 10 = .ok (.aload_n 0, 1) := by decide +kernel
theorem dWP_hear_11 : decode cWP_hear 11 = .ok (.getfield 57, 3) := by decide +kernel
theorem dWP_hear_14 : decode cWP_hear 14 = .ok (.iload_n 2, 1) := by decide +kernel
theorem dWP_hear_15 : decode cWP_hear 15 = .ok (.invokevirtual 135, 3) := by decide +kernel
theorem dWP_hear_18 : decode cWP_hear 18 = .ok (.ifCond .ne 7, 3) := by decide +kernel
theorem dWP_hear_21 : decode cWP_hear 21 = .ok (.iconst (-1), 1) := by decide +kernel
theorem dWP_hear_22 : decode cWP_hear 22 = .ok (.goto 16, 3) := by decide +kernel
theorem dWP_hear_25 : decode cWP_hear 25 = .ok (.aload_n 0, 1) := by decide +kernel
theorem dWP_hear_26 : decode cWP_hear 26 = .ok (.getfield 64, 3) := by decide +kernel
theorem dWP_hear_29 : decode cWP_hear 29 = .ok (.aload_n 3, 1) := by decide +kernel
theorem dWP_hear_30 : decode cWP_hear 30 = .ok (.aload_n 0, 1) := by decide +kernel
theorem dWP_hear_31 : decode cWP_hear 31 = .ok (.getfield 57, 3) := by decide +kernel
theorem dWP_hear_34 : decode cWP_hear 34 = .ok (.iload_n 2, 1) := by decide +kernel
theorem dWP_hear_35 : decode cWP_hear 35 = .ok (.invokevirtual 144, 3) := by decide +kernel
theorem dWP_hear_38 : decode cWP_hear 38 = .ok (.ireturn, 1) := by decide +kernel
theorem dWP_identity_0 : decode cWP_identity 0 = .ok (.iload_n 1, 1) := by decide +kernel
theorem dWP_identity_1 : decode cWP_identity 1 = .ok (.ifCond .lt 18, 3) := by decide +kernel
theorem dWP_identity_4 : decode cWP_identity 4 = .ok (.iload_n 1, 1) := by decide +kernel
theorem dWP_identity_5 : decode cWP_identity 5 = .ok (.ldc 68, 2) := by decide +kernel
theorem dWP_identity_7 : decode cWP_identity 7 = .ok (.if_icmp .ge 12, 3) := by decide +kernel
theorem dWP_identity_10 : decode cWP_identity 10 = .ok (.iload_n 2, 1) := by decide +kernel
theorem dWP_identity_11 : decode cWP_identity 11 = .ok (.ifCond .eq 10, 3) := by decide +kernel
theorem dWP_identity_14 : decode cWP_identity 14 = .ok (.iload_n 2, 1) := by decide +kernel
theorem dWP_identity_15 : decode cWP_identity 15 = .ok (.iconst 1, 1) := by decide +kernel
theorem dWP_identity_16 : decode cWP_identity 16 = .ok (.if_icmp .eq 5, 3) := by decide +kernel
theorem dWP_identity_19 : decode cWP_identity 19 = .ok (.iconst (-1), 1) := by decide +kernel
theorem dWP_identity_20 : decode cWP_identity 20 = .ok (.ireturn, 1) := by decide +kernel
theorem dWP_identity_21 : decode cWP_identity 21 = .ok (.iload_n 1, 1) := by decide +kernel
theorem dWP_identity_22 : decode cWP_identity 22 = .ok (.bipush 8, 2) := by decide +kernel
theorem dWP_identity_24 : decode cWP_identity 24 = .ok (.idiv, 1) := by decide +kernel
theorem dWP_identity_25 : decode cWP_identity 25 = .ok (.ldc 78, 2) := by decide +kernel
theorem dWP_identity_27 : decode cWP_identity 27 = .ok (.if_icmp .eq 20, 3) := by decide +kernel
theorem dWP_identity_30 : decode cWP_identity 30 = .ok (.aload_n 0, 1) := by decide +kernel
theorem dWP_identity_31 : decode cWP_identity 31 = .ok (.getfield 15, 3) := by decide +kernel
theorem dWP_identity_34 : decode cWP_identity 34 = .ok (.bipush 12, 2) := by decide +kernel
theorem dWP_identity_36 : decode cWP_identity 36 = .ok (.if_icmp .ge 11, 3) := by decide +kernel
theorem dWP_identity_39 : decode cWP_identity 39 = .ok (.aload_n 0, 1) := by decide +kernel
theorem dWP_identity_40 : decode cWP_identity 40 = .ok (.iload_n 1, 1) := by decide +kernel
theorem dWP_identity_41 : decode cWP_identity 41 = .ok (.invokevirtual 79, 3) := by decide +kernel
theorem dWP_identity_44 : decode cWP_identity 44 = .ok (.ifCond .eq 5, 3) := by decide +kernel
theorem dWP_identity_47 : decode cWP_identity 47 = .ok (.iconst (-1), 1) := by decide +kernel
theorem dWP_identity_48 : decode cWP_identity 48 = .ok (.ireturn, 1) := by decide +kernel
theorem dWP_identity_49 : decode cWP_identity 49 = .ok (.aload_n 0, 1) := by decide +kernel
theorem dWP_identity_50 : decode cWP_identity 50 = .ok (.getfield 11, 3) := by decide +kernel
theorem dWP_identity_53 : decode cWP_identity 53 = .ok (.aload_n 0, 1) := by decide +kernel
theorem dWP_identity_54 : decode cWP_identity 54 = .ok (.getfield 15, 3) := by decide +kernel
theorem dWP_identity_57 : decode cWP_identity 57 = .ok (.new 9, 3) := by decide +kernel
theorem dWP_identity_60 : decode cWP_identity 60 = .ok (.dup, 1) := by decide +kernel
theorem dWP_identity_61 : decode cWP_identity 61 = .ok (.aload_n 0, 1) := by decide +kernel
theorem dWP_identity_62 : decode cWP_identity 62 = .ok (.getfield 15, 3) := by decide +kernel
theorem dWP_identity_65 : decode cWP_identity 65 = .ok (.iload_n 1, 1) := by decide +kernel
theorem dWP_identity_66 : decode cWP_identity 66 = .ok (.iload_n 2, 1) := by decide +kernel
theorem dWP_identity_67 : decode cWP_identity 67 = .ok (.invokespecial 83, 3) := by decide +kernel
theorem dWP_identity_70 : decode cWP_identity 70 = .ok (.aastore, 1) := by decide +kernel
theorem dWP_identity_71 : decode cWP_identity 71 = .ok (.aload_n 0, 1) := by decide +kernel
theorem dWP_identity_72 : decode cWP_identity 72 = .ok (.dup, 1) := by decide +kernel
theorem dWP_identity_73 : decode cWP_identity 73 = .ok (.getfield 15, 3) := by decide +kernel
theorem dWP_identity_76 : decode cWP_identity 76 = .ok (.iconst 1, 1) := by decide +kernel
theorem dWP_identity_77 : decode cWP_identity 77 = .ok (.iadd, 1) := by decide +kernel
theorem dWP_identity_78 : decode cWP_identity 78 = .ok (.putfield 15, 3) := by decide +kernel
theorem dWP_identity_81 : decode cWP_identity 81 = .ok (.aload_n 0, 1) := by decide +kernel
theorem dWP_identity_82 : decode cWP_identity 82 = .ok (.getfield 15, 3) := by decide +kernel
theorem dWP_identity_85 : decode cWP_identity 85 = .ok (.iconst 1, 1) := by decide +kernel
theorem dWP_identity_86 : decode cWP_identity 86 = .ok (.isub, 1) := by decide +kernel
theorem dWP_identity_87 : decode cWP_identity 87 = .ok (.ireturn, 1) := by decide +kernel
theorem dWP_identityAt_0 : decode cWP_identityAt 0 = .ok (.iload_n 1, 1) := by decide +kernel
theorem dWP_identityAt_1 : decode cWP_identityAt 1 = .ok (.ifCond .lt 20, 3) := by decide +kernel
theorem dWP_identityAt_4 : decode cWP_identityAt 4 = .ok (.iload_n 1, 1) := by decide +kernel
theorem dWP_identityAt_5 : decode cWP_identityAt 5 = .ok (.aload_n 0, 1) := by decide +kernel
theorem dWP_identityAt_6 : decode cWP_identityAt 6 = .ok (.getfield 15, 3) := by decide +kernel
theorem dWP_identityAt_9 : decode cWP_identityAt 9 = .ok (.if_icmp .ge 12, 3) := by decide +kernel
theorem dWP_identityAt_12 : decode cWP_identityAt 12 = .ok (.aload_n 0, 1) := by decide +kernel
theorem dWP_identityAt_13 : decode cWP_identityAt 13 = .ok (.getfield 11, 3) := by decide +kernel
theorem dWP_identityAt_16 : decode cWP_identityAt 16 = .ok (.iload_n 1, 1) := by decide +kernel
theorem dWP_identityAt_17 : decode cWP_identityAt 17 = .ok (.aaload, 1) := by decide +kernel
theorem dWP_identityAt_18 : decode cWP_identityAt 18 = .ok (.goto 4, 3) := by decide +kernel
theorem dWP_identityAt_21 : decode cWP_identityAt 21 = .ok (.aconst_null, 1) := by decide +kernel
theorem dWP_identityAt_22 : decode cWP_identityAt 22 = .ok (.areturn, 1) := by decide +kernel
theorem dWP_isAddressUsed_0 : decode cWP_isAddressUsed 0 = .ok (.iconst 0, 1) := by decide +kernel
theorem dWP_isAddressUsed_1 : decode cWP_isAddressUsed 1 = .ok (.istore_n 2, 1) := by decide +kernel
theorem dWP_isAddressUsed_2 : decode cWP_isAddressUsed 2 = .ok (.iload_n 2, 1) := by decide +kernel
theorem dWP_isAddressUsed_3 : decode cWP_isAddressUsed 3 = .ok (.aload_n 0, 1) := by decide +kernel
theorem dWP_isAddressUsed_4 : decode cWP_isAddressUsed 4 = .ok (.getfield 15, 3) := by decide +kernel
theorem dWP_isAddressUsed_7 : decode cWP_isAddressUsed 7 = .ok (.if_icmp .ge 24, 3) := by decide +kernel
theorem dWP_isAddressUsed_10 : decode cWP_isAddressUsed 10 = .ok (.aload_n 0, 1) := by decide +kernel
theorem dWP_isAddressUsed_11 : decode cWP_isAddressUsed 11 = .ok (.getfield 11, 3) := by decide +kernel
theorem dWP_isAddressUsed_14 : decode cWP_isAddressUsed 14 = .ok (.iload_n 2, 1) := by decide +kernel
theorem dWP_isAddressUsed_15 : decode cWP_isAddressUsed 15 = .ok (.aaload, 1) := by decide +kernel
theorem dWP_isAddressUsed_16 : decode cWP_isAddressUsed 16 = .ok (.getfield 204, 3) := by decide +kernel
theorem dWP_isAddressUsed_19 : decode cWP_isAddressUsed 19 = .ok (.iload_n 1, 1) := by decide +kernel
theorem dWP_isAddressUsed_20 : decode cWP_isAddressUsed 20 = .ok (.if_icmp .ne 5, 3) := by decide +kernel
theorem dWP_isAddressUsed_23 : decode cWP_isAddressUsed 23 = .ok (.iconst 1, 1) := by decide +kernel
theorem dWP_isAddressUsed_24 : decode cWP_isAddressUsed 24 = .ok (.ireturn, 1) := by decide +kernel
theorem dWP_isAddressUsed_25 : decode cWP_isAddressUsed 25 = .ok (.iinc 2 1, 3) := by decide +kernel
theorem dWP_isAddressUsed_28 : decode cWP_isAddressUsed 28 = .ok (.goto (-26), 3) := by decide +kernel
theorem dWP_isAddressUsed_31 : decode cWP_isAddressUsed 31 = .ok (.iconst 0, 1) := by decide +kernel
theorem dWP_isAddressUsed_32 : decode cWP_isAddressUsed 32 = .ok (.ireturn, 1) := by decide +kernel
theorem dWP_isSync_0 : decode cWP_isSync 0 = .ok (.iload_n 0, 1) := by decide +kernel
theorem dWP_isSync_1 : decode cWP_isSync 1 = .ok (.ldc 236, 2) := by decide +kernel
theorem dWP_isSync_3 : decode cWP_isSync 3 = .ok (.ixor, 1) := by decide +kernel
theorem dWP_isSync_4 : decode cWP_isSync 4 = .ok (.invokestatic 232, 3) := by decide +kernel
theorem dWP_isSync_7 : decode cWP_isSync 7 = .ok (.iconst 2, 1) := by decide +kernel
theorem dWP_isSync_8 : decode cWP_isSync 8 = .ok (.if_icmp .gt 7, 3) := by decide +kernel
theorem dWP_isSync_11 : decode cWP_isSync 11 = .ok (.iconst 1, 1) := by decide +kernel
theorem dWP_isSync_12 : decode cWP_isSync 12 = .ok (.goto 4, 3) := by decide +kernel
theorem dWP_isSync_15 : decode cWP_isSync 15 = .ok (.iconst 0, 1) := by decide +kernel
theorem dWP_isSync_16 : decode cWP_isSync 16 = .ok (.ireturn, 1) := by decide +kernel
theorem dWP_join_0 : decode cWP_join 0 = .ok (.aload_n 0, 1) := by decide +kernel
theorem dWP_join_1 : decode cWP_join 1 = .ok (.iload_n 1, 1) := by decide +kernel
theorem dWP_join_2 : decode cWP_join 2 = .ok (.invokevirtual 87, 3) := by decide +kernel
theorem dWP_join_5 : decode cWP_join 5 = .ok (.astore_n 3, 1) := by decide +kernel
theorem dWP_join_6 : decode cWP_join 6 = .ok (.aload_n 0, 1) := by decide +kernel
theorem dWP_join_7 : decode cWP_join 7 = .ok (.iload_n 2, 1) := by decide +kernel
theorem dWP_join_8 : decode cWP_join 8 = .ok (.invokevirtual 91, 3) := by decide +kernel
theorem dWP_join_11 : decode cWP_join 11 = .ok (.astore 4, 2) := by decide +kernel
theorem dWP_join_13 : decode cWP_join 13 = .ok (.aload_n 3, 1) := by decide +kernel
theorem dWP_join_14 : decode cWP_join 14 = .ok (.ifnull 8, 3) := by decide +kernel
theorem dWP_join_17 : decode cWP_join 17 = .ok (.aload 4, 2) := by decide +kernel
theorem dWP_join_19 : decode cWP_join 19 = .ok (.ifnonnull 5, 3) := by decide +kernel
theorem dWP_join_22 : decode cWP_join 22 = .ok (.iconst (-1), 1) := by decide +kernel
theorem dWP_join_23 : decode cWP_join 23 = .ok (.ireturn, 1) := by decide +kernel
theorem dWP_join_24 : decode cWP_join 24 = .ok (.aload_n 3, 1) := by decide +kernel
theorem dWP_join_25 : decode cWP_join 25 = .ok (.aload 4, 2) := by decide +kernel
theorem dWP_join_27 : decode cWP_join 27 = .ok (.invokevirtual 95, 3) := by decide +kernel
theorem dWP_join_30 : decode cWP_join 30 = .ok (.ifCond .eq 10, 3) := by decide +kernel
theorem dWP_join_33 : decode cWP_join 33 = .ok (.aload_n 3, 1) := by decide +kernel
theorem dWP_join_34 : decode cWP_join 34 = .ok (.getfield 99, 3) := by decide +kernel
theorem dWP_join_37 : decode cWP_join 37 = .ok (.goto 4, 3) := by decide +kernel
theorem dWP_join_40 : decode cWP_join 40 = .ok (.iconst (-1), 1) := by decide +kernel
theorem dWP_join_41 : decode cWP_join 41 = .ok (.ireturn, 1) := by decide +kernel
theorem dWP_kept_0 : decode cWP_kept 0 = .ok (.aload_n 0, 1) := by decide +kernel
theorem dWP_kept_1 : decode cWP_kept 1 = .ok (.iload_n 1, 1) := by decide +kernel
theorem dWP_kept_2 : decode cWP_kept 2 = .ok (.invokevirtual 87, 3) := by decide +kernel
theorem dWP_kept_5 : decode cWP_kept 5 = .ok (.astore_n 2, 1) := by decide +kernel
theorem dWP_kept_6 : decode cWP_kept 6 = .ok (.aload_n 2, 1) := by decide +kernel
theorem dWP_kept_7 : decode cWP_kept 7 = .ok (.ifnonnull 7, 3) := by decide +kernel
theorem dWP_kept_10 : decode cWP_kept 10 = .ok (.iconst (-1), 1) := by decide +kernel
theorem dWP_kept_11 : decode cWP_kept 11 = .ok (.goto 7, 3) := by decide +kernel
theorem dWP_kept_14 : decode cWP_kept 14 = .ok (.aload_n 2, 1) := by decide +kernel
theorem dWP_kept_15 : decode cWP_kept 15 = .ok (.getfield 148, 3) := by decide +kernel
theorem dWP_kept_18 : decode cWP_kept 18 = .ok (.ireturn, 1) := by decide +kernel
theorem dWP_layMessages_0 : decode cWP_layMessages 0 = .ok (.aload_n 0, 1) := by decide +kernel
theorem dWP_layMessages_1 : decode cWP_layMessages 1 = .ok (.getfield 50, 3) := by decide +kernel
theorem dWP_layMessages_4 : decode cWP_layMessages 4 = .ok (.iload_n 1, 1) := by decide +kernel
theorem dWP_layMessages_5 : decode cWP_layMessages 5 = .ok (.invokevirtual 213, 3) := by decide +kernel
theorem dWP_layMessages_8 : decode cWP_layMessages 8 = .ok (.iconst 0, 1) := by decide +kernel
theorem dWP_layMessages_9 : decode cWP_layMessages 9 = .ok (.istore_n 2, 1) := by decide +kernel
theorem dWP_layMessages_10 : decode cWP_layMessages 10 = .ok (.iload_n 2, 1) := by decide +kernel
theorem dWP_layMessages_11 : decode cWP_layMessages 11 = .ok (.aload_n 0, 1) := by decide +kernel
theorem dWP_layMessages_12 : decode cWP_layMessages 12 = .ok (.getfield 15, 3) := by decide +kernel
theorem dWP_layMessages_15 : decode cWP_layMessages 15 = .ok (.if_icmp .ge 19, 3) := by decide +kernel
theorem dWP_layMessages_18 : decode cWP_layMessages 18 = .ok (.aload_n 0, 1) := by decide +kernel
theorem dWP_layMessages_19 : decode cWP_layMessages 19 = .ok (.getfield 11, 3) := by decide +kernel
theorem dWP_layMessages_22 : decode cWP_layMessages 22 = .ok (.iload_n 2, 1) := by decide +kernel
theorem dWP_layMessages_23 : decode cWP_layMessages 23 = .ok (.aaload, 1) := by decide +kernel
theorem dWP_layMessages_24 : decode cWP_layMessages 24 = .ok (.iconst 0, 1) := by decide +kernel
theorem dWP_layMessages_25 : decode cWP_layMessages 25 = .ok (.putfield 216, 3) := by decide +kernel
theorem dWP_layMessages_28 : decode cWP_layMessages 28 = .ok (.iinc 2 1, 3) := by decide +kernel
theorem dWP_layMessages_31 : decode cWP_layMessages 31 = .ok (.goto (-21), 3) := by decide +kernel
theorem dWP_layMessages_34 : decode cWP_layMessages 34 = .ok (.iconst 3, 1) := by decide +kernel
theorem dWP_layMessages_35 : decode cWP_layMessages 35 = .ok (.istore_n 2, 1) := by decide +kernel
theorem dWP_layMessages_36 : decode cWP_layMessages 36 = .ok (.iload_n 2, 1) := by decide +kernel
theorem dWP_layMessages_37 : decode cWP_layMessages 37 = .ok (.ifCond .lt 78, 3) := by decide +kernel
theorem dWP_layMessages_40 : decode cWP_layMessages 40 = .ok (.iconst 0, 1) := by decide +kernel
theorem dWP_layMessages_41 : decode cWP_layMessages 41 = .ok (.istore_n 3, 1) := by decide +kernel
theorem dWP_layMessages_42 : decode cWP_layMessages 42 = .ok (.iload_n 3, 1) := by decide +kernel
theorem dWP_layMessages_43 : decode cWP_layMessages 43 = .ok (.aload_n 0, 1) := by decide +kernel
theorem dWP_layMessages_44 : decode cWP_layMessages 44 = .ok (.getfield 34, 3) := by decide +kernel
theorem dWP_layMessages_47 : decode cWP_layMessages 47 = .ok (.if_icmp .ge 62, 3) := by decide +kernel
theorem dWP_layMessages_50 : decode cWP_layMessages 50 = .ok (.aload_n 0, 1) := by decide +kernel
theorem dWP_layMessages_51 : decode cWP_layMessages 51 = .ok (.getfield 30, 3) := by decide +kernel
theorem dWP_layMessages_54 : decode cWP_layMessages 54 = .ok (.iload_n 3, 1) := by decide +kernel
theorem dWP_layMessages_55 : decode cWP_layMessages 55 = .ok (.aaload, 1) := by decide +kernel
theorem dWP_layMessages_56 : decode cWP_layMessages 56 = .ok (.astore 4, 2) := by decide +kernel
theorem dWP_layMessages_58 : decode cWP_layMessages 58 = .ok (.aload 4, 2) := by decide +kernel
theorem dWP_layMessages_60 : decode cWP_layMessages 60 = .ok (.getfield 219, 3) := by decide +kernel
theorem dWP_layMessages_63 : decode cWP_layMessages 63 = .ok (.ifCond .eq 40, 3) := by decide +kernel
theorem dWP_layMessages_66 : decode cWP_layMessages 66 = .ok (.aload 4, 2) := by decide +kernel
theorem dWP_layMessages_68 : decode cWP_layMessages 68 = .ok (.getfield 222, 3) := by decide +kernel
theorem dWP_layMessages_71 : decode cWP_layMessages 71 = .ok (.iload_n 2, 1) := by decide +kernel
theorem dWP_layMessages_72 : decode cWP_layMessages 72 = .ok (.if_icmp .ne 31, 3) := by decide +kernel
theorem dWP_layMessages_75 : decode cWP_layMessages 75 = .ok (.aload_n 0, 1) := by decide +kernel
theorem dWP_layMessages_76 : decode cWP_layMessages 76 = .ok (.getfield 50, 3) := by decide +kernel
theorem dWP_layMessages_79 : decode cWP_layMessages 79 = .ok (.aload 4, 2) := by decide +kernel
theorem dWP_layMessages_81 : decode cWP_layMessages 81 = .ok (.invokevirtual 225, 3) := by decide +kernel
theorem dWP_layMessages_84 : decode cWP_layMessages 84 = .ok (.ifCond .eq 19, 3) := by decide +kernel
theorem dWP_layMessages_87 : decode cWP_layMessages 87 = .ok (.aload 4, 2) := by decide +kernel
theorem dWP_layMessages_89 : decode cWP_layMessages 89 = .ok (.iconst 0, 1) := by decide +kernel
theorem dWP_layMessages_90 : decode cWP_layMessages 90 = .ok (.putfield 219, 3) := by decide +kernel
theorem dWP_layMessages_93 : decode cWP_layMessages 93 = .ok (.aload_n 0, 1) := by decide +kernel
theorem dWP_layMessages_94 : decode cWP_layMessages 94 = .ok (.dup, 1) := by decide +kernel
theorem dWP_layMessages_95 : decode cWP_layMessages 95 = .ok (.getfield 37, 3) := by decide +kernel
theorem dWP_layMessages_98 : decode cWP_layMessages 98 = .ok (.iconst 1, 1) := by decide +kernel
theorem dWP_layMessages_99 : decode cWP_layMessages 99 = .ok (.isub, 1) := by decide +kernel
theorem dWP_layMessages_100 : decode cWP_layMessages 100 = .ok (.putfield 37, 3) := by decide +kernel
theorem dWP_layMessages_103 : decode cWP_layMessages 103 = .ok (.iinc 3 1, 3) := by decide +kernel
theorem dWP_layMessages_106 : decode cWP_layMessages 106 = .ok (.goto (-64), 3) := by decide +kernel
theorem dWP_layMessages_109 : decode cWP_layMessages 109 = .ok (.iinc 2 (-1), 3) := by decide +kernel
theorem dWP_layMessages_112 : decode cWP_layMessages 112 = .ok (.goto (-76), 3) := by decide +kernel
theorem dWP_layMessages_115 : decode cWP_layMessages 115 = .ok (.return_, 1) := by decide +kernel
theorem dWP_load_0 : decode cWP_load 0 = .ok (.iload_n 3, 1) := by decide +kernel
theorem dWP_load_1 : decode cWP_load 1 = .ok (.iconst 1, 1) := by decide +kernel
theorem dWP_load_2 : decode cWP_load 2 = .ok (.if_icmp .lt 20, 3) := by decide +kernel
theorem dWP_load_5 : decode cWP_load 5 = .ok (.iload_n 3, 1) := by decide +kernel
theorem dWP_load_6 : decode cWP_load 6 = .ok (.bipush 8, 2) := by decide +kernel
theorem dWP_load_8 : decode cWP_load 8 = .ok (.if_icmp .gt 14, 3) := by decide +kernel
theorem dWP_load_11 : decode cWP_load 11 = .ok (.aload_n 0, 1) := by decide +kernel
theorem dWP_load_12 : decode cWP_load 12 = .ok (.getfield 44, 3) := by decide +kernel
theorem dWP_load_15 : decode cWP_load 15 = .ok (.iload_n 3, 1) := by decide +kernel
theorem dWP_load_16 : decode cWP_load 16 = .ok (.iadd, 1) := by decide +kernel
theorem dWP_load_17 : decode cWP_load 17 = .ok (.bipush 20, 2) := by decide +kernel
theorem dWP_load_19 : decode cWP_load 19 = .ok (.if_icmp .le 5, 3) := by decide +kernel
theorem dWP_load_22 : decode cWP_load 22 = .ok (.iconst (-1), 1) := by decide +kernel
theorem dWP_load_23 : decode cWP_load 23 = .ok (.ireturn, 1) := by decide +kernel
theorem dWP_load_24 : decode cWP_load 24 = .ok (.iconst 0, 1) := by decide +kernel
theorem dWP_load_25 : decode cWP_load 25 = .ok (.istore 4, 2) := by decide +kernel
theorem dWP_load_27 : decode cWP_load 27 = .ok (.iload 4, 2) := by decide +kernel
theorem dWP_load_29 : decode cWP_load 29 = .ok (.iload_n 3, 1) := by decide +kernel
theorem dWP_load_30 : decode cWP_load 30 = .ok (.if_icmp .ge 22, 3) := by decide +kernel
theorem dWP_load_33 : decode cWP_load 33 = .ok (.lload_n 1, 1) := by decide +kernel
theorem dWP_load_34 : decode cWP_load 34 = .ok (.iload 4, 2) := by decide +kernel
theorem dWP_load_36 : decode cWP_load 36 = .ok (.invokestatic 102, 3) := by decide +kernel
theorem dWP_load_39 : decode cWP_load 39 = .ok (.bipush 126, 2) := by decide +kernel
theorem dWP_load_41 : decode cWP_load 41 = .ok (.if_icmp .le 5, 3) := by decide +kernel
theorem dWP_load_44 : decode cWP_load 44 = .ok (.iconst (-1), 1) := by decide +kernel
theorem dWP_load_45 : decode cWP_load 45 = .ok (.ireturn, 1) := by decide +kernel
theorem dWP_load_46 : decode cWP_load 46 = .ok (.iinc 4 1, 3) := by decide +kernel
theorem dWP_load_49 : decode cWP_load 49 = .ok (.goto (-22), 3) := by decide +kernel
theorem dWP_load_52 : decode cWP_load 52 = .ok (.iload_n 3, 1) := by decide +kernel
theorem dWP_load_53 : decode cWP_load 53 = .ok (.iconst 1, 1) := by decide +kernel
theorem dWP_load_54 : decode cWP_load 54 = .ok (.isub, 1) := by decide +kernel
theorem dWP_load_55 : decode cWP_load 55 = .ok (.istore 4, 2) := by decide +kernel
theorem dWP_load_57 : decode cWP_load 57 = .ok (.iload 4, 2) := by decide +kernel
theorem dWP_load_59 : decode cWP_load 59 = .ok (.ifCond .lt 34, 3) := by decide +kernel
theorem dWP_load_62 : decode cWP_load 62 = .ok (.aload_n 0, 1) := by decide +kernel
theorem dWP_load_63 : decode cWP_load 63 = .ok (.getfield 40, 3) := by decide +kernel
theorem dWP_load_66 : decode cWP_load 66 = .ok (.aload_n 0, 1) := by decide +kernel
theorem dWP_load_67 : decode cWP_load 67 = .ok (.getfield 44, 3) := by decide +kernel
theorem dWP_load_70 : decode cWP_load 70 = .ok (.lload_n 1, 1) := by decide +kernel
theorem dWP_load_71 : decode cWP_load 71 = .ok (.iload 4, 2) := by decide +kernel
theorem dWP_load_73 : decode cWP_load 73 = .ok (.invokestatic 102, 3) := by decide +kernel
theorem dWP_load_76 : decode cWP_load 76 = .ok (.iastore, 1) := by decide +kernel
theorem dWP_load_77 : decode cWP_load 77 = .ok (.aload_n 0, 1) := by decide +kernel
theorem dWP_load_78 : decode cWP_load 78 = .ok (.dup, 1) := by decide +kernel
theorem dWP_load_79 : decode cWP_load 79 = .ok (.getfield 44, 3) := by decide +kernel
theorem dWP_load_82 : decode cWP_load 82 = .ok (.iconst 1, 1) := by decide +kernel
theorem dWP_load_83 : decode cWP_load 83 = .ok (.iadd, 1) := by decide +kernel
theorem dWP_load_84 : decode cWP_load 84 = .ok (.putfield 44, 3) := by decide +kernel
theorem dWP_load_87 : decode cWP_load 87 = .ok (.iinc 4 (-1), 3) := by decide +kernel
theorem dWP_load_90 : decode cWP_load 90 = .ok (.goto (-33), 3) := by decide +kernel
theorem dWP_load_93 : decode cWP_load 93 = .ok (.aload_n 0, 1) := by decide +kernel
theorem dWP_load_94 : decode cWP_load 94 = .ok (.getfield 44, 3) := by decide +kernel
theorem dWP_load_97 : decode cWP_load 97 = .ok (.ireturn, 1) := by decide +kernel
theorem dWP_message_0 : decode cWP_message 0 = .ok (.aload_n 0, 1) := by decide +kernel
theorem dWP_message_1 : decode cWP_message 1 = .ok (.iload_n 1, 1) := by decide +kernel
theorem dWP_message_2 : decode cWP_message 2 = .ok (.iload_n 2, 1) := by decide +kernel
theorem dWP_message_3 : decode cWP_message 3 = .ok (.invokevirtual 151, 3) := by decide +kernel
theorem dWP_message_6 : decode cWP_message 6 = .ok (.astore 4, 2) := by decide +kernel
theorem dWP_message_8 : decode cWP_message 8 = .ok (.aload 4, 2) := by decide +kernel
theorem dWP_message_10 : decode cWP_message 10 = .ok (.ifnonnull 5, 3) := by decide +kernel
theorem dWP_message_13 : decode cWP_message 13 = .ok (.iconst (-1), 1) := by decide +kernel
theorem dWP_message_14 : decode cWP_message 14 = .ok (.ireturn, 1) := by decide +kernel
theorem dWP_message_15 : decode cWP_message 15 = .ok (.iload_n 3, 1) := by decide +kernel
theorem dWP_message_16 : decode cWP_message 16 = .ok (.tableswitch 64 0 3 #[32, 38, 44, 50], 32) := by decide +kernel
theorem dWP_message_48 : decode cWP_message 48 = .ok (.aload 4, 2) := by decide +kernel
theorem dWP_message_50 : decode cWP_message 50 = .ok (.getfield 155, 3) := by decide +kernel
theorem dWP_message_53 : decode cWP_message 53 = .ok (.ireturn, 1) := by decide +kernel
theorem dWP_message_54 : decode cWP_message 54 = .ok (.aload 4, 2) := by decide +kernel
theorem dWP_message_56 : decode cWP_message 56 = .ok (.getfield 160, 3) := by decide +kernel
theorem dWP_message_59 : decode cWP_message 59 = .ok (.ireturn, 1) := by decide +kernel
theorem dWP_message_60 : decode cWP_message 60 = .ok (.aload 4, 2) := by decide +kernel
theorem dWP_message_62 : decode cWP_message 62 = .ok (.getfield 163, 3) := by decide +kernel
theorem dWP_message_65 : decode cWP_message 65 = .ok (.ireturn, 1) := by decide +kernel
theorem dWP_message_66 : decode cWP_message 66 = .ok (.aload 4, 2) := by decide +kernel
theorem dWP_message_68 : decode cWP_message 68 = .ok (.getfield 166, 3) := by decide +kernel
theorem dWP_message_71 : decode cWP_message 71 = .ok (.ifCond .eq 7, 3) := by decide +kernel
theorem dWP_message_74 : decode cWP_message 74 = .ok (.iconst 1, 1) := by decide +kernel
theorem dWP_message_75 : decode cWP_message 75 = .ok (.goto 4, 3) := by decide +kernel
theorem dWP_message_78 : decode cWP_message 78 = .ok (.iconst 0, 1) := by decide +kernel
theorem dWP_message_79 : decode cWP_message 79 = .ok (.ireturn, 1) := by decide +kernel
theorem dWP_message_80 : decode cWP_message 80 = .ok (.iconst (-1), 1) := by decide +kernel
theorem dWP_message_81 : decode cWP_message 81 = .ok (.ireturn, 1) := by decide +kernel
theorem dWP_missed_0 : decode cWP_missed 0 = .ok (.aload_n 0, 1) := by decide +kernel
theorem dWP_missed_1 : decode cWP_missed 1 = .ok (.iload_n 1, 1) := by decide +kernel
theorem dWP_missed_2 : decode cWP_missed 2 = .ok (.invokevirtual 87, 3) := by decide +kernel
theorem dWP_missed_5 : decode cWP_missed 5 = .ok (.astore_n 3, 1) := by decide +kernel
theorem dWP_missed_6 : decode cWP_missed 6 = .ok (.aload_n 3, 1) := by decide +kernel
theorem dWP_missed_7 : decode cWP_missed 7 = .ok (.ifnonnull 7, 3) := by decide +kernel
theorem dWP_missed_10 : decode cWP_missed 10 = .ok (.aconst_null, 1) := by decide +kernel
theorem dWP_missed_11 : decode cWP_missed 11 = .ok (.goto 8, 3) := by decide +kernel
theorem dWP_missed_14 : decode cWP_missed 14 = .ok (.aload_n 3, 1) := by decide +kernel
theorem dWP_missed_15 : decode cWP_missed 15 = .ok (.iload_n 2, 1) := by decide +kernel
theorem dWP_missed_16 : decode cWP_missed 16 = .ok (.invokevirtual 173, 3) := by decide +kernel
theorem dWP_missed_19 : decode cWP_missed 19 = .ok (.astore 4, 2) := by decide +kernel
theorem dWP_missed_21 : decode cWP_missed 21 = .ok (.aload 4, 2) := by decide +kernel
theorem dWP_missed_23 : decode cWP_missed 23 = .ok (.ifnonnull 7, 3) := by decide +kernel
theorem dWP_missed_26 : decode cWP_missed 26 = .ok (.lconst 0, 1) := by decide +kernel
theorem dWP_missed_27 : decode cWP_missed 27 = .ok (.goto 8, 3) := by decide +kernel
theorem dWP_missed_30 : decode cWP_missed 30 = .ok (.aload 4, 2) := by decide +kernel
theorem dWP_missed_32 : decode cWP_missed 32 = .ok (.getfield 177, 3) := by decide +kernel
theorem dWP_missed_35 : decode cWP_missed 35 = .ok (.lreturn, 1) := by decide +kernel
theorem dWP_pager_0 : decode cWP_pager 0 = .ok (.aload_n 0, 1) := by decide +kernel
theorem dWP_pager_1 : decode cWP_pager 1 = .ok (.getfield 25, 3) := by decide +kernel
theorem dWP_pager_4 : decode cWP_pager 4 = .ok (.bipush 6, 2) := by decide +kernel
theorem dWP_pager_6 : decode cWP_pager 6 = .ok (.if_icmp .lt 5, 3) := by decide +kernel
theorem dWP_pager_9 : decode cWP_pager 9 = .ok (.iconst (-1), 1) := by decide +kernel
theorem dWP_pager_10 : decode cWP_pager 10 = .ok (.ireturn, 1) := by decide +kernel
theorem dWP_pager_11 : decode cWP_pager 11 = .ok (.aload_n 0, 1) := by decide +kernel
theorem dWP_pager_12 : decode cWP_pager 12 = .ok (.getfield 21, 3) := by decide +kernel
theorem dWP_pager_15 : decode cWP_pager 15 = .ok (.aload_n 0, 1) := by decide +kernel
theorem dWP_pager_16 : decode cWP_pager 16 = .ok (.getfield 25, 3) := by decide +kernel
theorem dWP_pager_19 : decode cWP_pager 19 = .ok (.new 19, 3) := by decide +kernel
theorem dWP_pager_22 : decode cWP_pager 22 = .ok (.dup, 1) := by decide +kernel
theorem dWP_pager_23 : decode cWP_pager 23 = .ok (.invokespecial 86, 3) := by decide +kernel
theorem dWP_pager_26 : decode cWP_pager 26 = .ok (.aastore, 1) := by decide +kernel
theorem dWP_pager_27 : decode cWP_pager 27 = .ok (.aload_n 0, 1) := by decide +kernel
theorem dWP_pager_28 : decode cWP_pager 28 = .ok (.dup, 1) := by decide +kernel
theorem dWP_pager_29 : decode cWP_pager 29 = .ok (.getfield 25, 3) := by decide +kernel
theorem dWP_pager_32 : decode cWP_pager 32 = .ok (.iconst 1, 1) := by decide +kernel
theorem dWP_pager_33 : decode cWP_pager 33 = .ok (.iadd, 1) := by decide +kernel
theorem dWP_pager_34 : decode cWP_pager 34 = .ok (.putfield 25, 3) := by decide +kernel
theorem dWP_pager_37 : decode cWP_pager 37 = .ok (.aload_n 0, 1) := by decide +kernel
theorem dWP_pager_38 : decode cWP_pager 38 = .ok (.getfield 25, 3) := by decide +kernel
theorem dWP_pager_41 : decode cWP_pager 41 = .ok (.iconst 1, 1) := by decide +kernel
theorem dWP_pager_42 : decode cWP_pager 42 = .ok (.isub, 1) := by decide +kernel
theorem dWP_pager_43 : decode cWP_pager 43 = .ok (.ireturn, 1) := by decide +kernel
theorem dWP_pagerAt_0 : decode cWP_pagerAt 0 = .ok (.iload_n 1, 1) := by decide +kernel
theorem dWP_pagerAt_1 : decode cWP_pagerAt 1 = .ok (.ifCond .lt 20, 3) := by decide +kernel
theorem dWP_pagerAt_4 : decode cWP_pagerAt 4 = .ok (.iload_n 1, 1) := by decide +kernel
theorem dWP_pagerAt_5 : decode cWP_pagerAt 5 = .ok (.aload_n 0, 1) := by decide +kernel
theorem dWP_pagerAt_6 : decode cWP_pagerAt 6 = .ok (.getfield 25, 3) := by decide +kernel
theorem dWP_pagerAt_9 : decode cWP_pagerAt 9 = .ok (.if_icmp .ge 12, 3) := by decide +kernel
theorem dWP_pagerAt_12 : decode cWP_pagerAt 12 = .ok (.aload_n 0, 1) := by decide +kernel
theorem dWP_pagerAt_13 : decode cWP_pagerAt 13 = .ok (.getfield 21, 3) := by decide +kernel
theorem dWP_pagerAt_16 : decode cWP_pagerAt 16 = .ok (.iload_n 1, 1) := by decide +kernel
theorem dWP_pagerAt_17 : decode cWP_pagerAt 17 = .ok (.aaload, 1) := by decide +kernel
theorem dWP_pagerAt_18 : decode cWP_pagerAt 18 = .ok (.goto 4, 3) := by decide +kernel
theorem dWP_pagerAt_21 : decode cWP_pagerAt 21 = .ok (.aconst_null, 1) := by decide +kernel
theorem dWP_pagerAt_22 : decode cWP_pagerAt 22 = .ok (.areturn, 1) := by decide +kernel
theorem dWP_repair_0 : decode cWP_repair 0 = .ok (.iload_n 1, 1) := by decide +kernel
theorem dWP_repair_1 : decode cWP_repair 1 = .ok (.invokestatic 73, 3) := by decide +kernel
theorem dWP_repair_4 : decode cWP_repair 4 = .ok (.istore_n 2, 1) := by decide +kernel
theorem dWP_repair_5 : decode cWP_repair 5 = .ok (.iload_n 2, 1) := by decide +kernel
theorem dWP_repair_6 : decode cWP_repair 6 = .ok (.iconst (-1), 1) := by decide +kernel
theorem dWP_repair_7 : decode cWP_repair 7 = .ok (.if_icmp .ne 7, 3) := by decide +kernel
theorem dWP_repair_10 : decode cWP_repair 10 = .ok (.iconst (-1), 1) := by decide +kernel
theorem dWP_repair_11 : decode cWP_repair 11 = .ok (.goto 9, 3) := by decide +kernel
theorem dWP_repair_14 : decode cWP_repair 14 = .ok (.iload_n 1, 1) := by decide +kernel
theorem dWP_repair_15 : decode cWP_repair 15 = .ok (.iload_n 2, 1) := by decide +kernel
theorem dWP_repair_16 : decode cWP_repair 16 = .ok (.ixor, 1) := by decide +kernel
theorem dWP_repair_17 : decode cWP_repair 17 = .ok (.bipush 11, 2) := by decide +kernel
theorem dWP_repair_19 : decode cWP_repair 19 = .ok (.iushr, 1) := by decide +kernel
theorem dWP_repair_20 : decode cWP_repair 20 = .ok (.ireturn, 1) := by decide +kernel
theorem dWP_sign_0 : decode cWP_sign 0 = .ok (.aload_n 0, 1) := by decide +kernel
theorem dWP_sign_1 : decode cWP_sign 1 = .ok (.iload_n 1, 1) := by decide +kernel
theorem dWP_sign_2 : decode cWP_sign 2 = .ok (.iload_n 2, 1) := by decide +kernel
theorem dWP_sign_3 : decode cWP_sign 3 = .ok (.invokevirtual 151, 3) := by decide +kernel
theorem dWP_sign_6 : decode cWP_sign 6 = .ok (.astore 4, 2) := by decide +kernel
theorem dWP_sign_8 : decode cWP_sign 8 = .ok (.aload 4, 2) := by decide +kernel
theorem dWP_sign_10 : decode cWP_sign 10 = .ok (.ifnull 16, 3) := by decide +kernel
theorem dWP_sign_13 : decode cWP_sign 13 = .ok (.iload_n 3, 1) := by decide +kernel
theorem dWP_sign_14 : decode cWP_sign 14 = .ok (.ifCond .lt 12, 3) := by decide +kernel
theorem dWP_sign_17 : decode cWP_sign 17 = .ok (.iload_n 3, 1) := by decide +kernel
theorem dWP_sign_18 : decode cWP_sign 18 = .ok (.aload 4, 2) := by decide +kernel
theorem dWP_sign_20 : decode cWP_sign 20 = .ok (.getfield 163, 3) := by decide +kernel
theorem dWP_sign_23 : decode cWP_sign 23 = .ok (.if_icmp .lt 7, 3) := by decide +kernel
theorem dWP_sign_26 : decode cWP_sign 26 = .ok (.iconst (-1), 1) := by decide +kernel
theorem dWP_sign_27 : decode cWP_sign 27 = .ok (.goto 10, 3) := by decide +kernel
theorem dWP_sign_30 : decode cWP_sign 30 = .ok (.aload 4, 2) := by decide +kernel
theorem dWP_sign_32 : decode cWP_sign 32 = .ok (.getfield 170, 3) := by decide +kernel
theorem dWP_sign_35 : decode cWP_sign 35 = .ok (.iload_n 3, 1) := by decide +kernel
theorem dWP_sign_36 : decode cWP_sign 36 = .ok (.iaload, 1) := by decide +kernel
theorem dWP_sign_37 : decode cWP_sign 37 = .ok (.ireturn, 1) := by decide +kernel
theorem dWP_storedAt_0 : decode cWP_storedAt 0 = .ok (.aload_n 0, 1) := by decide +kernel
theorem dWP_storedAt_1 : decode cWP_storedAt 1 = .ok (.iload_n 1, 1) := by decide +kernel
theorem dWP_storedAt_2 : decode cWP_storedAt 2 = .ok (.invokevirtual 87, 3) := by decide +kernel
theorem dWP_storedAt_5 : decode cWP_storedAt 5 = .ok (.astore_n 3, 1) := by decide +kernel
theorem dWP_storedAt_6 : decode cWP_storedAt 6 = .ok (.aload_n 3, 1) := by decide +kernel
theorem dWP_storedAt_7 : decode cWP_storedAt 7 = .ok (.ifnonnull 7, 3) := by decide +kernel
theorem dWP_storedAt_10 : decode cWP_storedAt 10 = .ok (.aconst_null, 1) := by decide +kernel
theorem dWP_storedAt_11 : decode cWP_storedAt 11 = .ok (.goto 8, 3) := by decide +kernel
theorem dWP_storedAt_14 : decode cWP_storedAt 14 = .ok (.aload_n 3, 1) := by decide +kernel
theorem dWP_storedAt_15 : decode cWP_storedAt 15 = .ok (.iload_n 2, 1) := by decide +kernel
theorem dWP_storedAt_16 : decode cWP_storedAt 16 = .ok (.invokevirtual 201, 3) := by decide +kernel
theorem dWP_storedAt_19 : decode cWP_storedAt 19 = .ok (.areturn, 1) := by decide +kernel
theorem dWP_transmit_0 : decode cWP_transmit 0 = .ok (.iload_n 1, 1) := by decide +kernel
theorem dWP_transmit_1 : decode cWP_transmit 1 = .ok (.iconst 1, 1) := by decide +kernel
theorem dWP_transmit_2 : decode cWP_transmit 2 = .ok (.if_icmp .lt 8, 3) := by decide +kernel
theorem dWP_transmit_5 : decode cWP_transmit 5 = .ok (.iload_n 1, 1) := by decide +kernel
theorem dWP_transmit_6 : decode cWP_transmit 6 = .ok (.iconst 4, 1) := by decide +kernel
theorem dWP_transmit_7 : decode cWP_transmit 7 = .ok (.if_icmp .le 5, 3) := by decide +kernel
theorem dWP_transmit_10 : decode cWP_transmit 10 = .ok (.iconst (-1), 1) := by decide +kernel
theorem dWP_transmit_11 : decode cWP_transmit 11 = .ok (.ireturn, 1) := by decide +kernel
theorem dWP_transmit_12 : decode cWP_transmit 12 = .ok (.aload_n 0, 1) := by decide +kernel
theorem dWP_transmit_13 : decode cWP_transmit 13 = .ok (.iload_n 1, 1) := by decide +kernel
theorem dWP_transmit_14 : decode cWP_transmit 14 = .ok (.invokevirtual 121, 3) := by decide +kernel
theorem dWP_transmit_17 : decode cWP_transmit 17 = .ok (.aload_n 0, 1) := by decide +kernel
theorem dWP_transmit_18 : decode cWP_transmit 18 = .ok (.getfield 57, 3) := by decide +kernel
theorem dWP_transmit_21 : decode cWP_transmit 21 = .ok (.aload_n 0, 1) := by decide +kernel
theorem dWP_transmit_22 : decode cWP_transmit 22 = .ok (.getfield 50, 3) := by decide +kernel
theorem dWP_transmit_25 : decode cWP_transmit 25 = .ok (.getfield 125, 3) := by decide +kernel
theorem dWP_transmit_28 : decode cWP_transmit 28 = .ok (.iload_n 1, 1) := by decide +kernel
theorem dWP_transmit_29 : decode cWP_transmit 29 = .ok (.invokevirtual 128, 3) := by decide +kernel
theorem dWP_transmit_32 : decode cWP_transmit 32 = .ok (.aload_n 0, 1) := by decide +kernel
theorem dWP_transmit_33 : decode cWP_transmit 33 = .ok (.getfield 57, 3) := by decide +kernel
theorem dWP_transmit_36 : decode cWP_transmit 36 = .ok (.getfield 132, 3) := by decide +kernel
theorem dWP_transmit_39 : decode cWP_transmit 39 = .ok (.ireturn, 1) := by decide +kernel
theorem dWP_unload_0 : decode cWP_unload 0 = .ok (.aload_n 0, 1) := by decide +kernel
theorem dWP_unload_1 : decode cWP_unload 1 = .ok (.getfield 44, 3) := by decide +kernel
theorem dWP_unload_4 : decode cWP_unload 4 = .ok (.istore_n 1, 1) := by decide +kernel
theorem dWP_unload_5 : decode cWP_unload 5 = .ok (.aload_n 0, 1) := by decide +kernel
theorem dWP_unload_6 : decode cWP_unload 6 = .ok (.iconst 0, 1) := by decide +kernel
theorem dWP_unload_7 : decode cWP_unload 7 = .ok (.putfield 44, 3) := by decide +kernel
theorem dWP_unload_10 : decode cWP_unload 10 = .ok (.iload_n 1, 1) := by decide +kernel
theorem dWP_unload_11 : decode cWP_unload 11 = .ok (.ireturn, 1) := by decide +kernel
theorem dWP_waiting_0 : decode cWP_waiting 0 = .ok (.aload_n 0, 1) := by decide +kernel
theorem dWP_waiting_1 : decode cWP_waiting 1 = .ok (.getfield 37, 3) := by decide +kernel
theorem dWP_waiting_4 : decode cWP_waiting 4 = .ok (.ireturn, 1) := by decide +kernel
theorem dAi_init_0 : decode cAi_init 0 = .ok (.aload_n 0, 1) := by decide +kernel
theorem dAi_init_1 : decode cAi_init 1 = .ok (.invokespecial 5, 3) := by decide +kernel
theorem dAi_init_4 : decode cAi_init 4 = .ok (.aload_n 0, 1) := by decide +kernel
theorem dAi_init_5 : decode cAi_init 5 = .ok (.bipush 70, 2) := by decide +kernel
theorem dAi_init_7 : decode cAi_init 7 = .ok (.newarray .int, 2) := by decide +kernel
theorem dAi_init_9 : decode cAi_init 9 = .ok (.putfield 11, 3) := by decide +kernel
theorem dAi_init_12 : decode cAi_init 12 = .ok (.aload_n 0, 1) := by decide +kernel
theorem dAi_init_13 : decode cAi_init 13 = .ok (.iconst 0, 1) := by decide +kernel
theorem dAi_init_14 : decode cAi_init 14 = .ok (.putfield 15, 3) := by decide +kernel
theorem dAi_init_17 : decode cAi_init 17 = .ok (.return_, 1) := by decide +kernel
theorem dAi_bitAt_0 : decode cAi_bitAt 0 = .ok (.aload_n 0, 1) := by decide +kernel
theorem dAi_bitAt_1 : decode cAi_bitAt 1 = .ok (.getfield 11, 3) := by decide +kernel
theorem dAi_bitAt_4 : decode cAi_bitAt 4 = .ok (.iload_n 1, 1) := by decide +kernel
theorem dAi_bitAt_5 : decode cAi_bitAt 5 = .ok (.bipush 32, 2) := by decide +kernel
theorem dAi_bitAt_7 : decode cAi_bitAt 7 = .ok (.idiv, 1) := by decide +kernel
theorem dAi_bitAt_8 : decode cAi_bitAt 8 = .ok (.iaload, 1) := by decide +kernel
theorem dAi_bitAt_9 : decode cAi_bitAt 9 = .ok (.bipush 31, 2) := by decide +kernel
theorem dAi_bitAt_11 : decode cAi_bitAt 11 = .ok (.iload_n 1, 1) := by decide +kernel
theorem dAi_bitAt_12 : decode cAi_bitAt 12 = .ok (.bipush 32, 2) := by decide +kernel
theorem dAi_bitAt_14 : decode cAi_bitAt 14 = .ok (.irem, 1) := by decide +kernel
theorem dAi_bitAt_15 : decode cAi_bitAt 15 = .ok (.isub, 1) := by decide +kernel
theorem dAi_bitAt_16 : decode cAi_bitAt 16 = .ok (.iushr, 1) := by decide +kernel
theorem dAi_bitAt_17 : decode cAi_bitAt 17 = .ok (.iconst 1, 1) := by decide +kernel
theorem dAi_bitAt_18 : decode cAi_bitAt 18 = .ok (.iand, 1) := by decide +kernel
theorem dAi_bitAt_19 : decode cAi_bitAt 19 = .ok (.ireturn, 1) := by decide +kernel
theorem dAi_changeBit_0 : decode cAi_changeBit 0 = .ok (.aload_n 0, 1) := by decide +kernel
theorem dAi_changeBit_1 : decode cAi_changeBit 1 = .ok (.getfield 11, 3) := by decide +kernel
theorem dAi_changeBit_4 : decode cAi_changeBit 4 = .ok (.iload_n 1, 1) := by decide +kernel
theorem dAi_changeBit_5 : decode cAi_changeBit 5 = .ok (.bipush 32, 2) := by decide +kernel
theorem dAi_changeBit_7 : decode cAi_changeBit 7 = .ok (.idiv, 1) := by decide +kernel
theorem dAi_changeBit_8 : decode cAi_changeBit 8 = .ok (.dup2, 1) := by decide +kernel
theorem dAi_changeBit_9 : decode cAi_changeBit 9 = .ok (.iaload, 1) := by decide +kernel
theorem dAi_changeBit_10 : decode cAi_changeBit 10 = .ok (.iconst 1, 1) := by decide +kernel
theorem dAi_changeBit_11 : decode cAi_changeBit 11 = .ok (.bipush 31, 2) := by decide +kernel
theorem dAi_changeBit_13 : decode cAi_changeBit 13 = .ok (.iload_n 1, 1) := by decide +kernel
theorem dAi_changeBit_14 : decode cAi_changeBit 14 = .ok (.bipush 32, 2) := by decide +kernel
theorem dAi_changeBit_16 : decode cAi_changeBit 16 = .ok (.irem, 1) := by decide +kernel
theorem dAi_changeBit_17 : decode cAi_changeBit 17 = .ok (.isub, 1) := by decide +kernel
theorem dAi_changeBit_18 : decode cAi_changeBit 18 = .ok (.ishl, 1) := by decide +kernel
theorem dAi_changeBit_19 : decode cAi_changeBit 19 = .ok (.ixor, 1) := by decide +kernel
theorem dAi_changeBit_20 : decode cAi_changeBit 20 = .ok (.iastore, 1) := by decide +kernel
theorem dAi_changeBit_21 : decode cAi_changeBit 21 = .ok (.return_, 1) := by decide +kernel
theorem dAi_hasBit_0 : decode cAi_hasBit 0 = .ok (.iload_n 1, 1) := by decide +kernel
theorem dAi_hasBit_1 : decode cAi_hasBit 1 = .ok (.ifCond .lt 15, 3) := by decide +kernel
theorem dAi_hasBit_4 : decode cAi_hasBit 4 = .ok (.iload_n 1, 1) := by decide +kernel
theorem dAi_hasBit_5 : decode cAi_hasBit 5 = .ok (.aload_n 0, 1) := by decide +kernel
theorem dAi_hasBit_6 : decode cAi_hasBit 6 = .ok (.getfield 15, 3) := by decide +kernel
theorem dAi_hasBit_9 : decode cAi_hasBit 9 = .ok (.if_icmp .ge 7, 3) := by decide +kernel
theorem dAi_hasBit_12 : decode cAi_hasBit 12 = .ok (.iconst 1, 1) := by decide +kernel
theorem dAi_hasBit_13 : decode cAi_hasBit 13 = .ok (.goto 4, 3) := by decide +kernel
theorem dAi_hasBit_16 : decode cAi_hasBit 16 = .ok (.iconst 0, 1) := by decide +kernel
theorem dAi_hasBit_17 : decode cAi_hasBit 17 = .ok (.ireturn, 1) := by decide +kernel
theorem dAi_hasWord_0 : decode cAi_hasWord 0 = .ok (.iload_n 1, 1) := by decide +kernel
theorem dAi_hasWord_1 : decode cAi_hasWord 1 = .ok (.ifCond .lt 18, 3) := by decide +kernel
theorem dAi_hasWord_4 : decode cAi_hasWord 4 = .ok (.iload_n 1, 1) := by decide +kernel
theorem dAi_hasWord_5 : decode cAi_hasWord 5 = .ok (.aload_n 0, 1) := by decide +kernel
theorem dAi_hasWord_6 : decode cAi_hasWord 6 = .ok (.getfield 15, 3) := by decide +kernel
theorem dAi_hasWord_9 : decode cAi_hasWord 9 = .ok (.bipush 32, 2) := by decide +kernel
theorem dAi_hasWord_11 : decode cAi_hasWord 11 = .ok (.isub, 1) := by decide +kernel
theorem dAi_hasWord_12 : decode cAi_hasWord 12 = .ok (.if_icmp .gt 7, 3) := by decide +kernel
theorem dAi_hasWord_15 : decode cAi_hasWord 15 = .ok (.iconst 1, 1) := by decide +kernel
theorem dAi_hasWord_16 : decode cAi_hasWord 16 = .ok (.goto 4, 3) := by decide +kernel
theorem dAi_hasWord_19 : decode cAi_hasWord 19 = .ok (.iconst 0, 1) := by decide +kernel
theorem dAi_hasWord_20 : decode cAi_hasWord 20 = .ok (.ireturn, 1) := by decide +kernel
theorem dAi_send_0 : decode cAi_send 0 = .ok (.iconst 0, 1) := by decide +kernel
theorem dAi_send_1 : decode cAi_send 1 = .ok (.istore_n 3, 1) := by decide +kernel
theorem dAi_send_2 : decode cAi_send 2 = .ok (.iconst 0, 1) := by decide +kernel
theorem dAi_send_3 : decode cAi_send 3 = .ok (.istore 4, 2) := by decide +kernel
theorem dAi_send_5 : decode cAi_send 5 = .ok (.iload 4, 2) := by decide +kernel
theorem dAi_send_7 : decode cAi_send 7 = .ok (.iconst 2, 1) := by decide +kernel
theorem dAi_send_8 : decode cAi_send 8 = .ok (.if_icmp .ge 20, 3) := by decide +kernel
theorem dAi_send_11 : decode cAi_send 11 = .ok (.aload_n 0, 1) := by decide +kernel
theorem dAi_send_12 : decode cAi_send 12 = .ok (.getfield 11, 3) := by decide +kernel
theorem dAi_send_15 : decode cAi_send 15 = .ok (.iload_n 3, 1) := by decide +kernel
theorem dAi_send_16 : decode cAi_send 16 = .ok (.iinc 3 1, 3) := by decide +kernel
theorem dAi_send_19 : decode cAi_send 19 = .ok (.ldc 19, 2) := by decide +kernel
theorem dAi_send_21 : decode cAi_send 21 = .ok (.iastore, 1) := by decide +kernel
theorem dAi_send_22 : decode cAi_send 22 = .ok (.iinc 4 1, 3) := by decide +kernel
theorem dAi_send_25 : decode cAi_send 25 = .ok (.goto (-20), 3) := by decide +kernel
theorem dAi_send_28 : decode cAi_send 28 = .ok (.iconst 0, 1) := by decide +kernel
theorem dAi_send_29 : decode cAi_send 29 = .ok (.istore 4, 2) := by decide +kernel
theorem dAi_send_31 : decode cAi_send 31 = .ok (.iload 4, 2) := by decide +kernel
theorem dAi_send_33 : decode cAi_send 33 = .ok (.iload_n 2, 1) := by decide +kernel
theorem dAi_send_34 : decode cAi_send 34 = .ok (.if_icmp .ge 39, 3) := by decide +kernel
theorem dAi_send_37 : decode cAi_send 37 = .ok (.aload_n 0, 1) := by decide +kernel
theorem dAi_send_38 : decode cAi_send 38 = .ok (.getfield 11, 3) := by decide +kernel
theorem dAi_send_41 : decode cAi_send 41 = .ok (.iload_n 3, 1) := by decide +kernel
theorem dAi_send_42 : decode cAi_send 42 = .ok (.iinc 3 1, 3) := by decide +kernel
theorem dAi_send_45 : decode cAi_send 45 = .ok (.ldc 20, 2) := by decide +kernel
theorem dAi_send_47 : decode cAi_send 47 = .ok (.iastore, 1) := by decide +kernel
theorem dAi_send_48 : decode cAi_send 48 = .ok (.aload_n 1, 1) := by decide +kernel
theorem dAi_send_49 : decode cAi_send 49 = .ok (.iload 4, 2) := by decide +kernel
theorem dAi_send_51 : decode cAi_send 51 = .ok (.bipush 16, 2) := by decide +kernel
theorem dAi_send_53 : decode cAi_send 53 = .ok (.imul, 1) := by decide +kernel
theorem dAi_send_54 : decode cAi_send 54 = .ok (.aload_n 0, 1) := by decide +kernel
theorem dAi_send_55 : decode cAi_send 55 = .ok (.getfield 11, 3) := by decide +kernel
theorem dAi_send_58 : decode cAi_send 58 = .ok (.iload_n 3, 1) := by decide +kernel
theorem dAi_send_59 : decode cAi_send 59 = .ok (.bipush 16, 2) := by decide +kernel
theorem dAi_send_61 : decode cAi_send 61 = .ok (.invokestatic 21, 3) := by decide +kernel
theorem dAi_send_64 : decode cAi_send 64 = .ok (.iinc 3 16, 3) := by decide +kernel
theorem dAi_send_67 : decode cAi_send 67 = .ok (.iinc 4 1, 3) := by decide +kernel
theorem dAi_send_70 : decode cAi_send 70 = .ok (.goto (-39), 3) := by decide +kernel
theorem dAi_send_73 : decode cAi_send 73 = .ok (.aload_n 0, 1) := by decide +kernel
theorem dAi_send_74 : decode cAi_send 74 = .ok (.iload_n 3, 1) := by decide +kernel
theorem dAi_send_75 : decode cAi_send 75 = .ok (.bipush 32, 2) := by decide +kernel
theorem dAi_send_77 : decode cAi_send 77 = .ok (.imul, 1) := by decide +kernel
theorem dAi_send_78 : decode cAi_send 78 = .ok (.putfield 15, 3) := by decide +kernel
theorem dAi_send_81 : decode cAi_send 81 = .ok (.return_, 1) := by decide +kernel
theorem dAi_wordAt_0 : decode cAi_wordAt 0 = .ok (.iload_n 1, 1) := by decide +kernel
theorem dAi_wordAt_1 : decode cAi_wordAt 1 = .ok (.bipush 32, 2) := by decide +kernel
theorem dAi_wordAt_3 : decode cAi_wordAt 3 = .ok (.idiv, 1) := by decide +kernel
theorem dAi_wordAt_4 : decode cAi_wordAt 4 = .ok (.istore_n 2, 1) := by decide +kernel
theorem dAi_wordAt_5 : decode cAi_wordAt 5 = .ok (.iload_n 1, 1) := by decide +kernel
theorem dAi_wordAt_6 : decode cAi_wordAt 6 = .ok (.bipush 32, 2) := by decide +kernel
theorem dAi_wordAt_8 : decode cAi_wordAt 8 = .ok (.irem, 1) := by decide +kernel
theorem dAi_wordAt_9 : decode cAi_wordAt 9 = .ok (.istore_n 3, 1) := by decide +kernel
theorem dAi_wordAt_10 : decode cAi_wordAt 10 = .ok (.iload_n 3, 1) := by decide +kernel
theorem dAi_wordAt_11 : decode cAi_wordAt 11 = .ok (.ifCond .ne 12, 3) := by decide +kernel
theorem dAi_wordAt_14 : decode cAi_wordAt 14 = .ok (.aload_n 0, 1) := by decide +kernel
theorem dAi_wordAt_15 : decode cAi_wordAt 15 = .ok (.getfield 11, 3) := by decide +kernel
theorem dAi_wordAt_18 : decode cAi_wordAt 18 = .ok (.iload_n 2, 1) := by decide +kernel
theorem dAi_wordAt_19 : decode cAi_wordAt 19 = .ok (.iaload, 1) := by decide +kernel
theorem dAi_wordAt_20 : decode cAi_wordAt 20 = .ok (.goto 25, 3) := by decide +kernel
theorem dAi_wordAt_23 : decode cAi_wordAt 23 = .ok (.aload_n 0, 1) := by decide +kernel
theorem dAi_wordAt_24 : decode cAi_wordAt 24 = .ok (.getfield 11, 3) := by decide +kernel
theorem dAi_wordAt_27 : decode cAi_wordAt 27 = .ok (.iload_n 2, 1) := by decide +kernel
theorem dAi_wordAt_28 : decode cAi_wordAt 28 = .ok (.iaload, 1) := by decide +kernel
theorem dAi_wordAt_29 : decode cAi_wordAt 29 = .ok (.iload_n 3, 1) := by decide +kernel
theorem dAi_wordAt_30 : decode cAi_wordAt 30 = .ok (.ishl, 1) := by decide +kernel
theorem dAi_wordAt_31 : decode cAi_wordAt 31 = .ok (.aload_n 0, 1) := by decide +kernel
theorem dAi_wordAt_32 : decode cAi_wordAt 32 = .ok (.getfield 11, 3) := by decide +kernel
theorem dAi_wordAt_35 : decode cAi_wordAt 35 = .ok (.iload_n 2, 1) := by decide +kernel
theorem dAi_wordAt_36 : decode cAi_wordAt 36 = .ok (.iconst 1, 1) := by decide +kernel
theorem dAi_wordAt_37 : decode cAi_wordAt 37 = .ok (.iadd, 1) := by decide +kernel
theorem dAi_wordAt_38 : decode cAi_wordAt 38 = .ok (.iaload, 1) := by decide +kernel
theorem dAi_wordAt_39 : decode cAi_wordAt 39 = .ok (.bipush 32, 2) := by decide +kernel
theorem dAi_wordAt_41 : decode cAi_wordAt 41 = .ok (.iload_n 3, 1) := by decide +kernel
theorem dAi_wordAt_42 : decode cAi_wordAt 42 = .ok (.isub, 1) := by decide +kernel
theorem dAi_wordAt_43 : decode cAi_wordAt 43 = .ok (.iushr, 1) := by decide +kernel
theorem dAi_wordAt_44 : decode cAi_wordAt 44 = .ok (.ior, 1) := by decide +kernel
theorem dAi_wordAt_45 : decode cAi_wordAt 45 = .ok (.ireturn, 1) := by decide +kernel
theorem dHd_init_0 : decode cHd_init 0 = .ok (.aload_n 0, 1) := by decide +kernel
theorem dHd_init_1 : decode cHd_init 1 = .ok (.invokespecial 3, 3) := by decide +kernel
theorem dHd_init_4 : decode cHd_init 4 = .ok (.aload_n 0, 1) := by decide +kernel
theorem dHd_init_5 : decode cHd_init 5 = .ok (.lconst 0, 1) := by decide +kernel
theorem dHd_init_6 : decode cHd_init 6 = .ok (.putfield 9, 3) := by decide +kernel
theorem dHd_init_9 : decode cHd_init 9 = .ok (.aload_n 0, 1) := by decide +kernel
theorem dHd_init_10 : decode cHd_init 10 = .ok (.iconst (-1), 1) := by decide +kernel
theorem dHd_init_11 : decode cHd_init 11 = .ok (.putfield 15, 3) := by decide +kernel
theorem dHd_init_14 : decode cHd_init 14 = .ok (.aload_n 0, 1) := by decide +kernel
theorem dHd_init_15 : decode cHd_init 15 = .ok (.aload_n 1, 1) := by decide +kernel
theorem dHd_init_16 : decode cHd_init 16 = .ok (.putfield 19, 3) := by decide +kernel
theorem dHd_init_19 : decode cHd_init 19 = .ok (.return_, 1) := by decide +kernel
theorem dHd_noteNumber_0 : decode cHd_noteNumber 0 = .ok (.aload_n 0, 1) := by decide +kernel
theorem dHd_noteNumber_1 : decode cHd_noteNumber 1 = .ok (.getfield 15, 3) := by decide +kernel
theorem dHd_noteNumber_4 : decode cHd_noteNumber 4 = .ok (.iconst (-1), 1) := by decide +kernel
theorem dHd_noteNumber_5 : decode cHd_noteNumber 5 = .ok (.if_icmp .ne 7, 3) := by decide +kernel
theorem dHd_noteNumber_8 : decode cHd_noteNumber 8 = .ok (.iconst 0, 1) := by decide +kernel
theorem dHd_noteNumber_9 : decode cHd_noteNumber 9 = .ok (.goto 14, 3) := by decide +kernel
theorem dHd_noteNumber_12 : decode cHd_noteNumber 12 = .ok (.iload_n 1, 1) := by decide +kernel
theorem dHd_noteNumber_13 : decode cHd_noteNumber 13 = .ok (.aload_n 0, 1) := by decide +kernel
theorem dHd_noteNumber_14 : decode cHd_noteNumber 14 = .ok (.getfield 15, 3) := by decide +kernel
theorem dHd_noteNumber_17 : decode cHd_noteNumber 17 = .ok (.isub, 1) := by decide +kernel
theorem dHd_noteNumber_18 : decode cHd_noteNumber 18 = .ok (.bipush 64, 2) := by decide +kernel
theorem dHd_noteNumber_20 : decode cHd_noteNumber 20 = .ok (.invokestatic 23, 3) := by decide +kernel
theorem dHd_noteNumber_23 : decode cHd_noteNumber 23 = .ok (.istore_n 2, 1) := by decide +kernel
theorem dHd_noteNumber_24 : decode cHd_noteNumber 24 = .ok (.aload_n 0, 1) := by decide +kernel
theorem dHd_noteNumber_25 : decode cHd_noteNumber 25 = .ok (.getfield 15, 3) := by decide +kernel
theorem dHd_noteNumber_28 : decode cHd_noteNumber 28 = .ok (.iconst (-1), 1) := by decide +kernel
theorem dHd_noteNumber_29 : decode cHd_noteNumber 29 = .ok (.if_icmp .ne 11, 3) := by decide +kernel
theorem dHd_noteNumber_32 : decode cHd_noteNumber 32 = .ok (.aload_n 0, 1) := by decide +kernel
theorem dHd_noteNumber_33 : decode cHd_noteNumber 33 = .ok (.iload_n 1, 1) := by decide +kernel
theorem dHd_noteNumber_34 : decode cHd_noteNumber 34 = .ok (.putfield 15, 3) := by decide +kernel
theorem dHd_noteNumber_37 : decode cHd_noteNumber 37 = .ok (.goto 52, 3) := by decide +kernel
theorem dHd_noteNumber_40 : decode cHd_noteNumber 40 = .ok (.iload_n 2, 1) := by decide +kernel
theorem dHd_noteNumber_41 : decode cHd_noteNumber 41 = .ok (.iconst 1, 1) := by decide +kernel
theorem dHd_noteNumber_42 : decode cHd_noteNumber 42 = .ok (.if_icmp .lt 47, 3) := by decide +kernel
theorem dHd_noteNumber_45 : decode cHd_noteNumber 45 = .ok (.iload_n 2, 1) := by decide +kernel
theorem dHd_noteNumber_46 : decode cHd_noteNumber 46 = .ok (.bipush 32, 2) := by decide +kernel
theorem dHd_noteNumber_48 : decode cHd_noteNumber 48 = .ok (.if_icmp .ge 41, 3) := by decide +kernel
theorem dHd_noteNumber_51 : decode cHd_noteNumber 51 = .ok (.iconst 1, 1) := by decide +kernel
theorem dHd_noteNumber_52 : decode cHd_noteNumber 52 = .ok (.istore_n 3, 1) := by decide +kernel
theorem dHd_noteNumber_53 : decode cHd_noteNumber 53 = .ok (.iload_n 3, 1) := by decide +kernel
end
section
theorem dHd_noteNumber_54 : decode cHd_noteNumber 54 = .ok (.iload_n 2, 1) := by decide +kernel
theorem dHd_noteNumber_55 : decode cHd_noteNumber 55 = .ok (.if_icmp .ge 29, 3) := by decide +kernel
theorem dHd_noteNumber_58 : decode cHd_noteNumber 58 = .ok (.aload_n 0, 1) := by decide +kernel
theorem dHd_noteNumber_59 : decode cHd_noteNumber 59 = .ok (.dup, 1) := by decide +kernel
theorem dHd_noteNumber_60 : decode cHd_noteNumber 60 = .ok (.getfield 9, 3) := by decide +kernel
theorem dHd_noteNumber_63 : decode cHd_noteNumber 63 = .ok (.lconst 1, 1) := by decide +kernel
theorem dHd_noteNumber_64 : decode cHd_noteNumber 64 = .ok (.aload_n 0, 1) := by decide +kernel
theorem dHd_noteNumber_65 : decode cHd_noteNumber 65 = .ok (.getfield 15, 3) := by decide +kernel
theorem dHd_noteNumber_68 : decode cHd_noteNumber 68 = .ok (.iload_n 3, 1) := by decide +kernel
theorem dHd_noteNumber_69 : decode cHd_noteNumber 69 = .ok (.iadd, 1) := by decide +kernel
theorem dHd_noteNumber_70 : decode cHd_noteNumber 70 = .ok (.bipush 64, 2) := by decide +kernel
theorem dHd_noteNumber_72 : decode cHd_noteNumber 72 = .ok (.irem, 1) := by decide +kernel
theorem dHd_noteNumber_73 : decode cHd_noteNumber 73 = .ok (.lshl, 1) := by decide +kernel
theorem dHd_noteNumber_74 : decode cHd_noteNumber 74 = .ok (.lor, 1) := by decide +kernel
theorem dHd_noteNumber_75 : decode cHd_noteNumber 75 = .ok (.putfield 9, 3) := by decide +kernel
theorem dHd_noteNumber_78 : decode cHd_noteNumber 78 = .ok (.iinc 3 1, 3) := by decide +kernel
theorem dHd_noteNumber_81 : decode cHd_noteNumber 81 = .ok (.goto (-28), 3) := by decide +kernel
theorem dHd_noteNumber_84 : decode cHd_noteNumber 84 = .ok (.aload_n 0, 1) := by decide +kernel
theorem dHd_noteNumber_85 : decode cHd_noteNumber 85 = .ok (.iload_n 1, 1) := by decide +kernel
theorem dHd_noteNumber_86 : decode cHd_noteNumber 86 = .ok (.putfield 15, 3) := by decide +kernel
theorem dHd_noteNumber_89 : decode cHd_noteNumber 89 = .ok (.aload_n 0, 1) := by decide +kernel
theorem dHd_noteNumber_90 : decode cHd_noteNumber 90 = .ok (.dup, 1) := by decide +kernel
theorem dHd_noteNumber_91 : decode cHd_noteNumber 91 = .ok (.getfield 9, 3) := by decide +kernel
theorem dHd_noteNumber_94 : decode cHd_noteNumber 94 = .ok (.lconst 1, 1) := by decide +kernel
theorem dHd_noteNumber_95 : decode cHd_noteNumber 95 = .ok (.iload_n 1, 1) := by decide +kernel
theorem dHd_noteNumber_96 : decode cHd_noteNumber 96 = .ok (.lshl, 1) := by decide +kernel
theorem dHd_noteNumber_97 : decode cHd_noteNumber 97 = .ok (.ldc2_w 29, 3) := by decide +kernel
theorem dHd_noteNumber_100 : decode cHd_noteNumber 100 = .ok (.lxor, 1) := by decide +kernel
theorem dHd_noteNumber_101 : decode cHd_noteNumber 101 = .ok (.land, 1) := by decide +kernel
theorem dHd_noteNumber_102 : decode cHd_noteNumber 102 = .ok (.putfield 9, 3) := by decide +kernel
theorem dHd_noteNumber_105 : decode cHd_noteNumber 105 = .ok (.return_, 1) := by decide +kernel
theorem dId_init_0 : decode cId_init 0 = .ok (.aload_n 0, 1) := by decide +kernel
theorem dId_init_1 : decode cId_init 1 = .ok (.invokespecial 3, 3) := by decide +kernel
theorem dId_init_4 : decode cId_init 4 = .ok (.aload_n 0, 1) := by decide +kernel
theorem dId_init_5 : decode cId_init 5 = .ok (.iconst 0, 1) := by decide +kernel
theorem dId_init_6 : decode cId_init 6 = .ok (.putfield 9, 3) := by decide +kernel
theorem dId_init_9 : decode cId_init 9 = .ok (.aload_n 0, 1) := by decide +kernel
theorem dId_init_10 : decode cId_init 10 = .ok (.iconst 0, 1) := by decide +kernel
theorem dId_init_11 : decode cId_init 11 = .ok (.putfield 15, 3) := by decide +kernel
theorem dId_init_14 : decode cId_init 14 = .ok (.aload_n 0, 1) := by decide +kernel
theorem dId_init_15 : decode cId_init 15 = .ok (.iload_n 1, 1) := by decide +kernel
theorem dId_init_16 : decode cId_init 16 = .ok (.putfield 18, 3) := by decide +kernel
theorem dId_init_19 : decode cId_init 19 = .ok (.aload_n 0, 1) := by decide +kernel
theorem dId_init_20 : decode cId_init 20 = .ok (.iload_n 2, 1) := by decide +kernel
theorem dId_init_21 : decode cId_init 21 = .ok (.putfield 21, 3) := by decide +kernel
theorem dId_init_24 : decode cId_init 24 = .ok (.aload_n 0, 1) := by decide +kernel
theorem dId_init_25 : decode cId_init 25 = .ok (.iload_n 3, 1) := by decide +kernel
theorem dId_init_26 : decode cId_init 26 = .ok (.iconst 1, 1) := by decide +kernel
theorem dId_init_27 : decode cId_init 27 = .ok (.if_icmp .ne 7, 3) := by decide +kernel
theorem dId_init_30 : decode cId_init 30 = .ok (.iconst 1, 1) := by decide +kernel
theorem dId_init_31 : decode cId_init 31 = .ok (.goto 4, 3) := by decide +kernel
theorem dId_init_34 : decode cId_init 34 = .ok (.iconst 0, 1) := by decide +kernel
theorem dId_init_35 : decode cId_init 35 = .ok (.putfield 24, 3) := by decide +kernel
theorem dId_init_38 : decode cId_init 38 = .ok (.aload_n 0, 1) := by decide +kernel
theorem dId_init_39 : decode cId_init 39 = .ok (.iload_n 2, 1) := by decide +kernel
theorem dId_init_40 : decode cId_init 40 = .ok (.bipush 8, 2) := by decide +kernel
theorem dId_init_42 : decode cId_init 42 = .ok (.irem, 1) := by decide +kernel
theorem dId_init_43 : decode cId_init 43 = .ok (.putfield 28, 3) := by decide +kernel
theorem dId_init_46 : decode cId_init 46 = .ok (.aload_n 0, 1) := by decide +kernel
theorem dId_init_47 : decode cId_init 47 = .ok (.iload_n 2, 1) := by decide +kernel
theorem dId_init_48 : decode cId_init 48 = .ok (.bipush 8, 2) := by decide +kernel
theorem dId_init_50 : decode cId_init 50 = .ok (.idiv, 1) := by decide +kernel
theorem dId_init_51 : decode cId_init 51 = .ok (.iconst 4, 1) := by decide +kernel
theorem dId_init_52 : decode cId_init 52 = .ok (.imul, 1) := by decide +kernel
theorem dId_init_53 : decode cId_init 53 = .ok (.aload_n 0, 1) := by decide +kernel
theorem dId_init_54 : decode cId_init 54 = .ok (.getfield 24, 3) := by decide +kernel
theorem dId_init_57 : decode cId_init 57 = .ok (.ifCond .eq 7, 3) := by decide +kernel
theorem dId_init_60 : decode cId_init 60 = .ok (.iconst 3, 1) := by decide +kernel
theorem dId_init_61 : decode cId_init 61 = .ok (.goto 4, 3) := by decide +kernel
theorem dId_init_64 : decode cId_init 64 = .ok (.iconst 0, 1) := by decide +kernel
theorem dId_init_65 : decode cId_init 65 = .ok (.iadd, 1) := by decide +kernel
theorem dId_init_66 : decode cId_init 66 = .ok (.invokestatic 31, 3) := by decide +kernel
theorem dId_init_69 : decode cId_init 69 = .ok (.putfield 35, 3) := by decide +kernel
theorem dId_init_72 : decode cId_init 72 = .ok (.aload_n 0, 1) := by decide +kernel
theorem dId_init_73 : decode cId_init 73 = .ok (.aload_n 0, 1) := by decide +kernel
theorem dId_init_74 : decode cId_init 74 = .ok (.getfield 24, 3) := by decide +kernel
theorem dId_init_77 : decode cId_init 77 = .ok (.ifCond .eq 8, 3) := by decide +kernel
theorem dId_init_80 : decode cId_init 80 = .ok (.bipush 32, 2) := by decide +kernel
theorem dId_init_82 : decode cId_init 82 = .ok (.goto 4, 3) := by decide +kernel
theorem dId_init_85 : decode cId_init 85 = .ok (.iconst 0, 1) := by decide +kernel
theorem dId_init_86 : decode cId_init 86 = .ok (.putfield 38, 3) := by decide +kernel
theorem dId_init_89 : decode cId_init 89 = .ok (.aload_n 0, 1) := by decide +kernel
theorem dId_init_90 : decode cId_init 90 = .ok (.aload_n 0, 1) := by decide +kernel
theorem dId_init_91 : decode cId_init 91 = .ok (.getfield 24, 3) := by decide +kernel
theorem dId_init_94 : decode cId_init 94 = .ok (.ifCond .eq 8, 3) := by decide +kernel
theorem dId_init_97 : decode cId_init 97 = .ok (.bipush 126, 2) := by decide +kernel
theorem dId_init_99 : decode cId_init 99 = .ok (.goto 5, 3) := by decide +kernel
theorem dId_init_102 : decode cId_init 102 = .ok (.bipush 11, 2) := by decide +kernel
theorem dId_init_104 : decode cId_init 104 = .ok (.putfield 41, 3) := by decide +kernel
theorem dId_init_107 : decode cId_init 107 = .ok (.aload_n 0, 1) := by decide +kernel
theorem dId_init_108 : decode cId_init 108 = .ok (.aload_n 0, 1) := by decide +kernel
theorem dId_init_109 : decode cId_init 109 = .ok (.getfield 24, 3) := by decide +kernel
theorem dId_init_112 : decode cId_init 112 = .ok (.ifCond .eq 8, 3) := by decide +kernel
theorem dId_init_115 : decode cId_init 115 = .ok (.bipush 7, 2) := by decide +kernel
theorem dId_init_117 : decode cId_init 117 = .ok (.goto 4, 3) := by decide +kernel
theorem dId_init_120 : decode cId_init 120 = .ok (.iconst 4, 1) := by decide +kernel
theorem dId_init_121 : decode cId_init 121 = .ok (.putfield 44, 3) := by decide +kernel
theorem dId_init_124 : decode cId_init 124 = .ok (.aload_n 0, 1) := by decide +kernel
theorem dId_init_125 : decode cId_init 125 = .ok (.aload_n 0, 1) := by decide +kernel
theorem dId_init_126 : decode cId_init 126 = .ok (.getfield 24, 3) := by decide +kernel
theorem dId_init_129 : decode cId_init 129 = .ok (.ifCond .eq 7, 3) := by decide +kernel
theorem dId_init_132 : decode cId_init 132 = .ok (.iconst 0, 1) := by decide +kernel
theorem dId_init_133 : decode cId_init 133 = .ok (.goto 5, 3) := by decide +kernel
theorem dId_init_136 : decode cId_init 136 = .ok (.bipush 12, 2) := by decide +kernel
theorem dId_init_138 : decode cId_init 138 = .ok (.putfield 47, 3) := by decide +kernel
theorem dId_init_141 : decode cId_init 141 = .ok (.return_, 1) := by decide +kernel
theorem dId_decimal_0 : decode cId_decimal 0 = .ok (.iload_n 0, 1) := by decide +kernel
theorem dId_decimal_1 : decode cId_decimal 1 = .ok (.bipush 9, 2) := by decide +kernel
theorem dId_decimal_3 : decode cId_decimal 3 = .ok (.if_icmp .gt 18, 3) := by decide +kernel
theorem dId_decimal_6 : decode cId_decimal 6 = .ok (.iload_n 1, 1) := by decide +kernel
theorem dId_decimal_7 : decode cId_decimal 7 = .ok (.bipush 9, 2) := by decide +kernel
theorem dId_decimal_9 : decode cId_decimal 9 = .ok (.if_icmp .gt 12, 3) := by decide +kernel
theorem dId_decimal_12 : decode cId_decimal 12 = .ok (.bipush 10, 2) := by decide +kernel
theorem dId_decimal_14 : decode cId_decimal 14 = .ok (.iload_n 0, 1) := by decide +kernel
theorem dId_decimal_15 : decode cId_decimal 15 = .ok (.imul, 1) := by decide +kernel
theorem dId_decimal_16 : decode cId_decimal 16 = .ok (.iload_n 1, 1) := by decide +kernel
theorem dId_decimal_17 : decode cId_decimal 17 = .ok (.iadd, 1) := by decide +kernel
theorem dId_decimal_18 : decode cId_decimal 18 = .ok (.goto 4, 3) := by decide +kernel
theorem dId_decimal_21 : decode cId_decimal 21 = .ok (.iconst (-1), 1) := by decide +kernel
theorem dId_decimal_22 : decode cId_decimal 22 = .ok (.ireturn, 1) := by decide +kernel
theorem dId_numberIn_0 : decode cId_numberIn 0 = .ok (.iload_n 2, 1) := by decide +kernel
theorem dId_numberIn_1 : decode cId_numberIn 1 = .ok (.aload_n 0, 1) := by decide +kernel
theorem dId_numberIn_2 : decode cId_numberIn 2 = .ok (.invokevirtual 50, 3) := by decide +kernel
theorem dId_numberIn_5 : decode cId_numberIn 5 = .ok (.if_icmp .ge 5, 3) := by decide +kernel
theorem dId_numberIn_8 : decode cId_numberIn 8 = .ok (.iconst (-1), 1) := by decide +kernel
theorem dId_numberIn_9 : decode cId_numberIn 9 = .ok (.ireturn, 1) := by decide +kernel
theorem dId_numberIn_10 : decode cId_numberIn 10 = .ok (.aload_n 0, 1) := by decide +kernel
theorem dId_numberIn_11 : decode cId_numberIn 11 = .ok (.getfield 24, 3) := by decide +kernel
theorem dId_numberIn_14 : decode cId_numberIn 14 = .ok (.ifCond .eq 12, 3) := by decide +kernel
theorem dId_numberIn_17 : decode cId_numberIn 17 = .ok (.aload_n 1, 1) := by decide +kernel
theorem dId_numberIn_18 : decode cId_numberIn 18 = .ok (.iconst 0, 1) := by decide +kernel
theorem dId_numberIn_19 : decode cId_numberIn 19 = .ok (.iaload, 1) := by decide +kernel
theorem dId_numberIn_20 : decode cId_numberIn 20 = .ok (.bipush 32, 2) := by decide +kernel
theorem dId_numberIn_22 : decode cId_numberIn 22 = .ok (.isub, 1) := by decide +kernel
theorem dId_numberIn_23 : decode cId_numberIn 23 = .ok (.goto 12, 3) := by decide +kernel
theorem dId_numberIn_26 : decode cId_numberIn 26 = .ok (.aload_n 1, 1) := by decide +kernel
theorem dId_numberIn_27 : decode cId_numberIn 27 = .ok (.iconst 0, 1) := by decide +kernel
theorem dId_numberIn_28 : decode cId_numberIn 28 = .ok (.iaload, 1) := by decide +kernel
theorem dId_numberIn_29 : decode cId_numberIn 29 = .ok (.aload_n 1, 1) := by decide +kernel
theorem dId_numberIn_30 : decode cId_numberIn 30 = .ok (.iconst 1, 1) := by decide +kernel
theorem dId_numberIn_31 : decode cId_numberIn 31 = .ok (.iaload, 1) := by decide +kernel
theorem dId_numberIn_32 : decode cId_numberIn 32 = .ok (.invokestatic 54, 3) := by decide +kernel
theorem dId_numberIn_35 : decode cId_numberIn 35 = .ok (.istore_n 3, 1) := by decide +kernel
theorem dId_numberIn_36 : decode cId_numberIn 36 = .ok (.iload_n 3, 1) := by decide +kernel
theorem dId_numberIn_37 : decode cId_numberIn 37 = .ok (.ifCond .lt 13, 3) := by decide +kernel
theorem dId_numberIn_40 : decode cId_numberIn 40 = .ok (.iload_n 3, 1) := by decide +kernel
theorem dId_numberIn_41 : decode cId_numberIn 41 = .ok (.bipush 64, 2) := by decide +kernel
theorem dId_numberIn_43 : decode cId_numberIn 43 = .ok (.if_icmp .ge 7, 3) := by decide +kernel
theorem dId_numberIn_46 : decode cId_numberIn 46 = .ok (.iload_n 3, 1) := by decide +kernel
theorem dId_numberIn_47 : decode cId_numberIn 47 = .ok (.goto 4, 3) := by decide +kernel
theorem dId_numberIn_50 : decode cId_numberIn 50 = .ok (.iconst (-1), 1) := by decide +kernel
theorem dId_numberIn_51 : decode cId_numberIn 51 = .ok (.ireturn, 1) := by decide +kernel
theorem dId_numberSign_0 : decode cId_numberSign 0 = .ok (.aload_n 0, 1) := by decide +kernel
theorem dId_numberSign_1 : decode cId_numberSign 1 = .ok (.getfield 24, 3) := by decide +kernel
theorem dId_numberSign_4 : decode cId_numberSign 4 = .ok (.ifCond .eq 8, 3) := by decide +kernel
theorem dId_numberSign_7 : decode cId_numberSign 7 = .ok (.bipush 32, 2) := by decide +kernel
theorem dId_numberSign_9 : decode cId_numberSign 9 = .ok (.iload_n 2, 1) := by decide +kernel
theorem dId_numberSign_10 : decode cId_numberSign 10 = .ok (.iadd, 1) := by decide +kernel
theorem dId_numberSign_11 : decode cId_numberSign 11 = .ok (.ireturn, 1) := by decide +kernel
theorem dId_numberSign_12 : decode cId_numberSign 12 = .ok (.iload_n 1, 1) := by decide +kernel
theorem dId_numberSign_13 : decode cId_numberSign 13 = .ok (.ifCond .ne 10, 3) := by decide +kernel
theorem dId_numberSign_16 : decode cId_numberSign 16 = .ok (.iload_n 2, 1) := by decide +kernel
theorem dId_numberSign_17 : decode cId_numberSign 17 = .ok (.bipush 10, 2) := by decide +kernel
theorem dId_numberSign_19 : decode cId_numberSign 19 = .ok (.idiv, 1) := by decide +kernel
theorem dId_numberSign_20 : decode cId_numberSign 20 = .ok (.goto 7, 3) := by decide +kernel
theorem dId_numberSign_23 : decode cId_numberSign 23 = .ok (.iload_n 2, 1) := by decide +kernel
theorem dId_numberSign_24 : decode cId_numberSign 24 = .ok (.bipush 10, 2) := by decide +kernel
theorem dId_numberSign_26 : decode cId_numberSign 26 = .ok (.irem, 1) := by decide +kernel
theorem dId_numberSign_27 : decode cId_numberSign 27 = .ok (.ireturn, 1) := by decide +kernel
theorem dId_numberSigns_0 : decode cId_numberSigns 0 = .ok (.aload_n 0, 1) := by decide +kernel
theorem dId_numberSigns_1 : decode cId_numberSigns 1 = .ok (.getfield 24, 3) := by decide +kernel
theorem dId_numberSigns_4 : decode cId_numberSigns 4 = .ok (.ifCond .eq 7, 3) := by decide +kernel
theorem dId_numberSigns_7 : decode cId_numberSigns 7 = .ok (.iconst 1, 1) := by decide +kernel
theorem dId_numberSigns_8 : decode cId_numberSigns 8 = .ok (.goto 4, 3) := by decide +kernel
theorem dId_numberSigns_11 : decode cId_numberSigns 11 = .ok (.iconst 2, 1) := by decide +kernel
theorem dId_numberSigns_12 : decode cId_numberSigns 12 = .ok (.ireturn, 1) := by decide +kernel
theorem dLy_init_0 : decode cLy_init 0 = .ok (.aload_n 0, 1) := by decide +kernel
theorem dLy_init_1 : decode cLy_init 1 = .ok (.invokespecial 3, 3) := by decide +kernel
theorem dLy_init_4 : decode cLy_init 4 = .ok (.aload_n 0, 1) := by decide +kernel
theorem dLy_init_5 : decode cLy_init 5 = .ok (.bipush 64, 2) := by decide +kernel
theorem dLy_init_7 : decode cLy_init 7 = .ok (.newarray .int, 2) := by decide +kernel
theorem dLy_init_9 : decode cLy_init 9 = .ok (.putfield 9, 3) := by decide +kernel
theorem dLy_init_12 : decode cLy_init 12 = .ok (.aload_n 0, 1) := by decide +kernel
theorem dLy_init_13 : decode cLy_init 13 = .ok (.iconst 0, 1) := by decide +kernel
theorem dLy_init_14 : decode cLy_init 14 = .ok (.putfield 15, 3) := by decide +kernel
theorem dLy_init_17 : decode cLy_init 17 = .ok (.return_, 1) := by decide +kernel
theorem dLy_areFree_0 : decode cLy_areFree 0 = .ok (.iload_n 1, 1) := by decide +kernel
theorem dLy_areFree_1 : decode cLy_areFree 1 = .ok (.istore_n 3, 1) := by decide +kernel
theorem dLy_areFree_2 : decode cLy_areFree 2 = .ok (.iload_n 3, 1) := by decide +kernel
theorem dLy_areFree_3 : decode cLy_areFree 3 = .ok (.iload_n 1, 1) := by decide +kernel
theorem dLy_areFree_4 : decode cLy_areFree 4 = .ok (.iload_n 2, 1) := by decide +kernel
theorem dLy_areFree_5 : decode cLy_areFree 5 = .ok (.iadd, 1) := by decide +kernel
theorem dLy_areFree_6 : decode cLy_areFree 6 = .ok (.if_icmp .ge 22, 3) := by decide +kernel
theorem dLy_areFree_9 : decode cLy_areFree 9 = .ok (.aload_n 0, 1) := by decide +kernel
theorem dLy_areFree_10 : decode cLy_areFree 10 = .ok (.getfield 9, 3) := by decide +kernel
theorem dLy_areFree_13 : decode cLy_areFree 13 = .ok (.iload_n 3, 1) := by decide +kernel
theorem dLy_areFree_14 : decode cLy_areFree 14 = .ok (.iaload, 1) := by decide +kernel
theorem dLy_areFree_15 : decode cLy_areFree 15 = .ok (.ldc 19, 2) := by decide +kernel
theorem dLy_areFree_17 : decode cLy_areFree 17 = .ok (.if_icmp .eq 5, 3) := by decide +kernel
theorem dLy_areFree_20 : decode cLy_areFree 20 = .ok (.iconst 0, 1) := by decide +kernel
theorem dLy_areFree_21 : decode cLy_areFree 21 = .ok (.ireturn, 1) := by decide +kernel
theorem dLy_areFree_22 : decode cLy_areFree 22 = .ok (.iinc 3 1, 3) := by decide +kernel
theorem dLy_areFree_25 : decode cLy_areFree 25 = .ok (.goto (-23), 3) := by decide +kernel
theorem dLy_areFree_28 : decode cLy_areFree 28 = .ok (.iconst 1, 1) := by decide +kernel
theorem dLy_areFree_29 : decode cLy_areFree 29 = .ok (.ireturn, 1) := by decide +kernel
theorem dLy_clear_0 : decode cLy_clear 0 = .ok (.aload_n 0, 1) := by decide +kernel
theorem dLy_clear_1 : decode cLy_clear 1 = .ok (.getfield 9, 3) := by decide +kernel
theorem dLy_clear_4 : decode cLy_clear 4 = .ok (.ldc 19, 2) := by decide +kernel
theorem dLy_clear_6 : decode cLy_clear 6 = .ok (.invokestatic 20, 3) := by decide +kernel
theorem dLy_clear_9 : decode cLy_clear 9 = .ok (.aload_n 0, 1) := by decide +kernel
theorem dLy_clear_10 : decode cLy_clear 10 = .ok (.iload_n 1, 1) := by decide +kernel
theorem dLy_clear_11 : decode cLy_clear 11 = .ok (.bipush 16, 2) := by decide +kernel
theorem dLy_clear_13 : decode cLy_clear 13 = .ok (.imul, 1) := by decide +kernel
theorem dLy_clear_14 : decode cLy_clear 14 = .ok (.putfield 15, 3) := by decide +kernel
theorem dLy_clear_17 : decode cLy_clear 17 = .ok (.return_, 1) := by decide +kernel
theorem dLy_findPlace_0 : decode cLy_findPlace 0 = .ok (.aload_n 1, 1) := by decide +kernel
theorem dLy_findPlace_1 : decode cLy_findPlace 1 = .ok (.getfield 35, 3) := by decide +kernel
theorem dLy_findPlace_4 : decode cLy_findPlace 4 = .ok (.istore_n 3, 1) := by decide +kernel
theorem dLy_findPlace_5 : decode cLy_findPlace 5 = .ok (.iload_n 3, 1) := by decide +kernel
theorem dLy_findPlace_6 : decode cLy_findPlace 6 = .ok (.iload_n 2, 1) := by decide +kernel
theorem dLy_findPlace_7 : decode cLy_findPlace 7 = .ok (.iadd, 1) := by decide +kernel
theorem dLy_findPlace_8 : decode cLy_findPlace 8 = .ok (.aload_n 0, 1) := by decide +kernel
theorem dLy_findPlace_9 : decode cLy_findPlace 9 = .ok (.getfield 15, 3) := by decide +kernel
theorem dLy_findPlace_12 : decode cLy_findPlace 12 = .ok (.if_icmp .gt 33, 3) := by decide +kernel
theorem dLy_findPlace_15 : decode cLy_findPlace 15 = .ok (.iload_n 3, 1) := by decide +kernel
theorem dLy_findPlace_16 : decode cLy_findPlace 16 = .ok (.bipush 16, 2) := by decide +kernel
theorem dLy_findPlace_18 : decode cLy_findPlace 18 = .ok (.irem, 1) := by decide +kernel
theorem dLy_findPlace_19 : decode cLy_findPlace 19 = .ok (.iconst 2, 1) := by decide +kernel
theorem dLy_findPlace_20 : decode cLy_findPlace 20 = .ok (.idiv, 1) := by decide +kernel
theorem dLy_findPlace_21 : decode cLy_findPlace 21 = .ok (.aload_n 1, 1) := by decide +kernel
theorem dLy_findPlace_22 : decode cLy_findPlace 22 = .ok (.getfield 50, 3) := by decide +kernel
theorem dLy_findPlace_25 : decode cLy_findPlace 25 = .ok (.if_icmp .ne 14, 3) := by decide +kernel
theorem dLy_findPlace_28 : decode cLy_findPlace 28 = .ok (.aload_n 0, 1) := by decide +kernel
theorem dLy_findPlace_29 : decode cLy_findPlace 29 = .ok (.iload_n 3, 1) := by decide +kernel
theorem dLy_findPlace_30 : decode cLy_findPlace 30 = .ok (.iload_n 2, 1) := by decide +kernel
theorem dLy_findPlace_31 : decode cLy_findPlace 31 = .ok (.invokevirtual 53, 3) := by decide +kernel
theorem dLy_findPlace_34 : decode cLy_findPlace 34 = .ok (.ifCond .eq 5, 3) := by decide +kernel
theorem dLy_findPlace_37 : decode cLy_findPlace 37 = .ok (.iload_n 3, 1) := by decide +kernel
theorem dLy_findPlace_38 : decode cLy_findPlace 38 = .ok (.ireturn, 1) := by decide +kernel
theorem dLy_findPlace_39 : decode cLy_findPlace 39 = .ok (.iinc 3 1, 3) := by decide +kernel
theorem dLy_findPlace_42 : decode cLy_findPlace 42 = .ok (.goto (-37), 3) := by decide +kernel
theorem dLy_findPlace_45 : decode cLy_findPlace 45 = .ok (.iconst (-1), 1) := by decide +kernel
theorem dLy_findPlace_46 : decode cLy_findPlace 46 = .ok (.ireturn, 1) := by decide +kernel
theorem dLy_lay_0 : decode cLy_lay 0 = .ok (.aload_n 1, 1) := by decide +kernel
theorem dLy_lay_1 : decode cLy_lay 1 = .ok (.getfield 26, 3) := by decide +kernel
theorem dLy_lay_4 : decode cLy_lay 4 = .ok (.astore_n 2, 1) := by decide +kernel
theorem dLy_lay_5 : decode cLy_lay 5 = .ok (.aload_n 1, 1) := by decide +kernel
theorem dLy_lay_6 : decode cLy_lay 6 = .ok (.getfield 32, 3) := by decide +kernel
theorem dLy_lay_9 : decode cLy_lay 9 = .ok (.arraylength, 1) := by decide +kernel
theorem dLy_lay_10 : decode cLy_lay 10 = .ok (.istore_n 3, 1) := by decide +kernel
theorem dLy_lay_11 : decode cLy_lay 11 = .ok (.aload_n 2, 1) := by decide +kernel
theorem dLy_lay_12 : decode cLy_lay 12 = .ok (.getfield 35, 3) := by decide +kernel
theorem dLy_lay_15 : decode cLy_lay 15 = .ok (.iconst (-1), 1) := by decide +kernel
theorem dLy_lay_16 : decode cLy_lay 16 = .ok (.if_icmp .ne 7, 3) := by decide +kernel
theorem dLy_lay_19 : decode cLy_lay 19 = .ok (.iconst (-1), 1) := by decide +kernel
theorem dLy_lay_20 : decode cLy_lay 20 = .ok (.goto 9, 3) := by decide +kernel
theorem dLy_lay_23 : decode cLy_lay 23 = .ok (.aload_n 0, 1) := by decide +kernel
theorem dLy_lay_24 : decode cLy_lay 24 = .ok (.aload_n 2, 1) := by decide +kernel
theorem dLy_lay_25 : decode cLy_lay 25 = .ok (.iload_n 3, 1) := by decide +kernel
theorem dLy_lay_26 : decode cLy_lay 26 = .ok (.invokevirtual 40, 3) := by decide +kernel
theorem dLy_lay_29 : decode cLy_lay 29 = .ok (.istore 4, 2) := by decide +kernel
theorem dLy_lay_31 : decode cLy_lay 31 = .ok (.iload 4, 2) := by decide +kernel
theorem dLy_lay_33 : decode cLy_lay 33 = .ok (.iconst (-1), 1) := by decide +kernel
theorem dLy_lay_34 : decode cLy_lay 34 = .ok (.if_icmp .ne 10, 3) := by decide +kernel
theorem dLy_lay_37 : decode cLy_lay 37 = .ok (.aload_n 2, 1) := by decide +kernel
theorem dLy_lay_38 : decode cLy_lay 38 = .ok (.iconst (-1), 1) := by decide +kernel
theorem dLy_lay_39 : decode cLy_lay 39 = .ok (.putfield 35, 3) := by decide +kernel
theorem dLy_lay_42 : decode cLy_lay 42 = .ok (.iconst 0, 1) := by decide +kernel
theorem dLy_lay_43 : decode cLy_lay 43 = .ok (.ireturn, 1) := by decide +kernel
theorem dLy_lay_44 : decode cLy_lay 44 = .ok (.aload_n 1, 1) := by decide +kernel
theorem dLy_lay_45 : decode cLy_lay 45 = .ok (.getfield 32, 3) := by decide +kernel
theorem dLy_lay_48 : decode cLy_lay 48 = .ok (.iconst 0, 1) := by decide +kernel
theorem dLy_lay_49 : decode cLy_lay 49 = .ok (.aload_n 0, 1) := by decide +kernel
theorem dLy_lay_50 : decode cLy_lay 50 = .ok (.getfield 9, 3) := by decide +kernel
theorem dLy_lay_53 : decode cLy_lay 53 = .ok (.iload 4, 2) := by decide +kernel
theorem dLy_lay_55 : decode cLy_lay 55 = .ok (.iload_n 3, 1) := by decide +kernel
theorem dLy_lay_56 : decode cLy_lay 56 = .ok (.invokestatic 44, 3) := by decide +kernel
theorem dLy_lay_59 : decode cLy_lay 59 = .ok (.aload_n 2, 1) := by decide +kernel
theorem dLy_lay_60 : decode cLy_lay 60 = .ok (.iload 4, 2) := by decide +kernel
theorem dLy_lay_62 : decode cLy_lay 62 = .ok (.iload_n 3, 1) := by decide +kernel
theorem dLy_lay_63 : decode cLy_lay 63 = .ok (.iadd, 1) := by decide +kernel
theorem dLy_lay_64 : decode cLy_lay 64 = .ok (.putfield 35, 3) := by decide +kernel
theorem dLy_lay_67 : decode cLy_lay 67 = .ok (.iconst 1, 1) := by decide +kernel
theorem dLy_lay_68 : decode cLy_lay 68 = .ok (.ireturn, 1) := by decide +kernel
theorem dLs_init_0 : decode cLs_init 0 = .ok (.aload_n 0, 1) := by decide +kernel
theorem dLs_init_1 : decode cLs_init 1 = .ok (.invokespecial 3, 3) := by decide +kernel
theorem dLs_init_4 : decode cLs_init 4 = .ok (.aload_n 0, 1) := by decide +kernel
theorem dLs_init_5 : decode cLs_init 5 = .ok (.aconst_null, 1) := by decide +kernel
theorem dLs_init_6 : decode cLs_init 6 = .ok (.putfield 9, 3) := by decide +kernel
theorem dLs_init_9 : decode cLs_init 9 = .ok (.aload_n 0, 1) := by decide +kernel
theorem dLs_init_10 : decode cLs_init 10 = .ok (.aconst_null, 1) := by decide +kernel
theorem dLs_init_11 : decode cLs_init 11 = .ok (.putfield 15, 3) := by decide +kernel
theorem dLs_init_14 : decode cLs_init 14 = .ok (.aload_n 0, 1) := by decide +kernel
theorem dLs_init_15 : decode cLs_init 15 = .ok (.iconst 0, 1) := by decide +kernel
theorem dLs_init_16 : decode cLs_init 16 = .ok (.putfield 19, 3) := by decide +kernel
theorem dLs_init_19 : decode cLs_init 19 = .ok (.aload_n 0, 1) := by decide +kernel
theorem dLs_init_20 : decode cLs_init 20 = .ok (.aconst_null, 1) := by decide +kernel
theorem dLs_init_21 : decode cLs_init 21 = .ok (.putfield 23, 3) := by decide +kernel
theorem dLs_init_24 : decode cLs_init 24 = .ok (.aload_n 0, 1) := by decide +kernel
theorem dLs_init_25 : decode cLs_init 25 = .ok (.bipush 22, 2) := by decide +kernel
theorem dLs_init_27 : decode cLs_init 27 = .ok (.newarray .int, 2) := by decide +kernel
theorem dLs_init_29 : decode cLs_init 29 = .ok (.putfield 27, 3) := by decide +kernel
theorem dLs_init_32 : decode cLs_init 32 = .ok (.aload_n 0, 1) := by decide +kernel
theorem dLs_init_33 : decode cLs_init 33 = .ok (.iconst 0, 1) := by decide +kernel
theorem dLs_init_34 : decode cLs_init 34 = .ok (.putfield 31, 3) := by decide +kernel
theorem dLs_init_37 : decode cLs_init 37 = .ok (.aload_n 0, 1) := by decide +kernel
theorem dLs_init_38 : decode cLs_init 38 = .ok (.iconst 0, 1) := by decide +kernel
theorem dLs_init_39 : decode cLs_init 39 = .ok (.putfield 34, 3) := by decide +kernel
theorem dLs_init_42 : decode cLs_init 42 = .ok (.aload_n 0, 1) := by decide +kernel
theorem dLs_init_43 : decode cLs_init 43 = .ok (.iconst 0, 1) := by decide +kernel
theorem dLs_init_44 : decode cLs_init 44 = .ok (.putfield 37, 3) := by decide +kernel
theorem dLs_init_47 : decode cLs_init 47 = .ok (.return_, 1) := by decide +kernel
theorem dLs_addContent_0 : decode cLs_addContent 0 = .ok (.bipush 19, 2) := by decide +kernel
theorem dLs_addContent_2 : decode cLs_addContent 2 = .ok (.istore_n 2, 1) := by decide +kernel
theorem dLs_addContent_3 : decode cLs_addContent 3 = .ok (.iload_n 2, 1) := by decide +kernel
theorem dLs_addContent_4 : decode cLs_addContent 4 = .ok (.ifCond .lt 73, 3) := by decide +kernel
theorem dLs_addContent_7 : decode cLs_addContent 7 = .ok (.aload_n 0, 1) := by decide +kernel
theorem dLs_addContent_8 : decode cLs_addContent 8 = .ok (.dup, 1) := by decide +kernel
theorem dLs_addContent_9 : decode cLs_addContent 9 = .ok (.getfield 34, 3) := by decide +kernel
theorem dLs_addContent_12 : decode cLs_addContent 12 = .ok (.iload_n 1, 1) := by decide +kernel
theorem dLs_addContent_13 : decode cLs_addContent 13 = .ok (.iload_n 2, 1) := by decide +kernel
theorem dLs_addContent_14 : decode cLs_addContent 14 = .ok (.iushr, 1) := by decide +kernel
theorem dLs_addContent_15 : decode cLs_addContent 15 = .ok (.iconst 1, 1) := by decide +kernel
theorem dLs_addContent_16 : decode cLs_addContent 16 = .ok (.iand, 1) := by decide +kernel
theorem dLs_addContent_17 : decode cLs_addContent 17 = .ok (.aload_n 0, 1) := by decide +kernel
theorem dLs_addContent_18 : decode cLs_addContent 18 = .ok (.getfield 37, 3) := by decide +kernel
theorem dLs_addContent_21 : decode cLs_addContent 21 = .ok (.ishl, 1) := by decide +kernel
theorem dLs_addContent_22 : decode cLs_addContent 22 = .ok (.ior, 1) := by decide +kernel
theorem dLs_addContent_23 : decode cLs_addContent 23 = .ok (.putfield 34, 3) := by decide +kernel
theorem dLs_addContent_26 : decode cLs_addContent 26 = .ok (.aload_n 0, 1) := by decide +kernel
theorem dLs_addContent_27 : decode cLs_addContent 27 = .ok (.dup, 1) := by decide +kernel
theorem dLs_addContent_28 : decode cLs_addContent 28 = .ok (.getfield 37, 3) := by decide +kernel
theorem dLs_addContent_31 : decode cLs_addContent 31 = .ok (.iconst 1, 1) := by decide +kernel
theorem dLs_addContent_32 : decode cLs_addContent 32 = .ok (.iadd, 1) := by decide +kernel
theorem dLs_addContent_33 : decode cLs_addContent 33 = .ok (.putfield 37, 3) := by decide +kernel
theorem dLs_addContent_36 : decode cLs_addContent 36 = .ok (.aload_n 0, 1) := by decide +kernel
theorem dLs_addContent_37 : decode cLs_addContent 37 = .ok (.getfield 37, 3) := by decide +kernel
theorem dLs_addContent_40 : decode cLs_addContent 40 = .ok (.aload_n 0, 1) := by decide +kernel
theorem dLs_addContent_41 : decode cLs_addContent 41 = .ok (.getfield 23, 3) := by decide +kernel
theorem dLs_addContent_44 : decode cLs_addContent 44 = .ok (.getfield 113, 3) := by decide +kernel
theorem dLs_addContent_47 : decode cLs_addContent 47 = .ok (.getfield 119, 3) := by decide +kernel
theorem dLs_addContent_50 : decode cLs_addContent 50 = .ok (.if_icmp .ne 21, 3) := by decide +kernel
theorem dLs_addContent_53 : decode cLs_addContent 53 = .ok (.aload_n 0, 1) := by decide +kernel
theorem dLs_addContent_54 : decode cLs_addContent 54 = .ok (.aload_n 0, 1) := by decide +kernel
theorem dLs_addContent_55 : decode cLs_addContent 55 = .ok (.getfield 34, 3) := by decide +kernel
theorem dLs_addContent_58 : decode cLs_addContent 58 = .ok (.invokevirtual 124, 3) := by decide +kernel
theorem dLs_addContent_61 : decode cLs_addContent 61 = .ok (.aload_n 0, 1) := by decide +kernel
theorem dLs_addContent_62 : decode cLs_addContent 62 = .ok (.iconst 0, 1) := by decide +kernel
theorem dLs_addContent_63 : decode cLs_addContent 63 = .ok (.putfield 34, 3) := by decide +kernel
theorem dLs_addContent_66 : decode cLs_addContent 66 = .ok (.aload_n 0, 1) := by decide +kernel
theorem dLs_addContent_67 : decode cLs_addContent 67 = .ok (.iconst 0, 1) := by decide +kernel
theorem dLs_addContent_68 : decode cLs_addContent 68 = .ok (.putfield 37, 3) := by decide +kernel
theorem dLs_addContent_71 : decode cLs_addContent 71 = .ok (.iinc 2 (-1), 3) := by decide +kernel
theorem dLs_addContent_74 : decode cLs_addContent 74 = .ok (.goto (-71), 3) := by decide +kernel
theorem dLs_addContent_77 : decode cLs_addContent 77 = .ok (.return_, 1) := by decide +kernel
theorem dLs_addSign_0 : decode cLs_addSign 0 = .ok (.aload_n 0, 1) := by decide +kernel
theorem dLs_addSign_1 : decode cLs_addSign 1 = .ok (.getfield 31, 3) := by decide +kernel
theorem dLs_addSign_4 : decode cLs_addSign 4 = .ok (.bipush 22, 2) := by decide +kernel
theorem dLs_addSign_6 : decode cLs_addSign 6 = .ok (.if_icmp .ge 23, 3) := by decide +kernel
theorem dLs_addSign_9 : decode cLs_addSign 9 = .ok (.aload_n 0, 1) := by decide +kernel
theorem dLs_addSign_10 : decode cLs_addSign 10 = .ok (.getfield 27, 3) := by decide +kernel
theorem dLs_addSign_13 : decode cLs_addSign 13 = .ok (.aload_n 0, 1) := by decide +kernel
theorem dLs_addSign_14 : decode cLs_addSign 14 = .ok (.getfield 31, 3) := by decide +kernel
theorem dLs_addSign_17 : decode cLs_addSign 17 = .ok (.iload_n 1, 1) := by decide +kernel
theorem dLs_addSign_18 : decode cLs_addSign 18 = .ok (.iastore, 1) := by decide +kernel
theorem dLs_addSign_19 : decode cLs_addSign 19 = .ok (.aload_n 0, 1) := by decide +kernel
theorem dLs_addSign_20 : decode cLs_addSign 20 = .ok (.dup, 1) := by decide +kernel
theorem dLs_addSign_21 : decode cLs_addSign 21 = .ok (.getfield 31, 3) := by decide +kernel
theorem dLs_addSign_24 : decode cLs_addSign 24 = .ok (.iconst 1, 1) := by decide +kernel
theorem dLs_addSign_25 : decode cLs_addSign 25 = .ok (.iadd, 1) := by decide +kernel
theorem dLs_addSign_26 : decode cLs_addSign 26 = .ok (.putfield 31, 3) := by decide +kernel
theorem dLs_addSign_29 : decode cLs_addSign 29 = .ok (.return_, 1) := by decide +kernel
theorem dLs_beginMessage_0 : decode cLs_beginMessage 0 = .ok (.aload_n 0, 1) := by decide +kernel
theorem dLs_beginMessage_1 : decode cLs_beginMessage 1 = .ok (.aload_n 1, 1) := by decide +kernel
theorem dLs_beginMessage_2 : decode cLs_beginMessage 2 = .ok (.putfield 23, 3) := by decide +kernel
theorem dLs_beginMessage_5 : decode cLs_beginMessage 5 = .ok (.aload_n 0, 1) := by decide +kernel
theorem dLs_beginMessage_6 : decode cLs_beginMessage 6 = .ok (.iconst 0, 1) := by decide +kernel
theorem dLs_beginMessage_7 : decode cLs_beginMessage 7 = .ok (.putfield 31, 3) := by decide +kernel
theorem dLs_beginMessage_10 : decode cLs_beginMessage 10 = .ok (.aload_n 0, 1) := by decide +kernel
theorem dLs_beginMessage_11 : decode cLs_beginMessage 11 = .ok (.iconst 0, 1) := by decide +kernel
theorem dLs_beginMessage_12 : decode cLs_beginMessage 12 = .ok (.putfield 34, 3) := by decide +kernel
theorem dLs_beginMessage_15 : decode cLs_beginMessage 15 = .ok (.aload_n 0, 1) := by decide +kernel
theorem dLs_beginMessage_16 : decode cLs_beginMessage 16 = .ok (.iconst 0, 1) := by decide +kernel
theorem dLs_beginMessage_17 : decode cLs_beginMessage 17 = .ok (.putfield 37, 3) := by decide +kernel
theorem dLs_beginMessage_20 : decode cLs_beginMessage 20 = .ok (.return_, 1) := by decide +kernel
theorem dLs_endMessage_0 : decode cLs_endMessage 0 = .ok (.aload_n 0, 1) := by decide +kernel
theorem dLs_endMessage_1 : decode cLs_endMessage 1 = .ok (.getfield 23, 3) := by decide +kernel
theorem dLs_endMessage_4 : decode cLs_endMessage 4 = .ok (.ifnonnull 4, 3) := by decide +kernel
theorem dLs_endMessage_7 : decode cLs_endMessage 7 = .ok (.return_, 1) := by decide +kernel
theorem dLs_endMessage_8 : decode cLs_endMessage 8 = .ok (.aload_n 0, 1) := by decide +kernel
theorem dLs_endMessage_9 : decode cLs_endMessage 9 = .ok (.getfield 23, 3) := by decide +kernel
theorem dLs_endMessage_12 : decode cLs_endMessage 12 = .ok (.getfield 113, 3) := by decide +kernel
theorem dLs_endMessage_15 : decode cLs_endMessage 15 = .ok (.aload_n 0, 1) := by decide +kernel
theorem dLs_endMessage_16 : decode cLs_endMessage 16 = .ok (.getfield 27, 3) := by decide +kernel
theorem dLs_endMessage_19 : decode cLs_endMessage 19 = .ok (.aload_n 0, 1) := by decide +kernel
theorem dLs_endMessage_20 : decode cLs_endMessage 20 = .ok (.getfield 31, 3) := by decide +kernel
theorem dLs_endMessage_23 : decode cLs_endMessage 23 = .ok (.invokevirtual 127, 3) := by decide +kernel
theorem dLs_endMessage_26 : decode cLs_endMessage 26 = .ok (.istore_n 2, 1) := by decide +kernel
theorem dLs_endMessage_27 : decode cLs_endMessage 27 = .ok (.iload_n 2, 1) := by decide +kernel
theorem dLs_endMessage_28 : decode cLs_endMessage 28 = .ok (.iconst (-1), 1) := by decide +kernel
theorem dLs_endMessage_29 : decode cLs_endMessage 29 = .ok (.if_icmp .ne 19, 3) := by decide +kernel
theorem dLs_endMessage_32 : decode cLs_endMessage 32 = .ok (.aload_n 0, 1) := by decide +kernel
theorem dLs_endMessage_33 : decode cLs_endMessage 33 = .ok (.getfield 15, 3) := by decide +kernel
theorem dLs_endMessage_36 : decode cLs_endMessage 36 = .ok (.dup, 1) := by decide +kernel
theorem dLs_endMessage_37 : decode cLs_endMessage 37 = .ok (.getfield 131, 3) := by decide +kernel
theorem dLs_endMessage_40 : decode cLs_endMessage 40 = .ok (.iconst 1, 1) := by decide +kernel
theorem dLs_endMessage_41 : decode cLs_endMessage 41 = .ok (.iadd, 1) := by decide +kernel
theorem dLs_endMessage_42 : decode cLs_endMessage 42 = .ok (.putfield 131, 3) := by decide +kernel
theorem dLs_endMessage_45 : decode cLs_endMessage 45 = .ok (.goto 27, 3) := by decide +kernel
theorem dLs_endMessage_48 : decode cLs_endMessage 48 = .ok (.aload_n 0, 1) := by decide +kernel
theorem dLs_endMessage_49 : decode cLs_endMessage 49 = .ok (.iload_n 2, 1) := by decide +kernel
theorem dLs_endMessage_50 : decode cLs_endMessage 50 = .ok (.iload_n 1, 1) := by decide +kernel
theorem dLs_endMessage_51 : decode cLs_endMessage 51 = .ok (.invokevirtual 134, 3) := by decide +kernel
theorem dLs_endMessage_54 : decode cLs_endMessage 54 = .ok (.aload_n 0, 1) := by decide +kernel
theorem dLs_endMessage_55 : decode cLs_endMessage 55 = .ok (.getfield 23, 3) := by decide +kernel
theorem dLs_endMessage_58 : decode cLs_endMessage 58 = .ok (.iload_n 2, 1) := by decide +kernel
theorem dLs_endMessage_59 : decode cLs_endMessage 59 = .ok (.invokevirtual 138, 3) := by decide +kernel
theorem dLs_endMessage_62 : decode cLs_endMessage 62 = .ok (.aload_n 0, 1) := by decide +kernel
theorem dLs_endMessage_63 : decode cLs_endMessage 63 = .ok (.dup, 1) := by decide +kernel
theorem dLs_endMessage_64 : decode cLs_endMessage 64 = .ok (.getfield 19, 3) := by decide +kernel
theorem dLs_endMessage_67 : decode cLs_endMessage 67 = .ok (.iconst 1, 1) := by decide +kernel
theorem dLs_endMessage_68 : decode cLs_endMessage 68 = .ok (.iadd, 1) := by decide +kernel
theorem dLs_endMessage_69 : decode cLs_endMessage 69 = .ok (.putfield 19, 3) := by decide +kernel
theorem dLs_endMessage_72 : decode cLs_endMessage 72 = .ok (.aload_n 0, 1) := by decide +kernel
theorem dLs_endMessage_73 : decode cLs_endMessage 73 = .ok (.aconst_null, 1) := by decide +kernel
theorem dLs_endMessage_74 : decode cLs_endMessage 74 = .ok (.putfield 23, 3) := by decide +kernel
theorem dLs_endMessage_77 : decode cLs_endMessage 77 = .ok (.return_, 1) := by decide +kernel
theorem dLs_hunt_0 : decode cLs_hunt 0 = .ok (.iconst 0, 1) := by decide +kernel
theorem dLs_hunt_1 : decode cLs_hunt 1 = .ok (.istore_n 2, 1) := by decide +kernel
theorem dLs_hunt_2 : decode cLs_hunt 2 = .ok (.iload_n 1, 1) := by decide +kernel
theorem dLs_hunt_3 : decode cLs_hunt 3 = .ok (.istore_n 3, 1) := by decide +kernel
theorem dLs_hunt_4 : decode cLs_hunt 4 = .ok (.iload_n 3, 1) := by decide +kernel
theorem dLs_hunt_5 : decode cLs_hunt 5 = .ok (.aload_n 0, 1) := by decide +kernel
theorem dLs_hunt_6 : decode cLs_hunt 6 = .ok (.getfield 9, 3) := by decide +kernel
theorem dLs_hunt_9 : decode cLs_hunt 9 = .ok (.getfield 60, 3) := by decide +kernel
theorem dLs_hunt_12 : decode cLs_hunt 12 = .ok (.if_icmp .ge 54, 3) := by decide +kernel
theorem dLs_hunt_15 : decode cLs_hunt 15 = .ok (.iload_n 2, 1) := by decide +kernel
theorem dLs_hunt_16 : decode cLs_hunt 16 = .ok (.iconst 1, 1) := by decide +kernel
theorem dLs_hunt_17 : decode cLs_hunt 17 = .ok (.ishl, 1) := by decide +kernel
theorem dLs_hunt_18 : decode cLs_hunt 18 = .ok (.aload_n 0, 1) := by decide +kernel
theorem dLs_hunt_19 : decode cLs_hunt 19 = .ok (.getfield 9, 3) := by decide +kernel
theorem dLs_hunt_22 : decode cLs_hunt 22 = .ok (.iload_n 3, 1) := by decide +kernel
theorem dLs_hunt_23 : decode cLs_hunt 23 = .ok (.invokevirtual 63, 3) := by decide +kernel
theorem dLs_hunt_26 : decode cLs_hunt 26 = .ok (.ior, 1) := by decide +kernel
theorem dLs_hunt_27 : decode cLs_hunt 27 = .ok (.istore_n 2, 1) := by decide +kernel
theorem dLs_hunt_28 : decode cLs_hunt 28 = .ok (.aload_n 0, 1) := by decide +kernel
theorem dLs_hunt_29 : decode cLs_hunt 29 = .ok (.getfield 15, 3) := by decide +kernel
theorem dLs_hunt_32 : decode cLs_hunt 32 = .ok (.dup, 1) := by decide +kernel
theorem dLs_hunt_33 : decode cLs_hunt 33 = .ok (.getfield 66, 3) := by decide +kernel
theorem dLs_hunt_36 : decode cLs_hunt 36 = .ok (.iconst 1, 1) := by decide +kernel
theorem dLs_hunt_37 : decode cLs_hunt 37 = .ok (.iadd, 1) := by decide +kernel
theorem dLs_hunt_38 : decode cLs_hunt 38 = .ok (.putfield 66, 3) := by decide +kernel
theorem dLs_hunt_41 : decode cLs_hunt 41 = .ok (.iload_n 3, 1) := by decide +kernel
theorem dLs_hunt_42 : decode cLs_hunt 42 = .ok (.iload_n 1, 1) := by decide +kernel
theorem dLs_hunt_43 : decode cLs_hunt 43 = .ok (.isub, 1) := by decide +kernel
theorem dLs_hunt_44 : decode cLs_hunt 44 = .ok (.bipush 31, 2) := by decide +kernel
theorem dLs_hunt_46 : decode cLs_hunt 46 = .ok (.if_icmp .lt 14, 3) := by decide +kernel
theorem dLs_hunt_49 : decode cLs_hunt 49 = .ok (.iload_n 2, 1) := by decide +kernel
theorem dLs_hunt_50 : decode cLs_hunt 50 = .ok (.invokestatic 71, 3) := by decide +kernel
theorem dLs_hunt_53 : decode cLs_hunt 53 = .ok (.ifCond .eq 7, 3) := by decide +kernel
theorem dLs_hunt_56 : decode cLs_hunt 56 = .ok (.iload_n 3, 1) := by decide +kernel
theorem dLs_hunt_57 : decode cLs_hunt 57 = .ok (.iconst 1, 1) := by decide +kernel
theorem dLs_hunt_58 : decode cLs_hunt 58 = .ok (.iadd, 1) := by decide +kernel
theorem dLs_hunt_59 : decode cLs_hunt 59 = .ok (.ireturn, 1) := by decide +kernel
theorem dLs_hunt_60 : decode cLs_hunt 60 = .ok (.iinc 3 1, 3) := by decide +kernel
theorem dLs_hunt_63 : decode cLs_hunt 63 = .ok (.goto (-59), 3) := by decide +kernel
theorem dLs_hunt_66 : decode cLs_hunt 66 = .ok (.aload_n 0, 1) := by decide +kernel
theorem dLs_hunt_67 : decode cLs_hunt 67 = .ok (.getfield 9, 3) := by decide +kernel
theorem dLs_hunt_70 : decode cLs_hunt 70 = .ok (.getfield 60, 3) := by decide +kernel
theorem dLs_hunt_73 : decode cLs_hunt 73 = .ok (.ireturn, 1) := by decide +kernel
theorem dLs_listen_0 : decode cLs_listen 0 = .ok (.aload_n 0, 1) := by decide +kernel
theorem dLs_listen_1 : decode cLs_listen 1 = .ok (.aload_n 1, 1) := by decide +kernel
theorem dLs_listen_2 : decode cLs_listen 2 = .ok (.putfield 15, 3) := by decide +kernel
theorem dLs_listen_5 : decode cLs_listen 5 = .ok (.aload_n 0, 1) := by decide +kernel
theorem dLs_listen_6 : decode cLs_listen 6 = .ok (.aload_n 2, 1) := by decide +kernel
theorem dLs_listen_7 : decode cLs_listen 7 = .ok (.putfield 9, 3) := by decide +kernel
theorem dLs_listen_10 : decode cLs_listen 10 = .ok (.aload_n 0, 1) := by decide +kernel
theorem dLs_listen_11 : decode cLs_listen 11 = .ok (.iconst 0, 1) := by decide +kernel
theorem dLs_listen_12 : decode cLs_listen 12 = .ok (.putfield 19, 3) := by decide +kernel
theorem dLs_listen_15 : decode cLs_listen 15 = .ok (.aload_n 0, 1) := by decide +kernel
theorem dLs_listen_16 : decode cLs_listen 16 = .ok (.iload_n 3, 1) := by decide +kernel
theorem dLs_listen_17 : decode cLs_listen 17 = .ok (.invokevirtual 40, 3) := by decide +kernel
theorem dLs_listen_20 : decode cLs_listen 20 = .ok (.istore 4, 2) := by decide +kernel
theorem dLs_listen_22 : decode cLs_listen 22 = .ok (.iconst 0, 1) := by decide +kernel
theorem dLs_listen_23 : decode cLs_listen 23 = .ok (.istore 5, 2) := by decide +kernel
theorem dLs_listen_25 : decode cLs_listen 25 = .ok (.iload 5, 2) := by decide +kernel
theorem dLs_listen_27 : decode cLs_listen 27 = .ok (.bipush 70, 2) := by decide +kernel
theorem dLs_listen_29 : decode cLs_listen 29 = .ok (.if_icmp .ge 33, 3) := by decide +kernel
theorem dLs_listen_32 : decode cLs_listen 32 = .ok (.aload_n 0, 1) := by decide +kernel
theorem dLs_listen_33 : decode cLs_listen 33 = .ok (.getfield 9, 3) := by decide +kernel
theorem dLs_listen_36 : decode cLs_listen 36 = .ok (.iload 4, 2) := by decide +kernel
theorem dLs_listen_38 : decode cLs_listen 38 = .ok (.invokevirtual 46, 3) := by decide +kernel
theorem dLs_listen_41 : decode cLs_listen 41 = .ok (.ifCond .eq 21, 3) := by decide +kernel
theorem dLs_listen_44 : decode cLs_listen 44 = .ok (.aload_n 0, 1) := by decide +kernel
theorem dLs_listen_45 : decode cLs_listen 45 = .ok (.aload_n 0, 1) := by decide +kernel
theorem dLs_listen_46 : decode cLs_listen 46 = .ok (.iload 4, 2) := by decide +kernel
theorem dLs_listen_48 : decode cLs_listen 48 = .ok (.invokevirtual 50, 3) := by decide +kernel
theorem dLs_listen_51 : decode cLs_listen 51 = .ok (.invokevirtual 53, 3) := by decide +kernel
theorem dLs_listen_54 : decode cLs_listen 54 = .ok (.istore 4, 2) := by decide +kernel
theorem dLs_listen_56 : decode cLs_listen 56 = .ok (.iinc 5 1, 3) := by decide +kernel
theorem dLs_listen_59 : decode cLs_listen 59 = .ok (.goto (-34), 3) := by decide +kernel
theorem dLs_listen_62 : decode cLs_listen 62 = .ok (.aload_n 0, 1) := by decide +kernel
theorem dLs_listen_63 : decode cLs_listen 63 = .ok (.iconst 0, 1) := by decide +kernel
theorem dLs_listen_64 : decode cLs_listen 64 = .ok (.invokevirtual 56, 3) := by decide +kernel
theorem dLs_listen_67 : decode cLs_listen 67 = .ok (.aload_n 0, 1) := by decide +kernel
theorem dLs_listen_68 : decode cLs_listen 68 = .ok (.getfield 19, 3) := by decide +kernel
theorem dLs_listen_71 : decode cLs_listen 71 = .ok (.ireturn, 1) := by decide +kernel
theorem dLs_store_0 : decode cLs_store 0 = .ok (.aload_n 0, 1) := by decide +kernel
theorem dLs_store_1 : decode cLs_store 1 = .ok (.getfield 23, 3) := by decide +kernel
theorem dLs_store_4 : decode cLs_store 4 = .ok (.getfield 113, 3) := by decide +kernel
theorem dLs_store_7 : decode cLs_store 7 = .ok (.astore_n 3, 1) := by decide +kernel
theorem dLs_store_8 : decode cLs_store 8 = .ok (.aload_n 3, 1) := by decide +kernel
theorem dLs_store_9 : decode cLs_store 9 = .ok (.invokevirtual 141, 3) := by decide +kernel
theorem dLs_store_12 : decode cLs_store 12 = .ok (.istore 4, 2) := by decide +kernel
theorem dLs_store_14 : decode cLs_store 14 = .ok (.aload_n 0, 1) := by decide +kernel
theorem dLs_store_15 : decode cLs_store 15 = .ok (.getfield 31, 3) := by decide +kernel
theorem dLs_store_18 : decode cLs_store 18 = .ok (.istore 5, 2) := by decide +kernel
theorem dLs_store_20 : decode cLs_store 20 = .ok (.iload 5, 2) := by decide +kernel
theorem dLs_store_22 : decode cLs_store 22 = .ok (.iload 4, 2) := by decide +kernel
theorem dLs_store_24 : decode cLs_store 24 = .ok (.if_icmp .le 25, 3) := by decide +kernel
theorem dLs_store_27 : decode cLs_store 27 = .ok (.aload_n 0, 1) := by decide +kernel
theorem dLs_store_28 : decode cLs_store 28 = .ok (.getfield 27, 3) := by decide +kernel
theorem dLs_store_31 : decode cLs_store 31 = .ok (.iload 5, 2) := by decide +kernel
theorem dLs_store_33 : decode cLs_store 33 = .ok (.iconst 1, 1) := by decide +kernel
theorem dLs_store_34 : decode cLs_store 34 = .ok (.isub, 1) := by decide +kernel
theorem dLs_store_35 : decode cLs_store 35 = .ok (.iaload, 1) := by decide +kernel
theorem dLs_store_36 : decode cLs_store 36 = .ok (.aload_n 3, 1) := by decide +kernel
theorem dLs_store_37 : decode cLs_store 37 = .ok (.getfield 145, 3) := by decide +kernel
theorem dLs_store_40 : decode cLs_store 40 = .ok (.if_icmp .ne 9, 3) := by decide +kernel
theorem dLs_store_43 : decode cLs_store 43 = .ok (.iinc 5 (-1), 3) := by decide +kernel
theorem dLs_store_46 : decode cLs_store 46 = .ok (.goto (-26), 3) := by decide +kernel
theorem dLs_store_49 : decode cLs_store 49 = .ok (.aload_n 0, 1) := by decide +kernel
theorem dLs_store_50 : decode cLs_store 50 = .ok (.getfield 15, 3) := by decide +kernel
theorem dLs_store_53 : decode cLs_store 53 = .ok (.invokevirtual 148, 3) := by decide +kernel
theorem dLs_store_56 : decode cLs_store 56 = .ok (.astore 6, 2) := by decide +kernel
theorem dLs_store_58 : decode cLs_store 58 = .ok (.aload 6, 2) := by decide +kernel
theorem dLs_store_60 : decode cLs_store 60 = .ok (.aload_n 3, 1) := by decide +kernel
theorem dLs_store_61 : decode cLs_store 61 = .ok (.getfield 152, 3) := by decide +kernel
theorem dLs_store_64 : decode cLs_store 64 = .ok (.putfield 155, 3) := by decide +kernel
theorem dLs_store_67 : decode cLs_store 67 = .ok (.aload 6, 2) := by decide +kernel
theorem dLs_store_69 : decode cLs_store 69 = .ok (.iload_n 1, 1) := by decide +kernel
theorem dLs_store_70 : decode cLs_store 70 = .ok (.putfield 159, 3) := by decide +kernel
theorem dLs_store_73 : decode cLs_store 73 = .ok (.aload 6, 2) := by decide +kernel
theorem dLs_store_75 : decode cLs_store 75 = .ok (.iload_n 2, 1) := by decide +kernel
theorem dLs_store_76 : decode cLs_store 76 = .ok (.putfield 162, 3) := by decide +kernel
theorem dLs_store_79 : decode cLs_store 79 = .ok (.aload 6, 2) := by decide +kernel
theorem dLs_store_81 : decode cLs_store 81 = .ok (.iload 5, 2) := by decide +kernel
theorem dLs_store_83 : decode cLs_store 83 = .ok (.iload 4, 2) := by decide +kernel
theorem dLs_store_85 : decode cLs_store 85 = .ok (.isub, 1) := by decide +kernel
theorem dLs_store_86 : decode cLs_store 86 = .ok (.putfield 166, 3) := by decide +kernel
theorem dLs_store_89 : decode cLs_store 89 = .ok (.aload_n 0, 1) := by decide +kernel
theorem dLs_store_90 : decode cLs_store 90 = .ok (.getfield 27, 3) := by decide +kernel
theorem dLs_store_93 : decode cLs_store 93 = .ok (.iload 4, 2) := by decide +kernel
theorem dLs_store_95 : decode cLs_store 95 = .ok (.aload 6, 2) := by decide +kernel
theorem dLs_store_97 : decode cLs_store 97 = .ok (.getfield 167, 3) := by decide +kernel
theorem dLs_store_100 : decode cLs_store 100 = .ok (.iconst 0, 1) := by decide +kernel
theorem dLs_store_101 : decode cLs_store 101 = .ok (.iload 5, 2) := by decide +kernel
theorem dLs_store_103 : decode cLs_store 103 = .ok (.iload 4, 2) := by decide +kernel
theorem dLs_store_105 : decode cLs_store 105 = .ok (.isub, 1) := by decide +kernel
theorem dLs_store_106 : decode cLs_store 106 = .ok (.invokestatic 168, 3) := by decide +kernel
theorem dLs_store_109 : decode cLs_store 109 = .ok (.return_, 1) := by decide +kernel
theorem dLs_takeBatch_0 : decode cLs_takeBatch 0 = .ok (.iload_n 1, 1) := by decide +kernel
theorem dLs_takeBatch_1 : decode cLs_takeBatch 1 = .ok (.istore_n 2, 1) := by decide +kernel
theorem dLs_takeBatch_2 : decode cLs_takeBatch 2 = .ok (.iconst 0, 1) := by decide +kernel
theorem dLs_takeBatch_3 : decode cLs_takeBatch 3 = .ok (.istore_n 3, 1) := by decide +kernel
theorem dLs_takeBatch_4 : decode cLs_takeBatch 4 = .ok (.iload_n 3, 1) := by decide +kernel
theorem dLs_takeBatch_5 : decode cLs_takeBatch 5 = .ok (.bipush 16, 2) := by decide +kernel
theorem dLs_takeBatch_7 : decode cLs_takeBatch 7 = .ok (.if_icmp .ge 69, 3) := by decide +kernel
theorem dLs_takeBatch_10 : decode cLs_takeBatch 10 = .ok (.aload_n 0, 1) := by decide +kernel
theorem dLs_takeBatch_11 : decode cLs_takeBatch 11 = .ok (.getfield 9, 3) := by decide +kernel
theorem dLs_takeBatch_14 : decode cLs_takeBatch 14 = .ok (.iload_n 2, 1) := by decide +kernel
theorem dLs_takeBatch_15 : decode cLs_takeBatch 15 = .ok (.invokevirtual 46, 3) := by decide +kernel
theorem dLs_takeBatch_18 : decode cLs_takeBatch 18 = .ok (.ifCond .ne 11, 3) := by decide +kernel
theorem dLs_takeBatch_21 : decode cLs_takeBatch 21 = .ok (.aload_n 0, 1) := by decide +kernel
theorem dLs_takeBatch_22 : decode cLs_takeBatch 22 = .ok (.getfield 9, 3) := by decide +kernel
theorem dLs_takeBatch_25 : decode cLs_takeBatch 25 = .ok (.getfield 60, 3) := by decide +kernel
theorem dLs_takeBatch_28 : decode cLs_takeBatch 28 = .ok (.ireturn, 1) := by decide +kernel
theorem dLs_takeBatch_29 : decode cLs_takeBatch 29 = .ok (.iload_n 3, 1) := by decide +kernel
theorem dLs_takeBatch_30 : decode cLs_takeBatch 30 = .ok (.iconst 2, 1) := by decide +kernel
theorem dLs_takeBatch_31 : decode cLs_takeBatch 31 = .ok (.idiv, 1) := by decide +kernel
theorem dLs_takeBatch_32 : decode cLs_takeBatch 32 = .ok (.istore 4, 2) := by decide +kernel
theorem dLs_takeBatch_34 : decode cLs_takeBatch 34 = .ok (.aload_n 0, 1) := by decide +kernel
theorem dLs_takeBatch_35 : decode cLs_takeBatch 35 = .ok (.getfield 23, 3) := by decide +kernel
theorem dLs_takeBatch_38 : decode cLs_takeBatch 38 = .ok (.ifnonnull 15, 3) := by decide +kernel
theorem dLs_takeBatch_41 : decode cLs_takeBatch 41 = .ok (.aload_n 0, 1) := by decide +kernel
theorem dLs_takeBatch_42 : decode cLs_takeBatch 42 = .ok (.getfield 15, 3) := by decide +kernel
theorem dLs_takeBatch_45 : decode cLs_takeBatch 45 = .ok (.iload 4, 2) := by decide +kernel
theorem dLs_takeBatch_47 : decode cLs_takeBatch 47 = .ok (.invokevirtual 74, 3) := by decide +kernel
theorem dLs_takeBatch_50 : decode cLs_takeBatch 50 = .ok (.ifCond .eq 17, 3) := by decide +kernel
theorem dLs_takeBatch_53 : decode cLs_takeBatch 53 = .ok (.aload_n 0, 1) := by decide +kernel
theorem dLs_takeBatch_54 : decode cLs_takeBatch 54 = .ok (.aload_n 0, 1) := by decide +kernel
theorem dLs_takeBatch_55 : decode cLs_takeBatch 55 = .ok (.getfield 9, 3) := by decide +kernel
theorem dLs_takeBatch_58 : decode cLs_takeBatch 58 = .ok (.iload_n 2, 1) := by decide +kernel
theorem dLs_takeBatch_59 : decode cLs_takeBatch 59 = .ok (.invokevirtual 77, 3) := by decide +kernel
theorem dLs_takeBatch_62 : decode cLs_takeBatch 62 = .ok (.iload 4, 2) := by decide +kernel
theorem dLs_takeBatch_64 : decode cLs_takeBatch 64 = .ok (.invokevirtual 80, 3) := by decide +kernel
theorem dLs_takeBatch_67 : decode cLs_takeBatch 67 = .ok (.iinc 2 32, 3) := by decide +kernel
theorem dLs_takeBatch_70 : decode cLs_takeBatch 70 = .ok (.iinc 3 1, 3) := by decide +kernel
theorem dLs_takeBatch_73 : decode cLs_takeBatch 73 = .ok (.goto (-69), 3) := by decide +kernel
theorem dLs_takeBatch_76 : decode cLs_takeBatch 76 = .ok (.iload_n 2, 1) := by decide +kernel
theorem dLs_takeBatch_77 : decode cLs_takeBatch 77 = .ok (.ireturn, 1) := by decide +kernel
theorem dLs_takeSync_0 : decode cLs_takeSync 0 = .ok (.aload_n 0, 1) := by decide +kernel
theorem dLs_takeSync_1 : decode cLs_takeSync 1 = .ok (.getfield 9, 3) := by decide +kernel
theorem dLs_takeSync_4 : decode cLs_takeSync 4 = .ok (.iload_n 1, 1) := by decide +kernel
theorem dLs_takeSync_5 : decode cLs_takeSync 5 = .ok (.invokevirtual 46, 3) := by decide +kernel
theorem dLs_takeSync_8 : decode cLs_takeSync 8 = .ok (.ifCond .ne 11, 3) := by decide +kernel
theorem dLs_takeSync_11 : decode cLs_takeSync 11 = .ok (.aload_n 0, 1) := by decide +kernel
theorem dLs_takeSync_12 : decode cLs_takeSync 12 = .ok (.getfield 9, 3) := by decide +kernel
theorem dLs_takeSync_15 : decode cLs_takeSync 15 = .ok (.getfield 60, 3) := by decide +kernel
theorem dLs_takeSync_18 : decode cLs_takeSync 18 = .ok (.ireturn, 1) := by decide +kernel
theorem dLs_takeSync_19 : decode cLs_takeSync 19 = .ok (.aload_n 0, 1) := by decide +kernel
theorem dLs_takeSync_20 : decode cLs_takeSync 20 = .ok (.getfield 15, 3) := by decide +kernel
theorem dLs_takeSync_23 : decode cLs_takeSync 23 = .ok (.dup, 1) := by decide +kernel
theorem dLs_takeSync_24 : decode cLs_takeSync 24 = .ok (.getfield 66, 3) := by decide +kernel
theorem dLs_takeSync_27 : decode cLs_takeSync 27 = .ok (.bipush 32, 2) := by decide +kernel
theorem dLs_takeSync_29 : decode cLs_takeSync 29 = .ok (.iadd, 1) := by decide +kernel
theorem dLs_takeSync_30 : decode cLs_takeSync 30 = .ok (.putfield 66, 3) := by decide +kernel
theorem dLs_takeSync_33 : decode cLs_takeSync 33 = .ok (.aload_n 0, 1) := by decide +kernel
theorem dLs_takeSync_34 : decode cLs_takeSync 34 = .ok (.getfield 9, 3) := by decide +kernel
theorem dLs_takeSync_37 : decode cLs_takeSync 37 = .ok (.iload_n 1, 1) := by decide +kernel
theorem dLs_takeSync_38 : decode cLs_takeSync 38 = .ok (.invokevirtual 77, 3) := by decide +kernel
theorem dLs_takeSync_41 : decode cLs_takeSync 41 = .ok (.invokestatic 71, 3) := by decide +kernel
theorem dLs_takeSync_44 : decode cLs_takeSync 44 = .ok (.ifCond .eq 8, 3) := by decide +kernel
theorem dLs_takeSync_47 : decode cLs_takeSync 47 = .ok (.iload_n 1, 1) := by decide +kernel
theorem dLs_takeSync_48 : decode cLs_takeSync 48 = .ok (.bipush 32, 2) := by decide +kernel
theorem dLs_takeSync_50 : decode cLs_takeSync 50 = .ok (.iadd, 1) := by decide +kernel
theorem dLs_takeSync_51 : decode cLs_takeSync 51 = .ok (.ireturn, 1) := by decide +kernel
theorem dLs_takeSync_52 : decode cLs_takeSync 52 = .ok (.aload_n 0, 1) := by decide +kernel
theorem dLs_takeSync_53 : decode cLs_takeSync 53 = .ok (.iconst 0, 1) := by decide +kernel
theorem dLs_takeSync_54 : decode cLs_takeSync 54 = .ok (.invokevirtual 56, 3) := by decide +kernel
theorem dLs_takeSync_57 : decode cLs_takeSync 57 = .ok (.aload_n 0, 1) := by decide +kernel
theorem dLs_takeSync_58 : decode cLs_takeSync 58 = .ok (.iload_n 1, 1) := by decide +kernel
theorem dLs_takeSync_59 : decode cLs_takeSync 59 = .ok (.bipush 32, 2) := by decide +kernel
theorem dLs_takeSync_61 : decode cLs_takeSync 61 = .ok (.iadd, 1) := by decide +kernel
theorem dLs_takeSync_62 : decode cLs_takeSync 62 = .ok (.invokevirtual 40, 3) := by decide +kernel
theorem dLs_takeSync_65 : decode cLs_takeSync 65 = .ok (.ireturn, 1) := by decide +kernel
theorem dLs_takeWord_0 : decode cLs_takeWord 0 = .ok (.aload_n 0, 1) := by decide +kernel
theorem dLs_takeWord_1 : decode cLs_takeWord 1 = .ok (.getfield 15, 3) := by decide +kernel
theorem dLs_takeWord_4 : decode cLs_takeWord 4 = .ok (.dup, 1) := by decide +kernel
theorem dLs_takeWord_5 : decode cLs_takeWord 5 = .ok (.getfield 66, 3) := by decide +kernel
theorem dLs_takeWord_8 : decode cLs_takeWord 8 = .ok (.bipush 32, 2) := by decide +kernel
theorem dLs_takeWord_10 : decode cLs_takeWord 10 = .ok (.iadd, 1) := by decide +kernel
theorem dLs_takeWord_11 : decode cLs_takeWord 11 = .ok (.putfield 66, 3) := by decide +kernel
theorem dLs_takeWord_14 : decode cLs_takeWord 14 = .ok (.iload_n 1, 1) := by decide +kernel
theorem dLs_takeWord_15 : decode cLs_takeWord 15 = .ok (.invokestatic 84, 3) := by decide +kernel
theorem dLs_takeWord_18 : decode cLs_takeWord 18 = .ok (.istore_n 3, 1) := by decide +kernel
theorem dLs_takeWord_19 : decode cLs_takeWord 19 = .ok (.iload_n 3, 1) := by decide +kernel
theorem dLs_takeWord_20 : decode cLs_takeWord 20 = .ok (.iconst (-1), 1) := by decide +kernel
theorem dLs_takeWord_21 : decode cLs_takeWord 21 = .ok (.if_icmp .ne 22, 3) := by decide +kernel
theorem dLs_takeWord_24 : decode cLs_takeWord 24 = .ok (.aload_n 0, 1) := by decide +kernel
theorem dLs_takeWord_25 : decode cLs_takeWord 25 = .ok (.getfield 15, 3) := by decide +kernel
theorem dLs_takeWord_28 : decode cLs_takeWord 28 = .ok (.dup, 1) := by decide +kernel
theorem dLs_takeWord_29 : decode cLs_takeWord 29 = .ok (.getfield 89, 3) := by decide +kernel
theorem dLs_takeWord_32 : decode cLs_takeWord 32 = .ok (.iconst 1, 1) := by decide +kernel
theorem dLs_takeWord_33 : decode cLs_takeWord 33 = .ok (.iadd, 1) := by decide +kernel
theorem dLs_takeWord_34 : decode cLs_takeWord 34 = .ok (.putfield 89, 3) := by decide +kernel
theorem dLs_takeWord_37 : decode cLs_takeWord 37 = .ok (.aload_n 0, 1) := by decide +kernel
theorem dLs_takeWord_38 : decode cLs_takeWord 38 = .ok (.iconst 1, 1) := by decide +kernel
theorem dLs_takeWord_39 : decode cLs_takeWord 39 = .ok (.invokevirtual 56, 3) := by decide +kernel
theorem dLs_takeWord_42 : decode cLs_takeWord 42 = .ok (.return_, 1) := by decide +kernel
theorem dLs_takeWord_43 : decode cLs_takeWord 43 = .ok (.aload_n 0, 1) := by decide +kernel
theorem dLs_takeWord_44 : decode cLs_takeWord 44 = .ok (.getfield 15, 3) := by decide +kernel
theorem dLs_takeWord_47 : decode cLs_takeWord 47 = .ok (.dup, 1) := by decide +kernel
theorem dLs_takeWord_48 : decode cLs_takeWord 48 = .ok (.getfield 92, 3) := by decide +kernel
theorem dLs_takeWord_51 : decode cLs_takeWord 51 = .ok (.iload_n 3, 1) := by decide +kernel
theorem dLs_takeWord_52 : decode cLs_takeWord 52 = .ok (.invokestatic 95, 3) := by decide +kernel
theorem dLs_takeWord_55 : decode cLs_takeWord 55 = .ok (.iadd, 1) := by decide +kernel
theorem dLs_takeWord_56 : decode cLs_takeWord 56 = .ok (.putfield 92, 3) := by decide +kernel
theorem dLs_takeWord_59 : decode cLs_takeWord 59 = .ok (.iload_n 1, 1) := by decide +kernel
theorem dLs_takeWord_60 : decode cLs_takeWord 60 = .ok (.iload_n 3, 1) := by decide +kernel
theorem dLs_takeWord_61 : decode cLs_takeWord 61 = .ok (.ixor, 1) := by decide +kernel
theorem dLs_takeWord_62 : decode cLs_takeWord 62 = .ok (.bipush 11, 2) := by decide +kernel
theorem dLs_takeWord_64 : decode cLs_takeWord 64 = .ok (.iushr, 1) := by decide +kernel
theorem dLs_takeWord_65 : decode cLs_takeWord 65 = .ok (.istore 4, 2) := by decide +kernel
theorem dLs_takeWord_67 : decode cLs_takeWord 67 = .ok (.aload_n 0, 1) := by decide +kernel
theorem dLs_takeWord_68 : decode cLs_takeWord 68 = .ok (.getfield 23, 3) := by decide +kernel
theorem dLs_takeWord_71 : decode cLs_takeWord 71 = .ok (.ifnull 21, 3) := by decide +kernel
theorem dLs_takeWord_74 : decode cLs_takeWord 74 = .ok (.iload 4, 2) := by decide +kernel
theorem dLs_takeWord_76 : decode cLs_takeWord 76 = .ok (.ldc 99, 2) := by decide +kernel
theorem dLs_takeWord_78 : decode cLs_takeWord 78 = .ok (.iand, 1) := by decide +kernel
theorem dLs_takeWord_79 : decode cLs_takeWord 79 = .ok (.ifCond .eq 13, 3) := by decide +kernel
theorem dLs_takeWord_82 : decode cLs_takeWord 82 = .ok (.aload_n 0, 1) := by decide +kernel
theorem dLs_takeWord_83 : decode cLs_takeWord 83 = .ok (.iload 4, 2) := by decide +kernel
theorem dLs_takeWord_85 : decode cLs_takeWord 85 = .ok (.ldc 100, 2) := by decide +kernel
theorem dLs_takeWord_87 : decode cLs_takeWord 87 = .ok (.iand, 1) := by decide +kernel
theorem dLs_takeWord_88 : decode cLs_takeWord 88 = .ok (.invokevirtual 101, 3) := by decide +kernel
theorem dLs_takeWord_91 : decode cLs_takeWord 91 = .ok (.return_, 1) := by decide +kernel
theorem dLs_takeWord_92 : decode cLs_takeWord 92 = .ok (.aload_n 0, 1) := by decide +kernel
theorem dLs_takeWord_93 : decode cLs_takeWord 93 = .ok (.iconst 0, 1) := by decide +kernel
theorem dLs_takeWord_94 : decode cLs_takeWord 94 = .ok (.invokevirtual 56, 3) := by decide +kernel
theorem dLs_takeWord_97 : decode cLs_takeWord 97 = .ok (.aload_n 0, 1) := by decide +kernel
theorem dLs_takeWord_98 : decode cLs_takeWord 98 = .ok (.aload_n 0, 1) := by decide +kernel
theorem dLs_takeWord_99 : decode cLs_takeWord 99 = .ok (.getfield 15, 3) := by decide +kernel
theorem dLs_takeWord_102 : decode cLs_takeWord 102 = .ok (.iload_n 1, 1) := by decide +kernel
theorem dLs_takeWord_103 : decode cLs_takeWord 103 = .ok (.iload_n 3, 1) := by decide +kernel
theorem dLs_takeWord_104 : decode cLs_takeWord 104 = .ok (.ixor, 1) := by decide +kernel
theorem dLs_takeWord_105 : decode cLs_takeWord 105 = .ok (.iload_n 2, 1) := by decide +kernel
theorem dLs_takeWord_106 : decode cLs_takeWord 106 = .ok (.invokevirtual 105, 3) := by decide +kernel
theorem dLs_takeWord_109 : decode cLs_takeWord 109 = .ok (.invokevirtual 109, 3) := by decide +kernel
theorem dLs_takeWord_112 : decode cLs_takeWord 112 = .ok (.return_, 1) := by decide +kernel
theorem dMs_init_0 : decode cMs_init 0 = .ok (.aload_n 0, 1) := by decide +kernel
theorem dMs_init_1 : decode cMs_init 1 = .ok (.invokespecial 3, 3) := by decide +kernel
theorem dMs_init_4 : decode cMs_init 4 = .ok (.aload_n 0, 1) := by decide +kernel
theorem dMs_init_5 : decode cMs_init 5 = .ok (.iconst 1, 1) := by decide +kernel
theorem dMs_init_6 : decode cMs_init 6 = .ok (.putfield 9, 3) := by decide +kernel
theorem dMs_init_9 : decode cMs_init 9 = .ok (.aload_n 0, 1) := by decide +kernel
theorem dMs_init_10 : decode cMs_init 10 = .ok (.aload_n 1, 1) := by decide +kernel
theorem dMs_init_11 : decode cMs_init 11 = .ok (.putfield 15, 3) := by decide +kernel
theorem dMs_init_14 : decode cMs_init 14 = .ok (.aload_n 0, 1) := by decide +kernel
theorem dMs_init_15 : decode cMs_init 15 = .ok (.iload_n 2, 1) := by decide +kernel
theorem dMs_init_16 : decode cMs_init 16 = .ok (.putfield 19, 3) := by decide +kernel
theorem dMs_init_19 : decode cMs_init 19 = .ok (.aload_n 0, 1) := by decide +kernel
theorem dMs_init_20 : decode cMs_init 20 = .ok (.iload_n 3, 1) := by decide +kernel
theorem dMs_init_21 : decode cMs_init 21 = .ok (.putfield 23, 3) := by decide +kernel
theorem dMs_init_24 : decode cMs_init 24 = .ok (.aload_n 0, 1) := by decide +kernel
theorem dMs_init_25 : decode cMs_init 25 = .ok (.aload 4, 2) := by decide +kernel
theorem dMs_init_27 : decode cMs_init 27 = .ok (.putfield 26, 3) := by decide +kernel
theorem dMs_init_30 : decode cMs_init 30 = .ok (.aload_n 0, 1) := by decide +kernel
theorem dMs_init_31 : decode cMs_init 31 = .ok (.aload_n 1, 1) := by decide +kernel
theorem dMs_init_32 : decode cMs_init 32 = .ok (.iload_n 3, 1) := by decide +kernel
theorem dMs_init_33 : decode cMs_init 33 = .ok (.aload 4, 2) := by decide +kernel
theorem dMs_init_35 : decode cMs_init 35 = .ok (.invokestatic 30, 3) := by decide +kernel
theorem dMs_init_38 : decode cMs_init 38 = .ok (.putfield 34, 3) := by decide +kernel
theorem dMs_init_41 : decode cMs_init 41 = .ok (.return_, 1) := by decide +kernel
theorem dMs_sentSign_0 : decode cMs_sentSign 0 = .ok (.iload_n 0, 1) := by decide +kernel
theorem dMs_sentSign_1 : decode cMs_sentSign 1 = .ok (.aload_n 1, 1) := by decide +kernel
theorem dMs_sentSign_2 : decode cMs_sentSign 2 = .ok (.invokevirtual 37, 3) := by decide +kernel
theorem dMs_sentSign_5 : decode cMs_sentSign 5 = .ok (.isub, 1) := by decide +kernel
theorem dMs_sentSign_6 : decode cMs_sentSign 6 = .ok (.istore 4, 2) := by decide +kernel
theorem dMs_sentSign_8 : decode cMs_sentSign 8 = .ok (.iload 4, 2) := by decide +kernel
theorem dMs_sentSign_10 : decode cMs_sentSign 10 = .ok (.ifCond .ge 10, 3) := by decide +kernel
theorem dMs_sentSign_13 : decode cMs_sentSign 13 = .ok (.aload_n 1, 1) := by decide +kernel
theorem dMs_sentSign_14 : decode cMs_sentSign 14 = .ok (.iload_n 0, 1) := by decide +kernel
theorem dMs_sentSign_15 : decode cMs_sentSign 15 = .ok (.iload_n 2, 1) := by decide +kernel
theorem dMs_sentSign_16 : decode cMs_sentSign 16 = .ok (.invokevirtual 58, 3) := by decide +kernel
theorem dMs_sentSign_19 : decode cMs_sentSign 19 = .ok (.ireturn, 1) := by decide +kernel
theorem dMs_sentSign_20 : decode cMs_sentSign 20 = .ok (.iload 4, 2) := by decide +kernel
theorem dMs_sentSign_22 : decode cMs_sentSign 22 = .ok (.aload_n 3, 1) := by decide +kernel
theorem dMs_sentSign_23 : decode cMs_sentSign 23 = .ok (.arraylength, 1) := by decide +kernel
theorem dMs_sentSign_24 : decode cMs_sentSign 24 = .ok (.if_icmp .ge 10, 3) := by decide +kernel
theorem dMs_sentSign_27 : decode cMs_sentSign 27 = .ok (.aload_n 3, 1) := by decide +kernel
theorem dMs_sentSign_28 : decode cMs_sentSign 28 = .ok (.iload 4, 2) := by decide +kernel
theorem dMs_sentSign_30 : decode cMs_sentSign 30 = .ok (.iaload, 1) := by decide +kernel
theorem dMs_sentSign_31 : decode cMs_sentSign 31 = .ok (.goto 7, 3) := by decide +kernel
theorem dMs_sentSign_34 : decode cMs_sentSign 34 = .ok (.aload_n 1, 1) := by decide +kernel
theorem dMs_sentSign_35 : decode cMs_sentSign 35 = .ok (.getfield 62, 3) := by decide +kernel
theorem dMs_sentSign_38 : decode cMs_sentSign 38 = .ok (.ireturn, 1) := by decide +kernel
theorem dMs_wordsOf_0 : decode cMs_wordsOf 0 = .ok (.aload_n 0, 1) := by decide +kernel
theorem dMs_wordsOf_1 : decode cMs_wordsOf 1 = .ok (.invokevirtual 37, 3) := by decide +kernel
theorem dMs_wordsOf_4 : decode cMs_wordsOf 4 = .ok (.aload_n 2, 1) := by decide +kernel
theorem dMs_wordsOf_5 : decode cMs_wordsOf 5 = .ok (.arraylength, 1) := by decide +kernel
theorem dMs_wordsOf_6 : decode cMs_wordsOf 6 = .ok (.iadd, 1) := by decide +kernel
theorem dMs_wordsOf_7 : decode cMs_wordsOf 7 = .ok (.aload_n 0, 1) := by decide +kernel
theorem dMs_wordsOf_8 : decode cMs_wordsOf 8 = .ok (.getfield 43, 3) := by decide +kernel
theorem dMs_wordsOf_11 : decode cMs_wordsOf 11 = .ok (.imul, 1) := by decide +kernel
theorem dMs_wordsOf_12 : decode cMs_wordsOf 12 = .ok (.istore_n 3, 1) := by decide +kernel
theorem dMs_wordsOf_13 : decode cMs_wordsOf 13 = .ok (.iconst 1, 1) := by decide +kernel
theorem dMs_wordsOf_14 : decode cMs_wordsOf 14 = .ok (.iload_n 3, 1) := by decide +kernel
theorem dMs_wordsOf_15 : decode cMs_wordsOf 15 = .ok (.bipush 20, 2) := by decide +kernel
theorem dMs_wordsOf_17 : decode cMs_wordsOf 17 = .ok (.iadd, 1) := by decide +kernel
theorem dMs_wordsOf_18 : decode cMs_wordsOf 18 = .ok (.iconst 1, 1) := by decide +kernel
theorem dMs_wordsOf_19 : decode cMs_wordsOf 19 = .ok (.isub, 1) := by decide +kernel
theorem dMs_wordsOf_20 : decode cMs_wordsOf 20 = .ok (.bipush 20, 2) := by decide +kernel
theorem dMs_wordsOf_22 : decode cMs_wordsOf 22 = .ok (.idiv, 1) := by decide +kernel
theorem dMs_wordsOf_23 : decode cMs_wordsOf 23 = .ok (.iadd, 1) := by decide +kernel
theorem dMs_wordsOf_24 : decode cMs_wordsOf 24 = .ok (.newarray .int, 2) := by decide +kernel
theorem dMs_wordsOf_26 : decode cMs_wordsOf 26 = .ok (.astore 4, 2) := by decide +kernel
theorem dMs_wordsOf_28 : decode cMs_wordsOf 28 = .ok (.aload 4, 2) := by decide +kernel
theorem dMs_wordsOf_30 : decode cMs_wordsOf 30 = .ok (.iconst 0, 1) := by decide +kernel
theorem dMs_wordsOf_31 : decode cMs_wordsOf 31 = .ok (.aload_n 0, 1) := by decide +kernel
theorem dMs_wordsOf_32 : decode cMs_wordsOf 32 = .ok (.getfield 46, 3) := by decide +kernel
theorem dMs_wordsOf_35 : decode cMs_wordsOf 35 = .ok (.iastore, 1) := by decide +kernel
theorem dMs_wordsOf_36 : decode cMs_wordsOf 36 = .ok (.iconst 0, 1) := by decide +kernel
theorem dMs_wordsOf_37 : decode cMs_wordsOf 37 = .ok (.istore 5, 2) := by decide +kernel
theorem dMs_wordsOf_39 : decode cMs_wordsOf 39 = .ok (.iconst 0, 1) := by decide +kernel
theorem dMs_wordsOf_40 : decode cMs_wordsOf 40 = .ok (.istore 6, 2) := by decide +kernel
theorem dMs_wordsOf_42 : decode cMs_wordsOf 42 = .ok (.iconst 1, 1) := by decide +kernel
theorem dMs_wordsOf_43 : decode cMs_wordsOf 43 = .ok (.istore 7, 2) := by decide +kernel
theorem dMs_wordsOf_45 : decode cMs_wordsOf 45 = .ok (.iload 7, 2) := by decide +kernel
theorem dMs_wordsOf_47 : decode cMs_wordsOf 47 = .ok (.aload 4, 2) := by decide +kernel
theorem dMs_wordsOf_49 : decode cMs_wordsOf 49 = .ok (.arraylength, 1) := by decide +kernel
theorem dMs_wordsOf_50 : decode cMs_wordsOf 50 = .ok (.if_icmp .ge 79, 3) := by decide +kernel
theorem dMs_wordsOf_53 : decode cMs_wordsOf 53 = .ok (.iconst 0, 1) := by decide +kernel
theorem dMs_wordsOf_54 : decode cMs_wordsOf 54 = .ok (.istore 8, 2) := by decide +kernel
theorem dMs_wordsOf_56 : decode cMs_wordsOf 56 = .ok (.iconst 0, 1) := by decide +kernel
theorem dMs_wordsOf_57 : decode cMs_wordsOf 57 = .ok (.istore 9, 2) := by decide +kernel
theorem dMs_wordsOf_59 : decode cMs_wordsOf 59 = .ok (.iload 9, 2) := by decide +kernel
theorem dMs_wordsOf_61 : decode cMs_wordsOf 61 = .ok (.bipush 20, 2) := by decide +kernel
theorem dMs_wordsOf_63 : decode cMs_wordsOf 63 = .ok (.if_icmp .ge 47, 3) := by decide +kernel
theorem dMs_wordsOf_66 : decode cMs_wordsOf 66 = .ok (.iload 8, 2) := by decide +kernel
theorem dMs_wordsOf_68 : decode cMs_wordsOf 68 = .ok (.iconst 1, 1) := by decide +kernel
theorem dMs_wordsOf_69 : decode cMs_wordsOf 69 = .ok (.ishl, 1) := by decide +kernel
theorem dMs_wordsOf_70 : decode cMs_wordsOf 70 = .ok (.iload 5, 2) := by decide +kernel
theorem dMs_wordsOf_72 : decode cMs_wordsOf 72 = .ok (.aload_n 0, 1) := by decide +kernel
theorem dMs_wordsOf_73 : decode cMs_wordsOf 73 = .ok (.iload_n 1, 1) := by decide +kernel
theorem dMs_wordsOf_74 : decode cMs_wordsOf 74 = .ok (.aload_n 2, 1) := by decide +kernel
theorem dMs_wordsOf_75 : decode cMs_wordsOf 75 = .ok (.invokestatic 49, 3) := by decide +kernel
theorem dMs_wordsOf_78 : decode cMs_wordsOf 78 = .ok (.iload 6, 2) := by decide +kernel
theorem dMs_wordsOf_80 : decode cMs_wordsOf 80 = .ok (.iushr, 1) := by decide +kernel
theorem dMs_wordsOf_81 : decode cMs_wordsOf 81 = .ok (.iconst 1, 1) := by decide +kernel
theorem dMs_wordsOf_82 : decode cMs_wordsOf 82 = .ok (.iand, 1) := by decide +kernel
theorem dMs_wordsOf_83 : decode cMs_wordsOf 83 = .ok (.ior, 1) := by decide +kernel
theorem dMs_wordsOf_84 : decode cMs_wordsOf 84 = .ok (.istore 8, 2) := by decide +kernel
theorem dMs_wordsOf_86 : decode cMs_wordsOf 86 = .ok (.iinc 6 1, 3) := by decide +kernel
theorem dMs_wordsOf_89 : decode cMs_wordsOf 89 = .ok (.iload 6, 2) := by decide +kernel
theorem dMs_wordsOf_91 : decode cMs_wordsOf 91 = .ok (.aload_n 0, 1) := by decide +kernel
theorem dMs_wordsOf_92 : decode cMs_wordsOf 92 = .ok (.getfield 43, 3) := by decide +kernel
theorem dMs_wordsOf_95 : decode cMs_wordsOf 95 = .ok (.if_icmp .ne 9, 3) := by decide +kernel
theorem dMs_wordsOf_98 : decode cMs_wordsOf 98 = .ok (.iconst 0, 1) := by decide +kernel
theorem dMs_wordsOf_99 : decode cMs_wordsOf 99 = .ok (.istore 6, 2) := by decide +kernel
theorem dMs_wordsOf_101 : decode cMs_wordsOf 101 = .ok (.iinc 5 1, 3) := by decide +kernel
theorem dMs_wordsOf_104 : decode cMs_wordsOf 104 = .ok (.iinc 9 1, 3) := by decide +kernel
theorem dMs_wordsOf_107 : decode cMs_wordsOf 107 = .ok (.goto (-48), 3) := by decide +kernel
theorem dMs_wordsOf_110 : decode cMs_wordsOf 110 = .ok (.aload 4, 2) := by decide +kernel
theorem dMs_wordsOf_112 : decode cMs_wordsOf 112 = .ok (.iload 7, 2) := by decide +kernel
theorem dMs_wordsOf_114 : decode cMs_wordsOf 114 = .ok (.ldc 53, 2) := by decide +kernel
theorem dMs_wordsOf_116 : decode cMs_wordsOf 116 = .ok (.iload 8, 2) := by decide +kernel
theorem dMs_wordsOf_118 : decode cMs_wordsOf 118 = .ok (.ior, 1) := by decide +kernel
theorem dMs_wordsOf_119 : decode cMs_wordsOf 119 = .ok (.invokestatic 54, 3) := by decide +kernel
theorem dMs_wordsOf_122 : decode cMs_wordsOf 122 = .ok (.iastore, 1) := by decide +kernel
theorem dMs_wordsOf_123 : decode cMs_wordsOf 123 = .ok (.iinc 7 1, 3) := by decide +kernel
theorem dMs_wordsOf_126 : decode cMs_wordsOf 126 = .ok (.goto (-81), 3) := by decide +kernel
theorem dMs_wordsOf_129 : decode cMs_wordsOf 129 = .ok (.aload 4, 2) := by decide +kernel
theorem dMs_wordsOf_131 : decode cMs_wordsOf 131 = .ok (.areturn, 1) := by decide +kernel
theorem dPg_init_0 : decode cPg_init 0 = .ok (.aload_n 0, 1) := by decide +kernel
theorem dPg_init_1 : decode cPg_init 1 = .ok (.invokespecial 1, 3) := by decide +kernel
theorem dPg_init_4 : decode cPg_init 4 = .ok (.aload_n 0, 1) := by decide +kernel
theorem dPg_init_5 : decode cPg_init 5 = .ok (.iconst 4, 1) := by decide +kernel
theorem dPg_init_6 : decode cPg_init 6 = .ok (.anewarray 9, 3) := by decide +kernel
theorem dPg_init_9 : decode cPg_init 9 = .ok (.putfield 11, 3) := by decide +kernel
theorem dPg_init_12 : decode cPg_init 12 = .ok (.aload_n 0, 1) := by decide +kernel
theorem dPg_init_13 : decode cPg_init 13 = .ok (.iconst 0, 1) := by decide +kernel
theorem dPg_init_14 : decode cPg_init 14 = .ok (.putfield 15, 3) := by decide +kernel
theorem dPg_init_17 : decode cPg_init 17 = .ok (.aload_n 0, 1) := by decide +kernel
theorem dPg_init_18 : decode cPg_init 18 = .ok (.bipush 10, 2) := by decide +kernel
theorem dPg_init_20 : decode cPg_init 20 = .ok (.anewarray 19, 3) := by decide +kernel
theorem dPg_init_23 : decode cPg_init 23 = .ok (.putfield 21, 3) := by decide +kernel
theorem dPg_init_26 : decode cPg_init 26 = .ok (.aload_n 0, 1) := by decide +kernel
theorem dPg_init_27 : decode cPg_init 27 = .ok (.iconst 0, 1) := by decide +kernel
theorem dPg_init_28 : decode cPg_init 28 = .ok (.putfield 25, 3) := by decide +kernel
theorem dPg_init_31 : decode cPg_init 31 = .ok (.aload_n 0, 1) := by decide +kernel
theorem dPg_init_32 : decode cPg_init 32 = .ok (.iconst 0, 1) := by decide +kernel
theorem dPg_init_33 : decode cPg_init 33 = .ok (.putfield 28, 3) := by decide +kernel
theorem dPg_init_36 : decode cPg_init 36 = .ok (.aload_n 0, 1) := by decide +kernel
theorem dPg_init_37 : decode cPg_init 37 = .ok (.iconst 0, 1) := by decide +kernel
theorem dPg_init_38 : decode cPg_init 38 = .ok (.putfield 31, 3) := by decide +kernel
theorem dPg_init_41 : decode cPg_init 41 = .ok (.aload_n 0, 1) := by decide +kernel
theorem dPg_init_42 : decode cPg_init 42 = .ok (.iconst 0, 1) := by decide +kernel
theorem dPg_init_43 : decode cPg_init 43 = .ok (.putfield 34, 3) := by decide +kernel
theorem dPg_init_46 : decode cPg_init 46 = .ok (.aload_n 0, 1) := by decide +kernel
theorem dPg_init_47 : decode cPg_init 47 = .ok (.iconst 0, 1) := by decide +kernel
theorem dPg_init_48 : decode cPg_init 48 = .ok (.putfield 37, 3) := by decide +kernel
theorem dPg_init_51 : decode cPg_init 51 = .ok (.aload_n 0, 1) := by decide +kernel
theorem dPg_init_52 : decode cPg_init 52 = .ok (.iconst 0, 1) := by decide +kernel
theorem dPg_init_53 : decode cPg_init 53 = .ok (.putfield 40, 3) := by decide +kernel
theorem dPg_init_56 : decode cPg_init 56 = .ok (.iconst 0, 1) := by decide +kernel
theorem dPg_init_57 : decode cPg_init 57 = .ok (.istore_n 1, 1) := by decide +kernel
theorem dPg_init_58 : decode cPg_init 58 = .ok (.iload_n 1, 1) := by decide +kernel
theorem dPg_init_59 : decode cPg_init 59 = .ok (.bipush 10, 2) := by decide +kernel
theorem dPg_init_61 : decode cPg_init 61 = .ok (.if_icmp .ge 22, 3) := by decide +kernel
theorem dPg_init_64 : decode cPg_init 64 = .ok (.aload_n 0, 1) := by decide +kernel
theorem dPg_init_65 : decode cPg_init 65 = .ok (.getfield 21, 3) := by decide +kernel
theorem dPg_init_68 : decode cPg_init 68 = .ok (.iload_n 1, 1) := by decide +kernel
theorem dPg_init_69 : decode cPg_init 69 = .ok (.new 19, 3) := by decide +kernel
theorem dPg_init_72 : decode cPg_init 72 = .ok (.dup, 1) := by decide +kernel
theorem dPg_init_73 : decode cPg_init 73 = .ok (.invokespecial 43, 3) := by decide +kernel
theorem dPg_init_76 : decode cPg_init 76 = .ok (.aastore, 1) := by decide +kernel
theorem dPg_init_77 : decode cPg_init 77 = .ok (.iinc 1 1, 3) := by decide +kernel
theorem dPg_init_80 : decode cPg_init 80 = .ok (.goto (-22), 3) := by decide +kernel
theorem dPg_init_83 : decode cPg_init 83 = .ok (.return_, 1) := by decide +kernel
theorem dPg_addHeard_0 : decode cPg_addHeard 0 = .ok (.aload_n 0, 1) := by decide +kernel
theorem dPg_addHeard_1 : decode cPg_addHeard 1 = .ok (.getfield 15, 3) := by decide +kernel
theorem dPg_addHeard_4 : decode cPg_addHeard 4 = .ok (.iconst 4, 1) := by decide +kernel
theorem dPg_addHeard_5 : decode cPg_addHeard 5 = .ok (.if_icmp .ge 14, 3) := by decide +kernel
theorem dPg_addHeard_8 : decode cPg_addHeard 8 = .ok (.aload_n 0, 1) := by decide +kernel
theorem dPg_addHeard_9 : decode cPg_addHeard 9 = .ok (.aload_n 1, 1) := by decide +kernel
theorem dPg_addHeard_10 : decode cPg_addHeard 10 = .ok (.getfield 44, 3) := by decide +kernel
theorem dPg_addHeard_13 : decode cPg_addHeard 13 = .ok (.invokevirtual 49, 3) := by decide +kernel
theorem dPg_addHeard_16 : decode cPg_addHeard 16 = .ok (.ifnull 5, 3) := by decide +kernel
theorem dPg_addHeard_19 : decode cPg_addHeard 19 = .ok (.iconst 0, 1) := by decide +kernel
theorem dPg_addHeard_20 : decode cPg_addHeard 20 = .ok (.ireturn, 1) := by decide +kernel
theorem dPg_addHeard_21 : decode cPg_addHeard 21 = .ok (.aload_n 0, 1) := by decide +kernel
theorem dPg_addHeard_22 : decode cPg_addHeard 22 = .ok (.getfield 11, 3) := by decide +kernel
theorem dPg_addHeard_25 : decode cPg_addHeard 25 = .ok (.aload_n 0, 1) := by decide +kernel
theorem dPg_addHeard_26 : decode cPg_addHeard 26 = .ok (.getfield 15, 3) := by decide +kernel
theorem dPg_addHeard_29 : decode cPg_addHeard 29 = .ok (.new 9, 3) := by decide +kernel
theorem dPg_addHeard_32 : decode cPg_addHeard 32 = .ok (.dup, 1) := by decide +kernel
theorem dPg_addHeard_33 : decode cPg_addHeard 33 = .ok (.aload_n 1, 1) := by decide +kernel
theorem dPg_addHeard_34 : decode cPg_addHeard 34 = .ok (.invokespecial 53, 3) := by decide +kernel
theorem dPg_addHeard_37 : decode cPg_addHeard 37 = .ok (.aastore, 1) := by decide +kernel
theorem dPg_addHeard_38 : decode cPg_addHeard 38 = .ok (.aload_n 0, 1) := by decide +kernel
theorem dPg_addHeard_39 : decode cPg_addHeard 39 = .ok (.dup, 1) := by decide +kernel
theorem dPg_addHeard_40 : decode cPg_addHeard 40 = .ok (.getfield 15, 3) := by decide +kernel
theorem dPg_addHeard_43 : decode cPg_addHeard 43 = .ok (.iconst 1, 1) := by decide +kernel
theorem dPg_addHeard_44 : decode cPg_addHeard 44 = .ok (.iadd, 1) := by decide +kernel
theorem dPg_addHeard_45 : decode cPg_addHeard 45 = .ok (.putfield 15, 3) := by decide +kernel
theorem dPg_addHeard_48 : decode cPg_addHeard 48 = .ok (.iconst 1, 1) := by decide +kernel
theorem dPg_addHeard_49 : decode cPg_addHeard 49 = .ok (.ireturn, 1) := by decide +kernel
theorem dPg_calledBy_0 : decode cPg_calledBy 0 = .ok (.iconst 0, 1) := by decide +kernel
theorem dPg_calledBy_1 : decode cPg_calledBy 1 = .ok (.istore_n 3, 1) := by decide +kernel
end
section
theorem dPg_calledBy_2 : decode cPg_calledBy 2 = .ok (.iload_n 3, 1) := by decide +kernel
theorem dPg_calledBy_3 : decode cPg_calledBy 3 = .ok (.aload_n 0, 1) := by decide +kernel
theorem dPg_calledBy_4 : decode cPg_calledBy 4 = .ok (.getfield 15, 3) := by decide +kernel
theorem dPg_calledBy_7 : decode cPg_calledBy 7 = .ok (.if_icmp .ge 45, 3) := by decide +kernel
theorem dPg_calledBy_10 : decode cPg_calledBy 10 = .ok (.aload_n 0, 1) := by decide +kernel
theorem dPg_calledBy_11 : decode cPg_calledBy 11 = .ok (.getfield 11, 3) := by decide +kernel
theorem dPg_calledBy_14 : decode cPg_calledBy 14 = .ok (.iload_n 3, 1) := by decide +kernel
theorem dPg_calledBy_15 : decode cPg_calledBy 15 = .ok (.aaload, 1) := by decide +kernel
theorem dPg_calledBy_16 : decode cPg_calledBy 16 = .ok (.getfield 56, 3) := by decide +kernel
theorem dPg_calledBy_19 : decode cPg_calledBy 19 = .ok (.astore 4, 2) := by decide +kernel
theorem dPg_calledBy_21 : decode cPg_calledBy 21 = .ok (.aload 4, 2) := by decide +kernel
theorem dPg_calledBy_23 : decode cPg_calledBy 23 = .ok (.getfield 60, 3) := by decide +kernel
theorem dPg_calledBy_26 : decode cPg_calledBy 26 = .ok (.iload_n 2, 1) := by decide +kernel
theorem dPg_calledBy_27 : decode cPg_calledBy 27 = .ok (.if_icmp .ne 19, 3) := by decide +kernel
theorem dPg_calledBy_30 : decode cPg_calledBy 30 = .ok (.aload 4, 2) := by decide +kernel
theorem dPg_calledBy_32 : decode cPg_calledBy 32 = .ok (.getfield 63, 3) := by decide +kernel
theorem dPg_calledBy_35 : decode cPg_calledBy 35 = .ok (.iload_n 1, 1) := by decide +kernel
theorem dPg_calledBy_36 : decode cPg_calledBy 36 = .ok (.if_icmp .ne 10, 3) := by decide +kernel
theorem dPg_calledBy_39 : decode cPg_calledBy 39 = .ok (.aload_n 0, 1) := by decide +kernel
theorem dPg_calledBy_40 : decode cPg_calledBy 40 = .ok (.getfield 11, 3) := by decide +kernel
theorem dPg_calledBy_43 : decode cPg_calledBy 43 = .ok (.iload_n 3, 1) := by decide +kernel
theorem dPg_calledBy_44 : decode cPg_calledBy 44 = .ok (.aaload, 1) := by decide +kernel
theorem dPg_calledBy_45 : decode cPg_calledBy 45 = .ok (.areturn, 1) := by decide +kernel
theorem dPg_calledBy_46 : decode cPg_calledBy 46 = .ok (.iinc 3 1, 3) := by decide +kernel
theorem dPg_calledBy_49 : decode cPg_calledBy 49 = .ok (.goto (-47), 3) := by decide +kernel
theorem dPg_calledBy_52 : decode cPg_calledBy 52 = .ok (.aconst_null, 1) := by decide +kernel
theorem dPg_calledBy_53 : decode cPg_calledBy 53 = .ok (.areturn, 1) := by decide +kernel
theorem dPg_hasFrame_0 : decode cPg_hasFrame 0 = .ok (.iconst 0, 1) := by decide +kernel
theorem dPg_hasFrame_1 : decode cPg_hasFrame 1 = .ok (.istore_n 2, 1) := by decide +kernel
theorem dPg_hasFrame_2 : decode cPg_hasFrame 2 = .ok (.iload_n 2, 1) := by decide +kernel
theorem dPg_hasFrame_3 : decode cPg_hasFrame 3 = .ok (.aload_n 0, 1) := by decide +kernel
theorem dPg_hasFrame_4 : decode cPg_hasFrame 4 = .ok (.getfield 15, 3) := by decide +kernel
theorem dPg_hasFrame_7 : decode cPg_hasFrame 7 = .ok (.if_icmp .ge 27, 3) := by decide +kernel
theorem dPg_hasFrame_10 : decode cPg_hasFrame 10 = .ok (.aload_n 0, 1) := by decide +kernel
theorem dPg_hasFrame_11 : decode cPg_hasFrame 11 = .ok (.getfield 11, 3) := by decide +kernel
theorem dPg_hasFrame_14 : decode cPg_hasFrame 14 = .ok (.iload_n 2, 1) := by decide +kernel
theorem dPg_hasFrame_15 : decode cPg_hasFrame 15 = .ok (.aaload, 1) := by decide +kernel
theorem dPg_hasFrame_16 : decode cPg_hasFrame 16 = .ok (.getfield 56, 3) := by decide +kernel
theorem dPg_hasFrame_19 : decode cPg_hasFrame 19 = .ok (.getfield 60, 3) := by decide +kernel
theorem dPg_hasFrame_22 : decode cPg_hasFrame 22 = .ok (.iload_n 1, 1) := by decide +kernel
theorem dPg_hasFrame_23 : decode cPg_hasFrame 23 = .ok (.if_icmp .ne 5, 3) := by decide +kernel
theorem dPg_hasFrame_26 : decode cPg_hasFrame 26 = .ok (.iconst 1, 1) := by decide +kernel
theorem dPg_hasFrame_27 : decode cPg_hasFrame 27 = .ok (.ireturn, 1) := by decide +kernel
theorem dPg_hasFrame_28 : decode cPg_hasFrame 28 = .ok (.iinc 2 1, 3) := by decide +kernel
theorem dPg_hasFrame_31 : decode cPg_hasFrame 31 = .ok (.goto (-29), 3) := by decide +kernel
theorem dPg_hasFrame_34 : decode cPg_hasFrame 34 = .ok (.iconst 0, 1) := by decide +kernel
theorem dPg_hasFrame_35 : decode cPg_hasFrame 35 = .ok (.ireturn, 1) := by decide +kernel
theorem dPg_heardOf_0 : decode cPg_heardOf 0 = .ok (.iconst 0, 1) := by decide +kernel
theorem dPg_heardOf_1 : decode cPg_heardOf 1 = .ok (.istore_n 2, 1) := by decide +kernel
theorem dPg_heardOf_2 : decode cPg_heardOf 2 = .ok (.iload_n 2, 1) := by decide +kernel
theorem dPg_heardOf_3 : decode cPg_heardOf 3 = .ok (.aload_n 0, 1) := by decide +kernel
theorem dPg_heardOf_4 : decode cPg_heardOf 4 = .ok (.getfield 15, 3) := by decide +kernel
theorem dPg_heardOf_7 : decode cPg_heardOf 7 = .ok (.if_icmp .ge 32, 3) := by decide +kernel
theorem dPg_heardOf_10 : decode cPg_heardOf 10 = .ok (.aload_n 0, 1) := by decide +kernel
theorem dPg_heardOf_11 : decode cPg_heardOf 11 = .ok (.getfield 11, 3) := by decide +kernel
theorem dPg_heardOf_14 : decode cPg_heardOf 14 = .ok (.iload_n 2, 1) := by decide +kernel
theorem dPg_heardOf_15 : decode cPg_heardOf 15 = .ok (.aaload, 1) := by decide +kernel
theorem dPg_heardOf_16 : decode cPg_heardOf 16 = .ok (.getfield 56, 3) := by decide +kernel
theorem dPg_heardOf_19 : decode cPg_heardOf 19 = .ok (.getfield 44, 3) := by decide +kernel
theorem dPg_heardOf_22 : decode cPg_heardOf 22 = .ok (.iload_n 1, 1) := by decide +kernel
theorem dPg_heardOf_23 : decode cPg_heardOf 23 = .ok (.if_icmp .ne 10, 3) := by decide +kernel
theorem dPg_heardOf_26 : decode cPg_heardOf 26 = .ok (.aload_n 0, 1) := by decide +kernel
theorem dPg_heardOf_27 : decode cPg_heardOf 27 = .ok (.getfield 11, 3) := by decide +kernel
theorem dPg_heardOf_30 : decode cPg_heardOf 30 = .ok (.iload_n 2, 1) := by decide +kernel
theorem dPg_heardOf_31 : decode cPg_heardOf 31 = .ok (.aaload, 1) := by decide +kernel
theorem dPg_heardOf_32 : decode cPg_heardOf 32 = .ok (.areturn, 1) := by decide +kernel
theorem dPg_heardOf_33 : decode cPg_heardOf 33 = .ok (.iinc 2 1, 3) := by decide +kernel
theorem dPg_heardOf_36 : decode cPg_heardOf 36 = .ok (.goto (-34), 3) := by decide +kernel
theorem dPg_heardOf_39 : decode cPg_heardOf 39 = .ok (.aconst_null, 1) := by decide +kernel
theorem dPg_heardOf_40 : decode cPg_heardOf 40 = .ok (.areturn, 1) := by decide +kernel
theorem dPg_nextStored_0 : decode cPg_nextStored 0 = .ok (.aload_n 0, 1) := by decide +kernel
theorem dPg_nextStored_1 : decode cPg_nextStored 1 = .ok (.getfield 21, 3) := by decide +kernel
theorem dPg_nextStored_4 : decode cPg_nextStored 4 = .ok (.aload_n 0, 1) := by decide +kernel
theorem dPg_nextStored_5 : decode cPg_nextStored 5 = .ok (.getfield 25, 3) := by decide +kernel
theorem dPg_nextStored_8 : decode cPg_nextStored 8 = .ok (.aload_n 0, 1) := by decide +kernel
theorem dPg_nextStored_9 : decode cPg_nextStored 9 = .ok (.getfield 28, 3) := by decide +kernel
theorem dPg_nextStored_12 : decode cPg_nextStored 12 = .ok (.iadd, 1) := by decide +kernel
theorem dPg_nextStored_13 : decode cPg_nextStored 13 = .ok (.bipush 10, 2) := by decide +kernel
theorem dPg_nextStored_15 : decode cPg_nextStored 15 = .ok (.irem, 1) := by decide +kernel
theorem dPg_nextStored_16 : decode cPg_nextStored 16 = .ok (.aaload, 1) := by decide +kernel
theorem dPg_nextStored_17 : decode cPg_nextStored 17 = .ok (.astore_n 1, 1) := by decide +kernel
theorem dPg_nextStored_18 : decode cPg_nextStored 18 = .ok (.aload_n 0, 1) := by decide +kernel
theorem dPg_nextStored_19 : decode cPg_nextStored 19 = .ok (.getfield 28, 3) := by decide +kernel
theorem dPg_nextStored_22 : decode cPg_nextStored 22 = .ok (.bipush 10, 2) := by decide +kernel
theorem dPg_nextStored_24 : decode cPg_nextStored 24 = .ok (.if_icmp .ge 16, 3) := by decide +kernel
theorem dPg_nextStored_27 : decode cPg_nextStored 27 = .ok (.aload_n 0, 1) := by decide +kernel
theorem dPg_nextStored_28 : decode cPg_nextStored 28 = .ok (.dup, 1) := by decide +kernel
theorem dPg_nextStored_29 : decode cPg_nextStored 29 = .ok (.getfield 28, 3) := by decide +kernel
theorem dPg_nextStored_32 : decode cPg_nextStored 32 = .ok (.iconst 1, 1) := by decide +kernel
theorem dPg_nextStored_33 : decode cPg_nextStored 33 = .ok (.iadd, 1) := by decide +kernel
theorem dPg_nextStored_34 : decode cPg_nextStored 34 = .ok (.putfield 28, 3) := by decide +kernel
theorem dPg_nextStored_37 : decode cPg_nextStored 37 = .ok (.goto 16, 3) := by decide +kernel
theorem dPg_nextStored_40 : decode cPg_nextStored 40 = .ok (.aload_n 0, 1) := by decide +kernel
theorem dPg_nextStored_41 : decode cPg_nextStored 41 = .ok (.aload_n 0, 1) := by decide +kernel
theorem dPg_nextStored_42 : decode cPg_nextStored 42 = .ok (.getfield 25, 3) := by decide +kernel
theorem dPg_nextStored_45 : decode cPg_nextStored 45 = .ok (.iconst 1, 1) := by decide +kernel
theorem dPg_nextStored_46 : decode cPg_nextStored 46 = .ok (.iadd, 1) := by decide +kernel
theorem dPg_nextStored_47 : decode cPg_nextStored 47 = .ok (.bipush 10, 2) := by decide +kernel
theorem dPg_nextStored_49 : decode cPg_nextStored 49 = .ok (.irem, 1) := by decide +kernel
theorem dPg_nextStored_50 : decode cPg_nextStored 50 = .ok (.putfield 25, 3) := by decide +kernel
theorem dPg_nextStored_53 : decode cPg_nextStored 53 = .ok (.aload_n 1, 1) := by decide +kernel
theorem dPg_nextStored_54 : decode cPg_nextStored 54 = .ok (.areturn, 1) := by decide +kernel
theorem dPg_storedAt_0 : decode cPg_storedAt 0 = .ok (.iload_n 1, 1) := by decide +kernel
theorem dPg_storedAt_1 : decode cPg_storedAt 1 = .ok (.ifCond .lt 28, 3) := by decide +kernel
theorem dPg_storedAt_4 : decode cPg_storedAt 4 = .ok (.iload_n 1, 1) := by decide +kernel
theorem dPg_storedAt_5 : decode cPg_storedAt 5 = .ok (.aload_n 0, 1) := by decide +kernel
theorem dPg_storedAt_6 : decode cPg_storedAt 6 = .ok (.getfield 28, 3) := by decide +kernel
theorem dPg_storedAt_9 : decode cPg_storedAt 9 = .ok (.if_icmp .ge 20, 3) := by decide +kernel
theorem dPg_storedAt_12 : decode cPg_storedAt 12 = .ok (.aload_n 0, 1) := by decide +kernel
theorem dPg_storedAt_13 : decode cPg_storedAt 13 = .ok (.getfield 21, 3) := by decide +kernel
theorem dPg_storedAt_16 : decode cPg_storedAt 16 = .ok (.aload_n 0, 1) := by decide +kernel
theorem dPg_storedAt_17 : decode cPg_storedAt 17 = .ok (.getfield 25, 3) := by decide +kernel
theorem dPg_storedAt_20 : decode cPg_storedAt 20 = .ok (.iload_n 1, 1) := by decide +kernel
theorem dPg_storedAt_21 : decode cPg_storedAt 21 = .ok (.iadd, 1) := by decide +kernel
theorem dPg_storedAt_22 : decode cPg_storedAt 22 = .ok (.bipush 10, 2) := by decide +kernel
theorem dPg_storedAt_24 : decode cPg_storedAt 24 = .ok (.irem, 1) := by decide +kernel
theorem dPg_storedAt_25 : decode cPg_storedAt 25 = .ok (.aaload, 1) := by decide +kernel
theorem dPg_storedAt_26 : decode cPg_storedAt 26 = .ok (.goto 4, 3) := by decide +kernel
theorem dPg_storedAt_29 : decode cPg_storedAt 29 = .ok (.aconst_null, 1) := by decide +kernel
theorem dPg_storedAt_30 : decode cPg_storedAt 30 = .ok (.areturn, 1) := by decide +kernel
theorem dRp_oneWrongBit_0 : decode cRp_oneWrongBit 0 = .ok (.iconst 0, 1) := by decide +kernel
theorem dRp_oneWrongBit_1 : decode cRp_oneWrongBit 1 = .ok (.istore_n 1, 1) := by decide +kernel
theorem dRp_oneWrongBit_2 : decode cRp_oneWrongBit 2 = .ok (.iload_n 1, 1) := by decide +kernel
theorem dRp_oneWrongBit_3 : decode cRp_oneWrongBit 3 = .ok (.bipush 32, 2) := by decide +kernel
theorem dRp_oneWrongBit_5 : decode cRp_oneWrongBit 5 = .ok (.if_icmp .ge 22, 3) := by decide +kernel
theorem dRp_oneWrongBit_8 : decode cRp_oneWrongBit 8 = .ok (.getstatic 29, 3) := by decide +kernel
theorem dRp_oneWrongBit_11 : decode cRp_oneWrongBit 11 = .ok (.iload_n 1, 1) := by decide +kernel
theorem dRp_oneWrongBit_12 : decode cRp_oneWrongBit 12 = .ok (.iaload, 1) := by decide +kernel
theorem dRp_oneWrongBit_13 : decode cRp_oneWrongBit 13 = .ok (.iload_n 0, 1) := by decide +kernel
theorem dRp_oneWrongBit_14 : decode cRp_oneWrongBit 14 = .ok (.if_icmp .ne 7, 3) := by decide +kernel
theorem dRp_oneWrongBit_17 : decode cRp_oneWrongBit 17 = .ok (.iconst 1, 1) := by decide +kernel
theorem dRp_oneWrongBit_18 : decode cRp_oneWrongBit 18 = .ok (.iload_n 1, 1) := by decide +kernel
theorem dRp_oneWrongBit_19 : decode cRp_oneWrongBit 19 = .ok (.ishl, 1) := by decide +kernel
theorem dRp_oneWrongBit_20 : decode cRp_oneWrongBit 20 = .ok (.ireturn, 1) := by decide +kernel
theorem dRp_oneWrongBit_21 : decode cRp_oneWrongBit 21 = .ok (.iinc 1 1, 3) := by decide +kernel
theorem dRp_oneWrongBit_24 : decode cRp_oneWrongBit 24 = .ok (.goto (-22), 3) := by decide +kernel
theorem dRp_oneWrongBit_27 : decode cRp_oneWrongBit 27 = .ok (.iconst (-1), 1) := by decide +kernel
theorem dRp_oneWrongBit_28 : decode cRp_oneWrongBit 28 = .ok (.ireturn, 1) := by decide +kernel
theorem dRp_remainder_0 : decode cRp_remainder 0 = .ok (.iload_n 0, 1) := by decide +kernel
theorem dRp_remainder_1 : decode cRp_remainder 1 = .ok (.istore_n 1, 1) := by decide +kernel
theorem dRp_remainder_2 : decode cRp_remainder 2 = .ok (.bipush 30, 2) := by decide +kernel
theorem dRp_remainder_4 : decode cRp_remainder 4 = .ok (.istore_n 2, 1) := by decide +kernel
theorem dRp_remainder_5 : decode cRp_remainder 5 = .ok (.iload_n 2, 1) := by decide +kernel
theorem dRp_remainder_6 : decode cRp_remainder 6 = .ok (.bipush 10, 2) := by decide +kernel
theorem dRp_remainder_8 : decode cRp_remainder 8 = .ok (.if_icmp .lt 29, 3) := by decide +kernel
theorem dRp_remainder_11 : decode cRp_remainder 11 = .ok (.iload_n 1, 1) := by decide +kernel
theorem dRp_remainder_12 : decode cRp_remainder 12 = .ok (.iload_n 2, 1) := by decide +kernel
theorem dRp_remainder_13 : decode cRp_remainder 13 = .ok (.iushr, 1) := by decide +kernel
theorem dRp_remainder_14 : decode cRp_remainder 14 = .ok (.iconst 1, 1) := by decide +kernel
theorem dRp_remainder_15 : decode cRp_remainder 15 = .ok (.iand, 1) := by decide +kernel
theorem dRp_remainder_16 : decode cRp_remainder 16 = .ok (.iconst 1, 1) := by decide +kernel
theorem dRp_remainder_17 : decode cRp_remainder 17 = .ok (.if_icmp .ne 14, 3) := by decide +kernel
theorem dRp_remainder_20 : decode cRp_remainder 20 = .ok (.iload_n 1, 1) := by decide +kernel
theorem dRp_remainder_21 : decode cRp_remainder 21 = .ok (.sipush 1897, 3) := by decide +kernel
theorem dRp_remainder_24 : decode cRp_remainder 24 = .ok (.iload_n 2, 1) := by decide +kernel
theorem dRp_remainder_25 : decode cRp_remainder 25 = .ok (.bipush 10, 2) := by decide +kernel
theorem dRp_remainder_27 : decode cRp_remainder 27 = .ok (.isub, 1) := by decide +kernel
theorem dRp_remainder_28 : decode cRp_remainder 28 = .ok (.ishl, 1) := by decide +kernel
theorem dRp_remainder_29 : decode cRp_remainder 29 = .ok (.ixor, 1) := by decide +kernel
theorem dRp_remainder_30 : decode cRp_remainder 30 = .ok (.istore_n 1, 1) := by decide +kernel
theorem dRp_remainder_31 : decode cRp_remainder 31 = .ok (.iinc 2 (-1), 3) := by decide +kernel
theorem dRp_remainder_34 : decode cRp_remainder 34 = .ok (.goto (-29), 3) := by decide +kernel
theorem dRp_remainder_37 : decode cRp_remainder 37 = .ok (.iload_n 1, 1) := by decide +kernel
theorem dRp_remainder_38 : decode cRp_remainder 38 = .ok (.ireturn, 1) := by decide +kernel
theorem dRp_traceOf_0 : decode cRp_traceOf 0 = .ok (.iload_n 0, 1) := by decide +kernel
theorem dRp_traceOf_1 : decode cRp_traceOf 1 = .ok (.iconst 1, 1) := by decide +kernel
theorem dRp_traceOf_2 : decode cRp_traceOf 2 = .ok (.iushr, 1) := by decide +kernel
theorem dRp_traceOf_3 : decode cRp_traceOf 3 = .ok (.invokestatic 11, 3) := by decide +kernel
theorem dRp_traceOf_6 : decode cRp_traceOf 6 = .ok (.iconst 1, 1) := by decide +kernel
theorem dRp_traceOf_7 : decode cRp_traceOf 7 = .ok (.ishl, 1) := by decide +kernel
theorem dRp_traceOf_8 : decode cRp_traceOf 8 = .ok (.iload_n 0, 1) := by decide +kernel
theorem dRp_traceOf_9 : decode cRp_traceOf 9 = .ok (.invokestatic 15, 3) := by decide +kernel
theorem dRp_traceOf_12 : decode cRp_traceOf 12 = .ok (.iconst 1, 1) := by decide +kernel
theorem dRp_traceOf_13 : decode cRp_traceOf 13 = .ok (.iand, 1) := by decide +kernel
theorem dRp_traceOf_14 : decode cRp_traceOf 14 = .ok (.ior, 1) := by decide +kernel
theorem dRp_traceOf_15 : decode cRp_traceOf 15 = .ok (.ireturn, 1) := by decide +kernel
theorem dRp_twoWrongBits_0 : decode cRp_twoWrongBits 0 = .ok (.iconst 0, 1) := by decide +kernel
theorem dRp_twoWrongBits_1 : decode cRp_twoWrongBits 1 = .ok (.istore_n 1, 1) := by decide +kernel
theorem dRp_twoWrongBits_2 : decode cRp_twoWrongBits 2 = .ok (.iload_n 1, 1) := by decide +kernel
theorem dRp_twoWrongBits_3 : decode cRp_twoWrongBits 3 = .ok (.bipush 32, 2) := by decide +kernel
theorem dRp_twoWrongBits_5 : decode cRp_twoWrongBits 5 = .ok (.if_icmp .ge 48, 3) := by decide +kernel
theorem dRp_twoWrongBits_8 : decode cRp_twoWrongBits 8 = .ok (.iload_n 1, 1) := by decide +kernel
theorem dRp_twoWrongBits_9 : decode cRp_twoWrongBits 9 = .ok (.iconst 1, 1) := by decide +kernel
theorem dRp_twoWrongBits_10 : decode cRp_twoWrongBits 10 = .ok (.iadd, 1) := by decide +kernel
theorem dRp_twoWrongBits_11 : decode cRp_twoWrongBits 11 = .ok (.istore_n 2, 1) := by decide +kernel
theorem dRp_twoWrongBits_12 : decode cRp_twoWrongBits 12 = .ok (.iload_n 2, 1) := by decide +kernel
theorem dRp_twoWrongBits_13 : decode cRp_twoWrongBits 13 = .ok (.bipush 32, 2) := by decide +kernel
theorem dRp_twoWrongBits_15 : decode cRp_twoWrongBits 15 = .ok (.if_icmp .ge 32, 3) := by decide +kernel
theorem dRp_twoWrongBits_18 : decode cRp_twoWrongBits 18 = .ok (.getstatic 29, 3) := by decide +kernel
theorem dRp_twoWrongBits_21 : decode cRp_twoWrongBits 21 = .ok (.iload_n 1, 1) := by decide +kernel
theorem dRp_twoWrongBits_22 : decode cRp_twoWrongBits 22 = .ok (.iaload, 1) := by decide +kernel
theorem dRp_twoWrongBits_23 : decode cRp_twoWrongBits 23 = .ok (.getstatic 29, 3) := by decide +kernel
theorem dRp_twoWrongBits_26 : decode cRp_twoWrongBits 26 = .ok (.iload_n 2, 1) := by decide +kernel
theorem dRp_twoWrongBits_27 : decode cRp_twoWrongBits 27 = .ok (.iaload, 1) := by decide +kernel
theorem dRp_twoWrongBits_28 : decode cRp_twoWrongBits 28 = .ok (.ixor, 1) := by decide +kernel
theorem dRp_twoWrongBits_29 : decode cRp_twoWrongBits 29 = .ok (.iload_n 0, 1) := by decide +kernel
theorem dRp_twoWrongBits_30 : decode cRp_twoWrongBits 30 = .ok (.if_icmp .ne 11, 3) := by decide +kernel
theorem dRp_twoWrongBits_33 : decode cRp_twoWrongBits 33 = .ok (.iconst 1, 1) := by decide +kernel
theorem dRp_twoWrongBits_34 : decode cRp_twoWrongBits 34 = .ok (.iload_n 1, 1) := by decide +kernel
theorem dRp_twoWrongBits_35 : decode cRp_twoWrongBits 35 = .ok (.ishl, 1) := by decide +kernel
theorem dRp_twoWrongBits_36 : decode cRp_twoWrongBits 36 = .ok (.iconst 1, 1) := by decide +kernel
theorem dRp_twoWrongBits_37 : decode cRp_twoWrongBits 37 = .ok (.iload_n 2, 1) := by decide +kernel
theorem dRp_twoWrongBits_38 : decode cRp_twoWrongBits 38 = .ok (.ishl, 1) := by decide +kernel
theorem dRp_twoWrongBits_39 : decode cRp_twoWrongBits 39 = .ok (.ior, 1) := by decide +kernel
theorem dRp_twoWrongBits_40 : decode cRp_twoWrongBits 40 = .ok (.ireturn, 1) := by decide +kernel
theorem dRp_twoWrongBits_41 : decode cRp_twoWrongBits 41 = .ok (.iinc 2 1, 3) := by decide +kernel
theorem dRp_twoWrongBits_44 : decode cRp_twoWrongBits 44 = .ok (.goto (-32), 3) := by decide +kernel
theorem dRp_twoWrongBits_47 : decode cRp_twoWrongBits 47 = .ok (.iinc 1 1, 3) := by decide +kernel
theorem dRp_twoWrongBits_50 : decode cRp_twoWrongBits 50 = .ok (.goto (-48), 3) := by decide +kernel
theorem dRp_twoWrongBits_53 : decode cRp_twoWrongBits 53 = .ok (.iconst (-1), 1) := by decide +kernel
theorem dRp_twoWrongBits_54 : decode cRp_twoWrongBits 54 = .ok (.ireturn, 1) := by decide +kernel
theorem dRp_wrongBits_0 : decode cRp_wrongBits 0 = .ok (.iload_n 0, 1) := by decide +kernel
theorem dRp_wrongBits_1 : decode cRp_wrongBits 1 = .ok (.invokestatic 20, 3) := by decide +kernel
theorem dRp_wrongBits_4 : decode cRp_wrongBits 4 = .ok (.istore_n 1, 1) := by decide +kernel
theorem dRp_wrongBits_5 : decode cRp_wrongBits 5 = .ok (.iload_n 1, 1) := by decide +kernel
theorem dRp_wrongBits_6 : decode cRp_wrongBits 6 = .ok (.ifCond .ne 5, 3) := by decide +kernel
theorem dRp_wrongBits_9 : decode cRp_wrongBits 9 = .ok (.iconst 0, 1) := by decide +kernel
theorem dRp_wrongBits_10 : decode cRp_wrongBits 10 = .ok (.ireturn, 1) := by decide +kernel
theorem dRp_wrongBits_11 : decode cRp_wrongBits 11 = .ok (.iload_n 1, 1) := by decide +kernel
theorem dRp_wrongBits_12 : decode cRp_wrongBits 12 = .ok (.iconst 1, 1) := by decide +kernel
theorem dRp_wrongBits_13 : decode cRp_wrongBits 13 = .ok (.iand, 1) := by decide +kernel
theorem dRp_wrongBits_14 : decode cRp_wrongBits 14 = .ok (.iconst 1, 1) := by decide +kernel
theorem dRp_wrongBits_15 : decode cRp_wrongBits 15 = .ok (.if_icmp .ne 10, 3) := by decide +kernel
theorem dRp_wrongBits_18 : decode cRp_wrongBits 18 = .ok (.iload_n 1, 1) := by decide +kernel
theorem dRp_wrongBits_19 : decode cRp_wrongBits 19 = .ok (.invokestatic 23, 3) := by decide +kernel
theorem dRp_wrongBits_22 : decode cRp_wrongBits 22 = .ok (.goto 7, 3) := by decide +kernel
theorem dRp_wrongBits_25 : decode cRp_wrongBits 25 = .ok (.iload_n 1, 1) := by decide +kernel
theorem dRp_wrongBits_26 : decode cRp_wrongBits 26 = .ok (.invokestatic 26, 3) := by decide +kernel
theorem dRp_wrongBits_29 : decode cRp_wrongBits 29 = .ok (.ireturn, 1) := by decide +kernel
theorem dSd_init_0 : decode cSd_init 0 = .ok (.aload_n 0, 1) := by decide +kernel
theorem dSd_init_1 : decode cSd_init 1 = .ok (.invokespecial 3, 3) := by decide +kernel
theorem dSd_init_4 : decode cSd_init 4 = .ok (.aload_n 0, 1) := by decide +kernel
theorem dSd_init_5 : decode cSd_init 5 = .ok (.iconst (-1), 1) := by decide +kernel
theorem dSd_init_6 : decode cSd_init 6 = .ok (.putfield 9, 3) := by decide +kernel
theorem dSd_init_9 : decode cSd_init 9 = .ok (.aload_n 0, 1) := by decide +kernel
theorem dSd_init_10 : decode cSd_init 10 = .ok (.iconst (-1), 1) := by decide +kernel
theorem dSd_init_11 : decode cSd_init 11 = .ok (.putfield 15, 3) := by decide +kernel
theorem dSd_init_14 : decode cSd_init 14 = .ok (.aload_n 0, 1) := by decide +kernel
theorem dSd_init_15 : decode cSd_init 15 = .ok (.iconst 0, 1) := by decide +kernel
theorem dSd_init_16 : decode cSd_init 16 = .ok (.putfield 18, 3) := by decide +kernel
theorem dSd_init_19 : decode cSd_init 19 = .ok (.aload_n 0, 1) := by decide +kernel
theorem dSd_init_20 : decode cSd_init 20 = .ok (.bipush 21, 2) := by decide +kernel
theorem dSd_init_22 : decode cSd_init 22 = .ok (.newarray .int, 2) := by decide +kernel
theorem dSd_init_24 : decode cSd_init 24 = .ok (.putfield 22, 3) := by decide +kernel
theorem dSd_init_27 : decode cSd_init 27 = .ok (.aload_n 0, 1) := by decide +kernel
theorem dSd_init_28 : decode cSd_init 28 = .ok (.iconst 0, 1) := by decide +kernel
theorem dSd_init_29 : decode cSd_init 29 = .ok (.putfield 26, 3) := by decide +kernel
theorem dSd_init_32 : decode cSd_init 32 = .ok (.return_, 1) := by decide +kernel
theorem dMo_init_0 : decode cMo_init 0 = .ok (.aload_n 0, 1) := by decide +kernel
theorem dMo_init_1 : decode cMo_init 1 = .ok (.invokespecial 1, 3) := by decide +kernel
theorem dMo_init_4 : decode cMo_init 4 = .ok (.aload_n 0, 1) := by decide +kernel
theorem dMo_init_5 : decode cMo_init 5 = .ok (.bipush 12, 2) := by decide +kernel
theorem dMo_init_7 : decode cMo_init 7 = .ok (.newarray .int, 2) := by decide +kernel
theorem dMo_init_9 : decode cMo_init 9 = .ok (.putfield 7, 3) := by decide +kernel
theorem dMo_init_12 : decode cMo_init 12 = .ok (.aload_n 0, 1) := by decide +kernel
theorem dMo_init_13 : decode cMo_init 13 = .ok (.bipush 12, 2) := by decide +kernel
theorem dMo_init_15 : decode cMo_init 15 = .ok (.newarray .int, 2) := by decide +kernel
theorem dMo_init_17 : decode cMo_init 17 = .ok (.putfield 13, 3) := by decide +kernel
theorem dMo_init_20 : decode cMo_init 20 = .ok (.aload_n 0, 1) := by decide +kernel
theorem dMo_init_21 : decode cMo_init 21 = .ok (.bipush 12, 2) := by decide +kernel
theorem dMo_init_23 : decode cMo_init 23 = .ok (.newarray .int, 2) := by decide +kernel
theorem dMo_init_25 : decode cMo_init 25 = .ok (.putfield 16, 3) := by decide +kernel
theorem dMo_init_28 : decode cMo_init 28 = .ok (.aload_n 0, 1) := by decide +kernel
theorem dMo_init_29 : decode cMo_init 29 = .ok (.sipush 200, 3) := by decide +kernel
theorem dMo_init_32 : decode cMo_init 32 = .ok (.newarray .int, 2) := by decide +kernel
theorem dMo_init_34 : decode cMo_init 34 = .ok (.putfield 19, 3) := by decide +kernel
theorem dMo_init_37 : decode cMo_init 37 = .ok (.aload_n 0, 1) := by decide +kernel
theorem dMo_init_38 : decode cMo_init 38 = .ok (.sipush 200, 3) := by decide +kernel
theorem dMo_init_41 : decode cMo_init 41 = .ok (.newarray .int, 2) := by decide +kernel
theorem dMo_init_43 : decode cMo_init 43 = .ok (.putfield 22, 3) := by decide +kernel
theorem dMo_init_46 : decode cMo_init 46 = .ok (.aload_n 0, 1) := by decide +kernel
theorem dMo_init_47 : decode cMo_init 47 = .ok (.sipush 200, 3) := by decide +kernel
theorem dMo_init_50 : decode cMo_init 50 = .ok (.newarray .int, 2) := by decide +kernel
theorem dMo_init_52 : decode cMo_init 52 = .ok (.putfield 25, 3) := by decide +kernel
theorem dMo_init_55 : decode cMo_init 55 = .ok (.aload_n 0, 1) := by decide +kernel
theorem dMo_init_56 : decode cMo_init 56 = .ok (.sipush 200, 3) := by decide +kernel
theorem dMo_init_59 : decode cMo_init 59 = .ok (.newarray .int, 2) := by decide +kernel
theorem dMo_init_61 : decode cMo_init 61 = .ok (.putfield 28, 3) := by decide +kernel
theorem dMo_init_64 : decode cMo_init 64 = .ok (.aload_n 0, 1) := by decide +kernel
theorem dMo_init_65 : decode cMo_init 65 = .ok (.sipush 4000, 3) := by decide +kernel
theorem dMo_init_68 : decode cMo_init 68 = .ok (.newarray .int, 2) := by decide +kernel
theorem dMo_init_70 : decode cMo_init 70 = .ok (.putfield 31, 3) := by decide +kernel
theorem dMo_init_73 : decode cMo_init 73 = .ok (.aload_n 0, 1) := by decide +kernel
theorem dMo_init_74 : decode cMo_init 74 = .ok (.sipush 200, 3) := by decide +kernel
theorem dMo_init_77 : decode cMo_init 77 = .ok (.newarray .boolean, 2) := by decide +kernel
theorem dMo_init_79 : decode cMo_init 79 = .ok (.putfield 34, 3) := by decide +kernel
theorem dMo_init_82 : decode cMo_init 82 = .ok (.aload_n 0, 1) := by decide +kernel
theorem dMo_init_83 : decode cMo_init 83 = .ok (.bipush 20, 2) := by decide +kernel
theorem dMo_init_85 : decode cMo_init 85 = .ok (.newarray .int, 2) := by decide +kernel
theorem dMo_init_87 : decode cMo_init 87 = .ok (.putfield 38, 3) := by decide +kernel
theorem dMo_init_90 : decode cMo_init 90 = .ok (.aload_n 0, 1) := by decide +kernel
theorem dMo_init_91 : decode cMo_init 91 = .ok (.bipush 64, 2) := by decide +kernel
theorem dMo_init_93 : decode cMo_init 93 = .ok (.newarray .int, 2) := by decide +kernel
theorem dMo_init_95 : decode cMo_init 95 = .ok (.putfield 41, 3) := by decide +kernel
theorem dMo_init_98 : decode cMo_init 98 = .ok (.aload_n 0, 1) := by decide +kernel
theorem dMo_init_99 : decode cMo_init 99 = .ok (.bipush 64, 2) := by decide +kernel
theorem dMo_init_101 : decode cMo_init 101 = .ok (.newarray .boolean, 2) := by decide +kernel
theorem dMo_init_103 : decode cMo_init 103 = .ok (.putfield 44, 3) := by decide +kernel
theorem dMo_init_106 : decode cMo_init 106 = .ok (.aload_n 0, 1) := by decide +kernel
theorem dMo_init_107 : decode cMo_init 107 = .ok (.sipush 2240, 3) := by decide +kernel
theorem dMo_init_110 : decode cMo_init 110 = .ok (.newarray .int, 2) := by decide +kernel
theorem dMo_init_112 : decode cMo_init 112 = .ok (.putfield 47, 3) := by decide +kernel
theorem dMo_init_115 : decode cMo_init 115 = .ok (.aload_n 0, 1) := by decide +kernel
theorem dMo_init_116 : decode cMo_init 116 = .ok (.bipush 24, 2) := by decide +kernel
theorem dMo_init_118 : decode cMo_init 118 = .ok (.newarray .int, 2) := by decide +kernel
theorem dMo_init_120 : decode cMo_init 120 = .ok (.putfield 50, 3) := by decide +kernel
theorem dMo_init_123 : decode cMo_init 123 = .ok (.aload_n 0, 1) := by decide +kernel
theorem dMo_init_124 : decode cMo_init 124 = .ok (.bipush 6, 2) := by decide +kernel
theorem dMo_init_126 : decode cMo_init 126 = .ok (.newarray .int, 2) := by decide +kernel
theorem dMo_init_128 : decode cMo_init 128 = .ok (.putfield 53, 3) := by decide +kernel
theorem dMo_init_131 : decode cMo_init 131 = .ok (.aload_n 0, 1) := by decide +kernel
theorem dMo_init_132 : decode cMo_init 132 = .ok (.bipush 6, 2) := by decide +kernel
theorem dMo_init_134 : decode cMo_init 134 = .ok (.newarray .int, 2) := by decide +kernel
theorem dMo_init_136 : decode cMo_init 136 = .ok (.putfield 56, 3) := by decide +kernel
theorem dMo_init_139 : decode cMo_init 139 = .ok (.aload_n 0, 1) := by decide +kernel
theorem dMo_init_140 : decode cMo_init 140 = .ok (.bipush 60, 2) := by decide +kernel
theorem dMo_init_142 : decode cMo_init 142 = .ok (.newarray .int, 2) := by decide +kernel
theorem dMo_init_144 : decode cMo_init 144 = .ok (.putfield 59, 3) := by decide +kernel
theorem dMo_init_147 : decode cMo_init 147 = .ok (.aload_n 0, 1) := by decide +kernel
theorem dMo_init_148 : decode cMo_init 148 = .ok (.bipush 60, 2) := by decide +kernel
theorem dMo_init_150 : decode cMo_init 150 = .ok (.newarray .int, 2) := by decide +kernel
theorem dMo_init_152 : decode cMo_init 152 = .ok (.putfield 62, 3) := by decide +kernel
theorem dMo_init_155 : decode cMo_init 155 = .ok (.aload_n 0, 1) := by decide +kernel
theorem dMo_init_156 : decode cMo_init 156 = .ok (.bipush 60, 2) := by decide +kernel
theorem dMo_init_158 : decode cMo_init 158 = .ok (.newarray .int, 2) := by decide +kernel
theorem dMo_init_160 : decode cMo_init 160 = .ok (.putfield 65, 3) := by decide +kernel
theorem dMo_init_163 : decode cMo_init 163 = .ok (.aload_n 0, 1) := by decide +kernel
theorem dMo_init_164 : decode cMo_init 164 = .ok (.bipush 60, 2) := by decide +kernel
theorem dMo_init_166 : decode cMo_init 166 = .ok (.newarray .boolean, 2) := by decide +kernel
theorem dMo_init_168 : decode cMo_init 168 = .ok (.putfield 68, 3) := by decide +kernel
theorem dMo_init_171 : decode cMo_init 171 = .ok (.aload_n 0, 1) := by decide +kernel
theorem dMo_init_172 : decode cMo_init 172 = .ok (.sipush 1320, 3) := by decide +kernel
theorem dMo_init_175 : decode cMo_init 175 = .ok (.newarray .int, 2) := by decide +kernel
theorem dMo_init_177 : decode cMo_init 177 = .ok (.putfield 71, 3) := by decide +kernel
theorem dMo_init_180 : decode cMo_init 180 = .ok (.aload_n 0, 1) := by decide +kernel
theorem dMo_init_181 : decode cMo_init 181 = .ok (.bipush 72, 2) := by decide +kernel
theorem dMo_init_183 : decode cMo_init 183 = .ok (.newarray .long, 2) := by decide +kernel
theorem dMo_init_185 : decode cMo_init 185 = .ok (.putfield 74, 3) := by decide +kernel
theorem dMo_init_188 : decode cMo_init 188 = .ok (.aload_n 0, 1) := by decide +kernel
theorem dMo_init_189 : decode cMo_init 189 = .ok (.bipush 72, 2) := by decide +kernel
theorem dMo_init_191 : decode cMo_init 191 = .ok (.newarray .int, 2) := by decide +kernel
theorem dMo_init_193 : decode cMo_init 193 = .ok (.putfield 78, 3) := by decide +kernel
theorem dMo_init_196 : decode cMo_init 196 = .ok (.aload_n 0, 1) := by decide +kernel
theorem dMo_init_197 : decode cMo_init 197 = .ok (.bipush 24, 2) := by decide +kernel
theorem dMo_init_199 : decode cMo_init 199 = .ok (.newarray .int, 2) := by decide +kernel
theorem dMo_init_201 : decode cMo_init 201 = .ok (.putfield 81, 3) := by decide +kernel
theorem dMo_init_204 : decode cMo_init 204 = .ok (.aload_n 0, 1) := by decide +kernel
theorem dMo_init_205 : decode cMo_init 205 = .ok (.iconst (-1), 1) := by decide +kernel
theorem dMo_init_206 : decode cMo_init 206 = .ok (.putfield 84, 3) := by decide +kernel
theorem dMo_init_209 : decode cMo_init 209 = .ok (.aload_n 0, 1) := by decide +kernel
theorem dMo_init_210 : decode cMo_init 210 = .ok (.sipush 160, 3) := by decide +kernel
theorem dMo_init_213 : decode cMo_init 213 = .ok (.newarray .int, 2) := by decide +kernel
theorem dMo_init_215 : decode cMo_init 215 = .ok (.putfield 88, 3) := by decide +kernel
theorem dMo_init_218 : decode cMo_init 218 = .ok (.aload_n 0, 1) := by decide +kernel
theorem dMo_init_219 : decode cMo_init 219 = .ok (.bipush 24, 2) := by decide +kernel
theorem dMo_init_221 : decode cMo_init 221 = .ok (.newarray .int, 2) := by decide +kernel
theorem dMo_init_223 : decode cMo_init 223 = .ok (.putfield 91, 3) := by decide +kernel
theorem dMo_init_226 : decode cMo_init 226 = .ok (.return_, 1) := by decide +kernel
theorem dMo_add_0 : decode cMo_add 0 = .ok (.bipush 19, 2) := by decide +kernel
theorem dMo_add_2 : decode cMo_add 2 = .ok (.istore_n 2, 1) := by decide +kernel
theorem dMo_add_3 : decode cMo_add 3 = .ok (.iload_n 2, 1) := by decide +kernel
theorem dMo_add_4 : decode cMo_add 4 = .ok (.ifCond .lt 43, 3) := by decide +kernel
theorem dMo_add_7 : decode cMo_add 7 = .ok (.aload_n 0, 1) := by decide +kernel
theorem dMo_add_8 : decode cMo_add 8 = .ok (.getfield 183, 3) := by decide +kernel
theorem dMo_add_11 : decode cMo_add 11 = .ok (.sipush 160, 3) := by decide +kernel
theorem dMo_add_14 : decode cMo_add 14 = .ok (.if_icmp .ge 17, 3) := by decide +kernel
theorem dMo_add_17 : decode cMo_add 17 = .ok (.aload_n 0, 1) := by decide +kernel
theorem dMo_add_18 : decode cMo_add 18 = .ok (.getfield 88, 3) := by decide +kernel
theorem dMo_add_21 : decode cMo_add 21 = .ok (.aload_n 0, 1) := by decide +kernel
theorem dMo_add_22 : decode cMo_add 22 = .ok (.getfield 183, 3) := by decide +kernel
theorem dMo_add_25 : decode cMo_add 25 = .ok (.iload_n 1, 1) := by decide +kernel
theorem dMo_add_26 : decode cMo_add 26 = .ok (.iload_n 2, 1) := by decide +kernel
theorem dMo_add_27 : decode cMo_add 27 = .ok (.ishr, 1) := by decide +kernel
theorem dMo_add_28 : decode cMo_add 28 = .ok (.iconst 1, 1) := by decide +kernel
theorem dMo_add_29 : decode cMo_add 29 = .ok (.iand, 1) := by decide +kernel
theorem dMo_add_30 : decode cMo_add 30 = .ok (.iastore, 1) := by decide +kernel
theorem dMo_add_31 : decode cMo_add 31 = .ok (.aload_n 0, 1) := by decide +kernel
theorem dMo_add_32 : decode cMo_add 32 = .ok (.dup, 1) := by decide +kernel
theorem dMo_add_33 : decode cMo_add 33 = .ok (.getfield 183, 3) := by decide +kernel
theorem dMo_add_36 : decode cMo_add 36 = .ok (.iconst 1, 1) := by decide +kernel
theorem dMo_add_37 : decode cMo_add 37 = .ok (.iadd, 1) := by decide +kernel
theorem dMo_add_38 : decode cMo_add 38 = .ok (.putfield 183, 3) := by decide +kernel
theorem dMo_add_41 : decode cMo_add 41 = .ok (.iinc 2 (-1), 3) := by decide +kernel
theorem dMo_add_44 : decode cMo_add 44 = .ok (.goto (-41), 3) := by decide +kernel
theorem dMo_add_47 : decode cMo_add 47 = .ok (.return_, 1) := by decide +kernel
theorem dMo_addressData_0 : decode cMo_addressData 0 = .ok (.iconst 4, 1) := by decide +kernel
theorem dMo_addressData_1 : decode cMo_addressData 1 = .ok (.aload_n 0, 1) := by decide +kernel
theorem dMo_addressData_2 : decode cMo_addressData 2 = .ok (.getfield 7, 3) := by decide +kernel
theorem dMo_addressData_5 : decode cMo_addressData 5 = .ok (.iload_n 1, 1) := by decide +kernel
theorem dMo_addressData_6 : decode cMo_addressData 6 = .ok (.iaload, 1) := by decide +kernel
theorem dMo_addressData_7 : decode cMo_addressData 7 = .ok (.bipush 8, 2) := by decide +kernel
theorem dMo_addressData_9 : decode cMo_addressData 9 = .ok (.idiv, 1) := by decide +kernel
theorem dMo_addressData_10 : decode cMo_addressData 10 = .ok (.imul, 1) := by decide +kernel
theorem dMo_addressData_11 : decode cMo_addressData 11 = .ok (.aload_n 0, 1) := by decide +kernel
theorem dMo_addressData_12 : decode cMo_addressData 12 = .ok (.getfield 13, 3) := by decide +kernel
theorem dMo_addressData_15 : decode cMo_addressData 15 = .ok (.iload_n 1, 1) := by decide +kernel
theorem dMo_addressData_16 : decode cMo_addressData 16 = .ok (.iaload, 1) := by decide +kernel
theorem dMo_addressData_17 : decode cMo_addressData 17 = .ok (.ifCond .ne 7, 3) := by decide +kernel
theorem dMo_addressData_20 : decode cMo_addressData 20 = .ok (.iconst 0, 1) := by decide +kernel
theorem dMo_addressData_21 : decode cMo_addressData 21 = .ok (.goto 4, 3) := by decide +kernel
theorem dMo_addressData_24 : decode cMo_addressData 24 = .ok (.iconst 3, 1) := by decide +kernel
theorem dMo_addressData_25 : decode cMo_addressData 25 = .ok (.iadd, 1) := by decide +kernel
theorem dMo_addressData_26 : decode cMo_addressData 26 = .ok (.ireturn, 1) := by decide +kernel
theorem dMo_batches_0 : decode cMo_batches 0 = .ok (.iload_n 1, 1) := by decide +kernel
theorem dMo_batches_1 : decode cMo_batches 1 = .ok (.istore_n 2, 1) := by decide +kernel
theorem dMo_batches_2 : decode cMo_batches 2 = .ok (.iconst 1, 1) := by decide +kernel
theorem dMo_batches_3 : decode cMo_batches 3 = .ok (.istore_n 3, 1) := by decide +kernel
theorem dMo_batches_4 : decode cMo_batches 4 = .ok (.iload_n 3, 1) := by decide +kernel
theorem dMo_batches_5 : decode cMo_batches 5 = .ok (.ifCond .eq 144, 3) := by decide +kernel
theorem dMo_batches_8 : decode cMo_batches 8 = .ok (.iconst 0, 1) := by decide +kernel
theorem dMo_batches_9 : decode cMo_batches 9 = .ok (.istore 4, 2) := by decide +kernel
theorem dMo_batches_11 : decode cMo_batches 11 = .ok (.iload 4, 2) := by decide +kernel
theorem dMo_batches_13 : decode cMo_batches 13 = .ok (.bipush 16, 2) := by decide +kernel
theorem dMo_batches_15 : decode cMo_batches 15 = .ok (.if_icmp .ge 79, 3) := by decide +kernel
theorem dMo_batches_18 : decode cMo_batches 18 = .ok (.iload_n 2, 1) := by decide +kernel
theorem dMo_batches_19 : decode cMo_batches 19 = .ok (.bipush 32, 2) := by decide +kernel
theorem dMo_batches_21 : decode cMo_batches 21 = .ok (.iadd, 1) := by decide +kernel
theorem dMo_batches_22 : decode cMo_batches 22 = .ok (.aload_n 0, 1) := by decide +kernel
theorem dMo_batches_23 : decode cMo_batches 23 = .ok (.getfield 155, 3) := by decide +kernel
theorem dMo_batches_26 : decode cMo_batches 26 = .ok (.if_icmp .le 8, 3) := by decide +kernel
theorem dMo_batches_29 : decode cMo_batches 29 = .ok (.aload_n 0, 1) := by decide +kernel
theorem dMo_batches_30 : decode cMo_batches 30 = .ok (.getfield 155, 3) := by decide +kernel
theorem dMo_batches_33 : decode cMo_batches 33 = .ok (.ireturn, 1) := by decide +kernel
theorem dMo_batches_34 : decode cMo_batches 34 = .ok (.aload_n 0, 1) := by decide +kernel
theorem dMo_batches_35 : decode cMo_batches 35 = .ok (.iload 4, 2) := by decide +kernel
theorem dMo_batches_37 : decode cMo_batches 37 = .ok (.iconst 2, 1) := by decide +kernel
theorem dMo_batches_38 : decode cMo_batches 38 = .ok (.idiv, 1) := by decide +kernel
theorem dMo_batches_39 : decode cMo_batches 39 = .ok (.invokevirtual 212, 3) := by decide +kernel
theorem dMo_batches_42 : decode cMo_batches 42 = .ok (.ifCond .eq 41, 3) := by decide +kernel
theorem dMo_batches_45 : decode cMo_batches 45 = .ok (.aload_n 0, 1) := by decide +kernel
theorem dMo_batches_46 : decode cMo_batches 46 = .ok (.getfield 81, 3) := by decide +kernel
theorem dMo_batches_49 : decode cMo_batches 49 = .ok (.iconst 4, 1) := by decide +kernel
theorem dMo_batches_50 : decode cMo_batches 50 = .ok (.aload_n 0, 1) := by decide +kernel
theorem dMo_batches_51 : decode cMo_batches 51 = .ok (.getfield 178, 3) := by decide +kernel
theorem dMo_batches_54 : decode cMo_batches 54 = .ok (.imul, 1) := by decide +kernel
theorem dMo_batches_55 : decode cMo_batches 55 = .ok (.aload_n 0, 1) := by decide +kernel
theorem dMo_batches_56 : decode cMo_batches 56 = .ok (.getfield 81, 3) := by decide +kernel
theorem dMo_batches_59 : decode cMo_batches 59 = .ok (.iconst 4, 1) := by decide +kernel
theorem dMo_batches_60 : decode cMo_batches 60 = .ok (.aload_n 0, 1) := by decide +kernel
theorem dMo_batches_61 : decode cMo_batches 61 = .ok (.getfield 178, 3) := by decide +kernel
theorem dMo_batches_64 : decode cMo_batches 64 = .ok (.imul, 1) := by decide +kernel
theorem dMo_batches_65 : decode cMo_batches 65 = .ok (.iaload, 1) := by decide +kernel
theorem dMo_batches_66 : decode cMo_batches 66 = .ok (.bipush 32, 2) := by decide +kernel
theorem dMo_batches_68 : decode cMo_batches 68 = .ok (.iadd, 1) := by decide +kernel
theorem dMo_batches_69 : decode cMo_batches 69 = .ok (.iastore, 1) := by decide +kernel
theorem dMo_batches_70 : decode cMo_batches 70 = .ok (.aload_n 0, 1) := by decide +kernel
theorem dMo_batches_71 : decode cMo_batches 71 = .ok (.aload_n 0, 1) := by decide +kernel
theorem dMo_batches_72 : decode cMo_batches 72 = .ok (.iload_n 2, 1) := by decide +kernel
theorem dMo_batches_73 : decode cMo_batches 73 = .ok (.invokevirtual 169, 3) := by decide +kernel
theorem dMo_batches_76 : decode cMo_batches 76 = .ok (.iload 4, 2) := by decide +kernel
theorem dMo_batches_78 : decode cMo_batches 78 = .ok (.iconst 2, 1) := by decide +kernel
theorem dMo_batches_79 : decode cMo_batches 79 = .ok (.idiv, 1) := by decide +kernel
theorem dMo_batches_80 : decode cMo_batches 80 = .ok (.invokevirtual 215, 3) := by decide +kernel
theorem dMo_batches_83 : decode cMo_batches 83 = .ok (.iload_n 2, 1) := by decide +kernel
theorem dMo_batches_84 : decode cMo_batches 84 = .ok (.bipush 32, 2) := by decide +kernel
theorem dMo_batches_86 : decode cMo_batches 86 = .ok (.iadd, 1) := by decide +kernel
theorem dMo_batches_87 : decode cMo_batches 87 = .ok (.istore_n 2, 1) := by decide +kernel
theorem dMo_batches_88 : decode cMo_batches 88 = .ok (.iinc 4 1, 3) := by decide +kernel
theorem dMo_batches_91 : decode cMo_batches 91 = .ok (.goto (-80), 3) := by decide +kernel
theorem dMo_batches_94 : decode cMo_batches 94 = .ok (.iload_n 2, 1) := by decide +kernel
theorem dMo_batches_95 : decode cMo_batches 95 = .ok (.bipush 32, 2) := by decide +kernel
theorem dMo_batches_97 : decode cMo_batches 97 = .ok (.iadd, 1) := by decide +kernel
theorem dMo_batches_98 : decode cMo_batches 98 = .ok (.aload_n 0, 1) := by decide +kernel
theorem dMo_batches_99 : decode cMo_batches 99 = .ok (.getfield 155, 3) := by decide +kernel
theorem dMo_batches_102 : decode cMo_batches 102 = .ok (.if_icmp .le 8, 3) := by decide +kernel
theorem dMo_batches_105 : decode cMo_batches 105 = .ok (.aload_n 0, 1) := by decide +kernel
theorem dMo_batches_106 : decode cMo_batches 106 = .ok (.getfield 155, 3) := by decide +kernel
theorem dMo_batches_109 : decode cMo_batches 109 = .ok (.ireturn, 1) := by decide +kernel
theorem dMo_batches_110 : decode cMo_batches 110 = .ok (.aload_n 0, 1) := by decide +kernel
theorem dMo_batches_111 : decode cMo_batches 111 = .ok (.getfield 81, 3) := by decide +kernel
theorem dMo_batches_114 : decode cMo_batches 114 = .ok (.iconst 4, 1) := by decide +kernel
theorem dMo_batches_115 : decode cMo_batches 115 = .ok (.aload_n 0, 1) := by decide +kernel
theorem dMo_batches_116 : decode cMo_batches 116 = .ok (.getfield 178, 3) := by decide +kernel
theorem dMo_batches_119 : decode cMo_batches 119 = .ok (.imul, 1) := by decide +kernel
theorem dMo_batches_120 : decode cMo_batches 120 = .ok (.aload_n 0, 1) := by decide +kernel
theorem dMo_batches_121 : decode cMo_batches 121 = .ok (.getfield 81, 3) := by decide +kernel
theorem dMo_batches_124 : decode cMo_batches 124 = .ok (.iconst 4, 1) := by decide +kernel
theorem dMo_batches_125 : decode cMo_batches 125 = .ok (.aload_n 0, 1) := by decide +kernel
theorem dMo_batches_126 : decode cMo_batches 126 = .ok (.getfield 178, 3) := by decide +kernel
theorem dMo_batches_129 : decode cMo_batches 129 = .ok (.imul, 1) := by decide +kernel
theorem dMo_batches_130 : decode cMo_batches 130 = .ok (.iaload, 1) := by decide +kernel
theorem dMo_batches_131 : decode cMo_batches 131 = .ok (.bipush 32, 2) := by decide +kernel
theorem dMo_batches_133 : decode cMo_batches 133 = .ok (.iadd, 1) := by decide +kernel
theorem dMo_batches_134 : decode cMo_batches 134 = .ok (.iastore, 1) := by decide +kernel
theorem dMo_batches_135 : decode cMo_batches 135 = .ok (.aload_n 0, 1) := by decide +kernel
theorem dMo_batches_136 : decode cMo_batches 136 = .ok (.iload_n 2, 1) := by decide +kernel
theorem dMo_batches_137 : decode cMo_batches 137 = .ok (.invokevirtual 218, 3) := by decide +kernel
theorem dMo_batches_140 : decode cMo_batches 140 = .ok (.istore_n 3, 1) := by decide +kernel
theorem dMo_batches_141 : decode cMo_batches 141 = .ok (.iload_n 2, 1) := by decide +kernel
theorem dMo_batches_142 : decode cMo_batches 142 = .ok (.bipush 32, 2) := by decide +kernel
theorem dMo_batches_144 : decode cMo_batches 144 = .ok (.iadd, 1) := by decide +kernel
theorem dMo_batches_145 : decode cMo_batches 145 = .ok (.istore_n 2, 1) := by decide +kernel
theorem dMo_batches_146 : decode cMo_batches 146 = .ok (.goto (-142), 3) := by decide +kernel
theorem dMo_batches_149 : decode cMo_batches 149 = .ok (.aload_n 0, 1) := by decide +kernel
theorem dMo_batches_150 : decode cMo_batches 150 = .ok (.iconst 0, 1) := by decide +kernel
theorem dMo_batches_151 : decode cMo_batches 151 = .ok (.invokevirtual 201, 3) := by decide +kernel
theorem dMo_batches_154 : decode cMo_batches 154 = .ok (.iload_n 2, 1) := by decide +kernel
theorem dMo_batches_155 : decode cMo_batches 155 = .ok (.ireturn, 1) := by decide +kernel
theorem dMo_bit_0 : decode cMo_bit 0 = .ok (.iload_n 1, 1) := by decide +kernel
theorem dMo_bit_1 : decode cMo_bit 1 = .ok (.ifCond .lt 11, 3) := by decide +kernel
theorem dMo_bit_4 : decode cMo_bit 4 = .ok (.iload_n 1, 1) := by decide +kernel
theorem dMo_bit_5 : decode cMo_bit 5 = .ok (.aload_n 0, 1) := by decide +kernel
theorem dMo_bit_6 : decode cMo_bit 6 = .ok (.getfield 155, 3) := by decide +kernel
theorem dMo_bit_9 : decode cMo_bit 9 = .ok (.if_icmp .lt 7, 3) := by decide +kernel
theorem dMo_bit_12 : decode cMo_bit 12 = .ok (.iconst (-1), 1) := by decide +kernel
theorem dMo_bit_13 : decode cMo_bit 13 = .ok (.goto 9, 3) := by decide +kernel
theorem dMo_bit_16 : decode cMo_bit 16 = .ok (.aload_n 0, 1) := by decide +kernel
theorem dMo_bit_17 : decode cMo_bit 17 = .ok (.getfield 47, 3) := by decide +kernel
theorem dMo_bit_20 : decode cMo_bit 20 = .ok (.iload_n 1, 1) := by decide +kernel
theorem dMo_bit_21 : decode cMo_bit 21 = .ok (.iaload, 1) := by decide +kernel
theorem dMo_bit_22 : decode cMo_bit 22 = .ok (.ireturn, 1) := by decide +kernel
theorem dMo_call_0 : decode cMo_call 0 = .ok (.aload_n 0, 1) := by decide +kernel
theorem dMo_call_1 : decode cMo_call 1 = .ok (.iload_n 1, 1) := by decide +kernel
theorem dMo_call_2 : decode cMo_call 2 = .ok (.invokevirtual 113, 3) := by decide +kernel
theorem dMo_call_5 : decode cMo_call 5 = .ok (.ifCond .eq 38, 3) := by decide +kernel
theorem dMo_call_8 : decode cMo_call 8 = .ok (.iload_n 2, 1) := by decide +kernel
theorem dMo_call_9 : decode cMo_call 9 = .ok (.ifCond .lt 34, 3) := by decide +kernel
theorem dMo_call_12 : decode cMo_call 12 = .ok (.iload_n 2, 1) := by decide +kernel
theorem dMo_call_13 : decode cMo_call 13 = .ok (.iconst 3, 1) := by decide +kernel
theorem dMo_call_14 : decode cMo_call 14 = .ok (.if_icmp .gt 29, 3) := by decide +kernel
theorem dMo_call_17 : decode cMo_call 17 = .ok (.aload_n 0, 1) := by decide +kernel
theorem dMo_call_18 : decode cMo_call 18 = .ok (.getfield 120, 3) := by decide +kernel
theorem dMo_call_21 : decode cMo_call 21 = .ok (.ifCond .eq 22, 3) := by decide +kernel
theorem dMo_call_24 : decode cMo_call 24 = .ok (.aload_n 0, 1) := by decide +kernel
theorem dMo_call_25 : decode cMo_call 25 = .ok (.invokevirtual 130, 3) := by decide +kernel
theorem dMo_call_28 : decode cMo_call 28 = .ok (.bipush 60, 2) := by decide +kernel
theorem dMo_call_30 : decode cMo_call 30 = .ok (.if_icmp .eq 13, 3) := by decide +kernel
theorem dMo_call_33 : decode cMo_call 33 = .ok (.aload_n 0, 1) := by decide +kernel
theorem dMo_call_34 : decode cMo_call 34 = .ok (.getfield 127, 3) := by decide +kernel
theorem dMo_call_37 : decode cMo_call 37 = .ok (.sipush 200, 3) := by decide +kernel
theorem dMo_call_40 : decode cMo_call 40 = .ok (.if_icmp .ne 5, 3) := by decide +kernel
theorem dMo_call_43 : decode cMo_call 43 = .ok (.iconst (-1), 1) := by decide +kernel
theorem dMo_call_44 : decode cMo_call 44 = .ok (.ireturn, 1) := by decide +kernel
theorem dMo_call_45 : decode cMo_call 45 = .ok (.iconst 0, 1) := by decide +kernel
theorem dMo_call_46 : decode cMo_call 46 = .ok (.istore_n 3, 1) := by decide +kernel
theorem dMo_call_47 : decode cMo_call 47 = .ok (.iload_n 3, 1) := by decide +kernel
theorem dMo_call_48 : decode cMo_call 48 = .ok (.aload_n 0, 1) := by decide +kernel
theorem dMo_call_49 : decode cMo_call 49 = .ok (.getfield 120, 3) := by decide +kernel
theorem dMo_call_52 : decode cMo_call 52 = .ok (.if_icmp .ge 45, 3) := by decide +kernel
theorem dMo_call_55 : decode cMo_call 55 = .ok (.aload_n 0, 1) := by decide +kernel
theorem dMo_call_56 : decode cMo_call 56 = .ok (.getfield 13, 3) := by decide +kernel
theorem dMo_call_59 : decode cMo_call 59 = .ok (.iload_n 1, 1) := by decide +kernel
theorem dMo_call_60 : decode cMo_call 60 = .ok (.iaload, 1) := by decide +kernel
theorem dMo_call_61 : decode cMo_call 61 = .ok (.ifCond .ne 17, 3) := by decide +kernel
theorem dMo_call_64 : decode cMo_call 64 = .ok (.aload_n 0, 1) := by decide +kernel
theorem dMo_call_65 : decode cMo_call 65 = .ok (.getfield 38, 3) := by decide +kernel
theorem dMo_call_68 : decode cMo_call 68 = .ok (.iload_n 3, 1) := by decide +kernel
theorem dMo_call_69 : decode cMo_call 69 = .ok (.iaload, 1) := by decide +kernel
theorem dMo_call_70 : decode cMo_call 70 = .ok (.bipush 11, 2) := by decide +kernel
theorem dMo_call_72 : decode cMo_call 72 = .ok (.if_icmp .le 19, 3) := by decide +kernel
theorem dMo_call_75 : decode cMo_call 75 = .ok (.goto 14, 3) := by decide +kernel
theorem dMo_call_78 : decode cMo_call 78 = .ok (.aload_n 0, 1) := by decide +kernel
theorem dMo_call_79 : decode cMo_call 79 = .ok (.getfield 38, 3) := by decide +kernel
theorem dMo_call_82 : decode cMo_call 82 = .ok (.iload_n 3, 1) := by decide +kernel
theorem dMo_call_83 : decode cMo_call 83 = .ok (.iaload, 1) := by decide +kernel
theorem dMo_call_84 : decode cMo_call 84 = .ok (.bipush 32, 2) := by decide +kernel
theorem dMo_call_86 : decode cMo_call 86 = .ok (.if_icmp .ge 5, 3) := by decide +kernel
theorem dMo_call_89 : decode cMo_call 89 = .ok (.iconst (-1), 1) := by decide +kernel
theorem dMo_call_90 : decode cMo_call 90 = .ok (.ireturn, 1) := by decide +kernel
theorem dMo_call_91 : decode cMo_call 91 = .ok (.iinc 3 1, 3) := by decide +kernel
theorem dMo_call_94 : decode cMo_call 94 = .ok (.goto (-47), 3) := by decide +kernel
theorem dMo_call_97 : decode cMo_call 97 = .ok (.aload_n 0, 1) := by decide +kernel
theorem dMo_call_98 : decode cMo_call 98 = .ok (.getfield 127, 3) := by decide +kernel
theorem dMo_call_101 : decode cMo_call 101 = .ok (.istore_n 3, 1) := by decide +kernel
theorem dMo_call_102 : decode cMo_call 102 = .ok (.aload_n 0, 1) := by decide +kernel
theorem dMo_call_103 : decode cMo_call 103 = .ok (.dup, 1) := by decide +kernel
theorem dMo_call_104 : decode cMo_call 104 = .ok (.getfield 127, 3) := by decide +kernel
theorem dMo_call_107 : decode cMo_call 107 = .ok (.iconst 1, 1) := by decide +kernel
theorem dMo_call_108 : decode cMo_call 108 = .ok (.iadd, 1) := by decide +kernel
theorem dMo_call_109 : decode cMo_call 109 = .ok (.putfield 127, 3) := by decide +kernel
theorem dMo_call_112 : decode cMo_call 112 = .ok (.aload_n 0, 1) := by decide +kernel
theorem dMo_call_113 : decode cMo_call 113 = .ok (.getfield 19, 3) := by decide +kernel
theorem dMo_call_116 : decode cMo_call 116 = .ok (.iload_n 3, 1) := by decide +kernel
theorem dMo_call_117 : decode cMo_call 117 = .ok (.iload_n 1, 1) := by decide +kernel
theorem dMo_call_118 : decode cMo_call 118 = .ok (.iastore, 1) := by decide +kernel
theorem dMo_call_119 : decode cMo_call 119 = .ok (.aload_n 0, 1) := by decide +kernel
theorem dMo_call_120 : decode cMo_call 120 = .ok (.getfield 22, 3) := by decide +kernel
theorem dMo_call_123 : decode cMo_call 123 = .ok (.iload_n 3, 1) := by decide +kernel
theorem dMo_call_124 : decode cMo_call 124 = .ok (.iload_n 2, 1) := by decide +kernel
theorem dMo_call_125 : decode cMo_call 125 = .ok (.iastore, 1) := by decide +kernel
theorem dMo_call_126 : decode cMo_call 126 = .ok (.aload_n 0, 1) := by decide +kernel
theorem dMo_call_127 : decode cMo_call 127 = .ok (.getfield 25, 3) := by decide +kernel
theorem dMo_call_130 : decode cMo_call 130 = .ok (.iload_n 3, 1) := by decide +kernel
theorem dMo_call_131 : decode cMo_call 131 = .ok (.aload_n 0, 1) := by decide +kernel
theorem dMo_call_132 : decode cMo_call 132 = .ok (.getfield 16, 3) := by decide +kernel
theorem dMo_call_135 : decode cMo_call 135 = .ok (.iload_n 1, 1) := by decide +kernel
theorem dMo_call_136 : decode cMo_call 136 = .ok (.iaload, 1) := by decide +kernel
theorem dMo_call_137 : decode cMo_call 137 = .ok (.bipush 64, 2) := by decide +kernel
theorem dMo_call_139 : decode cMo_call 139 = .ok (.irem, 1) := by decide +kernel
theorem dMo_call_140 : decode cMo_call 140 = .ok (.iastore, 1) := by decide +kernel
theorem dMo_call_141 : decode cMo_call 141 = .ok (.aload_n 0, 1) := by decide +kernel
theorem dMo_call_142 : decode cMo_call 142 = .ok (.getfield 16, 3) := by decide +kernel
theorem dMo_call_145 : decode cMo_call 145 = .ok (.iload_n 1, 1) := by decide +kernel
theorem dMo_call_146 : decode cMo_call 146 = .ok (.dup2, 1) := by decide +kernel
theorem dMo_call_147 : decode cMo_call 147 = .ok (.iaload, 1) := by decide +kernel
theorem dMo_call_148 : decode cMo_call 148 = .ok (.iconst 1, 1) := by decide +kernel
theorem dMo_call_149 : decode cMo_call 149 = .ok (.iadd, 1) := by decide +kernel
theorem dMo_call_150 : decode cMo_call 150 = .ok (.iastore, 1) := by decide +kernel
theorem dMo_call_151 : decode cMo_call 151 = .ok (.aload_n 0, 1) := by decide +kernel
theorem dMo_call_152 : decode cMo_call 152 = .ok (.getfield 28, 3) := by decide +kernel
theorem dMo_call_155 : decode cMo_call 155 = .ok (.iload_n 3, 1) := by decide +kernel
theorem dMo_call_156 : decode cMo_call 156 = .ok (.aload_n 0, 1) := by decide +kernel
theorem dMo_call_157 : decode cMo_call 157 = .ok (.getfield 120, 3) := by decide +kernel
theorem dMo_call_160 : decode cMo_call 160 = .ok (.iastore, 1) := by decide +kernel
theorem dMo_call_161 : decode cMo_call 161 = .ok (.iconst 0, 1) := by decide +kernel
theorem dMo_call_162 : decode cMo_call 162 = .ok (.istore 4, 2) := by decide +kernel
theorem dMo_call_164 : decode cMo_call 164 = .ok (.iload 4, 2) := by decide +kernel
theorem dMo_call_166 : decode cMo_call 166 = .ok (.aload_n 0, 1) := by decide +kernel
theorem dMo_call_167 : decode cMo_call 167 = .ok (.getfield 120, 3) := by decide +kernel
theorem dMo_call_170 : decode cMo_call 170 = .ok (.if_icmp .ge 28, 3) := by decide +kernel
theorem dMo_call_173 : decode cMo_call 173 = .ok (.aload_n 0, 1) := by decide +kernel
theorem dMo_call_174 : decode cMo_call 174 = .ok (.getfield 31, 3) := by decide +kernel
theorem dMo_call_177 : decode cMo_call 177 = .ok (.bipush 20, 2) := by decide +kernel
theorem dMo_call_179 : decode cMo_call 179 = .ok (.iload_n 3, 1) := by decide +kernel
theorem dMo_call_180 : decode cMo_call 180 = .ok (.imul, 1) := by decide +kernel
theorem dMo_call_181 : decode cMo_call 181 = .ok (.iload 4, 2) := by decide +kernel
theorem dMo_call_183 : decode cMo_call 183 = .ok (.iadd, 1) := by decide +kernel
theorem dMo_call_184 : decode cMo_call 184 = .ok (.aload_n 0, 1) := by decide +kernel
theorem dMo_call_185 : decode cMo_call 185 = .ok (.getfield 38, 3) := by decide +kernel
theorem dMo_call_188 : decode cMo_call 188 = .ok (.iload 4, 2) := by decide +kernel
theorem dMo_call_190 : decode cMo_call 190 = .ok (.iaload, 1) := by decide +kernel
theorem dMo_call_191 : decode cMo_call 191 = .ok (.iastore, 1) := by decide +kernel
theorem dMo_call_192 : decode cMo_call 192 = .ok (.iinc 4 1, 3) := by decide +kernel
theorem dMo_call_195 : decode cMo_call 195 = .ok (.goto (-31), 3) := by decide +kernel
theorem dMo_call_198 : decode cMo_call 198 = .ok (.aload_n 0, 1) := by decide +kernel
theorem dMo_call_199 : decode cMo_call 199 = .ok (.getfield 34, 3) := by decide +kernel
theorem dMo_call_202 : decode cMo_call 202 = .ok (.iload_n 3, 1) := by decide +kernel
theorem dMo_call_203 : decode cMo_call 203 = .ok (.iconst 1, 1) := by decide +kernel
theorem dMo_call_204 : decode cMo_call 204 = .ok (.bastore, 1) := by decide +kernel
theorem dMo_call_205 : decode cMo_call 205 = .ok (.aload_n 0, 1) := by decide +kernel
theorem dMo_call_206 : decode cMo_call 206 = .ok (.iconst 0, 1) := by decide +kernel
theorem dMo_call_207 : decode cMo_call 207 = .ok (.putfield 120, 3) := by decide +kernel
theorem dMo_call_210 : decode cMo_call 210 = .ok (.aload_n 0, 1) := by decide +kernel
theorem dMo_call_211 : decode cMo_call 211 = .ok (.getfield 25, 3) := by decide +kernel
theorem dMo_call_214 : decode cMo_call 214 = .ok (.iload_n 3, 1) := by decide +kernel
theorem dMo_call_215 : decode cMo_call 215 = .ok (.iaload, 1) := by decide +kernel
theorem dMo_call_216 : decode cMo_call 216 = .ok (.ireturn, 1) := by decide +kernel
theorem dMo_code_0 : decode cMo_code 0 = .ok (.iload_n 1, 1) := by decide +kernel
theorem dMo_code_1 : decode cMo_code 1 = .ok (.ifCond .lt 9, 3) := by decide +kernel
theorem dMo_code_4 : decode cMo_code 4 = .ok (.iload_n 1, 1) := by decide +kernel
theorem dMo_code_5 : decode cMo_code 5 = .ok (.ldc 94, 2) := by decide +kernel
theorem dMo_code_7 : decode cMo_code 7 = .ok (.if_icmp .lt 7, 3) := by decide +kernel
theorem dMo_code_10 : decode cMo_code 10 = .ok (.iconst 0, 1) := by decide +kernel
theorem dMo_code_11 : decode cMo_code 11 = .ok (.goto 7, 3) := by decide +kernel
theorem dMo_code_14 : decode cMo_code 14 = .ok (.iload_n 1, 1) := by decide +kernel
theorem dMo_code_15 : decode cMo_code 15 = .ok (.invokestatic 95, 3) := by decide +kernel
theorem dMo_code_18 : decode cMo_code 18 = .ok (.ireturn, 1) := by decide +kernel
theorem dMo_codeword_0 : decode cMo_codeword 0 = .ok (.iload_n 0, 1) := by decide +kernel
theorem dMo_codeword_1 : decode cMo_codeword 1 = .ok (.bipush 10, 2) := by decide +kernel
theorem dMo_codeword_3 : decode cMo_codeword 3 = .ok (.ishl, 1) := by decide +kernel
theorem dMo_codeword_4 : decode cMo_codeword 4 = .ok (.istore_n 1, 1) := by decide +kernel
theorem dMo_codeword_5 : decode cMo_codeword 5 = .ok (.bipush 30, 2) := by decide +kernel
theorem dMo_codeword_7 : decode cMo_codeword 7 = .ok (.istore_n 2, 1) := by decide +kernel
theorem dMo_codeword_8 : decode cMo_codeword 8 = .ok (.iload_n 2, 1) := by decide +kernel
theorem dMo_codeword_9 : decode cMo_codeword 9 = .ok (.bipush 10, 2) := by decide +kernel
theorem dMo_codeword_11 : decode cMo_codeword 11 = .ok (.if_icmp .lt 33, 3) := by decide +kernel
theorem dMo_codeword_14 : decode cMo_codeword 14 = .ok (.iload_n 1, 1) := by decide +kernel
theorem dMo_codeword_15 : decode cMo_codeword 15 = .ok (.iload_n 2, 1) := by decide +kernel
theorem dMo_codeword_16 : decode cMo_codeword 16 = .ok (.ishr, 1) := by decide +kernel
theorem dMo_codeword_17 : decode cMo_codeword 17 = .ok (.iconst 1, 1) := by decide +kernel
theorem dMo_codeword_18 : decode cMo_codeword 18 = .ok (.iand, 1) := by decide +kernel
theorem dMo_codeword_19 : decode cMo_codeword 19 = .ok (.iconst 1, 1) := by decide +kernel
theorem dMo_codeword_20 : decode cMo_codeword 20 = .ok (.if_icmp .ne 16, 3) := by decide +kernel
theorem dMo_codeword_23 : decode cMo_codeword 23 = .ok (.iload_n 1, 1) := by decide +kernel
theorem dMo_codeword_24 : decode cMo_codeword 24 = .ok (.sipush 1897, 3) := by decide +kernel
theorem dMo_codeword_27 : decode cMo_codeword 27 = .ok (.iload_n 2, 1) := by decide +kernel
theorem dMo_codeword_28 : decode cMo_codeword 28 = .ok (.bipush 10, 2) := by decide +kernel
theorem dMo_codeword_30 : decode cMo_codeword 30 = .ok (.isub, 1) := by decide +kernel
theorem dMo_codeword_31 : decode cMo_codeword 31 = .ok (.ishl, 1) := by decide +kernel
theorem dMo_codeword_32 : decode cMo_codeword 32 = .ok (.ixor, 1) := by decide +kernel
theorem dMo_codeword_33 : decode cMo_codeword 33 = .ok (.goto 4, 3) := by decide +kernel
theorem dMo_codeword_36 : decode cMo_codeword 36 = .ok (.iload_n 1, 1) := by decide +kernel
theorem dMo_codeword_37 : decode cMo_codeword 37 = .ok (.istore_n 1, 1) := by decide +kernel
theorem dMo_codeword_38 : decode cMo_codeword 38 = .ok (.iinc 2 (-1), 3) := by decide +kernel
theorem dMo_codeword_41 : decode cMo_codeword 41 = .ok (.goto (-33), 3) := by decide +kernel
theorem dMo_codeword_44 : decode cMo_codeword 44 = .ok (.iload_n 0, 1) := by decide +kernel
theorem dMo_codeword_45 : decode cMo_codeword 45 = .ok (.bipush 11, 2) := by decide +kernel
theorem dMo_codeword_47 : decode cMo_codeword 47 = .ok (.ishl, 1) := by decide +kernel
theorem dMo_codeword_48 : decode cMo_codeword 48 = .ok (.iload_n 1, 1) := by decide +kernel
theorem dMo_codeword_49 : decode cMo_codeword 49 = .ok (.iconst 1, 1) := by decide +kernel
theorem dMo_codeword_50 : decode cMo_codeword 50 = .ok (.ishl, 1) := by decide +kernel
theorem dMo_codeword_51 : decode cMo_codeword 51 = .ok (.ior, 1) := by decide +kernel
theorem dMo_codeword_52 : decode cMo_codeword 52 = .ok (.istore_n 2, 1) := by decide +kernel
theorem dMo_codeword_53 : decode cMo_codeword 53 = .ok (.iconst 0, 1) := by decide +kernel
theorem dMo_codeword_54 : decode cMo_codeword 54 = .ok (.istore_n 3, 1) := by decide +kernel
theorem dMo_codeword_55 : decode cMo_codeword 55 = .ok (.iconst 1, 1) := by decide +kernel
theorem dMo_codeword_56 : decode cMo_codeword 56 = .ok (.istore 4, 2) := by decide +kernel
theorem dMo_codeword_58 : decode cMo_codeword 58 = .ok (.iload 4, 2) := by decide +kernel
theorem dMo_codeword_60 : decode cMo_codeword 60 = .ok (.bipush 32, 2) := by decide +kernel
theorem dMo_codeword_62 : decode cMo_codeword 62 = .ok (.if_icmp .ge 18, 3) := by decide +kernel
theorem dMo_codeword_65 : decode cMo_codeword 65 = .ok (.iload_n 3, 1) := by decide +kernel
theorem dMo_codeword_66 : decode cMo_codeword 66 = .ok (.iload_n 2, 1) := by decide +kernel
theorem dMo_codeword_67 : decode cMo_codeword 67 = .ok (.iload 4, 2) := by decide +kernel
theorem dMo_codeword_69 : decode cMo_codeword 69 = .ok (.ishr, 1) := by decide +kernel
theorem dMo_codeword_70 : decode cMo_codeword 70 = .ok (.iconst 1, 1) := by decide +kernel
theorem dMo_codeword_71 : decode cMo_codeword 71 = .ok (.iand, 1) := by decide +kernel
theorem dMo_codeword_72 : decode cMo_codeword 72 = .ok (.ixor, 1) := by decide +kernel
theorem dMo_codeword_73 : decode cMo_codeword 73 = .ok (.istore_n 3, 1) := by decide +kernel
theorem dMo_codeword_74 : decode cMo_codeword 74 = .ok (.iinc 4 1, 3) := by decide +kernel
theorem dMo_codeword_77 : decode cMo_codeword 77 = .ok (.goto (-19), 3) := by decide +kernel
theorem dMo_codeword_80 : decode cMo_codeword 80 = .ok (.iload_n 2, 1) := by decide +kernel
theorem dMo_codeword_81 : decode cMo_codeword 81 = .ok (.iload_n 3, 1) := by decide +kernel
theorem dMo_codeword_82 : decode cMo_codeword 82 = .ok (.ior, 1) := by decide +kernel
theorem dMo_codeword_83 : decode cMo_codeword 83 = .ok (.ireturn, 1) := by decide +kernel
theorem dMo_count_0 : decode cMo_count 0 = .ok (.aload_n 0, 1) := by decide +kernel
theorem dMo_count_1 : decode cMo_count 1 = .ok (.iload_n 1, 1) := by decide +kernel
theorem dMo_count_2 : decode cMo_count 2 = .ok (.invokevirtual 110, 3) := by decide +kernel
theorem dMo_count_5 : decode cMo_count 5 = .ok (.ifCond .eq 25, 3) := by decide +kernel
theorem dMo_count_8 : decode cMo_count 8 = .ok (.iload_n 2, 1) := by decide +kernel
theorem dMo_count_9 : decode cMo_count 9 = .ok (.ifCond .lt 21, 3) := by decide +kernel
theorem dMo_count_12 : decode cMo_count 12 = .ok (.iload_n 2, 1) := by decide +kernel
theorem dMo_count_13 : decode cMo_count 13 = .ok (.iconst 3, 1) := by decide +kernel
theorem dMo_count_14 : decode cMo_count 14 = .ok (.if_icmp .gt 16, 3) := by decide +kernel
theorem dMo_count_17 : decode cMo_count 17 = .ok (.aload_n 0, 1) := by decide +kernel
theorem dMo_count_18 : decode cMo_count 18 = .ok (.getfield 81, 3) := by decide +kernel
theorem dMo_count_21 : decode cMo_count 21 = .ok (.iconst 4, 1) := by decide +kernel
theorem dMo_count_22 : decode cMo_count 22 = .ok (.iload_n 1, 1) := by decide +kernel
theorem dMo_count_23 : decode cMo_count 23 = .ok (.imul, 1) := by decide +kernel
theorem dMo_count_24 : decode cMo_count 24 = .ok (.iload_n 2, 1) := by decide +kernel
theorem dMo_count_25 : decode cMo_count 25 = .ok (.iadd, 1) := by decide +kernel
theorem dMo_count_26 : decode cMo_count 26 = .ok (.iaload, 1) := by decide +kernel
theorem dMo_count_27 : decode cMo_count 27 = .ok (.goto 4, 3) := by decide +kernel
theorem dMo_count_30 : decode cMo_count 30 = .ok (.iconst (-1), 1) := by decide +kernel
theorem dMo_count_31 : decode cMo_count 31 = .ok (.ireturn, 1) := by decide +kernel
theorem dMo_desk_0 : decode cMo_desk 0 = .ok (.iconst (-1), 1) := by decide +kernel
theorem dMo_desk_1 : decode cMo_desk 1 = .ok (.istore 4, 2) := by decide +kernel
theorem dMo_desk_3 : decode cMo_desk 3 = .ok (.iconst 0, 1) := by decide +kernel
theorem dMo_desk_4 : decode cMo_desk 4 = .ok (.istore 5, 2) := by decide +kernel
theorem dMo_desk_6 : decode cMo_desk 6 = .ok (.iload 5, 2) := by decide +kernel
theorem dMo_desk_8 : decode cMo_desk 8 = .ok (.aload_n 0, 1) := by decide +kernel
theorem dMo_desk_9 : decode cMo_desk 9 = .ok (.getfield 127, 3) := by decide +kernel
theorem dMo_desk_12 : decode cMo_desk 12 = .ok (.if_icmp .ge 40, 3) := by decide +kernel
theorem dMo_desk_15 : decode cMo_desk 15 = .ok (.aload_n 0, 1) := by decide +kernel
theorem dMo_desk_16 : decode cMo_desk 16 = .ok (.getfield 19, 3) := by decide +kernel
theorem dMo_desk_19 : decode cMo_desk 19 = .ok (.iload 5, 2) := by decide +kernel
theorem dMo_desk_21 : decode cMo_desk 21 = .ok (.iaload, 1) := by decide +kernel
theorem dMo_desk_22 : decode cMo_desk 22 = .ok (.iload_n 1, 1) := by decide +kernel
theorem dMo_desk_23 : decode cMo_desk 23 = .ok (.if_icmp .ne 19, 3) := by decide +kernel
theorem dMo_desk_26 : decode cMo_desk 26 = .ok (.aload_n 0, 1) := by decide +kernel
theorem dMo_desk_27 : decode cMo_desk 27 = .ok (.getfield 25, 3) := by decide +kernel
theorem dMo_desk_30 : decode cMo_desk 30 = .ok (.iload 5, 2) := by decide +kernel
theorem dMo_desk_32 : decode cMo_desk 32 = .ok (.iaload, 1) := by decide +kernel
theorem dMo_desk_33 : decode cMo_desk 33 = .ok (.iload_n 2, 1) := by decide +kernel
theorem dMo_desk_34 : decode cMo_desk 34 = .ok (.if_icmp .ne 8, 3) := by decide +kernel
theorem dMo_desk_37 : decode cMo_desk 37 = .ok (.iload 5, 2) := by decide +kernel
theorem dMo_desk_39 : decode cMo_desk 39 = .ok (.goto 5, 3) := by decide +kernel
theorem dMo_desk_42 : decode cMo_desk 42 = .ok (.iload 4, 2) := by decide +kernel
theorem dMo_desk_44 : decode cMo_desk 44 = .ok (.istore 4, 2) := by decide +kernel
theorem dMo_desk_46 : decode cMo_desk 46 = .ok (.iinc 5 1, 3) := by decide +kernel
theorem dMo_desk_49 : decode cMo_desk 49 = .ok (.goto (-43), 3) := by decide +kernel
theorem dMo_desk_52 : decode cMo_desk 52 = .ok (.iload 4, 2) := by decide +kernel
theorem dMo_desk_54 : decode cMo_desk 54 = .ok (.ifCond .lt 18, 3) := by decide +kernel
theorem dMo_desk_57 : decode cMo_desk 57 = .ok (.iload_n 3, 1) := by decide +kernel
theorem dMo_desk_58 : decode cMo_desk 58 = .ok (.ifCond .lt 14, 3) := by decide +kernel
theorem dMo_desk_61 : decode cMo_desk 61 = .ok (.iload_n 3, 1) := by decide +kernel
theorem dMo_desk_62 : decode cMo_desk 62 = .ok (.aload_n 0, 1) := by decide +kernel
theorem dMo_desk_63 : decode cMo_desk 63 = .ok (.getfield 28, 3) := by decide +kernel
theorem dMo_desk_66 : decode cMo_desk 66 = .ok (.iload 4, 2) := by decide +kernel
theorem dMo_desk_68 : decode cMo_desk 68 = .ok (.iaload, 1) := by decide +kernel
theorem dMo_desk_69 : decode cMo_desk 69 = .ok (.if_icmp .lt 7, 3) := by decide +kernel
theorem dMo_desk_72 : decode cMo_desk 72 = .ok (.iconst (-1), 1) := by decide +kernel
theorem dMo_desk_73 : decode cMo_desk 73 = .ok (.goto 15, 3) := by decide +kernel
theorem dMo_desk_76 : decode cMo_desk 76 = .ok (.aload_n 0, 1) := by decide +kernel
theorem dMo_desk_77 : decode cMo_desk 77 = .ok (.getfield 31, 3) := by decide +kernel
theorem dMo_desk_80 : decode cMo_desk 80 = .ok (.bipush 20, 2) := by decide +kernel
theorem dMo_desk_82 : decode cMo_desk 82 = .ok (.iload 4, 2) := by decide +kernel
theorem dMo_desk_84 : decode cMo_desk 84 = .ok (.imul, 1) := by decide +kernel
theorem dMo_desk_85 : decode cMo_desk 85 = .ok (.iload_n 3, 1) := by decide +kernel
theorem dMo_desk_86 : decode cMo_desk 86 = .ok (.iadd, 1) := by decide +kernel
theorem dMo_desk_87 : decode cMo_desk 87 = .ok (.iaload, 1) := by decide +kernel
theorem dMo_desk_88 : decode cMo_desk 88 = .ok (.ireturn, 1) := by decide +kernel
theorem dMo_finish_0 : decode cMo_finish 0 = .ok (.aload_n 0, 1) := by decide +kernel
theorem dMo_finish_1 : decode cMo_finish 1 = .ok (.getfield 84, 3) := by decide +kernel
theorem dMo_finish_4 : decode cMo_finish 4 = .ok (.ifCond .ge 4, 3) := by decide +kernel
theorem dMo_finish_7 : decode cMo_finish 7 = .ok (.return_, 1) := by decide +kernel
theorem dMo_finish_8 : decode cMo_finish 8 = .ok (.aload_n 0, 1) := by decide +kernel
theorem dMo_finish_9 : decode cMo_finish 9 = .ok (.getfield 13, 3) := by decide +kernel
theorem dMo_finish_12 : decode cMo_finish 12 = .ok (.aload_n 0, 1) := by decide +kernel
theorem dMo_finish_13 : decode cMo_finish 13 = .ok (.getfield 84, 3) := by decide +kernel
theorem dMo_finish_16 : decode cMo_finish 16 = .ok (.iaload, 1) := by decide +kernel
theorem dMo_finish_17 : decode cMo_finish 17 = .ok (.ifCond .ne 7, 3) := by decide +kernel
theorem dMo_finish_20 : decode cMo_finish 20 = .ok (.iconst 4, 1) := by decide +kernel
theorem dMo_finish_21 : decode cMo_finish 21 = .ok (.goto 5, 3) := by decide +kernel
theorem dMo_finish_24 : decode cMo_finish 24 = .ok (.bipush 7, 2) := by decide +kernel
theorem dMo_finish_26 : decode cMo_finish 26 = .ok (.istore_n 2, 1) := by decide +kernel
theorem dMo_finish_27 : decode cMo_finish 27 = .ok (.aload_n 0, 1) := by decide +kernel
theorem dMo_finish_28 : decode cMo_finish 28 = .ok (.getfield 183, 3) := by decide +kernel
theorem dMo_finish_31 : decode cMo_finish 31 = .ok (.iload_n 2, 1) := by decide +kernel
theorem dMo_finish_32 : decode cMo_finish 32 = .ok (.idiv, 1) := by decide +kernel
theorem dMo_finish_33 : decode cMo_finish 33 = .ok (.istore_n 3, 1) := by decide +kernel
theorem dMo_finish_34 : decode cMo_finish 34 = .ok (.iload_n 3, 1) := by decide +kernel
theorem dMo_finish_35 : decode cMo_finish 35 = .ok (.bipush 22, 2) := by decide +kernel
theorem dMo_finish_37 : decode cMo_finish 37 = .ok (.if_icmp .le 8, 3) := by decide +kernel
theorem dMo_finish_40 : decode cMo_finish 40 = .ok (.bipush 22, 2) := by decide +kernel
theorem dMo_finish_42 : decode cMo_finish 42 = .ok (.goto 4, 3) := by decide +kernel
theorem dMo_finish_45 : decode cMo_finish 45 = .ok (.iload_n 3, 1) := by decide +kernel
theorem dMo_finish_46 : decode cMo_finish 46 = .ok (.istore_n 3, 1) := by decide +kernel
theorem dMo_finish_47 : decode cMo_finish 47 = .ok (.aload_n 0, 1) := by decide +kernel
theorem dMo_finish_48 : decode cMo_finish 48 = .ok (.iload_n 3, 1) := by decide +kernel
theorem dMo_finish_49 : decode cMo_finish 49 = .ok (.invokevirtual 186, 3) := by decide +kernel
theorem dMo_finish_52 : decode cMo_finish 52 = .ok (.istore 4, 2) := by decide +kernel
theorem dMo_finish_54 : decode cMo_finish 54 = .ok (.iconst 2, 1) := by decide +kernel
theorem dMo_finish_55 : decode cMo_finish 55 = .ok (.aload_n 0, 1) := by decide +kernel
theorem dMo_finish_56 : decode cMo_finish 56 = .ok (.getfield 13, 3) := by decide +kernel
theorem dMo_finish_59 : decode cMo_finish 59 = .ok (.aload_n 0, 1) := by decide +kernel
theorem dMo_finish_60 : decode cMo_finish 60 = .ok (.getfield 84, 3) := by decide +kernel
theorem dMo_finish_63 : decode cMo_finish 63 = .ok (.iaload, 1) := by decide +kernel
theorem dMo_finish_64 : decode cMo_finish 64 = .ok (.isub, 1) := by decide +kernel
theorem dMo_finish_65 : decode cMo_finish 65 = .ok (.istore 5, 2) := by decide +kernel
theorem dMo_finish_67 : decode cMo_finish 67 = .ok (.aload_n 0, 1) := by decide +kernel
theorem dMo_finish_68 : decode cMo_finish 68 = .ok (.getfield 13, 3) := by decide +kernel
theorem dMo_finish_71 : decode cMo_finish 71 = .ok (.aload_n 0, 1) := by decide +kernel
theorem dMo_finish_72 : decode cMo_finish 72 = .ok (.getfield 84, 3) := by decide +kernel
theorem dMo_finish_75 : decode cMo_finish 75 = .ok (.iaload, 1) := by decide +kernel
theorem dMo_finish_76 : decode cMo_finish 76 = .ok (.ifCond .ne 8, 3) := by decide +kernel
theorem dMo_finish_79 : decode cMo_finish 79 = .ok (.bipush 12, 2) := by decide +kernel
theorem dMo_finish_81 : decode cMo_finish 81 = .ok (.goto 4, 3) := by decide +kernel
theorem dMo_finish_84 : decode cMo_finish 84 = .ok (.iconst 0, 1) := by decide +kernel
theorem dMo_finish_85 : decode cMo_finish 85 = .ok (.istore 6, 2) := by decide +kernel
theorem dMo_finish_87 : decode cMo_finish 87 = .ok (.iload_n 3, 1) := by decide +kernel
theorem dMo_finish_88 : decode cMo_finish 88 = .ok (.iload 5, 2) := by decide +kernel
theorem dMo_finish_90 : decode cMo_finish 90 = .ok (.if_icmp .le 21, 3) := by decide +kernel
theorem dMo_finish_93 : decode cMo_finish 93 = .ok (.aload_n 0, 1) := by decide +kernel
theorem dMo_finish_94 : decode cMo_finish 94 = .ok (.iload_n 3, 1) := by decide +kernel
theorem dMo_finish_95 : decode cMo_finish 95 = .ok (.iconst 1, 1) := by decide +kernel
theorem dMo_finish_96 : decode cMo_finish 96 = .ok (.isub, 1) := by decide +kernel
theorem dMo_finish_97 : decode cMo_finish 97 = .ok (.invokevirtual 175, 3) := by decide +kernel
theorem dMo_finish_100 : decode cMo_finish 100 = .ok (.iload 6, 2) := by decide +kernel
theorem dMo_finish_102 : decode cMo_finish 102 = .ok (.if_icmp .ne 9, 3) := by decide +kernel
theorem dMo_finish_105 : decode cMo_finish 105 = .ok (.iinc 3 (-1), 3) := by decide +kernel
theorem dMo_finish_108 : decode cMo_finish 108 = .ok (.goto (-21), 3) := by decide +kernel
theorem dMo_finish_111 : decode cMo_finish 111 = .ok (.iload 4, 2) := by decide +kernel
theorem dMo_finish_113 : decode cMo_finish 113 = .ok (.ifCond .ge 23, 3) := by decide +kernel
theorem dMo_finish_116 : decode cMo_finish 116 = .ok (.aload_n 0, 1) := by decide +kernel
theorem dMo_finish_117 : decode cMo_finish 117 = .ok (.getfield 81, 3) := by decide +kernel
theorem dMo_finish_120 : decode cMo_finish 120 = .ok (.iconst 4, 1) := by decide +kernel
theorem dMo_finish_121 : decode cMo_finish 121 = .ok (.aload_n 0, 1) := by decide +kernel
theorem dMo_finish_122 : decode cMo_finish 122 = .ok (.getfield 178, 3) := by decide +kernel
theorem dMo_finish_125 : decode cMo_finish 125 = .ok (.imul, 1) := by decide +kernel
theorem dMo_finish_126 : decode cMo_finish 126 = .ok (.iconst 3, 1) := by decide +kernel
theorem dMo_finish_127 : decode cMo_finish 127 = .ok (.iadd, 1) := by decide +kernel
theorem dMo_finish_128 : decode cMo_finish 128 = .ok (.dup2, 1) := by decide +kernel
theorem dMo_finish_129 : decode cMo_finish 129 = .ok (.iaload, 1) := by decide +kernel
theorem dMo_finish_130 : decode cMo_finish 130 = .ok (.iconst 1, 1) := by decide +kernel
theorem dMo_finish_131 : decode cMo_finish 131 = .ok (.iadd, 1) := by decide +kernel
theorem dMo_finish_132 : decode cMo_finish 132 = .ok (.iastore, 1) := by decide +kernel
theorem dMo_finish_133 : decode cMo_finish 133 = .ok (.goto 102, 3) := by decide +kernel
theorem dMo_finish_136 : decode cMo_finish 136 = .ok (.aload_n 0, 1) := by decide +kernel
theorem dMo_finish_137 : decode cMo_finish 137 = .ok (.invokevirtual 189, 3) := by decide +kernel
theorem dMo_finish_140 : decode cMo_finish 140 = .ok (.istore 7, 2) := by decide +kernel
theorem dMo_finish_142 : decode cMo_finish 142 = .ok (.aload_n 0, 1) := by decide +kernel
theorem dMo_finish_143 : decode cMo_finish 143 = .ok (.getfield 59, 3) := by decide +kernel
theorem dMo_finish_146 : decode cMo_finish 146 = .ok (.iload 7, 2) := by decide +kernel
theorem dMo_finish_148 : decode cMo_finish 148 = .ok (.aload_n 0, 1) := by decide +kernel
theorem dMo_finish_149 : decode cMo_finish 149 = .ok (.getfield 84, 3) := by decide +kernel
theorem dMo_finish_152 : decode cMo_finish 152 = .ok (.iastore, 1) := by decide +kernel
theorem dMo_finish_153 : decode cMo_finish 153 = .ok (.aload_n 0, 1) := by decide +kernel
theorem dMo_finish_154 : decode cMo_finish 154 = .ok (.getfield 62, 3) := by decide +kernel
theorem dMo_finish_157 : decode cMo_finish 157 = .ok (.iload 7, 2) := by decide +kernel
theorem dMo_finish_159 : decode cMo_finish 159 = .ok (.iload 4, 2) := by decide +kernel
theorem dMo_finish_161 : decode cMo_finish 161 = .ok (.iastore, 1) := by decide +kernel
theorem dMo_finish_162 : decode cMo_finish 162 = .ok (.aload_n 0, 1) := by decide +kernel
theorem dMo_finish_163 : decode cMo_finish 163 = .ok (.getfield 65, 3) := by decide +kernel
theorem dMo_finish_166 : decode cMo_finish 166 = .ok (.iload 7, 2) := by decide +kernel
theorem dMo_finish_168 : decode cMo_finish 168 = .ok (.iload_n 3, 1) := by decide +kernel
theorem dMo_finish_169 : decode cMo_finish 169 = .ok (.iload 5, 2) := by decide +kernel
theorem dMo_finish_171 : decode cMo_finish 171 = .ok (.isub, 1) := by decide +kernel
theorem dMo_finish_172 : decode cMo_finish 172 = .ok (.iastore, 1) := by decide +kernel
theorem dMo_finish_173 : decode cMo_finish 173 = .ok (.aload_n 0, 1) := by decide +kernel
theorem dMo_finish_174 : decode cMo_finish 174 = .ok (.getfield 68, 3) := by decide +kernel
theorem dMo_finish_177 : decode cMo_finish 177 = .ok (.iload 7, 2) := by decide +kernel
theorem dMo_finish_179 : decode cMo_finish 179 = .ok (.iload_n 1, 1) := by decide +kernel
theorem dMo_finish_180 : decode cMo_finish 180 = .ok (.bastore, 1) := by decide +kernel
theorem dMo_finish_181 : decode cMo_finish 181 = .ok (.iload 5, 2) := by decide +kernel
theorem dMo_finish_183 : decode cMo_finish 183 = .ok (.istore 8, 2) := by decide +kernel
theorem dMo_finish_185 : decode cMo_finish 185 = .ok (.iload 8, 2) := by decide +kernel
theorem dMo_finish_187 : decode cMo_finish 187 = .ok (.iload_n 3, 1) := by decide +kernel
theorem dMo_finish_188 : decode cMo_finish 188 = .ok (.if_icmp .ge 31, 3) := by decide +kernel
theorem dMo_finish_191 : decode cMo_finish 191 = .ok (.aload_n 0, 1) := by decide +kernel
theorem dMo_finish_192 : decode cMo_finish 192 = .ok (.getfield 71, 3) := by decide +kernel
theorem dMo_finish_195 : decode cMo_finish 195 = .ok (.bipush 22, 2) := by decide +kernel
theorem dMo_finish_197 : decode cMo_finish 197 = .ok (.iload 7, 2) := by decide +kernel
theorem dMo_finish_199 : decode cMo_finish 199 = .ok (.imul, 1) := by decide +kernel
theorem dMo_finish_200 : decode cMo_finish 200 = .ok (.iload 8, 2) := by decide +kernel
theorem dMo_finish_202 : decode cMo_finish 202 = .ok (.iadd, 1) := by decide +kernel
theorem dMo_finish_203 : decode cMo_finish 203 = .ok (.iload 5, 2) := by decide +kernel
theorem dMo_finish_205 : decode cMo_finish 205 = .ok (.isub, 1) := by decide +kernel
theorem dMo_finish_206 : decode cMo_finish 206 = .ok (.aload_n 0, 1) := by decide +kernel
theorem dMo_finish_207 : decode cMo_finish 207 = .ok (.iload 8, 2) := by decide +kernel
theorem dMo_finish_209 : decode cMo_finish 209 = .ok (.invokevirtual 175, 3) := by decide +kernel
theorem dMo_finish_212 : decode cMo_finish 212 = .ok (.iastore, 1) := by decide +kernel
theorem dMo_finish_213 : decode cMo_finish 213 = .ok (.iinc 8 1, 3) := by decide +kernel
theorem dMo_finish_216 : decode cMo_finish 216 = .ok (.goto (-31), 3) := by decide +kernel
theorem dMo_finish_219 : decode cMo_finish 219 = .ok (.aload_n 0, 1) := by decide +kernel
theorem dMo_finish_220 : decode cMo_finish 220 = .ok (.iload 4, 2) := by decide +kernel
theorem dMo_finish_222 : decode cMo_finish 222 = .ok (.invokevirtual 192, 3) := by decide +kernel
theorem dMo_finish_225 : decode cMo_finish 225 = .ok (.aload_n 0, 1) := by decide +kernel
theorem dMo_finish_226 : decode cMo_finish 226 = .ok (.dup, 1) := by decide +kernel
theorem dMo_finish_227 : decode cMo_finish 227 = .ok (.getfield 195, 3) := by decide +kernel
theorem dMo_finish_230 : decode cMo_finish 230 = .ok (.iconst 1, 1) := by decide +kernel
end
section
theorem dMo_finish_231 : decode cMo_finish 231 = .ok (.iadd, 1) := by decide +kernel
theorem dMo_finish_232 : decode cMo_finish 232 = .ok (.putfield 195, 3) := by decide +kernel
theorem dMo_finish_235 : decode cMo_finish 235 = .ok (.aload_n 0, 1) := by decide +kernel
theorem dMo_finish_236 : decode cMo_finish 236 = .ok (.iconst (-1), 1) := by decide +kernel
theorem dMo_finish_237 : decode cMo_finish 237 = .ok (.putfield 84, 3) := by decide +kernel
theorem dMo_finish_240 : decode cMo_finish 240 = .ok (.return_, 1) := by decide +kernel
theorem dMo_fits_0 : decode cMo_fits 0 = .ok (.iload_n 2, 1) := by decide +kernel
theorem dMo_fits_1 : decode cMo_fits 1 = .ok (.bipush 16, 2) := by decide +kernel
theorem dMo_fits_3 : decode cMo_fits 3 = .ok (.irem, 1) := by decide +kernel
theorem dMo_fits_4 : decode cMo_fits 4 = .ok (.iconst 2, 1) := by decide +kernel
theorem dMo_fits_5 : decode cMo_fits 5 = .ok (.idiv, 1) := by decide +kernel
theorem dMo_fits_6 : decode cMo_fits 6 = .ok (.aload_n 0, 1) := by decide +kernel
theorem dMo_fits_7 : decode cMo_fits 7 = .ok (.getfield 7, 3) := by decide +kernel
theorem dMo_fits_10 : decode cMo_fits 10 = .ok (.aload_n 0, 1) := by decide +kernel
theorem dMo_fits_11 : decode cMo_fits 11 = .ok (.getfield 19, 3) := by decide +kernel
theorem dMo_fits_14 : decode cMo_fits 14 = .ok (.iload_n 1, 1) := by decide +kernel
theorem dMo_fits_15 : decode cMo_fits 15 = .ok (.iaload, 1) := by decide +kernel
theorem dMo_fits_16 : decode cMo_fits 16 = .ok (.iaload, 1) := by decide +kernel
theorem dMo_fits_17 : decode cMo_fits 17 = .ok (.bipush 8, 2) := by decide +kernel
theorem dMo_fits_19 : decode cMo_fits 19 = .ok (.irem, 1) := by decide +kernel
theorem dMo_fits_20 : decode cMo_fits 20 = .ok (.if_icmp .ne 18, 3) := by decide +kernel
theorem dMo_fits_23 : decode cMo_fits 23 = .ok (.iload_n 2, 1) := by decide +kernel
theorem dMo_fits_24 : decode cMo_fits 24 = .ok (.aload_n 0, 1) := by decide +kernel
theorem dMo_fits_25 : decode cMo_fits 25 = .ok (.iload_n 1, 1) := by decide +kernel
theorem dMo_fits_26 : decode cMo_fits 26 = .ok (.invokevirtual 141, 3) := by decide +kernel
theorem dMo_fits_29 : decode cMo_fits 29 = .ok (.iadd, 1) := by decide +kernel
theorem dMo_fits_30 : decode cMo_fits 30 = .ok (.iload_n 3, 1) := by decide +kernel
theorem dMo_fits_31 : decode cMo_fits 31 = .ok (.if_icmp .gt 7, 3) := by decide +kernel
theorem dMo_fits_34 : decode cMo_fits 34 = .ok (.iconst 1, 1) := by decide +kernel
theorem dMo_fits_35 : decode cMo_fits 35 = .ok (.goto 4, 3) := by decide +kernel
theorem dMo_fits_38 : decode cMo_fits 38 = .ok (.iconst 0, 1) := by decide +kernel
theorem dMo_fits_39 : decode cMo_fits 39 = .ok (.istore 4, 2) := by decide +kernel
theorem dMo_fits_41 : decode cMo_fits 41 = .ok (.iload_n 2, 1) := by decide +kernel
theorem dMo_fits_42 : decode cMo_fits 42 = .ok (.istore 5, 2) := by decide +kernel
theorem dMo_fits_44 : decode cMo_fits 44 = .ok (.iload 5, 2) := by decide +kernel
theorem dMo_fits_46 : decode cMo_fits 46 = .ok (.iload_n 2, 1) := by decide +kernel
theorem dMo_fits_47 : decode cMo_fits 47 = .ok (.aload_n 0, 1) := by decide +kernel
theorem dMo_fits_48 : decode cMo_fits 48 = .ok (.iload_n 1, 1) := by decide +kernel
theorem dMo_fits_49 : decode cMo_fits 49 = .ok (.invokevirtual 141, 3) := by decide +kernel
theorem dMo_fits_52 : decode cMo_fits 52 = .ok (.iadd, 1) := by decide +kernel
theorem dMo_fits_53 : decode cMo_fits 53 = .ok (.if_icmp .ge 31, 3) := by decide +kernel
theorem dMo_fits_56 : decode cMo_fits 56 = .ok (.iload 4, 2) := by decide +kernel
theorem dMo_fits_58 : decode cMo_fits 58 = .ok (.ifCond .eq 26, 3) := by decide +kernel
theorem dMo_fits_61 : decode cMo_fits 61 = .ok (.aload_n 0, 1) := by decide +kernel
theorem dMo_fits_62 : decode cMo_fits 62 = .ok (.getfield 44, 3) := by decide +kernel
theorem dMo_fits_65 : decode cMo_fits 65 = .ok (.iload 5, 2) := by decide +kernel
theorem dMo_fits_67 : decode cMo_fits 67 = .ok (.baload, 1) := by decide +kernel
theorem dMo_fits_68 : decode cMo_fits 68 = .ok (.ifCond .ne 7, 3) := by decide +kernel
theorem dMo_fits_71 : decode cMo_fits 71 = .ok (.iconst 1, 1) := by decide +kernel
theorem dMo_fits_72 : decode cMo_fits 72 = .ok (.goto 4, 3) := by decide +kernel
theorem dMo_fits_75 : decode cMo_fits 75 = .ok (.iconst 0, 1) := by decide +kernel
theorem dMo_fits_76 : decode cMo_fits 76 = .ok (.istore 4, 2) := by decide +kernel
theorem dMo_fits_78 : decode cMo_fits 78 = .ok (.iinc 5 1, 3) := by decide +kernel
theorem dMo_fits_81 : decode cMo_fits 81 = .ok (.goto (-37), 3) := by decide +kernel
theorem dMo_fits_84 : decode cMo_fits 84 = .ok (.iload 4, 2) := by decide +kernel
theorem dMo_fits_86 : decode cMo_fits 86 = .ok (.ireturn, 1) := by decide +kernel
theorem dMo_flip_0 : decode cMo_flip 0 = .ok (.iload_n 1, 1) := by decide +kernel
theorem dMo_flip_1 : decode cMo_flip 1 = .ok (.ifCond .lt 11, 3) := by decide +kernel
theorem dMo_flip_4 : decode cMo_flip 4 = .ok (.iload_n 1, 1) := by decide +kernel
theorem dMo_flip_5 : decode cMo_flip 5 = .ok (.aload_n 0, 1) := by decide +kernel
theorem dMo_flip_6 : decode cMo_flip 6 = .ok (.getfield 155, 3) := by decide +kernel
theorem dMo_flip_9 : decode cMo_flip 9 = .ok (.if_icmp .lt 5, 3) := by decide +kernel
theorem dMo_flip_12 : decode cMo_flip 12 = .ok (.iconst (-1), 1) := by decide +kernel
theorem dMo_flip_13 : decode cMo_flip 13 = .ok (.ireturn, 1) := by decide +kernel
theorem dMo_flip_14 : decode cMo_flip 14 = .ok (.aload_n 0, 1) := by decide +kernel
theorem dMo_flip_15 : decode cMo_flip 15 = .ok (.getfield 47, 3) := by decide +kernel
theorem dMo_flip_18 : decode cMo_flip 18 = .ok (.iload_n 1, 1) := by decide +kernel
theorem dMo_flip_19 : decode cMo_flip 19 = .ok (.iconst 1, 1) := by decide +kernel
theorem dMo_flip_20 : decode cMo_flip 20 = .ok (.aload_n 0, 1) := by decide +kernel
theorem dMo_flip_21 : decode cMo_flip 21 = .ok (.getfield 47, 3) := by decide +kernel
theorem dMo_flip_24 : decode cMo_flip 24 = .ok (.iload_n 1, 1) := by decide +kernel
theorem dMo_flip_25 : decode cMo_flip 25 = .ok (.iaload, 1) := by decide +kernel
theorem dMo_flip_26 : decode cMo_flip 26 = .ok (.isub, 1) := by decide +kernel
theorem dMo_flip_27 : decode cMo_flip 27 = .ok (.iastore, 1) := by decide +kernel
theorem dMo_flip_28 : decode cMo_flip 28 = .ok (.aload_n 0, 1) := by decide +kernel
theorem dMo_flip_29 : decode cMo_flip 29 = .ok (.getfield 47, 3) := by decide +kernel
theorem dMo_flip_32 : decode cMo_flip 32 = .ok (.iload_n 1, 1) := by decide +kernel
theorem dMo_flip_33 : decode cMo_flip 33 = .ok (.iaload, 1) := by decide +kernel
theorem dMo_flip_34 : decode cMo_flip 34 = .ok (.ireturn, 1) := by decide +kernel
theorem dMo_gotSign_0 : decode cMo_gotSign 0 = .ok (.aload_n 0, 1) := by decide +kernel
theorem dMo_gotSign_1 : decode cMo_gotSign 1 = .ok (.getfield 13, 3) := by decide +kernel
theorem dMo_gotSign_4 : decode cMo_gotSign 4 = .ok (.aload_n 0, 1) := by decide +kernel
theorem dMo_gotSign_5 : decode cMo_gotSign 5 = .ok (.getfield 84, 3) := by decide +kernel
theorem dMo_gotSign_8 : decode cMo_gotSign 8 = .ok (.iaload, 1) := by decide +kernel
theorem dMo_gotSign_9 : decode cMo_gotSign 9 = .ok (.ifCond .ne 7, 3) := by decide +kernel
theorem dMo_gotSign_12 : decode cMo_gotSign 12 = .ok (.iconst 4, 1) := by decide +kernel
theorem dMo_gotSign_13 : decode cMo_gotSign 13 = .ok (.goto 5, 3) := by decide +kernel
theorem dMo_gotSign_16 : decode cMo_gotSign 16 = .ok (.bipush 7, 2) := by decide +kernel
theorem dMo_gotSign_18 : decode cMo_gotSign 18 = .ok (.istore_n 2, 1) := by decide +kernel
theorem dMo_gotSign_19 : decode cMo_gotSign 19 = .ok (.iconst 0, 1) := by decide +kernel
theorem dMo_gotSign_20 : decode cMo_gotSign 20 = .ok (.istore_n 3, 1) := by decide +kernel
theorem dMo_gotSign_21 : decode cMo_gotSign 21 = .ok (.iload_n 2, 1) := by decide +kernel
theorem dMo_gotSign_22 : decode cMo_gotSign 22 = .ok (.iconst 1, 1) := by decide +kernel
theorem dMo_gotSign_23 : decode cMo_gotSign 23 = .ok (.isub, 1) := by decide +kernel
theorem dMo_gotSign_24 : decode cMo_gotSign 24 = .ok (.istore 4, 2) := by decide +kernel
theorem dMo_gotSign_26 : decode cMo_gotSign 26 = .ok (.iload 4, 2) := by decide +kernel
theorem dMo_gotSign_28 : decode cMo_gotSign 28 = .ok (.ifCond .lt 25, 3) := by decide +kernel
theorem dMo_gotSign_31 : decode cMo_gotSign 31 = .ok (.iconst 2, 1) := by decide +kernel
theorem dMo_gotSign_32 : decode cMo_gotSign 32 = .ok (.iload_n 3, 1) := by decide +kernel
theorem dMo_gotSign_33 : decode cMo_gotSign 33 = .ok (.imul, 1) := by decide +kernel
theorem dMo_gotSign_34 : decode cMo_gotSign 34 = .ok (.aload_n 0, 1) := by decide +kernel
theorem dMo_gotSign_35 : decode cMo_gotSign 35 = .ok (.getfield 88, 3) := by decide +kernel
theorem dMo_gotSign_38 : decode cMo_gotSign 38 = .ok (.iload_n 2, 1) := by decide +kernel
theorem dMo_gotSign_39 : decode cMo_gotSign 39 = .ok (.iload_n 1, 1) := by decide +kernel
theorem dMo_gotSign_40 : decode cMo_gotSign 40 = .ok (.imul, 1) := by decide +kernel
theorem dMo_gotSign_41 : decode cMo_gotSign 41 = .ok (.iload 4, 2) := by decide +kernel
theorem dMo_gotSign_43 : decode cMo_gotSign 43 = .ok (.iadd, 1) := by decide +kernel
theorem dMo_gotSign_44 : decode cMo_gotSign 44 = .ok (.iaload, 1) := by decide +kernel
theorem dMo_gotSign_45 : decode cMo_gotSign 45 = .ok (.iadd, 1) := by decide +kernel
theorem dMo_gotSign_46 : decode cMo_gotSign 46 = .ok (.istore_n 3, 1) := by decide +kernel
theorem dMo_gotSign_47 : decode cMo_gotSign 47 = .ok (.iinc 4 (-1), 3) := by decide +kernel
theorem dMo_gotSign_50 : decode cMo_gotSign 50 = .ok (.goto (-24), 3) := by decide +kernel
theorem dMo_gotSign_53 : decode cMo_gotSign 53 = .ok (.iload_n 3, 1) := by decide +kernel
theorem dMo_gotSign_54 : decode cMo_gotSign 54 = .ok (.ireturn, 1) := by decide +kernel
theorem dMo_hear_0 : decode cMo_hear 0 = .ok (.aload_n 0, 1) := by decide +kernel
theorem dMo_hear_1 : decode cMo_hear 1 = .ok (.iload_n 1, 1) := by decide +kernel
theorem dMo_hear_2 : decode cMo_hear 2 = .ok (.invokevirtual 110, 3) := by decide +kernel
theorem dMo_hear_5 : decode cMo_hear 5 = .ok (.ifCond .eq 15, 3) := by decide +kernel
theorem dMo_hear_8 : decode cMo_hear 8 = .ok (.iload_n 2, 1) := by decide +kernel
theorem dMo_hear_9 : decode cMo_hear 9 = .ok (.ifCond .lt 11, 3) := by decide +kernel
theorem dMo_hear_12 : decode cMo_hear 12 = .ok (.iload_n 2, 1) := by decide +kernel
theorem dMo_hear_13 : decode cMo_hear 13 = .ok (.aload_n 0, 1) := by decide +kernel
theorem dMo_hear_14 : decode cMo_hear 14 = .ok (.getfield 155, 3) := by decide +kernel
theorem dMo_hear_17 : decode cMo_hear 17 = .ok (.if_icmp .lt 5, 3) := by decide +kernel
theorem dMo_hear_20 : decode cMo_hear 20 = .ok (.iconst (-1), 1) := by decide +kernel
theorem dMo_hear_21 : decode cMo_hear 21 = .ok (.ireturn, 1) := by decide +kernel
theorem dMo_hear_22 : decode cMo_hear 22 = .ok (.aload_n 0, 1) := by decide +kernel
theorem dMo_hear_23 : decode cMo_hear 23 = .ok (.iload_n 1, 1) := by decide +kernel
theorem dMo_hear_24 : decode cMo_hear 24 = .ok (.putfield 178, 3) := by decide +kernel
theorem dMo_hear_27 : decode cMo_hear 27 = .ok (.aload_n 0, 1) := by decide +kernel
theorem dMo_hear_28 : decode cMo_hear 28 = .ok (.iconst (-1), 1) := by decide +kernel
theorem dMo_hear_29 : decode cMo_hear 29 = .ok (.putfield 84, 3) := by decide +kernel
theorem dMo_hear_32 : decode cMo_hear 32 = .ok (.aload_n 0, 1) := by decide +kernel
theorem dMo_hear_33 : decode cMo_hear 33 = .ok (.iconst 0, 1) := by decide +kernel
theorem dMo_hear_34 : decode cMo_hear 34 = .ok (.putfield 195, 3) := by decide +kernel
theorem dMo_hear_37 : decode cMo_hear 37 = .ok (.iload_n 2, 1) := by decide +kernel
theorem dMo_hear_38 : decode cMo_hear 38 = .ok (.istore_n 3, 1) := by decide +kernel
theorem dMo_hear_39 : decode cMo_hear 39 = .ok (.iload_n 2, 1) := by decide +kernel
theorem dMo_hear_40 : decode cMo_hear 40 = .ok (.istore 4, 2) := by decide +kernel
theorem dMo_hear_42 : decode cMo_hear 42 = .ok (.iload 4, 2) := by decide +kernel
theorem dMo_hear_44 : decode cMo_hear 44 = .ok (.aload_n 0, 1) := by decide +kernel
theorem dMo_hear_45 : decode cMo_hear 45 = .ok (.getfield 155, 3) := by decide +kernel
theorem dMo_hear_48 : decode cMo_hear 48 = .ok (.if_icmp .ge 56, 3) := by decide +kernel
theorem dMo_hear_51 : decode cMo_hear 51 = .ok (.iinc 4 1, 3) := by decide +kernel
theorem dMo_hear_54 : decode cMo_hear 54 = .ok (.aload_n 0, 1) := by decide +kernel
theorem dMo_hear_55 : decode cMo_hear 55 = .ok (.getfield 81, 3) := by decide +kernel
theorem dMo_hear_58 : decode cMo_hear 58 = .ok (.iconst 4, 1) := by decide +kernel
theorem dMo_hear_59 : decode cMo_hear 59 = .ok (.aload_n 0, 1) := by decide +kernel
theorem dMo_hear_60 : decode cMo_hear 60 = .ok (.getfield 178, 3) := by decide +kernel
theorem dMo_hear_63 : decode cMo_hear 63 = .ok (.imul, 1) := by decide +kernel
theorem dMo_hear_64 : decode cMo_hear 64 = .ok (.dup2, 1) := by decide +kernel
theorem dMo_hear_65 : decode cMo_hear 65 = .ok (.iaload, 1) := by decide +kernel
theorem dMo_hear_66 : decode cMo_hear 66 = .ok (.iconst 1, 1) := by decide +kernel
theorem dMo_hear_67 : decode cMo_hear 67 = .ok (.iadd, 1) := by decide +kernel
theorem dMo_hear_68 : decode cMo_hear 68 = .ok (.iastore, 1) := by decide +kernel
theorem dMo_hear_69 : decode cMo_hear 69 = .ok (.iload 4, 2) := by decide +kernel
theorem dMo_hear_71 : decode cMo_hear 71 = .ok (.iload_n 3, 1) := by decide +kernel
theorem dMo_hear_72 : decode cMo_hear 72 = .ok (.isub, 1) := by decide +kernel
theorem dMo_hear_73 : decode cMo_hear 73 = .ok (.bipush 32, 2) := by decide +kernel
theorem dMo_hear_75 : decode cMo_hear 75 = .ok (.if_icmp .lt (-33), 3) := by decide +kernel
theorem dMo_hear_78 : decode cMo_hear 78 = .ok (.aload_n 0, 1) := by decide +kernel
theorem dMo_hear_79 : decode cMo_hear 79 = .ok (.iload 4, 2) := by decide +kernel
theorem dMo_hear_81 : decode cMo_hear 81 = .ok (.bipush 32, 2) := by decide +kernel
theorem dMo_hear_83 : decode cMo_hear 83 = .ok (.isub, 1) := by decide +kernel
theorem dMo_hear_84 : decode cMo_hear 84 = .ok (.invokevirtual 218, 3) := by decide +kernel
theorem dMo_hear_87 : decode cMo_hear 87 = .ok (.ifCond .eq (-45), 3) := by decide +kernel
theorem dMo_hear_90 : decode cMo_hear 90 = .ok (.aload_n 0, 1) := by decide +kernel
theorem dMo_hear_91 : decode cMo_hear 91 = .ok (.iload 4, 2) := by decide +kernel
theorem dMo_hear_93 : decode cMo_hear 93 = .ok (.invokevirtual 221, 3) := by decide +kernel
theorem dMo_hear_96 : decode cMo_hear 96 = .ok (.istore 4, 2) := by decide +kernel
theorem dMo_hear_98 : decode cMo_hear 98 = .ok (.iload 4, 2) := by decide +kernel
theorem dMo_hear_100 : decode cMo_hear 100 = .ok (.istore_n 3, 1) := by decide +kernel
theorem dMo_hear_101 : decode cMo_hear 101 = .ok (.goto (-59), 3) := by decide +kernel
theorem dMo_hear_104 : decode cMo_hear 104 = .ok (.aload_n 0, 1) := by decide +kernel
theorem dMo_hear_105 : decode cMo_hear 105 = .ok (.iconst 0, 1) := by decide +kernel
theorem dMo_hear_106 : decode cMo_hear 106 = .ok (.invokevirtual 201, 3) := by decide +kernel
theorem dMo_hear_109 : decode cMo_hear 109 = .ok (.aload_n 0, 1) := by decide +kernel
theorem dMo_hear_110 : decode cMo_hear 110 = .ok (.getfield 195, 3) := by decide +kernel
theorem dMo_hear_113 : decode cMo_hear 113 = .ok (.ireturn, 1) := by decide +kernel
theorem dMo_identity_0 : decode cMo_identity 0 = .ok (.iload_n 1, 1) := by decide +kernel
theorem dMo_identity_1 : decode cMo_identity 1 = .ok (.ifCond .lt 36, 3) := by decide +kernel
theorem dMo_identity_4 : decode cMo_identity 4 = .ok (.iload_n 1, 1) := by decide +kernel
theorem dMo_identity_5 : decode cMo_identity 5 = .ok (.ldc 94, 2) := by decide +kernel
theorem dMo_identity_7 : decode cMo_identity 7 = .ok (.if_icmp .ge 30, 3) := by decide +kernel
theorem dMo_identity_10 : decode cMo_identity 10 = .ok (.iload_n 2, 1) := by decide +kernel
theorem dMo_identity_11 : decode cMo_identity 11 = .ok (.ifCond .lt 26, 3) := by decide +kernel
theorem dMo_identity_14 : decode cMo_identity 14 = .ok (.iload_n 2, 1) := by decide +kernel
theorem dMo_identity_15 : decode cMo_identity 15 = .ok (.iconst 1, 1) := by decide +kernel
theorem dMo_identity_16 : decode cMo_identity 16 = .ok (.if_icmp .gt 21, 3) := by decide +kernel
theorem dMo_identity_19 : decode cMo_identity 19 = .ok (.iload_n 1, 1) := by decide +kernel
theorem dMo_identity_20 : decode cMo_identity 20 = .ok (.bipush 8, 2) := by decide +kernel
theorem dMo_identity_22 : decode cMo_identity 22 = .ok (.idiv, 1) := by decide +kernel
theorem dMo_identity_23 : decode cMo_identity 23 = .ok (.ldc 103, 2) := by decide +kernel
theorem dMo_identity_25 : decode cMo_identity 25 = .ok (.if_icmp .eq 12, 3) := by decide +kernel
theorem dMo_identity_28 : decode cMo_identity 28 = .ok (.aload_n 0, 1) := by decide +kernel
theorem dMo_identity_29 : decode cMo_identity 29 = .ok (.getfield 104, 3) := by decide +kernel
theorem dMo_identity_32 : decode cMo_identity 32 = .ok (.bipush 12, 2) := by decide +kernel
theorem dMo_identity_34 : decode cMo_identity 34 = .ok (.if_icmp .ne 5, 3) := by decide +kernel
theorem dMo_identity_37 : decode cMo_identity 37 = .ok (.iconst (-1), 1) := by decide +kernel
theorem dMo_identity_38 : decode cMo_identity 38 = .ok (.ireturn, 1) := by decide +kernel
theorem dMo_identity_39 : decode cMo_identity 39 = .ok (.iconst 0, 1) := by decide +kernel
theorem dMo_identity_40 : decode cMo_identity 40 = .ok (.istore_n 3, 1) := by decide +kernel
theorem dMo_identity_41 : decode cMo_identity 41 = .ok (.iload_n 3, 1) := by decide +kernel
theorem dMo_identity_42 : decode cMo_identity 42 = .ok (.aload_n 0, 1) := by decide +kernel
theorem dMo_identity_43 : decode cMo_identity 43 = .ok (.getfield 104, 3) := by decide +kernel
theorem dMo_identity_46 : decode cMo_identity 46 = .ok (.if_icmp .ge 21, 3) := by decide +kernel
theorem dMo_identity_49 : decode cMo_identity 49 = .ok (.aload_n 0, 1) := by decide +kernel
theorem dMo_identity_50 : decode cMo_identity 50 = .ok (.getfield 7, 3) := by decide +kernel
theorem dMo_identity_53 : decode cMo_identity 53 = .ok (.iload_n 3, 1) := by decide +kernel
theorem dMo_identity_54 : decode cMo_identity 54 = .ok (.iaload, 1) := by decide +kernel
theorem dMo_identity_55 : decode cMo_identity 55 = .ok (.iload_n 1, 1) := by decide +kernel
theorem dMo_identity_56 : decode cMo_identity 56 = .ok (.if_icmp .ne 5, 3) := by decide +kernel
theorem dMo_identity_59 : decode cMo_identity 59 = .ok (.iconst (-1), 1) := by decide +kernel
theorem dMo_identity_60 : decode cMo_identity 60 = .ok (.ireturn, 1) := by decide +kernel
theorem dMo_identity_61 : decode cMo_identity 61 = .ok (.iinc 3 1, 3) := by decide +kernel
theorem dMo_identity_64 : decode cMo_identity 64 = .ok (.goto (-23), 3) := by decide +kernel
theorem dMo_identity_67 : decode cMo_identity 67 = .ok (.aload_n 0, 1) := by decide +kernel
theorem dMo_identity_68 : decode cMo_identity 68 = .ok (.getfield 7, 3) := by decide +kernel
theorem dMo_identity_71 : decode cMo_identity 71 = .ok (.aload_n 0, 1) := by decide +kernel
theorem dMo_identity_72 : decode cMo_identity 72 = .ok (.getfield 104, 3) := by decide +kernel
theorem dMo_identity_75 : decode cMo_identity 75 = .ok (.iload_n 1, 1) := by decide +kernel
theorem dMo_identity_76 : decode cMo_identity 76 = .ok (.iastore, 1) := by decide +kernel
theorem dMo_identity_77 : decode cMo_identity 77 = .ok (.aload_n 0, 1) := by decide +kernel
theorem dMo_identity_78 : decode cMo_identity 78 = .ok (.getfield 13, 3) := by decide +kernel
theorem dMo_identity_81 : decode cMo_identity 81 = .ok (.aload_n 0, 1) := by decide +kernel
theorem dMo_identity_82 : decode cMo_identity 82 = .ok (.getfield 104, 3) := by decide +kernel
theorem dMo_identity_85 : decode cMo_identity 85 = .ok (.iload_n 2, 1) := by decide +kernel
theorem dMo_identity_86 : decode cMo_identity 86 = .ok (.iastore, 1) := by decide +kernel
theorem dMo_identity_87 : decode cMo_identity 87 = .ok (.aload_n 0, 1) := by decide +kernel
theorem dMo_identity_88 : decode cMo_identity 88 = .ok (.dup, 1) := by decide +kernel
theorem dMo_identity_89 : decode cMo_identity 89 = .ok (.getfield 104, 3) := by decide +kernel
theorem dMo_identity_92 : decode cMo_identity 92 = .ok (.iconst 1, 1) := by decide +kernel
theorem dMo_identity_93 : decode cMo_identity 93 = .ok (.iadd, 1) := by decide +kernel
theorem dMo_identity_94 : decode cMo_identity 94 = .ok (.putfield 104, 3) := by decide +kernel
theorem dMo_identity_97 : decode cMo_identity 97 = .ok (.aload_n 0, 1) := by decide +kernel
theorem dMo_identity_98 : decode cMo_identity 98 = .ok (.getfield 104, 3) := by decide +kernel
theorem dMo_identity_101 : decode cMo_identity 101 = .ok (.iconst 1, 1) := by decide +kernel
theorem dMo_identity_102 : decode cMo_identity 102 = .ok (.isub, 1) := by decide +kernel
theorem dMo_identity_103 : decode cMo_identity 103 = .ok (.ireturn, 1) := by decide +kernel
theorem dMo_identityOf_0 : decode cMo_identityOf 0 = .ok (.iconst (-1), 1) := by decide +kernel
theorem dMo_identityOf_1 : decode cMo_identityOf 1 = .ok (.istore_n 3, 1) := by decide +kernel
theorem dMo_identityOf_2 : decode cMo_identityOf 2 = .ok (.iconst 4, 1) := by decide +kernel
theorem dMo_identityOf_3 : decode cMo_identityOf 3 = .ok (.aload_n 0, 1) := by decide +kernel
theorem dMo_identityOf_4 : decode cMo_identityOf 4 = .ok (.getfield 178, 3) := by decide +kernel
theorem dMo_identityOf_7 : decode cMo_identityOf 7 = .ok (.imul, 1) := by decide +kernel
theorem dMo_identityOf_8 : decode cMo_identityOf 8 = .ok (.istore 4, 2) := by decide +kernel
theorem dMo_identityOf_10 : decode cMo_identityOf 10 = .ok (.iload 4, 2) := by decide +kernel
theorem dMo_identityOf_12 : decode cMo_identityOf 12 = .ok (.iconst 4, 1) := by decide +kernel
theorem dMo_identityOf_13 : decode cMo_identityOf 13 = .ok (.aload_n 0, 1) := by decide +kernel
theorem dMo_identityOf_14 : decode cMo_identityOf 14 = .ok (.getfield 178, 3) := by decide +kernel
theorem dMo_identityOf_17 : decode cMo_identityOf 17 = .ok (.imul, 1) := by decide +kernel
theorem dMo_identityOf_18 : decode cMo_identityOf 18 = .ok (.aload_n 0, 1) := by decide +kernel
theorem dMo_identityOf_19 : decode cMo_identityOf 19 = .ok (.getfield 53, 3) := by decide +kernel
theorem dMo_identityOf_22 : decode cMo_identityOf 22 = .ok (.aload_n 0, 1) := by decide +kernel
theorem dMo_identityOf_23 : decode cMo_identityOf 23 = .ok (.getfield 178, 3) := by decide +kernel
theorem dMo_identityOf_26 : decode cMo_identityOf 26 = .ok (.iaload, 1) := by decide +kernel
theorem dMo_identityOf_27 : decode cMo_identityOf 27 = .ok (.iadd, 1) := by decide +kernel
theorem dMo_identityOf_28 : decode cMo_identityOf 28 = .ok (.if_icmp .ge 55, 3) := by decide +kernel
theorem dMo_identityOf_31 : decode cMo_identityOf 31 = .ok (.aload_n 0, 1) := by decide +kernel
theorem dMo_identityOf_32 : decode cMo_identityOf 32 = .ok (.aload_n 0, 1) := by decide +kernel
theorem dMo_identityOf_33 : decode cMo_identityOf 33 = .ok (.getfield 50, 3) := by decide +kernel
theorem dMo_identityOf_36 : decode cMo_identityOf 36 = .ok (.iload 4, 2) := by decide +kernel
theorem dMo_identityOf_38 : decode cMo_identityOf 38 = .ok (.iaload, 1) := by decide +kernel
theorem dMo_identityOf_39 : decode cMo_identityOf 39 = .ok (.invokevirtual 138, 3) := by decide +kernel
theorem dMo_identityOf_42 : decode cMo_identityOf 42 = .ok (.iload_n 1, 1) := by decide +kernel
theorem dMo_identityOf_43 : decode cMo_identityOf 43 = .ok (.if_icmp .ne 32, 3) := by decide +kernel
theorem dMo_identityOf_46 : decode cMo_identityOf 46 = .ok (.aload_n 0, 1) := by decide +kernel
theorem dMo_identityOf_47 : decode cMo_identityOf 47 = .ok (.getfield 7, 3) := by decide +kernel
theorem dMo_identityOf_50 : decode cMo_identityOf 50 = .ok (.aload_n 0, 1) := by decide +kernel
theorem dMo_identityOf_51 : decode cMo_identityOf 51 = .ok (.getfield 50, 3) := by decide +kernel
theorem dMo_identityOf_54 : decode cMo_identityOf 54 = .ok (.iload 4, 2) := by decide +kernel
theorem dMo_identityOf_56 : decode cMo_identityOf 56 = .ok (.iaload, 1) := by decide +kernel
theorem dMo_identityOf_57 : decode cMo_identityOf 57 = .ok (.iaload, 1) := by decide +kernel
theorem dMo_identityOf_58 : decode cMo_identityOf 58 = .ok (.bipush 8, 2) := by decide +kernel
theorem dMo_identityOf_60 : decode cMo_identityOf 60 = .ok (.irem, 1) := by decide +kernel
theorem dMo_identityOf_61 : decode cMo_identityOf 61 = .ok (.iload_n 2, 1) := by decide +kernel
theorem dMo_identityOf_62 : decode cMo_identityOf 62 = .ok (.if_icmp .ne 13, 3) := by decide +kernel
theorem dMo_identityOf_65 : decode cMo_identityOf 65 = .ok (.aload_n 0, 1) := by decide +kernel
theorem dMo_identityOf_66 : decode cMo_identityOf 66 = .ok (.getfield 50, 3) := by decide +kernel
theorem dMo_identityOf_69 : decode cMo_identityOf 69 = .ok (.iload 4, 2) := by decide +kernel
theorem dMo_identityOf_71 : decode cMo_identityOf 71 = .ok (.iaload, 1) := by decide +kernel
theorem dMo_identityOf_72 : decode cMo_identityOf 72 = .ok (.goto 4, 3) := by decide +kernel
theorem dMo_identityOf_75 : decode cMo_identityOf 75 = .ok (.iload_n 3, 1) := by decide +kernel
theorem dMo_identityOf_76 : decode cMo_identityOf 76 = .ok (.istore_n 3, 1) := by decide +kernel
theorem dMo_identityOf_77 : decode cMo_identityOf 77 = .ok (.iinc 4 1, 3) := by decide +kernel
theorem dMo_identityOf_80 : decode cMo_identityOf 80 = .ok (.goto (-70), 3) := by decide +kernel
theorem dMo_identityOf_83 : decode cMo_identityOf 83 = .ok (.iload_n 3, 1) := by decide +kernel
theorem dMo_identityOf_84 : decode cMo_identityOf 84 = .ok (.ireturn, 1) := by decide +kernel
theorem dMo_isAwake_0 : decode cMo_isAwake 0 = .ok (.aload_n 0, 1) := by decide +kernel
theorem dMo_isAwake_1 : decode cMo_isAwake 1 = .ok (.getfield 84, 3) := by decide +kernel
theorem dMo_isAwake_4 : decode cMo_isAwake 4 = .ok (.ifCond .lt 7, 3) := by decide +kernel
theorem dMo_isAwake_7 : decode cMo_isAwake 7 = .ok (.iconst 1, 1) := by decide +kernel
theorem dMo_isAwake_8 : decode cMo_isAwake 8 = .ok (.goto 4, 3) := by decide +kernel
theorem dMo_isAwake_11 : decode cMo_isAwake 11 = .ok (.iconst 0, 1) := by decide +kernel
theorem dMo_isAwake_12 : decode cMo_isAwake 12 = .ok (.istore_n 2, 1) := by decide +kernel
theorem dMo_isAwake_13 : decode cMo_isAwake 13 = .ok (.iconst 4, 1) := by decide +kernel
theorem dMo_isAwake_14 : decode cMo_isAwake 14 = .ok (.aload_n 0, 1) := by decide +kernel
theorem dMo_isAwake_15 : decode cMo_isAwake 15 = .ok (.getfield 178, 3) := by decide +kernel
theorem dMo_isAwake_18 : decode cMo_isAwake 18 = .ok (.imul, 1) := by decide +kernel
theorem dMo_isAwake_19 : decode cMo_isAwake 19 = .ok (.istore_n 3, 1) := by decide +kernel
theorem dMo_isAwake_20 : decode cMo_isAwake 20 = .ok (.iload_n 3, 1) := by decide +kernel
theorem dMo_isAwake_21 : decode cMo_isAwake 21 = .ok (.iconst 4, 1) := by decide +kernel
theorem dMo_isAwake_22 : decode cMo_isAwake 22 = .ok (.aload_n 0, 1) := by decide +kernel
theorem dMo_isAwake_23 : decode cMo_isAwake 23 = .ok (.getfield 178, 3) := by decide +kernel
theorem dMo_isAwake_26 : decode cMo_isAwake 26 = .ok (.imul, 1) := by decide +kernel
theorem dMo_isAwake_27 : decode cMo_isAwake 27 = .ok (.aload_n 0, 1) := by decide +kernel
theorem dMo_isAwake_28 : decode cMo_isAwake 28 = .ok (.getfield 53, 3) := by decide +kernel
theorem dMo_isAwake_31 : decode cMo_isAwake 31 = .ok (.aload_n 0, 1) := by decide +kernel
theorem dMo_isAwake_32 : decode cMo_isAwake 32 = .ok (.getfield 178, 3) := by decide +kernel
theorem dMo_isAwake_35 : decode cMo_isAwake 35 = .ok (.iaload, 1) := by decide +kernel
theorem dMo_isAwake_36 : decode cMo_isAwake 36 = .ok (.iadd, 1) := by decide +kernel
theorem dMo_isAwake_37 : decode cMo_isAwake 37 = .ok (.if_icmp .ge 37, 3) := by decide +kernel
theorem dMo_isAwake_40 : decode cMo_isAwake 40 = .ok (.iload_n 2, 1) := by decide +kernel
theorem dMo_isAwake_41 : decode cMo_isAwake 41 = .ok (.ifCond .ne 21, 3) := by decide +kernel
theorem dMo_isAwake_44 : decode cMo_isAwake 44 = .ok (.aload_n 0, 1) := by decide +kernel
theorem dMo_isAwake_45 : decode cMo_isAwake 45 = .ok (.getfield 7, 3) := by decide +kernel
theorem dMo_isAwake_48 : decode cMo_isAwake 48 = .ok (.aload_n 0, 1) := by decide +kernel
theorem dMo_isAwake_49 : decode cMo_isAwake 49 = .ok (.getfield 50, 3) := by decide +kernel
theorem dMo_isAwake_52 : decode cMo_isAwake 52 = .ok (.iload_n 3, 1) := by decide +kernel
theorem dMo_isAwake_53 : decode cMo_isAwake 53 = .ok (.iaload, 1) := by decide +kernel
theorem dMo_isAwake_54 : decode cMo_isAwake 54 = .ok (.iaload, 1) := by decide +kernel
theorem dMo_isAwake_55 : decode cMo_isAwake 55 = .ok (.bipush 8, 2) := by decide +kernel
theorem dMo_isAwake_57 : decode cMo_isAwake 57 = .ok (.irem, 1) := by decide +kernel
theorem dMo_isAwake_58 : decode cMo_isAwake 58 = .ok (.iload_n 1, 1) := by decide +kernel
theorem dMo_isAwake_59 : decode cMo_isAwake 59 = .ok (.if_icmp .ne 7, 3) := by decide +kernel
theorem dMo_isAwake_62 : decode cMo_isAwake 62 = .ok (.iconst 1, 1) := by decide +kernel
theorem dMo_isAwake_63 : decode cMo_isAwake 63 = .ok (.goto 4, 3) := by decide +kernel
theorem dMo_isAwake_66 : decode cMo_isAwake 66 = .ok (.iconst 0, 1) := by decide +kernel
theorem dMo_isAwake_67 : decode cMo_isAwake 67 = .ok (.istore_n 2, 1) := by decide +kernel
theorem dMo_isAwake_68 : decode cMo_isAwake 68 = .ok (.iinc 3 1, 3) := by decide +kernel
theorem dMo_isAwake_71 : decode cMo_isAwake 71 = .ok (.goto (-51), 3) := by decide +kernel
theorem dMo_isAwake_74 : decode cMo_isAwake 74 = .ok (.iload_n 2, 1) := by decide +kernel
theorem dMo_isAwake_75 : decode cMo_isAwake 75 = .ok (.ireturn, 1) := by decide +kernel
theorem dMo_isCodeword_0 : decode cMo_isCodeword 0 = .ok (.iload_n 0, 1) := by decide +kernel
theorem dMo_isCodeword_1 : decode cMo_isCodeword 1 = .ok (.bipush 11, 2) := by decide +kernel
theorem dMo_isCodeword_3 : decode cMo_isCodeword 3 = .ok (.iushr, 1) := by decide +kernel
theorem dMo_isCodeword_4 : decode cMo_isCodeword 4 = .ok (.invokestatic 95, 3) := by decide +kernel
theorem dMo_isCodeword_7 : decode cMo_isCodeword 7 = .ok (.iload_n 0, 1) := by decide +kernel
theorem dMo_isCodeword_8 : decode cMo_isCodeword 8 = .ok (.if_icmp .ne 7, 3) := by decide +kernel
theorem dMo_isCodeword_11 : decode cMo_isCodeword 11 = .ok (.iconst 1, 1) := by decide +kernel
theorem dMo_isCodeword_12 : decode cMo_isCodeword 12 = .ok (.goto 4, 3) := by decide +kernel
theorem dMo_isCodeword_15 : decode cMo_isCodeword 15 = .ok (.iconst 0, 1) := by decide +kernel
theorem dMo_isCodeword_16 : decode cMo_isCodeword 16 = .ok (.ireturn, 1) := by decide +kernel
theorem dMo_isIdentity_0 : decode cMo_isIdentity 0 = .ok (.iload_n 1, 1) := by decide +kernel
theorem dMo_isIdentity_1 : decode cMo_isIdentity 1 = .ok (.ifCond .lt 15, 3) := by decide +kernel
theorem dMo_isIdentity_4 : decode cMo_isIdentity 4 = .ok (.iload_n 1, 1) := by decide +kernel
theorem dMo_isIdentity_5 : decode cMo_isIdentity 5 = .ok (.aload_n 0, 1) := by decide +kernel
theorem dMo_isIdentity_6 : decode cMo_isIdentity 6 = .ok (.getfield 104, 3) := by decide +kernel
theorem dMo_isIdentity_9 : decode cMo_isIdentity 9 = .ok (.if_icmp .ge 7, 3) := by decide +kernel
theorem dMo_isIdentity_12 : decode cMo_isIdentity 12 = .ok (.iconst 1, 1) := by decide +kernel
theorem dMo_isIdentity_13 : decode cMo_isIdentity 13 = .ok (.goto 4, 3) := by decide +kernel
theorem dMo_isIdentity_16 : decode cMo_isIdentity 16 = .ok (.iconst 0, 1) := by decide +kernel
theorem dMo_isIdentity_17 : decode cMo_isIdentity 17 = .ok (.ireturn, 1) := by decide +kernel
theorem dMo_isKept_0 : decode cMo_isKept 0 = .ok (.aload_n 0, 1) := by decide +kernel
theorem dMo_isKept_1 : decode cMo_isKept 1 = .ok (.iload_n 1, 1) := by decide +kernel
theorem dMo_isKept_2 : decode cMo_isKept 2 = .ok (.invokevirtual 110, 3) := by decide +kernel
theorem dMo_isKept_5 : decode cMo_isKept 5 = .ok (.ifCond .eq 21, 3) := by decide +kernel
theorem dMo_isKept_8 : decode cMo_isKept 8 = .ok (.iload_n 2, 1) := by decide +kernel
theorem dMo_isKept_9 : decode cMo_isKept 9 = .ok (.ifCond .lt 17, 3) := by decide +kernel
theorem dMo_isKept_12 : decode cMo_isKept 12 = .ok (.iload_n 2, 1) := by decide +kernel
theorem dMo_isKept_13 : decode cMo_isKept 13 = .ok (.aload_n 0, 1) := by decide +kernel
theorem dMo_isKept_14 : decode cMo_isKept 14 = .ok (.getfield 56, 3) := by decide +kernel
theorem dMo_isKept_17 : decode cMo_isKept 17 = .ok (.iload_n 1, 1) := by decide +kernel
theorem dMo_isKept_18 : decode cMo_isKept 18 = .ok (.iaload, 1) := by decide +kernel
theorem dMo_isKept_19 : decode cMo_isKept 19 = .ok (.if_icmp .ge 7, 3) := by decide +kernel
theorem dMo_isKept_22 : decode cMo_isKept 22 = .ok (.iconst 1, 1) := by decide +kernel
theorem dMo_isKept_23 : decode cMo_isKept 23 = .ok (.goto 4, 3) := by decide +kernel
theorem dMo_isKept_26 : decode cMo_isKept 26 = .ok (.iconst 0, 1) := by decide +kernel
theorem dMo_isKept_27 : decode cMo_isKept 27 = .ok (.ireturn, 1) := by decide +kernel
theorem dMo_isPager_0 : decode cMo_isPager 0 = .ok (.iload_n 1, 1) := by decide +kernel
theorem dMo_isPager_1 : decode cMo_isPager 1 = .ok (.ifCond .lt 15, 3) := by decide +kernel
theorem dMo_isPager_4 : decode cMo_isPager 4 = .ok (.iload_n 1, 1) := by decide +kernel
theorem dMo_isPager_5 : decode cMo_isPager 5 = .ok (.aload_n 0, 1) := by decide +kernel
theorem dMo_isPager_6 : decode cMo_isPager 6 = .ok (.getfield 107, 3) := by decide +kernel
theorem dMo_isPager_9 : decode cMo_isPager 9 = .ok (.if_icmp .ge 7, 3) := by decide +kernel
theorem dMo_isPager_12 : decode cMo_isPager 12 = .ok (.iconst 1, 1) := by decide +kernel
theorem dMo_isPager_13 : decode cMo_isPager 13 = .ok (.goto 4, 3) := by decide +kernel
theorem dMo_isPager_16 : decode cMo_isPager 16 = .ok (.iconst 0, 1) := by decide +kernel
theorem dMo_isPager_17 : decode cMo_isPager 17 = .ok (.ireturn, 1) := by decide +kernel
theorem dMo_isSync_0 : decode cMo_isSync 0 = .ok (.aload_n 0, 1) := by decide +kernel
theorem dMo_isSync_1 : decode cMo_isSync 1 = .ok (.iload_n 1, 1) := by decide +kernel
theorem dMo_isSync_2 : decode cMo_isSync 2 = .ok (.invokevirtual 169, 3) := by decide +kernel
theorem dMo_isSync_5 : decode cMo_isSync 5 = .ok (.ldc 168, 2) := by decide +kernel
theorem dMo_isSync_7 : decode cMo_isSync 7 = .ok (.ixor, 1) := by decide +kernel
theorem dMo_isSync_8 : decode cMo_isSync 8 = .ok (.invokestatic 172, 3) := by decide +kernel
theorem dMo_isSync_11 : decode cMo_isSync 11 = .ok (.iconst 2, 1) := by decide +kernel
theorem dMo_isSync_12 : decode cMo_isSync 12 = .ok (.if_icmp .gt 7, 3) := by decide +kernel
theorem dMo_isSync_15 : decode cMo_isSync 15 = .ok (.iconst 1, 1) := by decide +kernel
theorem dMo_isSync_16 : decode cMo_isSync 16 = .ok (.goto 4, 3) := by decide +kernel
theorem dMo_isSync_19 : decode cMo_isSync 19 = .ok (.iconst 0, 1) := by decide +kernel
theorem dMo_isSync_20 : decode cMo_isSync 20 = .ok (.ireturn, 1) := by decide +kernel
theorem dMo_join_0 : decode cMo_join 0 = .ok (.aload_n 0, 1) := by decide +kernel
theorem dMo_join_1 : decode cMo_join 1 = .ok (.iload_n 1, 1) := by decide +kernel
theorem dMo_join_2 : decode cMo_join 2 = .ok (.invokevirtual 110, 3) := by decide +kernel
theorem dMo_join_5 : decode cMo_join 5 = .ok (.ifCond .eq 30, 3) := by decide +kernel
theorem dMo_join_8 : decode cMo_join 8 = .ok (.aload_n 0, 1) := by decide +kernel
theorem dMo_join_9 : decode cMo_join 9 = .ok (.iload_n 2, 1) := by decide +kernel
theorem dMo_join_10 : decode cMo_join 10 = .ok (.invokevirtual 113, 3) := by decide +kernel
theorem dMo_join_13 : decode cMo_join 13 = .ok (.ifCond .eq 22, 3) := by decide +kernel
theorem dMo_join_16 : decode cMo_join 16 = .ok (.aload_n 0, 1) := by decide +kernel
theorem dMo_join_17 : decode cMo_join 17 = .ok (.getfield 53, 3) := by decide +kernel
theorem dMo_join_20 : decode cMo_join 20 = .ok (.iload_n 1, 1) := by decide +kernel
theorem dMo_join_21 : decode cMo_join 21 = .ok (.iaload, 1) := by decide +kernel
theorem dMo_join_22 : decode cMo_join 22 = .ok (.iconst 4, 1) := by decide +kernel
theorem dMo_join_23 : decode cMo_join 23 = .ok (.if_icmp .eq 12, 3) := by decide +kernel
theorem dMo_join_26 : decode cMo_join 26 = .ok (.aload_n 0, 1) := by decide +kernel
theorem dMo_join_27 : decode cMo_join 27 = .ok (.iload_n 1, 1) := by decide +kernel
theorem dMo_join_28 : decode cMo_join 28 = .ok (.iload_n 2, 1) := by decide +kernel
theorem dMo_join_29 : decode cMo_join 29 = .ok (.invokevirtual 116, 3) := by decide +kernel
theorem dMo_join_32 : decode cMo_join 32 = .ok (.ifCond .eq 5, 3) := by decide +kernel
theorem dMo_join_35 : decode cMo_join 35 = .ok (.iconst (-1), 1) := by decide +kernel
theorem dMo_join_36 : decode cMo_join 36 = .ok (.ireturn, 1) := by decide +kernel
theorem dMo_join_37 : decode cMo_join 37 = .ok (.aload_n 0, 1) := by decide +kernel
theorem dMo_join_38 : decode cMo_join 38 = .ok (.getfield 50, 3) := by decide +kernel
theorem dMo_join_41 : decode cMo_join 41 = .ok (.iconst 4, 1) := by decide +kernel
theorem dMo_join_42 : decode cMo_join 42 = .ok (.iload_n 1, 1) := by decide +kernel
theorem dMo_join_43 : decode cMo_join 43 = .ok (.imul, 1) := by decide +kernel
theorem dMo_join_44 : decode cMo_join 44 = .ok (.aload_n 0, 1) := by decide +kernel
theorem dMo_join_45 : decode cMo_join 45 = .ok (.getfield 53, 3) := by decide +kernel
theorem dMo_join_48 : decode cMo_join 48 = .ok (.iload_n 1, 1) := by decide +kernel
theorem dMo_join_49 : decode cMo_join 49 = .ok (.iaload, 1) := by decide +kernel
theorem dMo_join_50 : decode cMo_join 50 = .ok (.iadd, 1) := by decide +kernel
theorem dMo_join_51 : decode cMo_join 51 = .ok (.iload_n 2, 1) := by decide +kernel
theorem dMo_join_52 : decode cMo_join 52 = .ok (.iastore, 1) := by decide +kernel
theorem dMo_join_53 : decode cMo_join 53 = .ok (.aload_n 0, 1) := by decide +kernel
theorem dMo_join_54 : decode cMo_join 54 = .ok (.getfield 78, 3) := by decide +kernel
theorem dMo_join_57 : decode cMo_join 57 = .ok (.bipush 12, 2) := by decide +kernel
theorem dMo_join_59 : decode cMo_join 59 = .ok (.iload_n 1, 1) := by decide +kernel
theorem dMo_join_60 : decode cMo_join 60 = .ok (.imul, 1) := by decide +kernel
theorem dMo_join_61 : decode cMo_join 61 = .ok (.iload_n 2, 1) := by decide +kernel
theorem dMo_join_62 : decode cMo_join 62 = .ok (.iadd, 1) := by decide +kernel
theorem dMo_join_63 : decode cMo_join 63 = .ok (.iconst (-1), 1) := by decide +kernel
theorem dMo_join_64 : decode cMo_join 64 = .ok (.iastore, 1) := by decide +kernel
theorem dMo_join_65 : decode cMo_join 65 = .ok (.aload_n 0, 1) := by decide +kernel
theorem dMo_join_66 : decode cMo_join 66 = .ok (.getfield 53, 3) := by decide +kernel
theorem dMo_join_69 : decode cMo_join 69 = .ok (.iload_n 1, 1) := by decide +kernel
theorem dMo_join_70 : decode cMo_join 70 = .ok (.dup2, 1) := by decide +kernel
theorem dMo_join_71 : decode cMo_join 71 = .ok (.iaload, 1) := by decide +kernel
theorem dMo_join_72 : decode cMo_join 72 = .ok (.iconst 1, 1) := by decide +kernel
theorem dMo_join_73 : decode cMo_join 73 = .ok (.iadd, 1) := by decide +kernel
theorem dMo_join_74 : decode cMo_join 74 = .ok (.iastore, 1) := by decide +kernel
theorem dMo_join_75 : decode cMo_join 75 = .ok (.aload_n 0, 1) := by decide +kernel
theorem dMo_join_76 : decode cMo_join 76 = .ok (.getfield 53, 3) := by decide +kernel
theorem dMo_join_79 : decode cMo_join 79 = .ok (.iload_n 1, 1) := by decide +kernel
theorem dMo_join_80 : decode cMo_join 80 = .ok (.iaload, 1) := by decide +kernel
theorem dMo_join_81 : decode cMo_join 81 = .ok (.ireturn, 1) := by decide +kernel
theorem dMo_kept_0 : decode cMo_kept 0 = .ok (.aload_n 0, 1) := by decide +kernel
theorem dMo_kept_1 : decode cMo_kept 1 = .ok (.iload_n 1, 1) := by decide +kernel
theorem dMo_kept_2 : decode cMo_kept 2 = .ok (.invokevirtual 110, 3) := by decide +kernel
theorem dMo_kept_5 : decode cMo_kept 5 = .ok (.ifCond .eq 12, 3) := by decide +kernel
theorem dMo_kept_8 : decode cMo_kept 8 = .ok (.aload_n 0, 1) := by decide +kernel
theorem dMo_kept_9 : decode cMo_kept 9 = .ok (.getfield 56, 3) := by decide +kernel
theorem dMo_kept_12 : decode cMo_kept 12 = .ok (.iload_n 1, 1) := by decide +kernel
theorem dMo_kept_13 : decode cMo_kept 13 = .ok (.iaload, 1) := by decide +kernel
theorem dMo_kept_14 : decode cMo_kept 14 = .ok (.goto 4, 3) := by decide +kernel
theorem dMo_kept_17 : decode cMo_kept 17 = .ok (.iconst (-1), 1) := by decide +kernel
theorem dMo_kept_18 : decode cMo_kept 18 = .ok (.ireturn, 1) := by decide +kernel
theorem dMo_lay_0 : decode cMo_lay 0 = .ok (.iload_n 2, 1) := by decide +kernel
theorem dMo_lay_1 : decode cMo_lay 1 = .ok (.istore 4, 2) := by decide +kernel
theorem dMo_lay_3 : decode cMo_lay 3 = .ok (.iload 4, 2) := by decide +kernel
theorem dMo_lay_5 : decode cMo_lay 5 = .ok (.iload_n 3, 1) := by decide +kernel
theorem dMo_lay_6 : decode cMo_lay 6 = .ok (.if_icmp .ge 43, 3) := by decide +kernel
theorem dMo_lay_9 : decode cMo_lay 9 = .ok (.aload_n 0, 1) := by decide +kernel
theorem dMo_lay_10 : decode cMo_lay 10 = .ok (.iload_n 1, 1) := by decide +kernel
theorem dMo_lay_11 : decode cMo_lay 11 = .ok (.iload 4, 2) := by decide +kernel
theorem dMo_lay_13 : decode cMo_lay 13 = .ok (.iload_n 3, 1) := by decide +kernel
theorem dMo_lay_14 : decode cMo_lay 14 = .ok (.invokevirtual 147, 3) := by decide +kernel
theorem dMo_lay_17 : decode cMo_lay 17 = .ok (.ifCond .eq 26, 3) := by decide +kernel
theorem dMo_lay_20 : decode cMo_lay 20 = .ok (.aload_n 0, 1) := by decide +kernel
theorem dMo_lay_21 : decode cMo_lay 21 = .ok (.iload_n 1, 1) := by decide +kernel
theorem dMo_lay_22 : decode cMo_lay 22 = .ok (.iload 4, 2) := by decide +kernel
theorem dMo_lay_24 : decode cMo_lay 24 = .ok (.invokevirtual 151, 3) := by decide +kernel
theorem dMo_lay_27 : decode cMo_lay 27 = .ok (.aload_n 0, 1) := by decide +kernel
theorem dMo_lay_28 : decode cMo_lay 28 = .ok (.getfield 34, 3) := by decide +kernel
theorem dMo_lay_31 : decode cMo_lay 31 = .ok (.iload_n 1, 1) := by decide +kernel
theorem dMo_lay_32 : decode cMo_lay 32 = .ok (.iconst 0, 1) := by decide +kernel
theorem dMo_lay_33 : decode cMo_lay 33 = .ok (.bastore, 1) := by decide +kernel
theorem dMo_lay_34 : decode cMo_lay 34 = .ok (.iload 4, 2) := by decide +kernel
theorem dMo_lay_36 : decode cMo_lay 36 = .ok (.aload_n 0, 1) := by decide +kernel
theorem dMo_lay_37 : decode cMo_lay 37 = .ok (.iload_n 1, 1) := by decide +kernel
theorem dMo_lay_38 : decode cMo_lay 38 = .ok (.invokevirtual 141, 3) := by decide +kernel
theorem dMo_lay_41 : decode cMo_lay 41 = .ok (.iadd, 1) := by decide +kernel
theorem dMo_lay_42 : decode cMo_lay 42 = .ok (.ireturn, 1) := by decide +kernel
theorem dMo_lay_43 : decode cMo_lay 43 = .ok (.iinc 4 1, 3) := by decide +kernel
theorem dMo_lay_46 : decode cMo_lay 46 = .ok (.goto (-43), 3) := by decide +kernel
theorem dMo_lay_49 : decode cMo_lay 49 = .ok (.iconst (-1), 1) := by decide +kernel
theorem dMo_lay_50 : decode cMo_lay 50 = .ok (.ireturn, 1) := by decide +kernel
theorem dMo_layAt_0 : decode cMo_layAt 0 = .ok (.aload_n 0, 1) := by decide +kernel
theorem dMo_layAt_1 : decode cMo_layAt 1 = .ok (.getfield 41, 3) := by decide +kernel
theorem dMo_layAt_4 : decode cMo_layAt 4 = .ok (.iload_n 2, 1) := by decide +kernel
theorem dMo_layAt_5 : decode cMo_layAt 5 = .ok (.aload_n 0, 1) := by decide +kernel
theorem dMo_layAt_6 : decode cMo_layAt 6 = .ok (.aload_n 0, 1) := by decide +kernel
theorem dMo_layAt_7 : decode cMo_layAt 7 = .ok (.getfield 19, 3) := by decide +kernel
theorem dMo_layAt_10 : decode cMo_layAt 10 = .ok (.iload_n 1, 1) := by decide +kernel
theorem dMo_layAt_11 : decode cMo_layAt 11 = .ok (.iaload, 1) := by decide +kernel
theorem dMo_layAt_12 : decode cMo_layAt 12 = .ok (.invokevirtual 138, 3) := by decide +kernel
theorem dMo_layAt_15 : decode cMo_layAt 15 = .ok (.invokestatic 95, 3) := by decide +kernel
theorem dMo_layAt_18 : decode cMo_layAt 18 = .ok (.iastore, 1) := by decide +kernel
theorem dMo_layAt_19 : decode cMo_layAt 19 = .ok (.aload_n 0, 1) := by decide +kernel
theorem dMo_layAt_20 : decode cMo_layAt 20 = .ok (.getfield 44, 3) := by decide +kernel
theorem dMo_layAt_23 : decode cMo_layAt 23 = .ok (.iload_n 2, 1) := by decide +kernel
theorem dMo_layAt_24 : decode cMo_layAt 24 = .ok (.iconst 1, 1) := by decide +kernel
theorem dMo_layAt_25 : decode cMo_layAt 25 = .ok (.bastore, 1) := by decide +kernel
theorem dMo_layAt_26 : decode cMo_layAt 26 = .ok (.iconst 1, 1) := by decide +kernel
theorem dMo_layAt_27 : decode cMo_layAt 27 = .ok (.istore_n 3, 1) := by decide +kernel
theorem dMo_layAt_28 : decode cMo_layAt 28 = .ok (.iload_n 3, 1) := by decide +kernel
theorem dMo_layAt_29 : decode cMo_layAt 29 = .ok (.aload_n 0, 1) := by decide +kernel
theorem dMo_layAt_30 : decode cMo_layAt 30 = .ok (.iload_n 1, 1) := by decide +kernel
theorem dMo_layAt_31 : decode cMo_layAt 31 = .ok (.invokevirtual 141, 3) := by decide +kernel
theorem dMo_layAt_34 : decode cMo_layAt 34 = .ok (.if_icmp .ge 71, 3) := by decide +kernel
theorem dMo_layAt_37 : decode cMo_layAt 37 = .ok (.iconst 1, 1) := by decide +kernel
theorem dMo_layAt_38 : decode cMo_layAt 38 = .ok (.istore 4, 2) := by decide +kernel
theorem dMo_layAt_40 : decode cMo_layAt 40 = .ok (.iconst 0, 1) := by decide +kernel
theorem dMo_layAt_41 : decode cMo_layAt 41 = .ok (.istore 5, 2) := by decide +kernel
theorem dMo_layAt_43 : decode cMo_layAt 43 = .ok (.iload 5, 2) := by decide +kernel
theorem dMo_layAt_45 : decode cMo_layAt 45 = .ok (.bipush 20, 2) := by decide +kernel
theorem dMo_layAt_47 : decode cMo_layAt 47 = .ok (.if_icmp .ge 30, 3) := by decide +kernel
theorem dMo_layAt_50 : decode cMo_layAt 50 = .ok (.iconst 2, 1) := by decide +kernel
theorem dMo_layAt_51 : decode cMo_layAt 51 = .ok (.iload 4, 2) := by decide +kernel
theorem dMo_layAt_53 : decode cMo_layAt 53 = .ok (.imul, 1) := by decide +kernel
theorem dMo_layAt_54 : decode cMo_layAt 54 = .ok (.aload_n 0, 1) := by decide +kernel
theorem dMo_layAt_55 : decode cMo_layAt 55 = .ok (.iload_n 1, 1) := by decide +kernel
theorem dMo_layAt_56 : decode cMo_layAt 56 = .ok (.bipush 20, 2) := by decide +kernel
theorem dMo_layAt_58 : decode cMo_layAt 58 = .ok (.iload_n 3, 1) := by decide +kernel
theorem dMo_layAt_59 : decode cMo_layAt 59 = .ok (.iconst 1, 1) := by decide +kernel
theorem dMo_layAt_60 : decode cMo_layAt 60 = .ok (.isub, 1) := by decide +kernel
theorem dMo_layAt_61 : decode cMo_layAt 61 = .ok (.imul, 1) := by decide +kernel
theorem dMo_layAt_62 : decode cMo_layAt 62 = .ok (.iload 5, 2) := by decide +kernel
theorem dMo_layAt_64 : decode cMo_layAt 64 = .ok (.iadd, 1) := by decide +kernel
theorem dMo_layAt_65 : decode cMo_layAt 65 = .ok (.invokevirtual 144, 3) := by decide +kernel
theorem dMo_layAt_68 : decode cMo_layAt 68 = .ok (.iadd, 1) := by decide +kernel
theorem dMo_layAt_69 : decode cMo_layAt 69 = .ok (.istore 4, 2) := by decide +kernel
theorem dMo_layAt_71 : decode cMo_layAt 71 = .ok (.iinc 5 1, 3) := by decide +kernel
theorem dMo_layAt_74 : decode cMo_layAt 74 = .ok (.goto (-31), 3) := by decide +kernel
theorem dMo_layAt_77 : decode cMo_layAt 77 = .ok (.aload_n 0, 1) := by decide +kernel
theorem dMo_layAt_78 : decode cMo_layAt 78 = .ok (.getfield 41, 3) := by decide +kernel
theorem dMo_layAt_81 : decode cMo_layAt 81 = .ok (.iload_n 2, 1) := by decide +kernel
theorem dMo_layAt_82 : decode cMo_layAt 82 = .ok (.iload_n 3, 1) := by decide +kernel
theorem dMo_layAt_83 : decode cMo_layAt 83 = .ok (.iadd, 1) := by decide +kernel
theorem dMo_layAt_84 : decode cMo_layAt 84 = .ok (.iload 4, 2) := by decide +kernel
theorem dMo_layAt_86 : decode cMo_layAt 86 = .ok (.invokestatic 95, 3) := by decide +kernel
theorem dMo_layAt_89 : decode cMo_layAt 89 = .ok (.iastore, 1) := by decide +kernel
theorem dMo_layAt_90 : decode cMo_layAt 90 = .ok (.aload_n 0, 1) := by decide +kernel
theorem dMo_layAt_91 : decode cMo_layAt 91 = .ok (.getfield 44, 3) := by decide +kernel
theorem dMo_layAt_94 : decode cMo_layAt 94 = .ok (.iload_n 2, 1) := by decide +kernel
theorem dMo_layAt_95 : decode cMo_layAt 95 = .ok (.iload_n 3, 1) := by decide +kernel
theorem dMo_layAt_96 : decode cMo_layAt 96 = .ok (.iadd, 1) := by decide +kernel
theorem dMo_layAt_97 : decode cMo_layAt 97 = .ok (.iconst 1, 1) := by decide +kernel
theorem dMo_layAt_98 : decode cMo_layAt 98 = .ok (.bastore, 1) := by decide +kernel
theorem dMo_layAt_99 : decode cMo_layAt 99 = .ok (.iinc 3 1, 3) := by decide +kernel
theorem dMo_layAt_102 : decode cMo_layAt 102 = .ok (.goto (-74), 3) := by decide +kernel
theorem dMo_layAt_105 : decode cMo_layAt 105 = .ok (.return_, 1) := by decide +kernel
theorem dMo_listensTo_0 : decode cMo_listensTo 0 = .ok (.iconst 0, 1) := by decide +kernel
theorem dMo_listensTo_1 : decode cMo_listensTo 1 = .ok (.istore_n 3, 1) := by decide +kernel
theorem dMo_listensTo_2 : decode cMo_listensTo 2 = .ok (.iconst 4, 1) := by decide +kernel
theorem dMo_listensTo_3 : decode cMo_listensTo 3 = .ok (.iload_n 1, 1) := by decide +kernel
theorem dMo_listensTo_4 : decode cMo_listensTo 4 = .ok (.imul, 1) := by decide +kernel
theorem dMo_listensTo_5 : decode cMo_listensTo 5 = .ok (.istore 4, 2) := by decide +kernel
theorem dMo_listensTo_7 : decode cMo_listensTo 7 = .ok (.iload 4, 2) := by decide +kernel
theorem dMo_listensTo_9 : decode cMo_listensTo 9 = .ok (.iconst 4, 1) := by decide +kernel
theorem dMo_listensTo_10 : decode cMo_listensTo 10 = .ok (.iload_n 1, 1) := by decide +kernel
theorem dMo_listensTo_11 : decode cMo_listensTo 11 = .ok (.imul, 1) := by decide +kernel
theorem dMo_listensTo_12 : decode cMo_listensTo 12 = .ok (.aload_n 0, 1) := by decide +kernel
theorem dMo_listensTo_13 : decode cMo_listensTo 13 = .ok (.getfield 53, 3) := by decide +kernel
theorem dMo_listensTo_16 : decode cMo_listensTo 16 = .ok (.iload_n 1, 1) := by decide +kernel
theorem dMo_listensTo_17 : decode cMo_listensTo 17 = .ok (.iaload, 1) := by decide +kernel
theorem dMo_listensTo_18 : decode cMo_listensTo 18 = .ok (.iadd, 1) := by decide +kernel
theorem dMo_listensTo_19 : decode cMo_listensTo 19 = .ok (.if_icmp .ge 30, 3) := by decide +kernel
theorem dMo_listensTo_22 : decode cMo_listensTo 22 = .ok (.iload_n 3, 1) := by decide +kernel
theorem dMo_listensTo_23 : decode cMo_listensTo 23 = .ok (.ifCond .ne 14, 3) := by decide +kernel
theorem dMo_listensTo_26 : decode cMo_listensTo 26 = .ok (.aload_n 0, 1) := by decide +kernel
theorem dMo_listensTo_27 : decode cMo_listensTo 27 = .ok (.getfield 50, 3) := by decide +kernel
theorem dMo_listensTo_30 : decode cMo_listensTo 30 = .ok (.iload 4, 2) := by decide +kernel
theorem dMo_listensTo_32 : decode cMo_listensTo 32 = .ok (.iaload, 1) := by decide +kernel
theorem dMo_listensTo_33 : decode cMo_listensTo 33 = .ok (.iload_n 2, 1) := by decide +kernel
theorem dMo_listensTo_34 : decode cMo_listensTo 34 = .ok (.if_icmp .ne 7, 3) := by decide +kernel
theorem dMo_listensTo_37 : decode cMo_listensTo 37 = .ok (.iconst 1, 1) := by decide +kernel
theorem dMo_listensTo_38 : decode cMo_listensTo 38 = .ok (.goto 4, 3) := by decide +kernel
theorem dMo_listensTo_41 : decode cMo_listensTo 41 = .ok (.iconst 0, 1) := by decide +kernel
theorem dMo_listensTo_42 : decode cMo_listensTo 42 = .ok (.istore_n 3, 1) := by decide +kernel
theorem dMo_listensTo_43 : decode cMo_listensTo 43 = .ok (.iinc 4 1, 3) := by decide +kernel
theorem dMo_listensTo_46 : decode cMo_listensTo 46 = .ok (.goto (-39), 3) := by decide +kernel
theorem dMo_listensTo_49 : decode cMo_listensTo 49 = .ok (.iload_n 3, 1) := by decide +kernel
theorem dMo_listensTo_50 : decode cMo_listensTo 50 = .ok (.ireturn, 1) := by decide +kernel
theorem dMo_load_0 : decode cMo_load 0 = .ok (.iload_n 3, 1) := by decide +kernel
theorem dMo_load_1 : decode cMo_load 1 = .ok (.iconst 1, 1) := by decide +kernel
theorem dMo_load_2 : decode cMo_load 2 = .ok (.if_icmp .lt 20, 3) := by decide +kernel
theorem dMo_load_5 : decode cMo_load 5 = .ok (.iload_n 3, 1) := by decide +kernel
theorem dMo_load_6 : decode cMo_load 6 = .ok (.bipush 8, 2) := by decide +kernel
theorem dMo_load_8 : decode cMo_load 8 = .ok (.if_icmp .gt 14, 3) := by decide +kernel
theorem dMo_load_11 : decode cMo_load 11 = .ok (.aload_n 0, 1) := by decide +kernel
theorem dMo_load_12 : decode cMo_load 12 = .ok (.getfield 120, 3) := by decide +kernel
theorem dMo_load_15 : decode cMo_load 15 = .ok (.iload_n 3, 1) := by decide +kernel
theorem dMo_load_16 : decode cMo_load 16 = .ok (.iadd, 1) := by decide +kernel
theorem dMo_load_17 : decode cMo_load 17 = .ok (.bipush 20, 2) := by decide +kernel
theorem dMo_load_19 : decode cMo_load 19 = .ok (.if_icmp .le 5, 3) := by decide +kernel
theorem dMo_load_22 : decode cMo_load 22 = .ok (.iconst (-1), 1) := by decide +kernel
theorem dMo_load_23 : decode cMo_load 23 = .ok (.ireturn, 1) := by decide +kernel
theorem dMo_load_24 : decode cMo_load 24 = .ok (.iconst 0, 1) := by decide +kernel
theorem dMo_load_25 : decode cMo_load 25 = .ok (.istore 4, 2) := by decide +kernel
theorem dMo_load_27 : decode cMo_load 27 = .ok (.iload 4, 2) := by decide +kernel
theorem dMo_load_29 : decode cMo_load 29 = .ok (.iload_n 3, 1) := by decide +kernel
theorem dMo_load_30 : decode cMo_load 30 = .ok (.if_icmp .ge 29, 3) := by decide +kernel
theorem dMo_load_33 : decode cMo_load 33 = .ok (.lload_n 1, 1) := by decide +kernel
theorem dMo_load_34 : decode cMo_load 34 = .ok (.bipush 8, 2) := by decide +kernel
theorem dMo_load_36 : decode cMo_load 36 = .ok (.iload 4, 2) := by decide +kernel
theorem dMo_load_38 : decode cMo_load 38 = .ok (.imul, 1) := by decide +kernel
theorem dMo_load_39 : decode cMo_load 39 = .ok (.lshr, 1) := by decide +kernel
theorem dMo_load_40 : decode cMo_load 40 = .ok (.ldc2_w 123, 3) := by decide +kernel
theorem dMo_load_43 : decode cMo_load 43 = .ok (.land, 1) := by decide +kernel
theorem dMo_load_44 : decode cMo_load 44 = .ok (.ldc2_w 125, 3) := by decide +kernel
theorem dMo_load_47 : decode cMo_load 47 = .ok (.lcmp, 1) := by decide +kernel
theorem dMo_load_48 : decode cMo_load 48 = .ok (.ifCond .le 5, 3) := by decide +kernel
theorem dMo_load_51 : decode cMo_load 51 = .ok (.iconst (-1), 1) := by decide +kernel
theorem dMo_load_52 : decode cMo_load 52 = .ok (.ireturn, 1) := by decide +kernel
theorem dMo_load_53 : decode cMo_load 53 = .ok (.iinc 4 1, 3) := by decide +kernel
theorem dMo_load_56 : decode cMo_load 56 = .ok (.goto (-29), 3) := by decide +kernel
theorem dMo_load_59 : decode cMo_load 59 = .ok (.iload_n 3, 1) := by decide +kernel
theorem dMo_load_60 : decode cMo_load 60 = .ok (.iconst 1, 1) := by decide +kernel
theorem dMo_load_61 : decode cMo_load 61 = .ok (.isub, 1) := by decide +kernel
theorem dMo_load_62 : decode cMo_load 62 = .ok (.istore 4, 2) := by decide +kernel
theorem dMo_load_64 : decode cMo_load 64 = .ok (.iload 4, 2) := by decide +kernel
theorem dMo_load_66 : decode cMo_load 66 = .ok (.ifCond .lt 40, 3) := by decide +kernel
theorem dMo_load_69 : decode cMo_load 69 = .ok (.aload_n 0, 1) := by decide +kernel
theorem dMo_load_70 : decode cMo_load 70 = .ok (.getfield 38, 3) := by decide +kernel
theorem dMo_load_73 : decode cMo_load 73 = .ok (.aload_n 0, 1) := by decide +kernel
theorem dMo_load_74 : decode cMo_load 74 = .ok (.getfield 120, 3) := by decide +kernel
theorem dMo_load_77 : decode cMo_load 77 = .ok (.lload_n 1, 1) := by decide +kernel
theorem dMo_load_78 : decode cMo_load 78 = .ok (.bipush 8, 2) := by decide +kernel
theorem dMo_load_80 : decode cMo_load 80 = .ok (.iload 4, 2) := by decide +kernel
theorem dMo_load_82 : decode cMo_load 82 = .ok (.imul, 1) := by decide +kernel
theorem dMo_load_83 : decode cMo_load 83 = .ok (.lshr, 1) := by decide +kernel
theorem dMo_load_84 : decode cMo_load 84 = .ok (.ldc2_w 123, 3) := by decide +kernel
theorem dMo_load_87 : decode cMo_load 87 = .ok (.land, 1) := by decide +kernel
theorem dMo_load_88 : decode cMo_load 88 = .ok (.l2i, 1) := by decide +kernel
theorem dMo_load_89 : decode cMo_load 89 = .ok (.iastore, 1) := by decide +kernel
theorem dMo_load_90 : decode cMo_load 90 = .ok (.aload_n 0, 1) := by decide +kernel
theorem dMo_load_91 : decode cMo_load 91 = .ok (.dup, 1) := by decide +kernel
theorem dMo_load_92 : decode cMo_load 92 = .ok (.getfield 120, 3) := by decide +kernel
theorem dMo_load_95 : decode cMo_load 95 = .ok (.iconst 1, 1) := by decide +kernel
theorem dMo_load_96 : decode cMo_load 96 = .ok (.iadd, 1) := by decide +kernel
theorem dMo_load_97 : decode cMo_load 97 = .ok (.putfield 120, 3) := by decide +kernel
theorem dMo_load_100 : decode cMo_load 100 = .ok (.iinc 4 (-1), 3) := by decide +kernel
theorem dMo_load_103 : decode cMo_load 103 = .ok (.goto (-39), 3) := by decide +kernel
theorem dMo_load_106 : decode cMo_load 106 = .ok (.aload_n 0, 1) := by decide +kernel
theorem dMo_load_107 : decode cMo_load 107 = .ok (.getfield 120, 3) := by decide +kernel
theorem dMo_load_110 : decode cMo_load 110 = .ok (.ireturn, 1) := by decide +kernel
theorem dMo_look_0 : decode cMo_look 0 = .ok (.aload_n 0, 1) := by decide +kernel
theorem dMo_look_1 : decode cMo_look 1 = .ok (.iload_n 1, 1) := by decide +kernel
theorem dMo_look_2 : decode cMo_look 2 = .ok (.invokevirtual 198, 3) := by decide +kernel
theorem dMo_look_5 : decode cMo_look 5 = .ok (.istore_n 3, 1) := by decide +kernel
theorem dMo_look_6 : decode cMo_look 6 = .ok (.iload_n 3, 1) := by decide +kernel
theorem dMo_look_7 : decode cMo_look 7 = .ok (.ifCond .ge 26, 3) := by decide +kernel
theorem dMo_look_10 : decode cMo_look 10 = .ok (.aload_n 0, 1) := by decide +kernel
theorem dMo_look_11 : decode cMo_look 11 = .ok (.getfield 81, 3) := by decide +kernel
theorem dMo_look_14 : decode cMo_look 14 = .ok (.iconst 4, 1) := by decide +kernel
theorem dMo_look_15 : decode cMo_look 15 = .ok (.aload_n 0, 1) := by decide +kernel
theorem dMo_look_16 : decode cMo_look 16 = .ok (.getfield 178, 3) := by decide +kernel
theorem dMo_look_19 : decode cMo_look 19 = .ok (.imul, 1) := by decide +kernel
theorem dMo_look_20 : decode cMo_look 20 = .ok (.iconst 2, 1) := by decide +kernel
theorem dMo_look_21 : decode cMo_look 21 = .ok (.iadd, 1) := by decide +kernel
theorem dMo_look_22 : decode cMo_look 22 = .ok (.dup2, 1) := by decide +kernel
theorem dMo_look_23 : decode cMo_look 23 = .ok (.iaload, 1) := by decide +kernel
theorem dMo_look_24 : decode cMo_look 24 = .ok (.iconst 1, 1) := by decide +kernel
theorem dMo_look_25 : decode cMo_look 25 = .ok (.iadd, 1) := by decide +kernel
theorem dMo_look_26 : decode cMo_look 26 = .ok (.iastore, 1) := by decide +kernel
theorem dMo_look_27 : decode cMo_look 27 = .ok (.aload_n 0, 1) := by decide +kernel
theorem dMo_look_28 : decode cMo_look 28 = .ok (.iconst 1, 1) := by decide +kernel
theorem dMo_look_29 : decode cMo_look 29 = .ok (.invokevirtual 201, 3) := by decide +kernel
theorem dMo_look_32 : decode cMo_look 32 = .ok (.return_, 1) := by decide +kernel
theorem dMo_look_33 : decode cMo_look 33 = .ok (.aload_n 0, 1) := by decide +kernel
theorem dMo_look_34 : decode cMo_look 34 = .ok (.getfield 81, 3) := by decide +kernel
theorem dMo_look_37 : decode cMo_look 37 = .ok (.iconst 4, 1) := by decide +kernel
theorem dMo_look_38 : decode cMo_look 38 = .ok (.aload_n 0, 1) := by decide +kernel
theorem dMo_look_39 : decode cMo_look 39 = .ok (.getfield 178, 3) := by decide +kernel
theorem dMo_look_42 : decode cMo_look 42 = .ok (.imul, 1) := by decide +kernel
theorem dMo_look_43 : decode cMo_look 43 = .ok (.iconst 1, 1) := by decide +kernel
theorem dMo_look_44 : decode cMo_look 44 = .ok (.iadd, 1) := by decide +kernel
theorem dMo_look_45 : decode cMo_look 45 = .ok (.aload_n 0, 1) := by decide +kernel
theorem dMo_look_46 : decode cMo_look 46 = .ok (.getfield 81, 3) := by decide +kernel
theorem dMo_look_49 : decode cMo_look 49 = .ok (.iconst 4, 1) := by decide +kernel
theorem dMo_look_50 : decode cMo_look 50 = .ok (.aload_n 0, 1) := by decide +kernel
theorem dMo_look_51 : decode cMo_look 51 = .ok (.getfield 178, 3) := by decide +kernel
theorem dMo_look_54 : decode cMo_look 54 = .ok (.imul, 1) := by decide +kernel
theorem dMo_look_55 : decode cMo_look 55 = .ok (.iconst 1, 1) := by decide +kernel
theorem dMo_look_56 : decode cMo_look 56 = .ok (.iadd, 1) := by decide +kernel
theorem dMo_look_57 : decode cMo_look 57 = .ok (.iaload, 1) := by decide +kernel
theorem dMo_look_58 : decode cMo_look 58 = .ok (.iload_n 3, 1) := by decide +kernel
theorem dMo_look_59 : decode cMo_look 59 = .ok (.invokestatic 95, 3) := by decide +kernel
theorem dMo_look_62 : decode cMo_look 62 = .ok (.iload_n 1, 1) := by decide +kernel
theorem dMo_look_63 : decode cMo_look 63 = .ok (.ixor, 1) := by decide +kernel
theorem dMo_look_64 : decode cMo_look 64 = .ok (.invokestatic 172, 3) := by decide +kernel
theorem dMo_look_67 : decode cMo_look 67 = .ok (.iadd, 1) := by decide +kernel
theorem dMo_look_68 : decode cMo_look 68 = .ok (.iastore, 1) := by decide +kernel
theorem dMo_look_69 : decode cMo_look 69 = .ok (.aload_n 0, 1) := by decide +kernel
theorem dMo_look_70 : decode cMo_look 70 = .ok (.getfield 84, 3) := by decide +kernel
theorem dMo_look_73 : decode cMo_look 73 = .ok (.ifCond .lt 15, 3) := by decide +kernel
theorem dMo_look_76 : decode cMo_look 76 = .ok (.iload_n 3, 1) := by decide +kernel
theorem dMo_look_77 : decode cMo_look 77 = .ok (.ldc 205, 2) := by decide +kernel
theorem dMo_look_79 : decode cMo_look 79 = .ok (.if_icmp .lt 9, 3) := by decide +kernel
theorem dMo_look_82 : decode cMo_look 82 = .ok (.aload_n 0, 1) := by decide +kernel
theorem dMo_look_83 : decode cMo_look 83 = .ok (.iload_n 3, 1) := by decide +kernel
theorem dMo_look_84 : decode cMo_look 84 = .ok (.invokevirtual 206, 3) := by decide +kernel
theorem dMo_look_87 : decode cMo_look 87 = .ok (.return_, 1) := by decide +kernel
theorem dMo_look_88 : decode cMo_look 88 = .ok (.aload_n 0, 1) := by decide +kernel
theorem dMo_look_89 : decode cMo_look 89 = .ok (.iconst 0, 1) := by decide +kernel
theorem dMo_look_90 : decode cMo_look 90 = .ok (.invokevirtual 201, 3) := by decide +kernel
theorem dMo_look_93 : decode cMo_look 93 = .ok (.aload_n 0, 1) := by decide +kernel
theorem dMo_look_94 : decode cMo_look 94 = .ok (.aload_n 0, 1) := by decide +kernel
theorem dMo_look_95 : decode cMo_look 95 = .ok (.iload_n 3, 1) := by decide +kernel
theorem dMo_look_96 : decode cMo_look 96 = .ok (.iload_n 2, 1) := by decide +kernel
theorem dMo_look_97 : decode cMo_look 97 = .ok (.invokevirtual 209, 3) := by decide +kernel
theorem dMo_look_100 : decode cMo_look 100 = .ok (.putfield 84, 3) := by decide +kernel
theorem dMo_look_103 : decode cMo_look 103 = .ok (.aload_n 0, 1) := by decide +kernel
theorem dMo_look_104 : decode cMo_look 104 = .ok (.iconst 0, 1) := by decide +kernel
theorem dMo_look_105 : decode cMo_look 105 = .ok (.putfield 183, 3) := by decide +kernel
theorem dMo_look_108 : decode cMo_look 108 = .ok (.return_, 1) := by decide +kernel
theorem dMo_message_0 : decode cMo_message 0 = .ok (.aload_n 0, 1) := by decide +kernel
theorem dMo_message_1 : decode cMo_message 1 = .ok (.iload_n 1, 1) := by decide +kernel
theorem dMo_message_2 : decode cMo_message 2 = .ok (.iload_n 2, 1) := by decide +kernel
theorem dMo_message_3 : decode cMo_message 3 = .ok (.invokevirtual 224, 3) := by decide +kernel
theorem dMo_message_6 : decode cMo_message 6 = .ok (.ifCond .eq 12, 3) := by decide +kernel
theorem dMo_message_9 : decode cMo_message 9 = .ok (.iload_n 3, 1) := by decide +kernel
theorem dMo_message_10 : decode cMo_message 10 = .ok (.ifCond .lt 8, 3) := by decide +kernel
theorem dMo_message_13 : decode cMo_message 13 = .ok (.iload_n 3, 1) := by decide +kernel
theorem dMo_message_14 : decode cMo_message 14 = .ok (.iconst 3, 1) := by decide +kernel
theorem dMo_message_15 : decode cMo_message 15 = .ok (.if_icmp .le 5, 3) := by decide +kernel
theorem dMo_message_18 : decode cMo_message 18 = .ok (.iconst (-1), 1) := by decide +kernel
theorem dMo_message_19 : decode cMo_message 19 = .ok (.ireturn, 1) := by decide +kernel
theorem dMo_message_20 : decode cMo_message 20 = .ok (.bipush 10, 2) := by decide +kernel
theorem dMo_message_22 : decode cMo_message 22 = .ok (.iload_n 1, 1) := by decide +kernel
theorem dMo_message_23 : decode cMo_message 23 = .ok (.imul, 1) := by decide +kernel
theorem dMo_message_24 : decode cMo_message 24 = .ok (.iload_n 2, 1) := by decide +kernel
theorem dMo_message_25 : decode cMo_message 25 = .ok (.iadd, 1) := by decide +kernel
theorem dMo_message_26 : decode cMo_message 26 = .ok (.istore 4, 2) := by decide +kernel
theorem dMo_message_28 : decode cMo_message 28 = .ok (.iload_n 3, 1) := by decide +kernel
theorem dMo_message_29 : decode cMo_message 29 = .ok (.ifCond .ne 13, 3) := by decide +kernel
theorem dMo_message_32 : decode cMo_message 32 = .ok (.aload_n 0, 1) := by decide +kernel
theorem dMo_message_33 : decode cMo_message 33 = .ok (.getfield 59, 3) := by decide +kernel
theorem dMo_message_36 : decode cMo_message 36 = .ok (.iload 4, 2) := by decide +kernel
theorem dMo_message_38 : decode cMo_message 38 = .ok (.iaload, 1) := by decide +kernel
theorem dMo_message_39 : decode cMo_message 39 = .ok (.goto 48, 3) := by decide +kernel
theorem dMo_message_42 : decode cMo_message 42 = .ok (.iload_n 3, 1) := by decide +kernel
theorem dMo_message_43 : decode cMo_message 43 = .ok (.iconst 1, 1) := by decide +kernel
theorem dMo_message_44 : decode cMo_message 44 = .ok (.if_icmp .ne 13, 3) := by decide +kernel
theorem dMo_message_47 : decode cMo_message 47 = .ok (.aload_n 0, 1) := by decide +kernel
theorem dMo_message_48 : decode cMo_message 48 = .ok (.getfield 62, 3) := by decide +kernel
theorem dMo_message_51 : decode cMo_message 51 = .ok (.iload 4, 2) := by decide +kernel
theorem dMo_message_53 : decode cMo_message 53 = .ok (.iaload, 1) := by decide +kernel
theorem dMo_message_54 : decode cMo_message 54 = .ok (.goto 33, 3) := by decide +kernel
theorem dMo_message_57 : decode cMo_message 57 = .ok (.iload_n 3, 1) := by decide +kernel
theorem dMo_message_58 : decode cMo_message 58 = .ok (.iconst 2, 1) := by decide +kernel
theorem dMo_message_59 : decode cMo_message 59 = .ok (.if_icmp .ne 13, 3) := by decide +kernel
theorem dMo_message_62 : decode cMo_message 62 = .ok (.aload_n 0, 1) := by decide +kernel
theorem dMo_message_63 : decode cMo_message 63 = .ok (.getfield 65, 3) := by decide +kernel
theorem dMo_message_66 : decode cMo_message 66 = .ok (.iload 4, 2) := by decide +kernel
theorem dMo_message_68 : decode cMo_message 68 = .ok (.iaload, 1) := by decide +kernel
theorem dMo_message_69 : decode cMo_message 69 = .ok (.goto 18, 3) := by decide +kernel
theorem dMo_message_72 : decode cMo_message 72 = .ok (.aload_n 0, 1) := by decide +kernel
theorem dMo_message_73 : decode cMo_message 73 = .ok (.getfield 68, 3) := by decide +kernel
theorem dMo_message_76 : decode cMo_message 76 = .ok (.iload 4, 2) := by decide +kernel
theorem dMo_message_78 : decode cMo_message 78 = .ok (.baload, 1) := by decide +kernel
theorem dMo_message_79 : decode cMo_message 79 = .ok (.ifCond .eq 7, 3) := by decide +kernel
theorem dMo_message_82 : decode cMo_message 82 = .ok (.iconst 1, 1) := by decide +kernel
theorem dMo_message_83 : decode cMo_message 83 = .ok (.goto 4, 3) := by decide +kernel
theorem dMo_message_86 : decode cMo_message 86 = .ok (.iconst 0, 1) := by decide +kernel
theorem dMo_message_87 : decode cMo_message 87 = .ok (.ireturn, 1) := by decide +kernel
theorem dMo_missed_0 : decode cMo_missed 0 = .ok (.aload_n 0, 1) := by decide +kernel
theorem dMo_missed_1 : decode cMo_missed 1 = .ok (.iload_n 1, 1) := by decide +kernel
theorem dMo_missed_2 : decode cMo_missed 2 = .ok (.invokevirtual 110, 3) := by decide +kernel
theorem dMo_missed_5 : decode cMo_missed 5 = .ok (.ifCond .eq 34, 3) := by decide +kernel
theorem dMo_missed_8 : decode cMo_missed 8 = .ok (.aload_n 0, 1) := by decide +kernel
theorem dMo_missed_9 : decode cMo_missed 9 = .ok (.iload_n 2, 1) := by decide +kernel
theorem dMo_missed_10 : decode cMo_missed 10 = .ok (.invokevirtual 113, 3) := by decide +kernel
theorem dMo_missed_13 : decode cMo_missed 13 = .ok (.ifCond .eq 26, 3) := by decide +kernel
theorem dMo_missed_16 : decode cMo_missed 16 = .ok (.aload_n 0, 1) := by decide +kernel
theorem dMo_missed_17 : decode cMo_missed 17 = .ok (.iload_n 1, 1) := by decide +kernel
theorem dMo_missed_18 : decode cMo_missed 18 = .ok (.iload_n 2, 1) := by decide +kernel
theorem dMo_missed_19 : decode cMo_missed 19 = .ok (.invokevirtual 116, 3) := by decide +kernel
theorem dMo_missed_22 : decode cMo_missed 22 = .ok (.ifCond .eq 17, 3) := by decide +kernel
theorem dMo_missed_25 : decode cMo_missed 25 = .ok (.aload_n 0, 1) := by decide +kernel
theorem dMo_missed_26 : decode cMo_missed 26 = .ok (.getfield 74, 3) := by decide +kernel
theorem dMo_missed_29 : decode cMo_missed 29 = .ok (.bipush 12, 2) := by decide +kernel
theorem dMo_missed_31 : decode cMo_missed 31 = .ok (.iload_n 1, 1) := by decide +kernel
theorem dMo_missed_32 : decode cMo_missed 32 = .ok (.imul, 1) := by decide +kernel
theorem dMo_missed_33 : decode cMo_missed 33 = .ok (.iload_n 2, 1) := by decide +kernel
theorem dMo_missed_34 : decode cMo_missed 34 = .ok (.iadd, 1) := by decide +kernel
theorem dMo_missed_35 : decode cMo_missed 35 = .ok (.laload, 1) := by decide +kernel
theorem dMo_missed_36 : decode cMo_missed 36 = .ok (.goto 4, 3) := by decide +kernel
theorem dMo_missed_39 : decode cMo_missed 39 = .ok (.lconst 0, 1) := by decide +kernel
theorem dMo_missed_40 : decode cMo_missed 40 = .ok (.lreturn, 1) := by decide +kernel
theorem dMo_note_0 : decode cMo_note 0 = .ok (.bipush 12, 2) := by decide +kernel
theorem dMo_note_2 : decode cMo_note 2 = .ok (.aload_n 0, 1) := by decide +kernel
theorem dMo_note_3 : decode cMo_note 3 = .ok (.getfield 178, 3) := by decide +kernel
theorem dMo_note_6 : decode cMo_note 6 = .ok (.imul, 1) := by decide +kernel
theorem dMo_note_7 : decode cMo_note 7 = .ok (.aload_n 0, 1) := by decide +kernel
theorem dMo_note_8 : decode cMo_note 8 = .ok (.getfield 84, 3) := by decide +kernel
theorem dMo_note_11 : decode cMo_note 11 = .ok (.iadd, 1) := by decide +kernel
theorem dMo_note_12 : decode cMo_note 12 = .ok (.istore_n 2, 1) := by decide +kernel
theorem dMo_note_13 : decode cMo_note 13 = .ok (.aload_n 0, 1) := by decide +kernel
theorem dMo_note_14 : decode cMo_note 14 = .ok (.getfield 78, 3) := by decide +kernel
theorem dMo_note_17 : decode cMo_note 17 = .ok (.iload_n 2, 1) := by decide +kernel
theorem dMo_note_18 : decode cMo_note 18 = .ok (.iaload, 1) := by decide +kernel
theorem dMo_note_19 : decode cMo_note 19 = .ok (.ifCond .ge 7, 3) := by decide +kernel
theorem dMo_note_22 : decode cMo_note 22 = .ok (.iconst 0, 1) := by decide +kernel
theorem dMo_note_23 : decode cMo_note 23 = .ok (.goto 17, 3) := by decide +kernel
theorem dMo_note_26 : decode cMo_note 26 = .ok (.iload_n 1, 1) := by decide +kernel
theorem dMo_note_27 : decode cMo_note 27 = .ok (.aload_n 0, 1) := by decide +kernel
theorem dMo_note_28 : decode cMo_note 28 = .ok (.getfield 78, 3) := by decide +kernel
theorem dMo_note_31 : decode cMo_note 31 = .ok (.iload_n 2, 1) := by decide +kernel
theorem dMo_note_32 : decode cMo_note 32 = .ok (.iaload, 1) := by decide +kernel
theorem dMo_note_33 : decode cMo_note 33 = .ok (.isub, 1) := by decide +kernel
theorem dMo_note_34 : decode cMo_note 34 = .ok (.bipush 64, 2) := by decide +kernel
theorem dMo_note_36 : decode cMo_note 36 = .ok (.iadd, 1) := by decide +kernel
theorem dMo_note_37 : decode cMo_note 37 = .ok (.bipush 64, 2) := by decide +kernel
theorem dMo_note_39 : decode cMo_note 39 = .ok (.irem, 1) := by decide +kernel
theorem dMo_note_40 : decode cMo_note 40 = .ok (.istore_n 3, 1) := by decide +kernel
theorem dMo_note_41 : decode cMo_note 41 = .ok (.iload_n 3, 1) := by decide +kernel
theorem dMo_note_42 : decode cMo_note 42 = .ok (.ifCond .le 51, 3) := by decide +kernel
theorem dMo_note_45 : decode cMo_note 45 = .ok (.iload_n 3, 1) := by decide +kernel
theorem dMo_note_46 : decode cMo_note 46 = .ok (.bipush 32, 2) := by decide +kernel
theorem dMo_note_48 : decode cMo_note 48 = .ok (.if_icmp .ge 45, 3) := by decide +kernel
theorem dMo_note_51 : decode cMo_note 51 = .ok (.iconst 1, 1) := by decide +kernel
theorem dMo_note_52 : decode cMo_note 52 = .ok (.istore 4, 2) := by decide +kernel
theorem dMo_note_54 : decode cMo_note 54 = .ok (.iload 4, 2) := by decide +kernel
theorem dMo_note_56 : decode cMo_note 56 = .ok (.iload_n 3, 1) := by decide +kernel
theorem dMo_note_57 : decode cMo_note 57 = .ok (.if_icmp .ge 36, 3) := by decide +kernel
theorem dMo_note_60 : decode cMo_note 60 = .ok (.aload_n 0, 1) := by decide +kernel
theorem dMo_note_61 : decode cMo_note 61 = .ok (.getfield 74, 3) := by decide +kernel
theorem dMo_note_64 : decode cMo_note 64 = .ok (.iload_n 2, 1) := by decide +kernel
theorem dMo_note_65 : decode cMo_note 65 = .ok (.aload_n 0, 1) := by decide +kernel
theorem dMo_note_66 : decode cMo_note 66 = .ok (.getfield 74, 3) := by decide +kernel
theorem dMo_note_69 : decode cMo_note 69 = .ok (.iload_n 2, 1) := by decide +kernel
theorem dMo_note_70 : decode cMo_note 70 = .ok (.laload, 1) := by decide +kernel
theorem dMo_note_71 : decode cMo_note 71 = .ok (.lconst 1, 1) := by decide +kernel
theorem dMo_note_72 : decode cMo_note 72 = .ok (.aload_n 0, 1) := by decide +kernel
theorem dMo_note_73 : decode cMo_note 73 = .ok (.getfield 78, 3) := by decide +kernel
theorem dMo_note_76 : decode cMo_note 76 = .ok (.iload_n 2, 1) := by decide +kernel
theorem dMo_note_77 : decode cMo_note 77 = .ok (.iaload, 1) := by decide +kernel
theorem dMo_note_78 : decode cMo_note 78 = .ok (.iload 4, 2) := by decide +kernel
theorem dMo_note_80 : decode cMo_note 80 = .ok (.iadd, 1) := by decide +kernel
theorem dMo_note_81 : decode cMo_note 81 = .ok (.bipush 64, 2) := by decide +kernel
theorem dMo_note_83 : decode cMo_note 83 = .ok (.irem, 1) := by decide +kernel
theorem dMo_note_84 : decode cMo_note 84 = .ok (.lshl, 1) := by decide +kernel
theorem dMo_note_85 : decode cMo_note 85 = .ok (.lor, 1) := by decide +kernel
theorem dMo_note_86 : decode cMo_note 86 = .ok (.lastore, 1) := by decide +kernel
theorem dMo_note_87 : decode cMo_note 87 = .ok (.iinc 4 1, 3) := by decide +kernel
theorem dMo_note_90 : decode cMo_note 90 = .ok (.goto (-36), 3) := by decide +kernel
theorem dMo_note_93 : decode cMo_note 93 = .ok (.aload_n 0, 1) := by decide +kernel
theorem dMo_note_94 : decode cMo_note 94 = .ok (.getfield 78, 3) := by decide +kernel
theorem dMo_note_97 : decode cMo_note 97 = .ok (.iload_n 2, 1) := by decide +kernel
theorem dMo_note_98 : decode cMo_note 98 = .ok (.aload_n 0, 1) := by decide +kernel
theorem dMo_note_99 : decode cMo_note 99 = .ok (.getfield 78, 3) := by decide +kernel
theorem dMo_note_102 : decode cMo_note 102 = .ok (.iload_n 2, 1) := by decide +kernel
theorem dMo_note_103 : decode cMo_note 103 = .ok (.iaload, 1) := by decide +kernel
theorem dMo_note_104 : decode cMo_note 104 = .ok (.ifCond .lt 13, 3) := by decide +kernel
theorem dMo_note_107 : decode cMo_note 107 = .ok (.iload_n 3, 1) := by decide +kernel
theorem dMo_note_108 : decode cMo_note 108 = .ok (.ifCond .le 13, 3) := by decide +kernel
theorem dMo_note_111 : decode cMo_note 111 = .ok (.iload_n 3, 1) := by decide +kernel
theorem dMo_note_112 : decode cMo_note 112 = .ok (.bipush 32, 2) := by decide +kernel
theorem dMo_note_114 : decode cMo_note 114 = .ok (.if_icmp .ge 7, 3) := by decide +kernel
theorem dMo_note_117 : decode cMo_note 117 = .ok (.iload_n 1, 1) := by decide +kernel
theorem dMo_note_118 : decode cMo_note 118 = .ok (.goto 9, 3) := by decide +kernel
theorem dMo_note_121 : decode cMo_note 121 = .ok (.aload_n 0, 1) := by decide +kernel
theorem dMo_note_122 : decode cMo_note 122 = .ok (.getfield 78, 3) := by decide +kernel
theorem dMo_note_125 : decode cMo_note 125 = .ok (.iload_n 2, 1) := by decide +kernel
theorem dMo_note_126 : decode cMo_note 126 = .ok (.iaload, 1) := by decide +kernel
theorem dMo_note_127 : decode cMo_note 127 = .ok (.iastore, 1) := by decide +kernel
theorem dMo_note_128 : decode cMo_note 128 = .ok (.aload_n 0, 1) := by decide +kernel
theorem dMo_note_129 : decode cMo_note 129 = .ok (.getfield 74, 3) := by decide +kernel
theorem dMo_note_132 : decode cMo_note 132 = .ok (.iload_n 2, 1) := by decide +kernel
theorem dMo_note_133 : decode cMo_note 133 = .ok (.aload_n 0, 1) := by decide +kernel
theorem dMo_note_134 : decode cMo_note 134 = .ok (.getfield 74, 3) := by decide +kernel
theorem dMo_note_137 : decode cMo_note 137 = .ok (.iload_n 2, 1) := by decide +kernel
theorem dMo_note_138 : decode cMo_note 138 = .ok (.laload, 1) := by decide +kernel
theorem dMo_note_139 : decode cMo_note 139 = .ok (.lconst 1, 1) := by decide +kernel
theorem dMo_note_140 : decode cMo_note 140 = .ok (.iload_n 1, 1) := by decide +kernel
theorem dMo_note_141 : decode cMo_note 141 = .ok (.lshl, 1) := by decide +kernel
theorem dMo_note_142 : decode cMo_note 142 = .ok (.ldc2_w 181, 3) := by decide +kernel
theorem dMo_note_145 : decode cMo_note 145 = .ok (.lxor, 1) := by decide +kernel
theorem dMo_note_146 : decode cMo_note 146 = .ok (.land, 1) := by decide +kernel
theorem dMo_note_147 : decode cMo_note 147 = .ok (.lastore, 1) := by decide +kernel
theorem dMo_note_148 : decode cMo_note 148 = .ok (.return_, 1) := by decide +kernel
theorem dMo_numberOf_0 : decode cMo_numberOf 0 = .ok (.aload_n 0, 1) := by decide +kernel
theorem dMo_numberOf_1 : decode cMo_numberOf 1 = .ok (.getfield 13, 3) := by decide +kernel
theorem dMo_numberOf_4 : decode cMo_numberOf 4 = .ok (.aload_n 0, 1) := by decide +kernel
theorem dMo_numberOf_5 : decode cMo_numberOf 5 = .ok (.getfield 84, 3) := by decide +kernel
theorem dMo_numberOf_8 : decode cMo_numberOf 8 = .ok (.iaload, 1) := by decide +kernel
theorem dMo_numberOf_9 : decode cMo_numberOf 9 = .ok (.iconst 1, 1) := by decide +kernel
theorem dMo_numberOf_10 : decode cMo_numberOf 10 = .ok (.if_icmp .ne 40, 3) := by decide +kernel
theorem dMo_numberOf_13 : decode cMo_numberOf 13 = .ok (.iload_n 1, 1) := by decide +kernel
theorem dMo_numberOf_14 : decode cMo_numberOf 14 = .ok (.ifCond .le 34, 3) := by decide +kernel
theorem dMo_numberOf_17 : decode cMo_numberOf 17 = .ok (.aload_n 0, 1) := by decide +kernel
theorem dMo_numberOf_18 : decode cMo_numberOf 18 = .ok (.iconst 0, 1) := by decide +kernel
theorem dMo_numberOf_19 : decode cMo_numberOf 19 = .ok (.invokevirtual 175, 3) := by decide +kernel
theorem dMo_numberOf_22 : decode cMo_numberOf 22 = .ok (.bipush 32, 2) := by decide +kernel
theorem dMo_numberOf_24 : decode cMo_numberOf 24 = .ok (.if_icmp .lt 24, 3) := by decide +kernel
theorem dMo_numberOf_27 : decode cMo_numberOf 27 = .ok (.aload_n 0, 1) := by decide +kernel
theorem dMo_numberOf_28 : decode cMo_numberOf 28 = .ok (.iconst 0, 1) := by decide +kernel
theorem dMo_numberOf_29 : decode cMo_numberOf 29 = .ok (.invokevirtual 175, 3) := by decide +kernel
end
section
theorem dMo_numberOf_32 : decode cMo_numberOf 32 = .ok (.bipush 95, 2) := by decide +kernel
theorem dMo_numberOf_34 : decode cMo_numberOf 34 = .ok (.if_icmp .gt 14, 3) := by decide +kernel
theorem dMo_numberOf_37 : decode cMo_numberOf 37 = .ok (.aload_n 0, 1) := by decide +kernel
theorem dMo_numberOf_38 : decode cMo_numberOf 38 = .ok (.iconst 0, 1) := by decide +kernel
theorem dMo_numberOf_39 : decode cMo_numberOf 39 = .ok (.invokevirtual 175, 3) := by decide +kernel
theorem dMo_numberOf_42 : decode cMo_numberOf 42 = .ok (.bipush 32, 2) := by decide +kernel
theorem dMo_numberOf_44 : decode cMo_numberOf 44 = .ok (.isub, 1) := by decide +kernel
theorem dMo_numberOf_45 : decode cMo_numberOf 45 = .ok (.goto 4, 3) := by decide +kernel
theorem dMo_numberOf_48 : decode cMo_numberOf 48 = .ok (.iconst (-1), 1) := by decide +kernel
theorem dMo_numberOf_49 : decode cMo_numberOf 49 = .ok (.ireturn, 1) := by decide +kernel
theorem dMo_numberOf_50 : decode cMo_numberOf 50 = .ok (.iload_n 1, 1) := by decide +kernel
theorem dMo_numberOf_51 : decode cMo_numberOf 51 = .ok (.iconst 2, 1) := by decide +kernel
theorem dMo_numberOf_52 : decode cMo_numberOf 52 = .ok (.if_icmp .lt 23, 3) := by decide +kernel
theorem dMo_numberOf_55 : decode cMo_numberOf 55 = .ok (.aload_n 0, 1) := by decide +kernel
theorem dMo_numberOf_56 : decode cMo_numberOf 56 = .ok (.iconst 0, 1) := by decide +kernel
theorem dMo_numberOf_57 : decode cMo_numberOf 57 = .ok (.invokevirtual 175, 3) := by decide +kernel
theorem dMo_numberOf_60 : decode cMo_numberOf 60 = .ok (.bipush 9, 2) := by decide +kernel
theorem dMo_numberOf_62 : decode cMo_numberOf 62 = .ok (.if_icmp .gt 13, 3) := by decide +kernel
theorem dMo_numberOf_65 : decode cMo_numberOf 65 = .ok (.aload_n 0, 1) := by decide +kernel
theorem dMo_numberOf_66 : decode cMo_numberOf 66 = .ok (.iconst 1, 1) := by decide +kernel
theorem dMo_numberOf_67 : decode cMo_numberOf 67 = .ok (.invokevirtual 175, 3) := by decide +kernel
theorem dMo_numberOf_70 : decode cMo_numberOf 70 = .ok (.bipush 9, 2) := by decide +kernel
theorem dMo_numberOf_72 : decode cMo_numberOf 72 = .ok (.if_icmp .le 5, 3) := by decide +kernel
theorem dMo_numberOf_75 : decode cMo_numberOf 75 = .ok (.iconst (-1), 1) := by decide +kernel
theorem dMo_numberOf_76 : decode cMo_numberOf 76 = .ok (.ireturn, 1) := by decide +kernel
theorem dMo_numberOf_77 : decode cMo_numberOf 77 = .ok (.bipush 10, 2) := by decide +kernel
theorem dMo_numberOf_79 : decode cMo_numberOf 79 = .ok (.aload_n 0, 1) := by decide +kernel
theorem dMo_numberOf_80 : decode cMo_numberOf 80 = .ok (.iconst 0, 1) := by decide +kernel
theorem dMo_numberOf_81 : decode cMo_numberOf 81 = .ok (.invokevirtual 175, 3) := by decide +kernel
theorem dMo_numberOf_84 : decode cMo_numberOf 84 = .ok (.imul, 1) := by decide +kernel
theorem dMo_numberOf_85 : decode cMo_numberOf 85 = .ok (.aload_n 0, 1) := by decide +kernel
theorem dMo_numberOf_86 : decode cMo_numberOf 86 = .ok (.iconst 1, 1) := by decide +kernel
theorem dMo_numberOf_87 : decode cMo_numberOf 87 = .ok (.invokevirtual 175, 3) := by decide +kernel
theorem dMo_numberOf_90 : decode cMo_numberOf 90 = .ok (.iadd, 1) := by decide +kernel
theorem dMo_numberOf_91 : decode cMo_numberOf 91 = .ok (.istore_n 2, 1) := by decide +kernel
theorem dMo_numberOf_92 : decode cMo_numberOf 92 = .ok (.iload_n 2, 1) := by decide +kernel
theorem dMo_numberOf_93 : decode cMo_numberOf 93 = .ok (.bipush 63, 2) := by decide +kernel
theorem dMo_numberOf_95 : decode cMo_numberOf 95 = .ok (.if_icmp .le 7, 3) := by decide +kernel
theorem dMo_numberOf_98 : decode cMo_numberOf 98 = .ok (.iconst (-1), 1) := by decide +kernel
theorem dMo_numberOf_99 : decode cMo_numberOf 99 = .ok (.goto 4, 3) := by decide +kernel
theorem dMo_numberOf_102 : decode cMo_numberOf 102 = .ok (.iload_n 2, 1) := by decide +kernel
theorem dMo_numberOf_103 : decode cMo_numberOf 103 = .ok (.ireturn, 1) := by decide +kernel
theorem dMo_onesOf_0 : decode cMo_onesOf 0 = .ok (.iconst 0, 1) := by decide +kernel
theorem dMo_onesOf_1 : decode cMo_onesOf 1 = .ok (.istore_n 1, 1) := by decide +kernel
theorem dMo_onesOf_2 : decode cMo_onesOf 2 = .ok (.iconst 0, 1) := by decide +kernel
theorem dMo_onesOf_3 : decode cMo_onesOf 3 = .ok (.istore_n 2, 1) := by decide +kernel
theorem dMo_onesOf_4 : decode cMo_onesOf 4 = .ok (.iload_n 2, 1) := by decide +kernel
theorem dMo_onesOf_5 : decode cMo_onesOf 5 = .ok (.bipush 32, 2) := by decide +kernel
theorem dMo_onesOf_7 : decode cMo_onesOf 7 = .ok (.if_icmp .ge 17, 3) := by decide +kernel
theorem dMo_onesOf_10 : decode cMo_onesOf 10 = .ok (.iload_n 1, 1) := by decide +kernel
theorem dMo_onesOf_11 : decode cMo_onesOf 11 = .ok (.iload_n 0, 1) := by decide +kernel
theorem dMo_onesOf_12 : decode cMo_onesOf 12 = .ok (.iload_n 2, 1) := by decide +kernel
theorem dMo_onesOf_13 : decode cMo_onesOf 13 = .ok (.ishr, 1) := by decide +kernel
theorem dMo_onesOf_14 : decode cMo_onesOf 14 = .ok (.iconst 1, 1) := by decide +kernel
theorem dMo_onesOf_15 : decode cMo_onesOf 15 = .ok (.iand, 1) := by decide +kernel
theorem dMo_onesOf_16 : decode cMo_onesOf 16 = .ok (.iadd, 1) := by decide +kernel
theorem dMo_onesOf_17 : decode cMo_onesOf 17 = .ok (.istore_n 1, 1) := by decide +kernel
theorem dMo_onesOf_18 : decode cMo_onesOf 18 = .ok (.iinc 2 1, 3) := by decide +kernel
theorem dMo_onesOf_21 : decode cMo_onesOf 21 = .ok (.goto (-17), 3) := by decide +kernel
theorem dMo_onesOf_24 : decode cMo_onesOf 24 = .ok (.iload_n 1, 1) := by decide +kernel
theorem dMo_onesOf_25 : decode cMo_onesOf 25 = .ok (.ireturn, 1) := by decide +kernel
theorem dMo_outBit_0 : decode cMo_outBit 0 = .ok (.aload_n 0, 1) := by decide +kernel
theorem dMo_outBit_1 : decode cMo_outBit 1 = .ok (.getfield 13, 3) := by decide +kernel
theorem dMo_outBit_4 : decode cMo_outBit 4 = .ok (.aload_n 0, 1) := by decide +kernel
theorem dMo_outBit_5 : decode cMo_outBit 5 = .ok (.getfield 19, 3) := by decide +kernel
theorem dMo_outBit_8 : decode cMo_outBit 8 = .ok (.iload_n 1, 1) := by decide +kernel
theorem dMo_outBit_9 : decode cMo_outBit 9 = .ok (.iaload, 1) := by decide +kernel
theorem dMo_outBit_10 : decode cMo_outBit 10 = .ok (.iaload, 1) := by decide +kernel
theorem dMo_outBit_11 : decode cMo_outBit 11 = .ok (.ifCond .ne 7, 3) := by decide +kernel
theorem dMo_outBit_14 : decode cMo_outBit 14 = .ok (.iconst 4, 1) := by decide +kernel
theorem dMo_outBit_15 : decode cMo_outBit 15 = .ok (.goto 5, 3) := by decide +kernel
theorem dMo_outBit_18 : decode cMo_outBit 18 = .ok (.bipush 7, 2) := by decide +kernel
theorem dMo_outBit_20 : decode cMo_outBit 20 = .ok (.istore_n 3, 1) := by decide +kernel
theorem dMo_outBit_21 : decode cMo_outBit 21 = .ok (.aload_n 0, 1) := by decide +kernel
theorem dMo_outBit_22 : decode cMo_outBit 22 = .ok (.iload_n 1, 1) := by decide +kernel
theorem dMo_outBit_23 : decode cMo_outBit 23 = .ok (.iload_n 2, 1) := by decide +kernel
theorem dMo_outBit_24 : decode cMo_outBit 24 = .ok (.iload_n 3, 1) := by decide +kernel
theorem dMo_outBit_25 : decode cMo_outBit 25 = .ok (.idiv, 1) := by decide +kernel
theorem dMo_outBit_26 : decode cMo_outBit 26 = .ok (.invokevirtual 134, 3) := by decide +kernel
theorem dMo_outBit_29 : decode cMo_outBit 29 = .ok (.iload_n 2, 1) := by decide +kernel
theorem dMo_outBit_30 : decode cMo_outBit 30 = .ok (.iload_n 3, 1) := by decide +kernel
theorem dMo_outBit_31 : decode cMo_outBit 31 = .ok (.irem, 1) := by decide +kernel
theorem dMo_outBit_32 : decode cMo_outBit 32 = .ok (.ishr, 1) := by decide +kernel
theorem dMo_outBit_33 : decode cMo_outBit 33 = .ok (.iconst 1, 1) := by decide +kernel
theorem dMo_outBit_34 : decode cMo_outBit 34 = .ok (.iand, 1) := by decide +kernel
theorem dMo_outBit_35 : decode cMo_outBit 35 = .ok (.ireturn, 1) := by decide +kernel
theorem dMo_outgoing_0 : decode cMo_outgoing 0 = .ok (.aload_n 0, 1) := by decide +kernel
theorem dMo_outgoing_1 : decode cMo_outgoing 1 = .ok (.getfield 13, 3) := by decide +kernel
theorem dMo_outgoing_4 : decode cMo_outgoing 4 = .ok (.aload_n 0, 1) := by decide +kernel
theorem dMo_outgoing_5 : decode cMo_outgoing 5 = .ok (.getfield 19, 3) := by decide +kernel
theorem dMo_outgoing_8 : decode cMo_outgoing 8 = .ok (.iload_n 1, 1) := by decide +kernel
theorem dMo_outgoing_9 : decode cMo_outgoing 9 = .ok (.iaload, 1) := by decide +kernel
theorem dMo_outgoing_10 : decode cMo_outgoing 10 = .ok (.iaload, 1) := by decide +kernel
theorem dMo_outgoing_11 : decode cMo_outgoing 11 = .ok (.ifCond .ne 67, 3) := by decide +kernel
theorem dMo_outgoing_14 : decode cMo_outgoing 14 = .ok (.iload_n 2, 1) := by decide +kernel
theorem dMo_outgoing_15 : decode cMo_outgoing 15 = .ok (.ifCond .ne 15, 3) := by decide +kernel
theorem dMo_outgoing_18 : decode cMo_outgoing 18 = .ok (.aload_n 0, 1) := by decide +kernel
theorem dMo_outgoing_19 : decode cMo_outgoing 19 = .ok (.getfield 25, 3) := by decide +kernel
theorem dMo_outgoing_22 : decode cMo_outgoing 22 = .ok (.iload_n 1, 1) := by decide +kernel
theorem dMo_outgoing_23 : decode cMo_outgoing 23 = .ok (.iaload, 1) := by decide +kernel
theorem dMo_outgoing_24 : decode cMo_outgoing 24 = .ok (.bipush 10, 2) := by decide +kernel
theorem dMo_outgoing_26 : decode cMo_outgoing 26 = .ok (.idiv, 1) := by decide +kernel
theorem dMo_outgoing_27 : decode cMo_outgoing 27 = .ok (.goto 50, 3) := by decide +kernel
theorem dMo_outgoing_30 : decode cMo_outgoing 30 = .ok (.iload_n 2, 1) := by decide +kernel
theorem dMo_outgoing_31 : decode cMo_outgoing 31 = .ok (.iconst 1, 1) := by decide +kernel
theorem dMo_outgoing_32 : decode cMo_outgoing 32 = .ok (.if_icmp .ne 15, 3) := by decide +kernel
theorem dMo_outgoing_35 : decode cMo_outgoing 35 = .ok (.aload_n 0, 1) := by decide +kernel
theorem dMo_outgoing_36 : decode cMo_outgoing 36 = .ok (.getfield 25, 3) := by decide +kernel
theorem dMo_outgoing_39 : decode cMo_outgoing 39 = .ok (.iload_n 1, 1) := by decide +kernel
theorem dMo_outgoing_40 : decode cMo_outgoing 40 = .ok (.iaload, 1) := by decide +kernel
theorem dMo_outgoing_41 : decode cMo_outgoing 41 = .ok (.bipush 10, 2) := by decide +kernel
theorem dMo_outgoing_43 : decode cMo_outgoing 43 = .ok (.irem, 1) := by decide +kernel
theorem dMo_outgoing_44 : decode cMo_outgoing 44 = .ok (.goto 33, 3) := by decide +kernel
theorem dMo_outgoing_47 : decode cMo_outgoing 47 = .ok (.iload_n 2, 1) := by decide +kernel
theorem dMo_outgoing_48 : decode cMo_outgoing 48 = .ok (.aload_n 0, 1) := by decide +kernel
theorem dMo_outgoing_49 : decode cMo_outgoing 49 = .ok (.getfield 28, 3) := by decide +kernel
theorem dMo_outgoing_52 : decode cMo_outgoing 52 = .ok (.iload_n 1, 1) := by decide +kernel
theorem dMo_outgoing_53 : decode cMo_outgoing 53 = .ok (.iaload, 1) := by decide +kernel
theorem dMo_outgoing_54 : decode cMo_outgoing 54 = .ok (.iconst 2, 1) := by decide +kernel
theorem dMo_outgoing_55 : decode cMo_outgoing 55 = .ok (.iadd, 1) := by decide +kernel
theorem dMo_outgoing_56 : decode cMo_outgoing 56 = .ok (.if_icmp .ge 19, 3) := by decide +kernel
theorem dMo_outgoing_59 : decode cMo_outgoing 59 = .ok (.aload_n 0, 1) := by decide +kernel
theorem dMo_outgoing_60 : decode cMo_outgoing 60 = .ok (.getfield 31, 3) := by decide +kernel
theorem dMo_outgoing_63 : decode cMo_outgoing 63 = .ok (.bipush 20, 2) := by decide +kernel
theorem dMo_outgoing_65 : decode cMo_outgoing 65 = .ok (.iload_n 1, 1) := by decide +kernel
theorem dMo_outgoing_66 : decode cMo_outgoing 66 = .ok (.imul, 1) := by decide +kernel
theorem dMo_outgoing_67 : decode cMo_outgoing 67 = .ok (.iload_n 2, 1) := by decide +kernel
theorem dMo_outgoing_68 : decode cMo_outgoing 68 = .ok (.iadd, 1) := by decide +kernel
theorem dMo_outgoing_69 : decode cMo_outgoing 69 = .ok (.iconst 2, 1) := by decide +kernel
theorem dMo_outgoing_70 : decode cMo_outgoing 70 = .ok (.isub, 1) := by decide +kernel
theorem dMo_outgoing_71 : decode cMo_outgoing 71 = .ok (.iaload, 1) := by decide +kernel
theorem dMo_outgoing_72 : decode cMo_outgoing 72 = .ok (.goto 5, 3) := by decide +kernel
theorem dMo_outgoing_75 : decode cMo_outgoing 75 = .ok (.bipush 12, 2) := by decide +kernel
theorem dMo_outgoing_77 : decode cMo_outgoing 77 = .ok (.ireturn, 1) := by decide +kernel
theorem dMo_outgoing_78 : decode cMo_outgoing 78 = .ok (.iload_n 2, 1) := by decide +kernel
theorem dMo_outgoing_79 : decode cMo_outgoing 79 = .ok (.ifCond .ne 15, 3) := by decide +kernel
theorem dMo_outgoing_82 : decode cMo_outgoing 82 = .ok (.bipush 32, 2) := by decide +kernel
theorem dMo_outgoing_84 : decode cMo_outgoing 84 = .ok (.aload_n 0, 1) := by decide +kernel
theorem dMo_outgoing_85 : decode cMo_outgoing 85 = .ok (.getfield 25, 3) := by decide +kernel
theorem dMo_outgoing_88 : decode cMo_outgoing 88 = .ok (.iload_n 1, 1) := by decide +kernel
theorem dMo_outgoing_89 : decode cMo_outgoing 89 = .ok (.iaload, 1) := by decide +kernel
theorem dMo_outgoing_90 : decode cMo_outgoing 90 = .ok (.iadd, 1) := by decide +kernel
theorem dMo_outgoing_91 : decode cMo_outgoing 91 = .ok (.goto 32, 3) := by decide +kernel
theorem dMo_outgoing_94 : decode cMo_outgoing 94 = .ok (.iload_n 2, 1) := by decide +kernel
theorem dMo_outgoing_95 : decode cMo_outgoing 95 = .ok (.aload_n 0, 1) := by decide +kernel
theorem dMo_outgoing_96 : decode cMo_outgoing 96 = .ok (.getfield 28, 3) := by decide +kernel
theorem dMo_outgoing_99 : decode cMo_outgoing 99 = .ok (.iload_n 1, 1) := by decide +kernel
theorem dMo_outgoing_100 : decode cMo_outgoing 100 = .ok (.iaload, 1) := by decide +kernel
theorem dMo_outgoing_101 : decode cMo_outgoing 101 = .ok (.iconst 1, 1) := by decide +kernel
theorem dMo_outgoing_102 : decode cMo_outgoing 102 = .ok (.iadd, 1) := by decide +kernel
theorem dMo_outgoing_103 : decode cMo_outgoing 103 = .ok (.if_icmp .ge 19, 3) := by decide +kernel
theorem dMo_outgoing_106 : decode cMo_outgoing 106 = .ok (.aload_n 0, 1) := by decide +kernel
theorem dMo_outgoing_107 : decode cMo_outgoing 107 = .ok (.getfield 31, 3) := by decide +kernel
theorem dMo_outgoing_110 : decode cMo_outgoing 110 = .ok (.bipush 20, 2) := by decide +kernel
theorem dMo_outgoing_112 : decode cMo_outgoing 112 = .ok (.iload_n 1, 1) := by decide +kernel
theorem dMo_outgoing_113 : decode cMo_outgoing 113 = .ok (.imul, 1) := by decide +kernel
theorem dMo_outgoing_114 : decode cMo_outgoing 114 = .ok (.iload_n 2, 1) := by decide +kernel
theorem dMo_outgoing_115 : decode cMo_outgoing 115 = .ok (.iadd, 1) := by decide +kernel
theorem dMo_outgoing_116 : decode cMo_outgoing 116 = .ok (.iconst 1, 1) := by decide +kernel
theorem dMo_outgoing_117 : decode cMo_outgoing 117 = .ok (.isub, 1) := by decide +kernel
theorem dMo_outgoing_118 : decode cMo_outgoing 118 = .ok (.iaload, 1) := by decide +kernel
theorem dMo_outgoing_119 : decode cMo_outgoing 119 = .ok (.goto 4, 3) := by decide +kernel
theorem dMo_outgoing_122 : decode cMo_outgoing 122 = .ok (.iconst 0, 1) := by decide +kernel
theorem dMo_outgoing_123 : decode cMo_outgoing 123 = .ok (.ireturn, 1) := by decide +kernel
theorem dMo_pager_0 : decode cMo_pager 0 = .ok (.aload_n 0, 1) := by decide +kernel
theorem dMo_pager_1 : decode cMo_pager 1 = .ok (.getfield 107, 3) := by decide +kernel
theorem dMo_pager_4 : decode cMo_pager 4 = .ok (.bipush 6, 2) := by decide +kernel
theorem dMo_pager_6 : decode cMo_pager 6 = .ok (.if_icmp .ne 5, 3) := by decide +kernel
theorem dMo_pager_9 : decode cMo_pager 9 = .ok (.iconst (-1), 1) := by decide +kernel
theorem dMo_pager_10 : decode cMo_pager 10 = .ok (.ireturn, 1) := by decide +kernel
theorem dMo_pager_11 : decode cMo_pager 11 = .ok (.aload_n 0, 1) := by decide +kernel
theorem dMo_pager_12 : decode cMo_pager 12 = .ok (.dup, 1) := by decide +kernel
theorem dMo_pager_13 : decode cMo_pager 13 = .ok (.getfield 107, 3) := by decide +kernel
theorem dMo_pager_16 : decode cMo_pager 16 = .ok (.iconst 1, 1) := by decide +kernel
theorem dMo_pager_17 : decode cMo_pager 17 = .ok (.iadd, 1) := by decide +kernel
theorem dMo_pager_18 : decode cMo_pager 18 = .ok (.putfield 107, 3) := by decide +kernel
theorem dMo_pager_21 : decode cMo_pager 21 = .ok (.aload_n 0, 1) := by decide +kernel
theorem dMo_pager_22 : decode cMo_pager 22 = .ok (.getfield 107, 3) := by decide +kernel
theorem dMo_pager_25 : decode cMo_pager 25 = .ok (.iconst 1, 1) := by decide +kernel
theorem dMo_pager_26 : decode cMo_pager 26 = .ok (.isub, 1) := by decide +kernel
theorem dMo_pager_27 : decode cMo_pager 27 = .ok (.ireturn, 1) := by decide +kernel
theorem dMo_repair_0 : decode cMo_repair 0 = .ok (.iload_n 1, 1) := by decide +kernel
theorem dMo_repair_1 : decode cMo_repair 1 = .ok (.invokestatic 99, 3) := by decide +kernel
theorem dMo_repair_4 : decode cMo_repair 4 = .ok (.ifCond .eq 8, 3) := by decide +kernel
theorem dMo_repair_7 : decode cMo_repair 7 = .ok (.iload_n 1, 1) := by decide +kernel
theorem dMo_repair_8 : decode cMo_repair 8 = .ok (.bipush 11, 2) := by decide +kernel
theorem dMo_repair_10 : decode cMo_repair 10 = .ok (.iushr, 1) := by decide +kernel
theorem dMo_repair_11 : decode cMo_repair 11 = .ok (.ireturn, 1) := by decide +kernel
theorem dMo_repair_12 : decode cMo_repair 12 = .ok (.iconst 0, 1) := by decide +kernel
theorem dMo_repair_13 : decode cMo_repair 13 = .ok (.istore_n 2, 1) := by decide +kernel
theorem dMo_repair_14 : decode cMo_repair 14 = .ok (.iload_n 2, 1) := by decide +kernel
theorem dMo_repair_15 : decode cMo_repair 15 = .ok (.bipush 32, 2) := by decide +kernel
theorem dMo_repair_17 : decode cMo_repair 17 = .ok (.if_icmp .ge 67, 3) := by decide +kernel
theorem dMo_repair_20 : decode cMo_repair 20 = .ok (.iload_n 1, 1) := by decide +kernel
theorem dMo_repair_21 : decode cMo_repair 21 = .ok (.iconst 1, 1) := by decide +kernel
theorem dMo_repair_22 : decode cMo_repair 22 = .ok (.iload_n 2, 1) := by decide +kernel
theorem dMo_repair_23 : decode cMo_repair 23 = .ok (.ishl, 1) := by decide +kernel
theorem dMo_repair_24 : decode cMo_repair 24 = .ok (.ixor, 1) := by decide +kernel
theorem dMo_repair_25 : decode cMo_repair 25 = .ok (.invokestatic 99, 3) := by decide +kernel
theorem dMo_repair_28 : decode cMo_repair 28 = .ok (.ifCond .eq 12, 3) := by decide +kernel
theorem dMo_repair_31 : decode cMo_repair 31 = .ok (.iload_n 1, 1) := by decide +kernel
theorem dMo_repair_32 : decode cMo_repair 32 = .ok (.iconst 1, 1) := by decide +kernel
theorem dMo_repair_33 : decode cMo_repair 33 = .ok (.iload_n 2, 1) := by decide +kernel
theorem dMo_repair_34 : decode cMo_repair 34 = .ok (.ishl, 1) := by decide +kernel
theorem dMo_repair_35 : decode cMo_repair 35 = .ok (.ixor, 1) := by decide +kernel
theorem dMo_repair_36 : decode cMo_repair 36 = .ok (.bipush 11, 2) := by decide +kernel
theorem dMo_repair_38 : decode cMo_repair 38 = .ok (.iushr, 1) := by decide +kernel
theorem dMo_repair_39 : decode cMo_repair 39 = .ok (.ireturn, 1) := by decide +kernel
theorem dMo_repair_40 : decode cMo_repair 40 = .ok (.iconst 0, 1) := by decide +kernel
theorem dMo_repair_41 : decode cMo_repair 41 = .ok (.istore_n 3, 1) := by decide +kernel
theorem dMo_repair_42 : decode cMo_repair 42 = .ok (.iload_n 3, 1) := by decide +kernel
theorem dMo_repair_43 : decode cMo_repair 43 = .ok (.iload_n 2, 1) := by decide +kernel
theorem dMo_repair_44 : decode cMo_repair 44 = .ok (.if_icmp .ge 34, 3) := by decide +kernel
theorem dMo_repair_47 : decode cMo_repair 47 = .ok (.iload_n 1, 1) := by decide +kernel
theorem dMo_repair_48 : decode cMo_repair 48 = .ok (.iconst 1, 1) := by decide +kernel
theorem dMo_repair_49 : decode cMo_repair 49 = .ok (.iload_n 2, 1) := by decide +kernel
theorem dMo_repair_50 : decode cMo_repair 50 = .ok (.ishl, 1) := by decide +kernel
theorem dMo_repair_51 : decode cMo_repair 51 = .ok (.ixor, 1) := by decide +kernel
theorem dMo_repair_52 : decode cMo_repair 52 = .ok (.iconst 1, 1) := by decide +kernel
theorem dMo_repair_53 : decode cMo_repair 53 = .ok (.iload_n 3, 1) := by decide +kernel
theorem dMo_repair_54 : decode cMo_repair 54 = .ok (.ishl, 1) := by decide +kernel
theorem dMo_repair_55 : decode cMo_repair 55 = .ok (.ixor, 1) := by decide +kernel
theorem dMo_repair_56 : decode cMo_repair 56 = .ok (.istore 4, 2) := by decide +kernel
theorem dMo_repair_58 : decode cMo_repair 58 = .ok (.iload 4, 2) := by decide +kernel
theorem dMo_repair_60 : decode cMo_repair 60 = .ok (.invokestatic 99, 3) := by decide +kernel
theorem dMo_repair_63 : decode cMo_repair 63 = .ok (.ifCond .eq 9, 3) := by decide +kernel
theorem dMo_repair_66 : decode cMo_repair 66 = .ok (.iload 4, 2) := by decide +kernel
theorem dMo_repair_68 : decode cMo_repair 68 = .ok (.bipush 11, 2) := by decide +kernel
theorem dMo_repair_70 : decode cMo_repair 70 = .ok (.iushr, 1) := by decide +kernel
theorem dMo_repair_71 : decode cMo_repair 71 = .ok (.ireturn, 1) := by decide +kernel
theorem dMo_repair_72 : decode cMo_repair 72 = .ok (.iinc 3 1, 3) := by decide +kernel
theorem dMo_repair_75 : decode cMo_repair 75 = .ok (.goto (-33), 3) := by decide +kernel
theorem dMo_repair_78 : decode cMo_repair 78 = .ok (.iinc 2 1, 3) := by decide +kernel
theorem dMo_repair_81 : decode cMo_repair 81 = .ok (.goto (-67), 3) := by decide +kernel
theorem dMo_repair_84 : decode cMo_repair 84 = .ok (.iconst (-1), 1) := by decide +kernel
theorem dMo_repair_85 : decode cMo_repair 85 = .ok (.ireturn, 1) := by decide +kernel
theorem dMo_room_0 : decode cMo_room 0 = .ok (.bipush 10, 2) := by decide +kernel
theorem dMo_room_2 : decode cMo_room 2 = .ok (.aload_n 0, 1) := by decide +kernel
theorem dMo_room_3 : decode cMo_room 3 = .ok (.getfield 178, 3) := by decide +kernel
theorem dMo_room_6 : decode cMo_room 6 = .ok (.imul, 1) := by decide +kernel
theorem dMo_room_7 : decode cMo_room 7 = .ok (.istore_n 1, 1) := by decide +kernel
theorem dMo_room_8 : decode cMo_room 8 = .ok (.aload_n 0, 1) := by decide +kernel
theorem dMo_room_9 : decode cMo_room 9 = .ok (.getfield 56, 3) := by decide +kernel
theorem dMo_room_12 : decode cMo_room 12 = .ok (.aload_n 0, 1) := by decide +kernel
theorem dMo_room_13 : decode cMo_room 13 = .ok (.getfield 178, 3) := by decide +kernel
theorem dMo_room_16 : decode cMo_room 16 = .ok (.iaload, 1) := by decide +kernel
theorem dMo_room_17 : decode cMo_room 17 = .ok (.bipush 10, 2) := by decide +kernel
theorem dMo_room_19 : decode cMo_room 19 = .ok (.if_icmp .ne 127, 3) := by decide +kernel
theorem dMo_room_22 : decode cMo_room 22 = .ok (.iload_n 1, 1) := by decide +kernel
theorem dMo_room_23 : decode cMo_room 23 = .ok (.istore_n 2, 1) := by decide +kernel
theorem dMo_room_24 : decode cMo_room 24 = .ok (.iload_n 2, 1) := by decide +kernel
theorem dMo_room_25 : decode cMo_room 25 = .ok (.iload_n 1, 1) := by decide +kernel
theorem dMo_room_26 : decode cMo_room 26 = .ok (.bipush 9, 2) := by decide +kernel
theorem dMo_room_28 : decode cMo_room 28 = .ok (.iadd, 1) := by decide +kernel
theorem dMo_room_29 : decode cMo_room 29 = .ok (.if_icmp .ge 104, 3) := by decide +kernel
theorem dMo_room_32 : decode cMo_room 32 = .ok (.aload_n 0, 1) := by decide +kernel
theorem dMo_room_33 : decode cMo_room 33 = .ok (.getfield 59, 3) := by decide +kernel
theorem dMo_room_36 : decode cMo_room 36 = .ok (.iload_n 2, 1) := by decide +kernel
theorem dMo_room_37 : decode cMo_room 37 = .ok (.aload_n 0, 1) := by decide +kernel
theorem dMo_room_38 : decode cMo_room 38 = .ok (.getfield 59, 3) := by decide +kernel
theorem dMo_room_41 : decode cMo_room 41 = .ok (.iload_n 2, 1) := by decide +kernel
theorem dMo_room_42 : decode cMo_room 42 = .ok (.iconst 1, 1) := by decide +kernel
theorem dMo_room_43 : decode cMo_room 43 = .ok (.iadd, 1) := by decide +kernel
theorem dMo_room_44 : decode cMo_room 44 = .ok (.iaload, 1) := by decide +kernel
theorem dMo_room_45 : decode cMo_room 45 = .ok (.iastore, 1) := by decide +kernel
theorem dMo_room_46 : decode cMo_room 46 = .ok (.aload_n 0, 1) := by decide +kernel
theorem dMo_room_47 : decode cMo_room 47 = .ok (.getfield 62, 3) := by decide +kernel
theorem dMo_room_50 : decode cMo_room 50 = .ok (.iload_n 2, 1) := by decide +kernel
theorem dMo_room_51 : decode cMo_room 51 = .ok (.aload_n 0, 1) := by decide +kernel
theorem dMo_room_52 : decode cMo_room 52 = .ok (.getfield 62, 3) := by decide +kernel
theorem dMo_room_55 : decode cMo_room 55 = .ok (.iload_n 2, 1) := by decide +kernel
theorem dMo_room_56 : decode cMo_room 56 = .ok (.iconst 1, 1) := by decide +kernel
theorem dMo_room_57 : decode cMo_room 57 = .ok (.iadd, 1) := by decide +kernel
theorem dMo_room_58 : decode cMo_room 58 = .ok (.iaload, 1) := by decide +kernel
theorem dMo_room_59 : decode cMo_room 59 = .ok (.iastore, 1) := by decide +kernel
theorem dMo_room_60 : decode cMo_room 60 = .ok (.aload_n 0, 1) := by decide +kernel
theorem dMo_room_61 : decode cMo_room 61 = .ok (.getfield 65, 3) := by decide +kernel
theorem dMo_room_64 : decode cMo_room 64 = .ok (.iload_n 2, 1) := by decide +kernel
theorem dMo_room_65 : decode cMo_room 65 = .ok (.aload_n 0, 1) := by decide +kernel
theorem dMo_room_66 : decode cMo_room 66 = .ok (.getfield 65, 3) := by decide +kernel
theorem dMo_room_69 : decode cMo_room 69 = .ok (.iload_n 2, 1) := by decide +kernel
theorem dMo_room_70 : decode cMo_room 70 = .ok (.iconst 1, 1) := by decide +kernel
theorem dMo_room_71 : decode cMo_room 71 = .ok (.iadd, 1) := by decide +kernel
theorem dMo_room_72 : decode cMo_room 72 = .ok (.iaload, 1) := by decide +kernel
theorem dMo_room_73 : decode cMo_room 73 = .ok (.iastore, 1) := by decide +kernel
theorem dMo_room_74 : decode cMo_room 74 = .ok (.aload_n 0, 1) := by decide +kernel
theorem dMo_room_75 : decode cMo_room 75 = .ok (.getfield 68, 3) := by decide +kernel
theorem dMo_room_78 : decode cMo_room 78 = .ok (.iload_n 2, 1) := by decide +kernel
theorem dMo_room_79 : decode cMo_room 79 = .ok (.aload_n 0, 1) := by decide +kernel
theorem dMo_room_80 : decode cMo_room 80 = .ok (.getfield 68, 3) := by decide +kernel
theorem dMo_room_83 : decode cMo_room 83 = .ok (.iload_n 2, 1) := by decide +kernel
theorem dMo_room_84 : decode cMo_room 84 = .ok (.iconst 1, 1) := by decide +kernel
theorem dMo_room_85 : decode cMo_room 85 = .ok (.iadd, 1) := by decide +kernel
theorem dMo_room_86 : decode cMo_room 86 = .ok (.baload, 1) := by decide +kernel
theorem dMo_room_87 : decode cMo_room 87 = .ok (.bastore, 1) := by decide +kernel
theorem dMo_room_88 : decode cMo_room 88 = .ok (.iconst 0, 1) := by decide +kernel
theorem dMo_room_89 : decode cMo_room 89 = .ok (.istore_n 3, 1) := by decide +kernel
theorem dMo_room_90 : decode cMo_room 90 = .ok (.iload_n 3, 1) := by decide +kernel
theorem dMo_room_91 : decode cMo_room 91 = .ok (.bipush 22, 2) := by decide +kernel
theorem dMo_room_93 : decode cMo_room 93 = .ok (.if_icmp .ge 34, 3) := by decide +kernel
theorem dMo_room_96 : decode cMo_room 96 = .ok (.aload_n 0, 1) := by decide +kernel
theorem dMo_room_97 : decode cMo_room 97 = .ok (.getfield 71, 3) := by decide +kernel
theorem dMo_room_100 : decode cMo_room 100 = .ok (.bipush 22, 2) := by decide +kernel
theorem dMo_room_102 : decode cMo_room 102 = .ok (.iload_n 2, 1) := by decide +kernel
theorem dMo_room_103 : decode cMo_room 103 = .ok (.imul, 1) := by decide +kernel
theorem dMo_room_104 : decode cMo_room 104 = .ok (.iload_n 3, 1) := by decide +kernel
theorem dMo_room_105 : decode cMo_room 105 = .ok (.iadd, 1) := by decide +kernel
theorem dMo_room_106 : decode cMo_room 106 = .ok (.aload_n 0, 1) := by decide +kernel
theorem dMo_room_107 : decode cMo_room 107 = .ok (.getfield 71, 3) := by decide +kernel
theorem dMo_room_110 : decode cMo_room 110 = .ok (.bipush 22, 2) := by decide +kernel
theorem dMo_room_112 : decode cMo_room 112 = .ok (.iload_n 2, 1) := by decide +kernel
theorem dMo_room_113 : decode cMo_room 113 = .ok (.imul, 1) := by decide +kernel
theorem dMo_room_114 : decode cMo_room 114 = .ok (.bipush 22, 2) := by decide +kernel
theorem dMo_room_116 : decode cMo_room 116 = .ok (.iadd, 1) := by decide +kernel
theorem dMo_room_117 : decode cMo_room 117 = .ok (.iload_n 3, 1) := by decide +kernel
theorem dMo_room_118 : decode cMo_room 118 = .ok (.iadd, 1) := by decide +kernel
theorem dMo_room_119 : decode cMo_room 119 = .ok (.iaload, 1) := by decide +kernel
theorem dMo_room_120 : decode cMo_room 120 = .ok (.iastore, 1) := by decide +kernel
theorem dMo_room_121 : decode cMo_room 121 = .ok (.iinc 3 1, 3) := by decide +kernel
theorem dMo_room_124 : decode cMo_room 124 = .ok (.goto (-34), 3) := by decide +kernel
theorem dMo_room_127 : decode cMo_room 127 = .ok (.iinc 2 1, 3) := by decide +kernel
theorem dMo_room_130 : decode cMo_room 130 = .ok (.goto (-106), 3) := by decide +kernel
theorem dMo_room_133 : decode cMo_room 133 = .ok (.aload_n 0, 1) := by decide +kernel
theorem dMo_room_134 : decode cMo_room 134 = .ok (.getfield 56, 3) := by decide +kernel
theorem dMo_room_137 : decode cMo_room 137 = .ok (.aload_n 0, 1) := by decide +kernel
theorem dMo_room_138 : decode cMo_room 138 = .ok (.getfield 178, 3) := by decide +kernel
theorem dMo_room_141 : decode cMo_room 141 = .ok (.dup2, 1) := by decide +kernel
theorem dMo_room_142 : decode cMo_room 142 = .ok (.iaload, 1) := by decide +kernel
theorem dMo_room_143 : decode cMo_room 143 = .ok (.iconst 1, 1) := by decide +kernel
theorem dMo_room_144 : decode cMo_room 144 = .ok (.isub, 1) := by decide +kernel
theorem dMo_room_145 : decode cMo_room 145 = .ok (.iastore, 1) := by decide +kernel
theorem dMo_room_146 : decode cMo_room 146 = .ok (.aload_n 0, 1) := by decide +kernel
theorem dMo_room_147 : decode cMo_room 147 = .ok (.getfield 56, 3) := by decide +kernel
theorem dMo_room_150 : decode cMo_room 150 = .ok (.aload_n 0, 1) := by decide +kernel
theorem dMo_room_151 : decode cMo_room 151 = .ok (.getfield 178, 3) := by decide +kernel
theorem dMo_room_154 : decode cMo_room 154 = .ok (.dup2, 1) := by decide +kernel
theorem dMo_room_155 : decode cMo_room 155 = .ok (.iaload, 1) := by decide +kernel
theorem dMo_room_156 : decode cMo_room 156 = .ok (.iconst 1, 1) := by decide +kernel
theorem dMo_room_157 : decode cMo_room 157 = .ok (.iadd, 1) := by decide +kernel
theorem dMo_room_158 : decode cMo_room 158 = .ok (.iastore, 1) := by decide +kernel
theorem dMo_room_159 : decode cMo_room 159 = .ok (.iload_n 1, 1) := by decide +kernel
theorem dMo_room_160 : decode cMo_room 160 = .ok (.aload_n 0, 1) := by decide +kernel
theorem dMo_room_161 : decode cMo_room 161 = .ok (.getfield 56, 3) := by decide +kernel
theorem dMo_room_164 : decode cMo_room 164 = .ok (.aload_n 0, 1) := by decide +kernel
theorem dMo_room_165 : decode cMo_room 165 = .ok (.getfield 178, 3) := by decide +kernel
theorem dMo_room_168 : decode cMo_room 168 = .ok (.iaload, 1) := by decide +kernel
theorem dMo_room_169 : decode cMo_room 169 = .ok (.iadd, 1) := by decide +kernel
theorem dMo_room_170 : decode cMo_room 170 = .ok (.iconst 1, 1) := by decide +kernel
theorem dMo_room_171 : decode cMo_room 171 = .ok (.isub, 1) := by decide +kernel
theorem dMo_room_172 : decode cMo_room 172 = .ok (.ireturn, 1) := by decide +kernel
theorem dMo_send_0 : decode cMo_send 0 = .ok (.bipush 31, 2) := by decide +kernel
theorem dMo_send_2 : decode cMo_send 2 = .ok (.istore_n 2, 1) := by decide +kernel
theorem dMo_send_3 : decode cMo_send 3 = .ok (.iload_n 2, 1) := by decide +kernel
theorem dMo_send_4 : decode cMo_send 4 = .ok (.ifCond .lt 33, 3) := by decide +kernel
theorem dMo_send_7 : decode cMo_send 7 = .ok (.aload_n 0, 1) := by decide +kernel
theorem dMo_send_8 : decode cMo_send 8 = .ok (.getfield 47, 3) := by decide +kernel
theorem dMo_send_11 : decode cMo_send 11 = .ok (.aload_n 0, 1) := by decide +kernel
theorem dMo_send_12 : decode cMo_send 12 = .ok (.getfield 155, 3) := by decide +kernel
theorem dMo_send_15 : decode cMo_send 15 = .ok (.iload_n 1, 1) := by decide +kernel
theorem dMo_send_16 : decode cMo_send 16 = .ok (.iload_n 2, 1) := by decide +kernel
theorem dMo_send_17 : decode cMo_send 17 = .ok (.ishr, 1) := by decide +kernel
theorem dMo_send_18 : decode cMo_send 18 = .ok (.iconst 1, 1) := by decide +kernel
theorem dMo_send_19 : decode cMo_send 19 = .ok (.iand, 1) := by decide +kernel
theorem dMo_send_20 : decode cMo_send 20 = .ok (.iastore, 1) := by decide +kernel
theorem dMo_send_21 : decode cMo_send 21 = .ok (.aload_n 0, 1) := by decide +kernel
theorem dMo_send_22 : decode cMo_send 22 = .ok (.dup, 1) := by decide +kernel
theorem dMo_send_23 : decode cMo_send 23 = .ok (.getfield 155, 3) := by decide +kernel
theorem dMo_send_26 : decode cMo_send 26 = .ok (.iconst 1, 1) := by decide +kernel
theorem dMo_send_27 : decode cMo_send 27 = .ok (.iadd, 1) := by decide +kernel
theorem dMo_send_28 : decode cMo_send 28 = .ok (.putfield 155, 3) := by decide +kernel
theorem dMo_send_31 : decode cMo_send 31 = .ok (.iinc 2 (-1), 3) := by decide +kernel
theorem dMo_send_34 : decode cMo_send 34 = .ok (.goto (-31), 3) := by decide +kernel
theorem dMo_send_37 : decode cMo_send 37 = .ok (.return_, 1) := by decide +kernel
theorem dMo_sign_0 : decode cMo_sign 0 = .ok (.aload_n 0, 1) := by decide +kernel
theorem dMo_sign_1 : decode cMo_sign 1 = .ok (.iload_n 1, 1) := by decide +kernel
theorem dMo_sign_2 : decode cMo_sign 2 = .ok (.iload_n 2, 1) := by decide +kernel
theorem dMo_sign_3 : decode cMo_sign 3 = .ok (.invokevirtual 224, 3) := by decide +kernel
theorem dMo_sign_6 : decode cMo_sign 6 = .ok (.ifCond .eq 22, 3) := by decide +kernel
theorem dMo_sign_9 : decode cMo_sign 9 = .ok (.iload_n 3, 1) := by decide +kernel
theorem dMo_sign_10 : decode cMo_sign 10 = .ok (.ifCond .lt 18, 3) := by decide +kernel
theorem dMo_sign_13 : decode cMo_sign 13 = .ok (.iload_n 3, 1) := by decide +kernel
theorem dMo_sign_14 : decode cMo_sign 14 = .ok (.aload_n 0, 1) := by decide +kernel
theorem dMo_sign_15 : decode cMo_sign 15 = .ok (.getfield 65, 3) := by decide +kernel
theorem dMo_sign_18 : decode cMo_sign 18 = .ok (.bipush 10, 2) := by decide +kernel
theorem dMo_sign_20 : decode cMo_sign 20 = .ok (.iload_n 1, 1) := by decide +kernel
theorem dMo_sign_21 : decode cMo_sign 21 = .ok (.imul, 1) := by decide +kernel
theorem dMo_sign_22 : decode cMo_sign 22 = .ok (.iload_n 2, 1) := by decide +kernel
theorem dMo_sign_23 : decode cMo_sign 23 = .ok (.iadd, 1) := by decide +kernel
theorem dMo_sign_24 : decode cMo_sign 24 = .ok (.iaload, 1) := by decide +kernel
theorem dMo_sign_25 : decode cMo_sign 25 = .ok (.if_icmp .lt 5, 3) := by decide +kernel
theorem dMo_sign_28 : decode cMo_sign 28 = .ok (.iconst (-1), 1) := by decide +kernel
theorem dMo_sign_29 : decode cMo_sign 29 = .ok (.ireturn, 1) := by decide +kernel
theorem dMo_sign_30 : decode cMo_sign 30 = .ok (.aload_n 0, 1) := by decide +kernel
theorem dMo_sign_31 : decode cMo_sign 31 = .ok (.getfield 71, 3) := by decide +kernel
theorem dMo_sign_34 : decode cMo_sign 34 = .ok (.bipush 22, 2) := by decide +kernel
theorem dMo_sign_36 : decode cMo_sign 36 = .ok (.bipush 10, 2) := by decide +kernel
theorem dMo_sign_38 : decode cMo_sign 38 = .ok (.iload_n 1, 1) := by decide +kernel
theorem dMo_sign_39 : decode cMo_sign 39 = .ok (.imul, 1) := by decide +kernel
theorem dMo_sign_40 : decode cMo_sign 40 = .ok (.iload_n 2, 1) := by decide +kernel
theorem dMo_sign_41 : decode cMo_sign 41 = .ok (.iadd, 1) := by decide +kernel
theorem dMo_sign_42 : decode cMo_sign 42 = .ok (.imul, 1) := by decide +kernel
theorem dMo_sign_43 : decode cMo_sign 43 = .ok (.iload_n 3, 1) := by decide +kernel
theorem dMo_sign_44 : decode cMo_sign 44 = .ok (.iadd, 1) := by decide +kernel
theorem dMo_sign_45 : decode cMo_sign 45 = .ok (.iaload, 1) := by decide +kernel
theorem dMo_sign_46 : decode cMo_sign 46 = .ok (.ireturn, 1) := by decide +kernel
theorem dMo_transmit_0 : decode cMo_transmit 0 = .ok (.iload_n 1, 1) := by decide +kernel
theorem dMo_transmit_1 : decode cMo_transmit 1 = .ok (.iconst 1, 1) := by decide +kernel
theorem dMo_transmit_2 : decode cMo_transmit 2 = .ok (.if_icmp .lt 8, 3) := by decide +kernel
theorem dMo_transmit_5 : decode cMo_transmit 5 = .ok (.iload_n 1, 1) := by decide +kernel
theorem dMo_transmit_6 : decode cMo_transmit 6 = .ok (.iconst 4, 1) := by decide +kernel
theorem dMo_transmit_7 : decode cMo_transmit 7 = .ok (.if_icmp .le 5, 3) := by decide +kernel
theorem dMo_transmit_10 : decode cMo_transmit 10 = .ok (.iconst (-1), 1) := by decide +kernel
theorem dMo_transmit_11 : decode cMo_transmit 11 = .ok (.ireturn, 1) := by decide +kernel
theorem dMo_transmit_12 : decode cMo_transmit 12 = .ok (.iconst 0, 1) := by decide +kernel
theorem dMo_transmit_13 : decode cMo_transmit 13 = .ok (.istore_n 2, 1) := by decide +kernel
theorem dMo_transmit_14 : decode cMo_transmit 14 = .ok (.iload_n 2, 1) := by decide +kernel
theorem dMo_transmit_15 : decode cMo_transmit 15 = .ok (.bipush 64, 2) := by decide +kernel
theorem dMo_transmit_17 : decode cMo_transmit 17 = .ok (.if_icmp .ge 24, 3) := by decide +kernel
theorem dMo_transmit_20 : decode cMo_transmit 20 = .ok (.aload_n 0, 1) := by decide +kernel
theorem dMo_transmit_21 : decode cMo_transmit 21 = .ok (.getfield 44, 3) := by decide +kernel
theorem dMo_transmit_24 : decode cMo_transmit 24 = .ok (.iload_n 2, 1) := by decide +kernel
theorem dMo_transmit_25 : decode cMo_transmit 25 = .ok (.iconst 0, 1) := by decide +kernel
theorem dMo_transmit_26 : decode cMo_transmit 26 = .ok (.bastore, 1) := by decide +kernel
theorem dMo_transmit_27 : decode cMo_transmit 27 = .ok (.aload_n 0, 1) := by decide +kernel
theorem dMo_transmit_28 : decode cMo_transmit 28 = .ok (.getfield 41, 3) := by decide +kernel
theorem dMo_transmit_31 : decode cMo_transmit 31 = .ok (.iload_n 2, 1) := by decide +kernel
theorem dMo_transmit_32 : decode cMo_transmit 32 = .ok (.ldc 158, 2) := by decide +kernel
theorem dMo_transmit_34 : decode cMo_transmit 34 = .ok (.iastore, 1) := by decide +kernel
theorem dMo_transmit_35 : decode cMo_transmit 35 = .ok (.iinc 2 1, 3) := by decide +kernel
theorem dMo_transmit_38 : decode cMo_transmit 38 = .ok (.goto (-24), 3) := by decide +kernel
theorem dMo_transmit_41 : decode cMo_transmit 41 = .ok (.iconst 0, 1) := by decide +kernel
theorem dMo_transmit_42 : decode cMo_transmit 42 = .ok (.istore_n 2, 1) := by decide +kernel
theorem dMo_transmit_43 : decode cMo_transmit 43 = .ok (.iload_n 2, 1) := by decide +kernel
theorem dMo_transmit_44 : decode cMo_transmit 44 = .ok (.bipush 12, 2) := by decide +kernel
theorem dMo_transmit_46 : decode cMo_transmit 46 = .ok (.if_icmp .ge 16, 3) := by decide +kernel
theorem dMo_transmit_49 : decode cMo_transmit 49 = .ok (.aload_n 0, 1) := by decide +kernel
theorem dMo_transmit_50 : decode cMo_transmit 50 = .ok (.getfield 91, 3) := by decide +kernel
theorem dMo_transmit_53 : decode cMo_transmit 53 = .ok (.iload_n 2, 1) := by decide +kernel
theorem dMo_transmit_54 : decode cMo_transmit 54 = .ok (.iconst 0, 1) := by decide +kernel
theorem dMo_transmit_55 : decode cMo_transmit 55 = .ok (.iastore, 1) := by decide +kernel
theorem dMo_transmit_56 : decode cMo_transmit 56 = .ok (.iinc 2 1, 3) := by decide +kernel
theorem dMo_transmit_59 : decode cMo_transmit 59 = .ok (.goto (-16), 3) := by decide +kernel
theorem dMo_transmit_62 : decode cMo_transmit 62 = .ok (.iconst 3, 1) := by decide +kernel
theorem dMo_transmit_63 : decode cMo_transmit 63 = .ok (.istore_n 2, 1) := by decide +kernel
theorem dMo_transmit_64 : decode cMo_transmit 64 = .ok (.iload_n 2, 1) := by decide +kernel
theorem dMo_transmit_65 : decode cMo_transmit 65 = .ok (.ifCond .lt 89, 3) := by decide +kernel
theorem dMo_transmit_68 : decode cMo_transmit 68 = .ok (.iconst 0, 1) := by decide +kernel
theorem dMo_transmit_69 : decode cMo_transmit 69 = .ok (.istore_n 3, 1) := by decide +kernel
theorem dMo_transmit_70 : decode cMo_transmit 70 = .ok (.iload_n 3, 1) := by decide +kernel
theorem dMo_transmit_71 : decode cMo_transmit 71 = .ok (.aload_n 0, 1) := by decide +kernel
theorem dMo_transmit_72 : decode cMo_transmit 72 = .ok (.getfield 127, 3) := by decide +kernel
theorem dMo_transmit_75 : decode cMo_transmit 75 = .ok (.if_icmp .ge 73, 3) := by decide +kernel
theorem dMo_transmit_78 : decode cMo_transmit 78 = .ok (.aload_n 0, 1) := by decide +kernel
theorem dMo_transmit_79 : decode cMo_transmit 79 = .ok (.getfield 34, 3) := by decide +kernel
theorem dMo_transmit_82 : decode cMo_transmit 82 = .ok (.iload_n 3, 1) := by decide +kernel
theorem dMo_transmit_83 : decode cMo_transmit 83 = .ok (.baload, 1) := by decide +kernel
theorem dMo_transmit_84 : decode cMo_transmit 84 = .ok (.ifCond .eq 58, 3) := by decide +kernel
theorem dMo_transmit_87 : decode cMo_transmit 87 = .ok (.aload_n 0, 1) := by decide +kernel
theorem dMo_transmit_88 : decode cMo_transmit 88 = .ok (.getfield 22, 3) := by decide +kernel
theorem dMo_transmit_91 : decode cMo_transmit 91 = .ok (.iload_n 3, 1) := by decide +kernel
theorem dMo_transmit_92 : decode cMo_transmit 92 = .ok (.iaload, 1) := by decide +kernel
theorem dMo_transmit_93 : decode cMo_transmit 93 = .ok (.iload_n 2, 1) := by decide +kernel
theorem dMo_transmit_94 : decode cMo_transmit 94 = .ok (.if_icmp .ne 48, 3) := by decide +kernel
theorem dMo_transmit_97 : decode cMo_transmit 97 = .ok (.aload_n 0, 1) := by decide +kernel
theorem dMo_transmit_98 : decode cMo_transmit 98 = .ok (.getfield 91, 3) := by decide +kernel
theorem dMo_transmit_101 : decode cMo_transmit 101 = .ok (.aload_n 0, 1) := by decide +kernel
theorem dMo_transmit_102 : decode cMo_transmit 102 = .ok (.getfield 19, 3) := by decide +kernel
theorem dMo_transmit_105 : decode cMo_transmit 105 = .ok (.iload_n 3, 1) := by decide +kernel
theorem dMo_transmit_106 : decode cMo_transmit 106 = .ok (.iaload, 1) := by decide +kernel
theorem dMo_transmit_107 : decode cMo_transmit 107 = .ok (.iaload, 1) := by decide +kernel
theorem dMo_transmit_108 : decode cMo_transmit 108 = .ok (.ifCond .lt 34, 3) := by decide +kernel
theorem dMo_transmit_111 : decode cMo_transmit 111 = .ok (.aload_n 0, 1) := by decide +kernel
theorem dMo_transmit_112 : decode cMo_transmit 112 = .ok (.getfield 91, 3) := by decide +kernel
theorem dMo_transmit_115 : decode cMo_transmit 115 = .ok (.aload_n 0, 1) := by decide +kernel
theorem dMo_transmit_116 : decode cMo_transmit 116 = .ok (.getfield 19, 3) := by decide +kernel
theorem dMo_transmit_119 : decode cMo_transmit 119 = .ok (.iload_n 3, 1) := by decide +kernel
theorem dMo_transmit_120 : decode cMo_transmit 120 = .ok (.iaload, 1) := by decide +kernel
theorem dMo_transmit_121 : decode cMo_transmit 121 = .ok (.aload_n 0, 1) := by decide +kernel
theorem dMo_transmit_122 : decode cMo_transmit 122 = .ok (.iload_n 3, 1) := by decide +kernel
theorem dMo_transmit_123 : decode cMo_transmit 123 = .ok (.aload_n 0, 1) := by decide +kernel
theorem dMo_transmit_124 : decode cMo_transmit 124 = .ok (.getfield 91, 3) := by decide +kernel
theorem dMo_transmit_127 : decode cMo_transmit 127 = .ok (.aload_n 0, 1) := by decide +kernel
theorem dMo_transmit_128 : decode cMo_transmit 128 = .ok (.getfield 19, 3) := by decide +kernel
theorem dMo_transmit_131 : decode cMo_transmit 131 = .ok (.iload_n 3, 1) := by decide +kernel
theorem dMo_transmit_132 : decode cMo_transmit 132 = .ok (.iaload, 1) := by decide +kernel
theorem dMo_transmit_133 : decode cMo_transmit 133 = .ok (.iaload, 1) := by decide +kernel
theorem dMo_transmit_134 : decode cMo_transmit 134 = .ok (.bipush 16, 2) := by decide +kernel
theorem dMo_transmit_136 : decode cMo_transmit 136 = .ok (.iload_n 1, 1) := by decide +kernel
theorem dMo_transmit_137 : decode cMo_transmit 137 = .ok (.imul, 1) := by decide +kernel
theorem dMo_transmit_138 : decode cMo_transmit 138 = .ok (.invokevirtual 159, 3) := by decide +kernel
theorem dMo_transmit_141 : decode cMo_transmit 141 = .ok (.iastore, 1) := by decide +kernel
theorem dMo_transmit_142 : decode cMo_transmit 142 = .ok (.iinc 3 1, 3) := by decide +kernel
theorem dMo_transmit_145 : decode cMo_transmit 145 = .ok (.goto (-75), 3) := by decide +kernel
theorem dMo_transmit_148 : decode cMo_transmit 148 = .ok (.iinc 2 (-1), 3) := by decide +kernel
theorem dMo_transmit_151 : decode cMo_transmit 151 = .ok (.goto (-87), 3) := by decide +kernel
theorem dMo_transmit_154 : decode cMo_transmit 154 = .ok (.aload_n 0, 1) := by decide +kernel
theorem dMo_transmit_155 : decode cMo_transmit 155 = .ok (.iconst 0, 1) := by decide +kernel
theorem dMo_transmit_156 : decode cMo_transmit 156 = .ok (.putfield 155, 3) := by decide +kernel
theorem dMo_transmit_159 : decode cMo_transmit 159 = .ok (.aload_n 0, 1) := by decide +kernel
theorem dMo_transmit_160 : decode cMo_transmit 160 = .ok (.ldc 163, 2) := by decide +kernel
theorem dMo_transmit_162 : decode cMo_transmit 162 = .ok (.invokevirtual 164, 3) := by decide +kernel
theorem dMo_transmit_165 : decode cMo_transmit 165 = .ok (.aload_n 0, 1) := by decide +kernel
theorem dMo_transmit_166 : decode cMo_transmit 166 = .ok (.ldc 163, 2) := by decide +kernel
theorem dMo_transmit_168 : decode cMo_transmit 168 = .ok (.invokevirtual 164, 3) := by decide +kernel
theorem dMo_transmit_171 : decode cMo_transmit 171 = .ok (.iconst 0, 1) := by decide +kernel
theorem dMo_transmit_172 : decode cMo_transmit 172 = .ok (.istore_n 2, 1) := by decide +kernel
theorem dMo_transmit_173 : decode cMo_transmit 173 = .ok (.iload_n 2, 1) := by decide +kernel
theorem dMo_transmit_174 : decode cMo_transmit 174 = .ok (.bipush 16, 2) := by decide +kernel
theorem dMo_transmit_176 : decode cMo_transmit 176 = .ok (.iload_n 1, 1) := by decide +kernel
theorem dMo_transmit_177 : decode cMo_transmit 177 = .ok (.imul, 1) := by decide +kernel
theorem dMo_transmit_178 : decode cMo_transmit 178 = .ok (.if_icmp .ge 32, 3) := by decide +kernel
theorem dMo_transmit_181 : decode cMo_transmit 181 = .ok (.iload_n 2, 1) := by decide +kernel
theorem dMo_transmit_182 : decode cMo_transmit 182 = .ok (.bipush 16, 2) := by decide +kernel
theorem dMo_transmit_184 : decode cMo_transmit 184 = .ok (.irem, 1) := by decide +kernel
theorem dMo_transmit_185 : decode cMo_transmit 185 = .ok (.ifCond .ne 9, 3) := by decide +kernel
theorem dMo_transmit_188 : decode cMo_transmit 188 = .ok (.aload_n 0, 1) := by decide +kernel
theorem dMo_transmit_189 : decode cMo_transmit 189 = .ok (.ldc 168, 2) := by decide +kernel
theorem dMo_transmit_191 : decode cMo_transmit 191 = .ok (.invokevirtual 164, 3) := by decide +kernel
theorem dMo_transmit_194 : decode cMo_transmit 194 = .ok (.aload_n 0, 1) := by decide +kernel
theorem dMo_transmit_195 : decode cMo_transmit 195 = .ok (.aload_n 0, 1) := by decide +kernel
theorem dMo_transmit_196 : decode cMo_transmit 196 = .ok (.getfield 41, 3) := by decide +kernel
theorem dMo_transmit_199 : decode cMo_transmit 199 = .ok (.iload_n 2, 1) := by decide +kernel
theorem dMo_transmit_200 : decode cMo_transmit 200 = .ok (.iaload, 1) := by decide +kernel
theorem dMo_transmit_201 : decode cMo_transmit 201 = .ok (.invokevirtual 164, 3) := by decide +kernel
theorem dMo_transmit_204 : decode cMo_transmit 204 = .ok (.iinc 2 1, 3) := by decide +kernel
theorem dMo_transmit_207 : decode cMo_transmit 207 = .ok (.goto (-34), 3) := by decide +kernel
theorem dMo_transmit_210 : decode cMo_transmit 210 = .ok (.aload_n 0, 1) := by decide +kernel
theorem dMo_transmit_211 : decode cMo_transmit 211 = .ok (.getfield 155, 3) := by decide +kernel
theorem dMo_transmit_214 : decode cMo_transmit 214 = .ok (.ireturn, 1) := by decide +kernel
theorem dMo_unload_0 : decode cMo_unload 0 = .ok (.aload_n 0, 1) := by decide +kernel
theorem dMo_unload_1 : decode cMo_unload 1 = .ok (.getfield 120, 3) := by decide +kernel
theorem dMo_unload_4 : decode cMo_unload 4 = .ok (.istore_n 1, 1) := by decide +kernel
theorem dMo_unload_5 : decode cMo_unload 5 = .ok (.aload_n 0, 1) := by decide +kernel
theorem dMo_unload_6 : decode cMo_unload 6 = .ok (.iconst 0, 1) := by decide +kernel
theorem dMo_unload_7 : decode cMo_unload 7 = .ok (.putfield 120, 3) := by decide +kernel
theorem dMo_unload_10 : decode cMo_unload 10 = .ok (.iload_n 1, 1) := by decide +kernel
theorem dMo_unload_11 : decode cMo_unload 11 = .ok (.ireturn, 1) := by decide +kernel
theorem dMo_waiting_0 : decode cMo_waiting 0 = .ok (.iconst 0, 1) := by decide +kernel
theorem dMo_waiting_1 : decode cMo_waiting 1 = .ok (.istore_n 1, 1) := by decide +kernel
theorem dMo_waiting_2 : decode cMo_waiting 2 = .ok (.iconst 0, 1) := by decide +kernel
theorem dMo_waiting_3 : decode cMo_waiting 3 = .ok (.istore_n 2, 1) := by decide +kernel
theorem dMo_waiting_4 : decode cMo_waiting 4 = .ok (.iload_n 2, 1) := by decide +kernel
theorem dMo_waiting_5 : decode cMo_waiting 5 = .ok (.aload_n 0, 1) := by decide +kernel
theorem dMo_waiting_6 : decode cMo_waiting 6 = .ok (.getfield 127, 3) := by decide +kernel
theorem dMo_waiting_9 : decode cMo_waiting 9 = .ok (.if_icmp .ge 26, 3) := by decide +kernel
theorem dMo_waiting_12 : decode cMo_waiting 12 = .ok (.aload_n 0, 1) := by decide +kernel
theorem dMo_waiting_13 : decode cMo_waiting 13 = .ok (.getfield 34, 3) := by decide +kernel
theorem dMo_waiting_16 : decode cMo_waiting 16 = .ok (.iload_n 2, 1) := by decide +kernel
theorem dMo_waiting_17 : decode cMo_waiting 17 = .ok (.baload, 1) := by decide +kernel
theorem dMo_waiting_18 : decode cMo_waiting 18 = .ok (.ifCond .eq 9, 3) := by decide +kernel
theorem dMo_waiting_21 : decode cMo_waiting 21 = .ok (.iload_n 1, 1) := by decide +kernel
theorem dMo_waiting_22 : decode cMo_waiting 22 = .ok (.iconst 1, 1) := by decide +kernel
theorem dMo_waiting_23 : decode cMo_waiting 23 = .ok (.iadd, 1) := by decide +kernel
theorem dMo_waiting_24 : decode cMo_waiting 24 = .ok (.goto 4, 3) := by decide +kernel
theorem dMo_waiting_27 : decode cMo_waiting 27 = .ok (.iload_n 1, 1) := by decide +kernel
theorem dMo_waiting_28 : decode cMo_waiting 28 = .ok (.istore_n 1, 1) := by decide +kernel
theorem dMo_waiting_29 : decode cMo_waiting 29 = .ok (.iinc 2 1, 3) := by decide +kernel
theorem dMo_waiting_32 : decode cMo_waiting 32 = .ok (.goto (-28), 3) := by decide +kernel
theorem dMo_waiting_35 : decode cMo_waiting 35 = .ok (.iload_n 1, 1) := by decide +kernel
theorem dMo_waiting_36 : decode cMo_waiting 36 = .ok (.ireturn, 1) := by decide +kernel
theorem dMo_wordAt_0 : decode cMo_wordAt 0 = .ok (.iconst 0, 1) := by decide +kernel
theorem dMo_wordAt_1 : decode cMo_wordAt 1 = .ok (.istore_n 2, 1) := by decide +kernel
theorem dMo_wordAt_2 : decode cMo_wordAt 2 = .ok (.iload_n 1, 1) := by decide +kernel
theorem dMo_wordAt_3 : decode cMo_wordAt 3 = .ok (.istore_n 3, 1) := by decide +kernel
theorem dMo_wordAt_4 : decode cMo_wordAt 4 = .ok (.iload_n 3, 1) := by decide +kernel
theorem dMo_wordAt_5 : decode cMo_wordAt 5 = .ok (.iload_n 1, 1) := by decide +kernel
theorem dMo_wordAt_6 : decode cMo_wordAt 6 = .ok (.bipush 32, 2) := by decide +kernel
theorem dMo_wordAt_8 : decode cMo_wordAt 8 = .ok (.iadd, 1) := by decide +kernel
theorem dMo_wordAt_9 : decode cMo_wordAt 9 = .ok (.if_icmp .ge 20, 3) := by decide +kernel
theorem dMo_wordAt_12 : decode cMo_wordAt 12 = .ok (.iconst 2, 1) := by decide +kernel
theorem dMo_wordAt_13 : decode cMo_wordAt 13 = .ok (.iload_n 2, 1) := by decide +kernel
theorem dMo_wordAt_14 : decode cMo_wordAt 14 = .ok (.imul, 1) := by decide +kernel
theorem dMo_wordAt_15 : decode cMo_wordAt 15 = .ok (.aload_n 0, 1) := by decide +kernel
theorem dMo_wordAt_16 : decode cMo_wordAt 16 = .ok (.getfield 47, 3) := by decide +kernel
theorem dMo_wordAt_19 : decode cMo_wordAt 19 = .ok (.iload_n 3, 1) := by decide +kernel
theorem dMo_wordAt_20 : decode cMo_wordAt 20 = .ok (.iaload, 1) := by decide +kernel
theorem dMo_wordAt_21 : decode cMo_wordAt 21 = .ok (.iadd, 1) := by decide +kernel
theorem dMo_wordAt_22 : decode cMo_wordAt 22 = .ok (.istore_n 2, 1) := by decide +kernel
theorem dMo_wordAt_23 : decode cMo_wordAt 23 = .ok (.iinc 3 1, 3) := by decide +kernel
theorem dMo_wordAt_26 : decode cMo_wordAt 26 = .ok (.goto (-22), 3) := by decide +kernel
theorem dMo_wordAt_29 : decode cMo_wordAt 29 = .ok (.iload_n 2, 1) := by decide +kernel
theorem dMo_wordAt_30 : decode cMo_wordAt 30 = .ok (.ireturn, 1) := by decide +kernel
theorem dMo_wordsOf_0 : decode cMo_wordsOf 0 = .ok (.aload_n 0, 1) := by decide +kernel
theorem dMo_wordsOf_1 : decode cMo_wordsOf 1 = .ok (.getfield 13, 3) := by decide +kernel
theorem dMo_wordsOf_4 : decode cMo_wordsOf 4 = .ok (.aload_n 0, 1) := by decide +kernel
theorem dMo_wordsOf_5 : decode cMo_wordsOf 5 = .ok (.getfield 19, 3) := by decide +kernel
theorem dMo_wordsOf_8 : decode cMo_wordsOf 8 = .ok (.iload_n 1, 1) := by decide +kernel
theorem dMo_wordsOf_9 : decode cMo_wordsOf 9 = .ok (.iaload, 1) := by decide +kernel
theorem dMo_wordsOf_10 : decode cMo_wordsOf 10 = .ok (.iaload, 1) := by decide +kernel
theorem dMo_wordsOf_11 : decode cMo_wordsOf 11 = .ok (.ifCond .ne 16, 3) := by decide +kernel
theorem dMo_wordsOf_14 : decode cMo_wordsOf 14 = .ok (.iconst 4, 1) := by decide +kernel
theorem dMo_wordsOf_15 : decode cMo_wordsOf 15 = .ok (.aload_n 0, 1) := by decide +kernel
theorem dMo_wordsOf_16 : decode cMo_wordsOf 16 = .ok (.getfield 28, 3) := by decide +kernel
theorem dMo_wordsOf_19 : decode cMo_wordsOf 19 = .ok (.iload_n 1, 1) := by decide +kernel
theorem dMo_wordsOf_20 : decode cMo_wordsOf 20 = .ok (.iaload, 1) := by decide +kernel
theorem dMo_wordsOf_21 : decode cMo_wordsOf 21 = .ok (.iconst 2, 1) := by decide +kernel
theorem dMo_wordsOf_22 : decode cMo_wordsOf 22 = .ok (.iadd, 1) := by decide +kernel
theorem dMo_wordsOf_23 : decode cMo_wordsOf 23 = .ok (.imul, 1) := by decide +kernel
theorem dMo_wordsOf_24 : decode cMo_wordsOf 24 = .ok (.goto 14, 3) := by decide +kernel
theorem dMo_wordsOf_27 : decode cMo_wordsOf 27 = .ok (.bipush 7, 2) := by decide +kernel
theorem dMo_wordsOf_29 : decode cMo_wordsOf 29 = .ok (.aload_n 0, 1) := by decide +kernel
theorem dMo_wordsOf_30 : decode cMo_wordsOf 30 = .ok (.getfield 28, 3) := by decide +kernel
theorem dMo_wordsOf_33 : decode cMo_wordsOf 33 = .ok (.iload_n 1, 1) := by decide +kernel
theorem dMo_wordsOf_34 : decode cMo_wordsOf 34 = .ok (.iaload, 1) := by decide +kernel
theorem dMo_wordsOf_35 : decode cMo_wordsOf 35 = .ok (.iconst 1, 1) := by decide +kernel
theorem dMo_wordsOf_36 : decode cMo_wordsOf 36 = .ok (.iadd, 1) := by decide +kernel
theorem dMo_wordsOf_37 : decode cMo_wordsOf 37 = .ok (.imul, 1) := by decide +kernel
theorem dMo_wordsOf_38 : decode cMo_wordsOf 38 = .ok (.istore_n 2, 1) := by decide +kernel
theorem dMo_wordsOf_39 : decode cMo_wordsOf 39 = .ok (.iconst 1, 1) := by decide +kernel
theorem dMo_wordsOf_40 : decode cMo_wordsOf 40 = .ok (.iload_n 2, 1) := by decide +kernel
theorem dMo_wordsOf_41 : decode cMo_wordsOf 41 = .ok (.bipush 19, 2) := by decide +kernel
theorem dMo_wordsOf_43 : decode cMo_wordsOf 43 = .ok (.iadd, 1) := by decide +kernel
theorem dMo_wordsOf_44 : decode cMo_wordsOf 44 = .ok (.bipush 20, 2) := by decide +kernel
theorem dMo_wordsOf_46 : decode cMo_wordsOf 46 = .ok (.idiv, 1) := by decide +kernel
theorem dMo_wordsOf_47 : decode cMo_wordsOf 47 = .ok (.iadd, 1) := by decide +kernel
theorem dMo_wordsOf_48 : decode cMo_wordsOf 48 = .ok (.ireturn, 1) := by decide +kernel
theorem dIn_bitCount_0 : decode cIn_bitCount 0 = .ok (.iload_n 0, 1) := by decide +kernel
theorem dIn_bitCount_1 : decode cIn_bitCount 1 = .ok (.iload_n 0, 1) := by decide +kernel
theorem dIn_bitCount_2 : decode cIn_bitCount 2 = .ok (.iconst 1, 1) := by decide +kernel
theorem dIn_bitCount_3 : decode cIn_bitCount 3 = .ok (.iushr, 1) := by decide +kernel
theorem dIn_bitCount_4 : decode cIn_bitCount 4 = .ok (.ldc_w 265, 3) := by decide +kernel
theorem dIn_bitCount_7 : decode cIn_bitCount 7 = .ok (.iand, 1) := by decide +kernel
theorem dIn_bitCount_8 : decode cIn_bitCount 8 = .ok (.isub, 1) := by decide +kernel
theorem dIn_bitCount_9 : decode cIn_bitCount 9 = .ok (.istore_n 0, 1) := by decide +kernel
theorem dIn_bitCount_10 : decode cIn_bitCount 10 = .ok (.iload_n 0, 1) := by decide +kernel
theorem dIn_bitCount_11 : decode cIn_bitCount 11 = .ok (.ldc_w 266, 3) := by decide +kernel
theorem dIn_bitCount_14 : decode cIn_bitCount 14 = .ok (.iand, 1) := by decide +kernel
theorem dIn_bitCount_15 : decode cIn_bitCount 15 = .ok (.iload_n 0, 1) := by decide +kernel
theorem dIn_bitCount_16 : decode cIn_bitCount 16 = .ok (.iconst 2, 1) := by decide +kernel
theorem dIn_bitCount_17 : decode cIn_bitCount 17 = .ok (.iushr, 1) := by decide +kernel
theorem dIn_bitCount_18 : decode cIn_bitCount 18 = .ok (.ldc_w 266, 3) := by decide +kernel
theorem dIn_bitCount_21 : decode cIn_bitCount 21 = .ok (.iand, 1) := by decide +kernel
theorem dIn_bitCount_22 : decode cIn_bitCount 22 = .ok (.iadd, 1) := by decide +kernel
theorem dIn_bitCount_23 : decode cIn_bitCount 23 = .ok (.istore_n 0, 1) := by decide +kernel
theorem dIn_bitCount_24 : decode cIn_bitCount 24 = .ok (.iload_n 0, 1) := by decide +kernel
theorem dIn_bitCount_25 : decode cIn_bitCount 25 = .ok (.iload_n 0, 1) := by decide +kernel
theorem dIn_bitCount_26 : decode cIn_bitCount 26 = .ok (.iconst 4, 1) := by decide +kernel
theorem dIn_bitCount_27 : decode cIn_bitCount 27 = .ok (.iushr, 1) := by decide +kernel
theorem dIn_bitCount_28 : decode cIn_bitCount 28 = .ok (.iadd, 1) := by decide +kernel
theorem dIn_bitCount_29 : decode cIn_bitCount 29 = .ok (.ldc_w 267, 3) := by decide +kernel
theorem dIn_bitCount_32 : decode cIn_bitCount 32 = .ok (.iand, 1) := by decide +kernel
theorem dIn_bitCount_33 : decode cIn_bitCount 33 = .ok (.istore_n 0, 1) := by decide +kernel
theorem dIn_bitCount_34 : decode cIn_bitCount 34 = .ok (.iload_n 0, 1) := by decide +kernel
theorem dIn_bitCount_35 : decode cIn_bitCount 35 = .ok (.iload_n 0, 1) := by decide +kernel
theorem dIn_bitCount_36 : decode cIn_bitCount 36 = .ok (.bipush 8, 2) := by decide +kernel
theorem dIn_bitCount_38 : decode cIn_bitCount 38 = .ok (.iushr, 1) := by decide +kernel
theorem dIn_bitCount_39 : decode cIn_bitCount 39 = .ok (.iadd, 1) := by decide +kernel
theorem dIn_bitCount_40 : decode cIn_bitCount 40 = .ok (.istore_n 0, 1) := by decide +kernel
theorem dIn_bitCount_41 : decode cIn_bitCount 41 = .ok (.iload_n 0, 1) := by decide +kernel
theorem dIn_bitCount_42 : decode cIn_bitCount 42 = .ok (.iload_n 0, 1) := by decide +kernel
theorem dIn_bitCount_43 : decode cIn_bitCount 43 = .ok (.bipush 16, 2) := by decide +kernel
theorem dIn_bitCount_45 : decode cIn_bitCount 45 = .ok (.iushr, 1) := by decide +kernel
theorem dIn_bitCount_46 : decode cIn_bitCount 46 = .ok (.iadd, 1) := by decide +kernel
theorem dIn_bitCount_47 : decode cIn_bitCount 47 = .ok (.istore_n 0, 1) := by decide +kernel
theorem dIn_bitCount_48 : decode cIn_bitCount 48 = .ok (.iload_n 0, 1) := by decide +kernel
theorem dIn_bitCount_49 : decode cIn_bitCount 49 = .ok (.bipush 63, 2) := by decide +kernel
theorem dIn_bitCount_51 : decode cIn_bitCount 51 = .ok (.iand, 1) := by decide +kernel
theorem dIn_bitCount_52 : decode cIn_bitCount 52 = .ok (.ireturn, 1) := by decide +kernel
theorem dMa_floorMod_0 : decode cMa_floorMod 0 = .ok (.iload_n 0, 1) := by decide +kernel
theorem dMa_floorMod_1 : decode cMa_floorMod 1 = .ok (.iload_n 1, 1) := by decide +kernel
theorem dMa_floorMod_2 : decode cMa_floorMod 2 = .ok (.irem, 1) := by decide +kernel
theorem dMa_floorMod_3 : decode cMa_floorMod 3 = .ok (.istore_n 2, 1) := by decide +kernel
theorem dMa_floorMod_4 : decode cMa_floorMod 4 = .ok (.iload_n 0, 1) := by decide +kernel
theorem dMa_floorMod_5 : decode cMa_floorMod 5 = .ok (.iload_n 1, 1) := by decide +kernel
theorem dMa_floorMod_6 : decode cMa_floorMod 6 = .ok (.ixor, 1) := by decide +kernel
theorem dMa_floorMod_7 : decode cMa_floorMod 7 = .ok (.ifCond .ge 11, 3) := by decide +kernel
theorem dMa_floorMod_10 : decode cMa_floorMod 10 = .ok (.iload_n 2, 1) := by decide +kernel
theorem dMa_floorMod_11 : decode cMa_floorMod 11 = .ok (.ifCond .eq 7, 3) := by decide +kernel
theorem dMa_floorMod_14 : decode cMa_floorMod 14 = .ok (.iload_n 2, 1) := by decide +kernel
theorem dMa_floorMod_15 : decode cMa_floorMod 15 = .ok (.iload_n 1, 1) := by decide +kernel
theorem dMa_floorMod_16 : decode cMa_floorMod 16 = .ok (.iadd, 1) := by decide +kernel
theorem dMa_floorMod_17 : decode cMa_floorMod 17 = .ok (.ireturn, 1) := by decide +kernel
theorem dMa_floorMod_18 : decode cMa_floorMod 18 = .ok (.iload_n 2, 1) := by decide +kernel
theorem dMa_floorMod_19 : decode cMa_floorMod 19 = .ok (.ireturn, 1) := by decide +kernel
theorem dMa_min_0 : decode cMa_min 0 = .ok (.iload_n 0, 1) := by decide +kernel
theorem dMa_min_1 : decode cMa_min 1 = .ok (.iload_n 1, 1) := by decide +kernel
theorem dMa_min_2 : decode cMa_min 2 = .ok (.if_icmp .gt 7, 3) := by decide +kernel
theorem dMa_min_5 : decode cMa_min 5 = .ok (.iload_n 0, 1) := by decide +kernel
theorem dMa_min_6 : decode cMa_min 6 = .ok (.goto 4, 3) := by decide +kernel
theorem dMa_min_9 : decode cMa_min 9 = .ok (.iload_n 1, 1) := by decide +kernel
theorem dMa_min_10 : decode cMa_min 10 = .ok (.ireturn, 1) := by decide +kernel
theorem dAr_copyOf_0 : decode cAr_copyOf 0 = .ok (.iload_n 1, 1) := by decide +kernel
theorem dAr_copyOf_1 : decode cAr_copyOf 1 = .ok (.aload_n 0, 1) := by decide +kernel
theorem dAr_copyOf_2 : decode cAr_copyOf 2 = .ok (.arraylength, 1) := by decide +kernel
theorem dAr_copyOf_3 : decode cAr_copyOf 3 = .ok (.if_icmp .ne 11, 3) := by decide +kernel
theorem dAr_copyOf_6 : decode cAr_copyOf 6 = .ok (.aload_n 0, 1) := by decide +kernel
theorem dAr_copyOf_7 : decode cAr_copyOf 7 = .ok (.invokevirtual 316, 3) := by decide +kernel
theorem dAr_copyOf_10 : decode cAr_copyOf 10 = .ok (.checkcast 317, 3) := by decide +kernel
theorem dAr_copyOf_13 : decode cAr_copyOf 13 = .ok (.areturn, 1) := by decide +kernel
theorem dAr_copyOf_14 : decode cAr_copyOf 14 = .ok (.iload_n 1, 1) := by decide +kernel
theorem dAr_copyOf_15 : decode cAr_copyOf 15 = .ok (.newarray .int, 2) := by decide +kernel
theorem dAr_copyOf_17 : decode cAr_copyOf 17 = .ok (.astore_n 2, 1) := by decide +kernel
theorem dAr_copyOf_18 : decode cAr_copyOf 18 = .ok (.aload_n 0, 1) := by decide +kernel
theorem dAr_copyOf_19 : decode cAr_copyOf 19 = .ok (.iconst 0, 1) := by decide +kernel
theorem dAr_copyOf_20 : decode cAr_copyOf 20 = .ok (.aload_n 2, 1) := by decide +kernel
theorem dAr_copyOf_21 : decode cAr_copyOf 21 = .ok (.iconst 0, 1) := by decide +kernel
theorem dAr_copyOf_22 : decode cAr_copyOf 22 = .ok (.aload_n 0, 1) := by decide +kernel
theorem dAr_copyOf_23 : decode cAr_copyOf 23 = .ok (.arraylength, 1) := by decide +kernel
theorem dAr_copyOf_24 : decode cAr_copyOf 24 = .ok (.iload_n 1, 1) := by decide +kernel
theorem dAr_copyOf_25 : decode cAr_copyOf 25 = .ok (.invokestatic 304, 3) := by decide +kernel
theorem dAr_copyOf_28 : decode cAr_copyOf 28 = .ok (.invokestatic 150, 3) := by decide +kernel
theorem dAr_copyOf_31 : decode cAr_copyOf 31 = .ok (.aload_n 2, 1) := by decide +kernel
theorem dAr_copyOf_32 : decode cAr_copyOf 32 = .ok (.areturn, 1) := by decide +kernel
theorem dAr_fill_0 : decode cAr_fill 0 = .ok (.iconst 0, 1) := by decide +kernel
theorem dAr_fill_1 : decode cAr_fill 1 = .ok (.istore_n 2, 1) := by decide +kernel
theorem dAr_fill_2 : decode cAr_fill 2 = .ok (.aload_n 0, 1) := by decide +kernel
theorem dAr_fill_3 : decode cAr_fill 3 = .ok (.arraylength, 1) := by decide +kernel
theorem dAr_fill_4 : decode cAr_fill 4 = .ok (.istore_n 3, 1) := by decide +kernel
theorem dAr_fill_5 : decode cAr_fill 5 = .ok (.iload_n 2, 1) := by decide +kernel
theorem dAr_fill_6 : decode cAr_fill 6 = .ok (.iload_n 3, 1) := by decide +kernel
theorem dAr_fill_7 : decode cAr_fill 7 = .ok (.if_icmp .ge 13, 3) := by decide +kernel
theorem dAr_fill_10 : decode cAr_fill 10 = .ok (.aload_n 0, 1) := by decide +kernel
theorem dAr_fill_11 : decode cAr_fill 11 = .ok (.iload_n 2, 1) := by decide +kernel
theorem dAr_fill_12 : decode cAr_fill 12 = .ok (.iload_n 1, 1) := by decide +kernel
theorem dAr_fill_13 : decode cAr_fill 13 = .ok (.iastore, 1) := by decide +kernel
theorem dAr_fill_14 : decode cAr_fill 14 = .ok (.iinc 2 1, 3) := by decide +kernel
theorem dAr_fill_17 : decode cAr_fill 17 = .ok (.goto (-12), 3) := by decide +kernel
theorem dAr_fill_20 : decode cAr_fill 20 = .ok (.return_, 1) := by decide +kernel
end
section
theorem zx_0 : Cond.initialized "WakingPagersLaw" ∈ zT := zt_m1 0 rfl rfl
theorem zx_1 : Cond.initialized RWP ∈ zT := zt_m1 1 rfl rfl
theorem zx_2 : Cond.initialized RLy ∈ zT := zt_m1 2 rfl rfl
theorem zx_3 : Cond.initialized RAi ∈ zT := zt_m1 3 rfl rfl
theorem zx_4 : Cond.initialized RLs ∈ zT := zt_m1 4 rfl rfl
theorem zx_5 : Cond.initialized RMo ∈ zT := zt_m1 5 rfl rfl
theorem zx_6 : Cond.initialized "WakingPagers$Repairer" ∈ zT := zt_m1 6 rfl rfl
theorem zx_7 : Cond.initialized "java/lang/Integer" ∈ zT := zt_m1 7 rfl rfl
theorem zx_8 : Cond.initialized RId ∈ zT := zt_m1 8 rfl rfl
theorem zx_9 : Cond.initialized RPg ∈ zT := zt_m1 9 rfl rfl
theorem zx_10 : Cond.initialized RSd ∈ zT := zt_m1 10 rfl rfl
theorem zx_11 : Cond.initialized RHd ∈ zT := zt_m1 11 rfl rfl
theorem zx_12 : Cond.initialized RMs ∈ zT := zt_m1 12 rfl rfl
theorem zx_13 : Cond.initialized "java/util/Arrays" ∈ zT := zt_m1 13 rfl rfl
theorem zx_14 : Cond.initialized "java/lang/Math" ∈ zT := zt_m1 14 rfl rfl
theorem zx_15 : Cond.initialized "java/lang/System" ∈ zT := zt_m1 15 rfl rfl
theorem zx_16 : Cond.classLink "WakingPagersLaw" 7 RWP ∈ zT := zt_m1 16 rfl rfl
theorem zx_17 : Cond.instantiable RWP 12 ∈ zT := zt_m1 17 rfl rfl
theorem zx_18 : Cond.methodLink "WakingPagersLaw" 9 yWP_init ∈ zT := zt_m1 18 rfl rfl
theorem zx_19 : Cond.instanceMethod yWP_init ∈ zT := zt_m1 19 rfl rfl
theorem zx_20 : Cond.code yWP_init cWP_init 1 none ∈ zT := zt_m1 20 rfl rfl
theorem zx_21 : Cond.methodLink RWP 3 objectInit ∈ zT := zt_m1 21 rfl rfl
theorem zx_22 : Cond.instanceMethod objectInit ∈ zT := zt_m1 22 rfl rfl
theorem zx_23 : Cond.code objectInit ⟨#[0xb1]⟩ 1 none ∈ zT := zt_m1 23 rfl rfl
theorem zx_24 : Cond.classLink RWP 9 RId ∈ zT := zt_m1 24 rfl rfl
theorem zx_26 : Cond.classLink RWP 19 RPg ∈ zT := zt_m1 26 rfl rfl
theorem zx_28 : Cond.classLink RWP 28 RMs ∈ zT := zt_m1 28 rfl rfl
theorem zx_30 : Cond.classLink RWP 47 RLy ∈ zT := zt_m1 30 rfl rfl
theorem zx_31 : Cond.instantiable RLy 2 ∈ zT := zt_m1 31 rfl rfl
theorem zx_33 : Cond.instanceMethod yLy_init ∈ zT := zt_m1 33 rfl rfl
theorem zx_34 : Cond.code yLy_init cLy_init 1 none ∈ zT := zt_m1 34 rfl rfl
theorem zx_35 : Cond.methodLink RLy 3 objectInit ∈ zT := zt_m1 35 rfl rfl
theorem zx_36 : Cond.fieldLink RLy 9 "WakingPagers$Layout" "places" "[I" ∈ zT := zt_m1 36 rfl rfl
theorem zx_37 : Cond.fieldLink RWP 125 "WakingPagers$Layout" "places" "[I" ∈ zT := zt_m1 37 rfl rfl
theorem zx_38 : Cond.fieldLink RLy 15 "WakingPagers$Layout" "placeCount" "I" ∈ zT := zt_m1 38 rfl rfl
theorem zx_39 : Cond.laysFinal RLy "WakingPagers$Layout" "places" "[I" ∈ zT := zt_m1 39 rfl rfl
theorem zx_41 : Cond.lays RLy "WakingPagers$Layout" "placeCount" "I" ∈ zT := zt_m1 41 rfl rfl
theorem zx_44 : Cond.arrayClass .int ∈ zT := zt_m1 44 rfl rfl
theorem zx_45 : Cond.classLink RWP 54 RAi ∈ zT := zt_m1 45 rfl rfl
theorem zx_46 : Cond.instantiable RAi 2 ∈ zT := zt_m1 46 rfl rfl
theorem zx_48 : Cond.instanceMethod yAi_init ∈ zT := zt_m1 48 rfl rfl
theorem zx_49 : Cond.code yAi_init cAi_init 1 none ∈ zT := zt_m1 49 rfl rfl
theorem zx_50 : Cond.methodLink RAi 5 objectInit ∈ zT := zt_m1 50 rfl rfl
theorem zx_51 : Cond.fieldLink RAi 11 "WakingPagers$Air" "words" "[I" ∈ zT := zt_m1 51 rfl rfl
theorem zx_52 : Cond.fieldLink RAi 15 "WakingPagers$Air" "bitCount" "I" ∈ zT := zt_m1 52 rfl rfl
theorem zx_53 : Cond.fieldLink RLs 60 "WakingPagers$Air" "bitCount" "I" ∈ zT := zt_m1 53 rfl rfl
theorem zx_54 : Cond.fieldLink RWP 132 "WakingPagers$Air" "bitCount" "I" ∈ zT := zt_m1 54 rfl rfl
theorem zx_55 : Cond.laysFinal RAi "WakingPagers$Air" "words" "[I" ∈ zT := zt_m1 55 rfl rfl
theorem zx_57 : Cond.lays RAi "WakingPagers$Air" "bitCount" "I" ∈ zT := zt_m1 57 rfl rfl
theorem zx_60 : Cond.classLink RWP 61 RLs ∈ zT := zt_m1 60 rfl rfl
theorem zx_61 : Cond.instantiable RLs 8 ∈ zT := zt_m1 61 rfl rfl
theorem zx_63 : Cond.instanceMethod yLs_init ∈ zT := zt_m1 63 rfl rfl
theorem zx_64 : Cond.code yLs_init cLs_init 1 none ∈ zT := zt_m1 64 rfl rfl
theorem zx_65 : Cond.methodLink RLs 3 objectInit ∈ zT := zt_m1 65 rfl rfl
theorem zx_66 : Cond.fieldLink RLs 9 "WakingPagers$Listener" "air" "LWakingPagers$Air;" ∈ zT := zt_m1 66 rfl rfl
theorem zx_67 : Cond.fieldLink RLs 15 "WakingPagers$Listener" "pager" "LWakingPagers$Pager;" ∈ zT := zt_m1 67 rfl rfl
theorem zx_68 : Cond.fieldLink RLs 19 "WakingPagers$Listener" "storedNow" "I" ∈ zT := zt_m1 68 rfl rfl
theorem zx_69 : Cond.fieldLink RLs 23 "WakingPagers$Listener" "running" "LWakingPagers$Heard;" ∈ zT := zt_m1 69 rfl rfl
theorem zx_70 : Cond.fieldLink RLs 27 "WakingPagers$Listener" "signs" "[I" ∈ zT := zt_m1 70 rfl rfl
theorem zx_71 : Cond.fieldLink RLs 31 "WakingPagers$Listener" "signCount" "I" ∈ zT := zt_m1 71 rfl rfl
theorem zx_72 : Cond.fieldLink RLs 34 "WakingPagers$Listener" "partOfSign" "I" ∈ zT := zt_m1 72 rfl rfl
theorem zx_73 : Cond.fieldLink RLs 37 "WakingPagers$Listener" "partBits" "I" ∈ zT := zt_m1 73 rfl rfl
theorem zx_74 : Cond.lays RLs "WakingPagers$Listener" "air" "LWakingPagers$Air;" ∈ zT := zt_m1 74 rfl rfl
theorem zx_76 : Cond.lays RLs "WakingPagers$Listener" "pager" "LWakingPagers$Pager;" ∈ zT := zt_m1 76 rfl rfl
theorem zx_78 : Cond.lays RLs "WakingPagers$Listener" "storedNow" "I" ∈ zT := zt_m1 78 rfl rfl
theorem zx_80 : Cond.lays RLs "WakingPagers$Listener" "running" "LWakingPagers$Heard;" ∈ zT := zt_m1 80 rfl rfl
theorem zx_82 : Cond.laysFinal RLs "WakingPagers$Listener" "signs" "[I" ∈ zT := zt_m1 82 rfl rfl
theorem zx_84 : Cond.lays RLs "WakingPagers$Listener" "signCount" "I" ∈ zT := zt_m1 84 rfl rfl
theorem zx_86 : Cond.lays RLs "WakingPagers$Listener" "partOfSign" "I" ∈ zT := zt_m1 86 rfl rfl
theorem zx_88 : Cond.lays RLs "WakingPagers$Listener" "partBits" "I" ∈ zT := zt_m1 88 rfl rfl
theorem zx_91 : Cond.fieldLink RWP 11 "WakingPagers" "identities" "[LWakingPagers$Identity;" ∈ zT := zt_m1 91 rfl rfl
theorem zx_92 : Cond.fieldLink RWP 15 "WakingPagers" "identityCount" "I" ∈ zT := zt_m1 92 rfl rfl
theorem zx_93 : Cond.fieldLink RWP 21 "WakingPagers" "pagers" "[LWakingPagers$Pager;" ∈ zT := zt_m1 93 rfl rfl
theorem zx_94 : Cond.fieldLink RWP 25 "WakingPagers" "pagerCount" "I" ∈ zT := zt_m1 94 rfl rfl
theorem zx_95 : Cond.fieldLink RWP 30 "WakingPagers" "messages" "[LWakingPagers$Message;" ∈ zT := zt_m1 95 rfl rfl
theorem zx_96 : Cond.fieldLink RWP 34 "WakingPagers" "messageCount" "I" ∈ zT := zt_m1 96 rfl rfl
theorem zx_97 : Cond.fieldLink RWP 37 "WakingPagers" "waitingCount" "I" ∈ zT := zt_m1 97 rfl rfl
theorem zx_98 : Cond.fieldLink RWP 40 "WakingPagers" "loaded" "[I" ∈ zT := zt_m1 98 rfl rfl
theorem zx_99 : Cond.fieldLink RWP 44 "WakingPagers" "loadedCount" "I" ∈ zT := zt_m1 99 rfl rfl
theorem zx_100 : Cond.fieldLink RWP 50 "WakingPagers" "layout" "LWakingPagers$Layout;" ∈ zT := zt_m1 100 rfl rfl
theorem zx_101 : Cond.fieldLink RWP 57 "WakingPagers" "air" "LWakingPagers$Air;" ∈ zT := zt_m1 101 rfl rfl
theorem zx_102 : Cond.fieldLink RWP 64 "WakingPagers" "listener" "LWakingPagers$Listener;" ∈ zT := zt_m1 102 rfl rfl
theorem zx_103 : Cond.laysFinal RWP "WakingPagers" "identities" "[LWakingPagers$Identity;" ∈ zT := zt_m1 103 rfl rfl
theorem zx_105 : Cond.lays RWP "WakingPagers" "identityCount" "I" ∈ zT := zt_m1 105 rfl rfl
theorem zx_107 : Cond.laysFinal RWP "WakingPagers" "pagers" "[LWakingPagers$Pager;" ∈ zT := zt_m1 107 rfl rfl
theorem zx_109 : Cond.lays RWP "WakingPagers" "pagerCount" "I" ∈ zT := zt_m1 109 rfl rfl
theorem zx_111 : Cond.laysFinal RWP "WakingPagers" "messages" "[LWakingPagers$Message;" ∈ zT := zt_m1 111 rfl rfl
theorem zx_113 : Cond.lays RWP "WakingPagers" "messageCount" "I" ∈ zT := zt_m1 113 rfl rfl
theorem zx_115 : Cond.lays RWP "WakingPagers" "waitingCount" "I" ∈ zT := zt_m1 115 rfl rfl
theorem zx_117 : Cond.laysFinal RWP "WakingPagers" "loaded" "[I" ∈ zT := zt_m1 117 rfl rfl
theorem zx_119 : Cond.lays RWP "WakingPagers" "loadedCount" "I" ∈ zT := zt_m1 119 rfl rfl
theorem zx_121 : Cond.laysFinal RWP "WakingPagers" "layout" "LWakingPagers$Layout;" ∈ zT := zt_m1 121 rfl rfl
theorem zx_123 : Cond.laysFinal RWP "WakingPagers" "air" "LWakingPagers$Air;" ∈ zT := zt_m1 123 rfl rfl
theorem zx_125 : Cond.laysFinal RWP "WakingPagers" "listener" "LWakingPagers$Listener;" ∈ zT := zt_m1 125 rfl rfl
theorem zx_128 : Cond.methodLink "WakingPagersLaw" 13 yWP_code ∈ zT := zt_m1 128 rfl rfl
theorem zx_129 : Cond.instanceMethod yWP_code ∈ zT := zt_m1 129 rfl rfl
theorem zx_130 : Cond.selects RWP yWP_code yWP_code ∈ zT := zt_m1 130 rfl rfl
theorem zx_131 : Cond.code yWP_code cWP_code 2 (some .int) ∈ zT := zt_m1 131 rfl rfl
theorem zx_132 : Jvm.Cond.constant RWP 68 (2097152 : Int32) ∈ zT := zt_m1 132 rfl rfl
theorem zx_133 : Cond.methodLink RWP 69 yWP_codewordOf ∈ zT := zt_m1 133 rfl rfl
theorem zx_134 : Cond.static yWP_codewordOf ∈ zT := zt_m1 134 rfl rfl
theorem zx_135 : Cond.code yWP_codewordOf cWP_codewordOf 3 (some .int) ∈ zT := zt_m1 135 rfl rfl
theorem zx_136 : Cond.methodLink RWP 229 yRp_remainder ∈ zT := zt_m1 136 rfl rfl
theorem zx_137 : Cond.static yRp_remainder ∈ zT := zt_m1 137 rfl rfl
theorem zx_138 : Cond.code yRp_remainder cRp_remainder 3 (some .int) ∈ zT := zt_m1 138 rfl rfl
theorem zx_139 : Cond.methodLink RWP 232 yIn_bitCount ∈ zT := zt_m1 139 rfl rfl
theorem zx_140 : Cond.static yIn_bitCount ∈ zT := zt_m1 140 rfl rfl
theorem zx_141 : Cond.code yIn_bitCount cIn_bitCount 1 (some .int) ∈ zT := zt_m1 141 rfl rfl
theorem zx_142 : Jvm.Cond.constant "java/lang/Integer" 265 (1431655765 : Int32) ∈ zT := zt_m1 142 rfl rfl
theorem zx_143 : Jvm.Cond.constant "java/lang/Integer" 266 (858993459 : Int32) ∈ zT := zt_m1 143 rfl rfl
theorem zx_144 : Jvm.Cond.constant "java/lang/Integer" 267 (252645135 : Int32) ∈ zT := zt_m1 144 rfl rfl
theorem zx_145 : Cond.methodLink "WakingPagersLaw" 18 yWP_repair ∈ zT := zt_m1 145 rfl rfl
theorem zx_146 : Cond.instanceMethod yWP_repair ∈ zT := zt_m1 146 rfl rfl
theorem zx_147 : Cond.selects RWP yWP_repair yWP_repair ∈ zT := zt_m1 147 rfl rfl
theorem zx_148 : Cond.code yWP_repair cWP_repair 3 (some .int) ∈ zT := zt_m1 148 rfl rfl
theorem zx_149 : Cond.methodLink RWP 73 yRp_wrongBits ∈ zT := zt_m1 149 rfl rfl
theorem zx_150 : Cond.static yRp_wrongBits ∈ zT := zt_m1 150 rfl rfl
theorem zx_151 : Cond.code yRp_wrongBits cRp_wrongBits 2 (some .int) ∈ zT := zt_m1 151 rfl rfl
theorem zx_152 : Cond.methodLink "WakingPagers$Repairer" 20 yRp_traceOf ∈ zT := zt_m1 152 rfl rfl
theorem zx_153 : Cond.static yRp_traceOf ∈ zT := zt_m1 153 rfl rfl
theorem zx_154 : Cond.code yRp_traceOf cRp_traceOf 1 (some .int) ∈ zT := zt_m1 154 rfl rfl
theorem zx_155 : Cond.methodLink "WakingPagers$Repairer" 11 yRp_remainder ∈ zT := zt_m1 155 rfl rfl
theorem zx_156 : Cond.methodLink "WakingPagers$Repairer" 15 yIn_bitCount ∈ zT := zt_m1 156 rfl rfl
theorem zx_157 : Cond.methodLink "WakingPagers$Repairer" 23 yRp_oneWrongBit ∈ zT := zt_m1 157 rfl rfl
theorem zx_158 : Cond.static yRp_oneWrongBit ∈ zT := zt_m1 158 rfl rfl
theorem zx_159 : Cond.code yRp_oneWrongBit cRp_oneWrongBit 2 (some .int) ∈ zT := zt_m1 159 rfl rfl
theorem zx_160 : Cond.fieldLink "WakingPagers$Repairer" 29 "WakingPagers$Repairer" "TRACES" "[I" ∈ zT := zt_m1 160 rfl rfl
theorem zx_162 : Cond.methodLink "WakingPagers$Repairer" 26 yRp_twoWrongBits ∈ zT := zt_m1 162 rfl rfl
theorem zx_163 : Cond.static yRp_twoWrongBits ∈ zT := zt_m1 163 rfl rfl
theorem zx_164 : Cond.code yRp_twoWrongBits cRp_twoWrongBits 3 (some .int) ∈ zT := zt_m1 164 rfl rfl
theorem zx_165 : Cond.methodLink "WakingPagersLaw" 22 yWP_identity ∈ zT := zt_m1 165 rfl rfl
theorem zx_166 : Cond.instanceMethod yWP_identity ∈ zT := zt_m1 166 rfl rfl
theorem zx_167 : Cond.selects RWP yWP_identity yWP_identity ∈ zT := zt_m1 167 rfl rfl
theorem zx_168 : Cond.code yWP_identity cWP_identity 3 (some .int) ∈ zT := zt_m1 168 rfl rfl
theorem zx_169 : Jvm.Cond.constant RWP 78 (250958 : Int32) ∈ zT := zt_m1 169 rfl rfl
theorem zx_170 : Cond.methodLink RWP 79 yWP_isAddressUsed ∈ zT := zt_m1 170 rfl rfl
theorem zx_172 : Cond.instanceMethod yWP_isAddressUsed ∈ zT := zt_m1 172 rfl rfl
theorem zx_173 : Cond.code yWP_isAddressUsed cWP_isAddressUsed 3 (some .boolean) ∈ zT := zt_m1 173 rfl rfl
theorem zx_174 : Cond.instantiable RId 11 ∈ zT := zt_m1 174 rfl rfl
theorem zx_175 : Cond.methodLink RWP 83 yId_init ∈ zT := zt_m1 175 rfl rfl
theorem zx_176 : Cond.instanceMethod yId_init ∈ zT := zt_m1 176 rfl rfl
theorem zx_177 : Cond.code yId_init cId_init 4 none ∈ zT := zt_m1 177 rfl rfl
theorem zx_178 : Cond.methodLink RId 3 objectInit ∈ zT := zt_m1 178 rfl rfl
theorem zx_180 : Cond.fieldLink RId 18 "WakingPagers$Identity" "index" "I" ∈ zT := zt_m1 180 rfl rfl
theorem zx_181 : Cond.fieldLink RPg 44 "WakingPagers$Identity" "index" "I" ∈ zT := zt_m1 181 rfl rfl
theorem zx_182 : Cond.fieldLink RLs 152 "WakingPagers$Identity" "index" "I" ∈ zT := zt_m1 182 rfl rfl
theorem zx_183 : Cond.fieldLink RId 21 "WakingPagers$Identity" "address" "I" ∈ zT := zt_m1 183 rfl rfl
theorem zx_184 : Cond.fieldLink RWP 204 "WakingPagers$Identity" "address" "I" ∈ zT := zt_m1 184 rfl rfl
theorem zx_185 : Cond.fieldLink RId 24 "WakingPagers$Identity" "isText" "Z" ∈ zT := zt_m1 185 rfl rfl
theorem zx_186 : Cond.fieldLink RId 28 "WakingPagers$Identity" "frame" "I" ∈ zT := zt_m1 186 rfl rfl
theorem zx_187 : Cond.fieldLink RPg 60 "WakingPagers$Identity" "frame" "I" ∈ zT := zt_m1 187 rfl rfl
theorem zx_188 : Cond.fieldLink RLy 50 "WakingPagers$Identity" "frame" "I" ∈ zT := zt_m1 188 rfl rfl
theorem zx_189 : Cond.fieldLink RId 35 "WakingPagers$Identity" "addressWord" "I" ∈ zT := zt_m1 189 rfl rfl
theorem zx_190 : Cond.fieldLink RMs 46 "WakingPagers$Identity" "addressWord" "I" ∈ zT := zt_m1 190 rfl rfl
theorem zx_191 : Cond.fieldLink RPg 63 "WakingPagers$Identity" "addressWord" "I" ∈ zT := zt_m1 191 rfl rfl
theorem zx_192 : Cond.fieldLink RId 38 "WakingPagers$Identity" "leastSign" "I" ∈ zT := zt_m1 192 rfl rfl
theorem zx_193 : Cond.fieldLink RWP 207 "WakingPagers$Identity" "leastSign" "I" ∈ zT := zt_m1 193 rfl rfl
theorem zx_194 : Cond.fieldLink RId 41 "WakingPagers$Identity" "greatestSign" "I" ∈ zT := zt_m1 194 rfl rfl
theorem zx_195 : Cond.fieldLink RWP 210 "WakingPagers$Identity" "greatestSign" "I" ∈ zT := zt_m1 195 rfl rfl
theorem zx_196 : Cond.fieldLink RId 44 "WakingPagers$Identity" "signBits" "I" ∈ zT := zt_m1 196 rfl rfl
theorem zx_197 : Cond.fieldLink RMs 43 "WakingPagers$Identity" "signBits" "I" ∈ zT := zt_m1 197 rfl rfl
theorem zx_198 : Cond.fieldLink RLs 119 "WakingPagers$Identity" "signBits" "I" ∈ zT := zt_m1 198 rfl rfl
theorem zx_199 : Cond.fieldLink RId 47 "WakingPagers$Identity" "filler" "I" ∈ zT := zt_m1 199 rfl rfl
theorem zx_200 : Cond.fieldLink RMs 62 "WakingPagers$Identity" "filler" "I" ∈ zT := zt_m1 200 rfl rfl
theorem zx_201 : Cond.fieldLink RLs 145 "WakingPagers$Identity" "filler" "I" ∈ zT := zt_m1 201 rfl rfl
theorem zx_202 : Cond.fieldLink RId 9 "WakingPagers$Identity" "called" "I" ∈ zT := zt_m1 202 rfl rfl
theorem zx_203 : Cond.fieldLink RWP 109 "WakingPagers$Identity" "called" "I" ∈ zT := zt_m1 203 rfl rfl
theorem zx_204 : Cond.fieldLink RId 15 "WakingPagers$Identity" "nextPlace" "I" ∈ zT := zt_m1 204 rfl rfl
theorem zx_205 : Cond.fieldLink RLy 35 "WakingPagers$Identity" "nextPlace" "I" ∈ zT := zt_m1 205 rfl rfl
theorem zx_206 : Cond.fieldLink RWP 216 "WakingPagers$Identity" "nextPlace" "I" ∈ zT := zt_m1 206 rfl rfl
theorem zx_207 : Cond.laysFinal RId "WakingPagers$Identity" "index" "I" ∈ zT := zt_m1 207 rfl rfl
theorem zx_209 : Cond.laysFinal RId "WakingPagers$Identity" "address" "I" ∈ zT := zt_m1 209 rfl rfl
theorem zx_211 : Cond.laysFinal RId "WakingPagers$Identity" "isText" "Z" ∈ zT := zt_m1 211 rfl rfl
theorem zx_213 : Cond.laysFinal RId "WakingPagers$Identity" "frame" "I" ∈ zT := zt_m1 213 rfl rfl
theorem zx_215 : Cond.laysFinal RId "WakingPagers$Identity" "addressWord" "I" ∈ zT := zt_m1 215 rfl rfl
theorem zx_217 : Cond.laysFinal RId "WakingPagers$Identity" "leastSign" "I" ∈ zT := zt_m1 217 rfl rfl
theorem zx_219 : Cond.laysFinal RId "WakingPagers$Identity" "greatestSign" "I" ∈ zT := zt_m1 219 rfl rfl
theorem zx_221 : Cond.laysFinal RId "WakingPagers$Identity" "signBits" "I" ∈ zT := zt_m1 221 rfl rfl
theorem zx_223 : Cond.laysFinal RId "WakingPagers$Identity" "filler" "I" ∈ zT := zt_m1 223 rfl rfl
theorem zx_225 : Cond.lays RId "WakingPagers$Identity" "called" "I" ∈ zT := zt_m1 225 rfl rfl
theorem zx_227 : Cond.lays RId "WakingPagers$Identity" "nextPlace" "I" ∈ zT := zt_m1 227 rfl rfl
theorem zx_230 : Cond.methodLink "WakingPagersLaw" 27 yWP_pager ∈ zT := zt_m1 230 rfl rfl
theorem zx_231 : Cond.instanceMethod yWP_pager ∈ zT := zt_m1 231 rfl rfl
theorem zx_232 : Cond.selects RWP yWP_pager yWP_pager ∈ zT := zt_m1 232 rfl rfl
theorem zx_233 : Cond.code yWP_pager cWP_pager 1 (some .int) ∈ zT := zt_m1 233 rfl rfl
theorem zx_234 : Cond.instantiable RPg 9 ∈ zT := zt_m1 234 rfl rfl
theorem zx_235 : Cond.methodLink RWP 86 yPg_init ∈ zT := zt_m1 235 rfl rfl
theorem zx_236 : Cond.instanceMethod yPg_init ∈ zT := zt_m1 236 rfl rfl
theorem zx_237 : Cond.code yPg_init cPg_init 2 none ∈ zT := zt_m1 237 rfl rfl
theorem zx_238 : Cond.methodLink RPg 1 objectInit ∈ zT := zt_m1 238 rfl rfl
theorem zx_239 : Cond.classLink RPg 9 RHd ∈ zT := zt_m1 239 rfl rfl
theorem zx_241 : Cond.classLink RPg 19 RSd ∈ zT := zt_m2 1 rfl rfl
theorem zx_243 : Cond.instantiable RSd 5 ∈ zT := zt_m2 3 rfl rfl
theorem zx_245 : Cond.instanceMethod ySd_init ∈ zT := zt_m2 5 rfl rfl
theorem zx_246 : Cond.code ySd_init cSd_init 1 none ∈ zT := zt_m2 6 rfl rfl
theorem zx_247 : Cond.methodLink RSd 3 objectInit ∈ zT := zt_m2 7 rfl rfl
theorem zx_248 : Cond.fieldLink RSd 9 "WakingPagers$Stored" "identity" "I" ∈ zT := zt_m2 8 rfl rfl
theorem zx_249 : Cond.fieldLink RLs 155 "WakingPagers$Stored" "identity" "I" ∈ zT := zt_m2 9 rfl rfl
theorem zx_250 : Cond.fieldLink RWP 155 "WakingPagers$Stored" "identity" "I" ∈ zT := zt_m2 10 rfl rfl
theorem zx_251 : Cond.fieldLink RSd 15 "WakingPagers$Stored" "number" "I" ∈ zT := zt_m2 11 rfl rfl
theorem zx_252 : Cond.fieldLink RLs 159 "WakingPagers$Stored" "number" "I" ∈ zT := zt_m2 12 rfl rfl
theorem zx_253 : Cond.fieldLink RWP 160 "WakingPagers$Stored" "number" "I" ∈ zT := zt_m2 13 rfl rfl
theorem zx_254 : Cond.fieldLink RSd 18 "WakingPagers$Stored" "marked" "Z" ∈ zT := zt_m2 14 rfl rfl
theorem zx_255 : Cond.fieldLink RLs 162 "WakingPagers$Stored" "marked" "Z" ∈ zT := zt_m2 15 rfl rfl
theorem zx_256 : Cond.fieldLink RWP 166 "WakingPagers$Stored" "marked" "Z" ∈ zT := zt_m2 16 rfl rfl
theorem zx_257 : Cond.fieldLink RSd 22 "WakingPagers$Stored" "signs" "[I" ∈ zT := zt_m2 17 rfl rfl
theorem zx_258 : Cond.fieldLink RLs 167 "WakingPagers$Stored" "signs" "[I" ∈ zT := zt_m2 18 rfl rfl
theorem zx_259 : Cond.fieldLink RWP 170 "WakingPagers$Stored" "signs" "[I" ∈ zT := zt_m2 19 rfl rfl
theorem zx_260 : Cond.fieldLink RSd 26 "WakingPagers$Stored" "signCount" "I" ∈ zT := zt_m2 20 rfl rfl
theorem zx_261 : Cond.fieldLink RLs 166 "WakingPagers$Stored" "signCount" "I" ∈ zT := zt_m2 21 rfl rfl
theorem zx_262 : Cond.fieldLink RWP 163 "WakingPagers$Stored" "signCount" "I" ∈ zT := zt_m2 22 rfl rfl
theorem zx_263 : Cond.lays RSd "WakingPagers$Stored" "identity" "I" ∈ zT := zt_m2 23 rfl rfl
theorem zx_265 : Cond.lays RSd "WakingPagers$Stored" "number" "I" ∈ zT := zt_m2 25 rfl rfl
theorem zx_267 : Cond.lays RSd "WakingPagers$Stored" "marked" "Z" ∈ zT := zt_m2 27 rfl rfl
theorem zx_269 : Cond.laysFinal RSd "WakingPagers$Stored" "signs" "[I" ∈ zT := zt_m2 29 rfl rfl
theorem zx_271 : Cond.lays RSd "WakingPagers$Stored" "signCount" "I" ∈ zT := zt_m2 31 rfl rfl
theorem zx_274 : Cond.fieldLink RPg 11 "WakingPagers$Pager" "heard" "[LWakingPagers$Heard;" ∈ zT := zt_m2 34 rfl rfl
theorem zx_275 : Cond.fieldLink RPg 15 "WakingPagers$Pager" "heardCount" "I" ∈ zT := zt_m2 35 rfl rfl
theorem zx_276 : Cond.fieldLink RWP 99 "WakingPagers$Pager" "heardCount" "I" ∈ zT := zt_m2 36 rfl rfl
theorem zx_277 : Cond.fieldLink RPg 21 "WakingPagers$Pager" "ring" "[LWakingPagers$Stored;" ∈ zT := zt_m2 37 rfl rfl
theorem zx_278 : Cond.fieldLink RPg 25 "WakingPagers$Pager" "oldest" "I" ∈ zT := zt_m2 38 rfl rfl
theorem zx_279 : Cond.fieldLink RPg 28 "WakingPagers$Pager" "storedCount" "I" ∈ zT := zt_m2 39 rfl rfl
theorem zx_280 : Cond.fieldLink RWP 148 "WakingPagers$Pager" "storedCount" "I" ∈ zT := zt_m2 40 rfl rfl
theorem zx_281 : Cond.fieldLink RPg 31 "WakingPagers$Pager" "bitsAwake" "I" ∈ zT := zt_m2 41 rfl rfl
theorem zx_282 : Cond.fieldLink RLs 66 "WakingPagers$Pager" "bitsAwake" "I" ∈ zT := zt_m2 42 rfl rfl
theorem zx_283 : Cond.fieldLink RWP 183 "WakingPagers$Pager" "bitsAwake" "I" ∈ zT := zt_m2 43 rfl rfl
theorem zx_284 : Cond.fieldLink RPg 34 "WakingPagers$Pager" "bitsRepaired" "I" ∈ zT := zt_m2 44 rfl rfl
theorem zx_285 : Cond.fieldLink RLs 92 "WakingPagers$Pager" "bitsRepaired" "I" ∈ zT := zt_m2 45 rfl rfl
theorem zx_286 : Cond.fieldLink RWP 186 "WakingPagers$Pager" "bitsRepaired" "I" ∈ zT := zt_m2 46 rfl rfl
theorem zx_287 : Cond.fieldLink RPg 37 "WakingPagers$Pager" "wordsBroken" "I" ∈ zT := zt_m2 47 rfl rfl
theorem zx_288 : Cond.fieldLink RLs 89 "WakingPagers$Pager" "wordsBroken" "I" ∈ zT := zt_m2 48 rfl rfl
theorem zx_289 : Cond.fieldLink RWP 189 "WakingPagers$Pager" "wordsBroken" "I" ∈ zT := zt_m2 49 rfl rfl
theorem zx_290 : Cond.fieldLink RPg 40 "WakingPagers$Pager" "messagesLost" "I" ∈ zT := zt_m2 50 rfl rfl
theorem zx_291 : Cond.fieldLink RLs 131 "WakingPagers$Pager" "messagesLost" "I" ∈ zT := zt_m2 51 rfl rfl
theorem zx_292 : Cond.fieldLink RWP 192 "WakingPagers$Pager" "messagesLost" "I" ∈ zT := zt_m2 52 rfl rfl
theorem zx_293 : Cond.laysFinal RPg "WakingPagers$Pager" "heard" "[LWakingPagers$Heard;" ∈ zT := zt_m2 53 rfl rfl
theorem zx_295 : Cond.lays RPg "WakingPagers$Pager" "heardCount" "I" ∈ zT := zt_m2 55 rfl rfl
theorem zx_297 : Cond.laysFinal RPg "WakingPagers$Pager" "ring" "[LWakingPagers$Stored;" ∈ zT := zt_m2 57 rfl rfl
theorem zx_299 : Cond.lays RPg "WakingPagers$Pager" "oldest" "I" ∈ zT := zt_m2 59 rfl rfl
theorem zx_301 : Cond.lays RPg "WakingPagers$Pager" "storedCount" "I" ∈ zT := zt_m2 61 rfl rfl
theorem zx_303 : Cond.lays RPg "WakingPagers$Pager" "bitsAwake" "I" ∈ zT := zt_m2 63 rfl rfl
theorem zx_305 : Cond.lays RPg "WakingPagers$Pager" "bitsRepaired" "I" ∈ zT := zt_m2 65 rfl rfl
theorem zx_307 : Cond.lays RPg "WakingPagers$Pager" "wordsBroken" "I" ∈ zT := zt_m2 67 rfl rfl
theorem zx_309 : Cond.lays RPg "WakingPagers$Pager" "messagesLost" "I" ∈ zT := zt_m2 69 rfl rfl
theorem zx_312 : Cond.methodLink "WakingPagersLaw" 32 yWP_join ∈ zT := zt_m2 72 rfl rfl
theorem zx_313 : Cond.instanceMethod yWP_join ∈ zT := zt_m2 73 rfl rfl
theorem zx_314 : Cond.selects RWP yWP_join yWP_join ∈ zT := zt_m2 74 rfl rfl
theorem zx_315 : Cond.code yWP_join cWP_join 5 (some .int) ∈ zT := zt_m2 75 rfl rfl
theorem zx_316 : Cond.methodLink RWP 87 yWP_pagerAt ∈ zT := zt_m2 76 rfl rfl
theorem zx_318 : Cond.instanceMethod yWP_pagerAt ∈ zT := zt_m2 78 rfl rfl
theorem zx_319 : Cond.code yWP_pagerAt cWP_pagerAt 2 (some (.object "WakingPagers$Pager")) ∈ zT := zt_m2 79 rfl rfl
theorem zx_320 : Cond.methodLink RWP 91 yWP_identityAt ∈ zT := zt_m2 80 rfl rfl
theorem zx_322 : Cond.instanceMethod yWP_identityAt ∈ zT := zt_m2 82 rfl rfl
theorem zx_323 : Cond.code yWP_identityAt cWP_identityAt 2 (some (.object "WakingPagers$Identity")) ∈ zT := zt_m2 83 rfl rfl
theorem zx_324 : Cond.methodLink RWP 95 yPg_addHeard ∈ zT := zt_m2 84 rfl rfl
theorem zx_325 : Cond.instanceMethod yPg_addHeard ∈ zT := zt_m2 85 rfl rfl
theorem zx_326 : Cond.selects RPg yPg_addHeard yPg_addHeard ∈ zT := zt_m2 86 rfl rfl
theorem zx_327 : Cond.code yPg_addHeard cPg_addHeard 2 (some .boolean) ∈ zT := zt_m2 87 rfl rfl
theorem zx_328 : Cond.methodLink RPg 49 yPg_heardOf ∈ zT := zt_m2 88 rfl rfl
theorem zx_329 : Cond.instanceMethod yPg_heardOf ∈ zT := zt_m2 89 rfl rfl
theorem zx_330 : Cond.selects RPg yPg_heardOf yPg_heardOf ∈ zT := zt_m2 90 rfl rfl
theorem zx_331 : Cond.code yPg_heardOf cPg_heardOf 3 (some (.object "WakingPagers$Heard")) ∈ zT := zt_m2 91 rfl rfl
theorem zx_332 : Cond.instantiable RHd 3 ∈ zT := zt_m2 92 rfl rfl
theorem zx_333 : Cond.methodLink RPg 53 yHd_init ∈ zT := zt_m2 93 rfl rfl
theorem zx_334 : Cond.instanceMethod yHd_init ∈ zT := zt_m2 94 rfl rfl
theorem zx_335 : Cond.code yHd_init cHd_init 2 none ∈ zT := zt_m2 95 rfl rfl
theorem zx_336 : Cond.methodLink RHd 3 objectInit ∈ zT := zt_m2 96 rfl rfl
theorem zx_337 : Cond.fieldLink RHd 19 "WakingPagers$Heard" "identity" "LWakingPagers$Identity;" ∈ zT := zt_m2 97 rfl rfl
theorem zx_338 : Cond.fieldLink RPg 56 "WakingPagers$Heard" "identity" "LWakingPagers$Identity;" ∈ zT := zt_m2 98 rfl rfl
theorem zx_339 : Cond.fieldLink RLs 113 "WakingPagers$Heard" "identity" "LWakingPagers$Identity;" ∈ zT := zt_m2 99 rfl rfl
theorem zx_340 : Cond.fieldLink RHd 9 "WakingPagers$Heard" "gaps" "J" ∈ zT := zt_m2 100 rfl rfl
theorem zx_341 : Cond.fieldLink RWP 177 "WakingPagers$Heard" "gaps" "J" ∈ zT := zt_m2 101 rfl rfl
theorem zx_342 : Cond.fieldLink RHd 15 "WakingPagers$Heard" "latest" "I" ∈ zT := zt_m2 102 rfl rfl
theorem zx_343 : Cond.laysFinal RHd "WakingPagers$Heard" "identity" "LWakingPagers$Identity;" ∈ zT := zt_m2 103 rfl rfl
theorem zx_345 : Cond.lays RHd "WakingPagers$Heard" "gaps" "J" ∈ zT := zt_m2 105 rfl rfl
theorem zx_347 : Cond.lays RHd "WakingPagers$Heard" "latest" "I" ∈ zT := zt_m2 107 rfl rfl
theorem zx_350 : Cond.methodLink "WakingPagersLaw" 38 yWP_load ∈ zT := zt_m2 110 rfl rfl
theorem zx_351 : Cond.instanceMethod yWP_load ∈ zT := zt_m2 111 rfl rfl
theorem zx_352 : Cond.selects RWP yWP_load yWP_load ∈ zT := zt_m2 112 rfl rfl
theorem zx_353 : Cond.code yWP_load cWP_load 5 (some .int) ∈ zT := zt_m2 113 rfl rfl
theorem zx_354 : Cond.methodLink RWP 102 yWP_byteOf ∈ zT := zt_m2 114 rfl rfl
theorem zx_355 : Cond.static yWP_byteOf ∈ zT := zt_m2 115 rfl rfl
theorem zx_356 : Cond.code yWP_byteOf cWP_byteOf 3 (some .int) ∈ zT := zt_m2 116 rfl rfl
theorem zx_357 : Cond.methodLink "WakingPagersLaw" 43 yWP_unload ∈ zT := zt_m2 117 rfl rfl
theorem zx_358 : Cond.instanceMethod yWP_unload ∈ zT := zt_m2 118 rfl rfl
theorem zx_359 : Cond.selects RWP yWP_unload yWP_unload ∈ zT := zt_m2 119 rfl rfl
theorem zx_360 : Cond.code yWP_unload cWP_unload 2 (some .int) ∈ zT := zt_m2 120 rfl rfl
theorem zx_361 : Cond.methodLink "WakingPagersLaw" 47 yWP_call ∈ zT := zt_m2 121 rfl rfl
theorem zx_362 : Cond.instanceMethod yWP_call ∈ zT := zt_m2 122 rfl rfl
theorem zx_363 : Cond.selects RWP yWP_call yWP_call ∈ zT := zt_m2 123 rfl rfl
theorem zx_364 : Cond.code yWP_call cWP_call 5 (some .int) ∈ zT := zt_m2 124 rfl rfl
theorem zx_365 : Cond.methodLink RWP 106 yWP_areLoadedSignsOf ∈ zT := zt_m2 125 rfl rfl
theorem zx_367 : Cond.instanceMethod yWP_areLoadedSignsOf ∈ zT := zt_m2 127 rfl rfl
theorem zx_368 : Cond.code yWP_areLoadedSignsOf cWP_areLoadedSignsOf 3 (some .boolean) ∈ zT := zt_m2 128 rfl rfl
theorem zx_369 : Cond.instantiable RMs 6 ∈ zT := zt_m2 129 rfl rfl
theorem zx_370 : Cond.methodLink RWP 112 yAr_copyOf ∈ zT := zt_m2 130 rfl rfl
theorem zx_371 : Cond.static yAr_copyOf ∈ zT := zt_m2 131 rfl rfl
theorem zx_372 : Cond.code yAr_copyOf cAr_copyOf 3 (some (.array .int)) ∈ zT := zt_m2 132 rfl rfl
theorem zx_373 : Cond.methodLink "java/util/Arrays" 316 ⟨"[I", "clone", "()Ljava/lang/Object;"⟩ ∈ zT := zt_m2 133 rfl rfl
theorem zx_374 : Cond.sameMethod "[I" "java/lang/Object" "clone" "()Ljava/lang/Object;" ∈ zT := zt_m2 134 rfl rfl
theorem zx_375 : Cond.native ⟨"java/lang/Object", "clone", "()Ljava/lang/Object;"⟩ ∈ zT := zt_m2 135 rfl rfl
theorem zx_376 : Cond.instanceMethod ⟨"java/lang/Object", "clone", "()Ljava/lang/Object;"⟩ ∈ zT := zt_m2 136 rfl rfl
theorem zx_377 : Cond.selects "[I" ⟨"[I", "clone", "()Ljava/lang/Object;"⟩ ⟨"java/lang/Object", "clone", "()Ljava/lang/Object;"⟩ ∈ zT := zt_m2 137 rfl rfl
theorem zx_379 : Cond.classLink "java/util/Arrays" 317 "[I" ∈ zT := zt_m2 139 rfl rfl
theorem zx_380 : Cond.methodLink "java/util/Arrays" 304 yMa_min ∈ zT := zt_m2 140 rfl rfl
theorem zx_381 : Cond.static yMa_min ∈ zT := zt_m2 141 rfl rfl
theorem zx_382 : Cond.code yMa_min cMa_min 2 (some .int) ∈ zT := zt_m2 142 rfl rfl
theorem zx_383 : Cond.methodLink "java/util/Arrays" 150 ⟨"java/lang/System", "arraycopy", "(Ljava/lang/Object;ILjava/lang/Object;II)V"⟩ ∈ zT := zt_m2 143 rfl rfl
theorem zx_384 : Cond.static ⟨"java/lang/System", "arraycopy", "(Ljava/lang/Object;ILjava/lang/Object;II)V"⟩ ∈ zT := zt_m2 144 rfl rfl
theorem zx_385 : Cond.native ⟨"java/lang/System", "arraycopy", "(Ljava/lang/Object;ILjava/lang/Object;II)V"⟩ ∈ zT := zt_m2 145 rfl rfl
theorem zx_386 : Cond.methodLink RWP 118 yMs_init ∈ zT := zt_m2 146 rfl rfl
theorem zx_387 : Cond.instanceMethod yMs_init ∈ zT := zt_m2 147 rfl rfl
theorem zx_388 : Cond.code yMs_init cMs_init 5 none ∈ zT := zt_m2 148 rfl rfl
theorem zx_389 : Cond.methodLink RMs 3 objectInit ∈ zT := zt_m2 149 rfl rfl
theorem zx_390 : Cond.methodLink RMs 30 yMs_wordsOf ∈ zT := zt_m2 150 rfl rfl
theorem zx_391 : Cond.static yMs_wordsOf ∈ zT := zt_m2 151 rfl rfl
theorem zx_392 : Cond.code yMs_wordsOf cMs_wordsOf 10 (some (.array .int)) ∈ zT := zt_m2 152 rfl rfl
theorem zx_393 : Cond.methodLink RMs 37 yId_numberSigns ∈ zT := zt_m2 153 rfl rfl
theorem zx_394 : Cond.instanceMethod yId_numberSigns ∈ zT := zt_m2 154 rfl rfl
theorem zx_395 : Cond.selects RId yId_numberSigns yId_numberSigns ∈ zT := zt_m2 155 rfl rfl
theorem zx_396 : Cond.code yId_numberSigns cId_numberSigns 1 (some .int) ∈ zT := zt_m2 156 rfl rfl
theorem zx_397 : Cond.methodLink RMs 49 yMs_sentSign ∈ zT := zt_m2 157 rfl rfl
theorem zx_398 : Cond.static yMs_sentSign ∈ zT := zt_m2 158 rfl rfl
theorem zx_399 : Cond.code yMs_sentSign cMs_sentSign 5 (some .int) ∈ zT := zt_m2 159 rfl rfl
theorem zx_400 : Cond.methodLink RMs 58 yId_numberSign ∈ zT := zt_m2 160 rfl rfl
theorem zx_401 : Cond.instanceMethod yId_numberSign ∈ zT := zt_m2 161 rfl rfl
theorem zx_402 : Cond.selects RId yId_numberSign yId_numberSign ∈ zT := zt_m2 162 rfl rfl
theorem zx_403 : Cond.code yId_numberSign cId_numberSign 3 (some .int) ∈ zT := zt_m2 163 rfl rfl
theorem zx_404 : Jvm.Cond.constant RMs 53 (1048576 : Int32) ∈ zT := zt_m2 164 rfl rfl
theorem zx_406 : Cond.fieldLink RMs 15 "WakingPagers$Message" "to" "LWakingPagers$Identity;" ∈ zT := zt_m2 166 rfl rfl
theorem zx_407 : Cond.fieldLink RLy 26 "WakingPagers$Message" "to" "LWakingPagers$Identity;" ∈ zT := zt_m2 167 rfl rfl
theorem zx_408 : Cond.fieldLink RWP 195 "WakingPagers$Message" "to" "LWakingPagers$Identity;" ∈ zT := zt_m2 168 rfl rfl
theorem zx_409 : Cond.fieldLink RMs 19 "WakingPagers$Message" "priority" "I" ∈ zT := zt_m2 169 rfl rfl
theorem zx_410 : Cond.fieldLink RWP 222 "WakingPagers$Message" "priority" "I" ∈ zT := zt_m2 170 rfl rfl
theorem zx_411 : Cond.fieldLink RMs 23 "WakingPagers$Message" "number" "I" ∈ zT := zt_m2 171 rfl rfl
theorem zx_412 : Cond.fieldLink RWP 199 "WakingPagers$Message" "number" "I" ∈ zT := zt_m2 172 rfl rfl
theorem zx_413 : Cond.fieldLink RMs 26 "WakingPagers$Message" "signs" "[I" ∈ zT := zt_m2 173 rfl rfl
theorem zx_414 : Cond.fieldLink RWP 200 "WakingPagers$Message" "signs" "[I" ∈ zT := zt_m2 174 rfl rfl
theorem zx_415 : Cond.fieldLink RMs 34 "WakingPagers$Message" "words" "[I" ∈ zT := zt_m2 175 rfl rfl
theorem zx_416 : Cond.fieldLink RLy 32 "WakingPagers$Message" "words" "[I" ∈ zT := zt_m2 176 rfl rfl
theorem zx_417 : Cond.fieldLink RMs 9 "WakingPagers$Message" "waits" "Z" ∈ zT := zt_m2 177 rfl rfl
theorem zx_418 : Cond.fieldLink RWP 219 "WakingPagers$Message" "waits" "Z" ∈ zT := zt_m2 178 rfl rfl
theorem zx_419 : Cond.laysFinal RMs "WakingPagers$Message" "to" "LWakingPagers$Identity;" ∈ zT := zt_m2 179 rfl rfl
theorem zx_421 : Cond.laysFinal RMs "WakingPagers$Message" "priority" "I" ∈ zT := zt_m2 181 rfl rfl
theorem zx_423 : Cond.laysFinal RMs "WakingPagers$Message" "number" "I" ∈ zT := zt_m2 183 rfl rfl
theorem zx_425 : Cond.laysFinal RMs "WakingPagers$Message" "signs" "[I" ∈ zT := zt_m2 185 rfl rfl
theorem zx_427 : Cond.laysFinal RMs "WakingPagers$Message" "words" "[I" ∈ zT := zt_m2 187 rfl rfl
theorem zx_429 : Cond.lays RMs "WakingPagers$Message" "waits" "Z" ∈ zT := zt_m2 189 rfl rfl
theorem zx_432 : Cond.methodLink "WakingPagersLaw" 51 yWP_waiting ∈ zT := zt_m2 192 rfl rfl
theorem zx_433 : Cond.instanceMethod yWP_waiting ∈ zT := zt_m2 193 rfl rfl
theorem zx_434 : Cond.selects RWP yWP_waiting yWP_waiting ∈ zT := zt_m2 194 rfl rfl
theorem zx_435 : Cond.code yWP_waiting cWP_waiting 1 (some .int) ∈ zT := zt_m2 195 rfl rfl
theorem zx_436 : Cond.methodLink "WakingPagersLaw" 55 yWP_transmit ∈ zT := zt_m2 196 rfl rfl
theorem zx_437 : Cond.instanceMethod yWP_transmit ∈ zT := zt_m2 197 rfl rfl
theorem zx_438 : Cond.selects RWP yWP_transmit yWP_transmit ∈ zT := zt_m2 198 rfl rfl
theorem zx_439 : Cond.code yWP_transmit cWP_transmit 2 (some .int) ∈ zT := zt_m2 199 rfl rfl
theorem zx_440 : Cond.methodLink RWP 121 yWP_layMessages ∈ zT := zt_m2 200 rfl rfl
theorem zx_442 : Cond.instanceMethod yWP_layMessages ∈ zT := zt_m2 202 rfl rfl
theorem zx_443 : Cond.code yWP_layMessages cWP_layMessages 5 none ∈ zT := zt_m2 203 rfl rfl
theorem zx_444 : Cond.methodLink RWP 213 yLy_clear ∈ zT := zt_m2 204 rfl rfl
theorem zx_445 : Cond.instanceMethod yLy_clear ∈ zT := zt_m2 205 rfl rfl
theorem zx_446 : Cond.selects RLy yLy_clear yLy_clear ∈ zT := zt_m2 206 rfl rfl
theorem zx_447 : Cond.code yLy_clear cLy_clear 2 none ∈ zT := zt_m2 207 rfl rfl
theorem zx_448 : Jvm.Cond.constant RLy 19 (2055848343 : Int32) ∈ zT := zt_m2 208 rfl rfl
theorem zx_449 : Cond.methodLink RLy 20 yAr_fill ∈ zT := zt_m2 209 rfl rfl
theorem zx_450 : Cond.static yAr_fill ∈ zT := zt_m2 210 rfl rfl
theorem zx_451 : Cond.code yAr_fill cAr_fill 4 none ∈ zT := zt_m2 211 rfl rfl
theorem zx_452 : Cond.methodLink RWP 225 yLy_lay ∈ zT := zt_m2 212 rfl rfl
theorem zx_453 : Cond.instanceMethod yLy_lay ∈ zT := zt_m2 213 rfl rfl
theorem zx_454 : Cond.selects RLy yLy_lay yLy_lay ∈ zT := zt_m2 214 rfl rfl
theorem zx_455 : Cond.code yLy_lay cLy_lay 5 (some .boolean) ∈ zT := zt_m2 215 rfl rfl
theorem zx_456 : Cond.methodLink RLy 40 yLy_findPlace ∈ zT := zt_m2 216 rfl rfl
theorem zx_458 : Cond.instanceMethod yLy_findPlace ∈ zT := zt_m2 218 rfl rfl
theorem zx_459 : Cond.code yLy_findPlace cLy_findPlace 4 (some .int) ∈ zT := zt_m2 219 rfl rfl
theorem zx_460 : Cond.methodLink RLy 53 yLy_areFree ∈ zT := zt_m2 220 rfl rfl
theorem zx_462 : Cond.instanceMethod yLy_areFree ∈ zT := zt_m2 222 rfl rfl
theorem zx_463 : Cond.code yLy_areFree cLy_areFree 4 (some .boolean) ∈ zT := zt_m2 223 rfl rfl
theorem zx_464 : Cond.methodLink RLy 44 ⟨"java/lang/System", "arraycopy", "(Ljava/lang/Object;ILjava/lang/Object;II)V"⟩ ∈ zT := zt_m2 224 rfl rfl
theorem zx_465 : Cond.methodLink RWP 128 yAi_send ∈ zT := zt_m2 225 rfl rfl
theorem zx_466 : Cond.instanceMethod yAi_send ∈ zT := zt_m2 226 rfl rfl
theorem zx_467 : Cond.selects RAi yAi_send yAi_send ∈ zT := zt_m2 227 rfl rfl
theorem zx_468 : Cond.code yAi_send cAi_send 5 none ∈ zT := zt_m2 228 rfl rfl
theorem zx_469 : Jvm.Cond.constant RAi 19 (-1431655766 : Int32) ∈ zT := zt_m2 229 rfl rfl
theorem zx_470 : Jvm.Cond.constant RAi 20 (2094142936 : Int32) ∈ zT := zt_m2 230 rfl rfl
theorem zx_471 : Cond.methodLink RAi 21 ⟨"java/lang/System", "arraycopy", "(Ljava/lang/Object;ILjava/lang/Object;II)V"⟩ ∈ zT := zt_m2 231 rfl rfl
theorem zx_472 : Cond.methodLink "WakingPagersLaw" 59 yWP_bit ∈ zT := zt_m2 232 rfl rfl
theorem zx_473 : Cond.instanceMethod yWP_bit ∈ zT := zt_m2 233 rfl rfl
theorem zx_474 : Cond.selects RWP yWP_bit yWP_bit ∈ zT := zt_m2 234 rfl rfl
theorem zx_475 : Cond.code yWP_bit cWP_bit 2 (some .int) ∈ zT := zt_m2 235 rfl rfl
theorem zx_476 : Cond.methodLink RWP 135 yAi_hasBit ∈ zT := zt_m2 236 rfl rfl
theorem zx_477 : Cond.instanceMethod yAi_hasBit ∈ zT := zt_m2 237 rfl rfl
theorem zx_478 : Cond.selects RAi yAi_hasBit yAi_hasBit ∈ zT := zt_m2 238 rfl rfl
theorem zx_479 : Cond.code yAi_hasBit cAi_hasBit 2 (some .boolean) ∈ zT := zt_m2 239 rfl rfl
theorem zx_480 : Cond.methodLink RWP 138 yAi_bitAt ∈ zT := zt_m3 0 rfl rfl
theorem zx_481 : Cond.instanceMethod yAi_bitAt ∈ zT := zt_m3 1 rfl rfl
theorem zx_482 : Cond.selects RAi yAi_bitAt yAi_bitAt ∈ zT := zt_m3 2 rfl rfl
theorem zx_483 : Cond.code yAi_bitAt cAi_bitAt 2 (some .int) ∈ zT := zt_m3 3 rfl rfl
theorem zx_484 : Cond.methodLink "WakingPagersLaw" 63 yWP_flip ∈ zT := zt_m3 4 rfl rfl
theorem zx_485 : Cond.instanceMethod yWP_flip ∈ zT := zt_m3 5 rfl rfl
theorem zx_486 : Cond.selects RWP yWP_flip yWP_flip ∈ zT := zt_m3 6 rfl rfl
theorem zx_487 : Cond.code yWP_flip cWP_flip 2 (some .int) ∈ zT := zt_m3 7 rfl rfl
theorem zx_488 : Cond.methodLink RWP 141 yAi_changeBit ∈ zT := zt_m3 8 rfl rfl
theorem zx_489 : Cond.instanceMethod yAi_changeBit ∈ zT := zt_m3 9 rfl rfl
theorem zx_490 : Cond.selects RAi yAi_changeBit yAi_changeBit ∈ zT := zt_m3 10 rfl rfl
theorem zx_491 : Cond.code yAi_changeBit cAi_changeBit 2 none ∈ zT := zt_m3 11 rfl rfl
theorem zx_492 : Cond.methodLink "WakingPagersLaw" 67 yWP_hear ∈ zT := zt_m3 12 rfl rfl
theorem zx_493 : Cond.instanceMethod yWP_hear ∈ zT := zt_m3 13 rfl rfl
theorem zx_494 : Cond.selects RWP yWP_hear yWP_hear ∈ zT := zt_m3 14 rfl rfl
theorem zx_495 : Cond.code yWP_hear cWP_hear 4 (some .int) ∈ zT := zt_m3 15 rfl rfl
theorem zx_496 : Cond.methodLink RWP 144 yLs_listen ∈ zT := zt_m3 16 rfl rfl
theorem zx_497 : Cond.instanceMethod yLs_listen ∈ zT := zt_m3 17 rfl rfl
theorem zx_498 : Cond.selects RLs yLs_listen yLs_listen ∈ zT := zt_m3 18 rfl rfl
theorem zx_499 : Cond.code yLs_listen cLs_listen 6 (some .int) ∈ zT := zt_m3 19 rfl rfl
theorem zx_500 : Cond.methodLink RLs 40 yLs_hunt ∈ zT := zt_m3 20 rfl rfl
theorem zx_502 : Cond.instanceMethod yLs_hunt ∈ zT := zt_m3 22 rfl rfl
theorem zx_503 : Cond.code yLs_hunt cLs_hunt 4 (some .int) ∈ zT := zt_m3 23 rfl rfl
theorem zx_504 : Cond.methodLink RLs 63 yAi_bitAt ∈ zT := zt_m3 24 rfl rfl
theorem zx_506 : Cond.static yWP_isSync ∈ zT := zt_m3 26 rfl rfl
theorem zx_507 : Cond.code yWP_isSync cWP_isSync 1 (some .boolean) ∈ zT := zt_m3 27 rfl rfl
theorem zx_508 : Jvm.Cond.constant RWP 236 (2094142936 : Int32) ∈ zT := zt_m3 28 rfl rfl
theorem zx_509 : Cond.methodLink RLs 46 yAi_hasWord ∈ zT := zt_m3 29 rfl rfl
theorem zx_510 : Cond.instanceMethod yAi_hasWord ∈ zT := zt_m3 30 rfl rfl
theorem zx_511 : Cond.selects RAi yAi_hasWord yAi_hasWord ∈ zT := zt_m3 31 rfl rfl
theorem zx_512 : Cond.code yAi_hasWord cAi_hasWord 2 (some .boolean) ∈ zT := zt_m3 32 rfl rfl
theorem zx_513 : Cond.methodLink RLs 50 yLs_takeBatch ∈ zT := zt_m3 33 rfl rfl
theorem zx_515 : Cond.instanceMethod yLs_takeBatch ∈ zT := zt_m3 35 rfl rfl
theorem zx_516 : Cond.code yLs_takeBatch cLs_takeBatch 5 (some .int) ∈ zT := zt_m3 36 rfl rfl
theorem zx_517 : Cond.methodLink RLs 74 yPg_hasFrame ∈ zT := zt_m3 37 rfl rfl
theorem zx_518 : Cond.instanceMethod yPg_hasFrame ∈ zT := zt_m3 38 rfl rfl
theorem zx_519 : Cond.selects RPg yPg_hasFrame yPg_hasFrame ∈ zT := zt_m3 39 rfl rfl
theorem zx_520 : Cond.code yPg_hasFrame cPg_hasFrame 3 (some .boolean) ∈ zT := zt_m3 40 rfl rfl
theorem zx_521 : Cond.methodLink RLs 77 yAi_wordAt ∈ zT := zt_m3 41 rfl rfl
theorem zx_522 : Cond.instanceMethod yAi_wordAt ∈ zT := zt_m3 42 rfl rfl
theorem zx_523 : Cond.selects RAi yAi_wordAt yAi_wordAt ∈ zT := zt_m3 43 rfl rfl
theorem zx_524 : Cond.code yAi_wordAt cAi_wordAt 4 (some .int) ∈ zT := zt_m3 44 rfl rfl
theorem zx_525 : Cond.methodLink RLs 80 yLs_takeWord ∈ zT := zt_m3 45 rfl rfl
theorem zx_527 : Cond.instanceMethod yLs_takeWord ∈ zT := zt_m3 47 rfl rfl
theorem zx_528 : Cond.code yLs_takeWord cLs_takeWord 5 none ∈ zT := zt_m3 48 rfl rfl
theorem zx_529 : Cond.methodLink RLs 84 yRp_wrongBits ∈ zT := zt_m3 49 rfl rfl
theorem zx_530 : Cond.methodLink RLs 56 yLs_endMessage ∈ zT := zt_m3 50 rfl rfl
theorem zx_532 : Cond.instanceMethod yLs_endMessage ∈ zT := zt_m3 52 rfl rfl
theorem zx_533 : Cond.code yLs_endMessage cLs_endMessage 3 none ∈ zT := zt_m3 53 rfl rfl
theorem zx_534 : Cond.methodLink RLs 127 yId_numberIn ∈ zT := zt_m3 54 rfl rfl
theorem zx_535 : Cond.instanceMethod yId_numberIn ∈ zT := zt_m3 55 rfl rfl
theorem zx_536 : Cond.selects RId yId_numberIn yId_numberIn ∈ zT := zt_m3 56 rfl rfl
theorem zx_537 : Cond.code yId_numberIn cId_numberIn 4 (some .int) ∈ zT := zt_m3 57 rfl rfl
theorem zx_538 : Cond.methodLink RId 50 yId_numberSigns ∈ zT := zt_m3 58 rfl rfl
theorem zx_539 : Cond.methodLink RId 54 yId_decimal ∈ zT := zt_m3 59 rfl rfl
theorem zx_540 : Cond.static yId_decimal ∈ zT := zt_m3 60 rfl rfl
theorem zx_541 : Cond.code yId_decimal cId_decimal 2 (some .int) ∈ zT := zt_m3 61 rfl rfl
theorem zx_542 : Cond.methodLink RLs 134 yLs_store ∈ zT := zt_m3 62 rfl rfl
theorem zx_544 : Cond.instanceMethod yLs_store ∈ zT := zt_m3 64 rfl rfl
theorem zx_545 : Cond.code yLs_store cLs_store 7 none ∈ zT := zt_m3 65 rfl rfl
theorem zx_546 : Cond.methodLink RLs 141 yId_numberSigns ∈ zT := zt_m3 66 rfl rfl
theorem zx_547 : Cond.methodLink RLs 148 yPg_nextStored ∈ zT := zt_m3 67 rfl rfl
theorem zx_548 : Cond.instanceMethod yPg_nextStored ∈ zT := zt_m3 68 rfl rfl
theorem zx_549 : Cond.selects RPg yPg_nextStored yPg_nextStored ∈ zT := zt_m3 69 rfl rfl
theorem zx_550 : Cond.code yPg_nextStored cPg_nextStored 2 (some (.object "WakingPagers$Stored")) ∈ zT := zt_m3 70 rfl rfl
theorem zx_551 : Cond.methodLink RLs 168 ⟨"java/lang/System", "arraycopy", "(Ljava/lang/Object;ILjava/lang/Object;II)V"⟩ ∈ zT := zt_m3 71 rfl rfl
theorem zx_552 : Cond.methodLink RLs 138 yHd_noteNumber ∈ zT := zt_m3 72 rfl rfl
theorem zx_553 : Cond.instanceMethod yHd_noteNumber ∈ zT := zt_m3 73 rfl rfl
theorem zx_554 : Cond.selects RHd yHd_noteNumber yHd_noteNumber ∈ zT := zt_m3 74 rfl rfl
theorem zx_555 : Cond.code yHd_noteNumber cHd_noteNumber 4 none ∈ zT := zt_m3 75 rfl rfl
theorem zx_556 : Cond.methodLink RHd 23 yMa_floorMod ∈ zT := zt_m3 76 rfl rfl
theorem zx_557 : Cond.static yMa_floorMod ∈ zT := zt_m3 77 rfl rfl
theorem zx_558 : Cond.code yMa_floorMod cMa_floorMod 3 (some .int) ∈ zT := zt_m3 78 rfl rfl
theorem zx_559 : Jvm.Cond.constantLong RHd 29 (-1 : Int64) ∈ zT := zt_m3 79 rfl rfl
theorem zx_560 : Cond.methodLink RLs 95 yIn_bitCount ∈ zT := zt_m3 80 rfl rfl
theorem zx_561 : Jvm.Cond.constant RLs 99 (1048576 : Int32) ∈ zT := zt_m3 81 rfl rfl
theorem zx_562 : Jvm.Cond.constant RLs 100 (1048575 : Int32) ∈ zT := zt_m3 82 rfl rfl
theorem zx_563 : Cond.methodLink RLs 101 yLs_addContent ∈ zT := zt_m3 83 rfl rfl
theorem zx_565 : Cond.instanceMethod yLs_addContent ∈ zT := zt_m3 85 rfl rfl
theorem zx_566 : Cond.code yLs_addContent cLs_addContent 3 none ∈ zT := zt_m3 86 rfl rfl
theorem zx_567 : Cond.methodLink RLs 124 yLs_addSign ∈ zT := zt_m3 87 rfl rfl
theorem zx_569 : Cond.instanceMethod yLs_addSign ∈ zT := zt_m3 89 rfl rfl
theorem zx_570 : Cond.code yLs_addSign cLs_addSign 2 none ∈ zT := zt_m3 90 rfl rfl
theorem zx_571 : Cond.methodLink RLs 105 yPg_calledBy ∈ zT := zt_m3 91 rfl rfl
theorem zx_572 : Cond.instanceMethod yPg_calledBy ∈ zT := zt_m3 92 rfl rfl
theorem zx_573 : Cond.selects RPg yPg_calledBy yPg_calledBy ∈ zT := zt_m3 93 rfl rfl
theorem zx_574 : Cond.code yPg_calledBy cPg_calledBy 5 (some (.object "WakingPagers$Heard")) ∈ zT := zt_m3 94 rfl rfl
theorem zx_575 : Cond.methodLink RLs 109 yLs_beginMessage ∈ zT := zt_m3 95 rfl rfl
theorem zx_577 : Cond.instanceMethod yLs_beginMessage ∈ zT := zt_m3 97 rfl rfl
theorem zx_578 : Cond.code yLs_beginMessage cLs_beginMessage 2 none ∈ zT := zt_m3 98 rfl rfl
theorem zx_579 : Cond.methodLink RLs 53 yLs_takeSync ∈ zT := zt_m3 99 rfl rfl
theorem zx_581 : Cond.instanceMethod yLs_takeSync ∈ zT := zt_m3 101 rfl rfl
theorem zx_582 : Cond.code yLs_takeSync cLs_takeSync 2 (some .int) ∈ zT := zt_m3 102 rfl rfl
theorem zx_583 : Cond.methodLink "WakingPagersLaw" 71 yWP_kept ∈ zT := zt_m3 103 rfl rfl
theorem zx_584 : Cond.instanceMethod yWP_kept ∈ zT := zt_m3 104 rfl rfl
theorem zx_585 : Cond.selects RWP yWP_kept yWP_kept ∈ zT := zt_m3 105 rfl rfl
theorem zx_586 : Cond.code yWP_kept cWP_kept 3 (some .int) ∈ zT := zt_m3 106 rfl rfl
theorem zx_587 : Cond.methodLink "WakingPagersLaw" 75 yWP_message ∈ zT := zt_m3 107 rfl rfl
theorem zx_588 : Cond.instanceMethod yWP_message ∈ zT := zt_m3 108 rfl rfl
theorem zx_589 : Cond.selects RWP yWP_message yWP_message ∈ zT := zt_m3 109 rfl rfl
theorem zx_590 : Cond.code yWP_message cWP_message 5 (some .int) ∈ zT := zt_m3 110 rfl rfl
theorem zx_591 : Cond.methodLink RWP 151 yWP_storedAt ∈ zT := zt_m3 111 rfl rfl
theorem zx_593 : Cond.instanceMethod yWP_storedAt ∈ zT := zt_m3 113 rfl rfl
theorem zx_594 : Cond.code yWP_storedAt cWP_storedAt 4 (some (.object "WakingPagers$Stored")) ∈ zT := zt_m3 114 rfl rfl
theorem zx_595 : Cond.methodLink RWP 201 yPg_storedAt ∈ zT := zt_m3 115 rfl rfl
theorem zx_596 : Cond.instanceMethod yPg_storedAt ∈ zT := zt_m3 116 rfl rfl
theorem zx_597 : Cond.selects RPg yPg_storedAt yPg_storedAt ∈ zT := zt_m3 117 rfl rfl
theorem zx_598 : Cond.code yPg_storedAt cPg_storedAt 2 (some (.object "WakingPagers$Stored")) ∈ zT := zt_m3 118 rfl rfl
theorem zx_599 : Cond.methodLink "WakingPagersLaw" 80 yWP_sign ∈ zT := zt_m3 119 rfl rfl
theorem zx_600 : Cond.instanceMethod yWP_sign ∈ zT := zt_m3 120 rfl rfl
theorem zx_601 : Cond.selects RWP yWP_sign yWP_sign ∈ zT := zt_m3 121 rfl rfl
theorem zx_602 : Cond.code yWP_sign cWP_sign 5 (some .int) ∈ zT := zt_m3 122 rfl rfl
theorem zx_603 : Cond.methodLink "WakingPagersLaw" 84 yWP_missed ∈ zT := zt_m3 123 rfl rfl
theorem zx_604 : Cond.instanceMethod yWP_missed ∈ zT := zt_m3 124 rfl rfl
theorem zx_605 : Cond.selects RWP yWP_missed yWP_missed ∈ zT := zt_m3 125 rfl rfl
theorem zx_606 : Cond.code yWP_missed cWP_missed 5 (some .long) ∈ zT := zt_m3 126 rfl rfl
theorem zx_607 : Cond.methodLink RWP 173 yPg_heardOf ∈ zT := zt_m3 127 rfl rfl
theorem zx_608 : Cond.methodLink "WakingPagersLaw" 89 yWP_count ∈ zT := zt_m3 128 rfl rfl
theorem zx_609 : Cond.instanceMethod yWP_count ∈ zT := zt_m3 129 rfl rfl
theorem zx_610 : Cond.selects RWP yWP_count yWP_count ∈ zT := zt_m3 130 rfl rfl
theorem zx_611 : Cond.code yWP_count cWP_count 4 (some .int) ∈ zT := zt_m3 131 rfl rfl
theorem zx_612 : Cond.methodLink "WakingPagersLaw" 93 yWP_desk ∈ zT := zt_m3 132 rfl rfl
theorem zx_613 : Cond.instanceMethod yWP_desk ∈ zT := zt_m3 133 rfl rfl
theorem zx_614 : Cond.selects RWP yWP_desk yWP_desk ∈ zT := zt_m3 134 rfl rfl
theorem zx_615 : Cond.code yWP_desk cWP_desk 7 (some .int) ∈ zT := zt_m3 135 rfl rfl
theorem zx_616 : Cond.classLink "WakingPagersLaw" 10 RMo ∈ zT := zt_m3 136 rfl rfl
theorem zx_617 : Cond.instantiable RMo 37 ∈ zT := zt_m3 137 rfl rfl
theorem zx_618 : Cond.methodLink "WakingPagersLaw" 12 yMo_init ∈ zT := zt_m3 138 rfl rfl
theorem zx_619 : Cond.instanceMethod yMo_init ∈ zT := zt_m3 139 rfl rfl
theorem zx_620 : Cond.code yMo_init cMo_init 1 none ∈ zT := zt_m3 140 rfl rfl
theorem zx_621 : Cond.methodLink RMo 1 objectInit ∈ zT := zt_m3 141 rfl rfl
theorem zx_622 : Cond.fieldLink RMo 104 "WakingPagersModel" "many" "I" ∈ zT := zt_m3 142 rfl rfl
theorem zx_623 : Cond.fieldLink RMo 7 "WakingPagersModel" "address" "[I" ∈ zT := zt_m3 143 rfl rfl
theorem zx_624 : Cond.fieldLink RMo 13 "WakingPagersModel" "kind" "[I" ∈ zT := zt_m3 144 rfl rfl
theorem zx_625 : Cond.fieldLink RMo 16 "WakingPagersModel" "called" "[I" ∈ zT := zt_m3 145 rfl rfl
theorem zx_626 : Cond.fieldLink RMo 127 "WakingPagersModel" "messages" "I" ∈ zT := zt_m3 146 rfl rfl
theorem zx_627 : Cond.fieldLink RMo 19 "WakingPagersModel" "to" "[I" ∈ zT := zt_m3 147 rfl rfl
theorem zx_628 : Cond.fieldLink RMo 22 "WakingPagersModel" "priority" "[I" ∈ zT := zt_m3 148 rfl rfl
theorem zx_629 : Cond.fieldLink RMo 25 "WakingPagersModel" "numbers" "[I" ∈ zT := zt_m3 149 rfl rfl
theorem zx_630 : Cond.fieldLink RMo 28 "WakingPagersModel" "lengths" "[I" ∈ zT := zt_m3 150 rfl rfl
theorem zx_631 : Cond.fieldLink RMo 31 "WakingPagersModel" "signs" "[I" ∈ zT := zt_m3 151 rfl rfl
theorem zx_632 : Cond.fieldLink RMo 34 "WakingPagersModel" "waits" "[Z" ∈ zT := zt_m3 152 rfl rfl
theorem zx_633 : Cond.fieldLink RMo 38 "WakingPagersModel" "loaded" "[I" ∈ zT := zt_m3 153 rfl rfl
theorem zx_634 : Cond.fieldLink RMo 120 "WakingPagersModel" "loads" "I" ∈ zT := zt_m3 154 rfl rfl
theorem zx_635 : Cond.fieldLink RMo 41 "WakingPagersModel" "words" "[I" ∈ zT := zt_m3 155 rfl rfl
theorem zx_636 : Cond.fieldLink RMo 44 "WakingPagersModel" "taken" "[Z" ∈ zT := zt_m3 156 rfl rfl
theorem zx_637 : Cond.fieldLink RMo 47 "WakingPagersModel" "air" "[I" ∈ zT := zt_m3 157 rfl rfl
theorem zx_638 : Cond.fieldLink RMo 155 "WakingPagersModel" "bits" "I" ∈ zT := zt_m3 158 rfl rfl
theorem zx_639 : Cond.fieldLink RMo 107 "WakingPagersModel" "pagers" "I" ∈ zT := zt_m3 159 rfl rfl
theorem zx_640 : Cond.fieldLink RMo 50 "WakingPagersModel" "hears" "[I" ∈ zT := zt_m3 160 rfl rfl
theorem zx_641 : Cond.fieldLink RMo 53 "WakingPagersModel" "heard" "[I" ∈ zT := zt_m3 161 rfl rfl
theorem zx_642 : Cond.fieldLink RMo 56 "WakingPagersModel" "kept" "[I" ∈ zT := zt_m3 162 rfl rfl
theorem zx_643 : Cond.fieldLink RMo 59 "WakingPagersModel" "keptOf" "[I" ∈ zT := zt_m3 163 rfl rfl
theorem zx_644 : Cond.fieldLink RMo 62 "WakingPagersModel" "keptNumber" "[I" ∈ zT := zt_m3 164 rfl rfl
theorem zx_645 : Cond.fieldLink RMo 65 "WakingPagersModel" "keptMany" "[I" ∈ zT := zt_m3 165 rfl rfl
theorem zx_646 : Cond.fieldLink RMo 68 "WakingPagersModel" "marked" "[Z" ∈ zT := zt_m3 166 rfl rfl
theorem zx_647 : Cond.fieldLink RMo 71 "WakingPagersModel" "keptSigns" "[I" ∈ zT := zt_m3 167 rfl rfl
theorem zx_648 : Cond.fieldLink RMo 74 "WakingPagersModel" "missing" "[J" ∈ zT := zt_m3 168 rfl rfl
theorem zx_649 : Cond.fieldLink RMo 78 "WakingPagersModel" "latest" "[I" ∈ zT := zt_m3 169 rfl rfl
theorem zx_650 : Cond.fieldLink RMo 81 "WakingPagersModel" "counts" "[I" ∈ zT := zt_m3 170 rfl rfl
theorem zx_651 : Cond.fieldLink RMo 178 "WakingPagersModel" "who" "I" ∈ zT := zt_m3 171 rfl rfl
theorem zx_652 : Cond.fieldLink RMo 84 "WakingPagersModel" "running" "I" ∈ zT := zt_m3 172 rfl rfl
theorem zx_653 : Cond.fieldLink RMo 88 "WakingPagersModel" "got" "[I" ∈ zT := zt_m3 173 rfl rfl
theorem zx_654 : Cond.fieldLink RMo 183 "WakingPagersModel" "gotMany" "I" ∈ zT := zt_m3 174 rfl rfl
theorem zx_655 : Cond.fieldLink RMo 195 "WakingPagersModel" "fresh" "I" ∈ zT := zt_m3 175 rfl rfl
theorem zx_656 : Cond.fieldLink RMo 91 "WakingPagersModel" "end" "[I" ∈ zT := zt_m3 176 rfl rfl
theorem zx_657 : Cond.lays RMo "WakingPagersModel" "many" "I" ∈ zT := zt_m3 177 rfl rfl
theorem zx_659 : Cond.laysFinal RMo "WakingPagersModel" "address" "[I" ∈ zT := zt_m3 179 rfl rfl
theorem zx_661 : Cond.laysFinal RMo "WakingPagersModel" "kind" "[I" ∈ zT := zt_m3 181 rfl rfl
theorem zx_663 : Cond.laysFinal RMo "WakingPagersModel" "called" "[I" ∈ zT := zt_m3 183 rfl rfl
theorem zx_665 : Cond.lays RMo "WakingPagersModel" "messages" "I" ∈ zT := zt_m3 185 rfl rfl
theorem zx_667 : Cond.laysFinal RMo "WakingPagersModel" "to" "[I" ∈ zT := zt_m3 187 rfl rfl
theorem zx_669 : Cond.laysFinal RMo "WakingPagersModel" "priority" "[I" ∈ zT := zt_m3 189 rfl rfl
theorem zx_671 : Cond.laysFinal RMo "WakingPagersModel" "numbers" "[I" ∈ zT := zt_m3 191 rfl rfl
theorem zx_673 : Cond.laysFinal RMo "WakingPagersModel" "lengths" "[I" ∈ zT := zt_m3 193 rfl rfl
theorem zx_675 : Cond.laysFinal RMo "WakingPagersModel" "signs" "[I" ∈ zT := zt_m3 195 rfl rfl
theorem zx_677 : Cond.laysFinal RMo "WakingPagersModel" "waits" "[Z" ∈ zT := zt_m3 197 rfl rfl
theorem zx_679 : Cond.laysFinal RMo "WakingPagersModel" "loaded" "[I" ∈ zT := zt_m3 199 rfl rfl
theorem zx_681 : Cond.lays RMo "WakingPagersModel" "loads" "I" ∈ zT := zt_m3 201 rfl rfl
theorem zx_683 : Cond.laysFinal RMo "WakingPagersModel" "words" "[I" ∈ zT := zt_m3 203 rfl rfl
theorem zx_685 : Cond.laysFinal RMo "WakingPagersModel" "taken" "[Z" ∈ zT := zt_m3 205 rfl rfl
theorem zx_687 : Cond.laysFinal RMo "WakingPagersModel" "air" "[I" ∈ zT := zt_m3 207 rfl rfl
theorem zx_689 : Cond.lays RMo "WakingPagersModel" "bits" "I" ∈ zT := zt_m3 209 rfl rfl
theorem zx_691 : Cond.lays RMo "WakingPagersModel" "content" "I" ∈ zT := zt_m3 211 rfl rfl
theorem zx_693 : Cond.lays RMo "WakingPagersModel" "filled" "I" ∈ zT := zt_m3 213 rfl rfl
theorem zx_695 : Cond.lays RMo "WakingPagersModel" "pagers" "I" ∈ zT := zt_m3 215 rfl rfl
theorem zx_697 : Cond.laysFinal RMo "WakingPagersModel" "hears" "[I" ∈ zT := zt_m3 217 rfl rfl
theorem zx_699 : Cond.laysFinal RMo "WakingPagersModel" "heard" "[I" ∈ zT := zt_m3 219 rfl rfl
theorem zx_701 : Cond.laysFinal RMo "WakingPagersModel" "kept" "[I" ∈ zT := zt_m3 221 rfl rfl
theorem zx_703 : Cond.laysFinal RMo "WakingPagersModel" "keptOf" "[I" ∈ zT := zt_m3 223 rfl rfl
theorem zx_705 : Cond.laysFinal RMo "WakingPagersModel" "keptNumber" "[I" ∈ zT := zt_m3 225 rfl rfl
theorem zx_707 : Cond.laysFinal RMo "WakingPagersModel" "keptMany" "[I" ∈ zT := zt_m3 227 rfl rfl
theorem zx_709 : Cond.laysFinal RMo "WakingPagersModel" "marked" "[Z" ∈ zT := zt_m3 229 rfl rfl
theorem zx_711 : Cond.laysFinal RMo "WakingPagersModel" "keptSigns" "[I" ∈ zT := zt_m3 231 rfl rfl
theorem zx_713 : Cond.laysFinal RMo "WakingPagersModel" "missing" "[J" ∈ zT := zt_m3 233 rfl rfl
theorem zx_715 : Cond.laysFinal RMo "WakingPagersModel" "latest" "[I" ∈ zT := zt_m3 235 rfl rfl
theorem zx_717 : Cond.laysFinal RMo "WakingPagersModel" "counts" "[I" ∈ zT := zt_m3 237 rfl rfl
theorem zx_719 : Cond.lays RMo "WakingPagersModel" "who" "I" ∈ zT := zt_m3 239 rfl rfl
theorem zx_721 : Cond.lays RMo "WakingPagersModel" "running" "I" ∈ zT := zt_m4 1 rfl rfl
theorem zx_723 : Cond.laysFinal RMo "WakingPagersModel" "got" "[I" ∈ zT := zt_m4 3 rfl rfl
theorem zx_725 : Cond.lays RMo "WakingPagersModel" "gotMany" "I" ∈ zT := zt_m4 5 rfl rfl
theorem zx_727 : Cond.lays RMo "WakingPagersModel" "fresh" "I" ∈ zT := zt_m4 7 rfl rfl
theorem zx_729 : Cond.laysFinal RMo "WakingPagersModel" "end" "[I" ∈ zT := zt_m4 9 rfl rfl
theorem zx_732 : Cond.arrayClass .boolean ∈ zT := zt_m4 12 rfl rfl
theorem zx_733 : Cond.arrayClass .long ∈ zT := zt_m4 13 rfl rfl
theorem zx_734 : Cond.methodLink "WakingPagersLaw" 17 yMo_code ∈ zT := zt_m4 14 rfl rfl
theorem zx_735 : Cond.instanceMethod yMo_code ∈ zT := zt_m4 15 rfl rfl
theorem zx_736 : Cond.selects RMo yMo_code yMo_code ∈ zT := zt_m4 16 rfl rfl
theorem zx_737 : Cond.code yMo_code cMo_code 2 (some .int) ∈ zT := zt_m4 17 rfl rfl
theorem zx_738 : Jvm.Cond.constant RMo 94 (2097152 : Int32) ∈ zT := zt_m4 18 rfl rfl
theorem zx_739 : Cond.methodLink RMo 95 yMo_codeword ∈ zT := zt_m4 19 rfl rfl
theorem zx_740 : Cond.static yMo_codeword ∈ zT := zt_m4 20 rfl rfl
theorem zx_741 : Cond.code yMo_codeword cMo_codeword 5 (some .int) ∈ zT := zt_m4 21 rfl rfl
theorem zx_742 : Cond.methodLink "WakingPagersLaw" 21 yMo_repair ∈ zT := zt_m4 22 rfl rfl
theorem zx_743 : Cond.instanceMethod yMo_repair ∈ zT := zt_m4 23 rfl rfl
theorem zx_744 : Cond.selects RMo yMo_repair yMo_repair ∈ zT := zt_m4 24 rfl rfl
theorem zx_745 : Cond.code yMo_repair cMo_repair 5 (some .int) ∈ zT := zt_m4 25 rfl rfl
theorem zx_746 : Cond.methodLink RMo 99 yMo_isCodeword ∈ zT := zt_m4 26 rfl rfl
theorem zx_747 : Cond.static yMo_isCodeword ∈ zT := zt_m4 27 rfl rfl
theorem zx_748 : Cond.code yMo_isCodeword cMo_isCodeword 1 (some .boolean) ∈ zT := zt_m4 28 rfl rfl
theorem zx_749 : Cond.methodLink "WakingPagersLaw" 26 yMo_identity ∈ zT := zt_m4 29 rfl rfl
theorem zx_750 : Cond.instanceMethod yMo_identity ∈ zT := zt_m4 30 rfl rfl
theorem zx_751 : Cond.selects RMo yMo_identity yMo_identity ∈ zT := zt_m4 31 rfl rfl
theorem zx_752 : Cond.code yMo_identity cMo_identity 4 (some .int) ∈ zT := zt_m4 32 rfl rfl
theorem zx_753 : Jvm.Cond.constant RMo 103 (250958 : Int32) ∈ zT := zt_m4 33 rfl rfl
theorem zx_754 : Cond.methodLink "WakingPagersLaw" 31 yMo_pager ∈ zT := zt_m4 34 rfl rfl
theorem zx_755 : Cond.instanceMethod yMo_pager ∈ zT := zt_m4 35 rfl rfl
theorem zx_756 : Cond.selects RMo yMo_pager yMo_pager ∈ zT := zt_m4 36 rfl rfl
theorem zx_757 : Cond.code yMo_pager cMo_pager 1 (some .int) ∈ zT := zt_m4 37 rfl rfl
theorem zx_758 : Cond.methodLink "WakingPagersLaw" 35 yMo_join ∈ zT := zt_m4 38 rfl rfl
theorem zx_759 : Cond.instanceMethod yMo_join ∈ zT := zt_m4 39 rfl rfl
theorem zx_760 : Cond.selects RMo yMo_join yMo_join ∈ zT := zt_m4 40 rfl rfl
theorem zx_761 : Cond.code yMo_join cMo_join 3 (some .int) ∈ zT := zt_m4 41 rfl rfl
theorem zx_762 : Cond.methodLink RMo 110 yMo_isPager ∈ zT := zt_m4 42 rfl rfl
theorem zx_764 : Cond.instanceMethod yMo_isPager ∈ zT := zt_m4 44 rfl rfl
theorem zx_765 : Cond.code yMo_isPager cMo_isPager 2 (some .boolean) ∈ zT := zt_m4 45 rfl rfl
theorem zx_766 : Cond.methodLink RMo 113 yMo_isIdentity ∈ zT := zt_m4 46 rfl rfl
theorem zx_768 : Cond.instanceMethod yMo_isIdentity ∈ zT := zt_m4 48 rfl rfl
theorem zx_769 : Cond.code yMo_isIdentity cMo_isIdentity 2 (some .boolean) ∈ zT := zt_m4 49 rfl rfl
theorem zx_770 : Cond.methodLink RMo 116 yMo_listensTo ∈ zT := zt_m4 50 rfl rfl
theorem zx_772 : Cond.instanceMethod yMo_listensTo ∈ zT := zt_m4 52 rfl rfl
theorem zx_773 : Cond.code yMo_listensTo cMo_listensTo 5 (some .boolean) ∈ zT := zt_m4 53 rfl rfl
theorem zx_774 : Cond.methodLink "WakingPagersLaw" 42 yMo_load ∈ zT := zt_m4 54 rfl rfl
theorem zx_775 : Cond.instanceMethod yMo_load ∈ zT := zt_m4 55 rfl rfl
theorem zx_776 : Cond.selects RMo yMo_load yMo_load ∈ zT := zt_m4 56 rfl rfl
theorem zx_777 : Cond.code yMo_load cMo_load 5 (some .int) ∈ zT := zt_m4 57 rfl rfl
theorem zx_778 : Jvm.Cond.constantLong RMo 123 (255 : Int64) ∈ zT := zt_m4 58 rfl rfl
theorem zx_779 : Jvm.Cond.constantLong RMo 125 (126 : Int64) ∈ zT := zt_m4 59 rfl rfl
theorem zx_780 : Cond.methodLink "WakingPagersLaw" 46 yMo_unload ∈ zT := zt_m4 60 rfl rfl
theorem zx_781 : Cond.instanceMethod yMo_unload ∈ zT := zt_m4 61 rfl rfl
theorem zx_782 : Cond.selects RMo yMo_unload yMo_unload ∈ zT := zt_m4 62 rfl rfl
theorem zx_783 : Cond.code yMo_unload cMo_unload 2 (some .int) ∈ zT := zt_m4 63 rfl rfl
theorem zx_784 : Cond.methodLink "WakingPagersLaw" 54 yMo_waiting ∈ zT := zt_m4 64 rfl rfl
theorem zx_785 : Cond.instanceMethod yMo_waiting ∈ zT := zt_m4 65 rfl rfl
theorem zx_786 : Cond.selects RMo yMo_waiting yMo_waiting ∈ zT := zt_m4 66 rfl rfl
theorem zx_787 : Cond.code yMo_waiting cMo_waiting 3 (some .int) ∈ zT := zt_m4 67 rfl rfl
theorem zx_788 : Cond.methodLink "WakingPagersLaw" 50 yMo_call ∈ zT := zt_m4 68 rfl rfl
theorem zx_789 : Cond.instanceMethod yMo_call ∈ zT := zt_m4 69 rfl rfl
theorem zx_790 : Cond.selects RMo yMo_call yMo_call ∈ zT := zt_m4 70 rfl rfl
theorem zx_791 : Cond.code yMo_call cMo_call 5 (some .int) ∈ zT := zt_m4 71 rfl rfl
theorem zx_792 : Cond.methodLink RMo 130 yMo_waiting ∈ zT := zt_m4 72 rfl rfl
theorem zx_793 : Cond.methodLink "WakingPagersLaw" 58 yMo_transmit ∈ zT := zt_m4 73 rfl rfl
theorem zx_794 : Cond.instanceMethod yMo_transmit ∈ zT := zt_m4 74 rfl rfl
theorem zx_795 : Cond.selects RMo yMo_transmit yMo_transmit ∈ zT := zt_m4 75 rfl rfl
theorem zx_796 : Cond.code yMo_transmit cMo_transmit 4 (some .int) ∈ zT := zt_m4 76 rfl rfl
theorem zx_797 : Jvm.Cond.constant RMo 158 (2055848343 : Int32) ∈ zT := zt_m4 77 rfl rfl
theorem zx_798 : Cond.methodLink RMo 159 yMo_lay ∈ zT := zt_m4 78 rfl rfl
theorem zx_800 : Cond.instanceMethod yMo_lay ∈ zT := zt_m4 80 rfl rfl
theorem zx_801 : Cond.code yMo_lay cMo_lay 5 (some .int) ∈ zT := zt_m4 81 rfl rfl
theorem zx_802 : Cond.methodLink RMo 147 yMo_fits ∈ zT := zt_m4 82 rfl rfl
theorem zx_804 : Cond.instanceMethod yMo_fits ∈ zT := zt_m4 84 rfl rfl
theorem zx_805 : Cond.code yMo_fits cMo_fits 6 (some .boolean) ∈ zT := zt_m4 85 rfl rfl
theorem zx_806 : Cond.methodLink RMo 141 yMo_wordsOf ∈ zT := zt_m4 86 rfl rfl
theorem zx_808 : Cond.instanceMethod yMo_wordsOf ∈ zT := zt_m4 88 rfl rfl
theorem zx_809 : Cond.code yMo_wordsOf cMo_wordsOf 3 (some .int) ∈ zT := zt_m4 89 rfl rfl
theorem zx_810 : Cond.methodLink RMo 151 yMo_layAt ∈ zT := zt_m4 90 rfl rfl
theorem zx_812 : Cond.instanceMethod yMo_layAt ∈ zT := zt_m4 92 rfl rfl
theorem zx_813 : Cond.code yMo_layAt cMo_layAt 6 none ∈ zT := zt_m4 93 rfl rfl
theorem zx_814 : Cond.methodLink RMo 138 yMo_addressData ∈ zT := zt_m4 94 rfl rfl
theorem zx_816 : Cond.instanceMethod yMo_addressData ∈ zT := zt_m4 96 rfl rfl
theorem zx_817 : Cond.code yMo_addressData cMo_addressData 2 (some .int) ∈ zT := zt_m4 97 rfl rfl
theorem zx_818 : Cond.methodLink RMo 144 yMo_outBit ∈ zT := zt_m4 98 rfl rfl
theorem zx_820 : Cond.instanceMethod yMo_outBit ∈ zT := zt_m4 100 rfl rfl
theorem zx_821 : Cond.code yMo_outBit cMo_outBit 4 (some .int) ∈ zT := zt_m4 101 rfl rfl
theorem zx_822 : Cond.methodLink RMo 134 yMo_outgoing ∈ zT := zt_m4 102 rfl rfl
theorem zx_824 : Cond.instanceMethod yMo_outgoing ∈ zT := zt_m4 104 rfl rfl
theorem zx_825 : Cond.code yMo_outgoing cMo_outgoing 3 (some .int) ∈ zT := zt_m4 105 rfl rfl
theorem zx_826 : Jvm.Cond.constant RMo 163 (-1431655766 : Int32) ∈ zT := zt_m4 106 rfl rfl
theorem zx_827 : Cond.methodLink RMo 164 yMo_send ∈ zT := zt_m4 107 rfl rfl
theorem zx_829 : Cond.instanceMethod yMo_send ∈ zT := zt_m4 109 rfl rfl
theorem zx_830 : Cond.code yMo_send cMo_send 3 none ∈ zT := zt_m4 110 rfl rfl
theorem zx_831 : Jvm.Cond.constant RMo 168 (2094142936 : Int32) ∈ zT := zt_m4 111 rfl rfl
theorem zx_832 : Cond.methodLink "WakingPagersLaw" 62 yMo_bit ∈ zT := zt_m4 112 rfl rfl
theorem zx_833 : Cond.instanceMethod yMo_bit ∈ zT := zt_m4 113 rfl rfl
theorem zx_834 : Cond.selects RMo yMo_bit yMo_bit ∈ zT := zt_m4 114 rfl rfl
theorem zx_835 : Cond.code yMo_bit cMo_bit 2 (some .int) ∈ zT := zt_m4 115 rfl rfl
theorem zx_836 : Cond.methodLink "WakingPagersLaw" 66 yMo_flip ∈ zT := zt_m4 116 rfl rfl
theorem zx_837 : Cond.instanceMethod yMo_flip ∈ zT := zt_m4 117 rfl rfl
theorem zx_838 : Cond.selects RMo yMo_flip yMo_flip ∈ zT := zt_m4 118 rfl rfl
theorem zx_839 : Cond.code yMo_flip cMo_flip 2 (some .int) ∈ zT := zt_m4 119 rfl rfl
theorem zx_840 : Cond.methodLink "WakingPagersLaw" 70 yMo_hear ∈ zT := zt_m4 120 rfl rfl
theorem zx_841 : Cond.instanceMethod yMo_hear ∈ zT := zt_m4 121 rfl rfl
theorem zx_842 : Cond.selects RMo yMo_hear yMo_hear ∈ zT := zt_m4 122 rfl rfl
theorem zx_843 : Cond.code yMo_hear cMo_hear 5 (some .int) ∈ zT := zt_m4 123 rfl rfl
theorem zx_844 : Cond.methodLink RMo 218 yMo_isSync ∈ zT := zt_m4 124 rfl rfl
theorem zx_846 : Cond.instanceMethod yMo_isSync ∈ zT := zt_m4 126 rfl rfl
theorem zx_847 : Cond.code yMo_isSync cMo_isSync 2 (some .boolean) ∈ zT := zt_m4 127 rfl rfl
theorem zx_848 : Cond.methodLink RMo 169 yMo_wordAt ∈ zT := zt_m4 128 rfl rfl
theorem zx_850 : Cond.instanceMethod yMo_wordAt ∈ zT := zt_m4 130 rfl rfl
theorem zx_851 : Cond.code yMo_wordAt cMo_wordAt 4 (some .int) ∈ zT := zt_m4 131 rfl rfl
theorem zx_852 : Cond.methodLink RMo 172 yMo_onesOf ∈ zT := zt_m4 132 rfl rfl
theorem zx_853 : Cond.static yMo_onesOf ∈ zT := zt_m4 133 rfl rfl
theorem zx_854 : Cond.code yMo_onesOf cMo_onesOf 3 (some .int) ∈ zT := zt_m4 134 rfl rfl
theorem zx_855 : Cond.methodLink RMo 221 yMo_batches ∈ zT := zt_m4 135 rfl rfl
theorem zx_857 : Cond.instanceMethod yMo_batches ∈ zT := zt_m4 137 rfl rfl
theorem zx_858 : Cond.code yMo_batches cMo_batches 5 (some .int) ∈ zT := zt_m4 138 rfl rfl
theorem zx_859 : Cond.methodLink RMo 212 yMo_isAwake ∈ zT := zt_m4 139 rfl rfl
theorem zx_861 : Cond.instanceMethod yMo_isAwake ∈ zT := zt_m4 141 rfl rfl
theorem zx_862 : Cond.code yMo_isAwake cMo_isAwake 4 (some .boolean) ∈ zT := zt_m4 142 rfl rfl
theorem zx_863 : Cond.methodLink RMo 215 yMo_look ∈ zT := zt_m4 143 rfl rfl
theorem zx_865 : Cond.instanceMethod yMo_look ∈ zT := zt_m4 145 rfl rfl
theorem zx_866 : Cond.code yMo_look cMo_look 4 none ∈ zT := zt_m4 146 rfl rfl
theorem zx_867 : Cond.methodLink RMo 198 yMo_repair ∈ zT := zt_m4 147 rfl rfl
theorem zx_868 : Cond.methodLink RMo 201 yMo_finish ∈ zT := zt_m4 148 rfl rfl
theorem zx_870 : Cond.instanceMethod yMo_finish ∈ zT := zt_m4 150 rfl rfl
theorem zx_871 : Cond.code yMo_finish cMo_finish 9 none ∈ zT := zt_m4 151 rfl rfl
theorem zx_872 : Cond.methodLink RMo 186 yMo_numberOf ∈ zT := zt_m4 152 rfl rfl
theorem zx_874 : Cond.instanceMethod yMo_numberOf ∈ zT := zt_m4 154 rfl rfl
theorem zx_875 : Cond.code yMo_numberOf cMo_numberOf 3 (some .int) ∈ zT := zt_m4 155 rfl rfl
theorem zx_876 : Cond.methodLink RMo 175 yMo_gotSign ∈ zT := zt_m4 156 rfl rfl
theorem zx_878 : Cond.instanceMethod yMo_gotSign ∈ zT := zt_m4 158 rfl rfl
theorem zx_879 : Cond.code yMo_gotSign cMo_gotSign 5 (some .int) ∈ zT := zt_m4 159 rfl rfl
theorem zx_880 : Cond.methodLink RMo 189 yMo_room ∈ zT := zt_m4 160 rfl rfl
theorem zx_882 : Cond.instanceMethod yMo_room ∈ zT := zt_m4 162 rfl rfl
theorem zx_883 : Cond.code yMo_room cMo_room 4 (some .int) ∈ zT := zt_m4 163 rfl rfl
theorem zx_884 : Cond.methodLink RMo 192 yMo_note ∈ zT := zt_m4 164 rfl rfl
theorem zx_886 : Cond.instanceMethod yMo_note ∈ zT := zt_m4 166 rfl rfl
theorem zx_887 : Cond.code yMo_note cMo_note 5 none ∈ zT := zt_m4 167 rfl rfl
theorem zx_888 : Jvm.Cond.constantLong RMo 181 (-1 : Int64) ∈ zT := zt_m4 168 rfl rfl
theorem zx_889 : Jvm.Cond.constant RMo 205 (1048576 : Int32) ∈ zT := zt_m4 169 rfl rfl
theorem zx_890 : Cond.methodLink RMo 206 yMo_add ∈ zT := zt_m4 170 rfl rfl
theorem zx_892 : Cond.instanceMethod yMo_add ∈ zT := zt_m4 172 rfl rfl
theorem zx_893 : Cond.code yMo_add cMo_add 3 none ∈ zT := zt_m4 173 rfl rfl
theorem zx_894 : Cond.methodLink RMo 209 yMo_identityOf ∈ zT := zt_m4 174 rfl rfl
theorem zx_896 : Cond.instanceMethod yMo_identityOf ∈ zT := zt_m4 176 rfl rfl
theorem zx_897 : Cond.code yMo_identityOf cMo_identityOf 5 (some .int) ∈ zT := zt_m4 177 rfl rfl
theorem zx_898 : Cond.methodLink "WakingPagersLaw" 74 yMo_kept ∈ zT := zt_m4 178 rfl rfl
theorem zx_899 : Cond.instanceMethod yMo_kept ∈ zT := zt_m4 179 rfl rfl
theorem zx_900 : Cond.selects RMo yMo_kept yMo_kept ∈ zT := zt_m4 180 rfl rfl
theorem zx_901 : Cond.code yMo_kept cMo_kept 2 (some .int) ∈ zT := zt_m4 181 rfl rfl
theorem zx_902 : Cond.methodLink "WakingPagersLaw" 79 yMo_message ∈ zT := zt_m4 182 rfl rfl
theorem zx_903 : Cond.instanceMethod yMo_message ∈ zT := zt_m4 183 rfl rfl
theorem zx_904 : Cond.selects RMo yMo_message yMo_message ∈ zT := zt_m4 184 rfl rfl
theorem zx_905 : Cond.code yMo_message cMo_message 5 (some .int) ∈ zT := zt_m4 185 rfl rfl
theorem zx_906 : Cond.methodLink RMo 224 yMo_isKept ∈ zT := zt_m4 186 rfl rfl
theorem zx_908 : Cond.instanceMethod yMo_isKept ∈ zT := zt_m4 188 rfl rfl
theorem zx_909 : Cond.code yMo_isKept cMo_isKept 3 (some .boolean) ∈ zT := zt_m4 189 rfl rfl
theorem zx_910 : Cond.methodLink "WakingPagersLaw" 83 yMo_sign ∈ zT := zt_m4 190 rfl rfl
theorem zx_911 : Cond.instanceMethod yMo_sign ∈ zT := zt_m4 191 rfl rfl
theorem zx_912 : Cond.selects RMo yMo_sign yMo_sign ∈ zT := zt_m4 192 rfl rfl
theorem zx_913 : Cond.code yMo_sign cMo_sign 4 (some .int) ∈ zT := zt_m4 193 rfl rfl
theorem zx_914 : Cond.methodLink "WakingPagersLaw" 88 yMo_missed ∈ zT := zt_m4 194 rfl rfl
theorem zx_915 : Cond.instanceMethod yMo_missed ∈ zT := zt_m4 195 rfl rfl
theorem zx_916 : Cond.selects RMo yMo_missed yMo_missed ∈ zT := zt_m4 196 rfl rfl
theorem zx_917 : Cond.code yMo_missed cMo_missed 3 (some .long) ∈ zT := zt_m4 197 rfl rfl
theorem zx_918 : Cond.methodLink "WakingPagersLaw" 92 yMo_count ∈ zT := zt_m4 198 rfl rfl
theorem zx_919 : Cond.instanceMethod yMo_count ∈ zT := zt_m4 199 rfl rfl
theorem zx_920 : Cond.selects RMo yMo_count yMo_count ∈ zT := zt_m4 200 rfl rfl
theorem zx_921 : Cond.code yMo_count cMo_count 3 (some .int) ∈ zT := zt_m4 201 rfl rfl
theorem zx_922 : Cond.methodLink "WakingPagersLaw" 96 yMo_desk ∈ zT := zt_m4 202 rfl rfl
theorem zx_923 : Cond.instanceMethod yMo_desk ∈ zT := zt_m4 203 rfl rfl
theorem zx_924 : Cond.selects RMo yMo_desk yMo_desk ∈ zT := zt_m4 204 rfl rfl
theorem zx_925 : Cond.code yMo_desk cMo_desk 6 (some .int) ∈ zT := zt_m4 205 rfl rfl
theorem zx_926 : Jvm.Cond.constantLong "WakingPagersLaw" 36 (4294967295 : Int64) ∈ zT := zt_m4 206 rfl rfl
theorem zs_6 : Cond.selects RLy yLy_areFree yLy_areFree ∈ zT := zt_sel 6 rfl rfl
theorem zs_5 : Cond.selects RLy yLy_findPlace yLy_findPlace ∈ zT := zt_sel 5 rfl rfl
theorem zs_12 : Cond.selects RLs yLs_addContent yLs_addContent ∈ zT := zt_sel 12 rfl rfl
theorem zs_13 : Cond.selects RLs yLs_addSign yLs_addSign ∈ zT := zt_sel 13 rfl rfl
theorem zs_14 : Cond.selects RLs yLs_beginMessage yLs_beginMessage ∈ zT := zt_sel 14 rfl rfl
theorem zs_10 : Cond.selects RLs yLs_endMessage yLs_endMessage ∈ zT := zt_sel 10 rfl rfl
theorem zs_7 : Cond.selects RLs yLs_hunt yLs_hunt ∈ zT := zt_sel 7 rfl rfl
theorem zs_11 : Cond.selects RLs yLs_store yLs_store ∈ zT := zt_sel 11 rfl rfl
theorem zs_8 : Cond.selects RLs yLs_takeBatch yLs_takeBatch ∈ zT := zt_sel 8 rfl rfl
theorem zs_15 : Cond.selects RLs yLs_takeSync yLs_takeSync ∈ zT := zt_sel 15 rfl rfl
theorem zs_9 : Cond.selects RLs yLs_takeWord yLs_takeWord ∈ zT := zt_sel 9 rfl rfl
theorem zs_3 : Cond.selects RWP yWP_areLoadedSignsOf yWP_areLoadedSignsOf ∈ zT := zt_sel 3 rfl rfl
theorem zs_2 : Cond.selects RWP yWP_identityAt yWP_identityAt ∈ zT := zt_sel 2 rfl rfl
theorem zs_0 : Cond.selects RWP yWP_isAddressUsed yWP_isAddressUsed ∈ zT := zt_sel 0 rfl rfl
theorem zs_4 : Cond.selects RWP yWP_layMessages yWP_layMessages ∈ zT := zt_sel 4 rfl rfl
theorem zs_1 : Cond.selects RWP yWP_pagerAt yWP_pagerAt ∈ zT := zt_sel 1 rfl rfl
theorem zs_16 : Cond.selects RWP yWP_storedAt yWP_storedAt ∈ zT := zt_sel 16 rfl rfl
theorem zs_38 : Cond.selects RMo yMo_add yMo_add ∈ zT := zt_sel 38 rfl rfl
theorem zs_24 : Cond.selects RMo yMo_addressData yMo_addressData ∈ zT := zt_sel 24 rfl rfl
theorem zs_30 : Cond.selects RMo yMo_batches yMo_batches ∈ zT := zt_sel 30 rfl rfl
theorem zs_33 : Cond.selects RMo yMo_finish yMo_finish ∈ zT := zt_sel 33 rfl rfl
theorem zs_21 : Cond.selects RMo yMo_fits yMo_fits ∈ zT := zt_sel 21 rfl rfl
theorem zs_35 : Cond.selects RMo yMo_gotSign yMo_gotSign ∈ zT := zt_sel 35 rfl rfl
theorem zs_39 : Cond.selects RMo yMo_identityOf yMo_identityOf ∈ zT := zt_sel 39 rfl rfl
theorem zs_31 : Cond.selects RMo yMo_isAwake yMo_isAwake ∈ zT := zt_sel 31 rfl rfl
theorem zs_18 : Cond.selects RMo yMo_isIdentity yMo_isIdentity ∈ zT := zt_sel 18 rfl rfl
theorem zs_40 : Cond.selects RMo yMo_isKept yMo_isKept ∈ zT := zt_sel 40 rfl rfl
theorem zs_17 : Cond.selects RMo yMo_isPager yMo_isPager ∈ zT := zt_sel 17 rfl rfl
theorem zs_28 : Cond.selects RMo yMo_isSync yMo_isSync ∈ zT := zt_sel 28 rfl rfl
theorem zs_20 : Cond.selects RMo yMo_lay yMo_lay ∈ zT := zt_sel 20 rfl rfl
theorem zs_23 : Cond.selects RMo yMo_layAt yMo_layAt ∈ zT := zt_sel 23 rfl rfl
theorem zs_19 : Cond.selects RMo yMo_listensTo yMo_listensTo ∈ zT := zt_sel 19 rfl rfl
theorem zs_32 : Cond.selects RMo yMo_look yMo_look ∈ zT := zt_sel 32 rfl rfl
theorem zs_37 : Cond.selects RMo yMo_note yMo_note ∈ zT := zt_sel 37 rfl rfl
theorem zs_34 : Cond.selects RMo yMo_numberOf yMo_numberOf ∈ zT := zt_sel 34 rfl rfl
theorem zs_25 : Cond.selects RMo yMo_outBit yMo_outBit ∈ zT := zt_sel 25 rfl rfl
theorem zs_26 : Cond.selects RMo yMo_outgoing yMo_outgoing ∈ zT := zt_sel 26 rfl rfl
theorem zs_36 : Cond.selects RMo yMo_room yMo_room ∈ zT := zt_sel 36 rfl rfl
theorem zs_27 : Cond.selects RMo yMo_send yMo_send ∈ zT := zt_sel 27 rfl rfl
theorem zs_29 : Cond.selects RMo yMo_wordAt yMo_wordAt ∈ zT := zt_sel 29 rfl rfl
theorem zs_22 : Cond.selects RMo yMo_wordsOf yMo_wordsOf ∈ zT := zt_sel 22 rfl rfl
theorem hin_0 : ∀ x ∈ u_ws RAi TAi 2, x ∈ zT := List.forall_mem_cons.mpr ⟨zx_55, List.forall_mem_cons.mpr ⟨zx_57, fun _ h => absurd h List.not_mem_nil⟩⟩
theorem hin_1 : ∀ x ∈ u_ws RHd THd 3, x ∈ zT := List.forall_mem_cons.mpr ⟨zx_343, List.forall_mem_cons.mpr ⟨zx_345, List.forall_mem_cons.mpr ⟨zx_347, fun _ h => absurd h List.not_mem_nil⟩⟩⟩
theorem hin_2 : ∀ x ∈ u_ws RId TId 11, x ∈ zT := List.forall_mem_cons.mpr ⟨zx_207, List.forall_mem_cons.mpr ⟨zx_209, List.forall_mem_cons.mpr ⟨zx_211, List.forall_mem_cons.mpr ⟨zx_213, List.forall_mem_cons.mpr ⟨zx_215, List.forall_mem_cons.mpr ⟨zx_217, List.forall_mem_cons.mpr ⟨zx_219, List.forall_mem_cons.mpr ⟨zx_221, List.forall_mem_cons.mpr ⟨zx_223, List.forall_mem_cons.mpr ⟨zx_225, List.forall_mem_cons.mpr ⟨zx_227, fun _ h => absurd h List.not_mem_nil⟩⟩⟩⟩⟩⟩⟩⟩⟩⟩⟩
theorem hin_3 : ∀ x ∈ u_ws RLy TLy 2, x ∈ zT := List.forall_mem_cons.mpr ⟨zx_39, List.forall_mem_cons.mpr ⟨zx_41, fun _ h => absurd h List.not_mem_nil⟩⟩
theorem hin_4 : ∀ x ∈ u_ws RLs TLs 8, x ∈ zT := List.forall_mem_cons.mpr ⟨zx_74, List.forall_mem_cons.mpr ⟨zx_76, List.forall_mem_cons.mpr ⟨zx_78, List.forall_mem_cons.mpr ⟨zx_80, List.forall_mem_cons.mpr ⟨zx_82, List.forall_mem_cons.mpr ⟨zx_84, List.forall_mem_cons.mpr ⟨zx_86, List.forall_mem_cons.mpr ⟨zx_88, fun _ h => absurd h List.not_mem_nil⟩⟩⟩⟩⟩⟩⟩⟩
theorem hin_5 : ∀ x ∈ u_ws RMs TMs 6, x ∈ zT := List.forall_mem_cons.mpr ⟨zx_419, List.forall_mem_cons.mpr ⟨zx_421, List.forall_mem_cons.mpr ⟨zx_423, List.forall_mem_cons.mpr ⟨zx_425, List.forall_mem_cons.mpr ⟨zx_427, List.forall_mem_cons.mpr ⟨zx_429, fun _ h => absurd h List.not_mem_nil⟩⟩⟩⟩⟩⟩
theorem hin_6 : ∀ x ∈ u_ws RPg TPg 9, x ∈ zT := List.forall_mem_cons.mpr ⟨zx_293, List.forall_mem_cons.mpr ⟨zx_295, List.forall_mem_cons.mpr ⟨zx_297, List.forall_mem_cons.mpr ⟨zx_299, List.forall_mem_cons.mpr ⟨zx_301, List.forall_mem_cons.mpr ⟨zx_303, List.forall_mem_cons.mpr ⟨zx_305, List.forall_mem_cons.mpr ⟨zx_307, List.forall_mem_cons.mpr ⟨zx_309, fun _ h => absurd h List.not_mem_nil⟩⟩⟩⟩⟩⟩⟩⟩⟩
theorem hin_7 : ∀ x ∈ u_ws RSd TSd 5, x ∈ zT := List.forall_mem_cons.mpr ⟨zx_263, List.forall_mem_cons.mpr ⟨zx_265, List.forall_mem_cons.mpr ⟨zx_267, List.forall_mem_cons.mpr ⟨zx_269, List.forall_mem_cons.mpr ⟨zx_271, fun _ h => absurd h List.not_mem_nil⟩⟩⟩⟩⟩
theorem hin_8 : ∀ x ∈ u_ws RWP TWP 12, x ∈ zT := List.forall_mem_cons.mpr ⟨zx_103, List.forall_mem_cons.mpr ⟨zx_105, List.forall_mem_cons.mpr ⟨zx_107, List.forall_mem_cons.mpr ⟨zx_109, List.forall_mem_cons.mpr ⟨zx_111, List.forall_mem_cons.mpr ⟨zx_113, List.forall_mem_cons.mpr ⟨zx_115, List.forall_mem_cons.mpr ⟨zx_117, List.forall_mem_cons.mpr ⟨zx_119, List.forall_mem_cons.mpr ⟨zx_121, List.forall_mem_cons.mpr ⟨zx_123, List.forall_mem_cons.mpr ⟨zx_125, fun _ h => absurd h List.not_mem_nil⟩⟩⟩⟩⟩⟩⟩⟩⟩⟩⟩⟩
theorem hin_9 : ∀ x ∈ u_ws RMo TMo 37, x ∈ zT := List.forall_mem_cons.mpr ⟨zx_657, List.forall_mem_cons.mpr ⟨zx_659, List.forall_mem_cons.mpr ⟨zx_661, List.forall_mem_cons.mpr ⟨zx_663, List.forall_mem_cons.mpr ⟨zx_665, List.forall_mem_cons.mpr ⟨zx_667, List.forall_mem_cons.mpr ⟨zx_669, List.forall_mem_cons.mpr ⟨zx_671, List.forall_mem_cons.mpr ⟨zx_673, List.forall_mem_cons.mpr ⟨zx_675, List.forall_mem_cons.mpr ⟨zx_677, List.forall_mem_cons.mpr ⟨zx_679, List.forall_mem_cons.mpr ⟨zx_681, List.forall_mem_cons.mpr ⟨zx_683, List.forall_mem_cons.mpr ⟨zx_685, List.forall_mem_cons.mpr ⟨zx_687, List.forall_mem_cons.mpr ⟨zx_689, List.forall_mem_cons.mpr ⟨zx_691, List.forall_mem_cons.mpr ⟨zx_693, List.forall_mem_cons.mpr ⟨zx_695, List.forall_mem_cons.mpr ⟨zx_697, List.forall_mem_cons.mpr ⟨zx_699, List.forall_mem_cons.mpr ⟨zx_701, List.forall_mem_cons.mpr ⟨zx_703, List.forall_mem_cons.mpr ⟨zx_705, List.forall_mem_cons.mpr ⟨zx_707, List.forall_mem_cons.mpr ⟨zx_709, List.forall_mem_cons.mpr ⟨zx_711, List.forall_mem_cons.mpr ⟨zx_713, List.forall_mem_cons.mpr ⟨zx_715, List.forall_mem_cons.mpr ⟨zx_717, List.forall_mem_cons.mpr ⟨zx_719, List.forall_mem_cons.mpr ⟨zx_721, List.forall_mem_cons.mpr ⟨zx_723, List.forall_mem_cons.mpr ⟨zx_725, List.forall_mem_cons.mpr ⟨zx_727, List.forall_mem_cons.mpr ⟨zx_729, fun _ h => absurd h List.not_mem_nil⟩⟩⟩⟩⟩⟩⟩⟩⟩⟩⟩⟩⟩⟩⟩⟩⟩⟩⟩⟩⟩⟩⟩⟩⟩⟩⟩⟩⟩⟩⟩⟩⟩⟩⟩⟩⟩
end
section
/-! My own words for worlds: a memory w of typed cells (kind, length), of ints, references and longs by (name, address, index), and the heap's size. Kinds: 0 none; ci + 1 an object of row ci of vwCl; 100.. int arrays, 200.. boolean arrays, 300.. long arrays, 400 + ci arrays of references to objects of row ci. A field k of row ci has the name 1000 + 64 * ci + k. -/
def zi_shl (x y : Int32) : Int32 := x <<< (y &&& 31)
def zi_shr (x y : Int32) : Int32 := x >>> (y &&& 31)
def zi_ushr (x y : Int32) : Int32 := (x.toUInt32 >>> (y.toUInt32 &&& Int32.toUInt32 31)).toInt32
def zi_rem (x y : Int32) : Int32 := x - x / y * y
def zi_lshl (x : Int64) (y : Int32) : Int64 := x <<< (y.toInt64 &&& 63)
def zi_lshr (x : Int64) (y : Int32) : Int64 := x >>> (y.toInt64 &&& 63)
def zi_lushr (x : Int64) (y : Int32) : Int64 := (x.toUInt64 >>> (y.toInt64.toUInt64 &&& Int64.toUInt64 63)).toInt64
def zf_let {α β : Type} (x : α) (k : α → β) : β := k x
abbrev zw_T : Type := (Nat → Nat × Nat) × (Nat → Nat → Nat → Int32) × (Nat → Nat → Nat → Option Nat) × (Nat → Nat → Nat → Int64) × Nat
def zw_ty (w : zw_T) : Nat → Nat × Nat := w.1
def zw_I (w : zw_T) : Nat → Nat → Nat → Int32 := w.2.1
def zw_R (w : zw_T) : Nat → Nat → Nat → Option Nat := w.2.2.1
def zw_L (w : zw_T) : Nat → Nat → Nat → Int64 := w.2.2.2.1
def zw_n (w : zw_T) : Nat := w.2.2.2.2
def zw_u2 {α : Type} (f : Nat → Nat → α) (k a : Nat) (v : α) : Nat → Nat → α := fun k' a' => if k' = k ∧ a' = a then v else f k' a'
/-- an int row replaced, an int, a reference, a long written -/
def zw_sF (w : zw_T) (k a : Nat) (f : Nat → Int32) : zw_T := (w.1, zw_u2 w.2.1 k a f, w.2.2)
def zw_sI (w : zw_T) (k a i : Nat) (v : Int32) : zw_T := zw_sF w k a (upd (zw_I w k a) i v)
def zw_sR (w : zw_T) (k a i : Nat) (v : Option Nat) : zw_T := (w.1, w.2.1, zw_u2 w.2.2.1 k a (va_up (zw_R w k a) i v), w.2.2.2)
def zw_sL (w : zw_T) (k a i : Nat) (v : Int64) : zw_T := (w.1, w.2.1, w.2.2.1, zw_u2 w.2.2.2.1 k a (vp_updL (zw_L w k a) i v), w.2.2.2.2)
/-- a new cell at the heap's end -/
def zw_new (w : zw_T) (kd n : Nat) : zw_T := (va_up w.1 (zw_n w) (kd, n), (fun k a => if a = zw_n w then fun _ => 0 else w.2.1 k a), (fun k a => if a = zw_n w then fun _ => none else w.2.2.1 k a), (fun k a => if a = zw_n w then fun _ => 0 else w.2.2.2.1 k a), zw_n w + 1)
def zw_tc (d : String) : Nat := if d = "J" then 2 else if d = "I" then 0 else if d = "Z" then 0 else 1
def zw_nf (ci : Nat) : Nat := match vwCl[ci]? with
  | some q => q.2.2
  | none => 0
def zw_ft (ci k : Nat) : Nat := match vwCl[ci]? with
  | some q => zw_tc (q.2.1 k).2.2.1
  | none => 0
def zw_fv (w : zw_T) (t id a : Nat) : Value := match t with
  | 0 => .int (zw_I w id a 0)
  | 1 => va_rf (zw_R w id a 0)
  | _ => .long (zw_L w id a 0)
def zw_fs (w : zw_T) (ci a : Nat) : List Value := (List.range (zw_nf ci)).map (fun k => zw_fv w (zw_ft ci k) (1000 + 64 * ci + k) a)
abbrev zw_G : Type := ClassId × ClassId × ClassId × (Nat → ClassId)
def zw_cell (G : zw_G) (w : zw_T) (a : Nat) : va_E :=
  if (zw_ty w a).1 < 100 then .inr ((zw_ty w a).1 - 1, zw_fs w ((zw_ty w a).1 - 1) a)
  else if (zw_ty w a).1 < 200 then .inl (G.1, (zw_ty w a).2, .inl (zw_I w (zw_ty w a).1 a))
  else if (zw_ty w a).1 < 300 then .inl (G.2.1, (zw_ty w a).2, .inl (zw_I w (zw_ty w a).1 a))
  else if (zw_ty w a).1 < 400 then .inl (G.2.2.1, (zw_ty w a).2, .inr (.inl (zw_L w (zw_ty w a).1 a)))
  else .inl (G.2.2.2 ((zw_ty w a).1 - 400), (zw_ty w a).2, .inr (.inr (.inr (.inr (zw_R w (zw_ty w a).1 a)))))
/-- the heap holds the memory, all of it in A, and ends where the memory says -/
def zw_ok (D : va_G) (G : zw_G) (A : Nat → Prop) (w : zw_T) (H : Heap) : Prop := H.size = zw_n w ∧ ∀ a, (zw_ty w a).1 ≠ 0 → va_at D vwCl (a, zw_cell G w a) H ∧ A a
theorem zw_one {D : va_G} {cl : List vw_C} {q : Nat × va_E} {H : Heap} (h : va_at D cl q H) : va_P D cl [q] H := by
  intro k x hk
  cases k with
  | zero => cases hk; exact h
  | succ k => simp at hk
theorem zw_cell_o {G : zw_G} {w : zw_T} {a ci : Nat} (h : (zw_ty w a).1 = ci + 1) (hc : ci < 99) : zw_cell G w a = .inr (ci, zw_fs w ci a) := by
  unfold zw_cell
  rw [h, if_pos (by omega)]
  rfl
theorem zw_cell_i {G : zw_G} {w : zw_T} {a kd : Nat} (h : (zw_ty w a).1 = kd) (h1 : 100 ≤ kd) (h2 : kd < 200) : zw_cell G w a = .inl (G.1, (zw_ty w a).2, .inl (zw_I w kd a)) := by
  unfold zw_cell
  rw [h, if_neg (by omega), if_pos (by omega)]
theorem zw_cell_z {G : zw_G} {w : zw_T} {a kd : Nat} (h : (zw_ty w a).1 = kd) (h1 : 200 ≤ kd) (h2 : kd < 300) : zw_cell G w a = .inl (G.2.1, (zw_ty w a).2, .inl (zw_I w kd a)) := by
  unfold zw_cell
  rw [h, if_neg (by omega), if_neg (by omega), if_pos (by omega)]
theorem zw_cell_l {G : zw_G} {w : zw_T} {a kd : Nat} (h : (zw_ty w a).1 = kd) (h1 : 300 ≤ kd) (h2 : kd < 400) : zw_cell G w a = .inl (G.2.2.1, (zw_ty w a).2, .inr (.inl (zw_L w kd a))) := by
  unfold zw_cell
  rw [h, if_neg (by omega), if_neg (by omega), if_neg (by omega), if_pos (by omega)]
theorem zw_cell_r {G : zw_G} {w : zw_T} {a ci : Nat} (h : (zw_ty w a).1 = 400 + ci) : zw_cell G w a = .inl (G.2.2.2 ci, (zw_ty w a).2, .inr (.inr (.inr (.inr (zw_R w (400 + ci) a))))) := by
  unfold zw_cell
  rw [h, if_neg (by omega), if_neg (by omega), if_neg (by omega), if_neg (by omega), Nat.add_sub_cancel_left]
/-- one cell changes -/
theorem zw_move {D : va_G} {G : zw_G} {A : Nat → Prop} {w w' : zw_T} {H H1 : Heap} {a : Nat} (h : zw_ok D G A w H) (hty : zw_ty w' = zw_ty w) (hn : zw_n w' = zw_n w) (hc : ∀ b, b ≠ a → zw_cell G w' b = zw_cell G w b) (ha : va_at D vwCl (a, zw_cell G w' a) H1) (hz : H1.size = H.size) (ho : ∀ q : Nat, q ≠ a → H1[q]? = H[q]?) : zw_ok D G A w' H1 := by
  refine ⟨by rw [hz, hn]; exact h.1, fun b hb => ?_⟩
  rw [hty] at hb
  by_cases hba : b = a
  · subst hba
    exact ⟨ha, (h.2 b hb).2⟩
  · rw [hc b hba]
    exact ⟨(h.2 b hb).1.kept (ho b hba), (h.2 b hb).2⟩
/-- one cell comes -/
theorem zw_born {D : va_G} {G : zw_G} {A : Nat → Prop} {w w' : zw_T} {H H1 : Heap} {kd n : Nat} (h : zw_ok D G A w H) (hw : w' = zw_new w kd n) (ha : va_at D vwCl (zw_n w, zw_cell G w' (zw_n w)) H1) (hA : A (zw_n w)) (hz : H1.size = H.size + 1) (ho : ∀ q : Nat, q < H.size → H1[q]? = H[q]?) : zw_ok D G A w' H1 := by
  subst hw
  refine ⟨by rw [hz, h.1]; rfl, fun b hb => ?_⟩
  by_cases hba : b = zw_n w
  · subst hba
    exact ⟨ha, hA⟩
  · have e1 : zw_ty (zw_new w kd n) b = zw_ty w b := va_up_ne _ _ hba
    have e2 : ∀ k, zw_I (zw_new w kd n) k b = zw_I w k b := fun k => if_neg hba
    have e3 : ∀ k, zw_R (zw_new w kd n) k b = zw_R w k b := fun k => if_neg hba
    have e4 : ∀ k, zw_L (zw_new w kd n) k b = zw_L w k b := fun k => if_neg hba
    have e5 : ∀ ci, zw_fs (zw_new w kd n) ci b = zw_fs w ci b := by
      intro ci
      unfold zw_fs
      apply List.map_congr_left
      intro k _
      unfold zw_fv
      rw [e2, e3, e4]
    have e : zw_cell G (zw_new w kd n) b = zw_cell G w b := by
      unfold zw_cell
      rw [e1, e2, e3, e4, e5]
    rw [e1] at hb
    rw [e]
    exact ⟨(h.2 b hb).1.kept (ho b (h.2 b hb).1.lt), (h.2 b hb).2⟩
theorem zw_u2_ne {α : Type} {f : Nat → Nat → α} {k a k' b : Nat} {v : α} (h : b ≠ a) : zw_u2 f k a v k' b = f k' b := by
  unfold zw_u2
  rw [if_neg (fun q => h q.2)]
theorem zw_u2_eq {α : Type} {f : Nat → Nat → α} {k a : Nat} {v : α} : zw_u2 f k a v k a = v := by
  unfold zw_u2
  rw [if_pos ⟨rfl, rfl⟩]
theorem zw_u2_nk {α : Type} {f : Nat → Nat → α} {k a k' b : Nat} {v : α} (h : k' ≠ k) : zw_u2 f k a v k' b = f k' b := by
  unfold zw_u2
  rw [if_neg (fun q => h q.1)]
theorem zw_same {G : zw_G} {w w' : zw_T} {b : Nat} (h1 : zw_ty w' b = zw_ty w b) (h2 : ∀ k, zw_I w' k b = zw_I w k b) (h3 : ∀ k, zw_R w' k b = zw_R w k b) (h4 : ∀ k, zw_L w' k b = zw_L w k b) : zw_cell G w' b = zw_cell G w b := by
  have e5 : ∀ ci, zw_fs w' ci b = zw_fs w ci b := by
    intro ci
    unfold zw_fs
    apply List.map_congr_left
    intro k _
    unfold zw_fv
    rw [h2, h3, h4]
  unfold zw_cell
  rw [h1, h2, h3, h4, e5]
theorem zw_sF_ne {G : zw_G} {w : zw_T} {k a b : Nat} {f : Nat → Int32} (h : b ≠ a) : zw_cell G (zw_sF w k a f) b = zw_cell G w b := zw_same rfl (fun _ => zw_u2_ne h) (fun _ => rfl) (fun _ => rfl)
theorem zw_sR_ne {G : zw_G} {w : zw_T} {k a b i : Nat} {v : Option Nat} (h : b ≠ a) : zw_cell G (zw_sR w k a i v) b = zw_cell G w b := zw_same rfl (fun _ => rfl) (fun _ => zw_u2_ne h) (fun _ => rfl)
theorem zw_sL_ne {G : zw_G} {w : zw_T} {k a b i : Nat} {v : Int64} (h : b ≠ a) : zw_cell G (zw_sL w k a i v) b = zw_cell G w b := zw_same rfl (fun _ => rfl) (fun _ => rfl) (fun _ => zw_u2_ne h)
/-- a list of the values of a function, one place changed -/
theorem zw_mapset {n k : Nat} {f g : Nat → Value} {v : Value} (hk : k < n) (h1 : g k = v) (h2 : ∀ j, j ≠ k → g j = f j) : (List.range n).map g = ((List.range n).map f).set k v := by
  apply List.ext_getElem?
  intro j
  by_cases hj : j = k
  · subst hj
    rw [List.getElem?_set_self (by simpa using hk), List.getElem?_map, List.getElem?_range hk]
    simp [h1]
  · rw [List.getElem?_set_ne (Ne.symm hj), List.getElem?_map, List.getElem?_map]
    cases hq : (List.range n)[j]? with
    | none => rfl
    | some x =>
      have hx : x = j := by
        obtain ⟨h3, h4⟩ := List.getElem?_eq_some_iff.mp hq
        rw [List.getElem_range] at h4
        exact h4.symm
      subst hx
      simp [h2 x hj]
theorem zw_fs_at {w : zw_T} {ci a k : Nat} (hk : k < zw_nf ci) : (zw_fs w ci a)[k]? = some (zw_fv w (zw_ft ci k) (1000 + 64 * ci + k) a) := by
  unfold zw_fs
  rw [List.getElem?_map, List.getElem?_range hk]
  rfl
theorem zw_fs_len {w : zw_T} {ci a : Nat} : (zw_fs w ci a).length = zw_nf ci := by
  unfold zw_fs
  simp
theorem zw_fs_I {w : zw_T} {ci a k : Nat} {v : Int32} (hk : k < zw_nf ci) (ht : zw_ft ci k = 0) : zw_fs (zw_sI w (1000 + 64 * ci + k) a 0 v) ci a = (zw_fs w ci a).set k (.int v) := by
  unfold zw_fs
  refine zw_mapset hk ?_ ?_
  · rw [ht]
    show Value.int (zw_u2 (α := Nat → Int32) _ _ _ _ _ _ 0) = _
    rw [zw_u2_eq]
    rfl
  · intro j hj
    unfold zw_fv
    have e : zw_I (zw_sI w (1000 + 64 * ci + k) a 0 v) (1000 + 64 * ci + j) a = zw_I w (1000 + 64 * ci + j) a := zw_u2_nk (by omega)
    rw [e]
    rfl
theorem zw_fs_R {w : zw_T} {ci a k : Nat} {v : Option Nat} (hk : k < zw_nf ci) (ht : zw_ft ci k = 1) : zw_fs (zw_sR w (1000 + 64 * ci + k) a 0 v) ci a = (zw_fs w ci a).set k (va_rf v) := by
  unfold zw_fs
  refine zw_mapset hk ?_ ?_
  · rw [ht]
    show va_rf (zw_u2 (α := Nat → Option Nat) _ _ _ _ _ _ 0) = _
    rw [zw_u2_eq]
    rfl
  · intro j hj
    unfold zw_fv
    have e : zw_R (zw_sR w (1000 + 64 * ci + k) a 0 v) (1000 + 64 * ci + j) a = zw_R w (1000 + 64 * ci + j) a := zw_u2_nk (by omega)
    rw [e]
    rfl
theorem zw_fs_L {w : zw_T} {ci a k : Nat} {v : Int64} (hk : k < zw_nf ci) (ht : zw_ft ci k = 2) : zw_fs (zw_sL w (1000 + 64 * ci + k) a 0 v) ci a = (zw_fs w ci a).set k (.long v) := by
  unfold zw_fs
  refine zw_mapset hk ?_ ?_
  · rw [ht]
    show Value.long (zw_u2 (α := Nat → Int64) _ _ _ _ _ _ 0) = _
    rw [zw_u2_eq]
    rfl
  · intro j hj
    unfold zw_fv
    have e : zw_L (zw_sL w (1000 + 64 * ci + k) a 0 v) (1000 + 64 * ci + j) a = zw_L w (1000 + 64 * ci + j) a := zw_u2_nk (by omega)
    rw [e]
    rfl
/-! the locals, by their numbers -/
def zl_has (ls : Array Slot) (lv : List (Option Value)) : Prop := ls.size = lv.length ∧ lv_wf ls ∧ ∀ (i : Nat) (v : Value), lv[i]? = some (some v) → ls[i]? = some (.val v)
def zl_as (lv : List (Option Value)) : List (Nat × Value) := (List.range lv.length).filterMap (fun i => (lv[i]?.join).map (fun v => (i, v)))
def zl_free (lv : List (Option Value)) (i : Nat) : Bool := match i with
  | 0 => true
  | j + 1 => match lv[j]? with
    | some (some w) => w.category == 1
    | _ => true
theorem zl_mem {lv : List (Option Value)} {i : Nat} {v : Value} : (i, v) ∈ zl_as lv ↔ lv[i]? = some (some v) := by
  unfold zl_as
  rw [List.mem_filterMap]
  constructor
  · rintro ⟨j, -, h⟩
    cases hq : lv[j]? with
    | none => rw [hq] at h; simp at h
    | some o =>
      rw [hq] at h
      cases o with
      | none => simp at h
      | some x =>
        simp at h
        obtain ⟨h1, h2⟩ := h
        subst h1; subst h2
        exact hq
  · intro h
    refine ⟨i, List.mem_range.mpr (List.getElem?_eq_some_iff.mp h).1, ?_⟩
    rw [h]
    rfl
theorem zl_to {ls : Array Slot} {lv : List (Option Value)} (h : zl_has ls lv) : lv_has ls lv.length (zl_as lv) := ⟨h.1, h.2.1, fun q hq => h.2.2 q.1 q.2 (zl_mem.mp hq)⟩
theorem zl_of1 {ls : Array Slot} {lv : List (Option Value)} {i : Nat} {v : Value} (h : lv_has ls lv.length ((i, v) :: (zl_as lv).filter (fun q => !(q.1 == i) && !(q.1 + 1 == i && q.2.category == 2)))) (hi : i < lv.length) (hf : zl_free lv i = true) : zl_has ls (lv.set i (some v)) := by
  refine ⟨by rw [List.length_set]; exact h.1, h.2.1, fun j x hj => ?_⟩
  by_cases hji : j = i
  · subst hji
    rw [List.getElem?_set_self hi] at hj
    cases hj
    exact h.2.2 (j, v) List.mem_cons_self
  · rw [List.getElem?_set_ne (Ne.symm hji)] at hj
    refine h.2.2 (j, x) (List.mem_cons_of_mem _ (List.mem_filter.mpr ⟨zl_mem.mpr hj, ?_⟩))
    have h1 : (j == i) = false := by simpa using hji
    simp only [h1, Bool.not_false, Bool.true_and]
    by_cases h2 : j + 1 = i
    · subst h2
      have h3 : zl_free lv (j + 1) = (x.category == 1) := by
        unfold zl_free
        simp only [hj]
      rw [h3] at hf
      have h4 : x.category = 1 := by simpa using hf
      simp [h4]
    · simp [h2]
theorem zl_of2 {ls : Array Slot} {lv : List (Option Value)} {i : Nat} {v : Value} (h : lv_has ls lv.length ((i, v) :: (zl_as lv).filter (fun q => !(q.1 == i) && (!(q.1 == i + 1) && !(q.1 + 1 == i && q.2.category == 2))))) (hi : i + 1 < lv.length) (hf : zl_free lv i = true) : zl_has ls ((lv.set i (some v)).set (i + 1) none) := by
  refine ⟨by rw [List.length_set, List.length_set]; exact h.1, h.2.1, fun j x hj => ?_⟩
  by_cases hj1 : j = i + 1
  · subst hj1
    rw [List.getElem?_set_self (by rw [List.length_set]; exact hi)] at hj
    cases hj
  · rw [List.getElem?_set_ne (Ne.symm hj1)] at hj
    by_cases hji : j = i
    · subst hji
      rw [List.getElem?_set_self (by omega)] at hj
      cases hj
      exact h.2.2 (j, v) List.mem_cons_self
    · rw [List.getElem?_set_ne (Ne.symm hji)] at hj
      refine h.2.2 (j, x) (List.mem_cons_of_mem _ (List.mem_filter.mpr ⟨zl_mem.mpr hj, ?_⟩))
      have h1 : (j == i) = false := by simpa using hji
      have h1' : (j == i + 1) = false := by simpa using hj1
      simp only [h1, h1', Bool.not_false, Bool.true_and]
      by_cases h2 : j + 1 = i
      · subst h2
        have h3 : zl_free lv (j + 1) = (x.category == 1) := by
          unfold zl_free
          simp only [hj]
        rw [h3] at hf
        have h4 : x.category = 1 := by simpa using hf
        simp [h4]
      · simp [h2]
/-- fewer known locals -/
def zl_le (l' l : List (Option Value)) : Prop := l'.length = l.length ∧ ∀ (i : Nat) (v : Value), l'[i]? = some (some v) → l[i]? = some (some v)
theorem zl_n : zl_le [] [] := ⟨rfl, fun _ _ h => h⟩
theorem zl_k {x : Option Value} {l' l : List (Option Value)} (h : zl_le l' l) : zl_le (x :: l') (x :: l) := by
  refine ⟨by simp [h.1], fun i v hi => ?_⟩
  cases i with
  | zero => exact hi
  | succ i => exact h.2 i v hi
theorem zl_d {x : Option Value} {l' l : List (Option Value)} (h : zl_le l' l) : zl_le (none :: l') (x :: l) := by
  refine ⟨by simp [h.1], fun i v hi => ?_⟩
  cases i with
  | zero => cases hi
  | succ i => exact h.2 i v hi
theorem zl_has_le {ls : Array Slot} {l' l : List (Option Value)} (h : zl_has ls l) (hl : zl_le l' l) : zl_has ls l' := ⟨by rw [hl.1]; exact h.1, h.2.1, fun i v hi => h.2.2 i v (hl.2 i v hi)⟩
/-! the statics that nobody writes; the judgement -/
def zs_tr (j : Nat) : Int32 := ([0x001, 0x003, 0x005, 0x009, 0x011, 0x021, 0x041, 0x081, 0x101, 0x201, 0x401, 0x6D3, 0x377, 0x6ED, 0x30B, 0x615, 0x2FB, 0x5F5, 0x53B, 0x4A7, 0x79F, 0x1EF, 0x3DD, 0x7B9, 0x1A3, 0x345, 0x689, 0x3C3, 0x785, 0x1DB, 0x3B5, 0x769] : List Int32).getD j 0
def zn_ok (U : State) : Prop := (∀ q ∈ zn_L, va_Nw (.methodLinkNest q.1 q.2.1 q.2.2.1 q.2.2.2) U) ∧ (∀ C ∈ za_L, va_AO C U) ∧ va_Nw (.castable "[I" "java/lang/Cloneable") U
def zs_ok (A : Nat → Prop) (U : State) (H : Heap) : Prop := zn_ok U ∧ ∃ t : Nat, va_Z "WakingPagers$Repairer" "TRACES" "[I" (.ref t) A U H ∧ va_T .int t 32 (fun j => .int (zs_tr j)) A U H
end
section
/-! The judgement zg: the machine, anywhere in a method with the memory w, comes to its end as Q says. -/
def zw_nm (ci : Nat) : String := match vwCl[ci]? with
  | some q => q.1
  | none => ""
def zw_tys (G : zw_G) : List (ClassId × FieldType) := [(G.1, .int), (G.2.1, .boolean), (G.2.2.1, .long)] ++ zw_rl.map (fun ci => (G.2.2.2 ci, .object (zw_nm ci)))
abbrev zg_X : Type := Program × Launch × Env × Room × State × MethodId × Array Value × List Frame × Method × Code
def zg_ok (X : zg_X) (cc : ByteArray) (own : String) (nL fr lo mc : Nat) (D : va_G) (G : zw_G) (A : Nat → Prop) : Prop := match X with
  | (p, _, _, R, s, m, args, _, meth, c) => p.tables.exec = Jvm.exec ∧ c.code = cc ∧ c.maxLocals = nL ∧ s.vm.findClass own = some m.cls ∧ (∀ q ∈ zT, q.before args s = true) ∧ va_K D vwCl (zw_tys G) s ∧ (∀ q, s.heap.size ≤ q → A q) ∧ meth.locks = false ∧ R.frames = fr ∧ R.cells = mc ∧ R.slots = 4096 * mc ∧ R.locals = lo ∧ zs_ok A s s.heap
def zg (X : zg_X) (D : va_G) (G : zw_G) (A : Nat → Prop) (Q : State → Prop) (ck : Nat) (w : zw_T) (pc : Nat) (lv : List (Option Value)) (st : List Value) : Prop := match X with
  | (p, l, e, R, s, m, args, below, meth, c) => ∀ (H : Heap) (locs : List Loc) (ls : Array Slot), zl_has ls lv → zw_ok D G A w H → va_S A s.heap H locs → W p l e R s m args below meth c H locs ck (4096 * ck) Q (F0 m pc ls st)
theorem zg_sub {X : zg_X} {D : va_G} {G : zw_G} {A : Nat → Prop} {Q : State → Prop} {ck : Nat} {w : zw_T} {pc : Nat} {lv lv' : List (Option Value)} {st : List Value} (hl : zl_le lv' lv) (k : zg X D G A Q ck w pc lv' st) : zg X D G A Q ck w pc lv st := by
  obtain ⟨p, l, e, R, s, m, args, below, meth, c⟩ := X
  intro H locs ls h1 h2 h3
  exact k H locs ls (zl_has_le h1 hl) h2 h3
theorem zg_wide {X : zg_X} {D : va_G} {G : zw_G} {A : Nat → Prop} {Q : State → Prop} {ck ck' : Nat} {w : zw_T} {pc : Nat} {lv : List (Option Value)} {st : List Value} (hl : ck ≤ ck') (k : zg X D G A Q ck' w pc lv st) : zg X D G A Q ck w pc lv st := by
  obtain ⟨p, l, e, R, s, m, args, below, meth, c⟩ := X
  intro H locs ls h1 h2 h3
  exact W.widen hl (Nat.mul_le_mul_left 4096 hl) (k H locs ls h1 h2 h3)
/-! contracts: a method does what a function of mine says -/
def zp_pre (D : va_G) (G : zw_G) (A : Nat → Prop) (w : zw_T) (U : State) : Prop := zw_ok D G A w U.heap ∧ va_K D vwCl (zw_tys G) U ∧ (∀ q, U.heap.size ≤ q → A q) ∧ zs_ok A U U.heap
def zq (D : va_G) (G : zw_G) (A : Nat → Prop) (res : Option Value × zw_T) : Array Value → State → Outcome → State → Prop := fun _ st oc t => (oc = .returned res.1 ∧ zw_ok D G A res.2 t.heap) ∧ va_F A st t
def zc_rm (fr lo mc : Nat) : Room := { frames := fr, cells := mc, slots := 4096 * mc, locals := lo }
def zc (l : Launch) (y : MethodName) (ws : List Cond) (fr lo mc : Nat) (D : va_G) (G : zw_G) (A : Nat → Prop) (av : List Value) (w : zw_T) (res : Option Value × zw_T) : Prop := Met l y ws (zc_rm fr lo mc) (va_Pc av (zp_pre D G A w)) (zq D G A res) mc (4096 * mc) A
def zr_i (r : Int32 × zw_T) : Option Value × zw_T := (some (.int r.1), r.2)
def zr_l (r : Int64 × zw_T) : Option Value × zw_T := (some (.long r.1), r.2)
def zr_r (r : Option Nat × zw_T) : Option Value × zw_T := (some (va_rf r.1), r.2)
def zr_v (r : zw_T) : Option Value × zw_T := (none, r)
theorem zs_keep {A : Nat → Prop} {s U : State} {H : Heap} {locs : List Loc} (hZ : zs_ok A s s.heap) (h3 : va_S A s.heap H locs) (hU : U.heap = H) (hW : s.WarmedH U.vm) : zs_ok A U U.heap := by
  obtain ⟨hN, t, z1, z2⟩ := hZ
  rw [hU]
  exact ⟨⟨fun q hq => (hN.1 q hq).warmM hW, fun C hC => (hN.2.1 C hC).moved hW.alike, hN.2.2.warmC hW⟩, t, (z1.kept (fun a h h' => h3.2.1 a h h')).moved hW.alike, (z2.kept (fun a h h' => h3.2.1 a h h')).moved hW.alike⟩
theorem zp_blind {D : va_G} {G : zw_G} {A : Nat → Prop} {w : zw_T} {av : List Value} : FrameBlind (va_Pc av (zp_pre D G A w)) := by
  intro a U g mk q
  obtain ⟨q0, q1, q2, q3, hN, t, z1, z2⟩ := q
  exact ⟨q0, q1, va_K.moved (u := U) (U := U.calling g mk a) (Vm.Alike.refl U.vm) q2, q3, ⟨fun q hq => (hN.1 q hq).same rfl rfl, fun C hC => va_AO.moved (u := U) (U := U.calling g mk a) (Vm.Alike.refl U.vm) (hN.2.1 C hC), hN.2.2.same rfl rfl⟩, t, va_Z.moved (u := U) (U := U.calling g mk a) (Vm.Alike.refl U.vm) z1, va_T.moved (u := U) (U := U.calling g mk a) (Vm.Alike.refl U.vm) z2⟩
theorem zp_at {D : va_G} {G : zw_G} {A : Nat → Prop} {w : zw_T} {av : List Value} {s : State} {H : Heap} {locs : List Loc} (hK : va_K D vwCl (zw_tys G) s) (hA : ∀ q, s.heap.size ≤ q → A q) (hZ : zs_ok A s s.heap) (h2 : zw_ok D G A w H) (h3 : va_S A s.heap H locs) : ∀ U : State, U.heap = H → s.WarmedH U.vm → va_Pc av (zp_pre D G A w) av.toArray U :=
  fun U hU hW => ⟨rfl, by rw [hU]; exact h2, va_K.moved hW.alike hK, fun q hq => hA q (Nat.le_trans h3.1 (by rw [← hU]; exact hq)), zs_keep hZ h3 hU hW⟩
/-- behind a call -/
theorem zg_back {p : Program} {l : Launch} {e : Env} {R : Room} {s : State} {m : MethodId} {args : Array Value} {below : List Frame} {meth : Method} {c : Code} {H : Heap} {locs : List Loc} {ck : Nat} {Q : State → Prop} {pc : Nat} {ls : Array Slot} {st st0 : List Value} {mcy : Nat} {res : Option Value × zw_T} {D : va_G} {G : zw_G} {A : Nat → Prop} {av : Array Value}
    (hr : va_Run p l e R s m args below meth c H locs ck (4096 * ck) mcy (4096 * mcy) (F0 m pc ls st0) st (zq D G A res av) A) (h3 : va_S A s.heap H locs)
    (kk : ∀ (H1 : Heap) (locs1 : List Loc), zw_ok D G A res.2 H1 → va_S A s.heap H1 locs1 → W p l e R s m args below meth c H1 locs1 (ck + mcy) (4096 * (ck + mcy)) Q (F0 m (pc + 3) ls (res.1.toList ++ st))) : W p l e R s m args below meth c H locs ck (4096 * ck) Q (F0 m pc ls st0) := by
  intro T hT X
  obtain ⟨v, st₀, t, T', L, h0, X', hL, e1, e2, ⟨⟨hv, hw⟩, hz, hk⟩, sp⟩ := hr T hT X
  have hv' : v = res.1 := by cases hv; rfl
  subst hv'
  rw [h0] at hz hk
  rw [← Nat.mul_add] at X'
  obtain ⟨t2, a1, b1⟩ := kk T'.heap (locs ++ L) (by rw [e1]; exact hw) ⟨Nat.le_trans h3.1 (by rw [e1]; exact hz), fun q g1 g2 => by rw [e1, hk q (Nat.lt_of_lt_of_le g1 h3.1) g2]; exact h3.2.1 q g1 g2, fun q hq => by
      rcases List.mem_append.mp hq with h | h
      · exact h3.2.2 q h
      · exact hL q h⟩ T' rfl X'
  exact ⟨t2, sp t2 a1, b1⟩
def zg_Q (X : zg_X) (D : va_G) (G : zw_G) (A : Nat → Prop) (mc : Nat) (res : Option Value × zw_T) : State → Prop := match X with
  | (_, _, _, _, s, _, args, below, _, _) => MQ below (zq D G A res) args s mc (4096 * mc) A
def zg_rt (X : zg_X) : Option FieldType := match X with
  | (_, _, _, _, _, _, _, _, meth, _) => meth.sig.returnType
def zg_nm (X : zg_X) : String := match X with
  | (_, _, _, _, _, _, _, _, meth, _) => meth.name
/-- a contract out of a walk from the entry -/
theorem zc_of {l : Launch} {y : MethodName} {ws : List Cond} {cc : ByteArray} {maxL fr lo mc : Nat} {ret : Option FieldType} {D : va_G} {G : zw_G} {A : Nat → Prop} {av : List Value} {w : zw_T} {res : Option Value × zw_T} (lv : List (Option Value))
    (hy : plainName y.cls = true) (hw : ws = Cond.code y cc maxL ret :: zT) (hn : (lg_sl av).length ≤ maxL) (hl : zl_as lv = lv_args 0 av) (hlen : lv.length = maxL)
    (body : ∀ X : zg_X, zg_ok X cc y.cls maxL fr lo mc D G A → zg_rt X = ret → zg_nm X = y.name → zg X D G A (zg_Q X D G A mc res) 0 w 0 lv []) : zc l y ws fr lo mc D G A av w res := by
  refine Met.ofW (cc := cc) (maxL := maxL) (ret := ret) hy hw ?_
  intro p e s m args below meth c s₁ B hml hv
  obtain ⟨rfl, hW, hK, hA, hZ⟩ := hv
  have hts := fun q hq => atoms_spec (ws := ws) B.pre q (by rw [hw]; exact List.mem_cons_of_mem _ hq)
  have hb := body (p, l, e, zc_rm fr lo mc, s, m, av.toArray, below, meth, c) ⟨B.exec, B.bytes, hml, findClass_of_methodNamed B.named, hts, hK, hA, B.notSynchronized, rfl, rfl, rfl, rfl, hZ⟩ B.returns (name_of_methodNamed B.named B.method).1
  have he := lv_entry av (n := maxL) hn
  rw [lg_entry_eq]
  refine hb s.heap [] _ ⟨by rw [hlen]; exact he.1, he.2.1, fun i v hi => ?_⟩ hW va_S.rf
  refine he.2.2 (i, v) ?_
  rw [← hl]
  exact zl_mem.mpr hi
/-! ends -/
theorem zq_end {D : va_G} {G : zw_G} {A : Nat → Prop} {s : State} {H : Heap} {locs : List Loc} {args : Array Value} {v : Option Value} {w : zw_T} (h2 : zw_ok D G A w H) (h3 : va_S A s.heap H locs) : ∀ t : State, t.heap = H → s.WarmedH t.vm → zq D G A (v, w) args s (.returned v) t :=
  fun t ht _ => ⟨⟨rfl, by rw [ht]; exact h2⟩, h3.F ht⟩
theorem zg_iret {X : zg_X} {D : va_G} {G : zw_G} {A : Nat → Prop} {ck : Nat} {w : zw_T} {pc : Nat} {lv : List (Option Value)} {cc : ByteArray} {own : String} {nL fr lo mc : Nat} {v : Int32} (hX : zg_ok X cc own nL fr lo mc D G A) (hr : zg_rt X = some .int) (hc : ck ≤ mc) (hd : decode cc pc = .ok (.ireturn, 1)) : zg X D G A (zg_Q X D G A mc (some (.int v), w)) ck w pc lv [.int v] := by
  refine zg_wide hc ?_
  obtain ⟨p, l, e, R, s, m, args, below, meth, c⟩ := X
  obtain ⟨hx, hb, hml, ho, hts, hK, hA, hlk, hfr, hR1, hR2, hlo, hZ⟩ := hX
  intro H locs ls h1 h2 h3
  exact W.iret hx hb hr (zq_end h2 h3) h3.2.2 hd hlk
theorem zg_zret {X : zg_X} {D : va_G} {G : zw_G} {A : Nat → Prop} {ck : Nat} {w : zw_T} {pc : Nat} {lv : List (Option Value)} {cc : ByteArray} {own : String} {nL fr lo mc : Nat} {v : Int32} (hX : zg_ok X cc own nL fr lo mc D G A) (hr : zg_rt X = some .boolean) (hn : narrow .boolean (.int v) = .int v) (hc : ck ≤ mc) (hd : decode cc pc = .ok (.ireturn, 1)) : zg X D G A (zg_Q X D G A mc (some (.int v), w)) ck w pc lv [.int v] := by
  refine zg_wide hc ?_
  obtain ⟨p, l, e, R, s, m, args, below, meth, c⟩ := X
  obtain ⟨hx, hb, hml, ho, hts, hK, hA, hlk, hfr, hR1, hR2, hlo, hZ⟩ := hX
  intro H locs ls h1 h2 h3
  exact W.zret hx hb hr hn (zq_end h2 h3) h3.2.2 hd hlk
theorem zg_lret {X : zg_X} {D : va_G} {G : zw_G} {A : Nat → Prop} {ck : Nat} {w : zw_T} {pc : Nat} {lv : List (Option Value)} {cc : ByteArray} {own : String} {nL fr lo mc : Nat} {v : Int64} (hX : zg_ok X cc own nL fr lo mc D G A) (hr : zg_rt X = some .long) (hc : ck ≤ mc) (hd : decode cc pc = .ok (.lreturn, 1)) : zg X D G A (zg_Q X D G A mc (some (.long v), w)) ck w pc lv [.long v] := by
  refine zg_wide hc ?_
  obtain ⟨p, l, e, R, s, m, args, below, meth, c⟩ := X
  obtain ⟨hx, hb, hml, ho, hts, hK, hA, hlk, hfr, hR1, hR2, hlo, hZ⟩ := hX
  intro H locs ls h1 h2 h3
  exact W.lret hx hb hr (zq_end h2 h3) h3.2.2 hd hlk
theorem zg_vret {X : zg_X} {D : va_G} {G : zw_G} {A : Nat → Prop} {ck : Nat} {w : zw_T} {pc : Nat} {lv : List (Option Value)} {cc : ByteArray} {own : String} {nL fr lo mc : Nat} (hX : zg_ok X cc own nL fr lo mc D G A) (hr : zg_rt X = none) (hc : ck ≤ mc) (hd : decode cc pc = .ok (.return_, 1)) : zg X D G A (zg_Q X D G A mc (none, w)) ck w pc lv [] := by
  refine zg_wide hc ?_
  obtain ⟨p, l, e, R, s, m, args, below, meth, c⟩ := X
  obtain ⟨hx, hb, hml, ho, hts, hK, hA, hlk, hfr, hR1, hR2, hlo, hZ⟩ := hX
  intro H locs ls h1 h2 h3
  exact W.vret hx hb hr (zq_end h2 h3) h3.2.2 hd hlk
theorem zg_aret {X : zg_X} {D : va_G} {G : zw_G} {A : Nat → Prop} {ck : Nat} {w : zw_T} {pc : Nat} {lv : List (Option Value)} {cc : ByteArray} {own : String} {nL fr lo mc : Nat} {v : Option Nat} (rt : FieldType) (hX : zg_ok X cc own nL fr lo mc D G A) (hr : zg_rt X = some rt) (hrt : (∃ n, rt = .object n) ∨ ∃ t, rt = .array t) (hc : ck ≤ mc) (hd : decode cc pc = .ok (.areturn, 1)) : zg X D G A (zg_Q X D G A mc (some (va_rf v), w)) ck w pc lv [va_rf v] := by
  refine zg_wide hc ?_
  obtain ⟨p, l, e, R, s, m, args, below, meth, c⟩ := X
  obtain ⟨hx, hb, hml, ho, hts, hK, hA, hlk, hfr, hR1, hR2, hlo, hZ⟩ := hX
  intro H locs ls h1 h2 h3
  exact W.aret hx hb hr hrt (va_rf_or v) (zq_end h2 h3) h3.2.2 hd hlk
end
section
theorem zg_iconst {X : zg_X} {D : va_G} {G : zw_G} {A : Nat → Prop} {Q : State → Prop} {ck : Nat} {w : zw_T} {pc : Nat} {lv : List (Option Value)} {st : List Value} {cc : ByteArray} {own : String} {nL fr lo mc : Nat} {n : Int} (hX : zg_ok X cc own nL fr lo mc D G A) (hd : decode cc pc = .ok (.iconst n, 1)) (v : Int32) (hv : Int32.ofInt n = v) (k : zg X D G A Q ck w (pc + 1) lv (.int v :: st)) : zg X D G A Q ck w pc lv st := by
  obtain ⟨p, l, e, R, s, m, args, below, meth, c⟩ := X
  obtain ⟨hx, hb, hml, ho, hts, hK, hA, hlk, hfr, hR1, hR2, hlo, hZ⟩ := hX
  intro H locs ls h1 h2 h3
  exact lv_iconst hx hb hd hv (k H locs ls h1 h2 h3)
theorem zg_bipush {X : zg_X} {D : va_G} {G : zw_G} {A : Nat → Prop} {Q : State → Prop} {ck : Nat} {w : zw_T} {pc : Nat} {lv : List (Option Value)} {st : List Value} {cc : ByteArray} {own : String} {nL fr lo mc : Nat} {n : Int} (hX : zg_ok X cc own nL fr lo mc D G A) (hd : decode cc pc = .ok (.bipush n, 2)) (v : Int32) (hv : (Int8.ofInt n).toInt32 = v) (k : zg X D G A Q ck w (pc + 2) lv (.int v :: st)) : zg X D G A Q ck w pc lv st := by
  obtain ⟨p, l, e, R, s, m, args, below, meth, c⟩ := X
  obtain ⟨hx, hb, hml, ho, hts, hK, hA, hlk, hfr, hR1, hR2, hlo, hZ⟩ := hX
  intro H locs ls h1 h2 h3
  exact lv_bipush hx hb hd hv (k H locs ls h1 h2 h3)
theorem zg_sipush {X : zg_X} {D : va_G} {G : zw_G} {A : Nat → Prop} {Q : State → Prop} {ck : Nat} {w : zw_T} {pc : Nat} {lv : List (Option Value)} {st : List Value} {cc : ByteArray} {own : String} {nL fr lo mc : Nat} {n : Int} (hX : zg_ok X cc own nL fr lo mc D G A) (hd : decode cc pc = .ok (.sipush n, 3)) (v : Int32) (hv : (Int16.ofInt n).toInt32 = v) (k : zg X D G A Q ck w (pc + 3) lv (.int v :: st)) : zg X D G A Q ck w pc lv st := by
  obtain ⟨p, l, e, R, s, m, args, below, meth, c⟩ := X
  obtain ⟨hx, hb, hml, ho, hts, hK, hA, hlk, hfr, hR1, hR2, hlo, hZ⟩ := hX
  intro H locs ls h1 h2 h3
  exact lv_sipush hx hb hd hv (k H locs ls h1 h2 h3)
theorem zg_lconst {X : zg_X} {D : va_G} {G : zw_G} {A : Nat → Prop} {Q : State → Prop} {ck : Nat} {w : zw_T} {pc : Nat} {lv : List (Option Value)} {st : List Value} {cc : ByteArray} {own : String} {nL fr lo mc : Nat} {n : Fin 2} (hX : zg_ok X cc own nL fr lo mc D G A) (hd : decode cc pc = .ok (.lconst n, 1)) (v : Int64) (hv : Int64.ofNat (n : Nat) = v) (k : zg X D G A Q ck w (pc + 1) lv (.long v :: st)) : zg X D G A Q ck w pc lv st := by
  obtain ⟨p, l, e, R, s, m, args, below, meth, c⟩ := X
  obtain ⟨hx, hb, hml, ho, hts, hK, hA, hlk, hfr, hR1, hR2, hlo, hZ⟩ := hX
  intro H locs ls h1 h2 h3
  exact lv_lconst hx hb hd hv (k H locs ls h1 h2 h3)
theorem zg_null {X : zg_X} {D : va_G} {G : zw_G} {A : Nat → Prop} {Q : State → Prop} {ck : Nat} {w : zw_T} {pc : Nat} {lv : List (Option Value)} {st : List Value} {cc : ByteArray} {own : String} {nL fr lo mc : Nat}  (hX : zg_ok X cc own nL fr lo mc D G A) (hd : decode cc pc = .ok (.aconst_null, 1))  (k : zg X D G A Q ck w (pc + 1) lv (va_rf none :: st)) : zg X D G A Q ck w pc lv st := by
  obtain ⟨p, l, e, R, s, m, args, below, meth, c⟩ := X
  obtain ⟨hx, hb, hml, ho, hts, hK, hA, hlk, hfr, hR1, hR2, hlo, hZ⟩ := hX
  intro H locs ls h1 h2 h3
  exact lv_null hx hb hd (k H locs ls h1 h2 h3)
theorem zg_iadd {X : zg_X} {D : va_G} {G : zw_G} {A : Nat → Prop} {Q : State → Prop} {ck : Nat} {w : zw_T} {pc : Nat} {lv : List (Option Value)} {st : List Value} {cc : ByteArray} {own : String} {nL fr lo mc : Nat} {x y : Int32} (hX : zg_ok X cc own nL fr lo mc D G A) (hd : decode cc pc = .ok (.iadd, 1))  (k : zg X D G A Q ck w (pc + 1) lv (.int (x + y) :: st)) : zg X D G A Q ck w pc lv (.int y :: .int x :: st) := by
  obtain ⟨p, l, e, R, s, m, args, below, meth, c⟩ := X
  obtain ⟨hx, hb, hml, ho, hts, hK, hA, hlk, hfr, hR1, hR2, hlo, hZ⟩ := hX
  intro H locs ls h1 h2 h3
  exact lv_iadd hx hb hd (k H locs ls h1 h2 h3)
theorem zg_isub {X : zg_X} {D : va_G} {G : zw_G} {A : Nat → Prop} {Q : State → Prop} {ck : Nat} {w : zw_T} {pc : Nat} {lv : List (Option Value)} {st : List Value} {cc : ByteArray} {own : String} {nL fr lo mc : Nat} {x y : Int32} (hX : zg_ok X cc own nL fr lo mc D G A) (hd : decode cc pc = .ok (.isub, 1))  (k : zg X D G A Q ck w (pc + 1) lv (.int (x - y) :: st)) : zg X D G A Q ck w pc lv (.int y :: .int x :: st) := by
  obtain ⟨p, l, e, R, s, m, args, below, meth, c⟩ := X
  obtain ⟨hx, hb, hml, ho, hts, hK, hA, hlk, hfr, hR1, hR2, hlo, hZ⟩ := hX
  intro H locs ls h1 h2 h3
  exact lv_isub hx hb hd (k H locs ls h1 h2 h3)
theorem zg_imul {X : zg_X} {D : va_G} {G : zw_G} {A : Nat → Prop} {Q : State → Prop} {ck : Nat} {w : zw_T} {pc : Nat} {lv : List (Option Value)} {st : List Value} {cc : ByteArray} {own : String} {nL fr lo mc : Nat} {x y : Int32} (hX : zg_ok X cc own nL fr lo mc D G A) (hd : decode cc pc = .ok (.imul, 1))  (k : zg X D G A Q ck w (pc + 1) lv (.int (x * y) :: st)) : zg X D G A Q ck w pc lv (.int y :: .int x :: st) := by
  obtain ⟨p, l, e, R, s, m, args, below, meth, c⟩ := X
  obtain ⟨hx, hb, hml, ho, hts, hK, hA, hlk, hfr, hR1, hR2, hlo, hZ⟩ := hX
  intro H locs ls h1 h2 h3
  exact lv_imul hx hb hd (k H locs ls h1 h2 h3)
theorem zg_iand {X : zg_X} {D : va_G} {G : zw_G} {A : Nat → Prop} {Q : State → Prop} {ck : Nat} {w : zw_T} {pc : Nat} {lv : List (Option Value)} {st : List Value} {cc : ByteArray} {own : String} {nL fr lo mc : Nat} {x y : Int32} (hX : zg_ok X cc own nL fr lo mc D G A) (hd : decode cc pc = .ok (.iand, 1))  (k : zg X D G A Q ck w (pc + 1) lv (.int (x &&& y) :: st)) : zg X D G A Q ck w pc lv (.int y :: .int x :: st) := by
  obtain ⟨p, l, e, R, s, m, args, below, meth, c⟩ := X
  obtain ⟨hx, hb, hml, ho, hts, hK, hA, hlk, hfr, hR1, hR2, hlo, hZ⟩ := hX
  intro H locs ls h1 h2 h3
  exact lv_iand hx hb hd (k H locs ls h1 h2 h3)
theorem zg_ior {X : zg_X} {D : va_G} {G : zw_G} {A : Nat → Prop} {Q : State → Prop} {ck : Nat} {w : zw_T} {pc : Nat} {lv : List (Option Value)} {st : List Value} {cc : ByteArray} {own : String} {nL fr lo mc : Nat} {x y : Int32} (hX : zg_ok X cc own nL fr lo mc D G A) (hd : decode cc pc = .ok (.ior, 1))  (k : zg X D G A Q ck w (pc + 1) lv (.int (x ||| y) :: st)) : zg X D G A Q ck w pc lv (.int y :: .int x :: st) := by
  obtain ⟨p, l, e, R, s, m, args, below, meth, c⟩ := X
  obtain ⟨hx, hb, hml, ho, hts, hK, hA, hlk, hfr, hR1, hR2, hlo, hZ⟩ := hX
  intro H locs ls h1 h2 h3
  exact lv_ior hx hb hd (k H locs ls h1 h2 h3)
theorem zg_ixor {X : zg_X} {D : va_G} {G : zw_G} {A : Nat → Prop} {Q : State → Prop} {ck : Nat} {w : zw_T} {pc : Nat} {lv : List (Option Value)} {st : List Value} {cc : ByteArray} {own : String} {nL fr lo mc : Nat} {x y : Int32} (hX : zg_ok X cc own nL fr lo mc D G A) (hd : decode cc pc = .ok (.ixor, 1))  (k : zg X D G A Q ck w (pc + 1) lv (.int (x ^^^ y) :: st)) : zg X D G A Q ck w pc lv (.int y :: .int x :: st) := by
  obtain ⟨p, l, e, R, s, m, args, below, meth, c⟩ := X
  obtain ⟨hx, hb, hml, ho, hts, hK, hA, hlk, hfr, hR1, hR2, hlo, hZ⟩ := hX
  intro H locs ls h1 h2 h3
  exact lv_ixor hx hb hd (k H locs ls h1 h2 h3)
theorem zg_ishl {X : zg_X} {D : va_G} {G : zw_G} {A : Nat → Prop} {Q : State → Prop} {ck : Nat} {w : zw_T} {pc : Nat} {lv : List (Option Value)} {st : List Value} {cc : ByteArray} {own : String} {nL fr lo mc : Nat} {x y : Int32} (hX : zg_ok X cc own nL fr lo mc D G A) (hd : decode cc pc = .ok (.ishl, 1))  (k : zg X D G A Q ck w (pc + 1) lv (.int (zi_shl x y) :: st)) : zg X D G A Q ck w pc lv (.int y :: .int x :: st) := by
  obtain ⟨p, l, e, R, s, m, args, below, meth, c⟩ := X
  obtain ⟨hx, hb, hml, ho, hts, hK, hA, hlk, hfr, hR1, hR2, hlo, hZ⟩ := hX
  intro H locs ls h1 h2 h3
  exact lv_ishl hx hb hd (k H locs ls h1 h2 h3)
theorem zg_ishr {X : zg_X} {D : va_G} {G : zw_G} {A : Nat → Prop} {Q : State → Prop} {ck : Nat} {w : zw_T} {pc : Nat} {lv : List (Option Value)} {st : List Value} {cc : ByteArray} {own : String} {nL fr lo mc : Nat} {x y : Int32} (hX : zg_ok X cc own nL fr lo mc D G A) (hd : decode cc pc = .ok (.ishr, 1))  (k : zg X D G A Q ck w (pc + 1) lv (.int (zi_shr x y) :: st)) : zg X D G A Q ck w pc lv (.int y :: .int x :: st) := by
  obtain ⟨p, l, e, R, s, m, args, below, meth, c⟩ := X
  obtain ⟨hx, hb, hml, ho, hts, hK, hA, hlk, hfr, hR1, hR2, hlo, hZ⟩ := hX
  intro H locs ls h1 h2 h3
  exact lv_ishr hx hb hd (k H locs ls h1 h2 h3)
theorem zg_iushr {X : zg_X} {D : va_G} {G : zw_G} {A : Nat → Prop} {Q : State → Prop} {ck : Nat} {w : zw_T} {pc : Nat} {lv : List (Option Value)} {st : List Value} {cc : ByteArray} {own : String} {nL fr lo mc : Nat} {x y : Int32} (hX : zg_ok X cc own nL fr lo mc D G A) (hd : decode cc pc = .ok (.iushr, 1))  (k : zg X D G A Q ck w (pc + 1) lv (.int (zi_ushr x y) :: st)) : zg X D G A Q ck w pc lv (.int y :: .int x :: st) := by
  obtain ⟨p, l, e, R, s, m, args, below, meth, c⟩ := X
  obtain ⟨hx, hb, hml, ho, hts, hK, hA, hlk, hfr, hR1, hR2, hlo, hZ⟩ := hX
  intro H locs ls h1 h2 h3
  exact lv_iushr (v := zi_ushr _ _) hx hb hd rfl (k H locs ls h1 h2 h3)
theorem zg_ineg {X : zg_X} {D : va_G} {G : zw_G} {A : Nat → Prop} {Q : State → Prop} {ck : Nat} {w : zw_T} {pc : Nat} {lv : List (Option Value)} {st : List Value} {cc : ByteArray} {own : String} {nL fr lo mc : Nat} {x : Int32} (hX : zg_ok X cc own nL fr lo mc D G A) (hd : decode cc pc = .ok (.ineg, 1))  (k : zg X D G A Q ck w (pc + 1) lv (.int (-x) :: st)) : zg X D G A Q ck w pc lv (.int x :: st) := by
  obtain ⟨p, l, e, R, s, m, args, below, meth, c⟩ := X
  obtain ⟨hx, hb, hml, ho, hts, hK, hA, hlk, hfr, hR1, hR2, hlo, hZ⟩ := hX
  intro H locs ls h1 h2 h3
  exact lv_ineg hx hb hd (k H locs ls h1 h2 h3)
theorem zg_idiv {X : zg_X} {D : va_G} {G : zw_G} {A : Nat → Prop} {Q : State → Prop} {ck : Nat} {w : zw_T} {pc : Nat} {lv : List (Option Value)} {st : List Value} {cc : ByteArray} {own : String} {nL fr lo mc : Nat} {x y : Int32} (hX : zg_ok X cc own nL fr lo mc D G A) (hd : decode cc pc = .ok (.idiv, 1)) (hne : ¬ y = 0) (k : zg X D G A Q ck w (pc + 1) lv (.int (x / y) :: st)) : zg X D G A Q ck w pc lv (.int y :: .int x :: st) := by
  obtain ⟨p, l, e, R, s, m, args, below, meth, c⟩ := X
  obtain ⟨hx, hb, hml, ho, hts, hK, hA, hlk, hfr, hR1, hR2, hlo, hZ⟩ := hX
  intro H locs ls h1 h2 h3
  exact lv_idiv hx hb hd hne (k H locs ls h1 h2 h3)
theorem zg_irem {X : zg_X} {D : va_G} {G : zw_G} {A : Nat → Prop} {Q : State → Prop} {ck : Nat} {w : zw_T} {pc : Nat} {lv : List (Option Value)} {st : List Value} {cc : ByteArray} {own : String} {nL fr lo mc : Nat} {x y : Int32} (hX : zg_ok X cc own nL fr lo mc D G A) (hd : decode cc pc = .ok (.irem, 1)) (hne : ¬ y = 0) (k : zg X D G A Q ck w (pc + 1) lv (.int (zi_rem x y) :: st)) : zg X D G A Q ck w pc lv (.int y :: .int x :: st) := by
  obtain ⟨p, l, e, R, s, m, args, below, meth, c⟩ := X
  obtain ⟨hx, hb, hml, ho, hts, hK, hA, hlk, hfr, hR1, hR2, hlo, hZ⟩ := hX
  intro H locs ls h1 h2 h3
  exact lv_irem hx hb hd hne (k H locs ls h1 h2 h3)
theorem zg_ladd {X : zg_X} {D : va_G} {G : zw_G} {A : Nat → Prop} {Q : State → Prop} {ck : Nat} {w : zw_T} {pc : Nat} {lv : List (Option Value)} {st : List Value} {cc : ByteArray} {own : String} {nL fr lo mc : Nat} {x y : Int64} (hX : zg_ok X cc own nL fr lo mc D G A) (hd : decode cc pc = .ok (.ladd, 1))  (k : zg X D G A Q ck w (pc + 1) lv (.long (x + y) :: st)) : zg X D G A Q ck w pc lv (.long y :: .long x :: st) := by
  obtain ⟨p, l, e, R, s, m, args, below, meth, c⟩ := X
  obtain ⟨hx, hb, hml, ho, hts, hK, hA, hlk, hfr, hR1, hR2, hlo, hZ⟩ := hX
  intro H locs ls h1 h2 h3
  exact lv_ladd hx hb hd (k H locs ls h1 h2 h3)
theorem zg_lsub {X : zg_X} {D : va_G} {G : zw_G} {A : Nat → Prop} {Q : State → Prop} {ck : Nat} {w : zw_T} {pc : Nat} {lv : List (Option Value)} {st : List Value} {cc : ByteArray} {own : String} {nL fr lo mc : Nat} {x y : Int64} (hX : zg_ok X cc own nL fr lo mc D G A) (hd : decode cc pc = .ok (.lsub, 1))  (k : zg X D G A Q ck w (pc + 1) lv (.long (x - y) :: st)) : zg X D G A Q ck w pc lv (.long y :: .long x :: st) := by
  obtain ⟨p, l, e, R, s, m, args, below, meth, c⟩ := X
  obtain ⟨hx, hb, hml, ho, hts, hK, hA, hlk, hfr, hR1, hR2, hlo, hZ⟩ := hX
  intro H locs ls h1 h2 h3
  exact lv_lsub hx hb hd (k H locs ls h1 h2 h3)
theorem zg_land {X : zg_X} {D : va_G} {G : zw_G} {A : Nat → Prop} {Q : State → Prop} {ck : Nat} {w : zw_T} {pc : Nat} {lv : List (Option Value)} {st : List Value} {cc : ByteArray} {own : String} {nL fr lo mc : Nat} {x y : Int64} (hX : zg_ok X cc own nL fr lo mc D G A) (hd : decode cc pc = .ok (.land, 1))  (k : zg X D G A Q ck w (pc + 1) lv (.long (x &&& y) :: st)) : zg X D G A Q ck w pc lv (.long y :: .long x :: st) := by
  obtain ⟨p, l, e, R, s, m, args, below, meth, c⟩ := X
  obtain ⟨hx, hb, hml, ho, hts, hK, hA, hlk, hfr, hR1, hR2, hlo, hZ⟩ := hX
  intro H locs ls h1 h2 h3
  exact lv_land hx hb hd (k H locs ls h1 h2 h3)
theorem zg_lor {X : zg_X} {D : va_G} {G : zw_G} {A : Nat → Prop} {Q : State → Prop} {ck : Nat} {w : zw_T} {pc : Nat} {lv : List (Option Value)} {st : List Value} {cc : ByteArray} {own : String} {nL fr lo mc : Nat} {x y : Int64} (hX : zg_ok X cc own nL fr lo mc D G A) (hd : decode cc pc = .ok (.lor, 1))  (k : zg X D G A Q ck w (pc + 1) lv (.long (x ||| y) :: st)) : zg X D G A Q ck w pc lv (.long y :: .long x :: st) := by
  obtain ⟨p, l, e, R, s, m, args, below, meth, c⟩ := X
  obtain ⟨hx, hb, hml, ho, hts, hK, hA, hlk, hfr, hR1, hR2, hlo, hZ⟩ := hX
  intro H locs ls h1 h2 h3
  exact lv_lor hx hb hd (k H locs ls h1 h2 h3)
theorem zg_lxor {X : zg_X} {D : va_G} {G : zw_G} {A : Nat → Prop} {Q : State → Prop} {ck : Nat} {w : zw_T} {pc : Nat} {lv : List (Option Value)} {st : List Value} {cc : ByteArray} {own : String} {nL fr lo mc : Nat} {x y : Int64} (hX : zg_ok X cc own nL fr lo mc D G A) (hd : decode cc pc = .ok (.lxor, 1))  (k : zg X D G A Q ck w (pc + 1) lv (.long (x ^^^ y) :: st)) : zg X D G A Q ck w pc lv (.long y :: .long x :: st) := by
  obtain ⟨p, l, e, R, s, m, args, below, meth, c⟩ := X
  obtain ⟨hx, hb, hml, ho, hts, hK, hA, hlk, hfr, hR1, hR2, hlo, hZ⟩ := hX
  intro H locs ls h1 h2 h3
  exact lv_lxor hx hb hd (k H locs ls h1 h2 h3)
theorem zg_lshl {X : zg_X} {D : va_G} {G : zw_G} {A : Nat → Prop} {Q : State → Prop} {ck : Nat} {w : zw_T} {pc : Nat} {lv : List (Option Value)} {st : List Value} {cc : ByteArray} {own : String} {nL fr lo mc : Nat} {x : Int64} {y : Int32} (hX : zg_ok X cc own nL fr lo mc D G A) (hd : decode cc pc = .ok (.lshl, 1))  (k : zg X D G A Q ck w (pc + 1) lv (.long (zi_lshl x y) :: st)) : zg X D G A Q ck w pc lv (.int y :: .long x :: st) := by
  obtain ⟨p, l, e, R, s, m, args, below, meth, c⟩ := X
  obtain ⟨hx, hb, hml, ho, hts, hK, hA, hlk, hfr, hR1, hR2, hlo, hZ⟩ := hX
  intro H locs ls h1 h2 h3
  exact lv_lshl (v := zi_lshl _ _) hx hb hd rfl (k H locs ls h1 h2 h3)
theorem zg_lshr {X : zg_X} {D : va_G} {G : zw_G} {A : Nat → Prop} {Q : State → Prop} {ck : Nat} {w : zw_T} {pc : Nat} {lv : List (Option Value)} {st : List Value} {cc : ByteArray} {own : String} {nL fr lo mc : Nat} {x : Int64} {y : Int32} (hX : zg_ok X cc own nL fr lo mc D G A) (hd : decode cc pc = .ok (.lshr, 1))  (k : zg X D G A Q ck w (pc + 1) lv (.long (zi_lshr x y) :: st)) : zg X D G A Q ck w pc lv (.int y :: .long x :: st) := by
  obtain ⟨p, l, e, R, s, m, args, below, meth, c⟩ := X
  obtain ⟨hx, hb, hml, ho, hts, hK, hA, hlk, hfr, hR1, hR2, hlo, hZ⟩ := hX
  intro H locs ls h1 h2 h3
  exact lv_lshr (v := zi_lshr _ _) hx hb hd rfl (k H locs ls h1 h2 h3)
theorem zg_lushr {X : zg_X} {D : va_G} {G : zw_G} {A : Nat → Prop} {Q : State → Prop} {ck : Nat} {w : zw_T} {pc : Nat} {lv : List (Option Value)} {st : List Value} {cc : ByteArray} {own : String} {nL fr lo mc : Nat} {x : Int64} {y : Int32} (hX : zg_ok X cc own nL fr lo mc D G A) (hd : decode cc pc = .ok (.lushr, 1))  (k : zg X D G A Q ck w (pc + 1) lv (.long (zi_lushr x y) :: st)) : zg X D G A Q ck w pc lv (.int y :: .long x :: st) := by
  obtain ⟨p, l, e, R, s, m, args, below, meth, c⟩ := X
  obtain ⟨hx, hb, hml, ho, hts, hK, hA, hlk, hfr, hR1, hR2, hlo, hZ⟩ := hX
  intro H locs ls h1 h2 h3
  exact lv_lushr (v := zi_lushr _ _) hx hb hd rfl (k H locs ls h1 h2 h3)
theorem zg_i2l {X : zg_X} {D : va_G} {G : zw_G} {A : Nat → Prop} {Q : State → Prop} {ck : Nat} {w : zw_T} {pc : Nat} {lv : List (Option Value)} {st : List Value} {cc : ByteArray} {own : String} {nL fr lo mc : Nat} {x : Int32} (hX : zg_ok X cc own nL fr lo mc D G A) (hd : decode cc pc = .ok (.i2l, 1))  (k : zg X D G A Q ck w (pc + 1) lv (.long x.toInt64 :: st)) : zg X D G A Q ck w pc lv (.int x :: st) := by
  obtain ⟨p, l, e, R, s, m, args, below, meth, c⟩ := X
  obtain ⟨hx, hb, hml, ho, hts, hK, hA, hlk, hfr, hR1, hR2, hlo, hZ⟩ := hX
  intro H locs ls h1 h2 h3
  exact lv_i2l hx hb hd rfl (k H locs ls h1 h2 h3)
theorem zg_l2i {X : zg_X} {D : va_G} {G : zw_G} {A : Nat → Prop} {Q : State → Prop} {ck : Nat} {w : zw_T} {pc : Nat} {lv : List (Option Value)} {st : List Value} {cc : ByteArray} {own : String} {nL fr lo mc : Nat} {x : Int64} (hX : zg_ok X cc own nL fr lo mc D G A) (hd : decode cc pc = .ok (.l2i, 1))  (k : zg X D G A Q ck w (pc + 1) lv (.int x.toInt32 :: st)) : zg X D G A Q ck w pc lv (.long x :: st) := by
  obtain ⟨p, l, e, R, s, m, args, below, meth, c⟩ := X
  obtain ⟨hx, hb, hml, ho, hts, hK, hA, hlk, hfr, hR1, hR2, hlo, hZ⟩ := hX
  intro H locs ls h1 h2 h3
  exact lv_l2i hx hb hd rfl (k H locs ls h1 h2 h3)
theorem zg_lcmp {X : zg_X} {D : va_G} {G : zw_G} {A : Nat → Prop} {Q : State → Prop} {ck : Nat} {w : zw_T} {pc : Nat} {lv : List (Option Value)} {st : List Value} {cc : ByteArray} {own : String} {nL fr lo mc : Nat} {x y : Int64} (hX : zg_ok X cc own nL fr lo mc D G A) (hd : decode cc pc = .ok (.lcmp, 1))  (k : zg X D G A Q ck w (pc + 1) lv (.int (lg_cmp x y) :: st)) : zg X D G A Q ck w pc lv (.long y :: .long x :: st) := by
  obtain ⟨p, l, e, R, s, m, args, below, meth, c⟩ := X
  obtain ⟨hx, hb, hml, ho, hts, hK, hA, hlk, hfr, hR1, hR2, hlo, hZ⟩ := hX
  intro H locs ls h1 h2 h3
  exact W.lcmp hx hb hd (k H locs ls h1 h2 h3)
theorem zg_dup {X : zg_X} {D : va_G} {G : zw_G} {A : Nat → Prop} {Q : State → Prop} {ck : Nat} {w : zw_T} {pc : Nat} {lv : List (Option Value)} {st : List Value} {cc : ByteArray} {own : String} {nL fr lo mc : Nat} {v : Value} (hX : zg_ok X cc own nL fr lo mc D G A) (hd : decode cc pc = .ok (.dup, 1)) (hv : v.category = 1) (k : zg X D G A Q ck w (pc + 1) lv (v :: v :: st)) : zg X D G A Q ck w pc lv (v :: st) := by
  obtain ⟨p, l, e, R, s, m, args, below, meth, c⟩ := X
  obtain ⟨hx, hb, hml, ho, hts, hK, hA, hlk, hfr, hR1, hR2, hlo, hZ⟩ := hX
  intro H locs ls h1 h2 h3
  exact lv_dup hx hb hd hv (k H locs ls h1 h2 h3)
theorem zg_pop {X : zg_X} {D : va_G} {G : zw_G} {A : Nat → Prop} {Q : State → Prop} {ck : Nat} {w : zw_T} {pc : Nat} {lv : List (Option Value)} {st : List Value} {cc : ByteArray} {own : String} {nL fr lo mc : Nat} {v : Value} (hX : zg_ok X cc own nL fr lo mc D G A) (hd : decode cc pc = .ok (.pop, 1)) (hv : v.category = 1) (k : zg X D G A Q ck w (pc + 1) lv st) : zg X D G A Q ck w pc lv (v :: st) := by
  obtain ⟨p, l, e, R, s, m, args, below, meth, c⟩ := X
  obtain ⟨hx, hb, hml, ho, hts, hK, hA, hlk, hfr, hR1, hR2, hlo, hZ⟩ := hX
  intro H locs ls h1 h2 h3
  exact lv_pop hx hb hd hv (k H locs ls h1 h2 h3)
theorem zg_dup_x1 {X : zg_X} {D : va_G} {G : zw_G} {A : Nat → Prop} {Q : State → Prop} {ck : Nat} {w : zw_T} {pc : Nat} {lv : List (Option Value)} {st : List Value} {cc : ByteArray} {own : String} {nL fr lo mc : Nat} {v u : Value} (hX : zg_ok X cc own nL fr lo mc D G A) (hd : decode cc pc = .ok (.dup_x1, 1)) (hv : v.category = 1) (hu : u.category = 1) (k : zg X D G A Q ck w (pc + 1) lv (v :: u :: v :: st)) : zg X D G A Q ck w pc lv (v :: u :: st) := by
  obtain ⟨p, l, e, R, s, m, args, below, meth, c⟩ := X
  obtain ⟨hx, hb, hml, ho, hts, hK, hA, hlk, hfr, hR1, hR2, hlo, hZ⟩ := hX
  intro H locs ls h1 h2 h3
  exact lv_dup_x1 hx hb hd hv hu (k H locs ls h1 h2 h3)
theorem zg_dup_x2 {X : zg_X} {D : va_G} {G : zw_G} {A : Nat → Prop} {Q : State → Prop} {ck : Nat} {w : zw_T} {pc : Nat} {lv : List (Option Value)} {st : List Value} {cc : ByteArray} {own : String} {nL fr lo mc : Nat} {v u t : Value} (hX : zg_ok X cc own nL fr lo mc D G A) (hd : decode cc pc = .ok (.dup_x2, 1)) (hv : v.category = 1) (hu : u.category = 1) (ht : t.category = 1) (k : zg X D G A Q ck w (pc + 1) lv (v :: u :: t :: v :: st)) : zg X D G A Q ck w pc lv (v :: u :: t :: st) := by
  obtain ⟨p, l, e, R, s, m, args, below, meth, c⟩ := X
  obtain ⟨hx, hb, hml, ho, hts, hK, hA, hlk, hfr, hR1, hR2, hlo, hZ⟩ := hX
  intro H locs ls h1 h2 h3
  exact lv_dup_x2 hx hb hd hv hu ht (k H locs ls h1 h2 h3)
theorem zg_dup2 {X : zg_X} {D : va_G} {G : zw_G} {A : Nat → Prop} {Q : State → Prop} {ck : Nat} {w : zw_T} {pc : Nat} {lv : List (Option Value)} {st : List Value} {cc : ByteArray} {own : String} {nL fr lo mc : Nat} {v u : Value} (hX : zg_ok X cc own nL fr lo mc D G A) (hd : decode cc pc = .ok (.dup2, 1)) (hv : v.category = 1) (hu : u.category = 1) (k : zg X D G A Q ck w (pc + 1) lv (v :: u :: v :: u :: st)) : zg X D G A Q ck w pc lv (v :: u :: st) := by
  obtain ⟨p, l, e, R, s, m, args, below, meth, c⟩ := X
  obtain ⟨hx, hb, hml, ho, hts, hK, hA, hlk, hfr, hR1, hR2, hlo, hZ⟩ := hX
  intro H locs ls h1 h2 h3
  exact lv_dup2_11 hx hb hd hv hu (k H locs ls h1 h2 h3)
theorem zg_ldc {X : zg_X} {D : va_G} {G : zw_G} {A : Nat → Prop} {Q : State → Prop} {ck : Nat} {w : zw_T} {pc : Nat} {lv : List (Option Value)} {st : List Value} {cc : ByteArray} {own : String} {nL fr lo mc : Nat} {idx : Nat} (hX : zg_ok X cc own nL fr lo mc D G A) (hd : decode cc pc = .ok (.ldc idx, 2)) (v : Int32) (hc : Jvm.Cond.constant own idx v ∈ zT) (k : zg X D G A Q ck w (pc + 2) lv (.int v :: st)) : zg X D G A Q ck w pc lv st := by
  obtain ⟨p, l, e, R, s, m, args, below, meth, c⟩ := X
  obtain ⟨hx, hb, hml, ho, hts, hK, hA, hlk, hfr, hR1, hR2, hlo, hZ⟩ := hX
  intro H locs ls h1 h2 h3
  exact lv_ldc hx hb ho (hts _ hc) hd (k H locs ls h1 h2 h3)
theorem zg_ldcw {X : zg_X} {D : va_G} {G : zw_G} {A : Nat → Prop} {Q : State → Prop} {ck : Nat} {w : zw_T} {pc : Nat} {lv : List (Option Value)} {st : List Value} {cc : ByteArray} {own : String} {nL fr lo mc : Nat} {idx : Nat} (hX : zg_ok X cc own nL fr lo mc D G A) (hd : decode cc pc = .ok (.ldc_w idx, 3)) (v : Int32) (hc : Jvm.Cond.constant own idx v ∈ zT) (k : zg X D G A Q ck w (pc + 3) lv (.int v :: st)) : zg X D G A Q ck w pc lv st := by
  obtain ⟨p, l, e, R, s, m, args, below, meth, c⟩ := X
  obtain ⟨hx, hb, hml, ho, hts, hK, hA, hlk, hfr, hR1, hR2, hlo, hZ⟩ := hX
  intro H locs ls h1 h2 h3
  exact lv_ldcw hx hb ho (hts _ hc) hd (k H locs ls h1 h2 h3)
theorem zg_ldc2 {X : zg_X} {D : va_G} {G : zw_G} {A : Nat → Prop} {Q : State → Prop} {ck : Nat} {w : zw_T} {pc : Nat} {lv : List (Option Value)} {st : List Value} {cc : ByteArray} {own : String} {nL fr lo mc : Nat} {idx : Nat} (hX : zg_ok X cc own nL fr lo mc D G A) (hd : decode cc pc = .ok (.ldc2_w idx, 3)) (v : Int64) (hc : Jvm.Cond.constantLong own idx v ∈ zT) (k : zg X D G A Q ck w (pc + 3) lv (.long v :: st)) : zg X D G A Q ck w pc lv st := by
  obtain ⟨p, l, e, R, s, m, args, below, meth, c⟩ := X
  obtain ⟨hx, hb, hml, ho, hts, hK, hA, hlk, hfr, hR1, hR2, hlo, hZ⟩ := hX
  intro H locs ls h1 h2 h3
  exact lv_ldc2 hx hb ho (hts _ hc) hd (k H locs ls h1 h2 h3)
theorem zg_iload_n {X : zg_X} {D : va_G} {G : zw_G} {A : Nat → Prop} {Q : State → Prop} {ck : Nat} {w : zw_T} {pc : Nat} {lv : List (Option Value)} {st : List Value} {cc : ByteArray} {own : String} {nL fr lo mc : Nat} {k0 : Fin 4} {x : Int32} (hX : zg_ok X cc own nL fr lo mc D G A) (hd : decode cc pc = .ok (.iload_n k0, 1)) (hl : lv[(k0 : Nat)]? = some (some (.int x))) (k : zg X D G A Q ck w (pc + 1) lv (.int x :: st)) : zg X D G A Q ck w pc lv st := by
  obtain ⟨p, l, e, R, s, m, args, below, meth, c⟩ := X
  obtain ⟨hx, hb, hml, ho, hts, hK, hA, hlk, hfr, hR1, hR2, hlo, hZ⟩ := hX
  intro H locs ls h1 h2 h3
  exact lv_iload_n hx hb hd rfl (h1.2.2 _ _ hl) (k H locs ls h1 h2 h3)
theorem zg_iload {X : zg_X} {D : va_G} {G : zw_G} {A : Nat → Prop} {Q : State → Prop} {ck : Nat} {w : zw_T} {pc : Nat} {lv : List (Option Value)} {st : List Value} {cc : ByteArray} {own : String} {nL fr lo mc : Nat} {i0 : Nat} {x : Int32} (hX : zg_ok X cc own nL fr lo mc D G A) (hd : decode cc pc = .ok (.iload i0, 2)) (hl : lv[i0]? = some (some (.int x))) (k : zg X D G A Q ck w (pc + 2) lv (.int x :: st)) : zg X D G A Q ck w pc lv st := by
  obtain ⟨p, l, e, R, s, m, args, below, meth, c⟩ := X
  obtain ⟨hx, hb, hml, ho, hts, hK, hA, hlk, hfr, hR1, hR2, hlo, hZ⟩ := hX
  intro H locs ls h1 h2 h3
  exact lv_iload hx hb hd (h1.2.2 _ _ hl) (k H locs ls h1 h2 h3)
theorem zg_lload_n {X : zg_X} {D : va_G} {G : zw_G} {A : Nat → Prop} {Q : State → Prop} {ck : Nat} {w : zw_T} {pc : Nat} {lv : List (Option Value)} {st : List Value} {cc : ByteArray} {own : String} {nL fr lo mc : Nat} {k0 : Fin 4} {x : Int64} (hX : zg_ok X cc own nL fr lo mc D G A) (hd : decode cc pc = .ok (.lload_n k0, 1)) (hl : lv[(k0 : Nat)]? = some (some (.long x))) (k : zg X D G A Q ck w (pc + 1) lv (.long x :: st)) : zg X D G A Q ck w pc lv st := by
  obtain ⟨p, l, e, R, s, m, args, below, meth, c⟩ := X
  obtain ⟨hx, hb, hml, ho, hts, hK, hA, hlk, hfr, hR1, hR2, hlo, hZ⟩ := hX
  intro H locs ls h1 h2 h3
  exact lv_lload_n hx hb hd rfl (h1.2.2 _ _ hl) (k H locs ls h1 h2 h3)
theorem zg_lload {X : zg_X} {D : va_G} {G : zw_G} {A : Nat → Prop} {Q : State → Prop} {ck : Nat} {w : zw_T} {pc : Nat} {lv : List (Option Value)} {st : List Value} {cc : ByteArray} {own : String} {nL fr lo mc : Nat} {i0 : Nat} {x : Int64} (hX : zg_ok X cc own nL fr lo mc D G A) (hd : decode cc pc = .ok (.lload i0, 2)) (hl : lv[i0]? = some (some (.long x))) (k : zg X D G A Q ck w (pc + 2) lv (.long x :: st)) : zg X D G A Q ck w pc lv st := by
  obtain ⟨p, l, e, R, s, m, args, below, meth, c⟩ := X
  obtain ⟨hx, hb, hml, ho, hts, hK, hA, hlk, hfr, hR1, hR2, hlo, hZ⟩ := hX
  intro H locs ls h1 h2 h3
  exact lv_lload hx hb hd (h1.2.2 _ _ hl) (k H locs ls h1 h2 h3)
theorem zg_aload_n {X : zg_X} {D : va_G} {G : zw_G} {A : Nat → Prop} {Q : State → Prop} {ck : Nat} {w : zw_T} {pc : Nat} {lv : List (Option Value)} {st : List Value} {cc : ByteArray} {own : String} {nL fr lo mc : Nat} {k0 : Fin 4} {x : Option Nat} (hX : zg_ok X cc own nL fr lo mc D G A) (hd : decode cc pc = .ok (.aload_n k0, 1)) (hl : lv[(k0 : Nat)]? = some (some (va_rf x))) (k : zg X D G A Q ck w (pc + 1) lv (va_rf x :: st)) : zg X D G A Q ck w pc lv st := by
  obtain ⟨p, l, e, R, s, m, args, below, meth, c⟩ := X
  obtain ⟨hx, hb, hml, ho, hts, hK, hA, hlk, hfr, hR1, hR2, hlo, hZ⟩ := hX
  intro H locs ls h1 h2 h3
  cases x with
  | none => exact lv_aload_nN hx hb hd rfl (h1.2.2 _ _ hl) (k H locs ls h1 h2 h3)
  | some x => exact lv_aload_n hx hb hd rfl (h1.2.2 _ _ hl) (k H locs ls h1 h2 h3)
theorem zg_aload {X : zg_X} {D : va_G} {G : zw_G} {A : Nat → Prop} {Q : State → Prop} {ck : Nat} {w : zw_T} {pc : Nat} {lv : List (Option Value)} {st : List Value} {cc : ByteArray} {own : String} {nL fr lo mc : Nat} {i0 : Nat} {x : Option Nat} (hX : zg_ok X cc own nL fr lo mc D G A) (hd : decode cc pc = .ok (.aload i0, 2)) (hl : lv[i0]? = some (some (va_rf x))) (k : zg X D G A Q ck w (pc + 2) lv (va_rf x :: st)) : zg X D G A Q ck w pc lv st := by
  obtain ⟨p, l, e, R, s, m, args, below, meth, c⟩ := X
  obtain ⟨hx, hb, hml, ho, hts, hK, hA, hlk, hfr, hR1, hR2, hlo, hZ⟩ := hX
  intro H locs ls h1 h2 h3
  cases x with
  | none => exact lv_aloadN hx hb hd (h1.2.2 _ _ hl) (k H locs ls h1 h2 h3)
  | some x => exact lv_aload hx hb hd (h1.2.2 _ _ hl) (k H locs ls h1 h2 h3)
theorem zg_istore_n {X : zg_X} {D : va_G} {G : zw_G} {A : Nat → Prop} {Q : State → Prop} {ck : Nat} {w : zw_T} {pc : Nat} {lv : List (Option Value)} {st : List Value} {cc : ByteArray} {own : String} {nL fr lo mc : Nat} {k0 : Fin 4} {x : Int32} {ρ : Type} {K : Int32 → Option ρ} {r : ρ} (hX : zg_ok X cc own nL fr lo mc D G A) (hd : decode cc pc = .ok (.istore_n k0, 1))  (hi : (k0 : Nat) < lv.length) (hf : zl_free lv (k0 : Nat) = true) (h : zf_let x K = some r) (k : ∀ y, K y = some r → zg X D G A Q ck w (pc + 1) (lv.set (k0 : Nat) (some (.int y))) st) : zg X D G A Q ck w pc lv (.int x :: st) := by
  obtain ⟨p, l, e, R, s, m, args, below, meth, c⟩ := X
  obtain ⟨hx, hb, hml, ho, hts, hK, hA, hlk, hfr, hR1, hR2, hlo, hZ⟩ := hX
  intro H locs ls h1 h2 h3
  exact lv_istore_n hx hb hd rfl (zl_to h1) hi rfl (fun ls' q => k x h H locs ls' (zl_of1 q hi hf) h2 h3)
theorem zg_istore {X : zg_X} {D : va_G} {G : zw_G} {A : Nat → Prop} {Q : State → Prop} {ck : Nat} {w : zw_T} {pc : Nat} {lv : List (Option Value)} {st : List Value} {cc : ByteArray} {own : String} {nL fr lo mc : Nat} {i0 : Nat} {x : Int32} {ρ : Type} {K : Int32 → Option ρ} {r : ρ} (hX : zg_ok X cc own nL fr lo mc D G A) (hd : decode cc pc = .ok (.istore i0, 2))  (hi : i0 < lv.length) (hf : zl_free lv i0 = true) (h : zf_let x K = some r) (k : ∀ y, K y = some r → zg X D G A Q ck w (pc + 2) (lv.set i0 (some (.int y))) st) : zg X D G A Q ck w pc lv (.int x :: st) := by
  obtain ⟨p, l, e, R, s, m, args, below, meth, c⟩ := X
  obtain ⟨hx, hb, hml, ho, hts, hK, hA, hlk, hfr, hR1, hR2, hlo, hZ⟩ := hX
  intro H locs ls h1 h2 h3
  exact lv_istore hx hb hd (zl_to h1) hi rfl (fun ls' q => k x h H locs ls' (zl_of1 q hi hf) h2 h3)
theorem zg_lstore_n {X : zg_X} {D : va_G} {G : zw_G} {A : Nat → Prop} {Q : State → Prop} {ck : Nat} {w : zw_T} {pc : Nat} {lv : List (Option Value)} {st : List Value} {cc : ByteArray} {own : String} {nL fr lo mc : Nat} {k0 : Fin 4} {x : Int64} {ρ : Type} {K : Int64 → Option ρ} {r : ρ} (hX : zg_ok X cc own nL fr lo mc D G A) (hd : decode cc pc = .ok (.lstore_n k0, 1))  (hi : (k0 : Nat) + 1 < lv.length) (hf : zl_free lv (k0 : Nat) = true) (h : zf_let x K = some r) (k : ∀ y, K y = some r → zg X D G A Q ck w (pc + 1) ((lv.set (k0 : Nat) (some (.long y))).set ((k0 : Nat) + 1) none) st) : zg X D G A Q ck w pc lv (.long x :: st) := by
  obtain ⟨p, l, e, R, s, m, args, below, meth, c⟩ := X
  obtain ⟨hx, hb, hml, ho, hts, hK, hA, hlk, hfr, hR1, hR2, hlo, hZ⟩ := hX
  intro H locs ls h1 h2 h3
  exact lv_lstore_n hx hb hd rfl (zl_to h1) hi rfl (fun ls' q => k x h H locs ls' (zl_of2 q hi hf) h2 h3)
theorem zg_lstore {X : zg_X} {D : va_G} {G : zw_G} {A : Nat → Prop} {Q : State → Prop} {ck : Nat} {w : zw_T} {pc : Nat} {lv : List (Option Value)} {st : List Value} {cc : ByteArray} {own : String} {nL fr lo mc : Nat} {i0 : Nat} {x : Int64} {ρ : Type} {K : Int64 → Option ρ} {r : ρ} (hX : zg_ok X cc own nL fr lo mc D G A) (hd : decode cc pc = .ok (.lstore i0, 2))  (hi : i0 + 1 < lv.length) (hf : zl_free lv i0 = true) (h : zf_let x K = some r) (k : ∀ y, K y = some r → zg X D G A Q ck w (pc + 2) ((lv.set i0 (some (.long y))).set (i0 + 1) none) st) : zg X D G A Q ck w pc lv (.long x :: st) := by
  obtain ⟨p, l, e, R, s, m, args, below, meth, c⟩ := X
  obtain ⟨hx, hb, hml, ho, hts, hK, hA, hlk, hfr, hR1, hR2, hlo, hZ⟩ := hX
  intro H locs ls h1 h2 h3
  exact lv_lstore hx hb hd (zl_to h1) hi rfl (fun ls' q => k x h H locs ls' (zl_of2 q hi hf) h2 h3)
theorem zg_astore_n {X : zg_X} {D : va_G} {G : zw_G} {A : Nat → Prop} {Q : State → Prop} {ck : Nat} {w : zw_T} {pc : Nat} {lv : List (Option Value)} {st : List Value} {cc : ByteArray} {own : String} {nL fr lo mc : Nat} {k0 : Fin 4} {x : Option Nat} {ρ : Type} {K : Option Nat → Option ρ} {r : ρ} (hX : zg_ok X cc own nL fr lo mc D G A) (hd : decode cc pc = .ok (.astore_n k0, 1))  (hi : (k0 : Nat) < lv.length) (hf : zl_free lv (k0 : Nat) = true) (h : zf_let x K = some r) (k : ∀ y, K y = some r → zg X D G A Q ck w (pc + 1) (lv.set (k0 : Nat) (some (va_rf y))) st) : zg X D G A Q ck w pc lv (va_rf x :: st) := by
  obtain ⟨p, l, e, R, s, m, args, below, meth, c⟩ := X
  obtain ⟨hx, hb, hml, ho, hts, hK, hA, hlk, hfr, hR1, hR2, hlo, hZ⟩ := hX
  intro H locs ls h1 h2 h3
  cases x with
  | none => exact lv_astore_nN hx hb hd rfl (zl_to h1) hi rfl (fun ls' q => k none h H locs ls' (zl_of1 q hi hf) h2 h3)
  | some x => exact lv_astore_n hx hb hd rfl (zl_to h1) hi rfl (fun ls' q => k (some x) h H locs ls' (zl_of1 q hi hf) h2 h3)
theorem zg_astore {X : zg_X} {D : va_G} {G : zw_G} {A : Nat → Prop} {Q : State → Prop} {ck : Nat} {w : zw_T} {pc : Nat} {lv : List (Option Value)} {st : List Value} {cc : ByteArray} {own : String} {nL fr lo mc : Nat} {i0 : Nat} {x : Option Nat} {ρ : Type} {K : Option Nat → Option ρ} {r : ρ} (hX : zg_ok X cc own nL fr lo mc D G A) (hd : decode cc pc = .ok (.astore i0, 2))  (hi : i0 < lv.length) (hf : zl_free lv i0 = true) (h : zf_let x K = some r) (k : ∀ y, K y = some r → zg X D G A Q ck w (pc + 2) (lv.set i0 (some (va_rf y))) st) : zg X D G A Q ck w pc lv (va_rf x :: st) := by
  obtain ⟨p, l, e, R, s, m, args, below, meth, c⟩ := X
  obtain ⟨hx, hb, hml, ho, hts, hK, hA, hlk, hfr, hR1, hR2, hlo, hZ⟩ := hX
  intro H locs ls h1 h2 h3
  cases x with
  | none => exact lv_astoreN hx hb hd (zl_to h1) hi rfl (fun ls' q => k none h H locs ls' (zl_of1 q hi hf) h2 h3)
  | some x => exact lv_astore hx hb hd (zl_to h1) hi rfl (fun ls' q => k (some x) h H locs ls' (zl_of1 q hi hf) h2 h3)
theorem zg_iinc {X : zg_X} {D : va_G} {G : zw_G} {A : Nat → Prop} {Q : State → Prop} {ck : Nat} {w : zw_T} {pc : Nat} {lv : List (Option Value)} {st : List Value} {cc : ByteArray} {own : String} {nL fr lo mc : Nat} {i0 : Nat} {n : Int} {x : Int32} {ρ : Type} {K : Int32 → Option ρ} {r : ρ} (hX : zg_ok X cc own nL fr lo mc D G A) (hd : decode cc pc = .ok (.iinc i0 n, 3)) (v : Int32) (hl : lv[i0]? = some (some (.int x))) (hv : Int32.ofInt n = v) (hi : i0 < lv.length) (hf : zl_free lv i0 = true) (h : zf_let (x + v) K = some r) (k : ∀ y, K y = some r → zg X D G A Q ck w (pc + 3) (lv.set i0 (some (.int y))) st) : zg X D G A Q ck w pc lv st := by
  obtain ⟨p, l, e, R, s, m, args, below, meth, c⟩ := X
  obtain ⟨hx, hb, hml, ho, hts, hK, hA, hlk, hfr, hR1, hR2, hlo, hZ⟩ := hX
  intro H locs ls h1 h2 h3
  subst hv
  obtain ⟨j, hj⟩ := List.getElem?_of_mem (zl_mem.mpr hl)
  exact lv_iinc hx hb hd (zl_to h1) hj rfl hi rfl (fun ls' q => k _ h H locs ls' (zl_of1 q hi hf) h2 h3)
theorem zg_if_eq {X : zg_X} {D : va_G} {G : zw_G} {A : Nat → Prop} {Q : State → Prop} {ck : Nat} {w : zw_T} {pc : Nat} {lv : List (Option Value)} {st : List Value} {cc : ByteArray} {own : String} {nL fr lo mc : Nat} {x : Int32} {off : Int} {tgt : Nat} {ρ : Type} {ra rb : Option ρ} {r : ρ} (hX : zg_ok X cc own nL fr lo mc D G A) (hd : decode cc pc = .ok (.ifCond .eq off, 3))  (ht : (pc : Int) + off = (tgt : Int)) (h : (if x = 0 then ra else rb) = some r) (k1 : ra = some r → zg X D G A Q ck w tgt lv st) (k2 : rb = some r → zg X D G A Q ck w (pc + 3) lv st) : zg X D G A Q ck w pc lv (.int x :: st) := by
  obtain ⟨p, l, e, R, s, m, args, below, meth, c⟩ := X
  obtain ⟨hx, hb, hml, ho, hts, hK, hA, hlk, hfr, hR1, hR2, hlo, hZ⟩ := hX
  intro H locs ls h1 h2 h3
  by_cases hq : x = 0
  · rw [if_pos hq] at h
    exact lv_if_eq hx hb hd ht (fun _ => k1 h H locs ls h1 h2 h3) (fun z => absurd hq z)
  · rw [if_neg hq] at h
    exact lv_if_eq hx hb hd ht (fun z => absurd z hq) (fun _ => k2 h H locs ls h1 h2 h3)
theorem zg_icmp_eq {X : zg_X} {D : va_G} {G : zw_G} {A : Nat → Prop} {Q : State → Prop} {ck : Nat} {w : zw_T} {pc : Nat} {lv : List (Option Value)} {st : List Value} {cc : ByteArray} {own : String} {nL fr lo mc : Nat} {x y : Int32} {off : Int} {tgt : Nat} {ρ : Type} {ra rb : Option ρ} {r : ρ} (hX : zg_ok X cc own nL fr lo mc D G A) (hd : decode cc pc = .ok (.if_icmp .eq off, 3))  (ht : (pc : Int) + off = (tgt : Int)) (h : (if x = y then ra else rb) = some r) (k1 : ra = some r → zg X D G A Q ck w tgt lv st) (k2 : rb = some r → zg X D G A Q ck w (pc + 3) lv st) : zg X D G A Q ck w pc lv (.int y :: .int x :: st) := by
  obtain ⟨p, l, e, R, s, m, args, below, meth, c⟩ := X
  obtain ⟨hx, hb, hml, ho, hts, hK, hA, hlk, hfr, hR1, hR2, hlo, hZ⟩ := hX
  intro H locs ls h1 h2 h3
  by_cases hq : x = y
  · rw [if_pos hq] at h
    exact lv_icmp_eq hx hb hd ht (fun _ => k1 h H locs ls h1 h2 h3) (fun z => absurd hq z)
  · rw [if_neg hq] at h
    exact lv_icmp_eq hx hb hd ht (fun z => absurd z hq) (fun _ => k2 h H locs ls h1 h2 h3)
theorem zg_if_ne {X : zg_X} {D : va_G} {G : zw_G} {A : Nat → Prop} {Q : State → Prop} {ck : Nat} {w : zw_T} {pc : Nat} {lv : List (Option Value)} {st : List Value} {cc : ByteArray} {own : String} {nL fr lo mc : Nat} {x : Int32} {off : Int} {tgt : Nat} {ρ : Type} {ra rb : Option ρ} {r : ρ} (hX : zg_ok X cc own nL fr lo mc D G A) (hd : decode cc pc = .ok (.ifCond .ne off, 3))  (ht : (pc : Int) + off = (tgt : Int)) (h : (if x = 0 then ra else rb) = some r) (k1 : ra = some r → zg X D G A Q ck w (pc + 3) lv st) (k2 : rb = some r → zg X D G A Q ck w tgt lv st) : zg X D G A Q ck w pc lv (.int x :: st) := by
  obtain ⟨p, l, e, R, s, m, args, below, meth, c⟩ := X
  obtain ⟨hx, hb, hml, ho, hts, hK, hA, hlk, hfr, hR1, hR2, hlo, hZ⟩ := hX
  intro H locs ls h1 h2 h3
  by_cases hq : x = 0
  · rw [if_pos hq] at h
    exact lv_if_ne hx hb hd ht (fun z => absurd hq z) (fun _ => k1 h H locs ls h1 h2 h3)
  · rw [if_neg hq] at h
    exact lv_if_ne hx hb hd ht (fun _ => k2 h H locs ls h1 h2 h3) (fun z => absurd z hq)
theorem zg_icmp_ne {X : zg_X} {D : va_G} {G : zw_G} {A : Nat → Prop} {Q : State → Prop} {ck : Nat} {w : zw_T} {pc : Nat} {lv : List (Option Value)} {st : List Value} {cc : ByteArray} {own : String} {nL fr lo mc : Nat} {x y : Int32} {off : Int} {tgt : Nat} {ρ : Type} {ra rb : Option ρ} {r : ρ} (hX : zg_ok X cc own nL fr lo mc D G A) (hd : decode cc pc = .ok (.if_icmp .ne off, 3))  (ht : (pc : Int) + off = (tgt : Int)) (h : (if x = y then ra else rb) = some r) (k1 : ra = some r → zg X D G A Q ck w (pc + 3) lv st) (k2 : rb = some r → zg X D G A Q ck w tgt lv st) : zg X D G A Q ck w pc lv (.int y :: .int x :: st) := by
  obtain ⟨p, l, e, R, s, m, args, below, meth, c⟩ := X
  obtain ⟨hx, hb, hml, ho, hts, hK, hA, hlk, hfr, hR1, hR2, hlo, hZ⟩ := hX
  intro H locs ls h1 h2 h3
  by_cases hq : x = y
  · rw [if_pos hq] at h
    exact lv_icmp_ne hx hb hd ht (fun z => absurd hq z) (fun _ => k1 h H locs ls h1 h2 h3)
  · rw [if_neg hq] at h
    exact lv_icmp_ne hx hb hd ht (fun _ => k2 h H locs ls h1 h2 h3) (fun z => absurd z hq)
theorem zg_if_lt {X : zg_X} {D : va_G} {G : zw_G} {A : Nat → Prop} {Q : State → Prop} {ck : Nat} {w : zw_T} {pc : Nat} {lv : List (Option Value)} {st : List Value} {cc : ByteArray} {own : String} {nL fr lo mc : Nat} {x : Int32} {off : Int} {tgt : Nat} {ρ : Type} {ra rb : Option ρ} {r : ρ} (hX : zg_ok X cc own nL fr lo mc D G A) (hd : decode cc pc = .ok (.ifCond .lt off, 3))  (ht : (pc : Int) + off = (tgt : Int)) (h : (if x < 0 then ra else rb) = some r) (k1 : ra = some r → zg X D G A Q ck w tgt lv st) (k2 : rb = some r → zg X D G A Q ck w (pc + 3) lv st) : zg X D G A Q ck w pc lv (.int x :: st) := by
  obtain ⟨p, l, e, R, s, m, args, below, meth, c⟩ := X
  obtain ⟨hx, hb, hml, ho, hts, hK, hA, hlk, hfr, hR1, hR2, hlo, hZ⟩ := hX
  intro H locs ls h1 h2 h3
  by_cases hq : x < 0
  · rw [if_pos hq] at h
    exact lv_if_lt hx hb hd ht (fun _ => k1 h H locs ls h1 h2 h3) (fun z => absurd hq z)
  · rw [if_neg hq] at h
    exact lv_if_lt hx hb hd ht (fun z => absurd z hq) (fun _ => k2 h H locs ls h1 h2 h3)
theorem zg_icmp_lt {X : zg_X} {D : va_G} {G : zw_G} {A : Nat → Prop} {Q : State → Prop} {ck : Nat} {w : zw_T} {pc : Nat} {lv : List (Option Value)} {st : List Value} {cc : ByteArray} {own : String} {nL fr lo mc : Nat} {x y : Int32} {off : Int} {tgt : Nat} {ρ : Type} {ra rb : Option ρ} {r : ρ} (hX : zg_ok X cc own nL fr lo mc D G A) (hd : decode cc pc = .ok (.if_icmp .lt off, 3))  (ht : (pc : Int) + off = (tgt : Int)) (h : (if x < y then ra else rb) = some r) (k1 : ra = some r → zg X D G A Q ck w tgt lv st) (k2 : rb = some r → zg X D G A Q ck w (pc + 3) lv st) : zg X D G A Q ck w pc lv (.int y :: .int x :: st) := by
  obtain ⟨p, l, e, R, s, m, args, below, meth, c⟩ := X
  obtain ⟨hx, hb, hml, ho, hts, hK, hA, hlk, hfr, hR1, hR2, hlo, hZ⟩ := hX
  intro H locs ls h1 h2 h3
  by_cases hq : x < y
  · rw [if_pos hq] at h
    exact lv_icmp_lt hx hb hd ht (fun _ => k1 h H locs ls h1 h2 h3) (fun z => absurd hq z)
  · rw [if_neg hq] at h
    exact lv_icmp_lt hx hb hd ht (fun z => absurd z hq) (fun _ => k2 h H locs ls h1 h2 h3)
theorem zg_if_ge {X : zg_X} {D : va_G} {G : zw_G} {A : Nat → Prop} {Q : State → Prop} {ck : Nat} {w : zw_T} {pc : Nat} {lv : List (Option Value)} {st : List Value} {cc : ByteArray} {own : String} {nL fr lo mc : Nat} {x : Int32} {off : Int} {tgt : Nat} {ρ : Type} {ra rb : Option ρ} {r : ρ} (hX : zg_ok X cc own nL fr lo mc D G A) (hd : decode cc pc = .ok (.ifCond .ge off, 3))  (ht : (pc : Int) + off = (tgt : Int)) (h : (if 0 ≤ x then ra else rb) = some r) (k1 : ra = some r → zg X D G A Q ck w tgt lv st) (k2 : rb = some r → zg X D G A Q ck w (pc + 3) lv st) : zg X D G A Q ck w pc lv (.int x :: st) := by
  obtain ⟨p, l, e, R, s, m, args, below, meth, c⟩ := X
  obtain ⟨hx, hb, hml, ho, hts, hK, hA, hlk, hfr, hR1, hR2, hlo, hZ⟩ := hX
  intro H locs ls h1 h2 h3
  by_cases hq : 0 ≤ x
  · rw [if_pos hq] at h
    exact lv_if_ge hx hb hd ht (fun _ => k1 h H locs ls h1 h2 h3) (fun z => absurd hq z)
  · rw [if_neg hq] at h
    exact lv_if_ge hx hb hd ht (fun z => absurd z hq) (fun _ => k2 h H locs ls h1 h2 h3)
theorem zg_icmp_ge {X : zg_X} {D : va_G} {G : zw_G} {A : Nat → Prop} {Q : State → Prop} {ck : Nat} {w : zw_T} {pc : Nat} {lv : List (Option Value)} {st : List Value} {cc : ByteArray} {own : String} {nL fr lo mc : Nat} {x y : Int32} {off : Int} {tgt : Nat} {ρ : Type} {ra rb : Option ρ} {r : ρ} (hX : zg_ok X cc own nL fr lo mc D G A) (hd : decode cc pc = .ok (.if_icmp .ge off, 3))  (ht : (pc : Int) + off = (tgt : Int)) (h : (if y ≤ x then ra else rb) = some r) (k1 : ra = some r → zg X D G A Q ck w tgt lv st) (k2 : rb = some r → zg X D G A Q ck w (pc + 3) lv st) : zg X D G A Q ck w pc lv (.int y :: .int x :: st) := by
  obtain ⟨p, l, e, R, s, m, args, below, meth, c⟩ := X
  obtain ⟨hx, hb, hml, ho, hts, hK, hA, hlk, hfr, hR1, hR2, hlo, hZ⟩ := hX
  intro H locs ls h1 h2 h3
  by_cases hq : y ≤ x
  · rw [if_pos hq] at h
    exact lv_icmp_ge hx hb hd ht (fun _ => k1 h H locs ls h1 h2 h3) (fun z => absurd hq z)
  · rw [if_neg hq] at h
    exact lv_icmp_ge hx hb hd ht (fun z => absurd z hq) (fun _ => k2 h H locs ls h1 h2 h3)
theorem zg_if_gt {X : zg_X} {D : va_G} {G : zw_G} {A : Nat → Prop} {Q : State → Prop} {ck : Nat} {w : zw_T} {pc : Nat} {lv : List (Option Value)} {st : List Value} {cc : ByteArray} {own : String} {nL fr lo mc : Nat} {x : Int32} {off : Int} {tgt : Nat} {ρ : Type} {ra rb : Option ρ} {r : ρ} (hX : zg_ok X cc own nL fr lo mc D G A) (hd : decode cc pc = .ok (.ifCond .gt off, 3))  (ht : (pc : Int) + off = (tgt : Int)) (h : (if 0 < x then ra else rb) = some r) (k1 : ra = some r → zg X D G A Q ck w tgt lv st) (k2 : rb = some r → zg X D G A Q ck w (pc + 3) lv st) : zg X D G A Q ck w pc lv (.int x :: st) := by
  obtain ⟨p, l, e, R, s, m, args, below, meth, c⟩ := X
  obtain ⟨hx, hb, hml, ho, hts, hK, hA, hlk, hfr, hR1, hR2, hlo, hZ⟩ := hX
  intro H locs ls h1 h2 h3
  by_cases hq : 0 < x
  · rw [if_pos hq] at h
    exact lv_if_gt hx hb hd ht (fun _ => k1 h H locs ls h1 h2 h3) (fun z => absurd hq z)
  · rw [if_neg hq] at h
    exact lv_if_gt hx hb hd ht (fun z => absurd z hq) (fun _ => k2 h H locs ls h1 h2 h3)
theorem zg_icmp_gt {X : zg_X} {D : va_G} {G : zw_G} {A : Nat → Prop} {Q : State → Prop} {ck : Nat} {w : zw_T} {pc : Nat} {lv : List (Option Value)} {st : List Value} {cc : ByteArray} {own : String} {nL fr lo mc : Nat} {x y : Int32} {off : Int} {tgt : Nat} {ρ : Type} {ra rb : Option ρ} {r : ρ} (hX : zg_ok X cc own nL fr lo mc D G A) (hd : decode cc pc = .ok (.if_icmp .gt off, 3))  (ht : (pc : Int) + off = (tgt : Int)) (h : (if y < x then ra else rb) = some r) (k1 : ra = some r → zg X D G A Q ck w tgt lv st) (k2 : rb = some r → zg X D G A Q ck w (pc + 3) lv st) : zg X D G A Q ck w pc lv (.int y :: .int x :: st) := by
  obtain ⟨p, l, e, R, s, m, args, below, meth, c⟩ := X
  obtain ⟨hx, hb, hml, ho, hts, hK, hA, hlk, hfr, hR1, hR2, hlo, hZ⟩ := hX
  intro H locs ls h1 h2 h3
  by_cases hq : y < x
  · rw [if_pos hq] at h
    exact lv_icmp_gt hx hb hd ht (fun _ => k1 h H locs ls h1 h2 h3) (fun z => absurd hq z)
  · rw [if_neg hq] at h
    exact lv_icmp_gt hx hb hd ht (fun z => absurd z hq) (fun _ => k2 h H locs ls h1 h2 h3)
theorem zg_if_le {X : zg_X} {D : va_G} {G : zw_G} {A : Nat → Prop} {Q : State → Prop} {ck : Nat} {w : zw_T} {pc : Nat} {lv : List (Option Value)} {st : List Value} {cc : ByteArray} {own : String} {nL fr lo mc : Nat} {x : Int32} {off : Int} {tgt : Nat} {ρ : Type} {ra rb : Option ρ} {r : ρ} (hX : zg_ok X cc own nL fr lo mc D G A) (hd : decode cc pc = .ok (.ifCond .le off, 3))  (ht : (pc : Int) + off = (tgt : Int)) (h : (if x ≤ 0 then ra else rb) = some r) (k1 : ra = some r → zg X D G A Q ck w tgt lv st) (k2 : rb = some r → zg X D G A Q ck w (pc + 3) lv st) : zg X D G A Q ck w pc lv (.int x :: st) := by
  obtain ⟨p, l, e, R, s, m, args, below, meth, c⟩ := X
  obtain ⟨hx, hb, hml, ho, hts, hK, hA, hlk, hfr, hR1, hR2, hlo, hZ⟩ := hX
  intro H locs ls h1 h2 h3
  by_cases hq : x ≤ 0
  · rw [if_pos hq] at h
    exact lv_if_le hx hb hd ht (fun _ => k1 h H locs ls h1 h2 h3) (fun z => absurd hq z)
  · rw [if_neg hq] at h
    exact lv_if_le hx hb hd ht (fun z => absurd z hq) (fun _ => k2 h H locs ls h1 h2 h3)
theorem zg_icmp_le {X : zg_X} {D : va_G} {G : zw_G} {A : Nat → Prop} {Q : State → Prop} {ck : Nat} {w : zw_T} {pc : Nat} {lv : List (Option Value)} {st : List Value} {cc : ByteArray} {own : String} {nL fr lo mc : Nat} {x y : Int32} {off : Int} {tgt : Nat} {ρ : Type} {ra rb : Option ρ} {r : ρ} (hX : zg_ok X cc own nL fr lo mc D G A) (hd : decode cc pc = .ok (.if_icmp .le off, 3))  (ht : (pc : Int) + off = (tgt : Int)) (h : (if x ≤ y then ra else rb) = some r) (k1 : ra = some r → zg X D G A Q ck w tgt lv st) (k2 : rb = some r → zg X D G A Q ck w (pc + 3) lv st) : zg X D G A Q ck w pc lv (.int y :: .int x :: st) := by
  obtain ⟨p, l, e, R, s, m, args, below, meth, c⟩ := X
  obtain ⟨hx, hb, hml, ho, hts, hK, hA, hlk, hfr, hR1, hR2, hlo, hZ⟩ := hX
  intro H locs ls h1 h2 h3
  by_cases hq : x ≤ y
  · rw [if_pos hq] at h
    exact lv_icmp_le hx hb hd ht (fun _ => k1 h H locs ls h1 h2 h3) (fun z => absurd hq z)
  · rw [if_neg hq] at h
    exact lv_icmp_le hx hb hd ht (fun z => absurd z hq) (fun _ => k2 h H locs ls h1 h2 h3)
theorem zg_acmp_eq {X : zg_X} {D : va_G} {G : zw_G} {A : Nat → Prop} {Q : State → Prop} {ck : Nat} {w : zw_T} {pc : Nat} {lv : List (Option Value)} {st : List Value} {cc : ByteArray} {own : String} {nL fr lo mc : Nat} {x y : Option Nat} {off : Int} {tgt : Nat} {ρ : Type} {ra rb : Option ρ} {r : ρ} (hX : zg_ok X cc own nL fr lo mc D G A) (hd : decode cc pc = .ok (.if_acmp .eq off, 3))  (ht : (pc : Int) + off = (tgt : Int)) (h : (if x = y then ra else rb) = some r) (k1 : ra = some r → zg X D G A Q ck w tgt lv st) (k2 : rb = some r → zg X D G A Q ck w (pc + 3) lv st) : zg X D G A Q ck w pc lv (va_rf y :: va_rf x :: st) := by
  obtain ⟨p, l, e, R, s, m, args, below, meth, c⟩ := X
  obtain ⟨hx, hb, hml, ho, hts, hK, hA, hlk, hfr, hR1, hR2, hlo, hZ⟩ := hX
  intro H locs ls h1 h2 h3
  by_cases hq : x = y
  · rw [if_pos hq] at h
    exact lv_acmp_eq hx hb hd ht (fun _ => k1 h H locs ls h1 h2 h3) (fun z => absurd hq z)
  · rw [if_neg hq] at h
    exact lv_acmp_eq hx hb hd ht (fun z => absurd z hq) (fun _ => k2 h H locs ls h1 h2 h3)
theorem zg_acmp_ne {X : zg_X} {D : va_G} {G : zw_G} {A : Nat → Prop} {Q : State → Prop} {ck : Nat} {w : zw_T} {pc : Nat} {lv : List (Option Value)} {st : List Value} {cc : ByteArray} {own : String} {nL fr lo mc : Nat} {x y : Option Nat} {off : Int} {tgt : Nat} {ρ : Type} {ra rb : Option ρ} {r : ρ} (hX : zg_ok X cc own nL fr lo mc D G A) (hd : decode cc pc = .ok (.if_acmp .ne off, 3))  (ht : (pc : Int) + off = (tgt : Int)) (h : (if x = y then ra else rb) = some r) (k1 : ra = some r → zg X D G A Q ck w (pc + 3) lv st) (k2 : rb = some r → zg X D G A Q ck w tgt lv st) : zg X D G A Q ck w pc lv (va_rf y :: va_rf x :: st) := by
  obtain ⟨p, l, e, R, s, m, args, below, meth, c⟩ := X
  obtain ⟨hx, hb, hml, ho, hts, hK, hA, hlk, hfr, hR1, hR2, hlo, hZ⟩ := hX
  intro H locs ls h1 h2 h3
  by_cases hq : x = y
  · rw [if_pos hq] at h
    exact lv_acmp_ne hx hb hd ht (fun z => absurd hq z) (fun _ => k1 h H locs ls h1 h2 h3)
  · rw [if_neg hq] at h
    exact lv_acmp_ne hx hb hd ht (fun _ => k2 h H locs ls h1 h2 h3) (fun z => absurd z hq)
theorem zg_ifnull {X : zg_X} {D : va_G} {G : zw_G} {A : Nat → Prop} {Q : State → Prop} {ck : Nat} {w : zw_T} {pc : Nat} {lv : List (Option Value)} {st : List Value} {cc : ByteArray} {own : String} {nL fr lo mc : Nat} {x : Option Nat} {off : Int} {tgt : Nat} {ρ : Type} {ra rb : Option ρ} {r : ρ} (hX : zg_ok X cc own nL fr lo mc D G A) (hd : decode cc pc = .ok (.ifnull off, 3))  (ht : (pc : Int) + off = (tgt : Int)) (h : (if x = none then ra else rb) = some r) (k1 : ra = some r → zg X D G A Q ck w tgt lv st) (k2 : rb = some r → zg X D G A Q ck w (pc + 3) lv st) : zg X D G A Q ck w pc lv (va_rf x :: st) := by
  obtain ⟨p, l, e, R, s, m, args, below, meth, c⟩ := X
  obtain ⟨hx, hb, hml, ho, hts, hK, hA, hlk, hfr, hR1, hR2, hlo, hZ⟩ := hX
  intro H locs ls h1 h2 h3
  cases x with
  | none => exact lv_ifnullN hx hb hd ht (k1 (by simpa using h) H locs ls h1 h2 h3)
  | some x => exact lv_ifnull hx hb hd (k2 (by simpa using h) H locs ls h1 h2 h3)
theorem zg_ifnonnull {X : zg_X} {D : va_G} {G : zw_G} {A : Nat → Prop} {Q : State → Prop} {ck : Nat} {w : zw_T} {pc : Nat} {lv : List (Option Value)} {st : List Value} {cc : ByteArray} {own : String} {nL fr lo mc : Nat} {x : Option Nat} {off : Int} {tgt : Nat} {ρ : Type} {ra rb : Option ρ} {r : ρ} (hX : zg_ok X cc own nL fr lo mc D G A) (hd : decode cc pc = .ok (.ifnonnull off, 3))  (ht : (pc : Int) + off = (tgt : Int)) (h : (if x = none then ra else rb) = some r) (k1 : ra = some r → zg X D G A Q ck w (pc + 3) lv st) (k2 : rb = some r → zg X D G A Q ck w tgt lv st) : zg X D G A Q ck w pc lv (va_rf x :: st) := by
  obtain ⟨p, l, e, R, s, m, args, below, meth, c⟩ := X
  obtain ⟨hx, hb, hml, ho, hts, hK, hA, hlk, hfr, hR1, hR2, hlo, hZ⟩ := hX
  intro H locs ls h1 h2 h3
  cases x with
  | none => exact lv_ifnonnullN hx hb hd (k1 (by simpa using h) H locs ls h1 h2 h3)
  | some x => exact lv_ifnonnull hx hb hd ht (k2 (by simpa using h) H locs ls h1 h2 h3)
theorem zg_goto {X : zg_X} {D : va_G} {G : zw_G} {A : Nat → Prop} {Q : State → Prop} {ck : Nat} {w : zw_T} {pc : Nat} {lv : List (Option Value)} {st : List Value} {cc : ByteArray} {own : String} {nL fr lo mc : Nat} {off : Int} {tgt : Nat} (hX : zg_ok X cc own nL fr lo mc D G A) (hd : decode cc pc = .ok (.goto off, 3))  (ht : (pc : Int) + off = (tgt : Int)) (k : zg X D G A Q ck w tgt lv st) : zg X D G A Q ck w pc lv st := by
  obtain ⟨p, l, e, R, s, m, args, below, meth, c⟩ := X
  obtain ⟨hx, hb, hml, ho, hts, hK, hA, hlk, hfr, hR1, hR2, hlo, hZ⟩ := hX
  intro H locs ls h1 h2 h3
  exact lv_goto hx hb hd ht (k H locs ls h1 h2 h3)
theorem zv_cat (o : Option Nat) : (va_rf o).category = 1 := by cases o <;> rfl
theorem zv_no (C : String) (o : Option Nat) : narrow (.object C) (va_rf o) = va_rf o ∧ fits (.object C) (va_rf o) = true := by cases o <;> exact ⟨rfl, rfl⟩
theorem zv_na (t : FieldType) (o : Option Nat) : narrow (.array t) (va_rf o) = va_rf o ∧ fits (.array t) (va_rf o) = true := by cases o <;> exact ⟨rfl, rfl⟩
def zk_F : Nat := 3000
theorem zg_tsw4 {X : zg_X} {D : va_G} {G : zw_G} {A : Nat → Prop} {Q : State → Prop} {ck : Nat} {w : zw_T} {pc : Nat} {lv : List (Option Value)} {st : List Value} {cc : ByteArray} {own : String} {nL fr lo mc : Nat} {x : Int32} {od o0 o1 o2 o3 : Int} {len gd g0 g1 g2 g3 : Nat} {ρ : Type} {rd r0 r1 r2 r3 : Option ρ} {r : ρ} (hX : zg_ok X cc own nL fr lo mc D G A) (hd : decode cc pc = .ok (.tableswitch od 0 3 #[o0, o1, o2, o3], len))  (td : (pc : Int) + od = (gd : Int)) (t0 : (pc : Int) + o0 = (g0 : Int)) (t1 : (pc : Int) + o1 = (g1 : Int)) (t2 : (pc : Int) + o2 = (g2 : Int)) (t3 : (pc : Int) + o3 = (g3 : Int)) (h : (if x = 0 then r0 else (if x = 1 then r1 else (if x = 2 then r2 else if x = 3 then r3 else rd))) = some r) (k0 : r0 = some r → zg X D G A Q ck w g0 lv st) (k1 : r1 = some r → zg X D G A Q ck w g1 lv st) (k2 : r2 = some r → zg X D G A Q ck w g2 lv st) (k3 : r3 = some r → zg X D G A Q ck w g3 lv st) (kd : rd = some r → zg X D G A Q ck w gd lv st) : zg X D G A Q ck w pc lv (.int x :: st) := by
  obtain ⟨p, l, e, R, s, m, args, below, meth, c⟩ := X
  obtain ⟨hx, hb, hml, ho, hts, hK, hA, hlk, hfr, hR1, hR2, hlo, hZ⟩ := hX
  intro H locs ls h1 h2 h3
  by_cases q0 : x = 0
  · rw [if_pos q0] at h
    subst q0
    exact lv_tableIn hx hb hd (by decide) (by decide) rfl t0 (k0 h H locs ls h1 h2 h3)
  · rw [if_neg q0] at h
    by_cases q1 : x = 1
    · rw [if_pos q1] at h
      subst q1
      exact lv_tableIn hx hb hd (by decide) (by decide) rfl t1 (k1 h H locs ls h1 h2 h3)
    · rw [if_neg q1] at h
      by_cases q2 : x = 2
      · rw [if_pos q2] at h
        subst q2
        exact lv_tableIn hx hb hd (by decide) (by decide) rfl t2 (k2 h H locs ls h1 h2 h3)
      · rw [if_neg q2] at h
        by_cases q3 : x = 3
        · rw [if_pos q3] at h
          subst q3
          exact lv_tableIn hx hb hd (by decide) (by decide) rfl t3 (k3 h H locs ls h1 h2 h3)
        · rw [if_neg q3] at h
          have n0 := lv_neT q0 (a := 0) (by decide)
          have n1 := lv_neT q1 (a := 1) (by decide)
          have n2 := lv_neT q2 (a := 2) (by decide)
          have n3 := lv_neT q3 (a := 3) (by decide)
          exact lv_tableOut hx hb hd (by omega) td (kd h H locs ls h1 h2 h3)
end
section
/-! Functions of mine: what an instruction does to a memory; none where the machine would throw -/
def zf_at {ρ : Type} (w : zw_T) (kd : Nat) (o : Option Nat) (K : Nat → Option ρ) : Option ρ := match o with
  | none => none
  | some a => if (zw_ty w a).1 = kd then K a else none
def zf_ix {ρ : Type} (w : zw_T) (kd : Nat) (o : Option Nat) (i : Int32) (K : Nat → Nat → Option ρ) : Option ρ := match o with
  | none => none
  | some a => if (zw_ty w a).1 = kd ∧ ¬ i < 0 ∧ i.toNatClampNeg < (zw_ty w a).2 then K a i.toNatClampNeg else none
def zf_tr {ρ : Type} (i : Int32) (K : Int32 → Option ρ) : Option ρ := if ¬ i < 0 ∧ i.toNatClampNeg < 32 then K (zs_tr i.toNatClampNeg) else none
def zf_na {ρ : Type} (w : zw_T) (kd : Nat) (n : Int32) (K : zw_T → Option ρ) : Option ρ := if ¬ n < 0 ∧ n.toNatClampNeg ≤ 4096 then K (zw_new w kd n.toNatClampNeg) else none
def zf_b {ρ : Type} (x : Int32) (K : Option ρ) : Option ρ := if x = 0 ∨ x = 1 then K else none
def zf_nz {ρ : Type} (x : Int32) (K : Option ρ) : Option ρ := if x = 0 then none else K
def zf_bd {α ρ : Type} (o : Option (α × zw_T)) (K : α → zw_T → Option ρ) : Option ρ := match o with
  | none => none
  | some q => K q.1 q.2
def zf_bv {ρ : Type} (o : Option zw_T) (K : zw_T → Option ρ) : Option ρ := match o with
  | none => none
  | some q => K q
def zf_cl {ρ : Type} (w : zw_T) (k0 k1 : Nat) (o : Option Nat) (K : zw_T → Option ρ) : Option ρ := match o with
  | some a => if (zw_ty w a).1 = k0 ∧ (zw_ty w a).2 ≤ 4096 then K (zw_sF (zw_new w k1 (zw_ty w a).2) k1 (zw_n w) (zw_I w k0 a)) else none
  | none => none
def zf_cp {ρ : Type} (w : zw_T) (k0 k1 : Nat) (o0 : Option Nat) (sp : Int32) (o1 : Option Nat) (dp n : Int32) (K : zw_T → Option ρ) : Option ρ := match o0, o1 with
  | some a, some b => if (zw_ty w a).1 = k0 ∧ (zw_ty w b).1 = k1 ∧ ¬ sp < 0 ∧ ¬ dp < 0 ∧ ¬ n < 0 ∧ sp.toNatClampNeg + n.toNatClampNeg ≤ (zw_ty w a).2 ∧ dp.toNatClampNeg + n.toNatClampNeg ≤ (zw_ty w b).2 then K (zw_sF w k1 b (va_cpy (zw_I w k0 a) (zw_I w k1 b) sp.toNatClampNeg dp.toNatClampNeg n.toNatClampNeg)) else none
  | _, _ => none
theorem zf_at_e {ρ : Type} {w : zw_T} {kd : Nat} {o : Option Nat} {K : Nat → Option ρ} {r : ρ} (h : zf_at w kd o K = some r) : ∃ a, o = some a ∧ (zw_ty w a).1 = kd ∧ K a = some r := by
  unfold zf_at at h
  cases o with
  | none => cases h
  | some a =>
    by_cases hq : (zw_ty w a).1 = kd
    · simp only [if_pos hq] at h
      exact ⟨a, rfl, hq, h⟩
    · simp only [if_neg hq] at h
      cases h
theorem zf_ix_e {ρ : Type} {w : zw_T} {kd : Nat} {o : Option Nat} {i : Int32} {K : Nat → Nat → Option ρ} {r : ρ} (h : zf_ix w kd o i K = some r) : ∃ a, o = some a ∧ (zw_ty w a).1 = kd ∧ ¬ i < 0 ∧ i.toNatClampNeg < (zw_ty w a).2 ∧ K a i.toNatClampNeg = some r := by
  unfold zf_ix at h
  cases o with
  | none => cases h
  | some a =>
    by_cases hq : (zw_ty w a).1 = kd ∧ ¬ i < 0 ∧ i.toNatClampNeg < (zw_ty w a).2
    · simp only [if_pos hq] at h
      exact ⟨a, rfl, hq.1, hq.2.1, hq.2.2, h⟩
    · simp only [if_neg hq] at h
      cases h
theorem zf_bd_e {α ρ : Type} {o : Option (α × zw_T)} {K : α → zw_T → Option ρ} {r : ρ} (h : zf_bd o K = some r) : ∃ (v : α) (w : zw_T), o = some (v, w) ∧ K v w = some r := by
  unfold zf_bd at h
  cases o with
  | none => cases h
  | some q => exact ⟨q.1, q.2, rfl, h⟩
theorem zf_bv_e {ρ : Type} {o : Option zw_T} {K : zw_T → Option ρ} {r : ρ} (h : zf_bv o K = some r) : ∃ w : zw_T, o = some w ∧ K w = some r := by
  unfold zf_bv at h
  cases o with
  | none => cases h
  | some q => exact ⟨q, rfl, h⟩
theorem zf_nz_e {ρ : Type} {x : Int32} {K : Option ρ} {r : ρ} (h : zf_nz x K = some r) : ¬ x = 0 ∧ K = some r := by
  unfold zf_nz at h
  by_cases hq : x = 0
  · rw [if_pos hq] at h
    cases h
  · rw [if_neg hq] at h
    exact ⟨hq, h⟩
theorem zf_b_e {ρ : Type} {x : Int32} {K : Option ρ} {r : ρ} (h : zf_b x K = some r) : (x = 0 ∨ x = 1) ∧ K = some r := by
  unfold zf_b at h
  by_cases hq : x = 0 ∨ x = 1
  · rw [if_pos hq] at h
    exact ⟨hq, h⟩
  · rw [if_neg hq] at h
    cases h
theorem zf_b_n {x : Int32} (h : x = 0 ∨ x = 1) : narrow .boolean (.int x) = .int x ∧ fits .boolean (.int x) = true := by
  rcases h with rfl | rfl <;> exact ⟨by decide, by decide⟩
theorem zw_nf_of {ci N : Nat} {C : String} {T : u_T} (hc : vwCl[ci]? = some (C, T, N)) : zw_nf ci = N := by
  unfold zw_nf
  rw [hc]
theorem zb_in {i : Int32} {n : Nat} (h0 : ¬ i < 0) (h5 : i.toNatClampNeg < n) : vp_in i n := by
  intro q
  rcases q with q | q
  · exact h0 q
  · omega
theorem zg_getI {X : zg_X} {D : va_G} {G : zw_G} {A : Nat → Prop} {Q : State → Prop} {ck : Nat} {w : zw_T} {pc : Nat} {lv : List (Option Value)} {st : List Value} {cc : ByteArray} {own : String} {nL fr lo mc : Nat} {ci k idx N : Nat} {C : String} {T : u_T} (hc : vwCl[ci]? = some (C, T, N)) (hk : k < N) (hci : ci < 99) (hin : ∀ q ∈ u_ws C T N, q ∈ zT) (hlink : Cond.fieldLink own idx (T k).1 (T k).2.1 (T k).2.2.1 ∈ zT) (ht : zw_ft ci k = 0) {o : Option Nat} {ρ : Type} {r : ρ} {K : Nat → Option ρ} (hX : zg_ok X cc own nL fr lo mc D G A) (hd : decode cc pc = .ok (.getfield idx, 3)) (h : zf_at w (ci + 1) o K = some r) (kk : ∀ a, K a = some r → zg X D G A Q ck w (pc + 3) lv (.int (zw_I w (1000 + 64 * ci + k) a 0) :: st)) : zg X D G A Q ck w pc lv (va_rf o :: st) := by
  obtain ⟨a, rfl, ht', h⟩ := zf_at_e h
  obtain ⟨p, l, e, R, s, m, args, below, meth, c⟩ := X
  obtain ⟨hx, hb, hml, ho, hts, hK, hA, hlk, hfr, hR1, hR2, hlo, hZ⟩ := hX
  intro H locs ls h1 h2 h3
  have hv := (h2.2 a (by rw [ht']; omega)).1
  rw [zw_cell_o ht' hci] at hv
  exact va_get hx hb hts hin ho hK (zw_one hv) 0 rfl hc k hk (hts _ hlink) (fun _ q => q) (v := .int (zw_I w (1000 + 64 * ci + k) a 0)) (by rw [zw_fs_at (by rw [zw_nf_of hc]; exact hk), ht]; rfl) hd (kk a h H locs ls h1 h2 h3)
theorem zg_getR {X : zg_X} {D : va_G} {G : zw_G} {A : Nat → Prop} {Q : State → Prop} {ck : Nat} {w : zw_T} {pc : Nat} {lv : List (Option Value)} {st : List Value} {cc : ByteArray} {own : String} {nL fr lo mc : Nat} {ci k idx N : Nat} {C : String} {T : u_T} (hc : vwCl[ci]? = some (C, T, N)) (hk : k < N) (hci : ci < 99) (hin : ∀ q ∈ u_ws C T N, q ∈ zT) (hlink : Cond.fieldLink own idx (T k).1 (T k).2.1 (T k).2.2.1 ∈ zT) (ht : zw_ft ci k = 1) {o : Option Nat} {ρ : Type} {r : ρ} {K : Nat → Option ρ} (hX : zg_ok X cc own nL fr lo mc D G A) (hd : decode cc pc = .ok (.getfield idx, 3)) (h : zf_at w (ci + 1) o K = some r) (kk : ∀ a, K a = some r → zg X D G A Q ck w (pc + 3) lv (va_rf (zw_R w (1000 + 64 * ci + k) a 0) :: st)) : zg X D G A Q ck w pc lv (va_rf o :: st) := by
  obtain ⟨a, rfl, ht', h⟩ := zf_at_e h
  obtain ⟨p, l, e, R, s, m, args, below, meth, c⟩ := X
  obtain ⟨hx, hb, hml, ho, hts, hK, hA, hlk, hfr, hR1, hR2, hlo, hZ⟩ := hX
  intro H locs ls h1 h2 h3
  have hv := (h2.2 a (by rw [ht']; omega)).1
  rw [zw_cell_o ht' hci] at hv
  exact va_get hx hb hts hin ho hK (zw_one hv) 0 rfl hc k hk (hts _ hlink) (fun _ q => q) (v := va_rf (zw_R w (1000 + 64 * ci + k) a 0)) (by rw [zw_fs_at (by rw [zw_nf_of hc]; exact hk), ht]; rfl) hd (kk a h H locs ls h1 h2 h3)
theorem zg_getL {X : zg_X} {D : va_G} {G : zw_G} {A : Nat → Prop} {Q : State → Prop} {ck : Nat} {w : zw_T} {pc : Nat} {lv : List (Option Value)} {st : List Value} {cc : ByteArray} {own : String} {nL fr lo mc : Nat} {ci k idx N : Nat} {C : String} {T : u_T} (hc : vwCl[ci]? = some (C, T, N)) (hk : k < N) (hci : ci < 99) (hin : ∀ q ∈ u_ws C T N, q ∈ zT) (hlink : Cond.fieldLink own idx (T k).1 (T k).2.1 (T k).2.2.1 ∈ zT) (ht : zw_ft ci k = 2) {o : Option Nat} {ρ : Type} {r : ρ} {K : Nat → Option ρ} (hX : zg_ok X cc own nL fr lo mc D G A) (hd : decode cc pc = .ok (.getfield idx, 3)) (h : zf_at w (ci + 1) o K = some r) (kk : ∀ a, K a = some r → zg X D G A Q ck w (pc + 3) lv (.long (zw_L w (1000 + 64 * ci + k) a 0) :: st)) : zg X D G A Q ck w pc lv (va_rf o :: st) := by
  obtain ⟨a, rfl, ht', h⟩ := zf_at_e h
  obtain ⟨p, l, e, R, s, m, args, below, meth, c⟩ := X
  obtain ⟨hx, hb, hml, ho, hts, hK, hA, hlk, hfr, hR1, hR2, hlo, hZ⟩ := hX
  intro H locs ls h1 h2 h3
  have hv := (h2.2 a (by rw [ht']; omega)).1
  rw [zw_cell_o ht' hci] at hv
  exact va_get hx hb hts hin ho hK (zw_one hv) 0 rfl hc k hk (hts _ hlink) (fun _ q => q) (v := .long (zw_L w (1000 + 64 * ci + k) a 0)) (by rw [zw_fs_at (by rw [zw_nf_of hc]; exact hk), ht]; rfl) hd (kk a h H locs ls h1 h2 h3)
theorem zg_putx {X : zg_X} {D : va_G} {G : zw_G} {A : Nat → Prop} {Q : State → Prop} {ck : Nat} {w : zw_T} {pc : Nat} {lv : List (Option Value)} {st : List Value} {cc : ByteArray} {own : String} {nL fr lo mc : Nat} {ci k idx N : Nat} {C : String} {T : u_T} (hc : vwCl[ci]? = some (C, T, N)) (hk : k < N) (hci : ci < 99) (hin : ∀ q ∈ u_ws C T N, q ∈ zT) (hlink : Cond.fieldLink own idx (T k).1 (T k).2.1 (T k).2.2.1 ∈ zT) (ty0 : Nat → FieldType) (hty : ∀ k, k < N → parseFieldDescriptor (T k).2.2.1 = some (ty0 k)) (hnm : ∀ a, a < N → ∀ b, b < N → a ≠ b → (T a).2.1 ≠ (T b).2.1) (hfin : (T k).2.2.2 = false) {v : Value} {a : Nat} (w' : zw_T) (hn : narrow (ty0 k) v = v) (hfit : fits (ty0 k) v = true) (ha : (zw_ty w a).1 = ci + 1) (hw1 : zw_ty w' = zw_ty w) (hw2 : zw_n w' = zw_n w) (hw3 : ∀ b, b ≠ a → zw_cell G w' b = zw_cell G w b) (hw4 : zw_fs w' ci a = (zw_fs w ci a).set k v) (hX : zg_ok X cc own nL fr lo mc D G A) (hd : decode cc pc = .ok (.putfield idx, 3)) (kk : zg X D G A Q ck w' (pc + 3) lv st) : zg X D G A Q ck w pc lv (v :: .ref a :: st) := by
  obtain ⟨p, l, e, R, s, m, args, below, meth, c⟩ := X
  obtain ⟨hx, hb, hml, ho, hts, hK, hA, hlk, hfr, hR1, hR2, hlo, hZ⟩ := hX
  intro H locs ls h1 h2 h3
  have hv := h2.2 a (by rw [ha]; omega)
  have hAa := hv.2
  have hv := hv.1
  rw [zw_cell_o ha hci] at hv
  have hap := va_apart (own := own) hts hin ty0 hty hnm hK hc
  obtain ⟨r, g1, cell, q1, q2, q3, q4⟩ := hv
  have hr : r = (C, T, N) := Option.some.inj (g1.symm.trans hc)
  subst hr
  obtain ⟨hS, hfc, kC, hkC, hkind⟩ := hK.1 ci _ hc
  obtain ⟨cf, kf, fi, f, hi, hsl⟩ := hS k hk
  have hlay := hts _ (hin _ (u_in_lay hk))
  unfold u_lay at hlay
  rw [if_neg (by rw [hfin]; decide)] at hlay
  have hst := (u_facts hfc hkC (u_lays hts hin hk) hi).1
  have h6 := u_store hfc hkC hkind hlay hi (hty k hk) hn hfit
  refine W.putK hx hb (f := f) ⟨ho, hts _ hlink, ⟨_, _, _, hi⟩, hst⟩ (by rw [q2]; exact h6) q1 q3 (by rw [hsl]; exact k2_hasslot (q4 k hk)) rfl rfl hd fun H' e1 e2 e3 => ?_
  rw [hsl] at e1 ⊢
  refine kk H' _ ls h1 (zw_move h2 hw1 hw2 hw3 ?_ e2 e3) (h3.put e2 e3 hAa)
  rw [zw_cell_o (by rw [hw1]; exact ha) hci, hw4]
  exact ⟨_, hc, t_OB.to (V := updV (vp_V (zw_fs w ci a)) k v) ⟨_, e1, q2, q3, t_set q4 hap hk v⟩ (fun j _ => vp_updV_set (by rw [zw_fs_len, zw_nf_of hc]; exact hk) v j)⟩
theorem zg_pfix {X : zg_X} {D : va_G} {G : zw_G} {A : Nat → Prop} {Q : State → Prop} {ck : Nat} {w : zw_T} {pc : Nat} {lv : List (Option Value)} {st : List Value} {cc : ByteArray} {own : String} {nL fr lo mc : Nat} {ci k idx N : Nat} {C : String} {T : u_T} (hc : vwCl[ci]? = some (C, T, N)) (hk : k < N) (hci : ci < 99) (hin : ∀ q ∈ u_ws C T N, q ∈ zT) (hlink : Cond.fieldLink own idx (T k).1 (T k).2.1 (T k).2.2.1 ∈ zT) (ty0 : Nat → FieldType) (hty : ∀ k, k < N → parseFieldDescriptor (T k).2.2.1 = some (ty0 k)) (hnm : ∀ a, a < N → ∀ b, b < N → a ≠ b → (T a).2.1 ≠ (T b).2.1) (hfin : (T k).2.2.2 = true) (hnm2 : zg_nm X = "<init>") (hdecl : (T k).1 = own) {v : Value} {a : Nat} (w' : zw_T) (hn : narrow (ty0 k) v = v) (hfit : fits (ty0 k) v = true) (ha : (zw_ty w a).1 = ci + 1) (hw1 : zw_ty w' = zw_ty w) (hw2 : zw_n w' = zw_n w) (hw3 : ∀ b, b ≠ a → zw_cell G w' b = zw_cell G w b) (hw4 : zw_fs w' ci a = (zw_fs w ci a).set k v) (hX : zg_ok X cc own nL fr lo mc D G A) (hd : decode cc pc = .ok (.putfield idx, 3)) (kk : zg X D G A Q ck w' (pc + 3) lv st) : zg X D G A Q ck w pc lv (v :: .ref a :: st) := by
  obtain ⟨p, l, e, R, s, m, args, below, meth, c⟩ := X
  obtain ⟨hx, hb, hml, ho, hts, hK, hA, hlk, hfr, hR1, hR2, hlo, hZ⟩ := hX
  intro H locs ls h1 h2 h3
  have hv := h2.2 a (by rw [ha]; omega)
  have hAa := hv.2
  have hv := hv.1
  rw [zw_cell_o ha hci] at hv
  have hap := va_apart (own := own) hts hin ty0 hty hnm hK hc
  obtain ⟨r, g1, cell, q1, q2, q3, q4⟩ := hv
  have hr : r = (C, T, N) := Option.some.inj (g1.symm.trans hc)
  subst hr
  obtain ⟨hS, hfc, kC, hkC, hkind⟩ := hK.1 ci _ hc
  obtain ⟨cf, kf, fi, f, hi, hsl⟩ := hS k hk
  have hlay := hts _ (hin _ (u_in_lay hk))
  unfold u_lay at hlay
  rw [if_pos hfin] at hlay
  have hst := (u_facts hfc hkC (u_lays hts hin hk) hi).1
  have hcf : m.cls = cf := by
    obtain ⟨_, _, c', _, _, _, -, -, hf', -, -, -, hown2, -⟩ := Cond.laysFinal_spec hlay
    have e1 : c' = cf := by have := hi.symm.trans hf'; simp at this; exact this.1.symm
    rw [hdecl] at hown2
    rw [← e1]; exact Option.some.inj (ho.symm.trans hown2)
  have h6 := u_fits hfc hkC hkind (Or.inr hlay) hi (hty k hk) hn hfit
  refine W.putFinK hx hb ho (hts _ hlink) hi hst hcf hnm2 (by rw [q2]; exact h6) q1 q3 (by rw [hsl]; exact k2_hasslot (q4 k hk)) rfl rfl hd fun H' e1 e2 e3 => ?_
  rw [hsl] at e1 ⊢
  refine kk H' _ ls h1 (zw_move h2 hw1 hw2 hw3 ?_ e2 e3) (h3.put e2 e3 hAa)
  rw [zw_cell_o (by rw [hw1]; exact ha) hci, hw4]
  exact ⟨_, hc, t_OB.to (V := updV (vp_V (zw_fs w ci a)) k v) ⟨_, e1, q2, q3, t_set q4 hap hk v⟩ (fun j _ => vp_updV_set (by rw [zw_fs_len, zw_nf_of hc]; exact hk) v j)⟩
theorem zg_putI {X : zg_X} {D : va_G} {G : zw_G} {A : Nat → Prop} {Q : State → Prop} {ck : Nat} {w : zw_T} {pc : Nat} {lv : List (Option Value)} {st : List Value} {cc : ByteArray} {own : String} {nL fr lo mc : Nat} {ci k idx N : Nat} {C : String} {T : u_T} (hc : vwCl[ci]? = some (C, T, N)) (hk : k < N) (hci : ci < 99) (hin : ∀ q ∈ u_ws C T N, q ∈ zT) (hlink : Cond.fieldLink own idx (T k).1 (T k).2.1 (T k).2.2.1 ∈ zT) (ht : zw_ft ci k = 0) (ty0 : Nat → FieldType) (hty : ∀ k, k < N → parseFieldDescriptor (T k).2.2.1 = some (ty0 k)) (hnm : ∀ a, a < N → ∀ b, b < N → a ≠ b → (T a).2.1 ≠ (T b).2.1) (hfin : (T k).2.2.2 = false) {x : Int32} (hn : narrow (ty0 k) (.int x) = .int x) (hfit : fits (ty0 k) (.int x) = true) {o : Option Nat} {ρ : Type} {r : ρ} {K : zw_T → Option ρ} (hX : zg_ok X cc own nL fr lo mc D G A) (hd : decode cc pc = .ok (.putfield idx, 3)) (h : zf_at w (ci + 1) o (fun a => zf_let (zw_sI w (1000 + 64 * ci + k) a 0 x) K) = some r) (kk : ∀ w1, K w1 = some r → zg X D G A Q ck w1 (pc + 3) lv st) : zg X D G A Q ck w pc lv (.int x :: va_rf o :: st) := by
  obtain ⟨a, rfl, ht', h⟩ := zf_at_e h
  exact zg_putx hc hk hci hin hlink ty0 hty hnm hfin (zw_sI w (1000 + 64 * ci + k) a 0 x) hn hfit ht' rfl rfl (fun b hb => zw_sF_ne hb) (zw_fs_I (by rw [zw_nf_of hc]; exact hk) ht) hX hd (kk _ h)
theorem zg_pfiI {X : zg_X} {D : va_G} {G : zw_G} {A : Nat → Prop} {Q : State → Prop} {ck : Nat} {w : zw_T} {pc : Nat} {lv : List (Option Value)} {st : List Value} {cc : ByteArray} {own : String} {nL fr lo mc : Nat} {ci k idx N : Nat} {C : String} {T : u_T} (hc : vwCl[ci]? = some (C, T, N)) (hk : k < N) (hci : ci < 99) (hin : ∀ q ∈ u_ws C T N, q ∈ zT) (hlink : Cond.fieldLink own idx (T k).1 (T k).2.1 (T k).2.2.1 ∈ zT) (ht : zw_ft ci k = 0) (ty0 : Nat → FieldType) (hty : ∀ k, k < N → parseFieldDescriptor (T k).2.2.1 = some (ty0 k)) (hnm : ∀ a, a < N → ∀ b, b < N → a ≠ b → (T a).2.1 ≠ (T b).2.1) (hfin : (T k).2.2.2 = true) (hnm2 : zg_nm X = "<init>") (hdecl : (T k).1 = own) {x : Int32} (hn : narrow (ty0 k) (.int x) = .int x) (hfit : fits (ty0 k) (.int x) = true) {o : Option Nat} {ρ : Type} {r : ρ} {K : zw_T → Option ρ} (hX : zg_ok X cc own nL fr lo mc D G A) (hd : decode cc pc = .ok (.putfield idx, 3)) (h : zf_at w (ci + 1) o (fun a => zf_let (zw_sI w (1000 + 64 * ci + k) a 0 x) K) = some r) (kk : ∀ w1, K w1 = some r → zg X D G A Q ck w1 (pc + 3) lv st) : zg X D G A Q ck w pc lv (.int x :: va_rf o :: st) := by
  obtain ⟨a, rfl, ht', h⟩ := zf_at_e h
  exact zg_pfix hc hk hci hin hlink ty0 hty hnm hfin hnm2 hdecl (zw_sI w (1000 + 64 * ci + k) a 0 x) hn hfit ht' rfl rfl (fun b hb => zw_sF_ne hb) (zw_fs_I (by rw [zw_nf_of hc]; exact hk) ht) hX hd (kk _ h)
theorem zg_putR {X : zg_X} {D : va_G} {G : zw_G} {A : Nat → Prop} {Q : State → Prop} {ck : Nat} {w : zw_T} {pc : Nat} {lv : List (Option Value)} {st : List Value} {cc : ByteArray} {own : String} {nL fr lo mc : Nat} {ci k idx N : Nat} {C : String} {T : u_T} (hc : vwCl[ci]? = some (C, T, N)) (hk : k < N) (hci : ci < 99) (hin : ∀ q ∈ u_ws C T N, q ∈ zT) (hlink : Cond.fieldLink own idx (T k).1 (T k).2.1 (T k).2.2.1 ∈ zT) (ht : zw_ft ci k = 1) (ty0 : Nat → FieldType) (hty : ∀ k, k < N → parseFieldDescriptor (T k).2.2.1 = some (ty0 k)) (hnm : ∀ a, a < N → ∀ b, b < N → a ≠ b → (T a).2.1 ≠ (T b).2.1) (hfin : (T k).2.2.2 = false) {x : Option Nat} (hn : narrow (ty0 k) (va_rf x) = va_rf x) (hfit : fits (ty0 k) (va_rf x) = true) {o : Option Nat} {ρ : Type} {r : ρ} {K : zw_T → Option ρ} (hX : zg_ok X cc own nL fr lo mc D G A) (hd : decode cc pc = .ok (.putfield idx, 3)) (h : zf_at w (ci + 1) o (fun a => zf_let (zw_sR w (1000 + 64 * ci + k) a 0 x) K) = some r) (kk : ∀ w1, K w1 = some r → zg X D G A Q ck w1 (pc + 3) lv st) : zg X D G A Q ck w pc lv (va_rf x :: va_rf o :: st) := by
  obtain ⟨a, rfl, ht', h⟩ := zf_at_e h
  exact zg_putx hc hk hci hin hlink ty0 hty hnm hfin (zw_sR w (1000 + 64 * ci + k) a 0 x) hn hfit ht' rfl rfl (fun b hb => zw_sR_ne hb) (zw_fs_R (by rw [zw_nf_of hc]; exact hk) ht) hX hd (kk _ h)
theorem zg_pfiR {X : zg_X} {D : va_G} {G : zw_G} {A : Nat → Prop} {Q : State → Prop} {ck : Nat} {w : zw_T} {pc : Nat} {lv : List (Option Value)} {st : List Value} {cc : ByteArray} {own : String} {nL fr lo mc : Nat} {ci k idx N : Nat} {C : String} {T : u_T} (hc : vwCl[ci]? = some (C, T, N)) (hk : k < N) (hci : ci < 99) (hin : ∀ q ∈ u_ws C T N, q ∈ zT) (hlink : Cond.fieldLink own idx (T k).1 (T k).2.1 (T k).2.2.1 ∈ zT) (ht : zw_ft ci k = 1) (ty0 : Nat → FieldType) (hty : ∀ k, k < N → parseFieldDescriptor (T k).2.2.1 = some (ty0 k)) (hnm : ∀ a, a < N → ∀ b, b < N → a ≠ b → (T a).2.1 ≠ (T b).2.1) (hfin : (T k).2.2.2 = true) (hnm2 : zg_nm X = "<init>") (hdecl : (T k).1 = own) {x : Option Nat} (hn : narrow (ty0 k) (va_rf x) = va_rf x) (hfit : fits (ty0 k) (va_rf x) = true) {o : Option Nat} {ρ : Type} {r : ρ} {K : zw_T → Option ρ} (hX : zg_ok X cc own nL fr lo mc D G A) (hd : decode cc pc = .ok (.putfield idx, 3)) (h : zf_at w (ci + 1) o (fun a => zf_let (zw_sR w (1000 + 64 * ci + k) a 0 x) K) = some r) (kk : ∀ w1, K w1 = some r → zg X D G A Q ck w1 (pc + 3) lv st) : zg X D G A Q ck w pc lv (va_rf x :: va_rf o :: st) := by
  obtain ⟨a, rfl, ht', h⟩ := zf_at_e h
  exact zg_pfix hc hk hci hin hlink ty0 hty hnm hfin hnm2 hdecl (zw_sR w (1000 + 64 * ci + k) a 0 x) hn hfit ht' rfl rfl (fun b hb => zw_sR_ne hb) (zw_fs_R (by rw [zw_nf_of hc]; exact hk) ht) hX hd (kk _ h)
theorem zg_putL {X : zg_X} {D : va_G} {G : zw_G} {A : Nat → Prop} {Q : State → Prop} {ck : Nat} {w : zw_T} {pc : Nat} {lv : List (Option Value)} {st : List Value} {cc : ByteArray} {own : String} {nL fr lo mc : Nat} {ci k idx N : Nat} {C : String} {T : u_T} (hc : vwCl[ci]? = some (C, T, N)) (hk : k < N) (hci : ci < 99) (hin : ∀ q ∈ u_ws C T N, q ∈ zT) (hlink : Cond.fieldLink own idx (T k).1 (T k).2.1 (T k).2.2.1 ∈ zT) (ht : zw_ft ci k = 2) (ty0 : Nat → FieldType) (hty : ∀ k, k < N → parseFieldDescriptor (T k).2.2.1 = some (ty0 k)) (hnm : ∀ a, a < N → ∀ b, b < N → a ≠ b → (T a).2.1 ≠ (T b).2.1) (hfin : (T k).2.2.2 = false) {x : Int64} (hn : narrow (ty0 k) (.long x) = .long x) (hfit : fits (ty0 k) (.long x) = true) {o : Option Nat} {ρ : Type} {r : ρ} {K : zw_T → Option ρ} (hX : zg_ok X cc own nL fr lo mc D G A) (hd : decode cc pc = .ok (.putfield idx, 3)) (h : zf_at w (ci + 1) o (fun a => zf_let (zw_sL w (1000 + 64 * ci + k) a 0 x) K) = some r) (kk : ∀ w1, K w1 = some r → zg X D G A Q ck w1 (pc + 3) lv st) : zg X D G A Q ck w pc lv (.long x :: va_rf o :: st) := by
  obtain ⟨a, rfl, ht', h⟩ := zf_at_e h
  exact zg_putx hc hk hci hin hlink ty0 hty hnm hfin (zw_sL w (1000 + 64 * ci + k) a 0 x) hn hfit ht' rfl rfl (fun b hb => zw_sL_ne hb) (zw_fs_L (by rw [zw_nf_of hc]; exact hk) ht) hX hd (kk _ h)
theorem zg_pfiL {X : zg_X} {D : va_G} {G : zw_G} {A : Nat → Prop} {Q : State → Prop} {ck : Nat} {w : zw_T} {pc : Nat} {lv : List (Option Value)} {st : List Value} {cc : ByteArray} {own : String} {nL fr lo mc : Nat} {ci k idx N : Nat} {C : String} {T : u_T} (hc : vwCl[ci]? = some (C, T, N)) (hk : k < N) (hci : ci < 99) (hin : ∀ q ∈ u_ws C T N, q ∈ zT) (hlink : Cond.fieldLink own idx (T k).1 (T k).2.1 (T k).2.2.1 ∈ zT) (ht : zw_ft ci k = 2) (ty0 : Nat → FieldType) (hty : ∀ k, k < N → parseFieldDescriptor (T k).2.2.1 = some (ty0 k)) (hnm : ∀ a, a < N → ∀ b, b < N → a ≠ b → (T a).2.1 ≠ (T b).2.1) (hfin : (T k).2.2.2 = true) (hnm2 : zg_nm X = "<init>") (hdecl : (T k).1 = own) {x : Int64} (hn : narrow (ty0 k) (.long x) = .long x) (hfit : fits (ty0 k) (.long x) = true) {o : Option Nat} {ρ : Type} {r : ρ} {K : zw_T → Option ρ} (hX : zg_ok X cc own nL fr lo mc D G A) (hd : decode cc pc = .ok (.putfield idx, 3)) (h : zf_at w (ci + 1) o (fun a => zf_let (zw_sL w (1000 + 64 * ci + k) a 0 x) K) = some r) (kk : ∀ w1, K w1 = some r → zg X D G A Q ck w1 (pc + 3) lv st) : zg X D G A Q ck w pc lv (.long x :: va_rf o :: st) := by
  obtain ⟨a, rfl, ht', h⟩ := zf_at_e h
  exact zg_pfix hc hk hci hin hlink ty0 hty hnm hfin hnm2 hdecl (zw_sL w (1000 + 64 * ci + k) a 0 x) hn hfit ht' rfl rfl (fun b hb => zw_sL_ne hb) (zw_fs_L (by rw [zw_nf_of hc]; exact hk) ht) hX hd (kk _ h)
theorem zg_iald {X : zg_X} {D : va_G} {G : zw_G} {A : Nat → Prop} {Q : State → Prop} {ck : Nat} {w : zw_T} {pc : Nat} {lv : List (Option Value)} {st : List Value} {cc : ByteArray} {own : String} {nL fr lo mc : Nat} {kd : Nat} (hk1 : 100 ≤ kd) (hk2 : kd < 200) {o : Option Nat} {i : Int32} {ρ : Type} {r : ρ} {K : Nat → Nat → Option ρ} (hX : zg_ok X cc own nL fr lo mc D G A) (hd : decode cc pc = .ok (.iaload, 1)) (h : zf_ix w kd o i K = some r) (kk : ∀ a j, K a j = some r → zg X D G A Q ck w (pc + 1) lv (.int (zw_I w kd a j) :: st)) : zg X D G A Q ck w pc lv (.int i :: va_rf o :: st) := by
  obtain ⟨a, rfl, ht, h0, h5, h⟩ := zf_ix_e h
  obtain ⟨p, l, e, R, s, m, args, below, meth, c⟩ := X
  obtain ⟨hx, hb, hml, ho, hts, hK, hA, hlk, hfr, hR1, hR2, hlo, hZ⟩ := hX
  intro H locs ls h1 h2 h3
  have hv := (h2.2 a (by rw [ht]; omega)).1
  rw [zw_cell_i ht hk1 hk2] at hv
  exact va_iald hx hb hK (zw_one hv) 0 0 rfl rfl (zb_in h0 h5) hd (kk a _ h H locs ls h1 h2 h3)
theorem zg_zald {X : zg_X} {D : va_G} {G : zw_G} {A : Nat → Prop} {Q : State → Prop} {ck : Nat} {w : zw_T} {pc : Nat} {lv : List (Option Value)} {st : List Value} {cc : ByteArray} {own : String} {nL fr lo mc : Nat} {kd : Nat} (hk1 : 200 ≤ kd) (hk2 : kd < 300) {o : Option Nat} {i : Int32} {ρ : Type} {r : ρ} {K : Nat → Nat → Option ρ} (hX : zg_ok X cc own nL fr lo mc D G A) (hd : decode cc pc = .ok (.baload, 1)) (h : zf_ix w kd o i K = some r) (kk : ∀ a j, K a j = some r → zg X D G A Q ck w (pc + 1) lv (.int (zw_I w kd a j) :: st)) : zg X D G A Q ck w pc lv (.int i :: va_rf o :: st) := by
  obtain ⟨a, rfl, ht, h0, h5, h⟩ := zf_ix_e h
  obtain ⟨p, l, e, R, s, m, args, below, meth, c⟩ := X
  obtain ⟨hx, hb, hml, ho, hts, hK, hA, hlk, hfr, hR1, hR2, hlo, hZ⟩ := hX
  intro H locs ls h1 h2 h3
  have hv := (h2.2 a (by rw [ht]; omega)).1
  rw [zw_cell_z ht hk1 hk2] at hv
  exact va_zald hx hb hK (zw_one hv) 0 1 rfl rfl (zb_in h0 h5) hd (kk a _ h H locs ls h1 h2 h3)
theorem zg_lald {X : zg_X} {D : va_G} {G : zw_G} {A : Nat → Prop} {Q : State → Prop} {ck : Nat} {w : zw_T} {pc : Nat} {lv : List (Option Value)} {st : List Value} {cc : ByteArray} {own : String} {nL fr lo mc : Nat} {kd : Nat} (hk1 : 300 ≤ kd) (hk2 : kd < 400) {o : Option Nat} {i : Int32} {ρ : Type} {r : ρ} {K : Nat → Nat → Option ρ} (hX : zg_ok X cc own nL fr lo mc D G A) (hd : decode cc pc = .ok (.laload, 1)) (h : zf_ix w kd o i K = some r) (kk : ∀ a j, K a j = some r → zg X D G A Q ck w (pc + 1) lv (.long (zw_L w kd a j) :: st)) : zg X D G A Q ck w pc lv (.int i :: va_rf o :: st) := by
  obtain ⟨a, rfl, ht, h0, h5, h⟩ := zf_ix_e h
  obtain ⟨p, l, e, R, s, m, args, below, meth, c⟩ := X
  obtain ⟨hx, hb, hml, ho, hts, hK, hA, hlk, hfr, hR1, hR2, hlo, hZ⟩ := hX
  intro H locs ls h1 h2 h3
  have hv := (h2.2 a (by rw [ht]; omega)).1
  rw [zw_cell_l ht hk1 hk2] at hv
  exact va_lald hx hb hK (zw_one hv) 0 2 rfl rfl (zb_in h0 h5) hd (kk a _ h H locs ls h1 h2 h3)
theorem zg_aald {X : zg_X} {D : va_G} {G : zw_G} {A : Nat → Prop} {Q : State → Prop} {ck : Nat} {w : zw_T} {pc : Nat} {lv : List (Option Value)} {st : List Value} {cc : ByteArray} {own : String} {nL fr lo mc : Nat} {ci t0 : Nat} (ht0 : (zw_tys G)[t0]? = some (G.2.2.2 ci, .object (zw_nm ci))) {o : Option Nat} {i : Int32} {ρ : Type} {r : ρ} {K : Nat → Nat → Option ρ} (hX : zg_ok X cc own nL fr lo mc D G A) (hd : decode cc pc = .ok (.aaload, 1)) (h : zf_ix w (400 + ci) o i K = some r) (kk : ∀ a j, K a j = some r → zg X D G A Q ck w (pc + 1) lv (va_rf (zw_R w (400 + ci) a j) :: st)) : zg X D G A Q ck w pc lv (.int i :: va_rf o :: st) := by
  obtain ⟨a, rfl, ht, h0, h5, h⟩ := zf_ix_e h
  obtain ⟨p, l, e, R, s, m, args, below, meth, c⟩ := X
  obtain ⟨hx, hb, hml, ho, hts, hK, hA, hlk, hfr, hR1, hR2, hlo, hZ⟩ := hX
  intro H locs ls h1 h2 h3
  have hv := (h2.2 a (by rw [ht]; omega)).1
  rw [zw_cell_r ht] at hv
  exact va_aldq hx hb hK (zw_one hv) 0 t0 rfl ht0 (zb_in h0 h5) hd (kk a _ h H locs ls h1 h2 h3)
theorem zg_iast {X : zg_X} {D : va_G} {G : zw_G} {A : Nat → Prop} {Q : State → Prop} {ck : Nat} {w : zw_T} {pc : Nat} {lv : List (Option Value)} {st : List Value} {cc : ByteArray} {own : String} {nL fr lo mc : Nat} {kd : Nat} (hk1 : 100 ≤ kd) (hk2 : kd < 200) {o : Option Nat} {i : Int32} {x : Int32} {ρ : Type} {r : ρ} {K : zw_T → Option ρ} (hX : zg_ok X cc own nL fr lo mc D G A) (hd : decode cc pc = .ok (.iastore, 1)) (h : zf_ix w kd o i (fun a j => zf_let (zw_sI w kd a j x) K) = some r) (kk : ∀ w1, K w1 = some r → zg X D G A Q ck w1 (pc + 1) lv st) : zg X D G A Q ck w pc lv (.int x :: .int i :: va_rf o :: st) := by
  obtain ⟨a, rfl, ht, h0, h5, h⟩ := zf_ix_e h
  obtain ⟨p, l, e, R, s, m, args, below, meth, c⟩ := X
  obtain ⟨hx, hb, hml, ho, hts, hK, hA, hlk, hfr, hR1, hR2, hlo, hZ⟩ := hX
  intro H locs ls h1 h2 h3
  have hv := h2.2 a (by rw [ht]; omega)
  have hAa := hv.2
  have hv := hv.1
  rw [zw_cell_i ht hk1 hk2] at hv
  refine W.iast hx hb hv ((hK.2 0 _ rfl).1 _ (fun j => .int (zw_I w kd a j))) (fun q => by cases q) (by show ¬ (i < 0 ∨ (arrV _ _ _).slots.size ≤ _); rw [arrV_size]; exact zb_in h0 h5) rfl rfl hd fun H1 e1 z oq => ?_
  refine kk _ h H1 _ ls h1 (zw_move h2 rfl rfl (fun b hb => zw_sF_ne hb) ?_ z oq) (h3.put z oq hAa)
  rw [zw_cell_i (w := zw_sI w kd a i.toNatClampNeg x) (kd := kd) ht hk1 hk2]
  show H1[a]? = some (vp_cell _ _)
  rw [e1, vp_cell_i, vp_cell_i, arrV_store]
  congr 2
  funext q
  show _ = Value.int (zw_u2 (α := Nat → Int32) _ _ _ _ _ _ q)
  rw [zw_u2_eq]
  by_cases hq : q = i.toNatClampNeg
  · subst hq
    simp [updV, upd]
  · simp [updV, upd, hq, zw_I]
theorem zg_zast {X : zg_X} {D : va_G} {G : zw_G} {A : Nat → Prop} {Q : State → Prop} {ck : Nat} {w : zw_T} {pc : Nat} {lv : List (Option Value)} {st : List Value} {cc : ByteArray} {own : String} {nL fr lo mc : Nat} {kd : Nat} (hk1 : 200 ≤ kd) (hk2 : kd < 300) {o : Option Nat} {i : Int32} {x : Int32} {ρ : Type} {r : ρ} {K : zw_T → Option ρ} (hX : zg_ok X cc own nL fr lo mc D G A) (hd : decode cc pc = .ok (.bastore, 1)) (h : zf_ix w kd o i (fun a j => zf_let (zw_sI w kd a j (vp_nar .boolean x)) K) = some r) (kk : ∀ w1, K w1 = some r → zg X D G A Q ck w1 (pc + 1) lv st) : zg X D G A Q ck w pc lv (.int x :: .int i :: va_rf o :: st) := by
  obtain ⟨a, rfl, ht, h0, h5, h⟩ := zf_ix_e h
  obtain ⟨p, l, e, R, s, m, args, below, meth, c⟩ := X
  obtain ⟨hx, hb, hml, ho, hts, hK, hA, hlk, hfr, hR1, hR2, hlo, hZ⟩ := hX
  intro H locs ls h1 h2 h3
  have hv := h2.2 a (by rw [ht]; omega)
  have hAa := hv.2
  have hv := hv.1
  rw [zw_cell_z ht hk1 hk2] at hv
  refine W.zast hx hb hv ((hK.2 1 _ rfl).1 _ (fun j => .int (zw_I w kd a j))) (fun q => by cases q) (by show ¬ (i < 0 ∨ (arrV _ _ _).slots.size ≤ _); rw [arrV_size]; exact zb_in h0 h5) rfl rfl hd fun H1 e1 z oq => ?_
  refine kk _ h H1 _ ls h1 (zw_move h2 rfl rfl (fun b hb => zw_sF_ne hb) ?_ z oq) (h3.put z oq hAa)
  rw [zw_cell_z (w := zw_sI w kd a i.toNatClampNeg (vp_nar .boolean x)) (kd := kd) ht hk1 hk2]
  show H1[a]? = some (vp_cell _ _)
  rw [e1, vp_cell_i, vp_cell_i, arrV_store]
  congr 2
  funext q
  show _ = Value.int (zw_u2 (α := Nat → Int32) _ _ _ _ _ _ q)
  rw [zw_u2_eq]
  by_cases hq : q = i.toNatClampNeg
  · subst hq
    simp [updV, upd, vp_nar]
    try rfl
  · simp [updV, upd, hq, zw_I]
theorem zg_last {X : zg_X} {D : va_G} {G : zw_G} {A : Nat → Prop} {Q : State → Prop} {ck : Nat} {w : zw_T} {pc : Nat} {lv : List (Option Value)} {st : List Value} {cc : ByteArray} {own : String} {nL fr lo mc : Nat} {kd : Nat} (hk1 : 300 ≤ kd) (hk2 : kd < 400) {o : Option Nat} {i : Int32} {x : Int64} {ρ : Type} {r : ρ} {K : zw_T → Option ρ} (hX : zg_ok X cc own nL fr lo mc D G A) (hd : decode cc pc = .ok (.lastore, 1)) (h : zf_ix w kd o i (fun a j => zf_let (zw_sL w kd a j x) K) = some r) (kk : ∀ w1, K w1 = some r → zg X D G A Q ck w1 (pc + 1) lv st) : zg X D G A Q ck w pc lv (.long x :: .int i :: va_rf o :: st) := by
  obtain ⟨a, rfl, ht, h0, h5, h⟩ := zf_ix_e h
  obtain ⟨p, l, e, R, s, m, args, below, meth, c⟩ := X
  obtain ⟨hx, hb, hml, ho, hts, hK, hA, hlk, hfr, hR1, hR2, hlo, hZ⟩ := hX
  intro H locs ls h1 h2 h3
  have hv := h2.2 a (by rw [ht]; omega)
  have hAa := hv.2
  have hv := hv.1
  rw [zw_cell_l ht hk1 hk2] at hv
  refine W.last hx hb hv ((hK.2 2 _ rfl).1 _ (fun j => .long (zw_L w kd a j))) (fun q => by cases q) (by show ¬ (i < 0 ∨ (arrV _ _ _).slots.size ≤ _); rw [arrV_size]; exact zb_in h0 h5) rfl rfl hd fun H1 e1 z oq => ?_
  refine kk _ h H1 _ ls h1 (zw_move h2 rfl rfl (fun b hb => zw_sL_ne hb) ?_ z oq) (h3.put z oq hAa)
  rw [zw_cell_l (w := zw_sL w kd a i.toNatClampNeg x) (kd := kd) ht hk1 hk2]
  show H1[a]? = some (vp_cell _ _)
  rw [e1, vp_cell_l, vp_cell_l, arrV_store]
  congr 2
  funext q
  show _ = Value.long (zw_u2 (α := Nat → Int64) _ _ _ _ _ _ q)
  rw [zw_u2_eq]
  by_cases hq : q = i.toNatClampNeg
  · subst hq
    simp [updV, vp_updL]
  · simp [updV, vp_updL, hq, zw_L]
theorem zg_aast {X : zg_X} {D : va_G} {G : zw_G} {A : Nat → Prop} {Q : State → Prop} {ck : Nat} {w : zw_T} {pc : Nat} {lv : List (Option Value)} {st : List Value} {cc : ByteArray} {own : String} {nL fr lo mc : Nat} {ci t0 kd : Nat} {rr : vw_C} (hc : vwCl[ci]? = some rr) (hci : ci < 99) (hrr : rr.1 = zw_nm ci) (ht0 : (zw_tys G)[t0]? = some (G.2.2.2 ci, .object (zw_nm ci))) (hkd : kd = 400 + ci) {o : Option Nat} {i : Int32} {b : Nat} {ρ : Type} {r : ρ} {K : zw_T → Option ρ} (hX : zg_ok X cc own nL fr lo mc D G A) (hd : decode cc pc = .ok (.aastore, 1)) (h : zf_at w (ci + 1) (some b) (fun b => zf_ix w kd o i (fun a j => zf_let (zw_sR w kd a j (some b)) K)) = some r) (kk : ∀ w1, K w1 = some r → zg X D G A Q ck w1 (pc + 1) lv st) : zg X D G A Q ck w pc lv (va_rf (some b) :: .int i :: va_rf o :: st) := by
  subst hkd
  obtain ⟨b', hb', htb, h⟩ := zf_at_e h
  cases hb'
  obtain ⟨a, rfl, ht, h0, h5, h⟩ := zf_ix_e h
  obtain ⟨p, l, e, R, s, m, args, below, meth, c⟩ := X
  obtain ⟨hx, hb, hml, ho, hts, hK, hA, hlk, hfr, hR1, hR2, hlo, hZ⟩ := hX
  intro H locs ls h1 h2 h3
  have hv := h2.2 a (by rw [ht]; omega)
  have hAa := hv.2
  have hv := hv.1
  rw [zw_cell_r ht] at hv
  have hvb := (h2.2 b (by rw [htb]; omega)).1
  rw [zw_cell_o htb hci] at hvb
  obtain ⟨r', hr', cellV, g1, g2, g3, -⟩ := hvb
  have hcls := (hK.1 ci rr hc).2
  obtain ⟨kA, comp, k1, k2, k3, -⟩ := (hK.2 t0 _ ht0).2
  rw [hrr] at hcls
  have hcomp : comp = D.1 ci := Option.some.inj (k3.symm.trans hcls.1)
  subst hcomp
  obtain ⟨kC, hkC, -⟩ := hcls.2
  refine W.aast hx hb hv (fun q h => by cases h) (fun h => by cases h) k1 k2 rfl hkC ⟨h0, by show _ < (arrV _ _ _).slots.size; rw [arrV_size]; exact h5⟩ g1 (fun q h => by rw [g3] at h; cases h) (by rw [g2]; exact hkC) (by rw [g2]; exact va_assign hcls) rfl rfl hd fun H1 e1 z oq => ?_
  refine kk _ h H1 _ ls h1 (zw_move h2 rfl rfl (fun b hb => zw_sR_ne hb) ?_ z oq) (h3.put z oq hAa)
  rw [zw_cell_r (w := zw_sR w (400 + ci) a i.toNatClampNeg (some b)) (ci := ci) ht]
  show H1[a]? = some (vp_cell _ _)
  rw [e1, vp_cell_q, vp_cell_q, arrV_store]
  congr 2
  funext q
  show _ = va_rf (zw_u2 (α := Nat → Option Nat) _ _ _ _ _ _ q)
  rw [zw_u2_eq]
  by_cases hq : q = i.toNatClampNeg
  · subst hq
    simp [updV, va_up, va_rf]
  · simp [updV, va_up, hq, zw_R]
theorem zg_leni {X : zg_X} {D : va_G} {G : zw_G} {A : Nat → Prop} {Q : State → Prop} {ck : Nat} {w : zw_T} {pc : Nat} {lv : List (Option Value)} {st : List Value} {cc : ByteArray} {own : String} {nL fr lo mc : Nat} {kd : Nat} (hk1 : 100 ≤ kd) (hk2 : kd < 200) {o : Option Nat} {ρ : Type} {r : ρ} {K : Nat → Option ρ} (hX : zg_ok X cc own nL fr lo mc D G A) (hd : decode cc pc = .ok (.arraylength, 1)) (h : zf_at w kd o K = some r) (kk : ∀ a, K a = some r → zg X D G A Q ck w (pc + 1) lv (.int (nI (zw_ty w a).2) :: st)) : zg X D G A Q ck w pc lv (va_rf o :: st) := by
  obtain ⟨a, rfl, ht, h⟩ := zf_at_e h
  obtain ⟨p, l, e, R, s, m, args, below, meth, c⟩ := X
  obtain ⟨hx, hb, hml, ho, hts, hK, hA, hlk, hfr, hR1, hR2, hlo, hZ⟩ := hX
  intro H locs ls h1 h2 h3
  have hv := (h2.2 a (by rw [ht]; omega)).1
  rw [zw_cell_i ht hk1 hk2] at hv
  exact va_alen hx hb hK (zw_one hv) 0 0 rfl rfl (v := nI (zw_ty w a).2) rfl hd (kk a h H locs ls h1 h2 h3)
def zs_T (X : zg_X) (A : Nat → Prop) (t : Nat) : Prop := match X with
  | (_, _, _, _, s, _, _, _, _, _) => va_T .int t 32 (fun j => .int (zs_tr j)) A s s.heap
theorem zg_gets {X : zg_X} {D : va_G} {G : zw_G} {A : Nat → Prop} {Q : State → Prop} {ck : Nat} {w : zw_T} {pc : Nat} {lv : List (Option Value)} {st : List Value} {cc : ByteArray} {own : String} {nL fr lo mc : Nat} {idx : Nat} (hlink : Cond.fieldLink own idx "WakingPagers$Repairer" "TRACES" "[I" ∈ zT) (hX : zg_ok X cc own nL fr lo mc D G A) (hd : decode cc pc = .ok (.getstatic idx, 3)) (kk : ∀ t, zs_T X A t → zg X D G A Q ck w (pc + 3) lv (.ref t :: st)) : zg X D G A Q ck w pc lv st := by
  obtain ⟨p, l, e, R, s, m, args, below, meth, c⟩ := X
  obtain ⟨hx, hb, hml, ho, hts, hK, hA, hlk, hfr, hR1, hR2, hlo, hZ⟩ := hX
  intro H locs ls h1 h2 h3
  obtain ⟨-, t, z1, z2⟩ := hZ
  exact va_gets hx hb z1 h3 ho (hts _ hlink) (fun _ q => q) hd (kk t z2 H locs ls h1 h2 h3)
theorem zg_tald {X : zg_X} {D : va_G} {G : zw_G} {A : Nat → Prop} {Q : State → Prop} {ck : Nat} {w : zw_T} {pc : Nat} {lv : List (Option Value)} {st : List Value} {cc : ByteArray} {own : String} {nL fr lo mc : Nat} {t : Nat} (ht : zs_T X A t) {i : Int32} {ρ : Type} {r : ρ} {K : Int32 → Option ρ} (hX : zg_ok X cc own nL fr lo mc D G A) (hd : decode cc pc = .ok (.iaload, 1)) (h : zf_tr i K = some r) (kk : ∀ v, K v = some r → zg X D G A Q ck w (pc + 1) lv (.int v :: st)) : zg X D G A Q ck w pc lv (.int i :: .ref t :: st) := by
  unfold zf_tr at h
  by_cases hq : ¬ i < 0 ∧ i.toNatClampNeg < 32
  · rw [if_pos hq] at h
    obtain ⟨p, l, e, R, s, m, args, below, meth, c⟩ := X
    obtain ⟨hx, hb, hml, ho, hts, hK, hA, hlk, hfr, hR1, hR2, hlo, hZ⟩ := hX
    intro H locs ls h1 h2 h3
    exact va_ti hx hb ht h3 (zb_in hq.1 hq.2) rfl hd (kk _ h H locs ls h1 h2 h3)
  · rw [if_neg hq] at h
    cases h
def zw_dv (t : Nat) : Value := match t with
  | 0 => .int 0
  | 1 => .null
  | _ => .long 0
theorem zw_new_fs {w : zw_T} {ci kd n N : Nat} (hN : zw_nf ci = N) {j : Nat} (hj : j < N) : vp_V (zw_fs (zw_new w kd n) ci (zw_n w)) j = zw_dv (zw_ft ci j) := by
  unfold vp_V
  rw [List.getD_eq_getElem?_getD, zw_fs_at (by rw [hN]; exact hj)]
  unfold zw_fv zw_dv
  have e2 : ∀ k, zw_I (zw_new w kd n) k (zw_n w) = fun _ => 0 := fun k => if_pos rfl
  have e3 : ∀ k, zw_R (zw_new w kd n) k (zw_n w) = fun _ => none := fun k => if_pos rfl
  have e4 : ∀ k, zw_L (zw_new w kd n) k (zw_n w) = fun _ => 0 := fun k => if_pos rfl
  rw [e2, e3, e4]
  rfl
theorem zw_new_ty {w : zw_T} {kd n : Nat} : zw_ty (zw_new w kd n) (zw_n w) = (kd, n) := va_up_self _ _ _
theorem zg_new {X : zg_X} {D : va_G} {G : zw_G} {A : Nat → Prop} {Q : State → Prop} {ck : Nat} {w : zw_T} {pc : Nat} {lv : List (Option Value)} {st : List Value} {cc : ByteArray} {own : String} {nL fr lo mc : Nat} {ci idx N : Nat} {C : String} {T : u_T} (hc : vwCl[ci]? = some (C, T, N)) (hci : ci < 99) (hin : ∀ q ∈ u_ws C T N, q ∈ zT) (ty0 : Nat → FieldType) (hty : ∀ k, k < N → parseFieldDescriptor (T k).2.2.1 = some (ty0 k)) (hdf : ∀ k, k < N → defaultValue (ty0 k) = zw_dv (zw_ft ci k)) (hcl : Cond.classLink own idx C ∈ zT) (hinst : Cond.instantiable C N ∈ zT) (hini : Cond.initialized C ∈ zT) (hN : N ≤ 4096) {ρ : Type} {r : ρ} {K : zw_T → Option ρ} (hcell : ck + 1 ≤ mc) (hX : zg_ok X cc own nL fr lo mc D G A) (hd : decode cc pc = .ok (.new idx, 3)) (h : zf_let (zw_new w (ci + 1) 0) K = some r) (kk : ∀ w1, K w1 = some r → zg X D G A Q (ck + 1) w1 (pc + 3) lv (va_rf (some (zw_n w)) :: st)) : zg X D G A Q ck w pc lv st := by
  obtain ⟨p, l, e, R, s, m, args, below, meth, c⟩ := X
  obtain ⟨hx, hb, hml, ho, hts, hK, hA, hlk, hfr, hR1, hR2, hlo, hZ⟩ := hX
  intro H locs ls h1 h2 h3
  have hKn := hK.1 ci _ hc
  refine W.newcK hx hb ho (hts _ hcl) (hts _ hinst) (hts _ hini) rfl hd (by rw [hR1]; exact hcell) (by rw [hR2]; omega) hKn.2.1 rfl fun H1 kC hkC e1 z1 o1 => ?_
  refine W.widen (k := ck + 1) (n := 4096 * (ck + 1)) (Nat.le_refl _) (by omega) ?_
  have hz : H.size = zw_n w := h2.1
  rw [hz] at e1 ⊢
  refine kk _ h H1 locs ls h1 (zw_born h2 rfl ?_ (hA _ (by rw [← hz]; exact h3.1)) z1 o1) ⟨Nat.le_trans h3.1 (by omega), fun q g1 g2 => (o1 q (Nat.lt_of_lt_of_le g1 h3.1)).trans (h3.2.1 q g1 g2), h3.2.2⟩
  rw [zw_cell_o (ci := ci) (by rw [zw_new_ty]) hci]
  exact ⟨_, hc, (u_born ty0 hts hin hKn hkC e1 hty).to (fun j hj => (hdf j hj).trans (zw_new_fs (zw_nf_of hc) hj).symm)⟩
theorem zg_newi {X : zg_X} {D : va_G} {G : zw_G} {A : Nat → Prop} {Q : State → Prop} {ck : Nat} {w : zw_T} {pc : Nat} {lv : List (Option Value)} {st : List Value} {cc : ByteArray} {own : String} {nL fr lo mc : Nat} {kd : Nat} (hk1 : 100 ≤ kd) (hk2 : kd < 200) (harr : Cond.arrayClass .int ∈ zT) {n : Int32} {ρ : Type} {r : ρ} {K : zw_T → Option ρ} (hcell : ck + 1 ≤ mc) (hX : zg_ok X cc own nL fr lo mc D G A) (hd : decode cc pc = .ok (.newarray .int, 2)) (h : zf_na w kd n K = some r) (kk : ∀ w1, K w1 = some r → zg X D G A Q (ck + 1) w1 (pc + 2) lv (va_rf (some (zw_n w)) :: st)) : zg X D G A Q ck w pc lv (.int n :: st) := by
  unfold zf_na at h
  by_cases hq : ¬ n < 0 ∧ n.toNatClampNeg ≤ 4096
  · rw [if_pos hq] at h
    obtain ⟨p, l, e, R, s, m, args, below, meth, c⟩ := X
    obtain ⟨hx, hb, hml, ho, hts, hK, hA, hlk, hfr, hR1, hR2, hlo, hZ⟩ := hX
    intro H locs ls h1 h2 h3
    have e8 : componentBytes .int ≤ 8 := by decide
    have e9 := Nat.mul_le_mul hq.2 e8
    refine va_newaK (atype := .int) hx hb (hts _ harr) rfl hd rfl hq.1 rfl (Nat.le_trans e9 (by decide)) (by rw [hR1]; exact hcell) (by rw [hR2]; omega) rfl fun H1 cA e1 z1 o1 hAr hNm => ?_
    refine W.widen (k := ck + 1) (n := 4096 * (ck + 1)) (Nat.le_refl _) (by omega) ?_
    have hz : H.size = zw_n w := h2.1
    have hcA : cA = G.1 := Option.some.inj (hNm.symm.trans (hK.2 0 (G.1, .int) rfl).2)
    subst hcA
    rw [hz] at e1 ⊢
    refine kk _ h H1 locs ls h1 (zw_born h2 rfl ?_ (hA _ (by rw [← hz]; exact h3.1)) z1 o1) ⟨Nat.le_trans h3.1 (by omega), fun q g1 g2 => (o1 q (Nat.lt_of_lt_of_le g1 h3.1)).trans (h3.2.1 q g1 g2), h3.2.2⟩
    rw [zw_cell_i (kd := kd) (by rw [zw_new_ty]) hk1 hk2]
    have e2 : zw_I (zw_new w kd n.toNatClampNeg) kd (zw_n w) = fun _ => 0 := if_pos rfl
    show H1[zw_n w]? = some (vp_cell _ _)
    rw [zw_new_ty, e2, vp_cell_i, e1]
    rfl
  · rw [if_neg hq] at h
    cases h
theorem zg_newz {X : zg_X} {D : va_G} {G : zw_G} {A : Nat → Prop} {Q : State → Prop} {ck : Nat} {w : zw_T} {pc : Nat} {lv : List (Option Value)} {st : List Value} {cc : ByteArray} {own : String} {nL fr lo mc : Nat} {kd : Nat} (hk1 : 200 ≤ kd) (hk2 : kd < 300) (harr : Cond.arrayClass .boolean ∈ zT) {n : Int32} {ρ : Type} {r : ρ} {K : zw_T → Option ρ} (hcell : ck + 1 ≤ mc) (hX : zg_ok X cc own nL fr lo mc D G A) (hd : decode cc pc = .ok (.newarray .boolean, 2)) (h : zf_na w kd n K = some r) (kk : ∀ w1, K w1 = some r → zg X D G A Q (ck + 1) w1 (pc + 2) lv (va_rf (some (zw_n w)) :: st)) : zg X D G A Q ck w pc lv (.int n :: st) := by
  unfold zf_na at h
  by_cases hq : ¬ n < 0 ∧ n.toNatClampNeg ≤ 4096
  · rw [if_pos hq] at h
    obtain ⟨p, l, e, R, s, m, args, below, meth, c⟩ := X
    obtain ⟨hx, hb, hml, ho, hts, hK, hA, hlk, hfr, hR1, hR2, hlo, hZ⟩ := hX
    intro H locs ls h1 h2 h3
    have e8 : componentBytes .boolean ≤ 8 := by decide
    have e9 := Nat.mul_le_mul hq.2 e8
    refine va_newaK (atype := .boolean) hx hb (hts _ harr) rfl hd rfl hq.1 rfl (Nat.le_trans e9 (by decide)) (by rw [hR1]; exact hcell) (by rw [hR2]; omega) rfl fun H1 cA e1 z1 o1 hAr hNm => ?_
    refine W.widen (k := ck + 1) (n := 4096 * (ck + 1)) (Nat.le_refl _) (by omega) ?_
    have hz : H.size = zw_n w := h2.1
    have hcA : cA = G.2.1 := Option.some.inj (hNm.symm.trans (hK.2 1 (G.2.1, .boolean) rfl).2)
    subst hcA
    rw [hz] at e1 ⊢
    refine kk _ h H1 locs ls h1 (zw_born h2 rfl ?_ (hA _ (by rw [← hz]; exact h3.1)) z1 o1) ⟨Nat.le_trans h3.1 (by omega), fun q g1 g2 => (o1 q (Nat.lt_of_lt_of_le g1 h3.1)).trans (h3.2.1 q g1 g2), h3.2.2⟩
    rw [zw_cell_z (kd := kd) (by rw [zw_new_ty]) hk1 hk2]
    have e2 : zw_I (zw_new w kd n.toNatClampNeg) kd (zw_n w) = fun _ => 0 := if_pos rfl
    show H1[zw_n w]? = some (vp_cell _ _)
    rw [zw_new_ty, e2, vp_cell_i, e1]
    rfl
  · rw [if_neg hq] at h
    cases h
theorem zg_newl {X : zg_X} {D : va_G} {G : zw_G} {A : Nat → Prop} {Q : State → Prop} {ck : Nat} {w : zw_T} {pc : Nat} {lv : List (Option Value)} {st : List Value} {cc : ByteArray} {own : String} {nL fr lo mc : Nat} {kd : Nat} (hk1 : 300 ≤ kd) (hk2 : kd < 400) (harr : Cond.arrayClass .long ∈ zT) {n : Int32} {ρ : Type} {r : ρ} {K : zw_T → Option ρ} (hcell : ck + 1 ≤ mc) (hX : zg_ok X cc own nL fr lo mc D G A) (hd : decode cc pc = .ok (.newarray .long, 2)) (h : zf_na w kd n K = some r) (kk : ∀ w1, K w1 = some r → zg X D G A Q (ck + 1) w1 (pc + 2) lv (va_rf (some (zw_n w)) :: st)) : zg X D G A Q ck w pc lv (.int n :: st) := by
  unfold zf_na at h
  by_cases hq : ¬ n < 0 ∧ n.toNatClampNeg ≤ 4096
  · rw [if_pos hq] at h
    obtain ⟨p, l, e, R, s, m, args, below, meth, c⟩ := X
    obtain ⟨hx, hb, hml, ho, hts, hK, hA, hlk, hfr, hR1, hR2, hlo, hZ⟩ := hX
    intro H locs ls h1 h2 h3
    have e8 : componentBytes .long ≤ 8 := by decide
    have e9 := Nat.mul_le_mul hq.2 e8
    refine va_newaK (atype := .long) hx hb (hts _ harr) rfl hd rfl hq.1 rfl (Nat.le_trans e9 (by decide)) (by rw [hR1]; exact hcell) (by rw [hR2]; omega) rfl fun H1 cA e1 z1 o1 hAr hNm => ?_
    refine W.widen (k := ck + 1) (n := 4096 * (ck + 1)) (Nat.le_refl _) (by omega) ?_
    have hz : H.size = zw_n w := h2.1
    have hcA : cA = G.2.2.1 := Option.some.inj (hNm.symm.trans (hK.2 2 (G.2.2.1, .long) rfl).2)
    subst hcA
    rw [hz] at e1 ⊢
    refine kk _ h H1 locs ls h1 (zw_born h2 rfl ?_ (hA _ (by rw [← hz]; exact h3.1)) z1 o1) ⟨Nat.le_trans h3.1 (by omega), fun q g1 g2 => (o1 q (Nat.lt_of_lt_of_le g1 h3.1)).trans (h3.2.1 q g1 g2), h3.2.2⟩
    rw [zw_cell_l (kd := kd) (by rw [zw_new_ty]) hk1 hk2]
    have e2 : zw_L (zw_new w kd n.toNatClampNeg) kd (zw_n w) = fun _ => 0 := if_pos rfl
    show H1[zw_n w]? = some (vp_cell _ _)
    rw [zw_new_ty, e2, vp_cell_l, e1]
    rfl
  · rw [if_neg hq] at h
    cases h
theorem zg_newr {X : zg_X} {D : va_G} {G : zw_G} {A : Nat → Prop} {Q : State → Prop} {ck : Nat} {w : zw_T} {pc : Nat} {lv : List (Option Value)} {st : List Value} {cc : ByteArray} {own : String} {nL fr lo mc : Nat} {ci idx t0 : Nat} (ht0 : (zw_tys G)[t0]? = some (G.2.2.2 ci, .object (zw_nm ci))) (hcl : Cond.classLink own idx (zw_nm ci) ∈ zT) (hov : zw_nm ci ∈ za_L) {n : Int32} {ρ : Type} {r : ρ} {K : zw_T → Option ρ} (hcell : ck + 1 ≤ mc) (hX : zg_ok X cc own nL fr lo mc D G A) (hd : decode cc pc = .ok (.anewarray idx, 3)) (h : zf_na w (400 + ci) n K = some r) (kk : ∀ w1, K w1 = some r → zg X D G A Q (ck + 1) w1 (pc + 3) lv (va_rf (some (zw_n w)) :: st)) : zg X D G A Q ck w pc lv (.int n :: st) := by
  unfold zf_na at h
  by_cases hq : ¬ n < 0 ∧ n.toNatClampNeg ≤ 4096
  · rw [if_pos hq] at h
    obtain ⟨p, l, e, R, s, m, args, below, meth, c⟩ := X
    obtain ⟨hx, hb, hml, ho, hts, hK, hA, hlk, hfr, hR1, hR2, hlo, hZ⟩ := hX
    intro H locs ls h1 h2 h3
    refine W.anew hx hb ho (hts _ hcl) (va_AO.use (hZ.1.2.1 _ hov)) rfl hd rfl hq.1 (by omega) (by rw [hR1]; exact hcell) (by rw [hR2]; omega) fun cA kA comp f1 f2 f3 f4 => ?_
    refine W.widen (k := ck + 1) (n := 4096 * (ck + 1)) (Nat.le_refl _) (by omega) ?_
    have hz : H.size = zw_n w := h2.1
    obtain ⟨kA', comp', -, -, -, k4⟩ := (hK.2 t0 _ ht0).2
    have hcA : cA = G.2.2.2 ci := Option.some.inj (f1.symm.trans k4)
    subst hcA
    generalize hH1 : H.push ({ cls := G.2.2.2 ci, slots := Array.replicate n.toNatClampNeg .null, vm := .none } : Cell) = H1
    have z1 : H1.size = H.size + 1 := by rw [← hH1, Array.size_push]
    have e1 : H1[H.size]? = some (arrV (G.2.2.2 ci) n.toNatClampNeg (fun _ => .null)) := by rw [← hH1, Array.getElem?_push_size, ← arrV_new]
    have o1 : ∀ q : Nat, q < H.size → H1[q]? = H[q]? := fun q hq => by rw [← hH1, Array.getElem?_push, if_neg (Nat.ne_of_lt hq)]
    rw [hz] at e1 ⊢
    refine kk _ h H1 locs ls h1 (zw_born h2 rfl ?_ (hA _ (by rw [← hz]; exact h3.1)) z1 o1) ⟨Nat.le_trans h3.1 (by omega), fun q g1 g2 => (o1 q (Nat.lt_of_lt_of_le g1 h3.1)).trans (h3.2.1 q g1 g2), h3.2.2⟩
    rw [zw_cell_r (ci := ci) (by rw [zw_new_ty])]
    have e2 : zw_R (zw_new w (400 + ci) n.toNatClampNeg) (400 + ci) (zw_n w) = fun _ => none := if_pos rfl
    show H1[zw_n w]? = some (vp_cell _ _)
    rw [zw_new_ty, e2, vp_cell_q, e1]
    rfl
  · rw [if_neg hq] at h
    cases h
theorem zg_callS {X : zg_X} {D : va_G} {G : zw_G} {A : Nat → Prop} {Q : State → Prop} {ck : Nat} {w : zw_T} {pc : Nat} {lv : List (Option Value)} {st : List Value} {cc : ByteArray} {own : String} {nL fr lo mc : Nat} {y : MethodName} {ws ws' : List Cond} {bytes : ByteArray} {maxL idx fry loy mcy : Nat} {ret : Option FieldType} {res : Option Value × zw_T} {st0 : List Value} (As : List Value) (hM : ∀ l : Launch, zc l y ws fry loy mcy D G A As w res) (hG : GoodIn zT (va_wsS own idx y ws)) (hw : ws = Cond.code y bytes maxL ret :: ws') (hd0 : y.cls ≠ "java/lang/invoke/MethodHandle" ∧ y.cls ≠ "java/lang/invoke/VarHandle" ∧ (parseMethodDescriptor y.desc).map (fun d => d.parameters.length) = some As.length) (hR : fry + 1 ≤ fr ∧ 8 + (maxL + 11) + loy ≤ lo) (hcell : ck + mcy ≤ mc) (hcat : (st.map fun v => v.category).sum ≤ 8) (hll : lv.length = nL) (hst : st0 = As.reverse ++ st) (hX : zg_ok X cc own nL fr lo mc D G A) (hd : decode cc pc = .ok (.invokestatic idx, 3)) (kk : zg X D G A Q (ck + mcy) res.2 (pc + 3) lv (res.1.toList ++ st)) : zg X D G A Q ck w pc lv st0 := by
  obtain ⟨p, l, e, R, s, m, args, below, meth, c⟩ := X
  obtain ⟨hx, hb, hml, ho, hts, hK, hA, hlk, hfr, hR1, hR2, hlo, hZ⟩ := hX
  intro H locs ls h1 h2 h3
  subst hst
  exact zg_back (va_runS (As := As) (rest := st) ⟨hx, hb, hml, ho, hts⟩ (hM l) (va_cwS As.length hts hG hw rfl rfl hd0 ⟨by rw [hfr]; exact hR.1, by rw [hlo]; exact hR.2⟩) ⟨zp_blind, zp_at hK hA hZ h2 h3⟩ rfl rfl (by show ls.size = nL; rw [h1.1]; exact hll) rfl (lv_room hcat) hd ⟨by rw [hR1]; exact hcell, by rw [hR2, ← Nat.mul_add]; exact Nat.mul_le_mul_left 4096 hcell⟩) h3 (fun H1 locs1 g2 g3 => kk H1 locs1 ls h1 g2 g3)
theorem zg_callSN {X : zg_X} {D : va_G} {G : zw_G} {A : Nat → Prop} {Q : State → Prop} {ck : Nat} {w : zw_T} {pc : Nat} {lv : List (Option Value)} {st : List Value} {cc : ByteArray} {own : String} {nL fr lo mc : Nat} {y : MethodName} {ws ws' : List Cond} {bytes : ByteArray} {maxL idx fry loy mcy : Nat} {ret : Option FieldType} {res : Option Value × zw_T} {st0 : List Value} {host : String} (As : List Value) (hM : ∀ l : Launch, zc l y ws fry loy mcy D G A As w res) (hG : GoodIn zT ws) (hln : (own, idx, y, host) ∈ zn_L) (hstat : Cond.static y ∈ zT) (hini : Cond.initialized y.cls ∈ zT) (hw : ws = Cond.code y bytes maxL ret :: ws') (hd0 : y.cls ≠ "java/lang/invoke/MethodHandle" ∧ y.cls ≠ "java/lang/invoke/VarHandle" ∧ (parseMethodDescriptor y.desc).map (fun d => d.parameters.length) = some As.length) (hR : fry + 1 ≤ fr ∧ 8 + (maxL + 11) + loy ≤ lo) (hcell : ck + mcy ≤ mc) (hcat : (st.map fun v => v.category).sum ≤ 8) (hll : lv.length = nL) (hst : st0 = As.reverse ++ st) (hX : zg_ok X cc own nL fr lo mc D G A) (hd : decode cc pc = .ok (.invokestatic idx, 3)) (kk : zg X D G A Q (ck + mcy) res.2 (pc + 3) lv (res.1.toList ++ st)) : zg X D G A Q ck w pc lv st0 := by
  obtain ⟨p, l, e, R, s, m, args, below, meth, c⟩ := X
  obtain ⟨hx, hb, hml, ho, hts, hK, hA, hlk, hfr, hR1, hR2, hlo, hZ⟩ := hX
  intro H locs ls h1 h2 h3
  subst hst
  exact zg_back (va_runSN (As := As) (rest := st) ⟨hx, hb, hml, ho, hts⟩ (hM l) ⟨va_cnB As.length hts hG hw rfl rfl (hZ.1.1 _ hln) (hts _ hini) hd0 ⟨by rw [hfr]; exact hR.1, by rw [hlo]; exact hR.2⟩, hts _ hstat, trivial⟩ ⟨zp_blind, zp_at hK hA hZ h2 h3⟩ rfl rfl (by show ls.size = nL; rw [h1.1]; exact hll) rfl (lv_room hcat) hd ⟨by rw [hR1]; exact hcell, by rw [hR2, ← Nat.mul_add]; exact Nat.mul_le_mul_left 4096 hcell⟩) h3 (fun H1 locs1 g2 g3 => kk H1 locs1 ls h1 g2 g3)
theorem zg_callV {X : zg_X} {D : va_G} {G : zw_G} {A : Nat → Prop} {Q : State → Prop} {ck : Nat} {w : zw_T} {pc : Nat} {lv : List (Option Value)} {st : List Value} {cc : ByteArray} {own : String} {nL fr lo mc : Nat} {y : MethodName} {ws ws' : List Cond} {bytes : ByteArray} {maxL idx fry loy mcy : Nat} {ret : Option FieldType} {res : Option Value × zw_T} {st0 : List Value} {ci N a : Nat} {T : u_T} (hc : vwCl[ci]? = some (y.cls, T, N)) (hci : ci < 99) {o : Option Nat} (hoa : o = some a) (ha : (zw_ty w a).1 = ci + 1) (As : List Value) (hM : ∀ l : Launch, zc l y ws fry loy mcy D G A (.ref a :: As) w res) (hG : GoodIn zT (wsV own idx y.cls y ws)) (hw : ws = Cond.code y bytes maxL ret :: ws') (hd0 : y.cls ≠ "java/lang/invoke/MethodHandle" ∧ y.cls ≠ "java/lang/invoke/VarHandle" ∧ (parseMethodDescriptor y.desc).map (fun d => d.parameters.length) = some As.length) (hR : fry + 1 ≤ fr ∧ 8 + (maxL + 11) + loy ≤ lo) (hcell : ck + mcy ≤ mc) (hcat : (st.map fun v => v.category).sum ≤ 8) (hll : lv.length = nL) (hst : st0 = As.reverse ++ va_rf o :: st) (hX : zg_ok X cc own nL fr lo mc D G A) (hd : decode cc pc = .ok (.invokevirtual idx, 3)) (kk : zg X D G A Q (ck + mcy) res.2 (pc + 3) lv (res.1.toList ++ st)) : zg X D G A Q ck w pc lv st0 := by
  obtain ⟨p, l, e, R, s, m, args, below, meth, c⟩ := X
  obtain ⟨hx, hb, hml, ho, hts, hK, hA, hlk, hfr, hR1, hR2, hlo, hZ⟩ := hX
  intro H locs ls h1 h2 h3
  subst hst
  subst hoa
  have hv := (h2.2 a (by rw [ha]; omega)).1
  rw [zw_cell_o ha hci] at hv
  exact zg_back (va_runV (As := As) (rest := st) ⟨hx, hb, hml, ho, hts⟩ (hM l) (cwV As.length hts hG hw rfl rfl ⟨rfl, hd0⟩ ⟨by rw [hfr]; exact hR.1, by rw [hlo]; exact hR.2⟩) ⟨zp_blind, va_recv (q0 := 0) hK (zw_one hv) hc rfl, zp_at hK hA hZ h2 h3⟩ rfl rfl (by show ls.size = nL; rw [h1.1]; exact hll) rfl (lv_room hcat) hd ⟨by rw [hR1]; exact hcell, by rw [hR2, ← Nat.mul_add]; exact Nat.mul_le_mul_left 4096 hcell⟩) h3 (fun H1 locs1 g2 g3 => kk H1 locs1 ls h1 g2 g3)
theorem zg_callI {X : zg_X} {D : va_G} {G : zw_G} {A : Nat → Prop} {Q : State → Prop} {ck : Nat} {w : zw_T} {pc : Nat} {lv : List (Option Value)} {st : List Value} {cc : ByteArray} {own : String} {nL fr lo mc : Nat} {y : MethodName} {ws ws' : List Cond} {bytes : ByteArray} {maxL idx fry loy mcy : Nat} {ret : Option FieldType} {res : Option Value × zw_T} {st0 : List Value} {a : Nat} (As : List Value) (hM : ∀ l : Launch, zc l y ws fry loy mcy D G A (.ref a :: As) w res) (hret : ret = none) (hy1 : y.name = "<init>") (hG : GoodIn zT ws) (hli : Cond.methodLink own idx y ∈ zT) (hini : Cond.initialized y.cls ∈ zT) (hinst : Cond.instanceMethod y ∈ zT) (hw : ws = Cond.code y bytes maxL ret :: ws') (hd0 : y.cls ≠ "java/lang/invoke/MethodHandle" ∧ y.cls ≠ "java/lang/invoke/VarHandle" ∧ (parseMethodDescriptor y.desc).map (fun d => d.parameters.length) = some As.length) (hR : fry + 1 ≤ fr ∧ 8 + (maxL + 11) + loy ≤ lo) (hcell : ck + mcy ≤ mc) (hcat : (st.map fun v => v.category).sum ≤ 8) (hll : lv.length = nL) (hst : st0 = As.reverse ++ .ref a :: st) (hX : zg_ok X cc own nL fr lo mc D G A) (hd : decode cc pc = .ok (.invokespecial idx, 3)) (kk : zg X D G A Q (ck + mcy) res.2 (pc + 3) lv (res.1.toList ++ st)) : zg X D G A Q ck w pc lv st0 := by
  obtain ⟨p, l, e, R, s, m, args, below, meth, c⟩ := X
  obtain ⟨hx, hb, hml, ho, hts, hK, hA, hlk, hfr, hR1, hR2, hlo, hZ⟩ := hX
  intro H locs ls h1 h2 h3
  subst hst
  subst hret
  exact zg_back (va_runI (As := As) (rest := st) ⟨hx, hb, hml, ho, hts⟩ (hM l) ⟨callB_of As.length hts hG hw rfl rfl (hts _ hini) (hts _ hli) hd0 ⟨by rw [hfr]; exact hR.1, by rw [hlo]; exact hR.2⟩, hy1, hts _ hinst⟩ ⟨zp_blind, zp_at hK hA hZ h2 h3⟩ rfl rfl (by show ls.size = nL; rw [h1.1]; exact hll) rfl (lv_room hcat) hd ⟨by rw [hR1]; exact hcell, by rw [hR2, ← Nat.mul_add]; exact Nat.mul_le_mul_left 4096 hcell⟩) h3 (fun H1 locs1 g2 g3 => kk H1 locs1 ls h1 g2 g3)
theorem zg_callIN {X : zg_X} {D : va_G} {G : zw_G} {A : Nat → Prop} {Q : State → Prop} {ck : Nat} {w : zw_T} {pc : Nat} {lv : List (Option Value)} {st : List Value} {cc : ByteArray} {own : String} {nL fr lo mc : Nat} {y : MethodName} {ws ws' : List Cond} {bytes : ByteArray} {maxL idx fry loy mcy : Nat} {ret : Option FieldType} {res : Option Value × zw_T} {st0 : List Value} {a : Nat} {host : String} (As : List Value) (hM : ∀ l : Launch, zc l y ws fry loy mcy D G A (.ref a :: As) w res) (hret : ret = none) (hy1 : y.name = "<init>") (hG : GoodIn zT ws) (hln : (own, idx, y, host) ∈ zn_L) (hini : Cond.initialized y.cls ∈ zT) (hinst : Cond.instanceMethod y ∈ zT) (hw : ws = Cond.code y bytes maxL ret :: ws') (hd0 : y.cls ≠ "java/lang/invoke/MethodHandle" ∧ y.cls ≠ "java/lang/invoke/VarHandle" ∧ (parseMethodDescriptor y.desc).map (fun d => d.parameters.length) = some As.length) (hR : fry + 1 ≤ fr ∧ 8 + (maxL + 11) + loy ≤ lo) (hcell : ck + mcy ≤ mc) (hcat : (st.map fun v => v.category).sum ≤ 8) (hll : lv.length = nL) (hst : st0 = As.reverse ++ .ref a :: st) (hX : zg_ok X cc own nL fr lo mc D G A) (hd : decode cc pc = .ok (.invokespecial idx, 3)) (kk : zg X D G A Q (ck + mcy) res.2 (pc + 3) lv (res.1.toList ++ st)) : zg X D G A Q ck w pc lv st0 := by
  obtain ⟨p, l, e, R, s, m, args, below, meth, c⟩ := X
  obtain ⟨hx, hb, hml, ho, hts, hK, hA, hlk, hfr, hR1, hR2, hlo, hZ⟩ := hX
  intro H locs ls h1 h2 h3
  subst hst
  subst hret
  exact zg_back (va_runIN (As := As) (rest := st) ⟨hx, hb, hml, ho, hts⟩ (hM l) ⟨va_cnB As.length hts hG hw rfl rfl (hZ.1.1 _ hln) (hts _ hini) hd0 ⟨by rw [hfr]; exact hR.1, by rw [hlo]; exact hR.2⟩, hy1, hts _ hinst⟩ ⟨zp_blind, zp_at hK hA hZ h2 h3⟩ rfl rfl (by show ls.size = nL; rw [h1.1]; exact hll) rfl (lv_room hcat) hd ⟨by rw [hR1]; exact hcell, by rw [hR2, ← Nat.mul_add]; exact Nat.mul_le_mul_left 4096 hcell⟩) h3 (fun H1 locs1 g2 g3 => kk H1 locs1 ls h1 g2 g3)
theorem zg_callS_i {X : zg_X} {D : va_G} {G : zw_G} {A : Nat → Prop} {Q : State → Prop} {ck : Nat} {w : zw_T} {pc : Nat} {lv : List (Option Value)} {st : List Value} {cc : ByteArray} {own : String} {nL fr lo mc : Nat} {y : MethodName} {ws ws' : List Cond} {bytes : ByteArray} {maxL idx fry loy mcy : Nat} {ret : Option FieldType} {v : Int32} {w1 : zw_T} {st0 : List Value} (As : List Value) (hM : ∀ l : Launch, zc l y ws fry loy mcy D G A As w (some (.int v), w1)) (hG : GoodIn zT (va_wsS own idx y ws)) (hw : ws = Cond.code y bytes maxL ret :: ws') (hd0 : y.cls ≠ "java/lang/invoke/MethodHandle" ∧ y.cls ≠ "java/lang/invoke/VarHandle" ∧ (parseMethodDescriptor y.desc).map (fun d => d.parameters.length) = some As.length) (hR : fry + 1 ≤ fr ∧ 8 + (maxL + 11) + loy ≤ lo) (hcell : ck + mcy ≤ mc) (hcat : (st.map fun v => v.category).sum ≤ 8) (hll : lv.length = nL) (hst : st0 = As.reverse ++ st) (hX : zg_ok X cc own nL fr lo mc D G A) (hd : decode cc pc = .ok (.invokestatic idx, 3)) (kk : zg X D G A Q (ck + mcy) w1 (pc + 3) lv (.int v :: st)) : zg X D G A Q ck w pc lv st0 := zg_callS As hM hG hw hd0 hR hcell hcat hll hst hX hd kk
theorem zg_callS_l {X : zg_X} {D : va_G} {G : zw_G} {A : Nat → Prop} {Q : State → Prop} {ck : Nat} {w : zw_T} {pc : Nat} {lv : List (Option Value)} {st : List Value} {cc : ByteArray} {own : String} {nL fr lo mc : Nat} {y : MethodName} {ws ws' : List Cond} {bytes : ByteArray} {maxL idx fry loy mcy : Nat} {ret : Option FieldType} {v : Int64} {w1 : zw_T} {st0 : List Value} (As : List Value) (hM : ∀ l : Launch, zc l y ws fry loy mcy D G A As w (some (.long v), w1)) (hG : GoodIn zT (va_wsS own idx y ws)) (hw : ws = Cond.code y bytes maxL ret :: ws') (hd0 : y.cls ≠ "java/lang/invoke/MethodHandle" ∧ y.cls ≠ "java/lang/invoke/VarHandle" ∧ (parseMethodDescriptor y.desc).map (fun d => d.parameters.length) = some As.length) (hR : fry + 1 ≤ fr ∧ 8 + (maxL + 11) + loy ≤ lo) (hcell : ck + mcy ≤ mc) (hcat : (st.map fun v => v.category).sum ≤ 8) (hll : lv.length = nL) (hst : st0 = As.reverse ++ st) (hX : zg_ok X cc own nL fr lo mc D G A) (hd : decode cc pc = .ok (.invokestatic idx, 3)) (kk : zg X D G A Q (ck + mcy) w1 (pc + 3) lv (.long v :: st)) : zg X D G A Q ck w pc lv st0 := zg_callS As hM hG hw hd0 hR hcell hcat hll hst hX hd kk
theorem zg_callS_r {X : zg_X} {D : va_G} {G : zw_G} {A : Nat → Prop} {Q : State → Prop} {ck : Nat} {w : zw_T} {pc : Nat} {lv : List (Option Value)} {st : List Value} {cc : ByteArray} {own : String} {nL fr lo mc : Nat} {y : MethodName} {ws ws' : List Cond} {bytes : ByteArray} {maxL idx fry loy mcy : Nat} {ret : Option FieldType} {v : Option Nat} {w1 : zw_T} {st0 : List Value} (As : List Value) (hM : ∀ l : Launch, zc l y ws fry loy mcy D G A As w (some (va_rf v), w1)) (hG : GoodIn zT (va_wsS own idx y ws)) (hw : ws = Cond.code y bytes maxL ret :: ws') (hd0 : y.cls ≠ "java/lang/invoke/MethodHandle" ∧ y.cls ≠ "java/lang/invoke/VarHandle" ∧ (parseMethodDescriptor y.desc).map (fun d => d.parameters.length) = some As.length) (hR : fry + 1 ≤ fr ∧ 8 + (maxL + 11) + loy ≤ lo) (hcell : ck + mcy ≤ mc) (hcat : (st.map fun v => v.category).sum ≤ 8) (hll : lv.length = nL) (hst : st0 = As.reverse ++ st) (hX : zg_ok X cc own nL fr lo mc D G A) (hd : decode cc pc = .ok (.invokestatic idx, 3)) (kk : zg X D G A Q (ck + mcy) w1 (pc + 3) lv (va_rf v :: st)) : zg X D G A Q ck w pc lv st0 := zg_callS As hM hG hw hd0 hR hcell hcat hll hst hX hd kk
theorem zg_callS_v {X : zg_X} {D : va_G} {G : zw_G} {A : Nat → Prop} {Q : State → Prop} {ck : Nat} {w : zw_T} {pc : Nat} {lv : List (Option Value)} {st : List Value} {cc : ByteArray} {own : String} {nL fr lo mc : Nat} {y : MethodName} {ws ws' : List Cond} {bytes : ByteArray} {maxL idx fry loy mcy : Nat} {ret : Option FieldType} {w1 : zw_T} {st0 : List Value} (As : List Value) (hM : ∀ l : Launch, zc l y ws fry loy mcy D G A As w (none, w1)) (hG : GoodIn zT (va_wsS own idx y ws)) (hw : ws = Cond.code y bytes maxL ret :: ws') (hd0 : y.cls ≠ "java/lang/invoke/MethodHandle" ∧ y.cls ≠ "java/lang/invoke/VarHandle" ∧ (parseMethodDescriptor y.desc).map (fun d => d.parameters.length) = some As.length) (hR : fry + 1 ≤ fr ∧ 8 + (maxL + 11) + loy ≤ lo) (hcell : ck + mcy ≤ mc) (hcat : (st.map fun v => v.category).sum ≤ 8) (hll : lv.length = nL) (hst : st0 = As.reverse ++ st) (hX : zg_ok X cc own nL fr lo mc D G A) (hd : decode cc pc = .ok (.invokestatic idx, 3)) (kk : zg X D G A Q (ck + mcy) w1 (pc + 3) lv st) : zg X D G A Q ck w pc lv st0 := zg_callS As hM hG hw hd0 hR hcell hcat hll hst hX hd kk
theorem zg_callSN_i {X : zg_X} {D : va_G} {G : zw_G} {A : Nat → Prop} {Q : State → Prop} {ck : Nat} {w : zw_T} {pc : Nat} {lv : List (Option Value)} {st : List Value} {cc : ByteArray} {own : String} {nL fr lo mc : Nat} {y : MethodName} {ws ws' : List Cond} {bytes : ByteArray} {maxL idx fry loy mcy : Nat} {ret : Option FieldType} {v : Int32} {w1 : zw_T} {st0 : List Value} {host : String} (As : List Value) (hM : ∀ l : Launch, zc l y ws fry loy mcy D G A As w (some (.int v), w1)) (hG : GoodIn zT ws) (hln : (own, idx, y, host) ∈ zn_L) (hstat : Cond.static y ∈ zT) (hini : Cond.initialized y.cls ∈ zT) (hw : ws = Cond.code y bytes maxL ret :: ws') (hd0 : y.cls ≠ "java/lang/invoke/MethodHandle" ∧ y.cls ≠ "java/lang/invoke/VarHandle" ∧ (parseMethodDescriptor y.desc).map (fun d => d.parameters.length) = some As.length) (hR : fry + 1 ≤ fr ∧ 8 + (maxL + 11) + loy ≤ lo) (hcell : ck + mcy ≤ mc) (hcat : (st.map fun v => v.category).sum ≤ 8) (hll : lv.length = nL) (hst : st0 = As.reverse ++ st) (hX : zg_ok X cc own nL fr lo mc D G A) (hd : decode cc pc = .ok (.invokestatic idx, 3)) (kk : zg X D G A Q (ck + mcy) w1 (pc + 3) lv (.int v :: st)) : zg X D G A Q ck w pc lv st0 := zg_callSN As hM hG hln hstat hini hw hd0 hR hcell hcat hll hst hX hd kk
theorem zg_callSN_l {X : zg_X} {D : va_G} {G : zw_G} {A : Nat → Prop} {Q : State → Prop} {ck : Nat} {w : zw_T} {pc : Nat} {lv : List (Option Value)} {st : List Value} {cc : ByteArray} {own : String} {nL fr lo mc : Nat} {y : MethodName} {ws ws' : List Cond} {bytes : ByteArray} {maxL idx fry loy mcy : Nat} {ret : Option FieldType} {v : Int64} {w1 : zw_T} {st0 : List Value} {host : String} (As : List Value) (hM : ∀ l : Launch, zc l y ws fry loy mcy D G A As w (some (.long v), w1)) (hG : GoodIn zT ws) (hln : (own, idx, y, host) ∈ zn_L) (hstat : Cond.static y ∈ zT) (hini : Cond.initialized y.cls ∈ zT) (hw : ws = Cond.code y bytes maxL ret :: ws') (hd0 : y.cls ≠ "java/lang/invoke/MethodHandle" ∧ y.cls ≠ "java/lang/invoke/VarHandle" ∧ (parseMethodDescriptor y.desc).map (fun d => d.parameters.length) = some As.length) (hR : fry + 1 ≤ fr ∧ 8 + (maxL + 11) + loy ≤ lo) (hcell : ck + mcy ≤ mc) (hcat : (st.map fun v => v.category).sum ≤ 8) (hll : lv.length = nL) (hst : st0 = As.reverse ++ st) (hX : zg_ok X cc own nL fr lo mc D G A) (hd : decode cc pc = .ok (.invokestatic idx, 3)) (kk : zg X D G A Q (ck + mcy) w1 (pc + 3) lv (.long v :: st)) : zg X D G A Q ck w pc lv st0 := zg_callSN As hM hG hln hstat hini hw hd0 hR hcell hcat hll hst hX hd kk
theorem zg_callSN_r {X : zg_X} {D : va_G} {G : zw_G} {A : Nat → Prop} {Q : State → Prop} {ck : Nat} {w : zw_T} {pc : Nat} {lv : List (Option Value)} {st : List Value} {cc : ByteArray} {own : String} {nL fr lo mc : Nat} {y : MethodName} {ws ws' : List Cond} {bytes : ByteArray} {maxL idx fry loy mcy : Nat} {ret : Option FieldType} {v : Option Nat} {w1 : zw_T} {st0 : List Value} {host : String} (As : List Value) (hM : ∀ l : Launch, zc l y ws fry loy mcy D G A As w (some (va_rf v), w1)) (hG : GoodIn zT ws) (hln : (own, idx, y, host) ∈ zn_L) (hstat : Cond.static y ∈ zT) (hini : Cond.initialized y.cls ∈ zT) (hw : ws = Cond.code y bytes maxL ret :: ws') (hd0 : y.cls ≠ "java/lang/invoke/MethodHandle" ∧ y.cls ≠ "java/lang/invoke/VarHandle" ∧ (parseMethodDescriptor y.desc).map (fun d => d.parameters.length) = some As.length) (hR : fry + 1 ≤ fr ∧ 8 + (maxL + 11) + loy ≤ lo) (hcell : ck + mcy ≤ mc) (hcat : (st.map fun v => v.category).sum ≤ 8) (hll : lv.length = nL) (hst : st0 = As.reverse ++ st) (hX : zg_ok X cc own nL fr lo mc D G A) (hd : decode cc pc = .ok (.invokestatic idx, 3)) (kk : zg X D G A Q (ck + mcy) w1 (pc + 3) lv (va_rf v :: st)) : zg X D G A Q ck w pc lv st0 := zg_callSN As hM hG hln hstat hini hw hd0 hR hcell hcat hll hst hX hd kk
theorem zg_callSN_v {X : zg_X} {D : va_G} {G : zw_G} {A : Nat → Prop} {Q : State → Prop} {ck : Nat} {w : zw_T} {pc : Nat} {lv : List (Option Value)} {st : List Value} {cc : ByteArray} {own : String} {nL fr lo mc : Nat} {y : MethodName} {ws ws' : List Cond} {bytes : ByteArray} {maxL idx fry loy mcy : Nat} {ret : Option FieldType} {w1 : zw_T} {st0 : List Value} {host : String} (As : List Value) (hM : ∀ l : Launch, zc l y ws fry loy mcy D G A As w (none, w1)) (hG : GoodIn zT ws) (hln : (own, idx, y, host) ∈ zn_L) (hstat : Cond.static y ∈ zT) (hini : Cond.initialized y.cls ∈ zT) (hw : ws = Cond.code y bytes maxL ret :: ws') (hd0 : y.cls ≠ "java/lang/invoke/MethodHandle" ∧ y.cls ≠ "java/lang/invoke/VarHandle" ∧ (parseMethodDescriptor y.desc).map (fun d => d.parameters.length) = some As.length) (hR : fry + 1 ≤ fr ∧ 8 + (maxL + 11) + loy ≤ lo) (hcell : ck + mcy ≤ mc) (hcat : (st.map fun v => v.category).sum ≤ 8) (hll : lv.length = nL) (hst : st0 = As.reverse ++ st) (hX : zg_ok X cc own nL fr lo mc D G A) (hd : decode cc pc = .ok (.invokestatic idx, 3)) (kk : zg X D G A Q (ck + mcy) w1 (pc + 3) lv st) : zg X D G A Q ck w pc lv st0 := zg_callSN As hM hG hln hstat hini hw hd0 hR hcell hcat hll hst hX hd kk
theorem zg_callV_i {X : zg_X} {D : va_G} {G : zw_G} {A : Nat → Prop} {Q : State → Prop} {ck : Nat} {w : zw_T} {pc : Nat} {lv : List (Option Value)} {st : List Value} {cc : ByteArray} {own : String} {nL fr lo mc : Nat} {y : MethodName} {ws ws' : List Cond} {bytes : ByteArray} {maxL idx fry loy mcy : Nat} {ret : Option FieldType} {v : Int32} {w1 : zw_T} {st0 : List Value} {ci N a : Nat} {T : u_T} (hc : vwCl[ci]? = some (y.cls, T, N)) (hci : ci < 99) {o : Option Nat} (hoa : o = some a) (ha : (zw_ty w a).1 = ci + 1) (As : List Value) (hM : ∀ l : Launch, zc l y ws fry loy mcy D G A (.ref a :: As) w (some (.int v), w1)) (hG : GoodIn zT (wsV own idx y.cls y ws)) (hw : ws = Cond.code y bytes maxL ret :: ws') (hd0 : y.cls ≠ "java/lang/invoke/MethodHandle" ∧ y.cls ≠ "java/lang/invoke/VarHandle" ∧ (parseMethodDescriptor y.desc).map (fun d => d.parameters.length) = some As.length) (hR : fry + 1 ≤ fr ∧ 8 + (maxL + 11) + loy ≤ lo) (hcell : ck + mcy ≤ mc) (hcat : (st.map fun v => v.category).sum ≤ 8) (hll : lv.length = nL) (hst : st0 = As.reverse ++ va_rf o :: st) (hX : zg_ok X cc own nL fr lo mc D G A) (hd : decode cc pc = .ok (.invokevirtual idx, 3)) (kk : zg X D G A Q (ck + mcy) w1 (pc + 3) lv (.int v :: st)) : zg X D G A Q ck w pc lv st0 := zg_callV hc hci hoa ha As hM hG hw hd0 hR hcell hcat hll hst hX hd kk
theorem zg_callV_l {X : zg_X} {D : va_G} {G : zw_G} {A : Nat → Prop} {Q : State → Prop} {ck : Nat} {w : zw_T} {pc : Nat} {lv : List (Option Value)} {st : List Value} {cc : ByteArray} {own : String} {nL fr lo mc : Nat} {y : MethodName} {ws ws' : List Cond} {bytes : ByteArray} {maxL idx fry loy mcy : Nat} {ret : Option FieldType} {v : Int64} {w1 : zw_T} {st0 : List Value} {ci N a : Nat} {T : u_T} (hc : vwCl[ci]? = some (y.cls, T, N)) (hci : ci < 99) {o : Option Nat} (hoa : o = some a) (ha : (zw_ty w a).1 = ci + 1) (As : List Value) (hM : ∀ l : Launch, zc l y ws fry loy mcy D G A (.ref a :: As) w (some (.long v), w1)) (hG : GoodIn zT (wsV own idx y.cls y ws)) (hw : ws = Cond.code y bytes maxL ret :: ws') (hd0 : y.cls ≠ "java/lang/invoke/MethodHandle" ∧ y.cls ≠ "java/lang/invoke/VarHandle" ∧ (parseMethodDescriptor y.desc).map (fun d => d.parameters.length) = some As.length) (hR : fry + 1 ≤ fr ∧ 8 + (maxL + 11) + loy ≤ lo) (hcell : ck + mcy ≤ mc) (hcat : (st.map fun v => v.category).sum ≤ 8) (hll : lv.length = nL) (hst : st0 = As.reverse ++ va_rf o :: st) (hX : zg_ok X cc own nL fr lo mc D G A) (hd : decode cc pc = .ok (.invokevirtual idx, 3)) (kk : zg X D G A Q (ck + mcy) w1 (pc + 3) lv (.long v :: st)) : zg X D G A Q ck w pc lv st0 := zg_callV hc hci hoa ha As hM hG hw hd0 hR hcell hcat hll hst hX hd kk
theorem zg_callV_r {X : zg_X} {D : va_G} {G : zw_G} {A : Nat → Prop} {Q : State → Prop} {ck : Nat} {w : zw_T} {pc : Nat} {lv : List (Option Value)} {st : List Value} {cc : ByteArray} {own : String} {nL fr lo mc : Nat} {y : MethodName} {ws ws' : List Cond} {bytes : ByteArray} {maxL idx fry loy mcy : Nat} {ret : Option FieldType} {v : Option Nat} {w1 : zw_T} {st0 : List Value} {ci N a : Nat} {T : u_T} (hc : vwCl[ci]? = some (y.cls, T, N)) (hci : ci < 99) {o : Option Nat} (hoa : o = some a) (ha : (zw_ty w a).1 = ci + 1) (As : List Value) (hM : ∀ l : Launch, zc l y ws fry loy mcy D G A (.ref a :: As) w (some (va_rf v), w1)) (hG : GoodIn zT (wsV own idx y.cls y ws)) (hw : ws = Cond.code y bytes maxL ret :: ws') (hd0 : y.cls ≠ "java/lang/invoke/MethodHandle" ∧ y.cls ≠ "java/lang/invoke/VarHandle" ∧ (parseMethodDescriptor y.desc).map (fun d => d.parameters.length) = some As.length) (hR : fry + 1 ≤ fr ∧ 8 + (maxL + 11) + loy ≤ lo) (hcell : ck + mcy ≤ mc) (hcat : (st.map fun v => v.category).sum ≤ 8) (hll : lv.length = nL) (hst : st0 = As.reverse ++ va_rf o :: st) (hX : zg_ok X cc own nL fr lo mc D G A) (hd : decode cc pc = .ok (.invokevirtual idx, 3)) (kk : zg X D G A Q (ck + mcy) w1 (pc + 3) lv (va_rf v :: st)) : zg X D G A Q ck w pc lv st0 := zg_callV hc hci hoa ha As hM hG hw hd0 hR hcell hcat hll hst hX hd kk
theorem zg_callV_v {X : zg_X} {D : va_G} {G : zw_G} {A : Nat → Prop} {Q : State → Prop} {ck : Nat} {w : zw_T} {pc : Nat} {lv : List (Option Value)} {st : List Value} {cc : ByteArray} {own : String} {nL fr lo mc : Nat} {y : MethodName} {ws ws' : List Cond} {bytes : ByteArray} {maxL idx fry loy mcy : Nat} {ret : Option FieldType} {w1 : zw_T} {st0 : List Value} {ci N a : Nat} {T : u_T} (hc : vwCl[ci]? = some (y.cls, T, N)) (hci : ci < 99) {o : Option Nat} (hoa : o = some a) (ha : (zw_ty w a).1 = ci + 1) (As : List Value) (hM : ∀ l : Launch, zc l y ws fry loy mcy D G A (.ref a :: As) w (none, w1)) (hG : GoodIn zT (wsV own idx y.cls y ws)) (hw : ws = Cond.code y bytes maxL ret :: ws') (hd0 : y.cls ≠ "java/lang/invoke/MethodHandle" ∧ y.cls ≠ "java/lang/invoke/VarHandle" ∧ (parseMethodDescriptor y.desc).map (fun d => d.parameters.length) = some As.length) (hR : fry + 1 ≤ fr ∧ 8 + (maxL + 11) + loy ≤ lo) (hcell : ck + mcy ≤ mc) (hcat : (st.map fun v => v.category).sum ≤ 8) (hll : lv.length = nL) (hst : st0 = As.reverse ++ va_rf o :: st) (hX : zg_ok X cc own nL fr lo mc D G A) (hd : decode cc pc = .ok (.invokevirtual idx, 3)) (kk : zg X D G A Q (ck + mcy) w1 (pc + 3) lv st) : zg X D G A Q ck w pc lv st0 := zg_callV hc hci hoa ha As hM hG hw hd0 hR hcell hcat hll hst hX hd kk
theorem zg_callI_v {X : zg_X} {D : va_G} {G : zw_G} {A : Nat → Prop} {Q : State → Prop} {ck : Nat} {w : zw_T} {pc : Nat} {lv : List (Option Value)} {st : List Value} {cc : ByteArray} {own : String} {nL fr lo mc : Nat} {y : MethodName} {ws ws' : List Cond} {bytes : ByteArray} {maxL idx fry loy mcy : Nat} {ret : Option FieldType} {w1 : zw_T} {st0 : List Value} {a : Nat} (As : List Value) (hM : ∀ l : Launch, zc l y ws fry loy mcy D G A (.ref a :: As) w (none, w1)) (hret : ret = none) (hy1 : y.name = "<init>") (hG : GoodIn zT ws) (hli : Cond.methodLink own idx y ∈ zT) (hini : Cond.initialized y.cls ∈ zT) (hinst : Cond.instanceMethod y ∈ zT) (hw : ws = Cond.code y bytes maxL ret :: ws') (hd0 : y.cls ≠ "java/lang/invoke/MethodHandle" ∧ y.cls ≠ "java/lang/invoke/VarHandle" ∧ (parseMethodDescriptor y.desc).map (fun d => d.parameters.length) = some As.length) (hR : fry + 1 ≤ fr ∧ 8 + (maxL + 11) + loy ≤ lo) (hcell : ck + mcy ≤ mc) (hcat : (st.map fun v => v.category).sum ≤ 8) (hll : lv.length = nL) (hst : st0 = As.reverse ++ .ref a :: st) (hX : zg_ok X cc own nL fr lo mc D G A) (hd : decode cc pc = .ok (.invokespecial idx, 3)) (kk : zg X D G A Q (ck + mcy) w1 (pc + 3) lv st) : zg X D G A Q ck w pc lv st0 := zg_callI As hM hret hy1 hG hli hini hinst hw hd0 hR hcell hcat hll hst hX hd kk
theorem zg_callIN_v {X : zg_X} {D : va_G} {G : zw_G} {A : Nat → Prop} {Q : State → Prop} {ck : Nat} {w : zw_T} {pc : Nat} {lv : List (Option Value)} {st : List Value} {cc : ByteArray} {own : String} {nL fr lo mc : Nat} {y : MethodName} {ws ws' : List Cond} {bytes : ByteArray} {maxL idx fry loy mcy : Nat} {ret : Option FieldType} {w1 : zw_T} {st0 : List Value} {a : Nat} {host : String} (As : List Value) (hM : ∀ l : Launch, zc l y ws fry loy mcy D G A (.ref a :: As) w (none, w1)) (hret : ret = none) (hy1 : y.name = "<init>") (hG : GoodIn zT ws) (hln : (own, idx, y, host) ∈ zn_L) (hini : Cond.initialized y.cls ∈ zT) (hinst : Cond.instanceMethod y ∈ zT) (hw : ws = Cond.code y bytes maxL ret :: ws') (hd0 : y.cls ≠ "java/lang/invoke/MethodHandle" ∧ y.cls ≠ "java/lang/invoke/VarHandle" ∧ (parseMethodDescriptor y.desc).map (fun d => d.parameters.length) = some As.length) (hR : fry + 1 ≤ fr ∧ 8 + (maxL + 11) + loy ≤ lo) (hcell : ck + mcy ≤ mc) (hcat : (st.map fun v => v.category).sum ≤ 8) (hll : lv.length = nL) (hst : st0 = As.reverse ++ .ref a :: st) (hX : zg_ok X cc own nL fr lo mc D G A) (hd : decode cc pc = .ok (.invokespecial idx, 3)) (kk : zg X D G A Q (ck + mcy) w1 (pc + 3) lv st) : zg X D G A Q ck w pc lv st0 := zg_callIN As hM hret hy1 hG hln hini hinst hw hd0 hR hcell hcat hll hst hX hd kk
theorem zg_oinit {X : zg_X} {D : va_G} {G : zw_G} {A : Nat → Prop} {Q : State → Prop} {ck : Nat} {w : zw_T} {pc : Nat} {lv : List (Option Value)} {st : List Value} {cc : ByteArray} {own : String} {nL fr lo mc : Nat} {idx : Nat} (hli : Cond.methodLink own idx objectInit ∈ zT) (hinst : Cond.instanceMethod objectInit ∈ zT) (hcode : Cond.code objectInit ⟨#[0xb1]⟩ 1 none ∈ zT) {a : Nat} (hfr1 : 1 ≤ fr) (hlo1 : (st.map fun v => v.category).sum + 12 ≤ lo) (hll : lv.length = nL) (hX : zg_ok X cc own nL fr lo mc D G A) (hd : decode cc pc = .ok (.invokespecial idx, 3)) (kk : zg X D G A Q ck w (pc + 3) lv st) : zg X D G A Q ck w pc lv (va_rf (some a) :: st) := by
  obtain ⟨p, l, e, R, s, m, args, below, meth, c⟩ := X
  obtain ⟨hx, hb, hml, ho, hts, hK, hA, hlk, hfr, hR1, hR2, hlo, hZ⟩ := hX
  intro H locs ls h1 h2 h3
  exact W.objInit hx hb ho (hts _ hli) (hts _ hinst) (hts _ hcode) rfl (by show ls.size = c.maxLocals; rw [h1.1, hml]; exact hll) rfl hd (by rw [hfr]; exact hfr1) (by rw [hlo]; show 2 * 0 + _ + 12 ≤ lo; omega) (kk H locs ls h1 h2 h3)
theorem zg_copy {X : zg_X} {D : va_G} {G : zw_G} {A : Nat → Prop} {Q : State → Prop} {ck : Nat} {w : zw_T} {pc : Nat} {lv : List (Option Value)} {st : List Value} {cc : ByteArray} {own : String} {nL fr lo mc : Nat} {k0 k1 idx : Nat} (ha1 : 100 ≤ k0) (ha2 : k0 < 200) (hb1 : 100 ≤ k1) (hb2 : k1 < 200) (hli : Cond.methodLink own idx arraycopyName ∈ zT) (hnat : Cond.native arraycopyName ∈ zT) (hstat : Cond.static arraycopyName ∈ zT) (hini : Cond.initialized "java/lang/System" ∈ zT) {o0 o1 : Option Nat} {sp dp n : Int32} {ρ : Type} {r : ρ} {K : zw_T → Option ρ} (hfr1 : 1 ≤ fr) (hlo1 : (st.map fun v => v.category).sum + (nativeFrameWords "java/lang/System" "arraycopy" 5 + 11) ≤ lo) (hll : lv.length = nL) (hX : zg_ok X cc own nL fr lo mc D G A) (hd : decode cc pc = .ok (.invokestatic idx, 3)) (h : zf_cp w k0 k1 o0 sp o1 dp n K = some r) (kk : ∀ w1, K w1 = some r → zg X D G A Q ck w1 (pc + 3) lv st) : zg X D G A Q ck w pc lv (.int n :: .int dp :: va_rf o1 :: .int sp :: va_rf o0 :: st) := by
  unfold zf_cp at h
  cases o0 with
  | none => cases h
  | some a0 =>
    cases o1 with
    | none => cases h
    | some a1 =>
      by_cases hq : (zw_ty w a0).1 = k0 ∧ (zw_ty w a1).1 = k1 ∧ ¬ sp < 0 ∧ ¬ dp < 0 ∧ ¬ n < 0 ∧ sp.toNatClampNeg + n.toNatClampNeg ≤ (zw_ty w a0).2 ∧ dp.toNatClampNeg + n.toNatClampNeg ≤ (zw_ty w a1).2
      · simp only [if_pos hq] at h
        obtain ⟨t0, t1, c1, c2, c3, c4, c5⟩ := hq
        obtain ⟨p, l, e, R, s, m, args, below, meth, c⟩ := X
        obtain ⟨hx, hb, hml, ho, hts, hK, hA, hlk, hfr, hR1, hR2, hlo, hZ⟩ := hX
        intro H locs ls h1 h2 h3 T hT X
        have nn : ∀ z : Int32, ¬ z < 0 → z.toInt = (z.toNatClampNeg : Int) := by
          intro z hz
          have hz0 : (0 : Int) ≤ z.toInt := by
            have := Int32.not_lt.mp hz
            simpa using Int32.le_iff_toInt_le.mp this
          show z.toInt = ((z.toInt.toNat : Nat) : Int)
          omega
        have v0 := (h2.2 a0 (by rw [t0]; omega)).1
        have v1 := h2.2 a1 (by rw [t1]; omega)
        have hAa := v1.2
        have v1 := v1.1
        rw [zw_cell_i t0 ha1 ha2] at v0
        rw [zw_cell_i t1 hb1 hb2] at v1
        have v0 : H[a0]? = some (vp_cell G.1 ((zw_ty w a0).2, .inl (zw_I w k0 a0))) := v0
        have v1 : H[a1]? = some (vp_cell G.1 ((zw_ty w a1).2, .inl (zw_I w k1 a1))) := v1
        obtain ⟨-, kc0, hk0, cm0, hkk0⟩ := (hK.2 0 (G.1, .int) rfl).1 (zw_ty w a0).2 (fun j => .int (zw_I w k0 a0 j))
        obtain ⟨-, kc1, hk1, cm1, hkk1⟩ := (hK.2 0 (G.1, .int) rfl).1 (zw_ty w a1).2 (fun j => .int (zw_I w k1 a1 j))
        obtain ⟨vm', X', step⟩ := X.arraycopy hx ho (hts _ hli) (hts _ hnat) (hts _ hstat) (hts _ hini) (src := a0) (dst := a1) (cs := vp_cell G.1 ((zw_ty w a0).2, .inl (zw_I w k0 a0))) (cd := vp_cell G.1 ((zw_ty w a1).2, .inl (zw_I w k1 a1))) (srcPos := sp) (destPos := dp) (n := n) (by rw [hT]; exact v0) (by rw [hT]; exact v1)
          (fun _ h => by cases h) (fun _ h => by cases h) (fun h => by cases h) (fun h => by cases h) hk0 hk1 hkk0 hkk1 rfl c1 c2 c3
          (by rw [nn sp c1, nn n c3]; show ¬ _ > ((arrV _ _ _).slots.size : Int); rw [arrV_size]; omega)
          (by rw [nn dp c2, nn n c3]; show ¬ _ > ((arrV _ _ _).slots.size : Int); rw [arrV_size]; omega)
          (fun vm₁ _ i hi => by
            have e : (vp_cell G.1 ((zw_ty w a0).2, .inl (zw_I w k0 a0))).slots.getD (sp.toNatClampNeg + i) .null = .int (zw_I w k0 a0 (sp.toNatClampNeg + i)) := by
              show (arrV _ _ _).slots.getD _ _ = _
              rw [Array.getD_eq_getD_getElem?, arrV_read _ _ (by omega)]
              rfl
            refine ⟨?_, ?_⟩
            · rw [e]
              rfl
            · rw [e]
              exact trivial)
          (g := F0 m pc ls (.int n :: .int dp :: .ref a1 :: .int sp :: .ref a0 :: st)) rfl (by show ls.size = c.maxLocals; rw [h1.1, hml]; exact hll) (rest := st) rfl (by rw [hb]; exact hd) (by rw [hfr]; exact hfr1) (by rw [hlo]; show 2 * 0 + _ + _ ≤ lo; omega)
        have e1 : copied (vp_cell G.1 ((zw_ty w a0).2, .inl (zw_I w k0 a0))) (vp_cell G.1 ((zw_ty w a1).2, .inl (zw_I w k1 a1))) sp dp n = vp_cell G.1 ((zw_ty w a1).2, .inl (va_cpy (zw_I w k0 a0) (zw_I w k1 a1) sp.toNatClampNeg dp.toNatClampNeg n.toNatClampNeg)) := va_copied (fun z => .int z) _ _ _ _ c4
        rw [e1] at X' step
        have hl : a1 < H.size := (Array.getElem?_eq_some_iff.mp v1).1
        generalize hcv : vp_cell G.1 ((zw_ty w a1).2, .inl (va_cpy (zw_I w k0 a0) (zw_I w k1 a1) sp.toNatClampNeg dp.toNatClampNeg n.toNatClampNeg)) = cv at X' step
        have hheap : ((T.setVm vm').setCell a1 cv).heap = H.setIfInBounds a1 cv := by rw [← hT]; rfl
        have oq : ∀ q : Nat, q ≠ a1 → (H.setIfInBounds a1 cv)[q]? = H[q]? := fun q hq => by simp [Array.getElem?_setIfInBounds, Ne.symm hq]
        have sq : (H.setIfInBounds a1 cv)[a1]? = some cv := by simp [Array.getElem?_setIfInBounds, hl]
        have zq : (H.setIfInBounds a1 cv).size = H.size := by simp
        obtain ⟨t, b1, b2⟩ := kk _ h (H.setIfInBounds a1 cv) _ ls h1 (zw_move h2 rfl rfl (fun b hb => zw_sF_ne hb) (by
            rw [zw_cell_i (w := zw_sF w k1 a1 (va_cpy (zw_I w k0 a0) (zw_I w k1 a1) sp.toNatClampNeg dp.toNatClampNeg n.toNatClampNeg)) (kd := k1) t1 hb1 hb2]
            show _ = some (vp_cell _ (_, .inl (zw_u2 (α := Nat → Int32) _ _ _ _ _ _)))
            rw [zw_u2_eq, sq, ← hcv]
            rfl) zq oq) ⟨by rw [zq]; exact h3.1, fun q g1 g2 => by
            rw [oq q (fun e => g2 (by rw [e]; exact hAa))]
            exact h3.2.1 q g1 g2, fun q hq => by
            rcases List.mem_append.mp hq with h | h
            · exact h3.2.2 q h
            · obtain ⟨z, -, hz⟩ := List.mem_map.mp h
              rw [← hz]
              exact hAa⟩ _ hheap X'
        exact ⟨t, step t b1, b2⟩
      · simp only [if_neg hq] at h
        cases h
theorem zg_castI {X : zg_X} {D : va_G} {G : zw_G} {A : Nat → Prop} {Q : State → Prop} {ck : Nat} {w : zw_T} {pc : Nat} {lv : List (Option Value)} {st : List Value} {cc : ByteArray} {own : String} {nL fr lo mc : Nat} {idx a : Nat} (hli : Cond.classLink own idx "[I" ∈ zT) (ht : (zw_ty w a).1 = 105) (hX : zg_ok X cc own nL fr lo mc D G A) (hd : decode cc pc = .ok (.checkcast idx, 3)) (kk : zg X D G A Q ck w (pc + 3) lv (va_rf (some a) :: st)) : zg X D G A Q ck w pc lv (va_rf (some a) :: st) := by
  obtain ⟨p, l, e, R, s, m, args, below, meth, c⟩ := X
  obtain ⟨hx, hb, hml, ho, hts, hK, hA, hlk, hfr, hR1, hR2, hlo, hZ⟩ := hX
  intro H locs ls h1 h2 h3
  have hv := (h2.2 a (by rw [ht]; omega)).1
  rw [zw_cell_i ht (by decide) (by decide)] at hv
  have e0 : "[" ++ FieldType.int.toString = "[I" := by decide
  have hn : s.vm.findClass ("[" ++ FieldType.int.toString) = some G.1 := (hK.2 0 (G.1, .int) rfl).2
  rw [e0] at hn
  exact va_castA hx hb ho (hts _ hli) (zw_one hv) 0 rfl hn hd (kk H locs ls h1 h2 h3)
theorem zg_clone {X : zg_X} {D : va_G} {G : zw_G} {A : Nat → Prop} {Q : State → Prop} {ck : Nat} {w : zw_T} {pc : Nat} {lv : List (Option Value)} {st : List Value} {cc : ByteArray} {own : String} {nL fr lo mc : Nat} {k0 k1 idx : Nat} (ha1 : 100 ≤ k0) (ha2 : k0 < 200) (hb1 : 100 ≤ k1) (hb2 : k1 < 200) (hli : Cond.methodLink own idx ⟨"[I", "clone", "()Ljava/lang/Object;"⟩ ∈ zT) (hsm : Cond.sameMethod "[I" "java/lang/Object" "clone" "()Ljava/lang/Object;" ∈ zT) (hnat : Cond.native ⟨"java/lang/Object", "clone", "()Ljava/lang/Object;"⟩ ∈ zT) (hinst : Cond.instanceMethod ⟨"java/lang/Object", "clone", "()Ljava/lang/Object;"⟩ ∈ zT) (hsel : Cond.selects "[I" ⟨"[I", "clone", "()Ljava/lang/Object;"⟩ ⟨"java/lang/Object", "clone", "()Ljava/lang/Object;"⟩ ∈ zT) {o : Option Nat} {ρ : Type} {r : ρ} {K : zw_T → Option ρ} (hcell : ck + 1 ≤ mc) (hfr1 : 1 ≤ fr) (hlo1 : (st.map fun v => v.category).sum + 14 ≤ lo) (hll : lv.length = nL) (hX : zg_ok X cc own nL fr lo mc D G A) (hd : decode cc pc = .ok (.invokevirtual idx, 3)) (h : zf_cl w k0 k1 o K = some r) (kk : ∀ w1, (zw_ty w1 (zw_n w)).1 = k1 → K w1 = some r → zg X D G A Q (ck + 1) w1 (pc + 3) lv (va_rf (some (zw_n w)) :: st)) : zg X D G A Q ck w pc lv (va_rf o :: st) := by
  unfold zf_cl at h
  cases o with
  | none => cases h
  | some a =>
    by_cases hq : (zw_ty w a).1 = k0 ∧ (zw_ty w a).2 ≤ 4096
    · simp only [if_pos hq] at h
      obtain ⟨ht, hsz⟩ := hq
      obtain ⟨p, l, e, R, s, m, args, below, meth, c⟩ := X
      obtain ⟨hx, hb, hml, ho, hts, hK, hA, hlk, hfr, hR1, hR2, hlo, hZ⟩ := hX
      intro H locs ls h1 h2 h3 T hT X
      have hv := (h2.2 a (by rw [ht]; omega)).1
      rw [zw_cell_i ht ha1 ha2] at hv
      have hv : H[a]? = some (arrV G.1 (zw_ty w a).2 (fun j => .int (zw_I w k0 a j))) := hv
      have e0 : "[" ++ FieldType.int.toString = "[I" := by decide
      have hn : s.vm.findClass ("[" ++ FieldType.int.toString) = some G.1 := (hK.2 0 (G.1, .int) rfl).2
      rw [e0] at hn
      obtain ⟨c0, t0', f1, f2, f3⟩ := Cond.castable_spec (va_Nw.use (A := args) rfl hZ.1.2.2)
      cases hn.symm.trans f1
      obtain ⟨-, kA, hkA, comp, hkind⟩ := State.isArrayOf_alike X.warmed.alike ((hK.2 0 (G.1, .int) rfl).1 0 (fun _ => .null))
      obtain ⟨-, kS, hkS, compS, hkindS⟩ := (hK.2 0 (G.1, .int) rfl).1 0 (fun _ => .null)
      obtain ⟨vm', X', sp⟩ := X.cloneArray hx ho (hts _ hli) (hts _ hsm) (hts _ hnat) (hts _ hinst) (hts _ hsel) (a := a) (cell := arrV G.1 (zw_ty w a).2 (fun j => .int (zw_I w k0 a j))) (by rw [hT]; exact hv) (fun k h => by cases h) (fun h => by cases h) hn f2 f3
        (fun i v hv' => by
          have hk' : T.vm.classes[G.1]? = some kA := hkA
          have hil := (Array.getElem?_eq_some_iff.mp hv').1
          rw [arrV_size] at hil
          rw [arrV_read _ _ hil] at hv'
          cases hv'
          show T.fitsSlot G.1 .none i _ = true
          simp [State.fitsSlot, State.slotType?, hk', hkind]
          rfl)
        (g := F0 m pc ls (.ref a :: st)) rfl (by show ls.size = c.maxLocals; rw [h1.1, hml]; exact hll) rfl (by rw [hb]; exact hd) (by rw [hfr]; exact hfr1) (by rw [hlo]; show 2 * 0 + _ + 14 ≤ lo; omega) (by rw [hR1]; exact hcell) (by rw [hR2, arrV_size]; omega) (hloader := Vm.clonesLoader_of_array hkS hkindS)
      rw [arrV_size] at X'
      have hz : H.size = zw_n w := h2.1
      generalize hcv : arrV G.1 (zw_ty w a).2 (fun j => .int (zw_I w k0 a j)) = cv at X' sp
      have hcE : ({ cls := cv.cls, slots := cv.slots } : Cell) = cv := by rw [← hcv]; rfl
      rw [hcE] at X' sp
      generalize hH1 : H.push cv = H1
      have z1 : H1.size = H.size + 1 := by rw [← hH1, Array.size_push]
      have e1 : H1[H.size]? = some cv := by rw [← hH1, Array.getElem?_push_size]
      have o1 : ∀ q : Nat, q < H.size → H1[q]? = H[q]? := fun q hq => by rw [← hH1, Array.getElem?_push, if_neg (Nat.ne_of_lt hq)]
      rw [hz] at e1
      have hok : zw_ok D G A (zw_sF (zw_new w k1 (zw_ty w a).2) k1 (zw_n w) (zw_I w k0 a)) H1 := by
        refine ⟨by rw [z1, hz]; rfl, fun b hb9 => ?_⟩
        by_cases hba : b = zw_n w
        · subst hba
          refine ⟨?_, hA _ (by rw [← hz]; exact h3.1)⟩
          rw [zw_cell_i (w := zw_sF (zw_new w k1 (zw_ty w a).2) k1 (zw_n w) (zw_I w k0 a)) (kd := k1) (by show (zw_ty (zw_new w k1 (zw_ty w a).2) (zw_n w)).1 = k1; rw [zw_new_ty]) hb1 hb2]
          show H1[zw_n w]? = some (vp_cell G.1 ((zw_ty (zw_new w k1 (zw_ty w a).2) (zw_n w)).2, .inl (zw_u2 (α := Nat → Int32) _ _ _ _ _ _)))
          rw [zw_u2_eq, zw_new_ty, e1, ← hcv]
          rfl
        · have g1 : zw_ty (zw_new w k1 (zw_ty w a).2) b = zw_ty w b := va_up_ne _ _ hba
          have g5 : zw_cell G (zw_sF (zw_new w k1 (zw_ty w a).2) k1 (zw_n w) (zw_I w k0 a)) b = zw_cell G w b := by
            rw [zw_sF_ne hba]
            exact zw_same g1 (fun _ => if_neg hba) (fun _ => if_neg hba) (fun _ => if_neg hba)
          have hb8 : (zw_ty w b).1 ≠ 0 := by
            rw [← g1]
            exact hb9
          rw [g5]
          exact ⟨(h2.2 b hb8).1.kept (o1 b (h2.2 b hb8).1.lt), (h2.2 b hb8).2⟩
      obtain ⟨t, b1, b2⟩ := W.widen (k := ck + 1) (n := 4096 * (ck + 1)) (Nat.le_refl _) (by omega) (kk _ (by show (zw_ty (zw_new w k1 (zw_ty w a).2) (zw_n w)).1 = k1; rw [zw_new_ty]) h H1 locs ls h1 hok ⟨Nat.le_trans h3.1 (by omega), fun q g1 g2 => (o1 q (Nat.lt_of_lt_of_le g1 h3.1)).trans (h3.2.1 q g1 g2), h3.2.2⟩) ((T.setVm vm').pushCell cv) (by rw [← hH1, ← hT]; rfl) X'
      refine ⟨t, sp t ?_, b2⟩
      rw [hT, hz]
      exact b1
    · simp only [if_neg hq] at h
      cases h
end
