section
def lw_okq (q : MethodName × Nat) : Prop := (q.1.cls ≠ "java/lang/invoke/MethodHandle" ∧ q.1.cls ≠ "java/lang/invoke/VarHandle") ∧ Cond.instantiable q.1.cls q.2 ∈ tables_1 ∧ Cond.privateMethod q.1 ∈ tables_1 ∧ Cond.instanceMethod q.1 ∈ tables_1
theorem lw_p0 : lw_okq (⟨"WakingPagers", "isAddressUsed", "(I)Z"⟩, 12) := ⟨⟨by decide +kernel, by decide +kernel⟩, List.mem_of_getElem? (i := 17) (by decide +kernel), List.mem_of_getElem? (i := 171) (by decide +kernel), List.mem_of_getElem? (i := 172) (by decide +kernel)⟩
theorem lw_p1 : lw_okq (⟨"WakingPagers", "pagerAt", "(I)LWakingPagers$Pager;"⟩, 12) := ⟨⟨by decide +kernel, by decide +kernel⟩, List.mem_of_getElem? (i := 17) (by decide +kernel), List.mem_of_getElem? (i := 317) (by decide +kernel), List.mem_of_getElem? (i := 318) (by decide +kernel)⟩
theorem lw_p2 : lw_okq (⟨"WakingPagers", "identityAt", "(I)LWakingPagers$Identity;"⟩, 12) := ⟨⟨by decide +kernel, by decide +kernel⟩, List.mem_of_getElem? (i := 17) (by decide +kernel), List.mem_of_getElem? (i := 321) (by decide +kernel), List.mem_of_getElem? (i := 322) (by decide +kernel)⟩
theorem lw_p3 : lw_okq (⟨"WakingPagers", "areLoadedSignsOf", "(LWakingPagers$Identity;)Z"⟩, 12) := ⟨⟨by decide +kernel, by decide +kernel⟩, List.mem_of_getElem? (i := 17) (by decide +kernel), List.mem_of_getElem? (i := 366) (by decide +kernel), List.mem_of_getElem? (i := 367) (by decide +kernel)⟩
theorem lw_p4 : lw_okq (⟨"WakingPagers", "layMessages", "(I)V"⟩, 12) := ⟨⟨by decide +kernel, by decide +kernel⟩, List.mem_of_getElem? (i := 17) (by decide +kernel), List.mem_of_getElem? (i := 441) (by decide +kernel), List.mem_of_getElem? (i := 442) (by decide +kernel)⟩
theorem lw_p5 : lw_okq (⟨"WakingPagers$Layout", "findPlace", "(LWakingPagers$Identity;I)I"⟩, 2) := ⟨⟨by decide +kernel, by decide +kernel⟩, List.mem_of_getElem? (i := 31) (by decide +kernel), List.mem_of_getElem? (i := 457) (by decide +kernel), List.mem_of_getElem? (i := 458) (by decide +kernel)⟩
theorem lw_p6 : lw_okq (⟨"WakingPagers$Layout", "areFree", "(II)Z"⟩, 2) := ⟨⟨by decide +kernel, by decide +kernel⟩, List.mem_of_getElem? (i := 31) (by decide +kernel), List.mem_of_getElem? (i := 461) (by decide +kernel), List.mem_of_getElem? (i := 462) (by decide +kernel)⟩
theorem lw_p7 : lw_okq (⟨"WakingPagers$Listener", "hunt", "(I)I"⟩, 8) := ⟨⟨by decide +kernel, by decide +kernel⟩, List.mem_of_getElem? (i := 61) (by decide +kernel), List.mem_of_getElem? (i := 501) (by decide +kernel), List.mem_of_getElem? (i := 502) (by decide +kernel)⟩
theorem lw_p8 : lw_okq (⟨"WakingPagers$Listener", "takeBatch", "(I)I"⟩, 8) := ⟨⟨by decide +kernel, by decide +kernel⟩, List.mem_of_getElem? (i := 61) (by decide +kernel), List.mem_of_getElem? (i := 514) (by decide +kernel), List.mem_of_getElem? (i := 515) (by decide +kernel)⟩
theorem lw_p9 : lw_okq (⟨"WakingPagers$Listener", "takeWord", "(II)V"⟩, 8) := ⟨⟨by decide +kernel, by decide +kernel⟩, List.mem_of_getElem? (i := 61) (by decide +kernel), List.mem_of_getElem? (i := 526) (by decide +kernel), List.mem_of_getElem? (i := 527) (by decide +kernel)⟩
theorem lw_p10 : lw_okq (⟨"WakingPagers$Listener", "endMessage", "(Z)V"⟩, 8) := ⟨⟨by decide +kernel, by decide +kernel⟩, List.mem_of_getElem? (i := 61) (by decide +kernel), List.mem_of_getElem? (i := 531) (by decide +kernel), List.mem_of_getElem? (i := 532) (by decide +kernel)⟩
theorem lw_p11 : lw_okq (⟨"WakingPagers$Listener", "store", "(IZ)V"⟩, 8) := ⟨⟨by decide +kernel, by decide +kernel⟩, List.mem_of_getElem? (i := 61) (by decide +kernel), List.mem_of_getElem? (i := 543) (by decide +kernel), List.mem_of_getElem? (i := 544) (by decide +kernel)⟩
theorem lw_p12 : lw_okq (⟨"WakingPagers$Listener", "addContent", "(I)V"⟩, 8) := ⟨⟨by decide +kernel, by decide +kernel⟩, List.mem_of_getElem? (i := 61) (by decide +kernel), List.mem_of_getElem? (i := 564) (by decide +kernel), List.mem_of_getElem? (i := 565) (by decide +kernel)⟩
theorem lw_p13 : lw_okq (⟨"WakingPagers$Listener", "addSign", "(I)V"⟩, 8) := ⟨⟨by decide +kernel, by decide +kernel⟩, List.mem_of_getElem? (i := 61) (by decide +kernel), List.mem_of_getElem? (i := 568) (by decide +kernel), List.mem_of_getElem? (i := 569) (by decide +kernel)⟩
theorem lw_p14 : lw_okq (⟨"WakingPagers$Listener", "beginMessage", "(LWakingPagers$Heard;)V"⟩, 8) := ⟨⟨by decide +kernel, by decide +kernel⟩, List.mem_of_getElem? (i := 61) (by decide +kernel), List.mem_of_getElem? (i := 576) (by decide +kernel), List.mem_of_getElem? (i := 577) (by decide +kernel)⟩
theorem lw_p15 : lw_okq (⟨"WakingPagers$Listener", "takeSync", "(I)I"⟩, 8) := ⟨⟨by decide +kernel, by decide +kernel⟩, List.mem_of_getElem? (i := 61) (by decide +kernel), List.mem_of_getElem? (i := 580) (by decide +kernel), List.mem_of_getElem? (i := 581) (by decide +kernel)⟩
def lw_privs_1 : List (MethodName × Nat) := [(⟨"WakingPagers", "isAddressUsed", "(I)Z"⟩, 12), (⟨"WakingPagers", "pagerAt", "(I)LWakingPagers$Pager;"⟩, 12), (⟨"WakingPagers", "identityAt", "(I)LWakingPagers$Identity;"⟩, 12), (⟨"WakingPagers", "areLoadedSignsOf", "(LWakingPagers$Identity;)Z"⟩, 12), (⟨"WakingPagers", "layMessages", "(I)V"⟩, 12), (⟨"WakingPagers$Layout", "findPlace", "(LWakingPagers$Identity;I)I"⟩, 2), (⟨"WakingPagers$Layout", "areFree", "(II)Z"⟩, 2), (⟨"WakingPagers$Listener", "hunt", "(I)I"⟩, 8), (⟨"WakingPagers$Listener", "takeBatch", "(I)I"⟩, 8), (⟨"WakingPagers$Listener", "takeWord", "(II)V"⟩, 8), (⟨"WakingPagers$Listener", "endMessage", "(Z)V"⟩, 8), (⟨"WakingPagers$Listener", "store", "(IZ)V"⟩, 8), (⟨"WakingPagers$Listener", "addContent", "(I)V"⟩, 8), (⟨"WakingPagers$Listener", "addSign", "(I)V"⟩, 8), (⟨"WakingPagers$Listener", "beginMessage", "(LWakingPagers$Heard;)V"⟩, 8), (⟨"WakingPagers$Listener", "takeSync", "(I)I"⟩, 8)]
theorem lw_r1 : ∀ q ∈ lw_privs_1, lw_okq q := List.forall_mem_cons.mpr ⟨lw_p0, List.forall_mem_cons.mpr ⟨lw_p1, List.forall_mem_cons.mpr ⟨lw_p2, List.forall_mem_cons.mpr ⟨lw_p3, List.forall_mem_cons.mpr ⟨lw_p4, List.forall_mem_cons.mpr ⟨lw_p5, List.forall_mem_cons.mpr ⟨lw_p6, List.forall_mem_cons.mpr ⟨lw_p7, List.forall_mem_cons.mpr ⟨lw_p8, List.forall_mem_cons.mpr ⟨lw_p9, List.forall_mem_cons.mpr ⟨lw_p10, List.forall_mem_cons.mpr ⟨lw_p11, List.forall_mem_cons.mpr ⟨lw_p12, List.forall_mem_cons.mpr ⟨lw_p13, List.forall_mem_cons.mpr ⟨lw_p14, List.forall_mem_cons.mpr ⟨lw_p15, fun _ h => absurd h List.not_mem_nil⟩⟩⟩⟩⟩⟩⟩⟩⟩⟩⟩⟩⟩⟩⟩⟩
theorem lw_p16 : lw_okq (⟨"WakingPagers", "storedAt", "(II)LWakingPagers$Stored;"⟩, 12) := ⟨⟨by decide +kernel, by decide +kernel⟩, List.mem_of_getElem? (i := 17) (by decide +kernel), List.mem_of_getElem? (i := 592) (by decide +kernel), List.mem_of_getElem? (i := 593) (by decide +kernel)⟩
theorem lw_p17 : lw_okq (⟨"WakingPagersModel", "isPager", "(I)Z"⟩, 37) := ⟨⟨by decide +kernel, by decide +kernel⟩, List.mem_of_getElem? (i := 617) (by decide +kernel), List.mem_of_getElem? (i := 763) (by decide +kernel), List.mem_of_getElem? (i := 764) (by decide +kernel)⟩
theorem lw_p18 : lw_okq (⟨"WakingPagersModel", "isIdentity", "(I)Z"⟩, 37) := ⟨⟨by decide +kernel, by decide +kernel⟩, List.mem_of_getElem? (i := 617) (by decide +kernel), List.mem_of_getElem? (i := 767) (by decide +kernel), List.mem_of_getElem? (i := 768) (by decide +kernel)⟩
theorem lw_p19 : lw_okq (⟨"WakingPagersModel", "listensTo", "(II)Z"⟩, 37) := ⟨⟨by decide +kernel, by decide +kernel⟩, List.mem_of_getElem? (i := 617) (by decide +kernel), List.mem_of_getElem? (i := 771) (by decide +kernel), List.mem_of_getElem? (i := 772) (by decide +kernel)⟩
theorem lw_p20 : lw_okq (⟨"WakingPagersModel", "lay", "(III)I"⟩, 37) := ⟨⟨by decide +kernel, by decide +kernel⟩, List.mem_of_getElem? (i := 617) (by decide +kernel), List.mem_of_getElem? (i := 799) (by decide +kernel), List.mem_of_getElem? (i := 800) (by decide +kernel)⟩
theorem lw_p21 : lw_okq (⟨"WakingPagersModel", "fits", "(III)Z"⟩, 37) := ⟨⟨by decide +kernel, by decide +kernel⟩, List.mem_of_getElem? (i := 617) (by decide +kernel), List.mem_of_getElem? (i := 803) (by decide +kernel), List.mem_of_getElem? (i := 804) (by decide +kernel)⟩
theorem lw_p22 : lw_okq (⟨"WakingPagersModel", "wordsOf", "(I)I"⟩, 37) := ⟨⟨by decide +kernel, by decide +kernel⟩, List.mem_of_getElem? (i := 617) (by decide +kernel), List.mem_of_getElem? (i := 807) (by decide +kernel), List.mem_of_getElem? (i := 808) (by decide +kernel)⟩
theorem lw_p23 : lw_okq (⟨"WakingPagersModel", "layAt", "(II)V"⟩, 37) := ⟨⟨by decide +kernel, by decide +kernel⟩, List.mem_of_getElem? (i := 617) (by decide +kernel), List.mem_of_getElem? (i := 811) (by decide +kernel), List.mem_of_getElem? (i := 812) (by decide +kernel)⟩
theorem lw_p24 : lw_okq (⟨"WakingPagersModel", "addressData", "(I)I"⟩, 37) := ⟨⟨by decide +kernel, by decide +kernel⟩, List.mem_of_getElem? (i := 617) (by decide +kernel), List.mem_of_getElem? (i := 815) (by decide +kernel), List.mem_of_getElem? (i := 816) (by decide +kernel)⟩
theorem lw_p25 : lw_okq (⟨"WakingPagersModel", "outBit", "(II)I"⟩, 37) := ⟨⟨by decide +kernel, by decide +kernel⟩, List.mem_of_getElem? (i := 617) (by decide +kernel), List.mem_of_getElem? (i := 819) (by decide +kernel), List.mem_of_getElem? (i := 820) (by decide +kernel)⟩
theorem lw_p26 : lw_okq (⟨"WakingPagersModel", "outgoing", "(II)I"⟩, 37) := ⟨⟨by decide +kernel, by decide +kernel⟩, List.mem_of_getElem? (i := 617) (by decide +kernel), List.mem_of_getElem? (i := 823) (by decide +kernel), List.mem_of_getElem? (i := 824) (by decide +kernel)⟩
theorem lw_p27 : lw_okq (⟨"WakingPagersModel", "send", "(I)V"⟩, 37) := ⟨⟨by decide +kernel, by decide +kernel⟩, List.mem_of_getElem? (i := 617) (by decide +kernel), List.mem_of_getElem? (i := 828) (by decide +kernel), List.mem_of_getElem? (i := 829) (by decide +kernel)⟩
theorem lw_p28 : lw_okq (⟨"WakingPagersModel", "isSync", "(I)Z"⟩, 37) := ⟨⟨by decide +kernel, by decide +kernel⟩, List.mem_of_getElem? (i := 617) (by decide +kernel), List.mem_of_getElem? (i := 845) (by decide +kernel), List.mem_of_getElem? (i := 846) (by decide +kernel)⟩
theorem lw_p29 : lw_okq (⟨"WakingPagersModel", "wordAt", "(I)I"⟩, 37) := ⟨⟨by decide +kernel, by decide +kernel⟩, List.mem_of_getElem? (i := 617) (by decide +kernel), List.mem_of_getElem? (i := 849) (by decide +kernel), List.mem_of_getElem? (i := 850) (by decide +kernel)⟩
theorem lw_p30 : lw_okq (⟨"WakingPagersModel", "batches", "(I)I"⟩, 37) := ⟨⟨by decide +kernel, by decide +kernel⟩, List.mem_of_getElem? (i := 617) (by decide +kernel), List.mem_of_getElem? (i := 856) (by decide +kernel), List.mem_of_getElem? (i := 857) (by decide +kernel)⟩
theorem lw_p31 : lw_okq (⟨"WakingPagersModel", "isAwake", "(I)Z"⟩, 37) := ⟨⟨by decide +kernel, by decide +kernel⟩, List.mem_of_getElem? (i := 617) (by decide +kernel), List.mem_of_getElem? (i := 860) (by decide +kernel), List.mem_of_getElem? (i := 861) (by decide +kernel)⟩
def lw_privs_2 : List (MethodName × Nat) := [(⟨"WakingPagers", "storedAt", "(II)LWakingPagers$Stored;"⟩, 12), (⟨"WakingPagersModel", "isPager", "(I)Z"⟩, 37), (⟨"WakingPagersModel", "isIdentity", "(I)Z"⟩, 37), (⟨"WakingPagersModel", "listensTo", "(II)Z"⟩, 37), (⟨"WakingPagersModel", "lay", "(III)I"⟩, 37), (⟨"WakingPagersModel", "fits", "(III)Z"⟩, 37), (⟨"WakingPagersModel", "wordsOf", "(I)I"⟩, 37), (⟨"WakingPagersModel", "layAt", "(II)V"⟩, 37), (⟨"WakingPagersModel", "addressData", "(I)I"⟩, 37), (⟨"WakingPagersModel", "outBit", "(II)I"⟩, 37), (⟨"WakingPagersModel", "outgoing", "(II)I"⟩, 37), (⟨"WakingPagersModel", "send", "(I)V"⟩, 37), (⟨"WakingPagersModel", "isSync", "(I)Z"⟩, 37), (⟨"WakingPagersModel", "wordAt", "(I)I"⟩, 37), (⟨"WakingPagersModel", "batches", "(I)I"⟩, 37), (⟨"WakingPagersModel", "isAwake", "(I)Z"⟩, 37)]
theorem lw_r2 : ∀ q ∈ lw_privs_2, lw_okq q := List.forall_mem_cons.mpr ⟨lw_p16, List.forall_mem_cons.mpr ⟨lw_p17, List.forall_mem_cons.mpr ⟨lw_p18, List.forall_mem_cons.mpr ⟨lw_p19, List.forall_mem_cons.mpr ⟨lw_p20, List.forall_mem_cons.mpr ⟨lw_p21, List.forall_mem_cons.mpr ⟨lw_p22, List.forall_mem_cons.mpr ⟨lw_p23, List.forall_mem_cons.mpr ⟨lw_p24, List.forall_mem_cons.mpr ⟨lw_p25, List.forall_mem_cons.mpr ⟨lw_p26, List.forall_mem_cons.mpr ⟨lw_p27, List.forall_mem_cons.mpr ⟨lw_p28, List.forall_mem_cons.mpr ⟨lw_p29, List.forall_mem_cons.mpr ⟨lw_p30, List.forall_mem_cons.mpr ⟨lw_p31, fun _ h => absurd h List.not_mem_nil⟩⟩⟩⟩⟩⟩⟩⟩⟩⟩⟩⟩⟩⟩⟩⟩
theorem lw_p32 : lw_okq (⟨"WakingPagersModel", "look", "(II)V"⟩, 37) := ⟨⟨by decide +kernel, by decide +kernel⟩, List.mem_of_getElem? (i := 617) (by decide +kernel), List.mem_of_getElem? (i := 864) (by decide +kernel), List.mem_of_getElem? (i := 865) (by decide +kernel)⟩
theorem lw_p33 : lw_okq (⟨"WakingPagersModel", "finish", "(Z)V"⟩, 37) := ⟨⟨by decide +kernel, by decide +kernel⟩, List.mem_of_getElem? (i := 617) (by decide +kernel), List.mem_of_getElem? (i := 869) (by decide +kernel), List.mem_of_getElem? (i := 870) (by decide +kernel)⟩
theorem lw_p34 : lw_okq (⟨"WakingPagersModel", "numberOf", "(I)I"⟩, 37) := ⟨⟨by decide +kernel, by decide +kernel⟩, List.mem_of_getElem? (i := 617) (by decide +kernel), List.mem_of_getElem? (i := 873) (by decide +kernel), List.mem_of_getElem? (i := 874) (by decide +kernel)⟩
theorem lw_p35 : lw_okq (⟨"WakingPagersModel", "gotSign", "(I)I"⟩, 37) := ⟨⟨by decide +kernel, by decide +kernel⟩, List.mem_of_getElem? (i := 617) (by decide +kernel), List.mem_of_getElem? (i := 877) (by decide +kernel), List.mem_of_getElem? (i := 878) (by decide +kernel)⟩
theorem lw_p36 : lw_okq (⟨"WakingPagersModel", "room", "()I"⟩, 37) := ⟨⟨by decide +kernel, by decide +kernel⟩, List.mem_of_getElem? (i := 617) (by decide +kernel), List.mem_of_getElem? (i := 881) (by decide +kernel), List.mem_of_getElem? (i := 882) (by decide +kernel)⟩
theorem lw_p37 : lw_okq (⟨"WakingPagersModel", "note", "(I)V"⟩, 37) := ⟨⟨by decide +kernel, by decide +kernel⟩, List.mem_of_getElem? (i := 617) (by decide +kernel), List.mem_of_getElem? (i := 885) (by decide +kernel), List.mem_of_getElem? (i := 886) (by decide +kernel)⟩
theorem lw_p38 : lw_okq (⟨"WakingPagersModel", "add", "(I)V"⟩, 37) := ⟨⟨by decide +kernel, by decide +kernel⟩, List.mem_of_getElem? (i := 617) (by decide +kernel), List.mem_of_getElem? (i := 891) (by decide +kernel), List.mem_of_getElem? (i := 892) (by decide +kernel)⟩
theorem lw_p39 : lw_okq (⟨"WakingPagersModel", "identityOf", "(II)I"⟩, 37) := ⟨⟨by decide +kernel, by decide +kernel⟩, List.mem_of_getElem? (i := 617) (by decide +kernel), List.mem_of_getElem? (i := 895) (by decide +kernel), List.mem_of_getElem? (i := 896) (by decide +kernel)⟩
theorem lw_p40 : lw_okq (⟨"WakingPagersModel", "isKept", "(II)Z"⟩, 37) := ⟨⟨by decide +kernel, by decide +kernel⟩, List.mem_of_getElem? (i := 617) (by decide +kernel), List.mem_of_getElem? (i := 907) (by decide +kernel), List.mem_of_getElem? (i := 908) (by decide +kernel)⟩
def lw_privs_3 : List (MethodName × Nat) := [(⟨"WakingPagersModel", "look", "(II)V"⟩, 37), (⟨"WakingPagersModel", "finish", "(Z)V"⟩, 37), (⟨"WakingPagersModel", "numberOf", "(I)I"⟩, 37), (⟨"WakingPagersModel", "gotSign", "(I)I"⟩, 37), (⟨"WakingPagersModel", "room", "()I"⟩, 37), (⟨"WakingPagersModel", "note", "(I)V"⟩, 37), (⟨"WakingPagersModel", "add", "(I)V"⟩, 37), (⟨"WakingPagersModel", "identityOf", "(II)I"⟩, 37), (⟨"WakingPagersModel", "isKept", "(II)Z"⟩, 37)]
theorem lw_r3 : ∀ q ∈ lw_privs_3, lw_okq q := List.forall_mem_cons.mpr ⟨lw_p32, List.forall_mem_cons.mpr ⟨lw_p33, List.forall_mem_cons.mpr ⟨lw_p34, List.forall_mem_cons.mpr ⟨lw_p35, List.forall_mem_cons.mpr ⟨lw_p36, List.forall_mem_cons.mpr ⟨lw_p37, List.forall_mem_cons.mpr ⟨lw_p38, List.forall_mem_cons.mpr ⟨lw_p39, List.forall_mem_cons.mpr ⟨lw_p40, fun _ h => absurd h List.not_mem_nil⟩⟩⟩⟩⟩⟩⟩⟩⟩
def lw_privs : List (MethodName × Nat) := lw_privs_1 ++ (lw_privs_2 ++ (lw_privs_3))
def lw_tbl : List Cond := k2_sels lw_privs ++ tables_1
theorem lw_privs_ok : ∀ q ∈ lw_privs, lw_okq q := by
  show ∀ q ∈ lw_privs_1 ++ (lw_privs_2 ++ (lw_privs_3)), lw_okq q
  exact List.forall_mem_append.mpr ⟨lw_r1, List.forall_mem_append.mpr ⟨lw_r2, lw_r3⟩⟩
end
section
/-! names: the rows of objects and their fields, the methods, the words that the tables give; written by a program of mine out of the Statement -/
def RAi : String := "WakingPagers$Air"
def TAi : u_T := fun k => match k with
  | 0 => ("WakingPagers$Air", "words", "[I", true)
  | _ => ("WakingPagers$Air", "bitCount", "I", false)
def tyAi : Nat → FieldType := fun k => match k with
  | 0 => .array .int
  | _ => .int
theorem nmAi : ∀ a, a < 2 → ∀ b, b < 2 → a ≠ b → (TAi a).2.1 ≠ (TAi b).2.1 := by decide +kernel
theorem okAi : ∀ k, k < 2 → parseFieldDescriptor (TAi k).2.2.1 = some (tyAi k) := by decide +kernel
def RHd : String := "WakingPagers$Heard"
def THd : u_T := fun k => match k with
  | 0 => ("WakingPagers$Heard", "identity", "LWakingPagers$Identity;", true)
  | 1 => ("WakingPagers$Heard", "gaps", "J", false)
  | _ => ("WakingPagers$Heard", "latest", "I", false)
def tyHd : Nat → FieldType := fun k => match k with
  | 0 => .object "WakingPagers$Identity"
  | 1 => .long
  | _ => .int
theorem nmHd : ∀ a, a < 3 → ∀ b, b < 3 → a ≠ b → (THd a).2.1 ≠ (THd b).2.1 := by decide +kernel
theorem okHd : ∀ k, k < 3 → parseFieldDescriptor (THd k).2.2.1 = some (tyHd k) := by decide +kernel
def RId : String := "WakingPagers$Identity"
def TId : u_T := fun k => match k with
  | 0 => ("WakingPagers$Identity", "index", "I", true)
  | 1 => ("WakingPagers$Identity", "address", "I", true)
  | 2 => ("WakingPagers$Identity", "isText", "Z", true)
  | 3 => ("WakingPagers$Identity", "frame", "I", true)
  | 4 => ("WakingPagers$Identity", "addressWord", "I", true)
  | 5 => ("WakingPagers$Identity", "leastSign", "I", true)
  | 6 => ("WakingPagers$Identity", "greatestSign", "I", true)
  | 7 => ("WakingPagers$Identity", "signBits", "I", true)
  | 8 => ("WakingPagers$Identity", "filler", "I", true)
  | 9 => ("WakingPagers$Identity", "called", "I", false)
  | _ => ("WakingPagers$Identity", "nextPlace", "I", false)
def tyId : Nat → FieldType := fun k => match k with
  | 0 => .int
  | 1 => .int
  | 2 => .boolean
  | 3 => .int
  | 4 => .int
  | 5 => .int
  | 6 => .int
  | 7 => .int
  | 8 => .int
  | 9 => .int
  | _ => .int
theorem nmId : ∀ a, a < 11 → ∀ b, b < 11 → a ≠ b → (TId a).2.1 ≠ (TId b).2.1 := by decide +kernel
theorem okId : ∀ k, k < 11 → parseFieldDescriptor (TId k).2.2.1 = some (tyId k) := by decide +kernel
def RLy : String := "WakingPagers$Layout"
def TLy : u_T := fun k => match k with
  | 0 => ("WakingPagers$Layout", "places", "[I", true)
  | _ => ("WakingPagers$Layout", "placeCount", "I", false)
def tyLy : Nat → FieldType := fun k => match k with
  | 0 => .array .int
  | _ => .int
theorem nmLy : ∀ a, a < 2 → ∀ b, b < 2 → a ≠ b → (TLy a).2.1 ≠ (TLy b).2.1 := by decide +kernel
theorem okLy : ∀ k, k < 2 → parseFieldDescriptor (TLy k).2.2.1 = some (tyLy k) := by decide +kernel
def RLs : String := "WakingPagers$Listener"
def TLs : u_T := fun k => match k with
  | 0 => ("WakingPagers$Listener", "air", "LWakingPagers$Air;", false)
  | 1 => ("WakingPagers$Listener", "pager", "LWakingPagers$Pager;", false)
  | 2 => ("WakingPagers$Listener", "storedNow", "I", false)
  | 3 => ("WakingPagers$Listener", "running", "LWakingPagers$Heard;", false)
  | 4 => ("WakingPagers$Listener", "signs", "[I", true)
  | 5 => ("WakingPagers$Listener", "signCount", "I", false)
  | 6 => ("WakingPagers$Listener", "partOfSign", "I", false)
  | _ => ("WakingPagers$Listener", "partBits", "I", false)
def tyLs : Nat → FieldType := fun k => match k with
  | 0 => .object "WakingPagers$Air"
  | 1 => .object "WakingPagers$Pager"
  | 2 => .int
  | 3 => .object "WakingPagers$Heard"
  | 4 => .array .int
  | 5 => .int
  | 6 => .int
  | _ => .int
theorem nmLs : ∀ a, a < 8 → ∀ b, b < 8 → a ≠ b → (TLs a).2.1 ≠ (TLs b).2.1 := by decide +kernel
theorem okLs : ∀ k, k < 8 → parseFieldDescriptor (TLs k).2.2.1 = some (tyLs k) := by decide +kernel
def RMs : String := "WakingPagers$Message"
def TMs : u_T := fun k => match k with
  | 0 => ("WakingPagers$Message", "to", "LWakingPagers$Identity;", true)
  | 1 => ("WakingPagers$Message", "priority", "I", true)
  | 2 => ("WakingPagers$Message", "number", "I", true)
  | 3 => ("WakingPagers$Message", "signs", "[I", true)
  | 4 => ("WakingPagers$Message", "words", "[I", true)
  | _ => ("WakingPagers$Message", "waits", "Z", false)
def tyMs : Nat → FieldType := fun k => match k with
  | 0 => .object "WakingPagers$Identity"
  | 1 => .int
  | 2 => .int
  | 3 => .array .int
  | 4 => .array .int
  | _ => .boolean
theorem nmMs : ∀ a, a < 6 → ∀ b, b < 6 → a ≠ b → (TMs a).2.1 ≠ (TMs b).2.1 := by decide +kernel
theorem okMs : ∀ k, k < 6 → parseFieldDescriptor (TMs k).2.2.1 = some (tyMs k) := by decide +kernel
def RPg : String := "WakingPagers$Pager"
def TPg : u_T := fun k => match k with
  | 0 => ("WakingPagers$Pager", "heard", "[LWakingPagers$Heard;", true)
  | 1 => ("WakingPagers$Pager", "heardCount", "I", false)
  | 2 => ("WakingPagers$Pager", "ring", "[LWakingPagers$Stored;", true)
  | 3 => ("WakingPagers$Pager", "oldest", "I", false)
  | 4 => ("WakingPagers$Pager", "storedCount", "I", false)
  | 5 => ("WakingPagers$Pager", "bitsAwake", "I", false)
  | 6 => ("WakingPagers$Pager", "bitsRepaired", "I", false)
  | 7 => ("WakingPagers$Pager", "wordsBroken", "I", false)
  | _ => ("WakingPagers$Pager", "messagesLost", "I", false)
def tyPg : Nat → FieldType := fun k => match k with
  | 0 => .array (.object "WakingPagers$Heard")
  | 1 => .int
  | 2 => .array (.object "WakingPagers$Stored")
  | 3 => .int
  | 4 => .int
  | 5 => .int
  | 6 => .int
  | 7 => .int
  | _ => .int
theorem nmPg : ∀ a, a < 9 → ∀ b, b < 9 → a ≠ b → (TPg a).2.1 ≠ (TPg b).2.1 := by decide +kernel
theorem okPg : ∀ k, k < 9 → parseFieldDescriptor (TPg k).2.2.1 = some (tyPg k) := by decide +kernel
def RSd : String := "WakingPagers$Stored"
def TSd : u_T := fun k => match k with
  | 0 => ("WakingPagers$Stored", "identity", "I", false)
  | 1 => ("WakingPagers$Stored", "number", "I", false)
  | 2 => ("WakingPagers$Stored", "marked", "Z", false)
  | 3 => ("WakingPagers$Stored", "signs", "[I", true)
  | _ => ("WakingPagers$Stored", "signCount", "I", false)
def tySd : Nat → FieldType := fun k => match k with
  | 0 => .int
  | 1 => .int
  | 2 => .boolean
  | 3 => .array .int
  | _ => .int
theorem nmSd : ∀ a, a < 5 → ∀ b, b < 5 → a ≠ b → (TSd a).2.1 ≠ (TSd b).2.1 := by decide +kernel
theorem okSd : ∀ k, k < 5 → parseFieldDescriptor (TSd k).2.2.1 = some (tySd k) := by decide +kernel
def RWP : String := "WakingPagers"
def TWP : u_T := fun k => match k with
  | 0 => ("WakingPagers", "identities", "[LWakingPagers$Identity;", true)
  | 1 => ("WakingPagers", "identityCount", "I", false)
  | 2 => ("WakingPagers", "pagers", "[LWakingPagers$Pager;", true)
  | 3 => ("WakingPagers", "pagerCount", "I", false)
  | 4 => ("WakingPagers", "messages", "[LWakingPagers$Message;", true)
  | 5 => ("WakingPagers", "messageCount", "I", false)
  | 6 => ("WakingPagers", "waitingCount", "I", false)
  | 7 => ("WakingPagers", "loaded", "[I", true)
  | 8 => ("WakingPagers", "loadedCount", "I", false)
  | 9 => ("WakingPagers", "layout", "LWakingPagers$Layout;", true)
  | 10 => ("WakingPagers", "air", "LWakingPagers$Air;", true)
  | _ => ("WakingPagers", "listener", "LWakingPagers$Listener;", true)
def tyWP : Nat → FieldType := fun k => match k with
  | 0 => .array (.object "WakingPagers$Identity")
  | 1 => .int
  | 2 => .array (.object "WakingPagers$Pager")
  | 3 => .int
  | 4 => .array (.object "WakingPagers$Message")
  | 5 => .int
  | 6 => .int
  | 7 => .array .int
  | 8 => .int
  | 9 => .object "WakingPagers$Layout"
  | 10 => .object "WakingPagers$Air"
  | _ => .object "WakingPagers$Listener"
theorem nmWP : ∀ a, a < 12 → ∀ b, b < 12 → a ≠ b → (TWP a).2.1 ≠ (TWP b).2.1 := by decide +kernel
theorem okWP : ∀ k, k < 12 → parseFieldDescriptor (TWP k).2.2.1 = some (tyWP k) := by decide +kernel
def RMo : String := "WakingPagersModel"
def TMo : u_T := fun k => match k with
  | 0 => ("WakingPagersModel", "many", "I", false)
  | 1 => ("WakingPagersModel", "address", "[I", true)
  | 2 => ("WakingPagersModel", "kind", "[I", true)
  | 3 => ("WakingPagersModel", "called", "[I", true)
  | 4 => ("WakingPagersModel", "messages", "I", false)
  | 5 => ("WakingPagersModel", "to", "[I", true)
  | 6 => ("WakingPagersModel", "priority", "[I", true)
  | 7 => ("WakingPagersModel", "numbers", "[I", true)
  | 8 => ("WakingPagersModel", "lengths", "[I", true)
  | 9 => ("WakingPagersModel", "signs", "[I", true)
  | 10 => ("WakingPagersModel", "waits", "[Z", true)
  | 11 => ("WakingPagersModel", "loaded", "[I", true)
  | 12 => ("WakingPagersModel", "loads", "I", false)
  | 13 => ("WakingPagersModel", "words", "[I", true)
  | 14 => ("WakingPagersModel", "taken", "[Z", true)
  | 15 => ("WakingPagersModel", "air", "[I", true)
  | 16 => ("WakingPagersModel", "bits", "I", false)
  | 17 => ("WakingPagersModel", "content", "I", false)
  | 18 => ("WakingPagersModel", "filled", "I", false)
  | 19 => ("WakingPagersModel", "pagers", "I", false)
  | 20 => ("WakingPagersModel", "hears", "[I", true)
  | 21 => ("WakingPagersModel", "heard", "[I", true)
  | 22 => ("WakingPagersModel", "kept", "[I", true)
  | 23 => ("WakingPagersModel", "keptOf", "[I", true)
  | 24 => ("WakingPagersModel", "keptNumber", "[I", true)
  | 25 => ("WakingPagersModel", "keptMany", "[I", true)
  | 26 => ("WakingPagersModel", "marked", "[Z", true)
  | 27 => ("WakingPagersModel", "keptSigns", "[I", true)
  | 28 => ("WakingPagersModel", "missing", "[J", true)
  | 29 => ("WakingPagersModel", "latest", "[I", true)
  | 30 => ("WakingPagersModel", "counts", "[I", true)
  | 31 => ("WakingPagersModel", "who", "I", false)
  | 32 => ("WakingPagersModel", "running", "I", false)
  | 33 => ("WakingPagersModel", "got", "[I", true)
  | 34 => ("WakingPagersModel", "gotMany", "I", false)
  | 35 => ("WakingPagersModel", "fresh", "I", false)
  | _ => ("WakingPagersModel", "end", "[I", true)
def tyMo : Nat → FieldType := fun k => match k with
  | 0 => .int
  | 1 => .array .int
  | 2 => .array .int
  | 3 => .array .int
  | 4 => .int
  | 5 => .array .int
  | 6 => .array .int
  | 7 => .array .int
  | 8 => .array .int
  | 9 => .array .int
  | 10 => .array .boolean
  | 11 => .array .int
  | 12 => .int
  | 13 => .array .int
  | 14 => .array .boolean
  | 15 => .array .int
  | 16 => .int
  | 17 => .int
  | 18 => .int
  | 19 => .int
  | 20 => .array .int
  | 21 => .array .int
  | 22 => .array .int
  | 23 => .array .int
  | 24 => .array .int
  | 25 => .array .int
  | 26 => .array .boolean
  | 27 => .array .int
  | 28 => .array .long
  | 29 => .array .int
  | 30 => .array .int
  | 31 => .int
  | 32 => .int
  | 33 => .array .int
  | 34 => .int
  | 35 => .int
  | _ => .array .int
theorem nmMo : ∀ a, a < 37 → ∀ b, b < 37 → a ≠ b → (TMo a).2.1 ≠ (TMo b).2.1 := by decide +kernel
theorem okMo : ∀ k, k < 37 → parseFieldDescriptor (TMo k).2.2.1 = some (tyMo k) := by decide +kernel
abbrev vwCl : List vw_C := [(RAi, TAi, 2), (RHd, THd, 3), (RId, TId, 11), (RLy, TLy, 2), (RLs, TLs, 8), (RMs, TMs, 6), (RPg, TPg, 9), (RSd, TSd, 5), (RWP, TWP, 12), (RMo, TMo, 37)]
theorem hc_0 : vwCl[0]? = some (RAi, TAi, 2) := rfl
theorem hc_1 : vwCl[1]? = some (RHd, THd, 3) := rfl
theorem hc_2 : vwCl[2]? = some (RId, TId, 11) := rfl
theorem hc_3 : vwCl[3]? = some (RLy, TLy, 2) := rfl
theorem hc_4 : vwCl[4]? = some (RLs, TLs, 8) := rfl
theorem hc_5 : vwCl[5]? = some (RMs, TMs, 6) := rfl
theorem hc_6 : vwCl[6]? = some (RPg, TPg, 9) := rfl
theorem hc_7 : vwCl[7]? = some (RSd, TSd, 5) := rfl
theorem hc_8 : vwCl[8]? = some (RWP, TWP, 12) := rfl
theorem hc_9 : vwCl[9]? = some (RMo, TMo, 37) := rfl
def zw_rl : List Nat := [1, 2, 5, 6, 7]
def za_L : List String := [RHd, RId, RMs, RPg, RSd]
theorem za_1 : RHd ∈ za_L := List.mem_of_getElem? (i := 0) rfl
theorem za_2 : RId ∈ za_L := List.mem_of_getElem? (i := 1) rfl
theorem za_5 : RMs ∈ za_L := List.mem_of_getElem? (i := 2) rfl
theorem za_6 : RPg ∈ za_L := List.mem_of_getElem? (i := 3) rfl
theorem za_7 : RSd ∈ za_L := List.mem_of_getElem? (i := 4) rfl
abbrev cWP_init : ByteArray := prog_1_method_1_code
def yWP_init : MethodName := ⟨RWP, "<init>", "()V"⟩
abbrev cWP_areLoadedSignsOf : ByteArray := prog_1_method_25_code
def yWP_areLoadedSignsOf : MethodName := ⟨RWP, "areLoadedSignsOf", "(LWakingPagers$Identity;)Z"⟩
abbrev cWP_bit : ByteArray := prog_1_method_12_code
def yWP_bit : MethodName := ⟨RWP, "bit", "(I)I"⟩
abbrev cWP_byteOf : ByteArray := prog_1_method_27_code
def yWP_byteOf : MethodName := ⟨RWP, "byteOf", "(JI)I"⟩
abbrev cWP_call : ByteArray := prog_1_method_9_code
def yWP_call : MethodName := ⟨RWP, "call", "(II)I"⟩
abbrev cWP_code : ByteArray := prog_1_method_2_code
def yWP_code : MethodName := ⟨RWP, "code", "(I)I"⟩
abbrev cWP_codewordOf : ByteArray := prog_1_method_28_code
def yWP_codewordOf : MethodName := ⟨RWP, "codewordOf", "(I)I"⟩
abbrev cWP_count : ByteArray := prog_1_method_19_code
def yWP_count : MethodName := ⟨RWP, "count", "(II)I"⟩
abbrev cWP_desk : ByteArray := prog_1_method_20_code
def yWP_desk : MethodName := ⟨RWP, "desk", "(III)I"⟩
abbrev cWP_flip : ByteArray := prog_1_method_13_code
def yWP_flip : MethodName := ⟨RWP, "flip", "(I)I"⟩
abbrev cWP_hear : ByteArray := prog_1_method_14_code
def yWP_hear : MethodName := ⟨RWP, "hear", "(II)I"⟩
abbrev cWP_identity : ByteArray := prog_1_method_4_code
def yWP_identity : MethodName := ⟨RWP, "identity", "(II)I"⟩
abbrev cWP_identityAt : ByteArray := prog_1_method_21_code
def yWP_identityAt : MethodName := ⟨RWP, "identityAt", "(I)LWakingPagers$Identity;"⟩
abbrev cWP_isAddressUsed : ByteArray := prog_1_method_24_code
def yWP_isAddressUsed : MethodName := ⟨RWP, "isAddressUsed", "(I)Z"⟩
abbrev cWP_isSync : ByteArray := prog_1_method_29_code
def yWP_isSync : MethodName := ⟨RWP, "isSync", "(I)Z"⟩
abbrev cWP_join : ByteArray := prog_1_method_6_code
def yWP_join : MethodName := ⟨RWP, "join", "(II)I"⟩
abbrev cWP_kept : ByteArray := prog_1_method_15_code
def yWP_kept : MethodName := ⟨RWP, "kept", "(I)I"⟩
abbrev cWP_layMessages : ByteArray := prog_1_method_26_code
def yWP_layMessages : MethodName := ⟨RWP, "layMessages", "(I)V"⟩
abbrev cWP_load : ByteArray := prog_1_method_7_code
def yWP_load : MethodName := ⟨RWP, "load", "(JI)I"⟩
abbrev cWP_message : ByteArray := prog_1_method_16_code
def yWP_message : MethodName := ⟨RWP, "message", "(III)I"⟩
abbrev cWP_missed : ByteArray := prog_1_method_18_code
def yWP_missed : MethodName := ⟨RWP, "missed", "(II)J"⟩
abbrev cWP_pager : ByteArray := prog_1_method_5_code
def yWP_pager : MethodName := ⟨RWP, "pager", "()I"⟩
abbrev cWP_pagerAt : ByteArray := prog_1_method_22_code
def yWP_pagerAt : MethodName := ⟨RWP, "pagerAt", "(I)LWakingPagers$Pager;"⟩
abbrev cWP_repair : ByteArray := prog_1_method_3_code
def yWP_repair : MethodName := ⟨RWP, "repair", "(I)I"⟩
abbrev cWP_sign : ByteArray := prog_1_method_17_code
def yWP_sign : MethodName := ⟨RWP, "sign", "(III)I"⟩
abbrev cWP_storedAt : ByteArray := prog_1_method_23_code
def yWP_storedAt : MethodName := ⟨RWP, "storedAt", "(II)LWakingPagers$Stored;"⟩
abbrev cWP_transmit : ByteArray := prog_1_method_11_code
def yWP_transmit : MethodName := ⟨RWP, "transmit", "(I)I"⟩
abbrev cWP_unload : ByteArray := prog_1_method_8_code
def yWP_unload : MethodName := ⟨RWP, "unload", "()I"⟩
abbrev cWP_waiting : ByteArray := prog_1_method_10_code
def yWP_waiting : MethodName := ⟨RWP, "waiting", "()I"⟩
abbrev cAi_init : ByteArray := prog_2_method_1_code
def yAi_init : MethodName := ⟨RAi, "<init>", "()V"⟩
abbrev cAi_bitAt : ByteArray := prog_2_method_5_code
def yAi_bitAt : MethodName := ⟨RAi, "bitAt", "(I)I"⟩
abbrev cAi_changeBit : ByteArray := prog_2_method_6_code
def yAi_changeBit : MethodName := ⟨RAi, "changeBit", "(I)V"⟩
abbrev cAi_hasBit : ByteArray := prog_2_method_3_code
def yAi_hasBit : MethodName := ⟨RAi, "hasBit", "(I)Z"⟩
abbrev cAi_hasWord : ByteArray := prog_2_method_4_code
def yAi_hasWord : MethodName := ⟨RAi, "hasWord", "(I)Z"⟩
abbrev cAi_send : ByteArray := prog_2_method_2_code
def yAi_send : MethodName := ⟨RAi, "send", "([II)V"⟩
abbrev cAi_wordAt : ByteArray := prog_2_method_7_code
def yAi_wordAt : MethodName := ⟨RAi, "wordAt", "(I)I"⟩
abbrev cHd_init : ByteArray := prog_3_method_1_code
def yHd_init : MethodName := ⟨RHd, "<init>", "(LWakingPagers$Identity;)V"⟩
abbrev cHd_noteNumber : ByteArray := prog_3_method_2_code
def yHd_noteNumber : MethodName := ⟨RHd, "noteNumber", "(I)V"⟩
abbrev cId_init : ByteArray := prog_4_method_1_code
def yId_init : MethodName := ⟨RId, "<init>", "(III)V"⟩
abbrev cId_decimal : ByteArray := prog_4_method_5_code
def yId_decimal : MethodName := ⟨RId, "decimal", "(II)I"⟩
abbrev cId_numberIn : ByteArray := prog_4_method_4_code
def yId_numberIn : MethodName := ⟨RId, "numberIn", "([II)I"⟩
abbrev cId_numberSign : ByteArray := prog_4_method_3_code
def yId_numberSign : MethodName := ⟨RId, "numberSign", "(II)I"⟩
abbrev cId_numberSigns : ByteArray := prog_4_method_2_code
def yId_numberSigns : MethodName := ⟨RId, "numberSigns", "()I"⟩
abbrev cLy_init : ByteArray := prog_5_method_1_code
def yLy_init : MethodName := ⟨RLy, "<init>", "()V"⟩
abbrev cLy_areFree : ByteArray := prog_5_method_5_code
def yLy_areFree : MethodName := ⟨RLy, "areFree", "(II)Z"⟩
abbrev cLy_clear : ByteArray := prog_5_method_2_code
def yLy_clear : MethodName := ⟨RLy, "clear", "(I)V"⟩
abbrev cLy_findPlace : ByteArray := prog_5_method_4_code
def yLy_findPlace : MethodName := ⟨RLy, "findPlace", "(LWakingPagers$Identity;I)I"⟩
abbrev cLy_lay : ByteArray := prog_5_method_3_code
def yLy_lay : MethodName := ⟨RLy, "lay", "(LWakingPagers$Message;)Z"⟩
abbrev cLs_init : ByteArray := prog_6_method_1_code
def yLs_init : MethodName := ⟨RLs, "<init>", "()V"⟩
abbrev cLs_addContent : ByteArray := prog_6_method_8_code
def yLs_addContent : MethodName := ⟨RLs, "addContent", "(I)V"⟩
abbrev cLs_addSign : ByteArray := prog_6_method_9_code
def yLs_addSign : MethodName := ⟨RLs, "addSign", "(I)V"⟩
abbrev cLs_beginMessage : ByteArray := prog_6_method_7_code
def yLs_beginMessage : MethodName := ⟨RLs, "beginMessage", "(LWakingPagers$Heard;)V"⟩
abbrev cLs_endMessage : ByteArray := prog_6_method_10_code
def yLs_endMessage : MethodName := ⟨RLs, "endMessage", "(Z)V"⟩
abbrev cLs_hunt : ByteArray := prog_6_method_3_code
def yLs_hunt : MethodName := ⟨RLs, "hunt", "(I)I"⟩
abbrev cLs_listen : ByteArray := prog_6_method_2_code
def yLs_listen : MethodName := ⟨RLs, "listen", "(LWakingPagers$Pager;LWakingPagers$Air;I)I"⟩
abbrev cLs_store : ByteArray := prog_6_method_11_code
def yLs_store : MethodName := ⟨RLs, "store", "(IZ)V"⟩
abbrev cLs_takeBatch : ByteArray := prog_6_method_4_code
def yLs_takeBatch : MethodName := ⟨RLs, "takeBatch", "(I)I"⟩
abbrev cLs_takeSync : ByteArray := prog_6_method_5_code
def yLs_takeSync : MethodName := ⟨RLs, "takeSync", "(I)I"⟩
abbrev cLs_takeWord : ByteArray := prog_6_method_6_code
def yLs_takeWord : MethodName := ⟨RLs, "takeWord", "(II)V"⟩
abbrev cMs_init : ByteArray := prog_7_method_1_code
def yMs_init : MethodName := ⟨RMs, "<init>", "(LWakingPagers$Identity;II[I)V"⟩
abbrev cMs_sentSign : ByteArray := prog_7_method_3_code
def yMs_sentSign : MethodName := ⟨RMs, "sentSign", "(ILWakingPagers$Identity;I[I)I"⟩
abbrev cMs_wordsOf : ByteArray := prog_7_method_2_code
def yMs_wordsOf : MethodName := ⟨RMs, "wordsOf", "(LWakingPagers$Identity;I[I)[I"⟩
abbrev cPg_init : ByteArray := prog_8_method_1_code
def yPg_init : MethodName := ⟨RPg, "<init>", "()V"⟩
abbrev cPg_addHeard : ByteArray := prog_8_method_2_code
def yPg_addHeard : MethodName := ⟨RPg, "addHeard", "(LWakingPagers$Identity;)Z"⟩
abbrev cPg_calledBy : ByteArray := prog_8_method_5_code
def yPg_calledBy : MethodName := ⟨RPg, "calledBy", "(II)LWakingPagers$Heard;"⟩
abbrev cPg_hasFrame : ByteArray := prog_8_method_4_code
def yPg_hasFrame : MethodName := ⟨RPg, "hasFrame", "(I)Z"⟩
abbrev cPg_heardOf : ByteArray := prog_8_method_3_code
def yPg_heardOf : MethodName := ⟨RPg, "heardOf", "(I)LWakingPagers$Heard;"⟩
abbrev cPg_nextStored : ByteArray := prog_8_method_7_code
def yPg_nextStored : MethodName := ⟨RPg, "nextStored", "()LWakingPagers$Stored;"⟩
abbrev cPg_storedAt : ByteArray := prog_8_method_6_code
def yPg_storedAt : MethodName := ⟨RPg, "storedAt", "(I)LWakingPagers$Stored;"⟩
abbrev cRp_oneWrongBit : ByteArray := prog_9_method_5_code
def yRp_oneWrongBit : MethodName := ⟨"WakingPagers$Repairer", "oneWrongBit", "(I)I"⟩
abbrev cRp_remainder : ByteArray := prog_9_method_2_code
def yRp_remainder : MethodName := ⟨"WakingPagers$Repairer", "remainder", "(I)I"⟩
abbrev cRp_traceOf : ByteArray := prog_9_method_3_code
def yRp_traceOf : MethodName := ⟨"WakingPagers$Repairer", "traceOf", "(I)I"⟩
abbrev cRp_twoWrongBits : ByteArray := prog_9_method_6_code
def yRp_twoWrongBits : MethodName := ⟨"WakingPagers$Repairer", "twoWrongBits", "(I)I"⟩
abbrev cRp_wrongBits : ByteArray := prog_9_method_4_code
def yRp_wrongBits : MethodName := ⟨"WakingPagers$Repairer", "wrongBits", "(I)I"⟩
abbrev cSd_init : ByteArray := prog_10_method_1_code
def ySd_init : MethodName := ⟨RSd, "<init>", "()V"⟩
abbrev cMo_init : ByteArray := prog_12_method_1_code
def yMo_init : MethodName := ⟨RMo, "<init>", "()V"⟩
abbrev cMo_add : ByteArray := prog_12_method_36_code
def yMo_add : MethodName := ⟨RMo, "add", "(I)V"⟩
abbrev cMo_addressData : ByteArray := prog_12_method_17_code
def yMo_addressData : MethodName := ⟨RMo, "addressData", "(I)I"⟩
abbrev cMo_batches : ByteArray := prog_12_method_39_code
def yMo_batches : MethodName := ⟨RMo, "batches", "(I)I"⟩
abbrev cMo_bit : ByteArray := prog_12_method_26_code
def yMo_bit : MethodName := ⟨RMo, "bit", "(I)I"⟩
abbrev cMo_call : ByteArray := prog_12_method_16_code
def yMo_call : MethodName := ⟨RMo, "call", "(II)I"⟩
abbrev cMo_code : ByteArray := prog_12_method_3_code
def yMo_code : MethodName := ⟨RMo, "code", "(I)I"⟩
abbrev cMo_codeword : ByteArray := prog_12_method_2_code
def yMo_codeword : MethodName := ⟨RMo, "codeword", "(I)I"⟩
abbrev cMo_count : ByteArray := prog_12_method_46_code
def yMo_count : MethodName := ⟨RMo, "count", "(II)I"⟩
abbrev cMo_desk : ByteArray := prog_12_method_47_code
def yMo_desk : MethodName := ⟨RMo, "desk", "(III)I"⟩
abbrev cMo_finish : ByteArray := prog_12_method_34_code
def yMo_finish : MethodName := ⟨RMo, "finish", "(Z)V"⟩
abbrev cMo_fits : ByteArray := prog_12_method_22_code
def yMo_fits : MethodName := ⟨RMo, "fits", "(III)Z"⟩
abbrev cMo_flip : ByteArray := prog_12_method_27_code
def yMo_flip : MethodName := ⟨RMo, "flip", "(I)I"⟩
abbrev cMo_gotSign : ByteArray := prog_12_method_30_code
def yMo_gotSign : MethodName := ⟨RMo, "gotSign", "(I)I"⟩
abbrev cMo_hear : ByteArray := prog_12_method_40_code
def yMo_hear : MethodName := ⟨RMo, "hear", "(II)I"⟩
abbrev cMo_identity : ByteArray := prog_12_method_7_code
def yMo_identity : MethodName := ⟨RMo, "identity", "(II)I"⟩
abbrev cMo_identityOf : ByteArray := prog_12_method_35_code
def yMo_identityOf : MethodName := ⟨RMo, "identityOf", "(II)I"⟩
abbrev cMo_isAwake : ByteArray := prog_12_method_38_code
def yMo_isAwake : MethodName := ⟨RMo, "isAwake", "(I)Z"⟩
abbrev cMo_isCodeword : ByteArray := prog_12_method_4_code
def yMo_isCodeword : MethodName := ⟨RMo, "isCodeword", "(I)Z"⟩
abbrev cMo_isIdentity : ByteArray := prog_12_method_10_code
def yMo_isIdentity : MethodName := ⟨RMo, "isIdentity", "(I)Z"⟩
abbrev cMo_isKept : ByteArray := prog_12_method_42_code
def yMo_isKept : MethodName := ⟨RMo, "isKept", "(II)Z"⟩
abbrev cMo_isPager : ByteArray := prog_12_method_9_code
def yMo_isPager : MethodName := ⟨RMo, "isPager", "(I)Z"⟩
abbrev cMo_isSync : ByteArray := prog_12_method_29_code
def yMo_isSync : MethodName := ⟨RMo, "isSync", "(I)Z"⟩
abbrev cMo_join : ByteArray := prog_12_method_12_code
def yMo_join : MethodName := ⟨RMo, "join", "(II)I"⟩
abbrev cMo_kept : ByteArray := prog_12_method_41_code
def yMo_kept : MethodName := ⟨RMo, "kept", "(I)I"⟩
abbrev cMo_lay : ByteArray := prog_12_method_23_code
def yMo_lay : MethodName := ⟨RMo, "lay", "(III)I"⟩
abbrev cMo_layAt : ByteArray := prog_12_method_21_code
def yMo_layAt : MethodName := ⟨RMo, "layAt", "(II)V"⟩
abbrev cMo_listensTo : ByteArray := prog_12_method_11_code
def yMo_listensTo : MethodName := ⟨RMo, "listensTo", "(II)Z"⟩
abbrev cMo_load : ByteArray := prog_12_method_13_code
def yMo_load : MethodName := ⟨RMo, "load", "(JI)I"⟩
abbrev cMo_look : ByteArray := prog_12_method_37_code
def yMo_look : MethodName := ⟨RMo, "look", "(II)V"⟩
abbrev cMo_message : ByteArray := prog_12_method_43_code
def yMo_message : MethodName := ⟨RMo, "message", "(III)I"⟩
abbrev cMo_missed : ByteArray := prog_12_method_45_code
def yMo_missed : MethodName := ⟨RMo, "missed", "(II)J"⟩
abbrev cMo_note : ByteArray := prog_12_method_33_code
def yMo_note : MethodName := ⟨RMo, "note", "(I)V"⟩
abbrev cMo_numberOf : ByteArray := prog_12_method_31_code
def yMo_numberOf : MethodName := ⟨RMo, "numberOf", "(I)I"⟩
abbrev cMo_onesOf : ByteArray := prog_12_method_5_code
def yMo_onesOf : MethodName := ⟨RMo, "onesOf", "(I)I"⟩
abbrev cMo_outBit : ByteArray := prog_12_method_20_code
def yMo_outBit : MethodName := ⟨RMo, "outBit", "(II)I"⟩
abbrev cMo_outgoing : ByteArray := prog_12_method_19_code
def yMo_outgoing : MethodName := ⟨RMo, "outgoing", "(II)I"⟩
abbrev cMo_pager : ByteArray := prog_12_method_8_code
def yMo_pager : MethodName := ⟨RMo, "pager", "()I"⟩
abbrev cMo_repair : ByteArray := prog_12_method_6_code
def yMo_repair : MethodName := ⟨RMo, "repair", "(I)I"⟩
abbrev cMo_room : ByteArray := prog_12_method_32_code
def yMo_room : MethodName := ⟨RMo, "room", "()I"⟩
abbrev cMo_send : ByteArray := prog_12_method_24_code
def yMo_send : MethodName := ⟨RMo, "send", "(I)V"⟩
abbrev cMo_sign : ByteArray := prog_12_method_44_code
def yMo_sign : MethodName := ⟨RMo, "sign", "(III)I"⟩
abbrev cMo_transmit : ByteArray := prog_12_method_25_code
def yMo_transmit : MethodName := ⟨RMo, "transmit", "(I)I"⟩
abbrev cMo_unload : ByteArray := prog_12_method_14_code
def yMo_unload : MethodName := ⟨RMo, "unload", "()I"⟩
abbrev cMo_waiting : ByteArray := prog_12_method_15_code
def yMo_waiting : MethodName := ⟨RMo, "waiting", "()I"⟩
abbrev cMo_wordAt : ByteArray := prog_12_method_28_code
def yMo_wordAt : MethodName := ⟨RMo, "wordAt", "(I)I"⟩
abbrev cMo_wordsOf : ByteArray := prog_12_method_18_code
def yMo_wordsOf : MethodName := ⟨RMo, "wordsOf", "(I)I"⟩
abbrev cIn_bitCount : ByteArray := prog_14_method_49_code
def yIn_bitCount : MethodName := ⟨"java/lang/Integer", "bitCount", "(I)I"⟩
abbrev cMa_floorMod : ByteArray := prog_15_method_50_code
def yMa_floorMod : MethodName := ⟨"java/lang/Math", "floorMod", "(II)I"⟩
abbrev cMa_min : ByteArray := prog_15_method_69_code
def yMa_min : MethodName := ⟨"java/lang/Math", "min", "(II)I"⟩
abbrev cAr_copyOf : ByteArray := prog_17_method_123_code
def yAr_copyOf : MethodName := ⟨"java/util/Arrays", "copyOf", "([II)[I"⟩
abbrev cAr_fill : ByteArray := prog_17_method_103_code
def yAr_fill : MethodName := ⟨"java/util/Arrays", "fill", "([II)V"⟩
def zn_L : List (String × Nat × MethodName × String) := [(RWP, 49, yLy_init, RWP), (RWP, 56, yAi_init, RWP), (RWP, 63, yLs_init, RWP), (RId, 31, yWP_codewordOf, RWP), (RPg, 43, ySd_init, RWP), (RMs, 54, yWP_codewordOf, RWP), (RLs, 71, yWP_isSync, RWP)]
theorem zn_0 : (RWP, 49, yLy_init, RWP) ∈ zn_L := List.mem_of_getElem? (i := 0) rfl
theorem zn_1 : (RWP, 56, yAi_init, RWP) ∈ zn_L := List.mem_of_getElem? (i := 1) rfl
theorem zn_2 : (RWP, 63, yLs_init, RWP) ∈ zn_L := List.mem_of_getElem? (i := 2) rfl
theorem zn_3 : (RId, 31, yWP_codewordOf, RWP) ∈ zn_L := List.mem_of_getElem? (i := 3) rfl
theorem zn_4 : (RPg, 43, ySd_init, RWP) ∈ zn_L := List.mem_of_getElem? (i := 4) rfl
theorem zn_5 : (RMs, 54, yWP_codewordOf, RWP) ∈ zn_L := List.mem_of_getElem? (i := 5) rfl
theorem zn_6 : (RLs, 71, yWP_isSync, RWP) ∈ zn_L := List.mem_of_getElem? (i := 6) rfl
def zT : List Cond := lw_tbl.filter goodWord
theorem zt_mem {w : Cond} (i : Nat) (h : tables_1[i]? = some w) (hg : goodWord w = true) : w ∈ zT := List.mem_filter.mpr ⟨List.mem_append_right _ (List.mem_of_getElem? h), hg⟩
theorem zt_m1 {w : Cond} (i : Nat) (h : tables_1_1[i]? = some w) (hg : goodWord w = true) : w ∈ zT := List.mem_filter.mpr ⟨List.mem_append_right _ (List.mem_append_left _ (List.mem_of_getElem? h)), hg⟩
theorem zt_m2 {w : Cond} (i : Nat) (h : tables_1_2[i]? = some w) (hg : goodWord w = true) : w ∈ zT := List.mem_filter.mpr ⟨List.mem_append_right _ (List.mem_append_right _ (List.mem_append_left _ (List.mem_of_getElem? h))), hg⟩
theorem zt_m3 {w : Cond} (i : Nat) (h : tables_1_3[i]? = some w) (hg : goodWord w = true) : w ∈ zT := List.mem_filter.mpr ⟨List.mem_append_right _ (List.mem_append_right _ (List.mem_append_right _ (List.mem_append_left _ (List.mem_of_getElem? h)))), hg⟩
theorem zt_m4 {w : Cond} (i : Nat) (h : tables_1_4[i]? = some w) (hg : goodWord w = true) : w ∈ zT := List.mem_filter.mpr ⟨List.mem_append_right _ (List.mem_append_right _ (List.mem_append_right _ (List.mem_append_right _ (List.mem_of_getElem? h)))), hg⟩
theorem zt_sel {w : Cond} (i : Nat) (h : (k2_sels lw_privs)[i]? = some w) (hg : goodWord w = true) : w ∈ zT := List.mem_filter.mpr ⟨List.mem_append_left _ (List.mem_of_getElem? h), hg⟩
theorem zt_G {c : Cond} (h : c ∈ zT) : GoodIn zT (c :: zT) := by
  intro w hw
  have hz : w ∈ zT := by
    rcases List.mem_cons.mp hw with rfl | h1
    · exact h
    · exact h1
  exact ⟨hz, good_of_word (List.mem_filter.mp hz).2⟩
theorem zt_app {a b : List Cond} (ha : ∀ w ∈ a, w ∈ zT) (hb : GoodIn zT b) : GoodIn zT (a ++ b) := by
  intro w hw
  rcases List.mem_append.mp hw with h | h
  · exact ⟨ha w h, good_of_word (List.mem_filter.mp (ha w h)).2⟩
  · exact hb w h
theorem zt_S {own : String} {idx maxL : Nat} {y : MethodName} {b : ByteArray} {ret : Option FieldType} (h1 : Cond.methodLink own idx y ∈ zT) (h2 : Cond.static y ∈ zT) (h3 : Cond.initialized y.cls ∈ zT) (h4 : Cond.code y b maxL ret ∈ zT) : GoodIn zT (va_wsS own idx y (Cond.code y b maxL ret :: zT)) :=
  zt_app (List.forall_mem_cons.mpr ⟨h1, List.forall_mem_cons.mpr ⟨h2, List.forall_mem_cons.mpr ⟨h3, fun _ h => absurd h List.not_mem_nil⟩⟩⟩) (zt_G h4)
theorem zt_V {own C : String} {idx maxL : Nat} {y : MethodName} {b : ByteArray} {ret : Option FieldType} (h1 : Cond.methodLink own idx y ∈ zT) (h2 : Cond.instanceMethod y ∈ zT) (h5 : Cond.selects C y y ∈ zT) (h3 : Cond.initialized C ∈ zT) (h4 : Cond.code y b maxL ret ∈ zT) : GoodIn zT (wsV own idx C y (Cond.code y b maxL ret :: zT)) :=
  zt_app (List.forall_mem_cons.mpr ⟨h1, List.forall_mem_cons.mpr ⟨h2, List.forall_mem_cons.mpr ⟨h5, List.forall_mem_cons.mpr ⟨h3, fun _ h => absurd h List.not_mem_nil⟩⟩⟩⟩) (zt_G h4)
end
section
/-! My own words for worlds: a memory w of typed cells (kind, length), of ints, references and longs by (name, address, index), and the heap's size. Kinds: 0 none; ci + 1 an object of row ci of vwCl; 100.. int arrays, 200.. boolean arrays, 300.. long arrays, 400 + ci arrays of references to objects of row ci. A field k of row ci has the name 1000 + 64 * ci + k. -/
def zi_shl (x y : Int32) : Int32 := x <<< (y &&& 31)
def zi_shr (x y : Int32) : Int32 := x >>> (y &&& 31)
def zi_ushr (x y : Int32) : Int32 := (x.toUInt32 >>> (y.toUInt32 &&& Int32.toUInt32 31)).toInt32
def zi_rem (x y : Int32) : Int32 := x - x / y * y
def zi_lshl (x : Int64) (y : Int32) : Int64 := x <<< (y.toInt64 &&& 63)
def zi_lshr (x : Int64) (y : Int32) : Int64 := x >>> (y.toInt64 &&& 63)
def zi_lushr (x : Int64) (y : Int32) : Int64 := (x.toUInt64 >>> (y.toInt64.toUInt64 &&& Int64.toUInt64 63)).toInt64
def zf_let {α β : Type} (x : α) (k : α → β) : β := k x
abbrev zw_T : Type := (Nat → Nat × Nat) × (Nat → Nat → Nat → Int32) × (Nat → Nat → Nat → Option Nat) × (Nat → Nat → Nat → Int64) × Nat
def zw_ty (w : zw_T) : Nat → Nat × Nat := w.1
def zw_I (w : zw_T) : Nat → Nat → Nat → Int32 := w.2.1
def zw_R (w : zw_T) : Nat → Nat → Nat → Option Nat := w.2.2.1
def zw_L (w : zw_T) : Nat → Nat → Nat → Int64 := w.2.2.2.1
def zw_n (w : zw_T) : Nat := w.2.2.2.2
def zw_u2 {α : Type} (f : Nat → Nat → α) (k a : Nat) (v : α) : Nat → Nat → α := fun k' a' => if k' = k ∧ a' = a then v else f k' a'
/-- an int row replaced, an int, a reference, a long written -/
def zw_sF (w : zw_T) (k a : Nat) (f : Nat → Int32) : zw_T := (w.1, zw_u2 w.2.1 k a f, w.2.2)
def zw_sI (w : zw_T) (k a i : Nat) (v : Int32) : zw_T := zw_sF w k a (upd (zw_I w k a) i v)
def zw_sR (w : zw_T) (k a i : Nat) (v : Option Nat) : zw_T := (w.1, w.2.1, zw_u2 w.2.2.1 k a (va_up (zw_R w k a) i v), w.2.2.2)
def zw_sL (w : zw_T) (k a i : Nat) (v : Int64) : zw_T := (w.1, w.2.1, w.2.2.1, zw_u2 w.2.2.2.1 k a (vp_updL (zw_L w k a) i v), w.2.2.2.2)
/-- a new cell at the heap's end -/
def zw_new (w : zw_T) (kd n : Nat) : zw_T := (va_up w.1 (zw_n w) (kd, n), (fun k a => if a = zw_n w then fun _ => 0 else w.2.1 k a), (fun k a => if a = zw_n w then fun _ => none else w.2.2.1 k a), (fun k a => if a = zw_n w then fun _ => 0 else w.2.2.2.1 k a), zw_n w + 1)
def zw_tc (d : String) : Nat := if d = "J" then 2 else if d = "I" then 0 else if d = "Z" then 0 else 1
def zw_nf (ci : Nat) : Nat := match vwCl[ci]? with
  | some q => q.2.2
  | none => 0
def zw_ft (ci k : Nat) : Nat := match vwCl[ci]? with
  | some q => zw_tc (q.2.1 k).2.2.1
  | none => 0
def zw_fv (w : zw_T) (t id a : Nat) : Value := match t with
  | 0 => .int (zw_I w id a 0)
  | 1 => va_rf (zw_R w id a 0)
  | _ => .long (zw_L w id a 0)
def zw_fs (w : zw_T) (ci a : Nat) : List Value := (List.range (zw_nf ci)).map (fun k => zw_fv w (zw_ft ci k) (1000 + 64 * ci + k) a)
abbrev zw_G : Type := ClassId × ClassId × ClassId × (Nat → ClassId)
def zw_cell (G : zw_G) (w : zw_T) (a : Nat) : va_E :=
  if (zw_ty w a).1 < 100 then .inr ((zw_ty w a).1 - 1, zw_fs w ((zw_ty w a).1 - 1) a)
  else if (zw_ty w a).1 < 200 then .inl (G.1, (zw_ty w a).2, .inl (zw_I w (zw_ty w a).1 a))
  else if (zw_ty w a).1 < 300 then .inl (G.2.1, (zw_ty w a).2, .inl (zw_I w (zw_ty w a).1 a))
  else if (zw_ty w a).1 < 400 then .inl (G.2.2.1, (zw_ty w a).2, .inr (.inl (zw_L w (zw_ty w a).1 a)))
  else .inl (G.2.2.2 ((zw_ty w a).1 - 400), (zw_ty w a).2, .inr (.inr (.inr (.inr (zw_R w (zw_ty w a).1 a)))))
/-- the heap holds the memory, all of it in A, and ends where the memory says -/
def zw_ok (D : va_G) (G : zw_G) (A : Nat → Prop) (w : zw_T) (H : Heap) : Prop := H.size = zw_n w ∧ ∀ a, (zw_ty w a).1 ≠ 0 → va_at D vwCl (a, zw_cell G w a) H ∧ A a
theorem zw_one {D : va_G} {cl : List vw_C} {q : Nat × va_E} {H : Heap} (h : va_at D cl q H) : va_P D cl [q] H := by
  intro k x hk
  cases k with
  | zero => cases hk; exact h
  | succ k => simp at hk
theorem zw_cell_o {G : zw_G} {w : zw_T} {a ci : Nat} (h : (zw_ty w a).1 = ci + 1) (hc : ci < 99) : zw_cell G w a = .inr (ci, zw_fs w ci a) := by
  unfold zw_cell
  rw [h, if_pos (by omega)]
  rfl
theorem zw_cell_i {G : zw_G} {w : zw_T} {a kd : Nat} (h : (zw_ty w a).1 = kd) (h1 : 100 ≤ kd) (h2 : kd < 200) : zw_cell G w a = .inl (G.1, (zw_ty w a).2, .inl (zw_I w kd a)) := by
  unfold zw_cell
  rw [h, if_neg (by omega), if_pos (by omega)]
theorem zw_cell_z {G : zw_G} {w : zw_T} {a kd : Nat} (h : (zw_ty w a).1 = kd) (h1 : 200 ≤ kd) (h2 : kd < 300) : zw_cell G w a = .inl (G.2.1, (zw_ty w a).2, .inl (zw_I w kd a)) := by
  unfold zw_cell
  rw [h, if_neg (by omega), if_neg (by omega), if_pos (by omega)]
theorem zw_cell_l {G : zw_G} {w : zw_T} {a kd : Nat} (h : (zw_ty w a).1 = kd) (h1 : 300 ≤ kd) (h2 : kd < 400) : zw_cell G w a = .inl (G.2.2.1, (zw_ty w a).2, .inr (.inl (zw_L w kd a))) := by
  unfold zw_cell
  rw [h, if_neg (by omega), if_neg (by omega), if_neg (by omega), if_pos (by omega)]
theorem zw_cell_r {G : zw_G} {w : zw_T} {a ci : Nat} (h : (zw_ty w a).1 = 400 + ci) : zw_cell G w a = .inl (G.2.2.2 ci, (zw_ty w a).2, .inr (.inr (.inr (.inr (zw_R w (400 + ci) a))))) := by
  unfold zw_cell
  rw [h, if_neg (by omega), if_neg (by omega), if_neg (by omega), if_neg (by omega), Nat.add_sub_cancel_left]
/-- one cell changes -/
theorem zw_move {D : va_G} {G : zw_G} {A : Nat → Prop} {w w' : zw_T} {H H1 : Heap} {a : Nat} (h : zw_ok D G A w H) (hty : zw_ty w' = zw_ty w) (hn : zw_n w' = zw_n w) (hc : ∀ b, b ≠ a → zw_cell G w' b = zw_cell G w b) (ha : va_at D vwCl (a, zw_cell G w' a) H1) (hz : H1.size = H.size) (ho : ∀ q : Nat, q ≠ a → H1[q]? = H[q]?) : zw_ok D G A w' H1 := by
  refine ⟨by rw [hz, hn]; exact h.1, fun b hb => ?_⟩
  rw [hty] at hb
  by_cases hba : b = a
  · subst hba
    exact ⟨ha, (h.2 b hb).2⟩
  · rw [hc b hba]
    exact ⟨(h.2 b hb).1.kept (ho b hba), (h.2 b hb).2⟩
/-- one cell comes -/
theorem zw_born {D : va_G} {G : zw_G} {A : Nat → Prop} {w w' : zw_T} {H H1 : Heap} {kd n : Nat} (h : zw_ok D G A w H) (hw : w' = zw_new w kd n) (ha : va_at D vwCl (zw_n w, zw_cell G w' (zw_n w)) H1) (hA : A (zw_n w)) (hz : H1.size = H.size + 1) (ho : ∀ q : Nat, q < H.size → H1[q]? = H[q]?) : zw_ok D G A w' H1 := by
  subst hw
  refine ⟨by rw [hz, h.1]; rfl, fun b hb => ?_⟩
  by_cases hba : b = zw_n w
  · subst hba
    exact ⟨ha, hA⟩
  · have e1 : zw_ty (zw_new w kd n) b = zw_ty w b := va_up_ne _ _ hba
    have e2 : ∀ k, zw_I (zw_new w kd n) k b = zw_I w k b := fun k => if_neg hba
    have e3 : ∀ k, zw_R (zw_new w kd n) k b = zw_R w k b := fun k => if_neg hba
    have e4 : ∀ k, zw_L (zw_new w kd n) k b = zw_L w k b := fun k => if_neg hba
    have e5 : ∀ ci, zw_fs (zw_new w kd n) ci b = zw_fs w ci b := by
      intro ci
      unfold zw_fs
      apply List.map_congr_left
      intro k _
      unfold zw_fv
      rw [e2, e3, e4]
    have e : zw_cell G (zw_new w kd n) b = zw_cell G w b := by
      unfold zw_cell
      rw [e1, e2, e3, e4, e5]
    rw [e1] at hb
    rw [e]
    exact ⟨(h.2 b hb).1.kept (ho b (h.2 b hb).1.lt), (h.2 b hb).2⟩
theorem zw_u2_ne {α : Type} {f : Nat → Nat → α} {k a k' b : Nat} {v : α} (h : b ≠ a) : zw_u2 f k a v k' b = f k' b := by
  unfold zw_u2
  rw [if_neg (fun q => h q.2)]
theorem zw_u2_eq {α : Type} {f : Nat → Nat → α} {k a : Nat} {v : α} : zw_u2 f k a v k a = v := by
  unfold zw_u2
  rw [if_pos ⟨rfl, rfl⟩]
theorem zw_u2_nk {α : Type} {f : Nat → Nat → α} {k a k' b : Nat} {v : α} (h : k' ≠ k) : zw_u2 f k a v k' b = f k' b := by
  unfold zw_u2
  rw [if_neg (fun q => h q.1)]
theorem zw_same {G : zw_G} {w w' : zw_T} {b : Nat} (h1 : zw_ty w' b = zw_ty w b) (h2 : ∀ k, zw_I w' k b = zw_I w k b) (h3 : ∀ k, zw_R w' k b = zw_R w k b) (h4 : ∀ k, zw_L w' k b = zw_L w k b) : zw_cell G w' b = zw_cell G w b := by
  have e5 : ∀ ci, zw_fs w' ci b = zw_fs w ci b := by
    intro ci
    unfold zw_fs
    apply List.map_congr_left
    intro k _
    unfold zw_fv
    rw [h2, h3, h4]
  unfold zw_cell
  rw [h1, h2, h3, h4, e5]
theorem zw_sF_ne {G : zw_G} {w : zw_T} {k a b : Nat} {f : Nat → Int32} (h : b ≠ a) : zw_cell G (zw_sF w k a f) b = zw_cell G w b := zw_same rfl (fun _ => zw_u2_ne h) (fun _ => rfl) (fun _ => rfl)
theorem zw_sR_ne {G : zw_G} {w : zw_T} {k a b i : Nat} {v : Option Nat} (h : b ≠ a) : zw_cell G (zw_sR w k a i v) b = zw_cell G w b := zw_same rfl (fun _ => rfl) (fun _ => zw_u2_ne h) (fun _ => rfl)
theorem zw_sL_ne {G : zw_G} {w : zw_T} {k a b i : Nat} {v : Int64} (h : b ≠ a) : zw_cell G (zw_sL w k a i v) b = zw_cell G w b := zw_same rfl (fun _ => rfl) (fun _ => rfl) (fun _ => zw_u2_ne h)
/-- a list of the values of a function, one place changed -/
theorem zw_mapset {n k : Nat} {f g : Nat → Value} {v : Value} (hk : k < n) (h1 : g k = v) (h2 : ∀ j, j ≠ k → g j = f j) : (List.range n).map g = ((List.range n).map f).set k v := by
  apply List.ext_getElem?
  intro j
  by_cases hj : j = k
  · subst hj
    rw [List.getElem?_set_self (by simpa using hk), List.getElem?_map, List.getElem?_range hk]
    simp [h1]
  · rw [List.getElem?_set_ne (Ne.symm hj), List.getElem?_map, List.getElem?_map]
    cases hq : (List.range n)[j]? with
    | none => rfl
    | some x =>
      have hx : x = j := by
        obtain ⟨h3, h4⟩ := List.getElem?_eq_some_iff.mp hq
        rw [List.getElem_range] at h4
        exact h4.symm
      subst hx
      simp [h2 x hj]
theorem zw_fs_at {w : zw_T} {ci a k : Nat} (hk : k < zw_nf ci) : (zw_fs w ci a)[k]? = some (zw_fv w (zw_ft ci k) (1000 + 64 * ci + k) a) := by
  unfold zw_fs
  rw [List.getElem?_map, List.getElem?_range hk]
  rfl
theorem zw_fs_len {w : zw_T} {ci a : Nat} : (zw_fs w ci a).length = zw_nf ci := by
  unfold zw_fs
  simp
theorem zw_fs_I {w : zw_T} {ci a k : Nat} {v : Int32} (hk : k < zw_nf ci) (ht : zw_ft ci k = 0) : zw_fs (zw_sI w (1000 + 64 * ci + k) a 0 v) ci a = (zw_fs w ci a).set k (.int v) := by
  unfold zw_fs
  refine zw_mapset hk ?_ ?_
  · rw [ht]
    show Value.int (zw_u2 (α := Nat → Int32) _ _ _ _ _ _ 0) = _
    rw [zw_u2_eq]
    rfl
  · intro j hj
    unfold zw_fv
    have e : zw_I (zw_sI w (1000 + 64 * ci + k) a 0 v) (1000 + 64 * ci + j) a = zw_I w (1000 + 64 * ci + j) a := zw_u2_nk (by omega)
    rw [e]
    rfl
theorem zw_fs_R {w : zw_T} {ci a k : Nat} {v : Option Nat} (hk : k < zw_nf ci) (ht : zw_ft ci k = 1) : zw_fs (zw_sR w (1000 + 64 * ci + k) a 0 v) ci a = (zw_fs w ci a).set k (va_rf v) := by
  unfold zw_fs
  refine zw_mapset hk ?_ ?_
  · rw [ht]
    show va_rf (zw_u2 (α := Nat → Option Nat) _ _ _ _ _ _ 0) = _
    rw [zw_u2_eq]
    rfl
  · intro j hj
    unfold zw_fv
    have e : zw_R (zw_sR w (1000 + 64 * ci + k) a 0 v) (1000 + 64 * ci + j) a = zw_R w (1000 + 64 * ci + j) a := zw_u2_nk (by omega)
    rw [e]
    rfl
theorem zw_fs_L {w : zw_T} {ci a k : Nat} {v : Int64} (hk : k < zw_nf ci) (ht : zw_ft ci k = 2) : zw_fs (zw_sL w (1000 + 64 * ci + k) a 0 v) ci a = (zw_fs w ci a).set k (.long v) := by
  unfold zw_fs
  refine zw_mapset hk ?_ ?_
  · rw [ht]
    show Value.long (zw_u2 (α := Nat → Int64) _ _ _ _ _ _ 0) = _
    rw [zw_u2_eq]
    rfl
  · intro j hj
    unfold zw_fv
    have e : zw_L (zw_sL w (1000 + 64 * ci + k) a 0 v) (1000 + 64 * ci + j) a = zw_L w (1000 + 64 * ci + j) a := zw_u2_nk (by omega)
    rw [e]
    rfl
/-! the locals, by their numbers -/
def zl_has (ls : Array Slot) (lv : List (Option Value)) : Prop := ls.size = lv.length ∧ lv_wf ls ∧ ∀ (i : Nat) (v : Value), lv[i]? = some (some v) → ls[i]? = some (.val v)
def zl_as (lv : List (Option Value)) : List (Nat × Value) := (List.range lv.length).filterMap (fun i => (lv[i]?.join).map (fun v => (i, v)))
def zl_free (lv : List (Option Value)) (i : Nat) : Bool := match i with
  | 0 => true
  | j + 1 => match lv[j]? with
    | some (some w) => w.category == 1
    | _ => true
theorem zl_mem {lv : List (Option Value)} {i : Nat} {v : Value} : (i, v) ∈ zl_as lv ↔ lv[i]? = some (some v) := by
  unfold zl_as
  rw [List.mem_filterMap]
  constructor
  · rintro ⟨j, -, h⟩
    cases hq : lv[j]? with
    | none => rw [hq] at h; simp at h
    | some o =>
      rw [hq] at h
      cases o with
      | none => simp at h
      | some x =>
        simp at h
        obtain ⟨h1, h2⟩ := h
        subst h1; subst h2
        exact hq
  · intro h
    refine ⟨i, List.mem_range.mpr (List.getElem?_eq_some_iff.mp h).1, ?_⟩
    rw [h]
    rfl
theorem zl_to {ls : Array Slot} {lv : List (Option Value)} (h : zl_has ls lv) : lv_has ls lv.length (zl_as lv) := ⟨h.1, h.2.1, fun q hq => h.2.2 q.1 q.2 (zl_mem.mp hq)⟩
theorem zl_of1 {ls : Array Slot} {lv : List (Option Value)} {i : Nat} {v : Value} (h : lv_has ls lv.length ((i, v) :: (zl_as lv).filter (fun q => !(q.1 == i) && !(q.1 + 1 == i && q.2.category == 2)))) (hi : i < lv.length) (hf : zl_free lv i = true) : zl_has ls (lv.set i (some v)) := by
  refine ⟨by rw [List.length_set]; exact h.1, h.2.1, fun j x hj => ?_⟩
  by_cases hji : j = i
  · subst hji
    rw [List.getElem?_set_self hi] at hj
    cases hj
    exact h.2.2 (j, v) List.mem_cons_self
  · rw [List.getElem?_set_ne (Ne.symm hji)] at hj
    refine h.2.2 (j, x) (List.mem_cons_of_mem _ (List.mem_filter.mpr ⟨zl_mem.mpr hj, ?_⟩))
    have h1 : (j == i) = false := by simpa using hji
    simp only [h1, Bool.not_false, Bool.true_and]
    by_cases h2 : j + 1 = i
    · subst h2
      have h3 : zl_free lv (j + 1) = (x.category == 1) := by
        unfold zl_free
        simp only [hj]
      rw [h3] at hf
      have h4 : x.category = 1 := by simpa using hf
      simp [h4]
    · simp [h2]
theorem zl_of2 {ls : Array Slot} {lv : List (Option Value)} {i : Nat} {v : Value} (h : lv_has ls lv.length ((i, v) :: (zl_as lv).filter (fun q => !(q.1 == i) && (!(q.1 == i + 1) && !(q.1 + 1 == i && q.2.category == 2))))) (hi : i + 1 < lv.length) (hf : zl_free lv i = true) : zl_has ls ((lv.set i (some v)).set (i + 1) none) := by
  refine ⟨by rw [List.length_set, List.length_set]; exact h.1, h.2.1, fun j x hj => ?_⟩
  by_cases hj1 : j = i + 1
  · subst hj1
    rw [List.getElem?_set_self (by rw [List.length_set]; exact hi)] at hj
    cases hj
  · rw [List.getElem?_set_ne (Ne.symm hj1)] at hj
    by_cases hji : j = i
    · subst hji
      rw [List.getElem?_set_self (by omega)] at hj
      cases hj
      exact h.2.2 (j, v) List.mem_cons_self
    · rw [List.getElem?_set_ne (Ne.symm hji)] at hj
      refine h.2.2 (j, x) (List.mem_cons_of_mem _ (List.mem_filter.mpr ⟨zl_mem.mpr hj, ?_⟩))
      have h1 : (j == i) = false := by simpa using hji
      have h1' : (j == i + 1) = false := by simpa using hj1
      simp only [h1, h1', Bool.not_false, Bool.true_and]
      by_cases h2 : j + 1 = i
      · subst h2
        have h3 : zl_free lv (j + 1) = (x.category == 1) := by
          unfold zl_free
          simp only [hj]
        rw [h3] at hf
        have h4 : x.category = 1 := by simpa using hf
        simp [h4]
      · simp [h2]
/-- fewer known locals -/
def zl_le (l' l : List (Option Value)) : Prop := l'.length = l.length ∧ ∀ (i : Nat) (v : Value), l'[i]? = some (some v) → l[i]? = some (some v)
theorem zl_n : zl_le [] [] := ⟨rfl, fun _ _ h => h⟩
theorem zl_k {x : Option Value} {l' l : List (Option Value)} (h : zl_le l' l) : zl_le (x :: l') (x :: l) := by
  refine ⟨by simp [h.1], fun i v hi => ?_⟩
  cases i with
  | zero => exact hi
  | succ i => exact h.2 i v hi
theorem zl_d {x : Option Value} {l' l : List (Option Value)} (h : zl_le l' l) : zl_le (none :: l') (x :: l) := by
  refine ⟨by simp [h.1], fun i v hi => ?_⟩
  cases i with
  | zero => cases hi
  | succ i => exact h.2 i v hi
theorem zl_has_le {ls : Array Slot} {l' l : List (Option Value)} (h : zl_has ls l) (hl : zl_le l' l) : zl_has ls l' := ⟨by rw [hl.1]; exact h.1, h.2.1, fun i v hi => h.2.2 i v (hl.2 i v hi)⟩
/-! the statics that nobody writes; the judgement -/
def zs_tr (j : Nat) : Int32 := ([0x001, 0x003, 0x005, 0x009, 0x011, 0x021, 0x041, 0x081, 0x101, 0x201, 0x401, 0x6D3, 0x377, 0x6ED, 0x30B, 0x615, 0x2FB, 0x5F5, 0x53B, 0x4A7, 0x79F, 0x1EF, 0x3DD, 0x7B9, 0x1A3, 0x345, 0x689, 0x3C3, 0x785, 0x1DB, 0x3B5, 0x769] : List Int32).getD j 0
def zn_ok (U : State) : Prop := (∀ q ∈ zn_L, va_Nw (.methodLinkNest q.1 q.2.1 q.2.2.1 q.2.2.2) U) ∧ ∀ C ∈ za_L, va_AO C U
def zs_ok (A : Nat → Prop) (U : State) (H : Heap) : Prop := zn_ok U ∧ ∃ t : Nat, va_Z "WakingPagers$Repairer" "TRACES" "[I" (.ref t) A U H ∧ va_T .int t 32 (fun j => .int (zs_tr j)) A U H
end
section
/-! The judgement zg: the machine, anywhere in a method with the memory w, comes to its end as Q says. -/
def zw_nm (ci : Nat) : String := match vwCl[ci]? with
  | some q => q.1
  | none => ""
def zw_tys (G : zw_G) : List (ClassId × FieldType) := [(G.1, .int), (G.2.1, .boolean), (G.2.2.1, .long)] ++ zw_rl.map (fun ci => (G.2.2.2 ci, .object (zw_nm ci)))
abbrev zg_X : Type := Program × Launch × Env × Room × State × MethodId × Array Value × List Frame × Method × Code
def zg_ok (X : zg_X) (cc : ByteArray) (own : String) (nL fr lo mc : Nat) (D : va_G) (G : zw_G) (A : Nat → Prop) : Prop := match X with
  | (p, _, _, R, s, m, args, _, meth, c) => p.tables.exec = Jvm.exec ∧ c.code = cc ∧ c.maxLocals = nL ∧ s.vm.findClass own = some m.cls ∧ (∀ q ∈ zT, q.before args s = true) ∧ va_K D vwCl (zw_tys G) s ∧ (∀ q, s.heap.size ≤ q → A q) ∧ meth.locks = false ∧ R.frames = fr ∧ R.cells = mc ∧ R.slots = 4096 * mc ∧ R.locals = lo ∧ zs_ok A s s.heap
def zg (X : zg_X) (D : va_G) (G : zw_G) (A : Nat → Prop) (Q : State → Prop) (ck : Nat) (w : zw_T) (pc : Nat) (lv : List (Option Value)) (st : List Value) : Prop := match X with
  | (p, l, e, R, s, m, args, below, meth, c) => ∀ (H : Heap) (locs : List Loc) (ls : Array Slot), zl_has ls lv → zw_ok D G A w H → va_S A s.heap H locs → W p l e R s m args below meth c H locs ck (4096 * ck) Q (F0 m pc ls st)
theorem zg_sub {X : zg_X} {D : va_G} {G : zw_G} {A : Nat → Prop} {Q : State → Prop} {ck : Nat} {w : zw_T} {pc : Nat} {lv lv' : List (Option Value)} {st : List Value} (hl : zl_le lv' lv) (k : zg X D G A Q ck w pc lv' st) : zg X D G A Q ck w pc lv st := by
  obtain ⟨p, l, e, R, s, m, args, below, meth, c⟩ := X
  intro H locs ls h1 h2 h3
  exact k H locs ls (zl_has_le h1 hl) h2 h3
theorem zg_wide {X : zg_X} {D : va_G} {G : zw_G} {A : Nat → Prop} {Q : State → Prop} {ck ck' : Nat} {w : zw_T} {pc : Nat} {lv : List (Option Value)} {st : List Value} (hl : ck ≤ ck') (k : zg X D G A Q ck' w pc lv st) : zg X D G A Q ck w pc lv st := by
  obtain ⟨p, l, e, R, s, m, args, below, meth, c⟩ := X
  intro H locs ls h1 h2 h3
  exact W.widen hl (Nat.mul_le_mul_left 4096 hl) (k H locs ls h1 h2 h3)
/-! contracts: a method does what a function of mine says -/
def zp_pre (D : va_G) (G : zw_G) (A : Nat → Prop) (w : zw_T) (U : State) : Prop := zw_ok D G A w U.heap ∧ va_K D vwCl (zw_tys G) U ∧ (∀ q, U.heap.size ≤ q → A q) ∧ zs_ok A U U.heap
def zq (D : va_G) (G : zw_G) (A : Nat → Prop) (res : Option Value × zw_T) : Array Value → State → Outcome → State → Prop := fun _ st oc t => (oc = .returned res.1 ∧ zw_ok D G A res.2 t.heap) ∧ va_F A st t
def zc_rm (fr lo mc : Nat) : Room := { frames := fr, cells := mc, slots := 4096 * mc, locals := lo }
def zc (l : Launch) (y : MethodName) (ws : List Cond) (fr lo mc : Nat) (D : va_G) (G : zw_G) (A : Nat → Prop) (av : List Value) (w : zw_T) (res : Option Value × zw_T) : Prop := Met l y ws (zc_rm fr lo mc) (va_Pc av (zp_pre D G A w)) (zq D G A res) mc (4096 * mc) A
def zr_i (r : Int32 × zw_T) : Option Value × zw_T := (some (.int r.1), r.2)
def zr_l (r : Int64 × zw_T) : Option Value × zw_T := (some (.long r.1), r.2)
def zr_r (r : Option Nat × zw_T) : Option Value × zw_T := (some (va_rf r.1), r.2)
def zr_v (r : zw_T) : Option Value × zw_T := (none, r)
theorem zs_keep {A : Nat → Prop} {s U : State} {H : Heap} {locs : List Loc} (hZ : zs_ok A s s.heap) (h3 : va_S A s.heap H locs) (hU : U.heap = H) (hW : s.WarmedH U.vm) : zs_ok A U U.heap := by
  obtain ⟨hN, t, z1, z2⟩ := hZ
  rw [hU]
  exact ⟨⟨fun q hq => (hN.1 q hq).warmM hW, fun C hC => (hN.2 C hC).moved hW.alike⟩, t, (z1.kept (fun a h h' => h3.2.1 a h h')).moved hW.alike, (z2.kept (fun a h h' => h3.2.1 a h h')).moved hW.alike⟩
theorem zp_blind {D : va_G} {G : zw_G} {A : Nat → Prop} {w : zw_T} {av : List Value} : FrameBlind (va_Pc av (zp_pre D G A w)) := by
  intro a U g mk q
  obtain ⟨q0, q1, q2, q3, hN, t, z1, z2⟩ := q
  exact ⟨q0, q1, va_K.moved (u := U) (U := U.calling g mk a) (Vm.Alike.refl U.vm) q2, q3, ⟨fun q hq => (hN.1 q hq).same rfl rfl, fun C hC => va_AO.moved (u := U) (U := U.calling g mk a) (Vm.Alike.refl U.vm) (hN.2 C hC)⟩, t, va_Z.moved (u := U) (U := U.calling g mk a) (Vm.Alike.refl U.vm) z1, va_T.moved (u := U) (U := U.calling g mk a) (Vm.Alike.refl U.vm) z2⟩
theorem zp_at {D : va_G} {G : zw_G} {A : Nat → Prop} {w : zw_T} {av : List Value} {s : State} {H : Heap} {locs : List Loc} (hK : va_K D vwCl (zw_tys G) s) (hA : ∀ q, s.heap.size ≤ q → A q) (hZ : zs_ok A s s.heap) (h2 : zw_ok D G A w H) (h3 : va_S A s.heap H locs) : ∀ U : State, U.heap = H → s.WarmedH U.vm → va_Pc av (zp_pre D G A w) av.toArray U :=
  fun U hU hW => ⟨rfl, by rw [hU]; exact h2, va_K.moved hW.alike hK, fun q hq => hA q (Nat.le_trans h3.1 (by rw [← hU]; exact hq)), zs_keep hZ h3 hU hW⟩
/-- behind a call -/
theorem zg_back {p : Program} {l : Launch} {e : Env} {R : Room} {s : State} {m : MethodId} {args : Array Value} {below : List Frame} {meth : Method} {c : Code} {H : Heap} {locs : List Loc} {ck : Nat} {Q : State → Prop} {pc : Nat} {ls : Array Slot} {st st0 : List Value} {mcy : Nat} {res : Option Value × zw_T} {D : va_G} {G : zw_G} {A : Nat → Prop} {av : Array Value}
    (hr : va_Run p l e R s m args below meth c H locs ck (4096 * ck) mcy (4096 * mcy) (F0 m pc ls st0) st (zq D G A res av) A) (h3 : va_S A s.heap H locs)
    (kk : ∀ (H1 : Heap) (locs1 : List Loc), zw_ok D G A res.2 H1 → va_S A s.heap H1 locs1 → W p l e R s m args below meth c H1 locs1 (ck + mcy) (4096 * (ck + mcy)) Q (F0 m (pc + 3) ls (res.1.toList ++ st))) : W p l e R s m args below meth c H locs ck (4096 * ck) Q (F0 m pc ls st0) := by
  intro T hT X
  obtain ⟨v, st₀, t, T', L, h0, X', hL, e1, e2, ⟨⟨hv, hw⟩, hz, hk⟩, sp⟩ := hr T hT X
  have hv' : v = res.1 := by cases hv; rfl
  subst hv'
  rw [h0] at hz hk
  rw [← Nat.mul_add] at X'
  obtain ⟨t2, a1, b1⟩ := kk T'.heap (locs ++ L) (by rw [e1]; exact hw) ⟨Nat.le_trans h3.1 (by rw [e1]; exact hz), fun q g1 g2 => by rw [e1, hk q (Nat.lt_of_lt_of_le g1 h3.1) g2]; exact h3.2.1 q g1 g2, fun q hq => by
      rcases List.mem_append.mp hq with h | h
      · exact h3.2.2 q h
      · exact hL q h⟩ T' rfl X'
  exact ⟨t2, sp t2 a1, b1⟩
def zg_Q (X : zg_X) (D : va_G) (G : zw_G) (A : Nat → Prop) (mc : Nat) (res : Option Value × zw_T) : State → Prop := match X with
  | (_, _, _, _, s, _, args, below, _, _) => MQ below (zq D G A res) args s mc (4096 * mc) A
def zg_rt (X : zg_X) : Option FieldType := match X with
  | (_, _, _, _, _, _, _, _, meth, _) => meth.sig.returnType
def zg_nm (X : zg_X) : String := match X with
  | (_, _, _, _, _, _, _, _, meth, _) => meth.name
/-- a contract out of a walk from the entry -/
theorem zc_of {l : Launch} {y : MethodName} {ws : List Cond} {cc : ByteArray} {maxL fr lo mc : Nat} {ret : Option FieldType} {D : va_G} {G : zw_G} {A : Nat → Prop} {av : List Value} {w : zw_T} {res : Option Value × zw_T} (lv : List (Option Value))
    (hy : plainName y.cls = true) (hw : ws = Cond.code y cc maxL ret :: zT) (hn : (lg_sl av).length ≤ maxL) (hl : zl_as lv = lv_args 0 av) (hlen : lv.length = maxL)
    (body : ∀ X : zg_X, zg_ok X cc y.cls maxL fr lo mc D G A → zg_rt X = ret → zg_nm X = y.name → zg X D G A (zg_Q X D G A mc res) 0 w 0 lv []) : zc l y ws fr lo mc D G A av w res := by
  refine Met.ofW (cc := cc) (maxL := maxL) (ret := ret) hy hw ?_
  intro p e s m args below meth c s₁ B hml hv
  obtain ⟨rfl, hW, hK, hA, hZ⟩ := hv
  have hts := fun q hq => atoms_spec (ws := ws) B.pre q (by rw [hw]; exact List.mem_cons_of_mem _ hq)
  have hb := body (p, l, e, zc_rm fr lo mc, s, m, av.toArray, below, meth, c) ⟨B.exec, B.bytes, hml, findClass_of_methodNamed B.named, hts, hK, hA, B.notSynchronized, rfl, rfl, rfl, rfl, hZ⟩ B.returns (name_of_methodNamed B.named B.method).1
  have he := lv_entry av (n := maxL) hn
  rw [lg_entry_eq]
  refine hb s.heap [] _ ⟨by rw [hlen]; exact he.1, he.2.1, fun i v hi => ?_⟩ hW va_S.rf
  refine he.2.2 (i, v) ?_
  rw [← hl]
  exact zl_mem.mpr hi
/-! ends -/
theorem zq_end {D : va_G} {G : zw_G} {A : Nat → Prop} {s : State} {H : Heap} {locs : List Loc} {args : Array Value} {v : Option Value} {w : zw_T} (h2 : zw_ok D G A w H) (h3 : va_S A s.heap H locs) : ∀ t : State, t.heap = H → s.WarmedH t.vm → zq D G A (v, w) args s (.returned v) t :=
  fun t ht _ => ⟨⟨rfl, by rw [ht]; exact h2⟩, h3.F ht⟩
theorem zg_iret {X : zg_X} {D : va_G} {G : zw_G} {A : Nat → Prop} {ck : Nat} {w : zw_T} {pc : Nat} {lv : List (Option Value)} {cc : ByteArray} {own : String} {nL fr lo mc : Nat} {v : Int32} (hX : zg_ok X cc own nL fr lo mc D G A) (hr : zg_rt X = some .int) (hc : ck ≤ mc) (hd : decode cc pc = .ok (.ireturn, 1)) : zg X D G A (zg_Q X D G A mc (some (.int v), w)) ck w pc lv [.int v] := by
  refine zg_wide hc ?_
  obtain ⟨p, l, e, R, s, m, args, below, meth, c⟩ := X
  obtain ⟨hx, hb, hml, ho, hts, hK, hA, hlk, hfr, hR1, hR2, hlo, hZ⟩ := hX
  intro H locs ls h1 h2 h3
  exact W.iret hx hb hr (zq_end h2 h3) h3.2.2 hd hlk
theorem zg_zret {X : zg_X} {D : va_G} {G : zw_G} {A : Nat → Prop} {ck : Nat} {w : zw_T} {pc : Nat} {lv : List (Option Value)} {cc : ByteArray} {own : String} {nL fr lo mc : Nat} {v : Int32} (hX : zg_ok X cc own nL fr lo mc D G A) (hr : zg_rt X = some .boolean) (hn : narrow .boolean (.int v) = .int v) (hc : ck ≤ mc) (hd : decode cc pc = .ok (.ireturn, 1)) : zg X D G A (zg_Q X D G A mc (some (.int v), w)) ck w pc lv [.int v] := by
  refine zg_wide hc ?_
  obtain ⟨p, l, e, R, s, m, args, below, meth, c⟩ := X
  obtain ⟨hx, hb, hml, ho, hts, hK, hA, hlk, hfr, hR1, hR2, hlo, hZ⟩ := hX
  intro H locs ls h1 h2 h3
  exact W.zret hx hb hr hn (zq_end h2 h3) h3.2.2 hd hlk
theorem zg_lret {X : zg_X} {D : va_G} {G : zw_G} {A : Nat → Prop} {ck : Nat} {w : zw_T} {pc : Nat} {lv : List (Option Value)} {cc : ByteArray} {own : String} {nL fr lo mc : Nat} {v : Int64} (hX : zg_ok X cc own nL fr lo mc D G A) (hr : zg_rt X = some .long) (hc : ck ≤ mc) (hd : decode cc pc = .ok (.lreturn, 1)) : zg X D G A (zg_Q X D G A mc (some (.long v), w)) ck w pc lv [.long v] := by
  refine zg_wide hc ?_
  obtain ⟨p, l, e, R, s, m, args, below, meth, c⟩ := X
  obtain ⟨hx, hb, hml, ho, hts, hK, hA, hlk, hfr, hR1, hR2, hlo, hZ⟩ := hX
  intro H locs ls h1 h2 h3
  exact W.lret hx hb hr (zq_end h2 h3) h3.2.2 hd hlk
theorem zg_vret {X : zg_X} {D : va_G} {G : zw_G} {A : Nat → Prop} {ck : Nat} {w : zw_T} {pc : Nat} {lv : List (Option Value)} {cc : ByteArray} {own : String} {nL fr lo mc : Nat} (hX : zg_ok X cc own nL fr lo mc D G A) (hr : zg_rt X = none) (hc : ck ≤ mc) (hd : decode cc pc = .ok (.return_, 1)) : zg X D G A (zg_Q X D G A mc (none, w)) ck w pc lv [] := by
  refine zg_wide hc ?_
  obtain ⟨p, l, e, R, s, m, args, below, meth, c⟩ := X
  obtain ⟨hx, hb, hml, ho, hts, hK, hA, hlk, hfr, hR1, hR2, hlo, hZ⟩ := hX
  intro H locs ls h1 h2 h3
  exact W.vret hx hb hr (zq_end h2 h3) h3.2.2 hd hlk
theorem zg_aret {X : zg_X} {D : va_G} {G : zw_G} {A : Nat → Prop} {ck : Nat} {w : zw_T} {pc : Nat} {lv : List (Option Value)} {cc : ByteArray} {own : String} {nL fr lo mc : Nat} {v : Option Nat} (rt : FieldType) (hX : zg_ok X cc own nL fr lo mc D G A) (hr : zg_rt X = some rt) (hrt : (∃ n, rt = .object n) ∨ ∃ t, rt = .array t) (hc : ck ≤ mc) (hd : decode cc pc = .ok (.areturn, 1)) : zg X D G A (zg_Q X D G A mc (some (va_rf v), w)) ck w pc lv [va_rf v] := by
  refine zg_wide hc ?_
  obtain ⟨p, l, e, R, s, m, args, below, meth, c⟩ := X
  obtain ⟨hx, hb, hml, ho, hts, hK, hA, hlk, hfr, hR1, hR2, hlo, hZ⟩ := hX
  intro H locs ls h1 h2 h3
  exact W.aret hx hb hr hrt (va_rf_or v) (zq_end h2 h3) h3.2.2 hd hlk
end
section
theorem zg_iconst {X : zg_X} {D : va_G} {G : zw_G} {A : Nat → Prop} {Q : State → Prop} {ck : Nat} {w : zw_T} {pc : Nat} {lv : List (Option Value)} {st : List Value} {cc : ByteArray} {own : String} {nL fr lo mc : Nat} {n : Int} (hX : zg_ok X cc own nL fr lo mc D G A) (hd : decode cc pc = .ok (.iconst n, 1)) (v : Int32) (hv : Int32.ofInt n = v) (k : zg X D G A Q ck w (pc + 1) lv (.int v :: st)) : zg X D G A Q ck w pc lv st := by
  obtain ⟨p, l, e, R, s, m, args, below, meth, c⟩ := X
  obtain ⟨hx, hb, hml, ho, hts, hK, hA, hlk, hfr, hR1, hR2, hlo, hZ⟩ := hX
  intro H locs ls h1 h2 h3
  exact lv_iconst hx hb hd hv (k H locs ls h1 h2 h3)
theorem zg_bipush {X : zg_X} {D : va_G} {G : zw_G} {A : Nat → Prop} {Q : State → Prop} {ck : Nat} {w : zw_T} {pc : Nat} {lv : List (Option Value)} {st : List Value} {cc : ByteArray} {own : String} {nL fr lo mc : Nat} {n : Int} (hX : zg_ok X cc own nL fr lo mc D G A) (hd : decode cc pc = .ok (.bipush n, 2)) (v : Int32) (hv : (Int8.ofInt n).toInt32 = v) (k : zg X D G A Q ck w (pc + 2) lv (.int v :: st)) : zg X D G A Q ck w pc lv st := by
  obtain ⟨p, l, e, R, s, m, args, below, meth, c⟩ := X
  obtain ⟨hx, hb, hml, ho, hts, hK, hA, hlk, hfr, hR1, hR2, hlo, hZ⟩ := hX
  intro H locs ls h1 h2 h3
  exact lv_bipush hx hb hd hv (k H locs ls h1 h2 h3)
theorem zg_sipush {X : zg_X} {D : va_G} {G : zw_G} {A : Nat → Prop} {Q : State → Prop} {ck : Nat} {w : zw_T} {pc : Nat} {lv : List (Option Value)} {st : List Value} {cc : ByteArray} {own : String} {nL fr lo mc : Nat} {n : Int} (hX : zg_ok X cc own nL fr lo mc D G A) (hd : decode cc pc = .ok (.sipush n, 3)) (v : Int32) (hv : (Int16.ofInt n).toInt32 = v) (k : zg X D G A Q ck w (pc + 3) lv (.int v :: st)) : zg X D G A Q ck w pc lv st := by
  obtain ⟨p, l, e, R, s, m, args, below, meth, c⟩ := X
  obtain ⟨hx, hb, hml, ho, hts, hK, hA, hlk, hfr, hR1, hR2, hlo, hZ⟩ := hX
  intro H locs ls h1 h2 h3
  exact lv_sipush hx hb hd hv (k H locs ls h1 h2 h3)
theorem zg_lconst {X : zg_X} {D : va_G} {G : zw_G} {A : Nat → Prop} {Q : State → Prop} {ck : Nat} {w : zw_T} {pc : Nat} {lv : List (Option Value)} {st : List Value} {cc : ByteArray} {own : String} {nL fr lo mc : Nat} {n : Fin 2} (hX : zg_ok X cc own nL fr lo mc D G A) (hd : decode cc pc = .ok (.lconst n, 1)) (v : Int64) (hv : Int64.ofNat (n : Nat) = v) (k : zg X D G A Q ck w (pc + 1) lv (.long v :: st)) : zg X D G A Q ck w pc lv st := by
  obtain ⟨p, l, e, R, s, m, args, below, meth, c⟩ := X
  obtain ⟨hx, hb, hml, ho, hts, hK, hA, hlk, hfr, hR1, hR2, hlo, hZ⟩ := hX
  intro H locs ls h1 h2 h3
  exact lv_lconst hx hb hd hv (k H locs ls h1 h2 h3)
theorem zg_null {X : zg_X} {D : va_G} {G : zw_G} {A : Nat → Prop} {Q : State → Prop} {ck : Nat} {w : zw_T} {pc : Nat} {lv : List (Option Value)} {st : List Value} {cc : ByteArray} {own : String} {nL fr lo mc : Nat}  (hX : zg_ok X cc own nL fr lo mc D G A) (hd : decode cc pc = .ok (.aconst_null, 1))  (k : zg X D G A Q ck w (pc + 1) lv (va_rf none :: st)) : zg X D G A Q ck w pc lv st := by
  obtain ⟨p, l, e, R, s, m, args, below, meth, c⟩ := X
  obtain ⟨hx, hb, hml, ho, hts, hK, hA, hlk, hfr, hR1, hR2, hlo, hZ⟩ := hX
  intro H locs ls h1 h2 h3
  exact lv_null hx hb hd (k H locs ls h1 h2 h3)
theorem zg_iadd {X : zg_X} {D : va_G} {G : zw_G} {A : Nat → Prop} {Q : State → Prop} {ck : Nat} {w : zw_T} {pc : Nat} {lv : List (Option Value)} {st : List Value} {cc : ByteArray} {own : String} {nL fr lo mc : Nat} {x y : Int32} (hX : zg_ok X cc own nL fr lo mc D G A) (hd : decode cc pc = .ok (.iadd, 1))  (k : zg X D G A Q ck w (pc + 1) lv (.int (x + y) :: st)) : zg X D G A Q ck w pc lv (.int y :: .int x :: st) := by
  obtain ⟨p, l, e, R, s, m, args, below, meth, c⟩ := X
  obtain ⟨hx, hb, hml, ho, hts, hK, hA, hlk, hfr, hR1, hR2, hlo, hZ⟩ := hX
  intro H locs ls h1 h2 h3
  exact lv_iadd hx hb hd (k H locs ls h1 h2 h3)
theorem zg_isub {X : zg_X} {D : va_G} {G : zw_G} {A : Nat → Prop} {Q : State → Prop} {ck : Nat} {w : zw_T} {pc : Nat} {lv : List (Option Value)} {st : List Value} {cc : ByteArray} {own : String} {nL fr lo mc : Nat} {x y : Int32} (hX : zg_ok X cc own nL fr lo mc D G A) (hd : decode cc pc = .ok (.isub, 1))  (k : zg X D G A Q ck w (pc + 1) lv (.int (x - y) :: st)) : zg X D G A Q ck w pc lv (.int y :: .int x :: st) := by
  obtain ⟨p, l, e, R, s, m, args, below, meth, c⟩ := X
  obtain ⟨hx, hb, hml, ho, hts, hK, hA, hlk, hfr, hR1, hR2, hlo, hZ⟩ := hX
  intro H locs ls h1 h2 h3
  exact lv_isub hx hb hd (k H locs ls h1 h2 h3)
theorem zg_imul {X : zg_X} {D : va_G} {G : zw_G} {A : Nat → Prop} {Q : State → Prop} {ck : Nat} {w : zw_T} {pc : Nat} {lv : List (Option Value)} {st : List Value} {cc : ByteArray} {own : String} {nL fr lo mc : Nat} {x y : Int32} (hX : zg_ok X cc own nL fr lo mc D G A) (hd : decode cc pc = .ok (.imul, 1))  (k : zg X D G A Q ck w (pc + 1) lv (.int (x * y) :: st)) : zg X D G A Q ck w pc lv (.int y :: .int x :: st) := by
  obtain ⟨p, l, e, R, s, m, args, below, meth, c⟩ := X
  obtain ⟨hx, hb, hml, ho, hts, hK, hA, hlk, hfr, hR1, hR2, hlo, hZ⟩ := hX
  intro H locs ls h1 h2 h3
  exact lv_imul hx hb hd (k H locs ls h1 h2 h3)
theorem zg_iand {X : zg_X} {D : va_G} {G : zw_G} {A : Nat → Prop} {Q : State → Prop} {ck : Nat} {w : zw_T} {pc : Nat} {lv : List (Option Value)} {st : List Value} {cc : ByteArray} {own : String} {nL fr lo mc : Nat} {x y : Int32} (hX : zg_ok X cc own nL fr lo mc D G A) (hd : decode cc pc = .ok (.iand, 1))  (k : zg X D G A Q ck w (pc + 1) lv (.int (x &&& y) :: st)) : zg X D G A Q ck w pc lv (.int y :: .int x :: st) := by
  obtain ⟨p, l, e, R, s, m, args, below, meth, c⟩ := X
  obtain ⟨hx, hb, hml, ho, hts, hK, hA, hlk, hfr, hR1, hR2, hlo, hZ⟩ := hX
  intro H locs ls h1 h2 h3
  exact lv_iand hx hb hd (k H locs ls h1 h2 h3)
theorem zg_ior {X : zg_X} {D : va_G} {G : zw_G} {A : Nat → Prop} {Q : State → Prop} {ck : Nat} {w : zw_T} {pc : Nat} {lv : List (Option Value)} {st : List Value} {cc : ByteArray} {own : String} {nL fr lo mc : Nat} {x y : Int32} (hX : zg_ok X cc own nL fr lo mc D G A) (hd : decode cc pc = .ok (.ior, 1))  (k : zg X D G A Q ck w (pc + 1) lv (.int (x ||| y) :: st)) : zg X D G A Q ck w pc lv (.int y :: .int x :: st) := by
  obtain ⟨p, l, e, R, s, m, args, below, meth, c⟩ := X
  obtain ⟨hx, hb, hml, ho, hts, hK, hA, hlk, hfr, hR1, hR2, hlo, hZ⟩ := hX
  intro H locs ls h1 h2 h3
  exact lv_ior hx hb hd (k H locs ls h1 h2 h3)
theorem zg_ixor {X : zg_X} {D : va_G} {G : zw_G} {A : Nat → Prop} {Q : State → Prop} {ck : Nat} {w : zw_T} {pc : Nat} {lv : List (Option Value)} {st : List Value} {cc : ByteArray} {own : String} {nL fr lo mc : Nat} {x y : Int32} (hX : zg_ok X cc own nL fr lo mc D G A) (hd : decode cc pc = .ok (.ixor, 1))  (k : zg X D G A Q ck w (pc + 1) lv (.int (x ^^^ y) :: st)) : zg X D G A Q ck w pc lv (.int y :: .int x :: st) := by
  obtain ⟨p, l, e, R, s, m, args, below, meth, c⟩ := X
  obtain ⟨hx, hb, hml, ho, hts, hK, hA, hlk, hfr, hR1, hR2, hlo, hZ⟩ := hX
  intro H locs ls h1 h2 h3
  exact lv_ixor hx hb hd (k H locs ls h1 h2 h3)
theorem zg_ishl {X : zg_X} {D : va_G} {G : zw_G} {A : Nat → Prop} {Q : State → Prop} {ck : Nat} {w : zw_T} {pc : Nat} {lv : List (Option Value)} {st : List Value} {cc : ByteArray} {own : String} {nL fr lo mc : Nat} {x y : Int32} (hX : zg_ok X cc own nL fr lo mc D G A) (hd : decode cc pc = .ok (.ishl, 1))  (k : zg X D G A Q ck w (pc + 1) lv (.int (zi_shl x y) :: st)) : zg X D G A Q ck w pc lv (.int y :: .int x :: st) := by
  obtain ⟨p, l, e, R, s, m, args, below, meth, c⟩ := X
  obtain ⟨hx, hb, hml, ho, hts, hK, hA, hlk, hfr, hR1, hR2, hlo, hZ⟩ := hX
  intro H locs ls h1 h2 h3
  exact lv_ishl hx hb hd (k H locs ls h1 h2 h3)
theorem zg_ishr {X : zg_X} {D : va_G} {G : zw_G} {A : Nat → Prop} {Q : State → Prop} {ck : Nat} {w : zw_T} {pc : Nat} {lv : List (Option Value)} {st : List Value} {cc : ByteArray} {own : String} {nL fr lo mc : Nat} {x y : Int32} (hX : zg_ok X cc own nL fr lo mc D G A) (hd : decode cc pc = .ok (.ishr, 1))  (k : zg X D G A Q ck w (pc + 1) lv (.int (zi_shr x y) :: st)) : zg X D G A Q ck w pc lv (.int y :: .int x :: st) := by
  obtain ⟨p, l, e, R, s, m, args, below, meth, c⟩ := X
  obtain ⟨hx, hb, hml, ho, hts, hK, hA, hlk, hfr, hR1, hR2, hlo, hZ⟩ := hX
  intro H locs ls h1 h2 h3
  exact lv_ishr hx hb hd (k H locs ls h1 h2 h3)
theorem zg_iushr {X : zg_X} {D : va_G} {G : zw_G} {A : Nat → Prop} {Q : State → Prop} {ck : Nat} {w : zw_T} {pc : Nat} {lv : List (Option Value)} {st : List Value} {cc : ByteArray} {own : String} {nL fr lo mc : Nat} {x y : Int32} (hX : zg_ok X cc own nL fr lo mc D G A) (hd : decode cc pc = .ok (.iushr, 1))  (k : zg X D G A Q ck w (pc + 1) lv (.int (zi_ushr x y) :: st)) : zg X D G A Q ck w pc lv (.int y :: .int x :: st) := by
  obtain ⟨p, l, e, R, s, m, args, below, meth, c⟩ := X
  obtain ⟨hx, hb, hml, ho, hts, hK, hA, hlk, hfr, hR1, hR2, hlo, hZ⟩ := hX
  intro H locs ls h1 h2 h3
  exact lv_iushr (v := zi_ushr _ _) hx hb hd rfl (k H locs ls h1 h2 h3)
theorem zg_ineg {X : zg_X} {D : va_G} {G : zw_G} {A : Nat → Prop} {Q : State → Prop} {ck : Nat} {w : zw_T} {pc : Nat} {lv : List (Option Value)} {st : List Value} {cc : ByteArray} {own : String} {nL fr lo mc : Nat} {x : Int32} (hX : zg_ok X cc own nL fr lo mc D G A) (hd : decode cc pc = .ok (.ineg, 1))  (k : zg X D G A Q ck w (pc + 1) lv (.int (-x) :: st)) : zg X D G A Q ck w pc lv (.int x :: st) := by
  obtain ⟨p, l, e, R, s, m, args, below, meth, c⟩ := X
  obtain ⟨hx, hb, hml, ho, hts, hK, hA, hlk, hfr, hR1, hR2, hlo, hZ⟩ := hX
  intro H locs ls h1 h2 h3
  exact lv_ineg hx hb hd (k H locs ls h1 h2 h3)
theorem zg_idiv {X : zg_X} {D : va_G} {G : zw_G} {A : Nat → Prop} {Q : State → Prop} {ck : Nat} {w : zw_T} {pc : Nat} {lv : List (Option Value)} {st : List Value} {cc : ByteArray} {own : String} {nL fr lo mc : Nat} {x y : Int32} (hX : zg_ok X cc own nL fr lo mc D G A) (hd : decode cc pc = .ok (.idiv, 1)) (hne : ¬ y = 0) (k : zg X D G A Q ck w (pc + 1) lv (.int (x / y) :: st)) : zg X D G A Q ck w pc lv (.int y :: .int x :: st) := by
  obtain ⟨p, l, e, R, s, m, args, below, meth, c⟩ := X
  obtain ⟨hx, hb, hml, ho, hts, hK, hA, hlk, hfr, hR1, hR2, hlo, hZ⟩ := hX
  intro H locs ls h1 h2 h3
  exact lv_idiv hx hb hd hne (k H locs ls h1 h2 h3)
theorem zg_irem {X : zg_X} {D : va_G} {G : zw_G} {A : Nat → Prop} {Q : State → Prop} {ck : Nat} {w : zw_T} {pc : Nat} {lv : List (Option Value)} {st : List Value} {cc : ByteArray} {own : String} {nL fr lo mc : Nat} {x y : Int32} (hX : zg_ok X cc own nL fr lo mc D G A) (hd : decode cc pc = .ok (.irem, 1)) (hne : ¬ y = 0) (k : zg X D G A Q ck w (pc + 1) lv (.int (zi_rem x y) :: st)) : zg X D G A Q ck w pc lv (.int y :: .int x :: st) := by
  obtain ⟨p, l, e, R, s, m, args, below, meth, c⟩ := X
  obtain ⟨hx, hb, hml, ho, hts, hK, hA, hlk, hfr, hR1, hR2, hlo, hZ⟩ := hX
  intro H locs ls h1 h2 h3
  exact lv_irem hx hb hd hne (k H locs ls h1 h2 h3)
theorem zg_ladd {X : zg_X} {D : va_G} {G : zw_G} {A : Nat → Prop} {Q : State → Prop} {ck : Nat} {w : zw_T} {pc : Nat} {lv : List (Option Value)} {st : List Value} {cc : ByteArray} {own : String} {nL fr lo mc : Nat} {x y : Int64} (hX : zg_ok X cc own nL fr lo mc D G A) (hd : decode cc pc = .ok (.ladd, 1))  (k : zg X D G A Q ck w (pc + 1) lv (.long (x + y) :: st)) : zg X D G A Q ck w pc lv (.long y :: .long x :: st) := by
  obtain ⟨p, l, e, R, s, m, args, below, meth, c⟩ := X
  obtain ⟨hx, hb, hml, ho, hts, hK, hA, hlk, hfr, hR1, hR2, hlo, hZ⟩ := hX
  intro H locs ls h1 h2 h3
  exact lv_ladd hx hb hd (k H locs ls h1 h2 h3)
theorem zg_lsub {X : zg_X} {D : va_G} {G : zw_G} {A : Nat → Prop} {Q : State → Prop} {ck : Nat} {w : zw_T} {pc : Nat} {lv : List (Option Value)} {st : List Value} {cc : ByteArray} {own : String} {nL fr lo mc : Nat} {x y : Int64} (hX : zg_ok X cc own nL fr lo mc D G A) (hd : decode cc pc = .ok (.lsub, 1))  (k : zg X D G A Q ck w (pc + 1) lv (.long (x - y) :: st)) : zg X D G A Q ck w pc lv (.long y :: .long x :: st) := by
  obtain ⟨p, l, e, R, s, m, args, below, meth, c⟩ := X
  obtain ⟨hx, hb, hml, ho, hts, hK, hA, hlk, hfr, hR1, hR2, hlo, hZ⟩ := hX
  intro H locs ls h1 h2 h3
  exact lv_lsub hx hb hd (k H locs ls h1 h2 h3)
theorem zg_land {X : zg_X} {D : va_G} {G : zw_G} {A : Nat → Prop} {Q : State → Prop} {ck : Nat} {w : zw_T} {pc : Nat} {lv : List (Option Value)} {st : List Value} {cc : ByteArray} {own : String} {nL fr lo mc : Nat} {x y : Int64} (hX : zg_ok X cc own nL fr lo mc D G A) (hd : decode cc pc = .ok (.land, 1))  (k : zg X D G A Q ck w (pc + 1) lv (.long (x &&& y) :: st)) : zg X D G A Q ck w pc lv (.long y :: .long x :: st) := by
  obtain ⟨p, l, e, R, s, m, args, below, meth, c⟩ := X
  obtain ⟨hx, hb, hml, ho, hts, hK, hA, hlk, hfr, hR1, hR2, hlo, hZ⟩ := hX
  intro H locs ls h1 h2 h3
  exact lv_land hx hb hd (k H locs ls h1 h2 h3)
theorem zg_lor {X : zg_X} {D : va_G} {G : zw_G} {A : Nat → Prop} {Q : State → Prop} {ck : Nat} {w : zw_T} {pc : Nat} {lv : List (Option Value)} {st : List Value} {cc : ByteArray} {own : String} {nL fr lo mc : Nat} {x y : Int64} (hX : zg_ok X cc own nL fr lo mc D G A) (hd : decode cc pc = .ok (.lor, 1))  (k : zg X D G A Q ck w (pc + 1) lv (.long (x ||| y) :: st)) : zg X D G A Q ck w pc lv (.long y :: .long x :: st) := by
  obtain ⟨p, l, e, R, s, m, args, below, meth, c⟩ := X
  obtain ⟨hx, hb, hml, ho, hts, hK, hA, hlk, hfr, hR1, hR2, hlo, hZ⟩ := hX
  intro H locs ls h1 h2 h3
  exact lv_lor hx hb hd (k H locs ls h1 h2 h3)
theorem zg_lxor {X : zg_X} {D : va_G} {G : zw_G} {A : Nat → Prop} {Q : State → Prop} {ck : Nat} {w : zw_T} {pc : Nat} {lv : List (Option Value)} {st : List Value} {cc : ByteArray} {own : String} {nL fr lo mc : Nat} {x y : Int64} (hX : zg_ok X cc own nL fr lo mc D G A) (hd : decode cc pc = .ok (.lxor, 1))  (k : zg X D G A Q ck w (pc + 1) lv (.long (x ^^^ y) :: st)) : zg X D G A Q ck w pc lv (.long y :: .long x :: st) := by
  obtain ⟨p, l, e, R, s, m, args, below, meth, c⟩ := X
  obtain ⟨hx, hb, hml, ho, hts, hK, hA, hlk, hfr, hR1, hR2, hlo, hZ⟩ := hX
  intro H locs ls h1 h2 h3
  exact lv_lxor hx hb hd (k H locs ls h1 h2 h3)
theorem zg_lshl {X : zg_X} {D : va_G} {G : zw_G} {A : Nat → Prop} {Q : State → Prop} {ck : Nat} {w : zw_T} {pc : Nat} {lv : List (Option Value)} {st : List Value} {cc : ByteArray} {own : String} {nL fr lo mc : Nat} {x : Int64} {y : Int32} (hX : zg_ok X cc own nL fr lo mc D G A) (hd : decode cc pc = .ok (.lshl, 1))  (k : zg X D G A Q ck w (pc + 1) lv (.long (zi_lshl x y) :: st)) : zg X D G A Q ck w pc lv (.int y :: .long x :: st) := by
  obtain ⟨p, l, e, R, s, m, args, below, meth, c⟩ := X
  obtain ⟨hx, hb, hml, ho, hts, hK, hA, hlk, hfr, hR1, hR2, hlo, hZ⟩ := hX
  intro H locs ls h1 h2 h3
  exact lv_lshl (v := zi_lshl _ _) hx hb hd rfl (k H locs ls h1 h2 h3)
theorem zg_lshr {X : zg_X} {D : va_G} {G : zw_G} {A : Nat → Prop} {Q : State → Prop} {ck : Nat} {w : zw_T} {pc : Nat} {lv : List (Option Value)} {st : List Value} {cc : ByteArray} {own : String} {nL fr lo mc : Nat} {x : Int64} {y : Int32} (hX : zg_ok X cc own nL fr lo mc D G A) (hd : decode cc pc = .ok (.lshr, 1))  (k : zg X D G A Q ck w (pc + 1) lv (.long (zi_lshr x y) :: st)) : zg X D G A Q ck w pc lv (.int y :: .long x :: st) := by
  obtain ⟨p, l, e, R, s, m, args, below, meth, c⟩ := X
  obtain ⟨hx, hb, hml, ho, hts, hK, hA, hlk, hfr, hR1, hR2, hlo, hZ⟩ := hX
  intro H locs ls h1 h2 h3
  exact lv_lshr (v := zi_lshr _ _) hx hb hd rfl (k H locs ls h1 h2 h3)
theorem zg_lushr {X : zg_X} {D : va_G} {G : zw_G} {A : Nat → Prop} {Q : State → Prop} {ck : Nat} {w : zw_T} {pc : Nat} {lv : List (Option Value)} {st : List Value} {cc : ByteArray} {own : String} {nL fr lo mc : Nat} {x : Int64} {y : Int32} (hX : zg_ok X cc own nL fr lo mc D G A) (hd : decode cc pc = .ok (.lushr, 1))  (k : zg X D G A Q ck w (pc + 1) lv (.long (zi_lushr x y) :: st)) : zg X D G A Q ck w pc lv (.int y :: .long x :: st) := by
  obtain ⟨p, l, e, R, s, m, args, below, meth, c⟩ := X
  obtain ⟨hx, hb, hml, ho, hts, hK, hA, hlk, hfr, hR1, hR2, hlo, hZ⟩ := hX
  intro H locs ls h1 h2 h3
  exact lv_lushr (v := zi_lushr _ _) hx hb hd rfl (k H locs ls h1 h2 h3)
theorem zg_i2l {X : zg_X} {D : va_G} {G : zw_G} {A : Nat → Prop} {Q : State → Prop} {ck : Nat} {w : zw_T} {pc : Nat} {lv : List (Option Value)} {st : List Value} {cc : ByteArray} {own : String} {nL fr lo mc : Nat} {x : Int32} (hX : zg_ok X cc own nL fr lo mc D G A) (hd : decode cc pc = .ok (.i2l, 1))  (k : zg X D G A Q ck w (pc + 1) lv (.long x.toInt64 :: st)) : zg X D G A Q ck w pc lv (.int x :: st) := by
  obtain ⟨p, l, e, R, s, m, args, below, meth, c⟩ := X
  obtain ⟨hx, hb, hml, ho, hts, hK, hA, hlk, hfr, hR1, hR2, hlo, hZ⟩ := hX
  intro H locs ls h1 h2 h3
  exact lv_i2l hx hb hd rfl (k H locs ls h1 h2 h3)
theorem zg_l2i {X : zg_X} {D : va_G} {G : zw_G} {A : Nat → Prop} {Q : State → Prop} {ck : Nat} {w : zw_T} {pc : Nat} {lv : List (Option Value)} {st : List Value} {cc : ByteArray} {own : String} {nL fr lo mc : Nat} {x : Int64} (hX : zg_ok X cc own nL fr lo mc D G A) (hd : decode cc pc = .ok (.l2i, 1))  (k : zg X D G A Q ck w (pc + 1) lv (.int x.toInt32 :: st)) : zg X D G A Q ck w pc lv (.long x :: st) := by
  obtain ⟨p, l, e, R, s, m, args, below, meth, c⟩ := X
  obtain ⟨hx, hb, hml, ho, hts, hK, hA, hlk, hfr, hR1, hR2, hlo, hZ⟩ := hX
  intro H locs ls h1 h2 h3
  exact lv_l2i hx hb hd rfl (k H locs ls h1 h2 h3)
theorem zg_lcmp {X : zg_X} {D : va_G} {G : zw_G} {A : Nat → Prop} {Q : State → Prop} {ck : Nat} {w : zw_T} {pc : Nat} {lv : List (Option Value)} {st : List Value} {cc : ByteArray} {own : String} {nL fr lo mc : Nat} {x y : Int64} (hX : zg_ok X cc own nL fr lo mc D G A) (hd : decode cc pc = .ok (.lcmp, 1))  (k : zg X D G A Q ck w (pc + 1) lv (.int (lg_cmp x y) :: st)) : zg X D G A Q ck w pc lv (.long y :: .long x :: st) := by
  obtain ⟨p, l, e, R, s, m, args, below, meth, c⟩ := X
  obtain ⟨hx, hb, hml, ho, hts, hK, hA, hlk, hfr, hR1, hR2, hlo, hZ⟩ := hX
  intro H locs ls h1 h2 h3
  exact W.lcmp hx hb hd (k H locs ls h1 h2 h3)
theorem zg_dup {X : zg_X} {D : va_G} {G : zw_G} {A : Nat → Prop} {Q : State → Prop} {ck : Nat} {w : zw_T} {pc : Nat} {lv : List (Option Value)} {st : List Value} {cc : ByteArray} {own : String} {nL fr lo mc : Nat} {v : Value} (hX : zg_ok X cc own nL fr lo mc D G A) (hd : decode cc pc = .ok (.dup, 1)) (hv : v.category = 1) (k : zg X D G A Q ck w (pc + 1) lv (v :: v :: st)) : zg X D G A Q ck w pc lv (v :: st) := by
  obtain ⟨p, l, e, R, s, m, args, below, meth, c⟩ := X
  obtain ⟨hx, hb, hml, ho, hts, hK, hA, hlk, hfr, hR1, hR2, hlo, hZ⟩ := hX
  intro H locs ls h1 h2 h3
  exact lv_dup hx hb hd hv (k H locs ls h1 h2 h3)
theorem zg_pop {X : zg_X} {D : va_G} {G : zw_G} {A : Nat → Prop} {Q : State → Prop} {ck : Nat} {w : zw_T} {pc : Nat} {lv : List (Option Value)} {st : List Value} {cc : ByteArray} {own : String} {nL fr lo mc : Nat} {v : Value} (hX : zg_ok X cc own nL fr lo mc D G A) (hd : decode cc pc = .ok (.pop, 1)) (hv : v.category = 1) (k : zg X D G A Q ck w (pc + 1) lv st) : zg X D G A Q ck w pc lv (v :: st) := by
  obtain ⟨p, l, e, R, s, m, args, below, meth, c⟩ := X
  obtain ⟨hx, hb, hml, ho, hts, hK, hA, hlk, hfr, hR1, hR2, hlo, hZ⟩ := hX
  intro H locs ls h1 h2 h3
  exact lv_pop hx hb hd hv (k H locs ls h1 h2 h3)
theorem zg_dup_x1 {X : zg_X} {D : va_G} {G : zw_G} {A : Nat → Prop} {Q : State → Prop} {ck : Nat} {w : zw_T} {pc : Nat} {lv : List (Option Value)} {st : List Value} {cc : ByteArray} {own : String} {nL fr lo mc : Nat} {v u : Value} (hX : zg_ok X cc own nL fr lo mc D G A) (hd : decode cc pc = .ok (.dup_x1, 1)) (hv : v.category = 1) (hu : u.category = 1) (k : zg X D G A Q ck w (pc + 1) lv (v :: u :: v :: st)) : zg X D G A Q ck w pc lv (v :: u :: st) := by
  obtain ⟨p, l, e, R, s, m, args, below, meth, c⟩ := X
  obtain ⟨hx, hb, hml, ho, hts, hK, hA, hlk, hfr, hR1, hR2, hlo, hZ⟩ := hX
  intro H locs ls h1 h2 h3
  exact lv_dup_x1 hx hb hd hv hu (k H locs ls h1 h2 h3)
theorem zg_dup_x2 {X : zg_X} {D : va_G} {G : zw_G} {A : Nat → Prop} {Q : State → Prop} {ck : Nat} {w : zw_T} {pc : Nat} {lv : List (Option Value)} {st : List Value} {cc : ByteArray} {own : String} {nL fr lo mc : Nat} {v u t : Value} (hX : zg_ok X cc own nL fr lo mc D G A) (hd : decode cc pc = .ok (.dup_x2, 1)) (hv : v.category = 1) (hu : u.category = 1) (ht : t.category = 1) (k : zg X D G A Q ck w (pc + 1) lv (v :: u :: t :: v :: st)) : zg X D G A Q ck w pc lv (v :: u :: t :: st) := by
  obtain ⟨p, l, e, R, s, m, args, below, meth, c⟩ := X
  obtain ⟨hx, hb, hml, ho, hts, hK, hA, hlk, hfr, hR1, hR2, hlo, hZ⟩ := hX
  intro H locs ls h1 h2 h3
  exact lv_dup_x2 hx hb hd hv hu ht (k H locs ls h1 h2 h3)
theorem zg_dup2 {X : zg_X} {D : va_G} {G : zw_G} {A : Nat → Prop} {Q : State → Prop} {ck : Nat} {w : zw_T} {pc : Nat} {lv : List (Option Value)} {st : List Value} {cc : ByteArray} {own : String} {nL fr lo mc : Nat} {v u : Value} (hX : zg_ok X cc own nL fr lo mc D G A) (hd : decode cc pc = .ok (.dup2, 1)) (hv : v.category = 1) (hu : u.category = 1) (k : zg X D G A Q ck w (pc + 1) lv (v :: u :: v :: u :: st)) : zg X D G A Q ck w pc lv (v :: u :: st) := by
  obtain ⟨p, l, e, R, s, m, args, below, meth, c⟩ := X
  obtain ⟨hx, hb, hml, ho, hts, hK, hA, hlk, hfr, hR1, hR2, hlo, hZ⟩ := hX
  intro H locs ls h1 h2 h3
  exact lv_dup2_11 hx hb hd hv hu (k H locs ls h1 h2 h3)
theorem zg_ldc {X : zg_X} {D : va_G} {G : zw_G} {A : Nat → Prop} {Q : State → Prop} {ck : Nat} {w : zw_T} {pc : Nat} {lv : List (Option Value)} {st : List Value} {cc : ByteArray} {own : String} {nL fr lo mc : Nat} {idx : Nat} (hX : zg_ok X cc own nL fr lo mc D G A) (hd : decode cc pc = .ok (.ldc idx, 2)) (v : Int32) (hc : Jvm.Cond.constant own idx v ∈ zT) (k : zg X D G A Q ck w (pc + 2) lv (.int v :: st)) : zg X D G A Q ck w pc lv st := by
  obtain ⟨p, l, e, R, s, m, args, below, meth, c⟩ := X
  obtain ⟨hx, hb, hml, ho, hts, hK, hA, hlk, hfr, hR1, hR2, hlo, hZ⟩ := hX
  intro H locs ls h1 h2 h3
  exact lv_ldc hx hb ho (hts _ hc) hd (k H locs ls h1 h2 h3)
theorem zg_ldcw {X : zg_X} {D : va_G} {G : zw_G} {A : Nat → Prop} {Q : State → Prop} {ck : Nat} {w : zw_T} {pc : Nat} {lv : List (Option Value)} {st : List Value} {cc : ByteArray} {own : String} {nL fr lo mc : Nat} {idx : Nat} (hX : zg_ok X cc own nL fr lo mc D G A) (hd : decode cc pc = .ok (.ldc_w idx, 3)) (v : Int32) (hc : Jvm.Cond.constant own idx v ∈ zT) (k : zg X D G A Q ck w (pc + 3) lv (.int v :: st)) : zg X D G A Q ck w pc lv st := by
  obtain ⟨p, l, e, R, s, m, args, below, meth, c⟩ := X
  obtain ⟨hx, hb, hml, ho, hts, hK, hA, hlk, hfr, hR1, hR2, hlo, hZ⟩ := hX
  intro H locs ls h1 h2 h3
  exact lv_ldcw hx hb ho (hts _ hc) hd (k H locs ls h1 h2 h3)
theorem zg_ldc2 {X : zg_X} {D : va_G} {G : zw_G} {A : Nat → Prop} {Q : State → Prop} {ck : Nat} {w : zw_T} {pc : Nat} {lv : List (Option Value)} {st : List Value} {cc : ByteArray} {own : String} {nL fr lo mc : Nat} {idx : Nat} (hX : zg_ok X cc own nL fr lo mc D G A) (hd : decode cc pc = .ok (.ldc2_w idx, 3)) (v : Int64) (hc : Jvm.Cond.constantLong own idx v ∈ zT) (k : zg X D G A Q ck w (pc + 3) lv (.long v :: st)) : zg X D G A Q ck w pc lv st := by
  obtain ⟨p, l, e, R, s, m, args, below, meth, c⟩ := X
  obtain ⟨hx, hb, hml, ho, hts, hK, hA, hlk, hfr, hR1, hR2, hlo, hZ⟩ := hX
  intro H locs ls h1 h2 h3
  exact lv_ldc2 hx hb ho (hts _ hc) hd (k H locs ls h1 h2 h3)
theorem zg_iload_n {X : zg_X} {D : va_G} {G : zw_G} {A : Nat → Prop} {Q : State → Prop} {ck : Nat} {w : zw_T} {pc : Nat} {lv : List (Option Value)} {st : List Value} {cc : ByteArray} {own : String} {nL fr lo mc : Nat} {k0 : Fin 4} {x : Int32} (hX : zg_ok X cc own nL fr lo mc D G A) (hd : decode cc pc = .ok (.iload_n k0, 1)) (hl : lv[(k0 : Nat)]? = some (some (.int x))) (k : zg X D G A Q ck w (pc + 1) lv (.int x :: st)) : zg X D G A Q ck w pc lv st := by
  obtain ⟨p, l, e, R, s, m, args, below, meth, c⟩ := X
  obtain ⟨hx, hb, hml, ho, hts, hK, hA, hlk, hfr, hR1, hR2, hlo, hZ⟩ := hX
  intro H locs ls h1 h2 h3
  exact lv_iload_n hx hb hd rfl (h1.2.2 _ _ hl) (k H locs ls h1 h2 h3)
theorem zg_iload {X : zg_X} {D : va_G} {G : zw_G} {A : Nat → Prop} {Q : State → Prop} {ck : Nat} {w : zw_T} {pc : Nat} {lv : List (Option Value)} {st : List Value} {cc : ByteArray} {own : String} {nL fr lo mc : Nat} {i0 : Nat} {x : Int32} (hX : zg_ok X cc own nL fr lo mc D G A) (hd : decode cc pc = .ok (.iload i0, 2)) (hl : lv[i0]? = some (some (.int x))) (k : zg X D G A Q ck w (pc + 2) lv (.int x :: st)) : zg X D G A Q ck w pc lv st := by
  obtain ⟨p, l, e, R, s, m, args, below, meth, c⟩ := X
  obtain ⟨hx, hb, hml, ho, hts, hK, hA, hlk, hfr, hR1, hR2, hlo, hZ⟩ := hX
  intro H locs ls h1 h2 h3
  exact lv_iload hx hb hd (h1.2.2 _ _ hl) (k H locs ls h1 h2 h3)
theorem zg_lload_n {X : zg_X} {D : va_G} {G : zw_G} {A : Nat → Prop} {Q : State → Prop} {ck : Nat} {w : zw_T} {pc : Nat} {lv : List (Option Value)} {st : List Value} {cc : ByteArray} {own : String} {nL fr lo mc : Nat} {k0 : Fin 4} {x : Int64} (hX : zg_ok X cc own nL fr lo mc D G A) (hd : decode cc pc = .ok (.lload_n k0, 1)) (hl : lv[(k0 : Nat)]? = some (some (.long x))) (k : zg X D G A Q ck w (pc + 1) lv (.long x :: st)) : zg X D G A Q ck w pc lv st := by
  obtain ⟨p, l, e, R, s, m, args, below, meth, c⟩ := X
  obtain ⟨hx, hb, hml, ho, hts, hK, hA, hlk, hfr, hR1, hR2, hlo, hZ⟩ := hX
  intro H locs ls h1 h2 h3
  exact lv_lload_n hx hb hd rfl (h1.2.2 _ _ hl) (k H locs ls h1 h2 h3)
theorem zg_lload {X : zg_X} {D : va_G} {G : zw_G} {A : Nat → Prop} {Q : State → Prop} {ck : Nat} {w : zw_T} {pc : Nat} {lv : List (Option Value)} {st : List Value} {cc : ByteArray} {own : String} {nL fr lo mc : Nat} {i0 : Nat} {x : Int64} (hX : zg_ok X cc own nL fr lo mc D G A) (hd : decode cc pc = .ok (.lload i0, 2)) (hl : lv[i0]? = some (some (.long x))) (k : zg X D G A Q ck w (pc + 2) lv (.long x :: st)) : zg X D G A Q ck w pc lv st := by
  obtain ⟨p, l, e, R, s, m, args, below, meth, c⟩ := X
  obtain ⟨hx, hb, hml, ho, hts, hK, hA, hlk, hfr, hR1, hR2, hlo, hZ⟩ := hX
  intro H locs ls h1 h2 h3
  exact lv_lload hx hb hd (h1.2.2 _ _ hl) (k H locs ls h1 h2 h3)
theorem zg_aload_n {X : zg_X} {D : va_G} {G : zw_G} {A : Nat → Prop} {Q : State → Prop} {ck : Nat} {w : zw_T} {pc : Nat} {lv : List (Option Value)} {st : List Value} {cc : ByteArray} {own : String} {nL fr lo mc : Nat} {k0 : Fin 4} {x : Option Nat} (hX : zg_ok X cc own nL fr lo mc D G A) (hd : decode cc pc = .ok (.aload_n k0, 1)) (hl : lv[(k0 : Nat)]? = some (some (va_rf x))) (k : zg X D G A Q ck w (pc + 1) lv (va_rf x :: st)) : zg X D G A Q ck w pc lv st := by
  obtain ⟨p, l, e, R, s, m, args, below, meth, c⟩ := X
  obtain ⟨hx, hb, hml, ho, hts, hK, hA, hlk, hfr, hR1, hR2, hlo, hZ⟩ := hX
  intro H locs ls h1 h2 h3
  cases x with
  | none => exact lv_aload_nN hx hb hd rfl (h1.2.2 _ _ hl) (k H locs ls h1 h2 h3)
  | some x => exact lv_aload_n hx hb hd rfl (h1.2.2 _ _ hl) (k H locs ls h1 h2 h3)
theorem zg_aload {X : zg_X} {D : va_G} {G : zw_G} {A : Nat → Prop} {Q : State → Prop} {ck : Nat} {w : zw_T} {pc : Nat} {lv : List (Option Value)} {st : List Value} {cc : ByteArray} {own : String} {nL fr lo mc : Nat} {i0 : Nat} {x : Option Nat} (hX : zg_ok X cc own nL fr lo mc D G A) (hd : decode cc pc = .ok (.aload i0, 2)) (hl : lv[i0]? = some (some (va_rf x))) (k : zg X D G A Q ck w (pc + 2) lv (va_rf x :: st)) : zg X D G A Q ck w pc lv st := by
  obtain ⟨p, l, e, R, s, m, args, below, meth, c⟩ := X
  obtain ⟨hx, hb, hml, ho, hts, hK, hA, hlk, hfr, hR1, hR2, hlo, hZ⟩ := hX
  intro H locs ls h1 h2 h3
  cases x with
  | none => exact lv_aloadN hx hb hd (h1.2.2 _ _ hl) (k H locs ls h1 h2 h3)
  | some x => exact lv_aload hx hb hd (h1.2.2 _ _ hl) (k H locs ls h1 h2 h3)
theorem zg_istore_n {X : zg_X} {D : va_G} {G : zw_G} {A : Nat → Prop} {Q : State → Prop} {ck : Nat} {w : zw_T} {pc : Nat} {lv : List (Option Value)} {st : List Value} {cc : ByteArray} {own : String} {nL fr lo mc : Nat} {k0 : Fin 4} {x : Int32} {ρ : Type} {K : Int32 → Option ρ} {r : ρ} (hX : zg_ok X cc own nL fr lo mc D G A) (hd : decode cc pc = .ok (.istore_n k0, 1))  (hi : (k0 : Nat) < lv.length) (hf : zl_free lv (k0 : Nat) = true) (h : zf_let x K = some r) (k : ∀ y, K y = some r → zg X D G A Q ck w (pc + 1) (lv.set (k0 : Nat) (some (.int y))) st) : zg X D G A Q ck w pc lv (.int x :: st) := by
  obtain ⟨p, l, e, R, s, m, args, below, meth, c⟩ := X
  obtain ⟨hx, hb, hml, ho, hts, hK, hA, hlk, hfr, hR1, hR2, hlo, hZ⟩ := hX
  intro H locs ls h1 h2 h3
  exact lv_istore_n hx hb hd rfl (zl_to h1) hi rfl (fun ls' q => k x h H locs ls' (zl_of1 q hi hf) h2 h3)
theorem zg_istore {X : zg_X} {D : va_G} {G : zw_G} {A : Nat → Prop} {Q : State → Prop} {ck : Nat} {w : zw_T} {pc : Nat} {lv : List (Option Value)} {st : List Value} {cc : ByteArray} {own : String} {nL fr lo mc : Nat} {i0 : Nat} {x : Int32} {ρ : Type} {K : Int32 → Option ρ} {r : ρ} (hX : zg_ok X cc own nL fr lo mc D G A) (hd : decode cc pc = .ok (.istore i0, 2))  (hi : i0 < lv.length) (hf : zl_free lv i0 = true) (h : zf_let x K = some r) (k : ∀ y, K y = some r → zg X D G A Q ck w (pc + 2) (lv.set i0 (some (.int y))) st) : zg X D G A Q ck w pc lv (.int x :: st) := by
  obtain ⟨p, l, e, R, s, m, args, below, meth, c⟩ := X
  obtain ⟨hx, hb, hml, ho, hts, hK, hA, hlk, hfr, hR1, hR2, hlo, hZ⟩ := hX
  intro H locs ls h1 h2 h3
  exact lv_istore hx hb hd (zl_to h1) hi rfl (fun ls' q => k x h H locs ls' (zl_of1 q hi hf) h2 h3)
theorem zg_lstore_n {X : zg_X} {D : va_G} {G : zw_G} {A : Nat → Prop} {Q : State → Prop} {ck : Nat} {w : zw_T} {pc : Nat} {lv : List (Option Value)} {st : List Value} {cc : ByteArray} {own : String} {nL fr lo mc : Nat} {k0 : Fin 4} {x : Int64} {ρ : Type} {K : Int64 → Option ρ} {r : ρ} (hX : zg_ok X cc own nL fr lo mc D G A) (hd : decode cc pc = .ok (.lstore_n k0, 1))  (hi : (k0 : Nat) + 1 < lv.length) (hf : zl_free lv (k0 : Nat) = true) (h : zf_let x K = some r) (k : ∀ y, K y = some r → zg X D G A Q ck w (pc + 1) ((lv.set (k0 : Nat) (some (.long y))).set ((k0 : Nat) + 1) none) st) : zg X D G A Q ck w pc lv (.long x :: st) := by
  obtain ⟨p, l, e, R, s, m, args, below, meth, c⟩ := X
  obtain ⟨hx, hb, hml, ho, hts, hK, hA, hlk, hfr, hR1, hR2, hlo, hZ⟩ := hX
  intro H locs ls h1 h2 h3
  exact lv_lstore_n hx hb hd rfl (zl_to h1) hi rfl (fun ls' q => k x h H locs ls' (zl_of2 q hi hf) h2 h3)
theorem zg_lstore {X : zg_X} {D : va_G} {G : zw_G} {A : Nat → Prop} {Q : State → Prop} {ck : Nat} {w : zw_T} {pc : Nat} {lv : List (Option Value)} {st : List Value} {cc : ByteArray} {own : String} {nL fr lo mc : Nat} {i0 : Nat} {x : Int64} {ρ : Type} {K : Int64 → Option ρ} {r : ρ} (hX : zg_ok X cc own nL fr lo mc D G A) (hd : decode cc pc = .ok (.lstore i0, 2))  (hi : i0 + 1 < lv.length) (hf : zl_free lv i0 = true) (h : zf_let x K = some r) (k : ∀ y, K y = some r → zg X D G A Q ck w (pc + 2) ((lv.set i0 (some (.long y))).set (i0 + 1) none) st) : zg X D G A Q ck w pc lv (.long x :: st) := by
  obtain ⟨p, l, e, R, s, m, args, below, meth, c⟩ := X
  obtain ⟨hx, hb, hml, ho, hts, hK, hA, hlk, hfr, hR1, hR2, hlo, hZ⟩ := hX
  intro H locs ls h1 h2 h3
  exact lv_lstore hx hb hd (zl_to h1) hi rfl (fun ls' q => k x h H locs ls' (zl_of2 q hi hf) h2 h3)
theorem zg_astore_n {X : zg_X} {D : va_G} {G : zw_G} {A : Nat → Prop} {Q : State → Prop} {ck : Nat} {w : zw_T} {pc : Nat} {lv : List (Option Value)} {st : List Value} {cc : ByteArray} {own : String} {nL fr lo mc : Nat} {k0 : Fin 4} {x : Option Nat} {ρ : Type} {K : Option Nat → Option ρ} {r : ρ} (hX : zg_ok X cc own nL fr lo mc D G A) (hd : decode cc pc = .ok (.astore_n k0, 1))  (hi : (k0 : Nat) < lv.length) (hf : zl_free lv (k0 : Nat) = true) (h : zf_let x K = some r) (k : ∀ y, K y = some r → zg X D G A Q ck w (pc + 1) (lv.set (k0 : Nat) (some (va_rf y))) st) : zg X D G A Q ck w pc lv (va_rf x :: st) := by
  obtain ⟨p, l, e, R, s, m, args, below, meth, c⟩ := X
  obtain ⟨hx, hb, hml, ho, hts, hK, hA, hlk, hfr, hR1, hR2, hlo, hZ⟩ := hX
  intro H locs ls h1 h2 h3
  cases x with
  | none => exact lv_astore_nN hx hb hd rfl (zl_to h1) hi rfl (fun ls' q => k none h H locs ls' (zl_of1 q hi hf) h2 h3)
  | some x => exact lv_astore_n hx hb hd rfl (zl_to h1) hi rfl (fun ls' q => k (some x) h H locs ls' (zl_of1 q hi hf) h2 h3)
theorem zg_astore {X : zg_X} {D : va_G} {G : zw_G} {A : Nat → Prop} {Q : State → Prop} {ck : Nat} {w : zw_T} {pc : Nat} {lv : List (Option Value)} {st : List Value} {cc : ByteArray} {own : String} {nL fr lo mc : Nat} {i0 : Nat} {x : Option Nat} {ρ : Type} {K : Option Nat → Option ρ} {r : ρ} (hX : zg_ok X cc own nL fr lo mc D G A) (hd : decode cc pc = .ok (.astore i0, 2))  (hi : i0 < lv.length) (hf : zl_free lv i0 = true) (h : zf_let x K = some r) (k : ∀ y, K y = some r → zg X D G A Q ck w (pc + 2) (lv.set i0 (some (va_rf y))) st) : zg X D G A Q ck w pc lv (va_rf x :: st) := by
  obtain ⟨p, l, e, R, s, m, args, below, meth, c⟩ := X
  obtain ⟨hx, hb, hml, ho, hts, hK, hA, hlk, hfr, hR1, hR2, hlo, hZ⟩ := hX
  intro H locs ls h1 h2 h3
  cases x with
  | none => exact lv_astoreN hx hb hd (zl_to h1) hi rfl (fun ls' q => k none h H locs ls' (zl_of1 q hi hf) h2 h3)
  | some x => exact lv_astore hx hb hd (zl_to h1) hi rfl (fun ls' q => k (some x) h H locs ls' (zl_of1 q hi hf) h2 h3)
theorem zg_iinc {X : zg_X} {D : va_G} {G : zw_G} {A : Nat → Prop} {Q : State → Prop} {ck : Nat} {w : zw_T} {pc : Nat} {lv : List (Option Value)} {st : List Value} {cc : ByteArray} {own : String} {nL fr lo mc : Nat} {i0 : Nat} {n : Int} {x : Int32} {ρ : Type} {K : Int32 → Option ρ} {r : ρ} (hX : zg_ok X cc own nL fr lo mc D G A) (hd : decode cc pc = .ok (.iinc i0 n, 3)) (v : Int32) (hl : lv[i0]? = some (some (.int x))) (hv : Int32.ofInt n = v) (hi : i0 < lv.length) (hf : zl_free lv i0 = true) (h : zf_let (x + v) K = some r) (k : ∀ y, K y = some r → zg X D G A Q ck w (pc + 3) (lv.set i0 (some (.int y))) st) : zg X D G A Q ck w pc lv st := by
  obtain ⟨p, l, e, R, s, m, args, below, meth, c⟩ := X
  obtain ⟨hx, hb, hml, ho, hts, hK, hA, hlk, hfr, hR1, hR2, hlo, hZ⟩ := hX
  intro H locs ls h1 h2 h3
  subst hv
  obtain ⟨j, hj⟩ := List.getElem?_of_mem (zl_mem.mpr hl)
  exact lv_iinc hx hb hd (zl_to h1) hj rfl hi rfl (fun ls' q => k _ h H locs ls' (zl_of1 q hi hf) h2 h3)
theorem zg_if_eq {X : zg_X} {D : va_G} {G : zw_G} {A : Nat → Prop} {Q : State → Prop} {ck : Nat} {w : zw_T} {pc : Nat} {lv : List (Option Value)} {st : List Value} {cc : ByteArray} {own : String} {nL fr lo mc : Nat} {x : Int32} {off : Int} {tgt : Nat} {ρ : Type} {ra rb : Option ρ} {r : ρ} (hX : zg_ok X cc own nL fr lo mc D G A) (hd : decode cc pc = .ok (.ifCond .eq off, 3))  (ht : (pc : Int) + off = (tgt : Int)) (h : (if x = 0 then ra else rb) = some r) (k1 : ra = some r → zg X D G A Q ck w tgt lv st) (k2 : rb = some r → zg X D G A Q ck w (pc + 3) lv st) : zg X D G A Q ck w pc lv (.int x :: st) := by
  obtain ⟨p, l, e, R, s, m, args, below, meth, c⟩ := X
  obtain ⟨hx, hb, hml, ho, hts, hK, hA, hlk, hfr, hR1, hR2, hlo, hZ⟩ := hX
  intro H locs ls h1 h2 h3
  by_cases hq : x = 0
  · rw [if_pos hq] at h
    exact lv_if_eq hx hb hd ht (fun _ => k1 h H locs ls h1 h2 h3) (fun z => absurd hq z)
  · rw [if_neg hq] at h
    exact lv_if_eq hx hb hd ht (fun z => absurd z hq) (fun _ => k2 h H locs ls h1 h2 h3)
theorem zg_icmp_eq {X : zg_X} {D : va_G} {G : zw_G} {A : Nat → Prop} {Q : State → Prop} {ck : Nat} {w : zw_T} {pc : Nat} {lv : List (Option Value)} {st : List Value} {cc : ByteArray} {own : String} {nL fr lo mc : Nat} {x y : Int32} {off : Int} {tgt : Nat} {ρ : Type} {ra rb : Option ρ} {r : ρ} (hX : zg_ok X cc own nL fr lo mc D G A) (hd : decode cc pc = .ok (.if_icmp .eq off, 3))  (ht : (pc : Int) + off = (tgt : Int)) (h : (if x = y then ra else rb) = some r) (k1 : ra = some r → zg X D G A Q ck w tgt lv st) (k2 : rb = some r → zg X D G A Q ck w (pc + 3) lv st) : zg X D G A Q ck w pc lv (.int y :: .int x :: st) := by
  obtain ⟨p, l, e, R, s, m, args, below, meth, c⟩ := X
  obtain ⟨hx, hb, hml, ho, hts, hK, hA, hlk, hfr, hR1, hR2, hlo, hZ⟩ := hX
  intro H locs ls h1 h2 h3
  by_cases hq : x = y
  · rw [if_pos hq] at h
    exact lv_icmp_eq hx hb hd ht (fun _ => k1 h H locs ls h1 h2 h3) (fun z => absurd hq z)
  · rw [if_neg hq] at h
    exact lv_icmp_eq hx hb hd ht (fun z => absurd z hq) (fun _ => k2 h H locs ls h1 h2 h3)
theorem zg_if_ne {X : zg_X} {D : va_G} {G : zw_G} {A : Nat → Prop} {Q : State → Prop} {ck : Nat} {w : zw_T} {pc : Nat} {lv : List (Option Value)} {st : List Value} {cc : ByteArray} {own : String} {nL fr lo mc : Nat} {x : Int32} {off : Int} {tgt : Nat} {ρ : Type} {ra rb : Option ρ} {r : ρ} (hX : zg_ok X cc own nL fr lo mc D G A) (hd : decode cc pc = .ok (.ifCond .ne off, 3))  (ht : (pc : Int) + off = (tgt : Int)) (h : (if x = 0 then ra else rb) = some r) (k1 : ra = some r → zg X D G A Q ck w (pc + 3) lv st) (k2 : rb = some r → zg X D G A Q ck w tgt lv st) : zg X D G A Q ck w pc lv (.int x :: st) := by
  obtain ⟨p, l, e, R, s, m, args, below, meth, c⟩ := X
  obtain ⟨hx, hb, hml, ho, hts, hK, hA, hlk, hfr, hR1, hR2, hlo, hZ⟩ := hX
  intro H locs ls h1 h2 h3
  by_cases hq : x = 0
  · rw [if_pos hq] at h
    exact lv_if_ne hx hb hd ht (fun z => absurd hq z) (fun _ => k1 h H locs ls h1 h2 h3)
  · rw [if_neg hq] at h
    exact lv_if_ne hx hb hd ht (fun _ => k2 h H locs ls h1 h2 h3) (fun z => absurd z hq)
theorem zg_icmp_ne {X : zg_X} {D : va_G} {G : zw_G} {A : Nat → Prop} {Q : State → Prop} {ck : Nat} {w : zw_T} {pc : Nat} {lv : List (Option Value)} {st : List Value} {cc : ByteArray} {own : String} {nL fr lo mc : Nat} {x y : Int32} {off : Int} {tgt : Nat} {ρ : Type} {ra rb : Option ρ} {r : ρ} (hX : zg_ok X cc own nL fr lo mc D G A) (hd : decode cc pc = .ok (.if_icmp .ne off, 3))  (ht : (pc : Int) + off = (tgt : Int)) (h : (if x = y then ra else rb) = some r) (k1 : ra = some r → zg X D G A Q ck w (pc + 3) lv st) (k2 : rb = some r → zg X D G A Q ck w tgt lv st) : zg X D G A Q ck w pc lv (.int y :: .int x :: st) := by
  obtain ⟨p, l, e, R, s, m, args, below, meth, c⟩ := X
  obtain ⟨hx, hb, hml, ho, hts, hK, hA, hlk, hfr, hR1, hR2, hlo, hZ⟩ := hX
  intro H locs ls h1 h2 h3
  by_cases hq : x = y
  · rw [if_pos hq] at h
    exact lv_icmp_ne hx hb hd ht (fun z => absurd hq z) (fun _ => k1 h H locs ls h1 h2 h3)
  · rw [if_neg hq] at h
    exact lv_icmp_ne hx hb hd ht (fun _ => k2 h H locs ls h1 h2 h3) (fun z => absurd z hq)
theorem zg_if_lt {X : zg_X} {D : va_G} {G : zw_G} {A : Nat → Prop} {Q : State → Prop} {ck : Nat} {w : zw_T} {pc : Nat} {lv : List (Option Value)} {st : List Value} {cc : ByteArray} {own : String} {nL fr lo mc : Nat} {x : Int32} {off : Int} {tgt : Nat} {ρ : Type} {ra rb : Option ρ} {r : ρ} (hX : zg_ok X cc own nL fr lo mc D G A) (hd : decode cc pc = .ok (.ifCond .lt off, 3))  (ht : (pc : Int) + off = (tgt : Int)) (h : (if x < 0 then ra else rb) = some r) (k1 : ra = some r → zg X D G A Q ck w tgt lv st) (k2 : rb = some r → zg X D G A Q ck w (pc + 3) lv st) : zg X D G A Q ck w pc lv (.int x :: st) := by
  obtain ⟨p, l, e, R, s, m, args, below, meth, c⟩ := X
  obtain ⟨hx, hb, hml, ho, hts, hK, hA, hlk, hfr, hR1, hR2, hlo, hZ⟩ := hX
  intro H locs ls h1 h2 h3
  by_cases hq : x < 0
  · rw [if_pos hq] at h
    exact lv_if_lt hx hb hd ht (fun _ => k1 h H locs ls h1 h2 h3) (fun z => absurd hq z)
  · rw [if_neg hq] at h
    exact lv_if_lt hx hb hd ht (fun z => absurd z hq) (fun _ => k2 h H locs ls h1 h2 h3)
theorem zg_icmp_lt {X : zg_X} {D : va_G} {G : zw_G} {A : Nat → Prop} {Q : State → Prop} {ck : Nat} {w : zw_T} {pc : Nat} {lv : List (Option Value)} {st : List Value} {cc : ByteArray} {own : String} {nL fr lo mc : Nat} {x y : Int32} {off : Int} {tgt : Nat} {ρ : Type} {ra rb : Option ρ} {r : ρ} (hX : zg_ok X cc own nL fr lo mc D G A) (hd : decode cc pc = .ok (.if_icmp .lt off, 3))  (ht : (pc : Int) + off = (tgt : Int)) (h : (if x < y then ra else rb) = some r) (k1 : ra = some r → zg X D G A Q ck w tgt lv st) (k2 : rb = some r → zg X D G A Q ck w (pc + 3) lv st) : zg X D G A Q ck w pc lv (.int y :: .int x :: st) := by
  obtain ⟨p, l, e, R, s, m, args, below, meth, c⟩ := X
  obtain ⟨hx, hb, hml, ho, hts, hK, hA, hlk, hfr, hR1, hR2, hlo, hZ⟩ := hX
  intro H locs ls h1 h2 h3
  by_cases hq : x < y
  · rw [if_pos hq] at h
    exact lv_icmp_lt hx hb hd ht (fun _ => k1 h H locs ls h1 h2 h3) (fun z => absurd hq z)
  · rw [if_neg hq] at h
    exact lv_icmp_lt hx hb hd ht (fun z => absurd z hq) (fun _ => k2 h H locs ls h1 h2 h3)
theorem zg_if_ge {X : zg_X} {D : va_G} {G : zw_G} {A : Nat → Prop} {Q : State → Prop} {ck : Nat} {w : zw_T} {pc : Nat} {lv : List (Option Value)} {st : List Value} {cc : ByteArray} {own : String} {nL fr lo mc : Nat} {x : Int32} {off : Int} {tgt : Nat} {ρ : Type} {ra rb : Option ρ} {r : ρ} (hX : zg_ok X cc own nL fr lo mc D G A) (hd : decode cc pc = .ok (.ifCond .ge off, 3))  (ht : (pc : Int) + off = (tgt : Int)) (h : (if 0 ≤ x then ra else rb) = some r) (k1 : ra = some r → zg X D G A Q ck w tgt lv st) (k2 : rb = some r → zg X D G A Q ck w (pc + 3) lv st) : zg X D G A Q ck w pc lv (.int x :: st) := by
  obtain ⟨p, l, e, R, s, m, args, below, meth, c⟩ := X
  obtain ⟨hx, hb, hml, ho, hts, hK, hA, hlk, hfr, hR1, hR2, hlo, hZ⟩ := hX
  intro H locs ls h1 h2 h3
  by_cases hq : 0 ≤ x
  · rw [if_pos hq] at h
    exact lv_if_ge hx hb hd ht (fun _ => k1 h H locs ls h1 h2 h3) (fun z => absurd hq z)
  · rw [if_neg hq] at h
    exact lv_if_ge hx hb hd ht (fun z => absurd z hq) (fun _ => k2 h H locs ls h1 h2 h3)
theorem zg_icmp_ge {X : zg_X} {D : va_G} {G : zw_G} {A : Nat → Prop} {Q : State → Prop} {ck : Nat} {w : zw_T} {pc : Nat} {lv : List (Option Value)} {st : List Value} {cc : ByteArray} {own : String} {nL fr lo mc : Nat} {x y : Int32} {off : Int} {tgt : Nat} {ρ : Type} {ra rb : Option ρ} {r : ρ} (hX : zg_ok X cc own nL fr lo mc D G A) (hd : decode cc pc = .ok (.if_icmp .ge off, 3))  (ht : (pc : Int) + off = (tgt : Int)) (h : (if y ≤ x then ra else rb) = some r) (k1 : ra = some r → zg X D G A Q ck w tgt lv st) (k2 : rb = some r → zg X D G A Q ck w (pc + 3) lv st) : zg X D G A Q ck w pc lv (.int y :: .int x :: st) := by
  obtain ⟨p, l, e, R, s, m, args, below, meth, c⟩ := X
  obtain ⟨hx, hb, hml, ho, hts, hK, hA, hlk, hfr, hR1, hR2, hlo, hZ⟩ := hX
  intro H locs ls h1 h2 h3
  by_cases hq : y ≤ x
  · rw [if_pos hq] at h
    exact lv_icmp_ge hx hb hd ht (fun _ => k1 h H locs ls h1 h2 h3) (fun z => absurd hq z)
  · rw [if_neg hq] at h
    exact lv_icmp_ge hx hb hd ht (fun z => absurd z hq) (fun _ => k2 h H locs ls h1 h2 h3)
theorem zg_if_gt {X : zg_X} {D : va_G} {G : zw_G} {A : Nat → Prop} {Q : State → Prop} {ck : Nat} {w : zw_T} {pc : Nat} {lv : List (Option Value)} {st : List Value} {cc : ByteArray} {own : String} {nL fr lo mc : Nat} {x : Int32} {off : Int} {tgt : Nat} {ρ : Type} {ra rb : Option ρ} {r : ρ} (hX : zg_ok X cc own nL fr lo mc D G A) (hd : decode cc pc = .ok (.ifCond .gt off, 3))  (ht : (pc : Int) + off = (tgt : Int)) (h : (if 0 < x then ra else rb) = some r) (k1 : ra = some r → zg X D G A Q ck w tgt lv st) (k2 : rb = some r → zg X D G A Q ck w (pc + 3) lv st) : zg X D G A Q ck w pc lv (.int x :: st) := by
  obtain ⟨p, l, e, R, s, m, args, below, meth, c⟩ := X
  obtain ⟨hx, hb, hml, ho, hts, hK, hA, hlk, hfr, hR1, hR2, hlo, hZ⟩ := hX
  intro H locs ls h1 h2 h3
  by_cases hq : 0 < x
  · rw [if_pos hq] at h
    exact lv_if_gt hx hb hd ht (fun _ => k1 h H locs ls h1 h2 h3) (fun z => absurd hq z)
  · rw [if_neg hq] at h
    exact lv_if_gt hx hb hd ht (fun z => absurd z hq) (fun _ => k2 h H locs ls h1 h2 h3)
theorem zg_icmp_gt {X : zg_X} {D : va_G} {G : zw_G} {A : Nat → Prop} {Q : State → Prop} {ck : Nat} {w : zw_T} {pc : Nat} {lv : List (Option Value)} {st : List Value} {cc : ByteArray} {own : String} {nL fr lo mc : Nat} {x y : Int32} {off : Int} {tgt : Nat} {ρ : Type} {ra rb : Option ρ} {r : ρ} (hX : zg_ok X cc own nL fr lo mc D G A) (hd : decode cc pc = .ok (.if_icmp .gt off, 3))  (ht : (pc : Int) + off = (tgt : Int)) (h : (if y < x then ra else rb) = some r) (k1 : ra = some r → zg X D G A Q ck w tgt lv st) (k2 : rb = some r → zg X D G A Q ck w (pc + 3) lv st) : zg X D G A Q ck w pc lv (.int y :: .int x :: st) := by
  obtain ⟨p, l, e, R, s, m, args, below, meth, c⟩ := X
  obtain ⟨hx, hb, hml, ho, hts, hK, hA, hlk, hfr, hR1, hR2, hlo, hZ⟩ := hX
  intro H locs ls h1 h2 h3
  by_cases hq : y < x
  · rw [if_pos hq] at h
    exact lv_icmp_gt hx hb hd ht (fun _ => k1 h H locs ls h1 h2 h3) (fun z => absurd hq z)
  · rw [if_neg hq] at h
    exact lv_icmp_gt hx hb hd ht (fun z => absurd z hq) (fun _ => k2 h H locs ls h1 h2 h3)
theorem zg_if_le {X : zg_X} {D : va_G} {G : zw_G} {A : Nat → Prop} {Q : State → Prop} {ck : Nat} {w : zw_T} {pc : Nat} {lv : List (Option Value)} {st : List Value} {cc : ByteArray} {own : String} {nL fr lo mc : Nat} {x : Int32} {off : Int} {tgt : Nat} {ρ : Type} {ra rb : Option ρ} {r : ρ} (hX : zg_ok X cc own nL fr lo mc D G A) (hd : decode cc pc = .ok (.ifCond .le off, 3))  (ht : (pc : Int) + off = (tgt : Int)) (h : (if x ≤ 0 then ra else rb) = some r) (k1 : ra = some r → zg X D G A Q ck w tgt lv st) (k2 : rb = some r → zg X D G A Q ck w (pc + 3) lv st) : zg X D G A Q ck w pc lv (.int x :: st) := by
  obtain ⟨p, l, e, R, s, m, args, below, meth, c⟩ := X
  obtain ⟨hx, hb, hml, ho, hts, hK, hA, hlk, hfr, hR1, hR2, hlo, hZ⟩ := hX
  intro H locs ls h1 h2 h3
  by_cases hq : x ≤ 0
  · rw [if_pos hq] at h
    exact lv_if_le hx hb hd ht (fun _ => k1 h H locs ls h1 h2 h3) (fun z => absurd hq z)
  · rw [if_neg hq] at h
    exact lv_if_le hx hb hd ht (fun z => absurd z hq) (fun _ => k2 h H locs ls h1 h2 h3)
theorem zg_icmp_le {X : zg_X} {D : va_G} {G : zw_G} {A : Nat → Prop} {Q : State → Prop} {ck : Nat} {w : zw_T} {pc : Nat} {lv : List (Option Value)} {st : List Value} {cc : ByteArray} {own : String} {nL fr lo mc : Nat} {x y : Int32} {off : Int} {tgt : Nat} {ρ : Type} {ra rb : Option ρ} {r : ρ} (hX : zg_ok X cc own nL fr lo mc D G A) (hd : decode cc pc = .ok (.if_icmp .le off, 3))  (ht : (pc : Int) + off = (tgt : Int)) (h : (if x ≤ y then ra else rb) = some r) (k1 : ra = some r → zg X D G A Q ck w tgt lv st) (k2 : rb = some r → zg X D G A Q ck w (pc + 3) lv st) : zg X D G A Q ck w pc lv (.int y :: .int x :: st) := by
  obtain ⟨p, l, e, R, s, m, args, below, meth, c⟩ := X
  obtain ⟨hx, hb, hml, ho, hts, hK, hA, hlk, hfr, hR1, hR2, hlo, hZ⟩ := hX
  intro H locs ls h1 h2 h3
  by_cases hq : x ≤ y
  · rw [if_pos hq] at h
    exact lv_icmp_le hx hb hd ht (fun _ => k1 h H locs ls h1 h2 h3) (fun z => absurd hq z)
  · rw [if_neg hq] at h
    exact lv_icmp_le hx hb hd ht (fun z => absurd z hq) (fun _ => k2 h H locs ls h1 h2 h3)
theorem zg_acmp_eq {X : zg_X} {D : va_G} {G : zw_G} {A : Nat → Prop} {Q : State → Prop} {ck : Nat} {w : zw_T} {pc : Nat} {lv : List (Option Value)} {st : List Value} {cc : ByteArray} {own : String} {nL fr lo mc : Nat} {x y : Option Nat} {off : Int} {tgt : Nat} {ρ : Type} {ra rb : Option ρ} {r : ρ} (hX : zg_ok X cc own nL fr lo mc D G A) (hd : decode cc pc = .ok (.if_acmp .eq off, 3))  (ht : (pc : Int) + off = (tgt : Int)) (h : (if x = y then ra else rb) = some r) (k1 : ra = some r → zg X D G A Q ck w tgt lv st) (k2 : rb = some r → zg X D G A Q ck w (pc + 3) lv st) : zg X D G A Q ck w pc lv (va_rf y :: va_rf x :: st) := by
  obtain ⟨p, l, e, R, s, m, args, below, meth, c⟩ := X
  obtain ⟨hx, hb, hml, ho, hts, hK, hA, hlk, hfr, hR1, hR2, hlo, hZ⟩ := hX
  intro H locs ls h1 h2 h3
  by_cases hq : x = y
  · rw [if_pos hq] at h
    exact lv_acmp_eq hx hb hd ht (fun _ => k1 h H locs ls h1 h2 h3) (fun z => absurd hq z)
  · rw [if_neg hq] at h
    exact lv_acmp_eq hx hb hd ht (fun z => absurd z hq) (fun _ => k2 h H locs ls h1 h2 h3)
theorem zg_acmp_ne {X : zg_X} {D : va_G} {G : zw_G} {A : Nat → Prop} {Q : State → Prop} {ck : Nat} {w : zw_T} {pc : Nat} {lv : List (Option Value)} {st : List Value} {cc : ByteArray} {own : String} {nL fr lo mc : Nat} {x y : Option Nat} {off : Int} {tgt : Nat} {ρ : Type} {ra rb : Option ρ} {r : ρ} (hX : zg_ok X cc own nL fr lo mc D G A) (hd : decode cc pc = .ok (.if_acmp .ne off, 3))  (ht : (pc : Int) + off = (tgt : Int)) (h : (if x = y then ra else rb) = some r) (k1 : ra = some r → zg X D G A Q ck w (pc + 3) lv st) (k2 : rb = some r → zg X D G A Q ck w tgt lv st) : zg X D G A Q ck w pc lv (va_rf y :: va_rf x :: st) := by
  obtain ⟨p, l, e, R, s, m, args, below, meth, c⟩ := X
  obtain ⟨hx, hb, hml, ho, hts, hK, hA, hlk, hfr, hR1, hR2, hlo, hZ⟩ := hX
  intro H locs ls h1 h2 h3
  by_cases hq : x = y
  · rw [if_pos hq] at h
    exact lv_acmp_ne hx hb hd ht (fun z => absurd hq z) (fun _ => k1 h H locs ls h1 h2 h3)
  · rw [if_neg hq] at h
    exact lv_acmp_ne hx hb hd ht (fun _ => k2 h H locs ls h1 h2 h3) (fun z => absurd z hq)
theorem zg_ifnull {X : zg_X} {D : va_G} {G : zw_G} {A : Nat → Prop} {Q : State → Prop} {ck : Nat} {w : zw_T} {pc : Nat} {lv : List (Option Value)} {st : List Value} {cc : ByteArray} {own : String} {nL fr lo mc : Nat} {x : Option Nat} {off : Int} {tgt : Nat} {ρ : Type} {ra rb : Option ρ} {r : ρ} (hX : zg_ok X cc own nL fr lo mc D G A) (hd : decode cc pc = .ok (.ifnull off, 3))  (ht : (pc : Int) + off = (tgt : Int)) (h : (if x = none then ra else rb) = some r) (k1 : ra = some r → zg X D G A Q ck w tgt lv st) (k2 : rb = some r → zg X D G A Q ck w (pc + 3) lv st) : zg X D G A Q ck w pc lv (va_rf x :: st) := by
  obtain ⟨p, l, e, R, s, m, args, below, meth, c⟩ := X
  obtain ⟨hx, hb, hml, ho, hts, hK, hA, hlk, hfr, hR1, hR2, hlo, hZ⟩ := hX
  intro H locs ls h1 h2 h3
  cases x with
  | none => exact lv_ifnullN hx hb hd ht (k1 (by simpa using h) H locs ls h1 h2 h3)
  | some x => exact lv_ifnull hx hb hd (k2 (by simpa using h) H locs ls h1 h2 h3)
theorem zg_ifnonnull {X : zg_X} {D : va_G} {G : zw_G} {A : Nat → Prop} {Q : State → Prop} {ck : Nat} {w : zw_T} {pc : Nat} {lv : List (Option Value)} {st : List Value} {cc : ByteArray} {own : String} {nL fr lo mc : Nat} {x : Option Nat} {off : Int} {tgt : Nat} {ρ : Type} {ra rb : Option ρ} {r : ρ} (hX : zg_ok X cc own nL fr lo mc D G A) (hd : decode cc pc = .ok (.ifnonnull off, 3))  (ht : (pc : Int) + off = (tgt : Int)) (h : (if x = none then ra else rb) = some r) (k1 : ra = some r → zg X D G A Q ck w (pc + 3) lv st) (k2 : rb = some r → zg X D G A Q ck w tgt lv st) : zg X D G A Q ck w pc lv (va_rf x :: st) := by
  obtain ⟨p, l, e, R, s, m, args, below, meth, c⟩ := X
  obtain ⟨hx, hb, hml, ho, hts, hK, hA, hlk, hfr, hR1, hR2, hlo, hZ⟩ := hX
  intro H locs ls h1 h2 h3
  cases x with
  | none => exact lv_ifnonnullN hx hb hd (k1 (by simpa using h) H locs ls h1 h2 h3)
  | some x => exact lv_ifnonnull hx hb hd ht (k2 (by simpa using h) H locs ls h1 h2 h3)
theorem zg_goto {X : zg_X} {D : va_G} {G : zw_G} {A : Nat → Prop} {Q : State → Prop} {ck : Nat} {w : zw_T} {pc : Nat} {lv : List (Option Value)} {st : List Value} {cc : ByteArray} {own : String} {nL fr lo mc : Nat} {off : Int} {tgt : Nat} (hX : zg_ok X cc own nL fr lo mc D G A) (hd : decode cc pc = .ok (.goto off, 3))  (ht : (pc : Int) + off = (tgt : Int)) (k : zg X D G A Q ck w tgt lv st) : zg X D G A Q ck w pc lv st := by
  obtain ⟨p, l, e, R, s, m, args, below, meth, c⟩ := X
  obtain ⟨hx, hb, hml, ho, hts, hK, hA, hlk, hfr, hR1, hR2, hlo, hZ⟩ := hX
  intro H locs ls h1 h2 h3
  exact lv_goto hx hb hd ht (k H locs ls h1 h2 h3)
theorem zv_cat (o : Option Nat) : (va_rf o).category = 1 := by cases o <;> rfl
theorem zv_no (C : String) (o : Option Nat) : narrow (.object C) (va_rf o) = va_rf o ∧ fits (.object C) (va_rf o) = true := by cases o <;> exact ⟨rfl, rfl⟩
theorem zv_na (t : FieldType) (o : Option Nat) : narrow (.array t) (va_rf o) = va_rf o ∧ fits (.array t) (va_rf o) = true := by cases o <;> exact ⟨rfl, rfl⟩
def zk_F : Nat := 3000
theorem zg_tsw4 {X : zg_X} {D : va_G} {G : zw_G} {A : Nat → Prop} {Q : State → Prop} {ck : Nat} {w : zw_T} {pc : Nat} {lv : List (Option Value)} {st : List Value} {cc : ByteArray} {own : String} {nL fr lo mc : Nat} {x : Int32} {od o0 o1 o2 o3 : Int} {len gd g0 g1 g2 g3 : Nat} {ρ : Type} {rd r0 r1 r2 r3 : Option ρ} {r : ρ} (hX : zg_ok X cc own nL fr lo mc D G A) (hd : decode cc pc = .ok (.tableswitch od 0 3 #[o0, o1, o2, o3], len))  (td : (pc : Int) + od = (gd : Int)) (t0 : (pc : Int) + o0 = (g0 : Int)) (t1 : (pc : Int) + o1 = (g1 : Int)) (t2 : (pc : Int) + o2 = (g2 : Int)) (t3 : (pc : Int) + o3 = (g3 : Int)) (h : (if x = 0 then r0 else (if x = 1 then r1 else (if x = 2 then r2 else if x = 3 then r3 else rd))) = some r) (k0 : r0 = some r → zg X D G A Q ck w g0 lv st) (k1 : r1 = some r → zg X D G A Q ck w g1 lv st) (k2 : r2 = some r → zg X D G A Q ck w g2 lv st) (k3 : r3 = some r → zg X D G A Q ck w g3 lv st) (kd : rd = some r → zg X D G A Q ck w gd lv st) : zg X D G A Q ck w pc lv (.int x :: st) := by
  obtain ⟨p, l, e, R, s, m, args, below, meth, c⟩ := X
  obtain ⟨hx, hb, hml, ho, hts, hK, hA, hlk, hfr, hR1, hR2, hlo, hZ⟩ := hX
  intro H locs ls h1 h2 h3
  by_cases q0 : x = 0
  · rw [if_pos q0] at h
    subst q0
    exact lv_tableIn hx hb hd (by decide) (by decide) rfl t0 (k0 h H locs ls h1 h2 h3)
  · rw [if_neg q0] at h
    by_cases q1 : x = 1
    · rw [if_pos q1] at h
      subst q1
      exact lv_tableIn hx hb hd (by decide) (by decide) rfl t1 (k1 h H locs ls h1 h2 h3)
    · rw [if_neg q1] at h
      by_cases q2 : x = 2
      · rw [if_pos q2] at h
        subst q2
        exact lv_tableIn hx hb hd (by decide) (by decide) rfl t2 (k2 h H locs ls h1 h2 h3)
      · rw [if_neg q2] at h
        by_cases q3 : x = 3
        · rw [if_pos q3] at h
          subst q3
          exact lv_tableIn hx hb hd (by decide) (by decide) rfl t3 (k3 h H locs ls h1 h2 h3)
        · rw [if_neg q3] at h
          have n0 := lv_neT q0 (a := 0) (by decide)
          have n1 := lv_neT q1 (a := 1) (by decide)
          have n2 := lv_neT q2 (a := 2) (by decide)
          have n3 := lv_neT q3 (a := 3) (by decide)
          exact lv_tableOut hx hb hd (by omega) td (kd h H locs ls h1 h2 h3)
end
section
/-! Functions of mine: what an instruction does to a memory; none where the machine would throw -/
def zf_at {ρ : Type} (w : zw_T) (kd : Nat) (o : Option Nat) (K : Nat → Option ρ) : Option ρ := match o with
  | none => none
  | some a => if (zw_ty w a).1 = kd then K a else none
def zf_ix {ρ : Type} (w : zw_T) (kd : Nat) (o : Option Nat) (i : Int32) (K : Nat → Nat → Option ρ) : Option ρ := match o with
  | none => none
  | some a => if (zw_ty w a).1 = kd ∧ ¬ i < 0 ∧ i.toNatClampNeg < (zw_ty w a).2 then K a i.toNatClampNeg else none
def zf_tr {ρ : Type} (i : Int32) (K : Int32 → Option ρ) : Option ρ := if ¬ i < 0 ∧ i.toNatClampNeg < 32 then K (zs_tr i.toNatClampNeg) else none
def zf_na {ρ : Type} (w : zw_T) (kd : Nat) (n : Int32) (K : zw_T → Option ρ) : Option ρ := if ¬ n < 0 ∧ n.toNatClampNeg ≤ 4096 then K (zw_new w kd n.toNatClampNeg) else none
def zf_b {ρ : Type} (x : Int32) (K : Option ρ) : Option ρ := if x = 0 ∨ x = 1 then K else none
def zf_nz {ρ : Type} (x : Int32) (K : Option ρ) : Option ρ := if x = 0 then none else K
def zf_bd {α ρ : Type} (o : Option (α × zw_T)) (K : α → zw_T → Option ρ) : Option ρ := match o with
  | none => none
  | some q => K q.1 q.2
def zf_bv {ρ : Type} (o : Option zw_T) (K : zw_T → Option ρ) : Option ρ := match o with
  | none => none
  | some q => K q
def zf_cp {ρ : Type} (w : zw_T) (k0 k1 : Nat) (o0 : Option Nat) (sp : Int32) (o1 : Option Nat) (dp n : Int32) (K : zw_T → Option ρ) : Option ρ := match o0, o1 with
  | some a, some b => if (zw_ty w a).1 = k0 ∧ (zw_ty w b).1 = k1 ∧ ¬ sp < 0 ∧ ¬ dp < 0 ∧ ¬ n < 0 ∧ sp.toNatClampNeg + n.toNatClampNeg ≤ (zw_ty w a).2 ∧ dp.toNatClampNeg + n.toNatClampNeg ≤ (zw_ty w b).2 then K (zw_sF w k1 b (va_cpy (zw_I w k0 a) (zw_I w k1 b) sp.toNatClampNeg dp.toNatClampNeg n.toNatClampNeg)) else none
  | _, _ => none
theorem zf_at_e {ρ : Type} {w : zw_T} {kd : Nat} {o : Option Nat} {K : Nat → Option ρ} {r : ρ} (h : zf_at w kd o K = some r) : ∃ a, o = some a ∧ (zw_ty w a).1 = kd ∧ K a = some r := by
  unfold zf_at at h
  cases o with
  | none => cases h
  | some a =>
    by_cases hq : (zw_ty w a).1 = kd
    · simp only [if_pos hq] at h
      exact ⟨a, rfl, hq, h⟩
    · simp only [if_neg hq] at h
      cases h
theorem zf_ix_e {ρ : Type} {w : zw_T} {kd : Nat} {o : Option Nat} {i : Int32} {K : Nat → Nat → Option ρ} {r : ρ} (h : zf_ix w kd o i K = some r) : ∃ a, o = some a ∧ (zw_ty w a).1 = kd ∧ ¬ i < 0 ∧ i.toNatClampNeg < (zw_ty w a).2 ∧ K a i.toNatClampNeg = some r := by
  unfold zf_ix at h
  cases o with
  | none => cases h
  | some a =>
    by_cases hq : (zw_ty w a).1 = kd ∧ ¬ i < 0 ∧ i.toNatClampNeg < (zw_ty w a).2
    · simp only [if_pos hq] at h
      exact ⟨a, rfl, hq.1, hq.2.1, hq.2.2, h⟩
    · simp only [if_neg hq] at h
      cases h
theorem zf_bd_e {α ρ : Type} {o : Option (α × zw_T)} {K : α → zw_T → Option ρ} {r : ρ} (h : zf_bd o K = some r) : ∃ (v : α) (w : zw_T), o = some (v, w) ∧ K v w = some r := by
  unfold zf_bd at h
  cases o with
  | none => cases h
  | some q => exact ⟨q.1, q.2, rfl, h⟩
theorem zf_bv_e {ρ : Type} {o : Option zw_T} {K : zw_T → Option ρ} {r : ρ} (h : zf_bv o K = some r) : ∃ w : zw_T, o = some w ∧ K w = some r := by
  unfold zf_bv at h
  cases o with
  | none => cases h
  | some q => exact ⟨q, rfl, h⟩
theorem zf_nz_e {ρ : Type} {x : Int32} {K : Option ρ} {r : ρ} (h : zf_nz x K = some r) : ¬ x = 0 ∧ K = some r := by
  unfold zf_nz at h
  by_cases hq : x = 0
  · rw [if_pos hq] at h
    cases h
  · rw [if_neg hq] at h
    exact ⟨hq, h⟩
theorem zf_b_e {ρ : Type} {x : Int32} {K : Option ρ} {r : ρ} (h : zf_b x K = some r) : (x = 0 ∨ x = 1) ∧ K = some r := by
  unfold zf_b at h
  by_cases hq : x = 0 ∨ x = 1
  · rw [if_pos hq] at h
    exact ⟨hq, h⟩
  · rw [if_neg hq] at h
    cases h
theorem zf_b_n {x : Int32} (h : x = 0 ∨ x = 1) : narrow .boolean (.int x) = .int x ∧ fits .boolean (.int x) = true := by
  rcases h with rfl | rfl <;> exact ⟨by decide, by decide⟩
theorem zw_nf_of {ci N : Nat} {C : String} {T : u_T} (hc : vwCl[ci]? = some (C, T, N)) : zw_nf ci = N := by
  unfold zw_nf
  rw [hc]
theorem zb_in {i : Int32} {n : Nat} (h0 : ¬ i < 0) (h5 : i.toNatClampNeg < n) : vp_in i n := by
  intro q
  rcases q with q | q
  · exact h0 q
  · omega
theorem zg_getI {X : zg_X} {D : va_G} {G : zw_G} {A : Nat → Prop} {Q : State → Prop} {ck : Nat} {w : zw_T} {pc : Nat} {lv : List (Option Value)} {st : List Value} {cc : ByteArray} {own : String} {nL fr lo mc : Nat} {ci k idx N : Nat} {C : String} {T : u_T} (hc : vwCl[ci]? = some (C, T, N)) (hk : k < N) (hci : ci < 99) (hin : ∀ q ∈ u_ws C T N, q ∈ zT) (hlink : Cond.fieldLink own idx (T k).1 (T k).2.1 (T k).2.2.1 ∈ zT) (ht : zw_ft ci k = 0) {o : Option Nat} {ρ : Type} {r : ρ} {K : Nat → Option ρ} (hX : zg_ok X cc own nL fr lo mc D G A) (hd : decode cc pc = .ok (.getfield idx, 3)) (h : zf_at w (ci + 1) o K = some r) (kk : ∀ a, K a = some r → zg X D G A Q ck w (pc + 3) lv (.int (zw_I w (1000 + 64 * ci + k) a 0) :: st)) : zg X D G A Q ck w pc lv (va_rf o :: st) := by
  obtain ⟨a, rfl, ht', h⟩ := zf_at_e h
  obtain ⟨p, l, e, R, s, m, args, below, meth, c⟩ := X
  obtain ⟨hx, hb, hml, ho, hts, hK, hA, hlk, hfr, hR1, hR2, hlo, hZ⟩ := hX
  intro H locs ls h1 h2 h3
  have hv := (h2.2 a (by rw [ht']; omega)).1
  rw [zw_cell_o ht' hci] at hv
  exact va_get hx hb hts hin ho hK (zw_one hv) 0 rfl hc k hk (hts _ hlink) (fun _ q => q) (v := .int (zw_I w (1000 + 64 * ci + k) a 0)) (by rw [zw_fs_at (by rw [zw_nf_of hc]; exact hk), ht]; rfl) hd (kk a h H locs ls h1 h2 h3)
theorem zg_getR {X : zg_X} {D : va_G} {G : zw_G} {A : Nat → Prop} {Q : State → Prop} {ck : Nat} {w : zw_T} {pc : Nat} {lv : List (Option Value)} {st : List Value} {cc : ByteArray} {own : String} {nL fr lo mc : Nat} {ci k idx N : Nat} {C : String} {T : u_T} (hc : vwCl[ci]? = some (C, T, N)) (hk : k < N) (hci : ci < 99) (hin : ∀ q ∈ u_ws C T N, q ∈ zT) (hlink : Cond.fieldLink own idx (T k).1 (T k).2.1 (T k).2.2.1 ∈ zT) (ht : zw_ft ci k = 1) {o : Option Nat} {ρ : Type} {r : ρ} {K : Nat → Option ρ} (hX : zg_ok X cc own nL fr lo mc D G A) (hd : decode cc pc = .ok (.getfield idx, 3)) (h : zf_at w (ci + 1) o K = some r) (kk : ∀ a, K a = some r → zg X D G A Q ck w (pc + 3) lv (va_rf (zw_R w (1000 + 64 * ci + k) a 0) :: st)) : zg X D G A Q ck w pc lv (va_rf o :: st) := by
  obtain ⟨a, rfl, ht', h⟩ := zf_at_e h
  obtain ⟨p, l, e, R, s, m, args, below, meth, c⟩ := X
  obtain ⟨hx, hb, hml, ho, hts, hK, hA, hlk, hfr, hR1, hR2, hlo, hZ⟩ := hX
  intro H locs ls h1 h2 h3
  have hv := (h2.2 a (by rw [ht']; omega)).1
  rw [zw_cell_o ht' hci] at hv
  exact va_get hx hb hts hin ho hK (zw_one hv) 0 rfl hc k hk (hts _ hlink) (fun _ q => q) (v := va_rf (zw_R w (1000 + 64 * ci + k) a 0)) (by rw [zw_fs_at (by rw [zw_nf_of hc]; exact hk), ht]; rfl) hd (kk a h H locs ls h1 h2 h3)
theorem zg_getL {X : zg_X} {D : va_G} {G : zw_G} {A : Nat → Prop} {Q : State → Prop} {ck : Nat} {w : zw_T} {pc : Nat} {lv : List (Option Value)} {st : List Value} {cc : ByteArray} {own : String} {nL fr lo mc : Nat} {ci k idx N : Nat} {C : String} {T : u_T} (hc : vwCl[ci]? = some (C, T, N)) (hk : k < N) (hci : ci < 99) (hin : ∀ q ∈ u_ws C T N, q ∈ zT) (hlink : Cond.fieldLink own idx (T k).1 (T k).2.1 (T k).2.2.1 ∈ zT) (ht : zw_ft ci k = 2) {o : Option Nat} {ρ : Type} {r : ρ} {K : Nat → Option ρ} (hX : zg_ok X cc own nL fr lo mc D G A) (hd : decode cc pc = .ok (.getfield idx, 3)) (h : zf_at w (ci + 1) o K = some r) (kk : ∀ a, K a = some r → zg X D G A Q ck w (pc + 3) lv (.long (zw_L w (1000 + 64 * ci + k) a 0) :: st)) : zg X D G A Q ck w pc lv (va_rf o :: st) := by
  obtain ⟨a, rfl, ht', h⟩ := zf_at_e h
  obtain ⟨p, l, e, R, s, m, args, below, meth, c⟩ := X
  obtain ⟨hx, hb, hml, ho, hts, hK, hA, hlk, hfr, hR1, hR2, hlo, hZ⟩ := hX
  intro H locs ls h1 h2 h3
  have hv := (h2.2 a (by rw [ht']; omega)).1
  rw [zw_cell_o ht' hci] at hv
  exact va_get hx hb hts hin ho hK (zw_one hv) 0 rfl hc k hk (hts _ hlink) (fun _ q => q) (v := .long (zw_L w (1000 + 64 * ci + k) a 0)) (by rw [zw_fs_at (by rw [zw_nf_of hc]; exact hk), ht]; rfl) hd (kk a h H locs ls h1 h2 h3)
theorem zg_putx {X : zg_X} {D : va_G} {G : zw_G} {A : Nat → Prop} {Q : State → Prop} {ck : Nat} {w : zw_T} {pc : Nat} {lv : List (Option Value)} {st : List Value} {cc : ByteArray} {own : String} {nL fr lo mc : Nat} {ci k idx N : Nat} {C : String} {T : u_T} (hc : vwCl[ci]? = some (C, T, N)) (hk : k < N) (hci : ci < 99) (hin : ∀ q ∈ u_ws C T N, q ∈ zT) (hlink : Cond.fieldLink own idx (T k).1 (T k).2.1 (T k).2.2.1 ∈ zT) (ty0 : Nat → FieldType) (hty : ∀ k, k < N → parseFieldDescriptor (T k).2.2.1 = some (ty0 k)) (hnm : ∀ a, a < N → ∀ b, b < N → a ≠ b → (T a).2.1 ≠ (T b).2.1) (hfin : (T k).2.2.2 = false) {v : Value} {a : Nat} (w' : zw_T) (hn : narrow (ty0 k) v = v) (hfit : fits (ty0 k) v = true) (ha : (zw_ty w a).1 = ci + 1) (hw1 : zw_ty w' = zw_ty w) (hw2 : zw_n w' = zw_n w) (hw3 : ∀ b, b ≠ a → zw_cell G w' b = zw_cell G w b) (hw4 : zw_fs w' ci a = (zw_fs w ci a).set k v) (hX : zg_ok X cc own nL fr lo mc D G A) (hd : decode cc pc = .ok (.putfield idx, 3)) (kk : zg X D G A Q ck w' (pc + 3) lv st) : zg X D G A Q ck w pc lv (v :: .ref a :: st) := by
  obtain ⟨p, l, e, R, s, m, args, below, meth, c⟩ := X
  obtain ⟨hx, hb, hml, ho, hts, hK, hA, hlk, hfr, hR1, hR2, hlo, hZ⟩ := hX
  intro H locs ls h1 h2 h3
  have hv := h2.2 a (by rw [ha]; omega)
  have hAa := hv.2
  have hv := hv.1
  rw [zw_cell_o ha hci] at hv
  have hap := va_apart (own := own) hts hin ty0 hty hnm hK hc
  obtain ⟨r, g1, cell, q1, q2, q3, q4⟩ := hv
  have hr : r = (C, T, N) := Option.some.inj (g1.symm.trans hc)
  subst hr
  obtain ⟨hS, hfc, kC, hkC, hkind⟩ := hK.1 ci _ hc
  obtain ⟨cf, kf, fi, f, hi, hsl⟩ := hS k hk
  have hlay := hts _ (hin _ (u_in_lay hk))
  unfold u_lay at hlay
  rw [if_neg (by rw [hfin]; decide)] at hlay
  have hst := (u_facts hfc hkC (u_lays hts hin hk) hi).1
  have h6 := u_store hfc hkC hkind hlay hi (hty k hk) hn hfit
  refine W.putK hx hb (f := f) ⟨ho, hts _ hlink, ⟨_, _, _, hi⟩, hst⟩ (by rw [q2]; exact h6) q1 q3 (by rw [hsl]; exact k2_hasslot (q4 k hk)) rfl rfl hd fun H' e1 e2 e3 => ?_
  rw [hsl] at e1 ⊢
  refine kk H' _ ls h1 (zw_move h2 hw1 hw2 hw3 ?_ e2 e3) (h3.put e2 e3 hAa)
  rw [zw_cell_o (by rw [hw1]; exact ha) hci, hw4]
  exact ⟨_, hc, t_OB.to (V := updV (vp_V (zw_fs w ci a)) k v) ⟨_, e1, q2, q3, t_set q4 hap hk v⟩ (fun j _ => vp_updV_set (by rw [zw_fs_len, zw_nf_of hc]; exact hk) v j)⟩
theorem zg_pfix {X : zg_X} {D : va_G} {G : zw_G} {A : Nat → Prop} {Q : State → Prop} {ck : Nat} {w : zw_T} {pc : Nat} {lv : List (Option Value)} {st : List Value} {cc : ByteArray} {own : String} {nL fr lo mc : Nat} {ci k idx N : Nat} {C : String} {T : u_T} (hc : vwCl[ci]? = some (C, T, N)) (hk : k < N) (hci : ci < 99) (hin : ∀ q ∈ u_ws C T N, q ∈ zT) (hlink : Cond.fieldLink own idx (T k).1 (T k).2.1 (T k).2.2.1 ∈ zT) (ty0 : Nat → FieldType) (hty : ∀ k, k < N → parseFieldDescriptor (T k).2.2.1 = some (ty0 k)) (hnm : ∀ a, a < N → ∀ b, b < N → a ≠ b → (T a).2.1 ≠ (T b).2.1) (hfin : (T k).2.2.2 = true) (hnm2 : zg_nm X = "<init>") (hdecl : (T k).1 = own) {v : Value} {a : Nat} (w' : zw_T) (hn : narrow (ty0 k) v = v) (hfit : fits (ty0 k) v = true) (ha : (zw_ty w a).1 = ci + 1) (hw1 : zw_ty w' = zw_ty w) (hw2 : zw_n w' = zw_n w) (hw3 : ∀ b, b ≠ a → zw_cell G w' b = zw_cell G w b) (hw4 : zw_fs w' ci a = (zw_fs w ci a).set k v) (hX : zg_ok X cc own nL fr lo mc D G A) (hd : decode cc pc = .ok (.putfield idx, 3)) (kk : zg X D G A Q ck w' (pc + 3) lv st) : zg X D G A Q ck w pc lv (v :: .ref a :: st) := by
  obtain ⟨p, l, e, R, s, m, args, below, meth, c⟩ := X
  obtain ⟨hx, hb, hml, ho, hts, hK, hA, hlk, hfr, hR1, hR2, hlo, hZ⟩ := hX
  intro H locs ls h1 h2 h3
  have hv := h2.2 a (by rw [ha]; omega)
  have hAa := hv.2
  have hv := hv.1
  rw [zw_cell_o ha hci] at hv
  have hap := va_apart (own := own) hts hin ty0 hty hnm hK hc
  obtain ⟨r, g1, cell, q1, q2, q3, q4⟩ := hv
  have hr : r = (C, T, N) := Option.some.inj (g1.symm.trans hc)
  subst hr
  obtain ⟨hS, hfc, kC, hkC, hkind⟩ := hK.1 ci _ hc
  obtain ⟨cf, kf, fi, f, hi, hsl⟩ := hS k hk
  have hlay := hts _ (hin _ (u_in_lay hk))
  unfold u_lay at hlay
  rw [if_pos hfin] at hlay
  have hst := (u_facts hfc hkC (u_lays hts hin hk) hi).1
  have hcf : m.cls = cf := by
    obtain ⟨_, _, c', _, _, _, -, -, hf', -, -, -, hown2, -⟩ := Cond.laysFinal_spec hlay
    have e1 : c' = cf := by have := hi.symm.trans hf'; simp at this; exact this.1.symm
    rw [hdecl] at hown2
    rw [← e1]; exact Option.some.inj (ho.symm.trans hown2)
  have h6 := u_fits hfc hkC hkind (Or.inr hlay) hi (hty k hk) hn hfit
  refine W.putFinK hx hb ho (hts _ hlink) hi hst hcf hnm2 (by rw [q2]; exact h6) q1 q3 (by rw [hsl]; exact k2_hasslot (q4 k hk)) rfl rfl hd fun H' e1 e2 e3 => ?_
  rw [hsl] at e1 ⊢
  refine kk H' _ ls h1 (zw_move h2 hw1 hw2 hw3 ?_ e2 e3) (h3.put e2 e3 hAa)
  rw [zw_cell_o (by rw [hw1]; exact ha) hci, hw4]
  exact ⟨_, hc, t_OB.to (V := updV (vp_V (zw_fs w ci a)) k v) ⟨_, e1, q2, q3, t_set q4 hap hk v⟩ (fun j _ => vp_updV_set (by rw [zw_fs_len, zw_nf_of hc]; exact hk) v j)⟩
theorem zg_putI {X : zg_X} {D : va_G} {G : zw_G} {A : Nat → Prop} {Q : State → Prop} {ck : Nat} {w : zw_T} {pc : Nat} {lv : List (Option Value)} {st : List Value} {cc : ByteArray} {own : String} {nL fr lo mc : Nat} {ci k idx N : Nat} {C : String} {T : u_T} (hc : vwCl[ci]? = some (C, T, N)) (hk : k < N) (hci : ci < 99) (hin : ∀ q ∈ u_ws C T N, q ∈ zT) (hlink : Cond.fieldLink own idx (T k).1 (T k).2.1 (T k).2.2.1 ∈ zT) (ht : zw_ft ci k = 0) (ty0 : Nat → FieldType) (hty : ∀ k, k < N → parseFieldDescriptor (T k).2.2.1 = some (ty0 k)) (hnm : ∀ a, a < N → ∀ b, b < N → a ≠ b → (T a).2.1 ≠ (T b).2.1) (hfin : (T k).2.2.2 = false) {x : Int32} (hn : narrow (ty0 k) (.int x) = .int x) (hfit : fits (ty0 k) (.int x) = true) {o : Option Nat} {ρ : Type} {r : ρ} {K : zw_T → Option ρ} (hX : zg_ok X cc own nL fr lo mc D G A) (hd : decode cc pc = .ok (.putfield idx, 3)) (h : zf_at w (ci + 1) o (fun a => zf_let (zw_sI w (1000 + 64 * ci + k) a 0 x) K) = some r) (kk : ∀ w1, K w1 = some r → zg X D G A Q ck w1 (pc + 3) lv st) : zg X D G A Q ck w pc lv (.int x :: va_rf o :: st) := by
  obtain ⟨a, rfl, ht', h⟩ := zf_at_e h
  exact zg_putx hc hk hci hin hlink ty0 hty hnm hfin (zw_sI w (1000 + 64 * ci + k) a 0 x) hn hfit ht' rfl rfl (fun b hb => zw_sF_ne hb) (zw_fs_I (by rw [zw_nf_of hc]; exact hk) ht) hX hd (kk _ h)
theorem zg_pfiI {X : zg_X} {D : va_G} {G : zw_G} {A : Nat → Prop} {Q : State → Prop} {ck : Nat} {w : zw_T} {pc : Nat} {lv : List (Option Value)} {st : List Value} {cc : ByteArray} {own : String} {nL fr lo mc : Nat} {ci k idx N : Nat} {C : String} {T : u_T} (hc : vwCl[ci]? = some (C, T, N)) (hk : k < N) (hci : ci < 99) (hin : ∀ q ∈ u_ws C T N, q ∈ zT) (hlink : Cond.fieldLink own idx (T k).1 (T k).2.1 (T k).2.2.1 ∈ zT) (ht : zw_ft ci k = 0) (ty0 : Nat → FieldType) (hty : ∀ k, k < N → parseFieldDescriptor (T k).2.2.1 = some (ty0 k)) (hnm : ∀ a, a < N → ∀ b, b < N → a ≠ b → (T a).2.1 ≠ (T b).2.1) (hfin : (T k).2.2.2 = true) (hnm2 : zg_nm X = "<init>") (hdecl : (T k).1 = own) {x : Int32} (hn : narrow (ty0 k) (.int x) = .int x) (hfit : fits (ty0 k) (.int x) = true) {o : Option Nat} {ρ : Type} {r : ρ} {K : zw_T → Option ρ} (hX : zg_ok X cc own nL fr lo mc D G A) (hd : decode cc pc = .ok (.putfield idx, 3)) (h : zf_at w (ci + 1) o (fun a => zf_let (zw_sI w (1000 + 64 * ci + k) a 0 x) K) = some r) (kk : ∀ w1, K w1 = some r → zg X D G A Q ck w1 (pc + 3) lv st) : zg X D G A Q ck w pc lv (.int x :: va_rf o :: st) := by
  obtain ⟨a, rfl, ht', h⟩ := zf_at_e h
  exact zg_pfix hc hk hci hin hlink ty0 hty hnm hfin hnm2 hdecl (zw_sI w (1000 + 64 * ci + k) a 0 x) hn hfit ht' rfl rfl (fun b hb => zw_sF_ne hb) (zw_fs_I (by rw [zw_nf_of hc]; exact hk) ht) hX hd (kk _ h)
theorem zg_putR {X : zg_X} {D : va_G} {G : zw_G} {A : Nat → Prop} {Q : State → Prop} {ck : Nat} {w : zw_T} {pc : Nat} {lv : List (Option Value)} {st : List Value} {cc : ByteArray} {own : String} {nL fr lo mc : Nat} {ci k idx N : Nat} {C : String} {T : u_T} (hc : vwCl[ci]? = some (C, T, N)) (hk : k < N) (hci : ci < 99) (hin : ∀ q ∈ u_ws C T N, q ∈ zT) (hlink : Cond.fieldLink own idx (T k).1 (T k).2.1 (T k).2.2.1 ∈ zT) (ht : zw_ft ci k = 1) (ty0 : Nat → FieldType) (hty : ∀ k, k < N → parseFieldDescriptor (T k).2.2.1 = some (ty0 k)) (hnm : ∀ a, a < N → ∀ b, b < N → a ≠ b → (T a).2.1 ≠ (T b).2.1) (hfin : (T k).2.2.2 = false) {x : Option Nat} (hn : narrow (ty0 k) (va_rf x) = va_rf x) (hfit : fits (ty0 k) (va_rf x) = true) {o : Option Nat} {ρ : Type} {r : ρ} {K : zw_T → Option ρ} (hX : zg_ok X cc own nL fr lo mc D G A) (hd : decode cc pc = .ok (.putfield idx, 3)) (h : zf_at w (ci + 1) o (fun a => zf_let (zw_sR w (1000 + 64 * ci + k) a 0 x) K) = some r) (kk : ∀ w1, K w1 = some r → zg X D G A Q ck w1 (pc + 3) lv st) : zg X D G A Q ck w pc lv (va_rf x :: va_rf o :: st) := by
  obtain ⟨a, rfl, ht', h⟩ := zf_at_e h
  exact zg_putx hc hk hci hin hlink ty0 hty hnm hfin (zw_sR w (1000 + 64 * ci + k) a 0 x) hn hfit ht' rfl rfl (fun b hb => zw_sR_ne hb) (zw_fs_R (by rw [zw_nf_of hc]; exact hk) ht) hX hd (kk _ h)
theorem zg_pfiR {X : zg_X} {D : va_G} {G : zw_G} {A : Nat → Prop} {Q : State → Prop} {ck : Nat} {w : zw_T} {pc : Nat} {lv : List (Option Value)} {st : List Value} {cc : ByteArray} {own : String} {nL fr lo mc : Nat} {ci k idx N : Nat} {C : String} {T : u_T} (hc : vwCl[ci]? = some (C, T, N)) (hk : k < N) (hci : ci < 99) (hin : ∀ q ∈ u_ws C T N, q ∈ zT) (hlink : Cond.fieldLink own idx (T k).1 (T k).2.1 (T k).2.2.1 ∈ zT) (ht : zw_ft ci k = 1) (ty0 : Nat → FieldType) (hty : ∀ k, k < N → parseFieldDescriptor (T k).2.2.1 = some (ty0 k)) (hnm : ∀ a, a < N → ∀ b, b < N → a ≠ b → (T a).2.1 ≠ (T b).2.1) (hfin : (T k).2.2.2 = true) (hnm2 : zg_nm X = "<init>") (hdecl : (T k).1 = own) {x : Option Nat} (hn : narrow (ty0 k) (va_rf x) = va_rf x) (hfit : fits (ty0 k) (va_rf x) = true) {o : Option Nat} {ρ : Type} {r : ρ} {K : zw_T → Option ρ} (hX : zg_ok X cc own nL fr lo mc D G A) (hd : decode cc pc = .ok (.putfield idx, 3)) (h : zf_at w (ci + 1) o (fun a => zf_let (zw_sR w (1000 + 64 * ci + k) a 0 x) K) = some r) (kk : ∀ w1, K w1 = some r → zg X D G A Q ck w1 (pc + 3) lv st) : zg X D G A Q ck w pc lv (va_rf x :: va_rf o :: st) := by
  obtain ⟨a, rfl, ht', h⟩ := zf_at_e h
  exact zg_pfix hc hk hci hin hlink ty0 hty hnm hfin hnm2 hdecl (zw_sR w (1000 + 64 * ci + k) a 0 x) hn hfit ht' rfl rfl (fun b hb => zw_sR_ne hb) (zw_fs_R (by rw [zw_nf_of hc]; exact hk) ht) hX hd (kk _ h)
theorem zg_putL {X : zg_X} {D : va_G} {G : zw_G} {A : Nat → Prop} {Q : State → Prop} {ck : Nat} {w : zw_T} {pc : Nat} {lv : List (Option Value)} {st : List Value} {cc : ByteArray} {own : String} {nL fr lo mc : Nat} {ci k idx N : Nat} {C : String} {T : u_T} (hc : vwCl[ci]? = some (C, T, N)) (hk : k < N) (hci : ci < 99) (hin : ∀ q ∈ u_ws C T N, q ∈ zT) (hlink : Cond.fieldLink own idx (T k).1 (T k).2.1 (T k).2.2.1 ∈ zT) (ht : zw_ft ci k = 2) (ty0 : Nat → FieldType) (hty : ∀ k, k < N → parseFieldDescriptor (T k).2.2.1 = some (ty0 k)) (hnm : ∀ a, a < N → ∀ b, b < N → a ≠ b → (T a).2.1 ≠ (T b).2.1) (hfin : (T k).2.2.2 = false) {x : Int64} (hn : narrow (ty0 k) (.long x) = .long x) (hfit : fits (ty0 k) (.long x) = true) {o : Option Nat} {ρ : Type} {r : ρ} {K : zw_T → Option ρ} (hX : zg_ok X cc own nL fr lo mc D G A) (hd : decode cc pc = .ok (.putfield idx, 3)) (h : zf_at w (ci + 1) o (fun a => zf_let (zw_sL w (1000 + 64 * ci + k) a 0 x) K) = some r) (kk : ∀ w1, K w1 = some r → zg X D G A Q ck w1 (pc + 3) lv st) : zg X D G A Q ck w pc lv (.long x :: va_rf o :: st) := by
  obtain ⟨a, rfl, ht', h⟩ := zf_at_e h
  exact zg_putx hc hk hci hin hlink ty0 hty hnm hfin (zw_sL w (1000 + 64 * ci + k) a 0 x) hn hfit ht' rfl rfl (fun b hb => zw_sL_ne hb) (zw_fs_L (by rw [zw_nf_of hc]; exact hk) ht) hX hd (kk _ h)
theorem zg_pfiL {X : zg_X} {D : va_G} {G : zw_G} {A : Nat → Prop} {Q : State → Prop} {ck : Nat} {w : zw_T} {pc : Nat} {lv : List (Option Value)} {st : List Value} {cc : ByteArray} {own : String} {nL fr lo mc : Nat} {ci k idx N : Nat} {C : String} {T : u_T} (hc : vwCl[ci]? = some (C, T, N)) (hk : k < N) (hci : ci < 99) (hin : ∀ q ∈ u_ws C T N, q ∈ zT) (hlink : Cond.fieldLink own idx (T k).1 (T k).2.1 (T k).2.2.1 ∈ zT) (ht : zw_ft ci k = 2) (ty0 : Nat → FieldType) (hty : ∀ k, k < N → parseFieldDescriptor (T k).2.2.1 = some (ty0 k)) (hnm : ∀ a, a < N → ∀ b, b < N → a ≠ b → (T a).2.1 ≠ (T b).2.1) (hfin : (T k).2.2.2 = true) (hnm2 : zg_nm X = "<init>") (hdecl : (T k).1 = own) {x : Int64} (hn : narrow (ty0 k) (.long x) = .long x) (hfit : fits (ty0 k) (.long x) = true) {o : Option Nat} {ρ : Type} {r : ρ} {K : zw_T → Option ρ} (hX : zg_ok X cc own nL fr lo mc D G A) (hd : decode cc pc = .ok (.putfield idx, 3)) (h : zf_at w (ci + 1) o (fun a => zf_let (zw_sL w (1000 + 64 * ci + k) a 0 x) K) = some r) (kk : ∀ w1, K w1 = some r → zg X D G A Q ck w1 (pc + 3) lv st) : zg X D G A Q ck w pc lv (.long x :: va_rf o :: st) := by
  obtain ⟨a, rfl, ht', h⟩ := zf_at_e h
  exact zg_pfix hc hk hci hin hlink ty0 hty hnm hfin hnm2 hdecl (zw_sL w (1000 + 64 * ci + k) a 0 x) hn hfit ht' rfl rfl (fun b hb => zw_sL_ne hb) (zw_fs_L (by rw [zw_nf_of hc]; exact hk) ht) hX hd (kk _ h)
theorem zg_iald {X : zg_X} {D : va_G} {G : zw_G} {A : Nat → Prop} {Q : State → Prop} {ck : Nat} {w : zw_T} {pc : Nat} {lv : List (Option Value)} {st : List Value} {cc : ByteArray} {own : String} {nL fr lo mc : Nat} {kd : Nat} (hk1 : 100 ≤ kd) (hk2 : kd < 200) {o : Option Nat} {i : Int32} {ρ : Type} {r : ρ} {K : Nat → Nat → Option ρ} (hX : zg_ok X cc own nL fr lo mc D G A) (hd : decode cc pc = .ok (.iaload, 1)) (h : zf_ix w kd o i K = some r) (kk : ∀ a j, K a j = some r → zg X D G A Q ck w (pc + 1) lv (.int (zw_I w kd a j) :: st)) : zg X D G A Q ck w pc lv (.int i :: va_rf o :: st) := by
  obtain ⟨a, rfl, ht, h0, h5, h⟩ := zf_ix_e h
  obtain ⟨p, l, e, R, s, m, args, below, meth, c⟩ := X
  obtain ⟨hx, hb, hml, ho, hts, hK, hA, hlk, hfr, hR1, hR2, hlo, hZ⟩ := hX
  intro H locs ls h1 h2 h3
  have hv := (h2.2 a (by rw [ht]; omega)).1
  rw [zw_cell_i ht hk1 hk2] at hv
  exact va_iald hx hb hK (zw_one hv) 0 0 rfl rfl (zb_in h0 h5) hd (kk a _ h H locs ls h1 h2 h3)
theorem zg_zald {X : zg_X} {D : va_G} {G : zw_G} {A : Nat → Prop} {Q : State → Prop} {ck : Nat} {w : zw_T} {pc : Nat} {lv : List (Option Value)} {st : List Value} {cc : ByteArray} {own : String} {nL fr lo mc : Nat} {kd : Nat} (hk1 : 200 ≤ kd) (hk2 : kd < 300) {o : Option Nat} {i : Int32} {ρ : Type} {r : ρ} {K : Nat → Nat → Option ρ} (hX : zg_ok X cc own nL fr lo mc D G A) (hd : decode cc pc = .ok (.baload, 1)) (h : zf_ix w kd o i K = some r) (kk : ∀ a j, K a j = some r → zg X D G A Q ck w (pc + 1) lv (.int (zw_I w kd a j) :: st)) : zg X D G A Q ck w pc lv (.int i :: va_rf o :: st) := by
  obtain ⟨a, rfl, ht, h0, h5, h⟩ := zf_ix_e h
  obtain ⟨p, l, e, R, s, m, args, below, meth, c⟩ := X
  obtain ⟨hx, hb, hml, ho, hts, hK, hA, hlk, hfr, hR1, hR2, hlo, hZ⟩ := hX
  intro H locs ls h1 h2 h3
  have hv := (h2.2 a (by rw [ht]; omega)).1
  rw [zw_cell_z ht hk1 hk2] at hv
  exact va_zald hx hb hK (zw_one hv) 0 1 rfl rfl (zb_in h0 h5) hd (kk a _ h H locs ls h1 h2 h3)
theorem zg_lald {X : zg_X} {D : va_G} {G : zw_G} {A : Nat → Prop} {Q : State → Prop} {ck : Nat} {w : zw_T} {pc : Nat} {lv : List (Option Value)} {st : List Value} {cc : ByteArray} {own : String} {nL fr lo mc : Nat} {kd : Nat} (hk1 : 300 ≤ kd) (hk2 : kd < 400) {o : Option Nat} {i : Int32} {ρ : Type} {r : ρ} {K : Nat → Nat → Option ρ} (hX : zg_ok X cc own nL fr lo mc D G A) (hd : decode cc pc = .ok (.laload, 1)) (h : zf_ix w kd o i K = some r) (kk : ∀ a j, K a j = some r → zg X D G A Q ck w (pc + 1) lv (.long (zw_L w kd a j) :: st)) : zg X D G A Q ck w pc lv (.int i :: va_rf o :: st) := by
  obtain ⟨a, rfl, ht, h0, h5, h⟩ := zf_ix_e h
  obtain ⟨p, l, e, R, s, m, args, below, meth, c⟩ := X
  obtain ⟨hx, hb, hml, ho, hts, hK, hA, hlk, hfr, hR1, hR2, hlo, hZ⟩ := hX
  intro H locs ls h1 h2 h3
  have hv := (h2.2 a (by rw [ht]; omega)).1
  rw [zw_cell_l ht hk1 hk2] at hv
  exact va_lald hx hb hK (zw_one hv) 0 2 rfl rfl (zb_in h0 h5) hd (kk a _ h H locs ls h1 h2 h3)
theorem zg_aald {X : zg_X} {D : va_G} {G : zw_G} {A : Nat → Prop} {Q : State → Prop} {ck : Nat} {w : zw_T} {pc : Nat} {lv : List (Option Value)} {st : List Value} {cc : ByteArray} {own : String} {nL fr lo mc : Nat} {ci t0 : Nat} (ht0 : (zw_tys G)[t0]? = some (G.2.2.2 ci, .object (zw_nm ci))) {o : Option Nat} {i : Int32} {ρ : Type} {r : ρ} {K : Nat → Nat → Option ρ} (hX : zg_ok X cc own nL fr lo mc D G A) (hd : decode cc pc = .ok (.aaload, 1)) (h : zf_ix w (400 + ci) o i K = some r) (kk : ∀ a j, K a j = some r → zg X D G A Q ck w (pc + 1) lv (va_rf (zw_R w (400 + ci) a j) :: st)) : zg X D G A Q ck w pc lv (.int i :: va_rf o :: st) := by
  obtain ⟨a, rfl, ht, h0, h5, h⟩ := zf_ix_e h
  obtain ⟨p, l, e, R, s, m, args, below, meth, c⟩ := X
  obtain ⟨hx, hb, hml, ho, hts, hK, hA, hlk, hfr, hR1, hR2, hlo, hZ⟩ := hX
  intro H locs ls h1 h2 h3
  have hv := (h2.2 a (by rw [ht]; omega)).1
  rw [zw_cell_r ht] at hv
  exact va_aldq hx hb hK (zw_one hv) 0 t0 rfl ht0 (zb_in h0 h5) hd (kk a _ h H locs ls h1 h2 h3)
theorem zg_iast {X : zg_X} {D : va_G} {G : zw_G} {A : Nat → Prop} {Q : State → Prop} {ck : Nat} {w : zw_T} {pc : Nat} {lv : List (Option Value)} {st : List Value} {cc : ByteArray} {own : String} {nL fr lo mc : Nat} {kd : Nat} (hk1 : 100 ≤ kd) (hk2 : kd < 200) {o : Option Nat} {i : Int32} {x : Int32} {ρ : Type} {r : ρ} {K : zw_T → Option ρ} (hX : zg_ok X cc own nL fr lo mc D G A) (hd : decode cc pc = .ok (.iastore, 1)) (h : zf_ix w kd o i (fun a j => zf_let (zw_sI w kd a j x) K) = some r) (kk : ∀ w1, K w1 = some r → zg X D G A Q ck w1 (pc + 1) lv st) : zg X D G A Q ck w pc lv (.int x :: .int i :: va_rf o :: st) := by
  obtain ⟨a, rfl, ht, h0, h5, h⟩ := zf_ix_e h
  obtain ⟨p, l, e, R, s, m, args, below, meth, c⟩ := X
  obtain ⟨hx, hb, hml, ho, hts, hK, hA, hlk, hfr, hR1, hR2, hlo, hZ⟩ := hX
  intro H locs ls h1 h2 h3
  have hv := h2.2 a (by rw [ht]; omega)
  have hAa := hv.2
  have hv := hv.1
  rw [zw_cell_i ht hk1 hk2] at hv
  refine W.iast hx hb hv ((hK.2 0 _ rfl).1 _ (fun j => .int (zw_I w kd a j))) (fun q => by cases q) (by show ¬ (i < 0 ∨ (arrV _ _ _).slots.size ≤ _); rw [arrV_size]; exact zb_in h0 h5) rfl rfl hd fun H1 e1 z oq => ?_
  refine kk _ h H1 _ ls h1 (zw_move h2 rfl rfl (fun b hb => zw_sF_ne hb) ?_ z oq) (h3.put z oq hAa)
  rw [zw_cell_i (w := zw_sI w kd a i.toNatClampNeg x) (kd := kd) ht hk1 hk2]
  show H1[a]? = some (vp_cell _ _)
  rw [e1, vp_cell_i, vp_cell_i, arrV_store]
  congr 2
  funext q
  show _ = Value.int (zw_u2 (α := Nat → Int32) _ _ _ _ _ _ q)
  rw [zw_u2_eq]
  by_cases hq : q = i.toNatClampNeg
  · subst hq
    simp [updV, upd]
  · simp [updV, upd, hq, zw_I]
theorem zg_zast {X : zg_X} {D : va_G} {G : zw_G} {A : Nat → Prop} {Q : State → Prop} {ck : Nat} {w : zw_T} {pc : Nat} {lv : List (Option Value)} {st : List Value} {cc : ByteArray} {own : String} {nL fr lo mc : Nat} {kd : Nat} (hk1 : 200 ≤ kd) (hk2 : kd < 300) {o : Option Nat} {i : Int32} {x : Int32} {ρ : Type} {r : ρ} {K : zw_T → Option ρ} (hX : zg_ok X cc own nL fr lo mc D G A) (hd : decode cc pc = .ok (.bastore, 1)) (h : zf_ix w kd o i (fun a j => zf_let (zw_sI w kd a j (vp_nar .boolean x)) K) = some r) (kk : ∀ w1, K w1 = some r → zg X D G A Q ck w1 (pc + 1) lv st) : zg X D G A Q ck w pc lv (.int x :: .int i :: va_rf o :: st) := by
  obtain ⟨a, rfl, ht, h0, h5, h⟩ := zf_ix_e h
  obtain ⟨p, l, e, R, s, m, args, below, meth, c⟩ := X
  obtain ⟨hx, hb, hml, ho, hts, hK, hA, hlk, hfr, hR1, hR2, hlo, hZ⟩ := hX
  intro H locs ls h1 h2 h3
  have hv := h2.2 a (by rw [ht]; omega)
  have hAa := hv.2
  have hv := hv.1
  rw [zw_cell_z ht hk1 hk2] at hv
  refine W.zast hx hb hv ((hK.2 1 _ rfl).1 _ (fun j => .int (zw_I w kd a j))) (fun q => by cases q) (by show ¬ (i < 0 ∨ (arrV _ _ _).slots.size ≤ _); rw [arrV_size]; exact zb_in h0 h5) rfl rfl hd fun H1 e1 z oq => ?_
  refine kk _ h H1 _ ls h1 (zw_move h2 rfl rfl (fun b hb => zw_sF_ne hb) ?_ z oq) (h3.put z oq hAa)
  rw [zw_cell_z (w := zw_sI w kd a i.toNatClampNeg (vp_nar .boolean x)) (kd := kd) ht hk1 hk2]
  show H1[a]? = some (vp_cell _ _)
  rw [e1, vp_cell_i, vp_cell_i, arrV_store]
  congr 2
  funext q
  show _ = Value.int (zw_u2 (α := Nat → Int32) _ _ _ _ _ _ q)
  rw [zw_u2_eq]
  by_cases hq : q = i.toNatClampNeg
  · subst hq
    simp [updV, upd, vp_nar]
    try rfl
  · simp [updV, upd, hq, zw_I]
theorem zg_last {X : zg_X} {D : va_G} {G : zw_G} {A : Nat → Prop} {Q : State → Prop} {ck : Nat} {w : zw_T} {pc : Nat} {lv : List (Option Value)} {st : List Value} {cc : ByteArray} {own : String} {nL fr lo mc : Nat} {kd : Nat} (hk1 : 300 ≤ kd) (hk2 : kd < 400) {o : Option Nat} {i : Int32} {x : Int64} {ρ : Type} {r : ρ} {K : zw_T → Option ρ} (hX : zg_ok X cc own nL fr lo mc D G A) (hd : decode cc pc = .ok (.lastore, 1)) (h : zf_ix w kd o i (fun a j => zf_let (zw_sL w kd a j x) K) = some r) (kk : ∀ w1, K w1 = some r → zg X D G A Q ck w1 (pc + 1) lv st) : zg X D G A Q ck w pc lv (.long x :: .int i :: va_rf o :: st) := by
  obtain ⟨a, rfl, ht, h0, h5, h⟩ := zf_ix_e h
  obtain ⟨p, l, e, R, s, m, args, below, meth, c⟩ := X
  obtain ⟨hx, hb, hml, ho, hts, hK, hA, hlk, hfr, hR1, hR2, hlo, hZ⟩ := hX
  intro H locs ls h1 h2 h3
  have hv := h2.2 a (by rw [ht]; omega)
  have hAa := hv.2
  have hv := hv.1
  rw [zw_cell_l ht hk1 hk2] at hv
  refine W.last hx hb hv ((hK.2 2 _ rfl).1 _ (fun j => .long (zw_L w kd a j))) (fun q => by cases q) (by show ¬ (i < 0 ∨ (arrV _ _ _).slots.size ≤ _); rw [arrV_size]; exact zb_in h0 h5) rfl rfl hd fun H1 e1 z oq => ?_
  refine kk _ h H1 _ ls h1 (zw_move h2 rfl rfl (fun b hb => zw_sL_ne hb) ?_ z oq) (h3.put z oq hAa)
  rw [zw_cell_l (w := zw_sL w kd a i.toNatClampNeg x) (kd := kd) ht hk1 hk2]
  show H1[a]? = some (vp_cell _ _)
  rw [e1, vp_cell_l, vp_cell_l, arrV_store]
  congr 2
  funext q
  show _ = Value.long (zw_u2 (α := Nat → Int64) _ _ _ _ _ _ q)
  rw [zw_u2_eq]
  by_cases hq : q = i.toNatClampNeg
  · subst hq
    simp [updV, vp_updL]
  · simp [updV, vp_updL, hq, zw_L]
theorem zg_aast {X : zg_X} {D : va_G} {G : zw_G} {A : Nat → Prop} {Q : State → Prop} {ck : Nat} {w : zw_T} {pc : Nat} {lv : List (Option Value)} {st : List Value} {cc : ByteArray} {own : String} {nL fr lo mc : Nat} {ci t0 kd : Nat} {rr : vw_C} (hc : vwCl[ci]? = some rr) (hci : ci < 99) (hrr : rr.1 = zw_nm ci) (ht0 : (zw_tys G)[t0]? = some (G.2.2.2 ci, .object (zw_nm ci))) (hkd : kd = 400 + ci) {o : Option Nat} {i : Int32} {b : Nat} {ρ : Type} {r : ρ} {K : zw_T → Option ρ} (hX : zg_ok X cc own nL fr lo mc D G A) (hd : decode cc pc = .ok (.aastore, 1)) (h : zf_at w (ci + 1) (some b) (fun b => zf_ix w kd o i (fun a j => zf_let (zw_sR w kd a j (some b)) K)) = some r) (kk : ∀ w1, K w1 = some r → zg X D G A Q ck w1 (pc + 1) lv st) : zg X D G A Q ck w pc lv (va_rf (some b) :: .int i :: va_rf o :: st) := by
  subst hkd
  obtain ⟨b', hb', htb, h⟩ := zf_at_e h
  cases hb'
  obtain ⟨a, rfl, ht, h0, h5, h⟩ := zf_ix_e h
  obtain ⟨p, l, e, R, s, m, args, below, meth, c⟩ := X
  obtain ⟨hx, hb, hml, ho, hts, hK, hA, hlk, hfr, hR1, hR2, hlo, hZ⟩ := hX
  intro H locs ls h1 h2 h3
  have hv := h2.2 a (by rw [ht]; omega)
  have hAa := hv.2
  have hv := hv.1
  rw [zw_cell_r ht] at hv
  have hvb := (h2.2 b (by rw [htb]; omega)).1
  rw [zw_cell_o htb hci] at hvb
  obtain ⟨r', hr', cellV, g1, g2, g3, -⟩ := hvb
  have hcls := (hK.1 ci rr hc).2
  obtain ⟨kA, comp, k1, k2, k3, -⟩ := (hK.2 t0 _ ht0).2
  rw [hrr] at hcls
  have hcomp : comp = D.1 ci := Option.some.inj (k3.symm.trans hcls.1)
  subst hcomp
  obtain ⟨kC, hkC, -⟩ := hcls.2
  refine W.aast hx hb hv (fun q h => by cases h) (fun h => by cases h) k1 k2 rfl hkC ⟨h0, by show _ < (arrV _ _ _).slots.size; rw [arrV_size]; exact h5⟩ g1 (fun q h => by rw [g3] at h; cases h) (by rw [g2]; exact hkC) (by rw [g2]; exact va_assign hcls) rfl rfl hd fun H1 e1 z oq => ?_
  refine kk _ h H1 _ ls h1 (zw_move h2 rfl rfl (fun b hb => zw_sR_ne hb) ?_ z oq) (h3.put z oq hAa)
  rw [zw_cell_r (w := zw_sR w (400 + ci) a i.toNatClampNeg (some b)) (ci := ci) ht]
  show H1[a]? = some (vp_cell _ _)
  rw [e1, vp_cell_q, vp_cell_q, arrV_store]
  congr 2
  funext q
  show _ = va_rf (zw_u2 (α := Nat → Option Nat) _ _ _ _ _ _ q)
  rw [zw_u2_eq]
  by_cases hq : q = i.toNatClampNeg
  · subst hq
    simp [updV, va_up, va_rf]
  · simp [updV, va_up, hq, zw_R]
theorem zg_leni {X : zg_X} {D : va_G} {G : zw_G} {A : Nat → Prop} {Q : State → Prop} {ck : Nat} {w : zw_T} {pc : Nat} {lv : List (Option Value)} {st : List Value} {cc : ByteArray} {own : String} {nL fr lo mc : Nat} {kd : Nat} (hk1 : 100 ≤ kd) (hk2 : kd < 200) {o : Option Nat} {ρ : Type} {r : ρ} {K : Nat → Option ρ} (hX : zg_ok X cc own nL fr lo mc D G A) (hd : decode cc pc = .ok (.arraylength, 1)) (h : zf_at w kd o K = some r) (kk : ∀ a, K a = some r → zg X D G A Q ck w (pc + 1) lv (.int (nI (zw_ty w a).2) :: st)) : zg X D G A Q ck w pc lv (va_rf o :: st) := by
  obtain ⟨a, rfl, ht, h⟩ := zf_at_e h
  obtain ⟨p, l, e, R, s, m, args, below, meth, c⟩ := X
  obtain ⟨hx, hb, hml, ho, hts, hK, hA, hlk, hfr, hR1, hR2, hlo, hZ⟩ := hX
  intro H locs ls h1 h2 h3
  have hv := (h2.2 a (by rw [ht]; omega)).1
  rw [zw_cell_i ht hk1 hk2] at hv
  exact va_alen hx hb hK (zw_one hv) 0 0 rfl rfl (v := nI (zw_ty w a).2) rfl hd (kk a h H locs ls h1 h2 h3)
def zs_T (X : zg_X) (A : Nat → Prop) (t : Nat) : Prop := match X with
  | (_, _, _, _, s, _, _, _, _, _) => va_T .int t 32 (fun j => .int (zs_tr j)) A s s.heap
theorem zg_gets {X : zg_X} {D : va_G} {G : zw_G} {A : Nat → Prop} {Q : State → Prop} {ck : Nat} {w : zw_T} {pc : Nat} {lv : List (Option Value)} {st : List Value} {cc : ByteArray} {own : String} {nL fr lo mc : Nat} {idx : Nat} (hlink : Cond.fieldLink own idx "WakingPagers$Repairer" "TRACES" "[I" ∈ zT) (hX : zg_ok X cc own nL fr lo mc D G A) (hd : decode cc pc = .ok (.getstatic idx, 3)) (kk : ∀ t, zs_T X A t → zg X D G A Q ck w (pc + 3) lv (.ref t :: st)) : zg X D G A Q ck w pc lv st := by
  obtain ⟨p, l, e, R, s, m, args, below, meth, c⟩ := X
  obtain ⟨hx, hb, hml, ho, hts, hK, hA, hlk, hfr, hR1, hR2, hlo, hZ⟩ := hX
  intro H locs ls h1 h2 h3
  obtain ⟨-, t, z1, z2⟩ := hZ
  exact va_gets hx hb z1 h3 ho (hts _ hlink) (fun _ q => q) hd (kk t z2 H locs ls h1 h2 h3)
theorem zg_tald {X : zg_X} {D : va_G} {G : zw_G} {A : Nat → Prop} {Q : State → Prop} {ck : Nat} {w : zw_T} {pc : Nat} {lv : List (Option Value)} {st : List Value} {cc : ByteArray} {own : String} {nL fr lo mc : Nat} {t : Nat} (ht : zs_T X A t) {i : Int32} {ρ : Type} {r : ρ} {K : Int32 → Option ρ} (hX : zg_ok X cc own nL fr lo mc D G A) (hd : decode cc pc = .ok (.iaload, 1)) (h : zf_tr i K = some r) (kk : ∀ v, K v = some r → zg X D G A Q ck w (pc + 1) lv (.int v :: st)) : zg X D G A Q ck w pc lv (.int i :: .ref t :: st) := by
  unfold zf_tr at h
  by_cases hq : ¬ i < 0 ∧ i.toNatClampNeg < 32
  · rw [if_pos hq] at h
    obtain ⟨p, l, e, R, s, m, args, below, meth, c⟩ := X
    obtain ⟨hx, hb, hml, ho, hts, hK, hA, hlk, hfr, hR1, hR2, hlo, hZ⟩ := hX
    intro H locs ls h1 h2 h3
    exact va_ti hx hb ht h3 (zb_in hq.1 hq.2) rfl hd (kk _ h H locs ls h1 h2 h3)
  · rw [if_neg hq] at h
    cases h
def zw_dv (t : Nat) : Value := match t with
  | 0 => .int 0
  | 1 => .null
  | _ => .long 0
theorem zw_new_fs {w : zw_T} {ci kd n N : Nat} (hN : zw_nf ci = N) {j : Nat} (hj : j < N) : vp_V (zw_fs (zw_new w kd n) ci (zw_n w)) j = zw_dv (zw_ft ci j) := by
  unfold vp_V
  rw [List.getD_eq_getElem?_getD, zw_fs_at (by rw [hN]; exact hj)]
  unfold zw_fv zw_dv
  have e2 : ∀ k, zw_I (zw_new w kd n) k (zw_n w) = fun _ => 0 := fun k => if_pos rfl
  have e3 : ∀ k, zw_R (zw_new w kd n) k (zw_n w) = fun _ => none := fun k => if_pos rfl
  have e4 : ∀ k, zw_L (zw_new w kd n) k (zw_n w) = fun _ => 0 := fun k => if_pos rfl
  rw [e2, e3, e4]
  rfl
theorem zw_new_ty {w : zw_T} {kd n : Nat} : zw_ty (zw_new w kd n) (zw_n w) = (kd, n) := va_up_self _ _ _
theorem zg_new {X : zg_X} {D : va_G} {G : zw_G} {A : Nat → Prop} {Q : State → Prop} {ck : Nat} {w : zw_T} {pc : Nat} {lv : List (Option Value)} {st : List Value} {cc : ByteArray} {own : String} {nL fr lo mc : Nat} {ci idx N : Nat} {C : String} {T : u_T} (hc : vwCl[ci]? = some (C, T, N)) (hci : ci < 99) (hin : ∀ q ∈ u_ws C T N, q ∈ zT) (ty0 : Nat → FieldType) (hty : ∀ k, k < N → parseFieldDescriptor (T k).2.2.1 = some (ty0 k)) (hdf : ∀ k, k < N → defaultValue (ty0 k) = zw_dv (zw_ft ci k)) (hcl : Cond.classLink own idx C ∈ zT) (hinst : Cond.instantiable C N ∈ zT) (hini : Cond.initialized C ∈ zT) (hN : N ≤ 4096) {ρ : Type} {r : ρ} {K : zw_T → Option ρ} (hcell : ck + 1 ≤ mc) (hX : zg_ok X cc own nL fr lo mc D G A) (hd : decode cc pc = .ok (.new idx, 3)) (h : zf_let (zw_new w (ci + 1) 0) K = some r) (kk : ∀ w1, K w1 = some r → zg X D G A Q (ck + 1) w1 (pc + 3) lv (va_rf (some (zw_n w)) :: st)) : zg X D G A Q ck w pc lv st := by
  obtain ⟨p, l, e, R, s, m, args, below, meth, c⟩ := X
  obtain ⟨hx, hb, hml, ho, hts, hK, hA, hlk, hfr, hR1, hR2, hlo, hZ⟩ := hX
  intro H locs ls h1 h2 h3
  have hKn := hK.1 ci _ hc
  refine W.newcK hx hb ho (hts _ hcl) (hts _ hinst) (hts _ hini) rfl hd (by rw [hR1]; exact hcell) (by rw [hR2]; omega) hKn.2.1 rfl fun H1 kC hkC e1 z1 o1 => ?_
  refine W.widen (k := ck + 1) (n := 4096 * (ck + 1)) (Nat.le_refl _) (by omega) ?_
  have hz : H.size = zw_n w := h2.1
  rw [hz] at e1 ⊢
  refine kk _ h H1 locs ls h1 (zw_born h2 rfl ?_ (hA _ (by rw [← hz]; exact h3.1)) z1 o1) ⟨Nat.le_trans h3.1 (by omega), fun q g1 g2 => (o1 q (Nat.lt_of_lt_of_le g1 h3.1)).trans (h3.2.1 q g1 g2), h3.2.2⟩
  rw [zw_cell_o (ci := ci) (by rw [zw_new_ty]) hci]
  exact ⟨_, hc, (u_born ty0 hts hin hKn hkC e1 hty).to (fun j hj => (hdf j hj).trans (zw_new_fs (zw_nf_of hc) hj).symm)⟩
theorem zg_newi {X : zg_X} {D : va_G} {G : zw_G} {A : Nat → Prop} {Q : State → Prop} {ck : Nat} {w : zw_T} {pc : Nat} {lv : List (Option Value)} {st : List Value} {cc : ByteArray} {own : String} {nL fr lo mc : Nat} {kd : Nat} (hk1 : 100 ≤ kd) (hk2 : kd < 200) (harr : Cond.arrayClass .int ∈ zT) {n : Int32} {ρ : Type} {r : ρ} {K : zw_T → Option ρ} (hcell : ck + 1 ≤ mc) (hX : zg_ok X cc own nL fr lo mc D G A) (hd : decode cc pc = .ok (.newarray .int, 2)) (h : zf_na w kd n K = some r) (kk : ∀ w1, K w1 = some r → zg X D G A Q (ck + 1) w1 (pc + 2) lv (va_rf (some (zw_n w)) :: st)) : zg X D G A Q ck w pc lv (.int n :: st) := by
  unfold zf_na at h
  by_cases hq : ¬ n < 0 ∧ n.toNatClampNeg ≤ 4096
  · rw [if_pos hq] at h
    obtain ⟨p, l, e, R, s, m, args, below, meth, c⟩ := X
    obtain ⟨hx, hb, hml, ho, hts, hK, hA, hlk, hfr, hR1, hR2, hlo, hZ⟩ := hX
    intro H locs ls h1 h2 h3
    have e8 : componentBytes .int ≤ 8 := by decide
    have e9 := Nat.mul_le_mul hq.2 e8
    refine va_newaK (atype := .int) hx hb (hts _ harr) rfl hd rfl hq.1 rfl (Nat.le_trans e9 (by decide)) (by rw [hR1]; exact hcell) (by rw [hR2]; omega) rfl fun H1 cA e1 z1 o1 hAr hNm => ?_
    refine W.widen (k := ck + 1) (n := 4096 * (ck + 1)) (Nat.le_refl _) (by omega) ?_
    have hz : H.size = zw_n w := h2.1
    have hcA : cA = G.1 := Option.some.inj (hNm.symm.trans (hK.2 0 (G.1, .int) rfl).2)
    subst hcA
    rw [hz] at e1 ⊢
    refine kk _ h H1 locs ls h1 (zw_born h2 rfl ?_ (hA _ (by rw [← hz]; exact h3.1)) z1 o1) ⟨Nat.le_trans h3.1 (by omega), fun q g1 g2 => (o1 q (Nat.lt_of_lt_of_le g1 h3.1)).trans (h3.2.1 q g1 g2), h3.2.2⟩
    rw [zw_cell_i (kd := kd) (by rw [zw_new_ty]) hk1 hk2]
    have e2 : zw_I (zw_new w kd n.toNatClampNeg) kd (zw_n w) = fun _ => 0 := if_pos rfl
    show H1[zw_n w]? = some (vp_cell _ _)
    rw [zw_new_ty, e2, vp_cell_i, e1]
    rfl
  · rw [if_neg hq] at h
    cases h
theorem zg_newz {X : zg_X} {D : va_G} {G : zw_G} {A : Nat → Prop} {Q : State → Prop} {ck : Nat} {w : zw_T} {pc : Nat} {lv : List (Option Value)} {st : List Value} {cc : ByteArray} {own : String} {nL fr lo mc : Nat} {kd : Nat} (hk1 : 200 ≤ kd) (hk2 : kd < 300) (harr : Cond.arrayClass .boolean ∈ zT) {n : Int32} {ρ : Type} {r : ρ} {K : zw_T → Option ρ} (hcell : ck + 1 ≤ mc) (hX : zg_ok X cc own nL fr lo mc D G A) (hd : decode cc pc = .ok (.newarray .boolean, 2)) (h : zf_na w kd n K = some r) (kk : ∀ w1, K w1 = some r → zg X D G A Q (ck + 1) w1 (pc + 2) lv (va_rf (some (zw_n w)) :: st)) : zg X D G A Q ck w pc lv (.int n :: st) := by
  unfold zf_na at h
  by_cases hq : ¬ n < 0 ∧ n.toNatClampNeg ≤ 4096
  · rw [if_pos hq] at h
    obtain ⟨p, l, e, R, s, m, args, below, meth, c⟩ := X
    obtain ⟨hx, hb, hml, ho, hts, hK, hA, hlk, hfr, hR1, hR2, hlo, hZ⟩ := hX
    intro H locs ls h1 h2 h3
    have e8 : componentBytes .boolean ≤ 8 := by decide
    have e9 := Nat.mul_le_mul hq.2 e8
    refine va_newaK (atype := .boolean) hx hb (hts _ harr) rfl hd rfl hq.1 rfl (Nat.le_trans e9 (by decide)) (by rw [hR1]; exact hcell) (by rw [hR2]; omega) rfl fun H1 cA e1 z1 o1 hAr hNm => ?_
    refine W.widen (k := ck + 1) (n := 4096 * (ck + 1)) (Nat.le_refl _) (by omega) ?_
    have hz : H.size = zw_n w := h2.1
    have hcA : cA = G.2.1 := Option.some.inj (hNm.symm.trans (hK.2 1 (G.2.1, .boolean) rfl).2)
    subst hcA
    rw [hz] at e1 ⊢
    refine kk _ h H1 locs ls h1 (zw_born h2 rfl ?_ (hA _ (by rw [← hz]; exact h3.1)) z1 o1) ⟨Nat.le_trans h3.1 (by omega), fun q g1 g2 => (o1 q (Nat.lt_of_lt_of_le g1 h3.1)).trans (h3.2.1 q g1 g2), h3.2.2⟩
    rw [zw_cell_z (kd := kd) (by rw [zw_new_ty]) hk1 hk2]
    have e2 : zw_I (zw_new w kd n.toNatClampNeg) kd (zw_n w) = fun _ => 0 := if_pos rfl
    show H1[zw_n w]? = some (vp_cell _ _)
    rw [zw_new_ty, e2, vp_cell_i, e1]
    rfl
  · rw [if_neg hq] at h
    cases h
theorem zg_newl {X : zg_X} {D : va_G} {G : zw_G} {A : Nat → Prop} {Q : State → Prop} {ck : Nat} {w : zw_T} {pc : Nat} {lv : List (Option Value)} {st : List Value} {cc : ByteArray} {own : String} {nL fr lo mc : Nat} {kd : Nat} (hk1 : 300 ≤ kd) (hk2 : kd < 400) (harr : Cond.arrayClass .long ∈ zT) {n : Int32} {ρ : Type} {r : ρ} {K : zw_T → Option ρ} (hcell : ck + 1 ≤ mc) (hX : zg_ok X cc own nL fr lo mc D G A) (hd : decode cc pc = .ok (.newarray .long, 2)) (h : zf_na w kd n K = some r) (kk : ∀ w1, K w1 = some r → zg X D G A Q (ck + 1) w1 (pc + 2) lv (va_rf (some (zw_n w)) :: st)) : zg X D G A Q ck w pc lv (.int n :: st) := by
  unfold zf_na at h
  by_cases hq : ¬ n < 0 ∧ n.toNatClampNeg ≤ 4096
  · rw [if_pos hq] at h
    obtain ⟨p, l, e, R, s, m, args, below, meth, c⟩ := X
    obtain ⟨hx, hb, hml, ho, hts, hK, hA, hlk, hfr, hR1, hR2, hlo, hZ⟩ := hX
    intro H locs ls h1 h2 h3
    have e8 : componentBytes .long ≤ 8 := by decide
    have e9 := Nat.mul_le_mul hq.2 e8
    refine va_newaK (atype := .long) hx hb (hts _ harr) rfl hd rfl hq.1 rfl (Nat.le_trans e9 (by decide)) (by rw [hR1]; exact hcell) (by rw [hR2]; omega) rfl fun H1 cA e1 z1 o1 hAr hNm => ?_
    refine W.widen (k := ck + 1) (n := 4096 * (ck + 1)) (Nat.le_refl _) (by omega) ?_
    have hz : H.size = zw_n w := h2.1
    have hcA : cA = G.2.2.1 := Option.some.inj (hNm.symm.trans (hK.2 2 (G.2.2.1, .long) rfl).2)
    subst hcA
    rw [hz] at e1 ⊢
    refine kk _ h H1 locs ls h1 (zw_born h2 rfl ?_ (hA _ (by rw [← hz]; exact h3.1)) z1 o1) ⟨Nat.le_trans h3.1 (by omega), fun q g1 g2 => (o1 q (Nat.lt_of_lt_of_le g1 h3.1)).trans (h3.2.1 q g1 g2), h3.2.2⟩
    rw [zw_cell_l (kd := kd) (by rw [zw_new_ty]) hk1 hk2]
    have e2 : zw_L (zw_new w kd n.toNatClampNeg) kd (zw_n w) = fun _ => 0 := if_pos rfl
    show H1[zw_n w]? = some (vp_cell _ _)
    rw [zw_new_ty, e2, vp_cell_l, e1]
    rfl
  · rw [if_neg hq] at h
    cases h
theorem zg_newr {X : zg_X} {D : va_G} {G : zw_G} {A : Nat → Prop} {Q : State → Prop} {ck : Nat} {w : zw_T} {pc : Nat} {lv : List (Option Value)} {st : List Value} {cc : ByteArray} {own : String} {nL fr lo mc : Nat} {ci idx t0 : Nat} (ht0 : (zw_tys G)[t0]? = some (G.2.2.2 ci, .object (zw_nm ci))) (hcl : Cond.classLink own idx (zw_nm ci) ∈ zT) (hov : zw_nm ci ∈ za_L) {n : Int32} {ρ : Type} {r : ρ} {K : zw_T → Option ρ} (hcell : ck + 1 ≤ mc) (hX : zg_ok X cc own nL fr lo mc D G A) (hd : decode cc pc = .ok (.anewarray idx, 3)) (h : zf_na w (400 + ci) n K = some r) (kk : ∀ w1, K w1 = some r → zg X D G A Q (ck + 1) w1 (pc + 3) lv (va_rf (some (zw_n w)) :: st)) : zg X D G A Q ck w pc lv (.int n :: st) := by
  unfold zf_na at h
  by_cases hq : ¬ n < 0 ∧ n.toNatClampNeg ≤ 4096
  · rw [if_pos hq] at h
    obtain ⟨p, l, e, R, s, m, args, below, meth, c⟩ := X
    obtain ⟨hx, hb, hml, ho, hts, hK, hA, hlk, hfr, hR1, hR2, hlo, hZ⟩ := hX
    intro H locs ls h1 h2 h3
    refine W.anew hx hb ho (hts _ hcl) (va_AO.use (hZ.1.2 _ hov)) rfl hd rfl hq.1 (by omega) (by rw [hR1]; exact hcell) (by rw [hR2]; omega) fun cA kA comp f1 f2 f3 f4 => ?_
    refine W.widen (k := ck + 1) (n := 4096 * (ck + 1)) (Nat.le_refl _) (by omega) ?_
    have hz : H.size = zw_n w := h2.1
    obtain ⟨kA', comp', -, -, -, k4⟩ := (hK.2 t0 _ ht0).2
    have hcA : cA = G.2.2.2 ci := Option.some.inj (f1.symm.trans k4)
    subst hcA
    generalize hH1 : H.push ({ cls := G.2.2.2 ci, slots := Array.replicate n.toNatClampNeg .null, vm := .none } : Cell) = H1
    have z1 : H1.size = H.size + 1 := by rw [← hH1, Array.size_push]
    have e1 : H1[H.size]? = some (arrV (G.2.2.2 ci) n.toNatClampNeg (fun _ => .null)) := by rw [← hH1, Array.getElem?_push_size, ← arrV_new]
    have o1 : ∀ q : Nat, q < H.size → H1[q]? = H[q]? := fun q hq => by rw [← hH1, Array.getElem?_push, if_neg (Nat.ne_of_lt hq)]
    rw [hz] at e1 ⊢
    refine kk _ h H1 locs ls h1 (zw_born h2 rfl ?_ (hA _ (by rw [← hz]; exact h3.1)) z1 o1) ⟨Nat.le_trans h3.1 (by omega), fun q g1 g2 => (o1 q (Nat.lt_of_lt_of_le g1 h3.1)).trans (h3.2.1 q g1 g2), h3.2.2⟩
    rw [zw_cell_r (ci := ci) (by rw [zw_new_ty])]
    have e2 : zw_R (zw_new w (400 + ci) n.toNatClampNeg) (400 + ci) (zw_n w) = fun _ => none := if_pos rfl
    show H1[zw_n w]? = some (vp_cell _ _)
    rw [zw_new_ty, e2, vp_cell_q, e1]
    rfl
  · rw [if_neg hq] at h
    cases h
theorem zg_callS {X : zg_X} {D : va_G} {G : zw_G} {A : Nat → Prop} {Q : State → Prop} {ck : Nat} {w : zw_T} {pc : Nat} {lv : List (Option Value)} {st : List Value} {cc : ByteArray} {own : String} {nL fr lo mc : Nat} {y : MethodName} {ws ws' : List Cond} {bytes : ByteArray} {maxL idx fry loy mcy : Nat} {ret : Option FieldType} {res : Option Value × zw_T} {st0 : List Value} (As : List Value) (hM : ∀ l : Launch, zc l y ws fry loy mcy D G A As w res) (hG : GoodIn zT (va_wsS own idx y ws)) (hw : ws = Cond.code y bytes maxL ret :: ws') (hd0 : y.cls ≠ "java/lang/invoke/MethodHandle" ∧ y.cls ≠ "java/lang/invoke/VarHandle" ∧ (parseMethodDescriptor y.desc).map (fun d => d.parameters.length) = some As.length) (hR : fry + 1 ≤ fr ∧ 8 + (maxL + 11) + loy ≤ lo) (hcell : ck + mcy ≤ mc) (hcat : (st.map fun v => v.category).sum ≤ 8) (hll : lv.length = nL) (hst : st0 = As.reverse ++ st) (hX : zg_ok X cc own nL fr lo mc D G A) (hd : decode cc pc = .ok (.invokestatic idx, 3)) (kk : zg X D G A Q (ck + mcy) res.2 (pc + 3) lv (res.1.toList ++ st)) : zg X D G A Q ck w pc lv st0 := by
  obtain ⟨p, l, e, R, s, m, args, below, meth, c⟩ := X
  obtain ⟨hx, hb, hml, ho, hts, hK, hA, hlk, hfr, hR1, hR2, hlo, hZ⟩ := hX
  intro H locs ls h1 h2 h3
  subst hst
  exact zg_back (va_runS (As := As) (rest := st) ⟨hx, hb, hml, ho, hts⟩ (hM l) (va_cwS As.length hts hG hw rfl rfl hd0 ⟨by rw [hfr]; exact hR.1, by rw [hlo]; exact hR.2⟩) ⟨zp_blind, zp_at hK hA hZ h2 h3⟩ rfl rfl (by show ls.size = nL; rw [h1.1]; exact hll) rfl (lv_room hcat) hd ⟨by rw [hR1]; exact hcell, by rw [hR2, ← Nat.mul_add]; exact Nat.mul_le_mul_left 4096 hcell⟩) h3 (fun H1 locs1 g2 g3 => kk H1 locs1 ls h1 g2 g3)
theorem zg_callSN {X : zg_X} {D : va_G} {G : zw_G} {A : Nat → Prop} {Q : State → Prop} {ck : Nat} {w : zw_T} {pc : Nat} {lv : List (Option Value)} {st : List Value} {cc : ByteArray} {own : String} {nL fr lo mc : Nat} {y : MethodName} {ws ws' : List Cond} {bytes : ByteArray} {maxL idx fry loy mcy : Nat} {ret : Option FieldType} {res : Option Value × zw_T} {st0 : List Value} {host : String} (As : List Value) (hM : ∀ l : Launch, zc l y ws fry loy mcy D G A As w res) (hG : GoodIn zT ws) (hln : (own, idx, y, host) ∈ zn_L) (hstat : Cond.static y ∈ zT) (hini : Cond.initialized y.cls ∈ zT) (hw : ws = Cond.code y bytes maxL ret :: ws') (hd0 : y.cls ≠ "java/lang/invoke/MethodHandle" ∧ y.cls ≠ "java/lang/invoke/VarHandle" ∧ (parseMethodDescriptor y.desc).map (fun d => d.parameters.length) = some As.length) (hR : fry + 1 ≤ fr ∧ 8 + (maxL + 11) + loy ≤ lo) (hcell : ck + mcy ≤ mc) (hcat : (st.map fun v => v.category).sum ≤ 8) (hll : lv.length = nL) (hst : st0 = As.reverse ++ st) (hX : zg_ok X cc own nL fr lo mc D G A) (hd : decode cc pc = .ok (.invokestatic idx, 3)) (kk : zg X D G A Q (ck + mcy) res.2 (pc + 3) lv (res.1.toList ++ st)) : zg X D G A Q ck w pc lv st0 := by
  obtain ⟨p, l, e, R, s, m, args, below, meth, c⟩ := X
  obtain ⟨hx, hb, hml, ho, hts, hK, hA, hlk, hfr, hR1, hR2, hlo, hZ⟩ := hX
  intro H locs ls h1 h2 h3
  subst hst
  exact zg_back (va_runSN (As := As) (rest := st) ⟨hx, hb, hml, ho, hts⟩ (hM l) ⟨va_cnB As.length hts hG hw rfl rfl (hZ.1.1 _ hln) (hts _ hini) hd0 ⟨by rw [hfr]; exact hR.1, by rw [hlo]; exact hR.2⟩, hts _ hstat, trivial⟩ ⟨zp_blind, zp_at hK hA hZ h2 h3⟩ rfl rfl (by show ls.size = nL; rw [h1.1]; exact hll) rfl (lv_room hcat) hd ⟨by rw [hR1]; exact hcell, by rw [hR2, ← Nat.mul_add]; exact Nat.mul_le_mul_left 4096 hcell⟩) h3 (fun H1 locs1 g2 g3 => kk H1 locs1 ls h1 g2 g3)
theorem zg_callV {X : zg_X} {D : va_G} {G : zw_G} {A : Nat → Prop} {Q : State → Prop} {ck : Nat} {w : zw_T} {pc : Nat} {lv : List (Option Value)} {st : List Value} {cc : ByteArray} {own : String} {nL fr lo mc : Nat} {y : MethodName} {ws ws' : List Cond} {bytes : ByteArray} {maxL idx fry loy mcy : Nat} {ret : Option FieldType} {res : Option Value × zw_T} {st0 : List Value} {ci N a : Nat} {T : u_T} (hc : vwCl[ci]? = some (y.cls, T, N)) (hci : ci < 99) {o : Option Nat} (hoa : o = some a) (ha : (zw_ty w a).1 = ci + 1) (As : List Value) (hM : ∀ l : Launch, zc l y ws fry loy mcy D G A (.ref a :: As) w res) (hG : GoodIn zT (wsV own idx y.cls y ws)) (hw : ws = Cond.code y bytes maxL ret :: ws') (hd0 : y.cls ≠ "java/lang/invoke/MethodHandle" ∧ y.cls ≠ "java/lang/invoke/VarHandle" ∧ (parseMethodDescriptor y.desc).map (fun d => d.parameters.length) = some As.length) (hR : fry + 1 ≤ fr ∧ 8 + (maxL + 11) + loy ≤ lo) (hcell : ck + mcy ≤ mc) (hcat : (st.map fun v => v.category).sum ≤ 8) (hll : lv.length = nL) (hst : st0 = As.reverse ++ va_rf o :: st) (hX : zg_ok X cc own nL fr lo mc D G A) (hd : decode cc pc = .ok (.invokevirtual idx, 3)) (kk : zg X D G A Q (ck + mcy) res.2 (pc + 3) lv (res.1.toList ++ st)) : zg X D G A Q ck w pc lv st0 := by
  obtain ⟨p, l, e, R, s, m, args, below, meth, c⟩ := X
  obtain ⟨hx, hb, hml, ho, hts, hK, hA, hlk, hfr, hR1, hR2, hlo, hZ⟩ := hX
  intro H locs ls h1 h2 h3
  subst hst
  subst hoa
  have hv := (h2.2 a (by rw [ha]; omega)).1
  rw [zw_cell_o ha hci] at hv
  exact zg_back (va_runV (As := As) (rest := st) ⟨hx, hb, hml, ho, hts⟩ (hM l) (cwV As.length hts hG hw rfl rfl ⟨rfl, hd0⟩ ⟨by rw [hfr]; exact hR.1, by rw [hlo]; exact hR.2⟩) ⟨zp_blind, va_recv (q0 := 0) hK (zw_one hv) hc rfl, zp_at hK hA hZ h2 h3⟩ rfl rfl (by show ls.size = nL; rw [h1.1]; exact hll) rfl (lv_room hcat) hd ⟨by rw [hR1]; exact hcell, by rw [hR2, ← Nat.mul_add]; exact Nat.mul_le_mul_left 4096 hcell⟩) h3 (fun H1 locs1 g2 g3 => kk H1 locs1 ls h1 g2 g3)
theorem zg_callI {X : zg_X} {D : va_G} {G : zw_G} {A : Nat → Prop} {Q : State → Prop} {ck : Nat} {w : zw_T} {pc : Nat} {lv : List (Option Value)} {st : List Value} {cc : ByteArray} {own : String} {nL fr lo mc : Nat} {y : MethodName} {ws ws' : List Cond} {bytes : ByteArray} {maxL idx fry loy mcy : Nat} {ret : Option FieldType} {res : Option Value × zw_T} {st0 : List Value} {a : Nat} (As : List Value) (hM : ∀ l : Launch, zc l y ws fry loy mcy D G A (.ref a :: As) w res) (hret : ret = none) (hy1 : y.name = "<init>") (hG : GoodIn zT ws) (hli : Cond.methodLink own idx y ∈ zT) (hini : Cond.initialized y.cls ∈ zT) (hinst : Cond.instanceMethod y ∈ zT) (hw : ws = Cond.code y bytes maxL ret :: ws') (hd0 : y.cls ≠ "java/lang/invoke/MethodHandle" ∧ y.cls ≠ "java/lang/invoke/VarHandle" ∧ (parseMethodDescriptor y.desc).map (fun d => d.parameters.length) = some As.length) (hR : fry + 1 ≤ fr ∧ 8 + (maxL + 11) + loy ≤ lo) (hcell : ck + mcy ≤ mc) (hcat : (st.map fun v => v.category).sum ≤ 8) (hll : lv.length = nL) (hst : st0 = As.reverse ++ .ref a :: st) (hX : zg_ok X cc own nL fr lo mc D G A) (hd : decode cc pc = .ok (.invokespecial idx, 3)) (kk : zg X D G A Q (ck + mcy) res.2 (pc + 3) lv (res.1.toList ++ st)) : zg X D G A Q ck w pc lv st0 := by
  obtain ⟨p, l, e, R, s, m, args, below, meth, c⟩ := X
  obtain ⟨hx, hb, hml, ho, hts, hK, hA, hlk, hfr, hR1, hR2, hlo, hZ⟩ := hX
  intro H locs ls h1 h2 h3
  subst hst
  subst hret
  exact zg_back (va_runI (As := As) (rest := st) ⟨hx, hb, hml, ho, hts⟩ (hM l) ⟨callB_of As.length hts hG hw rfl rfl (hts _ hini) (hts _ hli) hd0 ⟨by rw [hfr]; exact hR.1, by rw [hlo]; exact hR.2⟩, hy1, hts _ hinst⟩ ⟨zp_blind, zp_at hK hA hZ h2 h3⟩ rfl rfl (by show ls.size = nL; rw [h1.1]; exact hll) rfl (lv_room hcat) hd ⟨by rw [hR1]; exact hcell, by rw [hR2, ← Nat.mul_add]; exact Nat.mul_le_mul_left 4096 hcell⟩) h3 (fun H1 locs1 g2 g3 => kk H1 locs1 ls h1 g2 g3)
theorem zg_callIN {X : zg_X} {D : va_G} {G : zw_G} {A : Nat → Prop} {Q : State → Prop} {ck : Nat} {w : zw_T} {pc : Nat} {lv : List (Option Value)} {st : List Value} {cc : ByteArray} {own : String} {nL fr lo mc : Nat} {y : MethodName} {ws ws' : List Cond} {bytes : ByteArray} {maxL idx fry loy mcy : Nat} {ret : Option FieldType} {res : Option Value × zw_T} {st0 : List Value} {a : Nat} {host : String} (As : List Value) (hM : ∀ l : Launch, zc l y ws fry loy mcy D G A (.ref a :: As) w res) (hret : ret = none) (hy1 : y.name = "<init>") (hG : GoodIn zT ws) (hln : (own, idx, y, host) ∈ zn_L) (hini : Cond.initialized y.cls ∈ zT) (hinst : Cond.instanceMethod y ∈ zT) (hw : ws = Cond.code y bytes maxL ret :: ws') (hd0 : y.cls ≠ "java/lang/invoke/MethodHandle" ∧ y.cls ≠ "java/lang/invoke/VarHandle" ∧ (parseMethodDescriptor y.desc).map (fun d => d.parameters.length) = some As.length) (hR : fry + 1 ≤ fr ∧ 8 + (maxL + 11) + loy ≤ lo) (hcell : ck + mcy ≤ mc) (hcat : (st.map fun v => v.category).sum ≤ 8) (hll : lv.length = nL) (hst : st0 = As.reverse ++ .ref a :: st) (hX : zg_ok X cc own nL fr lo mc D G A) (hd : decode cc pc = .ok (.invokespecial idx, 3)) (kk : zg X D G A Q (ck + mcy) res.2 (pc + 3) lv (res.1.toList ++ st)) : zg X D G A Q ck w pc lv st0 := by
  obtain ⟨p, l, e, R, s, m, args, below, meth, c⟩ := X
  obtain ⟨hx, hb, hml, ho, hts, hK, hA, hlk, hfr, hR1, hR2, hlo, hZ⟩ := hX
  intro H locs ls h1 h2 h3
  subst hst
  subst hret
  exact zg_back (va_runIN (As := As) (rest := st) ⟨hx, hb, hml, ho, hts⟩ (hM l) ⟨va_cnB As.length hts hG hw rfl rfl (hZ.1.1 _ hln) (hts _ hini) hd0 ⟨by rw [hfr]; exact hR.1, by rw [hlo]; exact hR.2⟩, hy1, hts _ hinst⟩ ⟨zp_blind, zp_at hK hA hZ h2 h3⟩ rfl rfl (by show ls.size = nL; rw [h1.1]; exact hll) rfl (lv_room hcat) hd ⟨by rw [hR1]; exact hcell, by rw [hR2, ← Nat.mul_add]; exact Nat.mul_le_mul_left 4096 hcell⟩) h3 (fun H1 locs1 g2 g3 => kk H1 locs1 ls h1 g2 g3)
theorem zg_callS_i {X : zg_X} {D : va_G} {G : zw_G} {A : Nat → Prop} {Q : State → Prop} {ck : Nat} {w : zw_T} {pc : Nat} {lv : List (Option Value)} {st : List Value} {cc : ByteArray} {own : String} {nL fr lo mc : Nat} {y : MethodName} {ws ws' : List Cond} {bytes : ByteArray} {maxL idx fry loy mcy : Nat} {ret : Option FieldType} {v : Int32} {w1 : zw_T} {st0 : List Value} (As : List Value) (hM : ∀ l : Launch, zc l y ws fry loy mcy D G A As w (some (.int v), w1)) (hG : GoodIn zT (va_wsS own idx y ws)) (hw : ws = Cond.code y bytes maxL ret :: ws') (hd0 : y.cls ≠ "java/lang/invoke/MethodHandle" ∧ y.cls ≠ "java/lang/invoke/VarHandle" ∧ (parseMethodDescriptor y.desc).map (fun d => d.parameters.length) = some As.length) (hR : fry + 1 ≤ fr ∧ 8 + (maxL + 11) + loy ≤ lo) (hcell : ck + mcy ≤ mc) (hcat : (st.map fun v => v.category).sum ≤ 8) (hll : lv.length = nL) (hst : st0 = As.reverse ++ st) (hX : zg_ok X cc own nL fr lo mc D G A) (hd : decode cc pc = .ok (.invokestatic idx, 3)) (kk : zg X D G A Q (ck + mcy) w1 (pc + 3) lv (.int v :: st)) : zg X D G A Q ck w pc lv st0 := zg_callS As hM hG hw hd0 hR hcell hcat hll hst hX hd kk
theorem zg_callS_l {X : zg_X} {D : va_G} {G : zw_G} {A : Nat → Prop} {Q : State → Prop} {ck : Nat} {w : zw_T} {pc : Nat} {lv : List (Option Value)} {st : List Value} {cc : ByteArray} {own : String} {nL fr lo mc : Nat} {y : MethodName} {ws ws' : List Cond} {bytes : ByteArray} {maxL idx fry loy mcy : Nat} {ret : Option FieldType} {v : Int64} {w1 : zw_T} {st0 : List Value} (As : List Value) (hM : ∀ l : Launch, zc l y ws fry loy mcy D G A As w (some (.long v), w1)) (hG : GoodIn zT (va_wsS own idx y ws)) (hw : ws = Cond.code y bytes maxL ret :: ws') (hd0 : y.cls ≠ "java/lang/invoke/MethodHandle" ∧ y.cls ≠ "java/lang/invoke/VarHandle" ∧ (parseMethodDescriptor y.desc).map (fun d => d.parameters.length) = some As.length) (hR : fry + 1 ≤ fr ∧ 8 + (maxL + 11) + loy ≤ lo) (hcell : ck + mcy ≤ mc) (hcat : (st.map fun v => v.category).sum ≤ 8) (hll : lv.length = nL) (hst : st0 = As.reverse ++ st) (hX : zg_ok X cc own nL fr lo mc D G A) (hd : decode cc pc = .ok (.invokestatic idx, 3)) (kk : zg X D G A Q (ck + mcy) w1 (pc + 3) lv (.long v :: st)) : zg X D G A Q ck w pc lv st0 := zg_callS As hM hG hw hd0 hR hcell hcat hll hst hX hd kk
theorem zg_callS_r {X : zg_X} {D : va_G} {G : zw_G} {A : Nat → Prop} {Q : State → Prop} {ck : Nat} {w : zw_T} {pc : Nat} {lv : List (Option Value)} {st : List Value} {cc : ByteArray} {own : String} {nL fr lo mc : Nat} {y : MethodName} {ws ws' : List Cond} {bytes : ByteArray} {maxL idx fry loy mcy : Nat} {ret : Option FieldType} {v : Option Nat} {w1 : zw_T} {st0 : List Value} (As : List Value) (hM : ∀ l : Launch, zc l y ws fry loy mcy D G A As w (some (va_rf v), w1)) (hG : GoodIn zT (va_wsS own idx y ws)) (hw : ws = Cond.code y bytes maxL ret :: ws') (hd0 : y.cls ≠ "java/lang/invoke/MethodHandle" ∧ y.cls ≠ "java/lang/invoke/VarHandle" ∧ (parseMethodDescriptor y.desc).map (fun d => d.parameters.length) = some As.length) (hR : fry + 1 ≤ fr ∧ 8 + (maxL + 11) + loy ≤ lo) (hcell : ck + mcy ≤ mc) (hcat : (st.map fun v => v.category).sum ≤ 8) (hll : lv.length = nL) (hst : st0 = As.reverse ++ st) (hX : zg_ok X cc own nL fr lo mc D G A) (hd : decode cc pc = .ok (.invokestatic idx, 3)) (kk : zg X D G A Q (ck + mcy) w1 (pc + 3) lv (va_rf v :: st)) : zg X D G A Q ck w pc lv st0 := zg_callS As hM hG hw hd0 hR hcell hcat hll hst hX hd kk
theorem zg_callS_v {X : zg_X} {D : va_G} {G : zw_G} {A : Nat → Prop} {Q : State → Prop} {ck : Nat} {w : zw_T} {pc : Nat} {lv : List (Option Value)} {st : List Value} {cc : ByteArray} {own : String} {nL fr lo mc : Nat} {y : MethodName} {ws ws' : List Cond} {bytes : ByteArray} {maxL idx fry loy mcy : Nat} {ret : Option FieldType} {w1 : zw_T} {st0 : List Value} (As : List Value) (hM : ∀ l : Launch, zc l y ws fry loy mcy D G A As w (none, w1)) (hG : GoodIn zT (va_wsS own idx y ws)) (hw : ws = Cond.code y bytes maxL ret :: ws') (hd0 : y.cls ≠ "java/lang/invoke/MethodHandle" ∧ y.cls ≠ "java/lang/invoke/VarHandle" ∧ (parseMethodDescriptor y.desc).map (fun d => d.parameters.length) = some As.length) (hR : fry + 1 ≤ fr ∧ 8 + (maxL + 11) + loy ≤ lo) (hcell : ck + mcy ≤ mc) (hcat : (st.map fun v => v.category).sum ≤ 8) (hll : lv.length = nL) (hst : st0 = As.reverse ++ st) (hX : zg_ok X cc own nL fr lo mc D G A) (hd : decode cc pc = .ok (.invokestatic idx, 3)) (kk : zg X D G A Q (ck + mcy) w1 (pc + 3) lv st) : zg X D G A Q ck w pc lv st0 := zg_callS As hM hG hw hd0 hR hcell hcat hll hst hX hd kk
theorem zg_callSN_i {X : zg_X} {D : va_G} {G : zw_G} {A : Nat → Prop} {Q : State → Prop} {ck : Nat} {w : zw_T} {pc : Nat} {lv : List (Option Value)} {st : List Value} {cc : ByteArray} {own : String} {nL fr lo mc : Nat} {y : MethodName} {ws ws' : List Cond} {bytes : ByteArray} {maxL idx fry loy mcy : Nat} {ret : Option FieldType} {v : Int32} {w1 : zw_T} {st0 : List Value} {host : String} (As : List Value) (hM : ∀ l : Launch, zc l y ws fry loy mcy D G A As w (some (.int v), w1)) (hG : GoodIn zT ws) (hln : (own, idx, y, host) ∈ zn_L) (hstat : Cond.static y ∈ zT) (hini : Cond.initialized y.cls ∈ zT) (hw : ws = Cond.code y bytes maxL ret :: ws') (hd0 : y.cls ≠ "java/lang/invoke/MethodHandle" ∧ y.cls ≠ "java/lang/invoke/VarHandle" ∧ (parseMethodDescriptor y.desc).map (fun d => d.parameters.length) = some As.length) (hR : fry + 1 ≤ fr ∧ 8 + (maxL + 11) + loy ≤ lo) (hcell : ck + mcy ≤ mc) (hcat : (st.map fun v => v.category).sum ≤ 8) (hll : lv.length = nL) (hst : st0 = As.reverse ++ st) (hX : zg_ok X cc own nL fr lo mc D G A) (hd : decode cc pc = .ok (.invokestatic idx, 3)) (kk : zg X D G A Q (ck + mcy) w1 (pc + 3) lv (.int v :: st)) : zg X D G A Q ck w pc lv st0 := zg_callSN As hM hG hln hstat hini hw hd0 hR hcell hcat hll hst hX hd kk
theorem zg_callSN_l {X : zg_X} {D : va_G} {G : zw_G} {A : Nat → Prop} {Q : State → Prop} {ck : Nat} {w : zw_T} {pc : Nat} {lv : List (Option Value)} {st : List Value} {cc : ByteArray} {own : String} {nL fr lo mc : Nat} {y : MethodName} {ws ws' : List Cond} {bytes : ByteArray} {maxL idx fry loy mcy : Nat} {ret : Option FieldType} {v : Int64} {w1 : zw_T} {st0 : List Value} {host : String} (As : List Value) (hM : ∀ l : Launch, zc l y ws fry loy mcy D G A As w (some (.long v), w1)) (hG : GoodIn zT ws) (hln : (own, idx, y, host) ∈ zn_L) (hstat : Cond.static y ∈ zT) (hini : Cond.initialized y.cls ∈ zT) (hw : ws = Cond.code y bytes maxL ret :: ws') (hd0 : y.cls ≠ "java/lang/invoke/MethodHandle" ∧ y.cls ≠ "java/lang/invoke/VarHandle" ∧ (parseMethodDescriptor y.desc).map (fun d => d.parameters.length) = some As.length) (hR : fry + 1 ≤ fr ∧ 8 + (maxL + 11) + loy ≤ lo) (hcell : ck + mcy ≤ mc) (hcat : (st.map fun v => v.category).sum ≤ 8) (hll : lv.length = nL) (hst : st0 = As.reverse ++ st) (hX : zg_ok X cc own nL fr lo mc D G A) (hd : decode cc pc = .ok (.invokestatic idx, 3)) (kk : zg X D G A Q (ck + mcy) w1 (pc + 3) lv (.long v :: st)) : zg X D G A Q ck w pc lv st0 := zg_callSN As hM hG hln hstat hini hw hd0 hR hcell hcat hll hst hX hd kk
theorem zg_callSN_r {X : zg_X} {D : va_G} {G : zw_G} {A : Nat → Prop} {Q : State → Prop} {ck : Nat} {w : zw_T} {pc : Nat} {lv : List (Option Value)} {st : List Value} {cc : ByteArray} {own : String} {nL fr lo mc : Nat} {y : MethodName} {ws ws' : List Cond} {bytes : ByteArray} {maxL idx fry loy mcy : Nat} {ret : Option FieldType} {v : Option Nat} {w1 : zw_T} {st0 : List Value} {host : String} (As : List Value) (hM : ∀ l : Launch, zc l y ws fry loy mcy D G A As w (some (va_rf v), w1)) (hG : GoodIn zT ws) (hln : (own, idx, y, host) ∈ zn_L) (hstat : Cond.static y ∈ zT) (hini : Cond.initialized y.cls ∈ zT) (hw : ws = Cond.code y bytes maxL ret :: ws') (hd0 : y.cls ≠ "java/lang/invoke/MethodHandle" ∧ y.cls ≠ "java/lang/invoke/VarHandle" ∧ (parseMethodDescriptor y.desc).map (fun d => d.parameters.length) = some As.length) (hR : fry + 1 ≤ fr ∧ 8 + (maxL + 11) + loy ≤ lo) (hcell : ck + mcy ≤ mc) (hcat : (st.map fun v => v.category).sum ≤ 8) (hll : lv.length = nL) (hst : st0 = As.reverse ++ st) (hX : zg_ok X cc own nL fr lo mc D G A) (hd : decode cc pc = .ok (.invokestatic idx, 3)) (kk : zg X D G A Q (ck + mcy) w1 (pc + 3) lv (va_rf v :: st)) : zg X D G A Q ck w pc lv st0 := zg_callSN As hM hG hln hstat hini hw hd0 hR hcell hcat hll hst hX hd kk
theorem zg_callSN_v {X : zg_X} {D : va_G} {G : zw_G} {A : Nat → Prop} {Q : State → Prop} {ck : Nat} {w : zw_T} {pc : Nat} {lv : List (Option Value)} {st : List Value} {cc : ByteArray} {own : String} {nL fr lo mc : Nat} {y : MethodName} {ws ws' : List Cond} {bytes : ByteArray} {maxL idx fry loy mcy : Nat} {ret : Option FieldType} {w1 : zw_T} {st0 : List Value} {host : String} (As : List Value) (hM : ∀ l : Launch, zc l y ws fry loy mcy D G A As w (none, w1)) (hG : GoodIn zT ws) (hln : (own, idx, y, host) ∈ zn_L) (hstat : Cond.static y ∈ zT) (hini : Cond.initialized y.cls ∈ zT) (hw : ws = Cond.code y bytes maxL ret :: ws') (hd0 : y.cls ≠ "java/lang/invoke/MethodHandle" ∧ y.cls ≠ "java/lang/invoke/VarHandle" ∧ (parseMethodDescriptor y.desc).map (fun d => d.parameters.length) = some As.length) (hR : fry + 1 ≤ fr ∧ 8 + (maxL + 11) + loy ≤ lo) (hcell : ck + mcy ≤ mc) (hcat : (st.map fun v => v.category).sum ≤ 8) (hll : lv.length = nL) (hst : st0 = As.reverse ++ st) (hX : zg_ok X cc own nL fr lo mc D G A) (hd : decode cc pc = .ok (.invokestatic idx, 3)) (kk : zg X D G A Q (ck + mcy) w1 (pc + 3) lv st) : zg X D G A Q ck w pc lv st0 := zg_callSN As hM hG hln hstat hini hw hd0 hR hcell hcat hll hst hX hd kk
theorem zg_callV_i {X : zg_X} {D : va_G} {G : zw_G} {A : Nat → Prop} {Q : State → Prop} {ck : Nat} {w : zw_T} {pc : Nat} {lv : List (Option Value)} {st : List Value} {cc : ByteArray} {own : String} {nL fr lo mc : Nat} {y : MethodName} {ws ws' : List Cond} {bytes : ByteArray} {maxL idx fry loy mcy : Nat} {ret : Option FieldType} {v : Int32} {w1 : zw_T} {st0 : List Value} {ci N a : Nat} {T : u_T} (hc : vwCl[ci]? = some (y.cls, T, N)) (hci : ci < 99) {o : Option Nat} (hoa : o = some a) (ha : (zw_ty w a).1 = ci + 1) (As : List Value) (hM : ∀ l : Launch, zc l y ws fry loy mcy D G A (.ref a :: As) w (some (.int v), w1)) (hG : GoodIn zT (wsV own idx y.cls y ws)) (hw : ws = Cond.code y bytes maxL ret :: ws') (hd0 : y.cls ≠ "java/lang/invoke/MethodHandle" ∧ y.cls ≠ "java/lang/invoke/VarHandle" ∧ (parseMethodDescriptor y.desc).map (fun d => d.parameters.length) = some As.length) (hR : fry + 1 ≤ fr ∧ 8 + (maxL + 11) + loy ≤ lo) (hcell : ck + mcy ≤ mc) (hcat : (st.map fun v => v.category).sum ≤ 8) (hll : lv.length = nL) (hst : st0 = As.reverse ++ va_rf o :: st) (hX : zg_ok X cc own nL fr lo mc D G A) (hd : decode cc pc = .ok (.invokevirtual idx, 3)) (kk : zg X D G A Q (ck + mcy) w1 (pc + 3) lv (.int v :: st)) : zg X D G A Q ck w pc lv st0 := zg_callV hc hci hoa ha As hM hG hw hd0 hR hcell hcat hll hst hX hd kk
theorem zg_callV_l {X : zg_X} {D : va_G} {G : zw_G} {A : Nat → Prop} {Q : State → Prop} {ck : Nat} {w : zw_T} {pc : Nat} {lv : List (Option Value)} {st : List Value} {cc : ByteArray} {own : String} {nL fr lo mc : Nat} {y : MethodName} {ws ws' : List Cond} {bytes : ByteArray} {maxL idx fry loy mcy : Nat} {ret : Option FieldType} {v : Int64} {w1 : zw_T} {st0 : List Value} {ci N a : Nat} {T : u_T} (hc : vwCl[ci]? = some (y.cls, T, N)) (hci : ci < 99) {o : Option Nat} (hoa : o = some a) (ha : (zw_ty w a).1 = ci + 1) (As : List Value) (hM : ∀ l : Launch, zc l y ws fry loy mcy D G A (.ref a :: As) w (some (.long v), w1)) (hG : GoodIn zT (wsV own idx y.cls y ws)) (hw : ws = Cond.code y bytes maxL ret :: ws') (hd0 : y.cls ≠ "java/lang/invoke/MethodHandle" ∧ y.cls ≠ "java/lang/invoke/VarHandle" ∧ (parseMethodDescriptor y.desc).map (fun d => d.parameters.length) = some As.length) (hR : fry + 1 ≤ fr ∧ 8 + (maxL + 11) + loy ≤ lo) (hcell : ck + mcy ≤ mc) (hcat : (st.map fun v => v.category).sum ≤ 8) (hll : lv.length = nL) (hst : st0 = As.reverse ++ va_rf o :: st) (hX : zg_ok X cc own nL fr lo mc D G A) (hd : decode cc pc = .ok (.invokevirtual idx, 3)) (kk : zg X D G A Q (ck + mcy) w1 (pc + 3) lv (.long v :: st)) : zg X D G A Q ck w pc lv st0 := zg_callV hc hci hoa ha As hM hG hw hd0 hR hcell hcat hll hst hX hd kk
theorem zg_callV_r {X : zg_X} {D : va_G} {G : zw_G} {A : Nat → Prop} {Q : State → Prop} {ck : Nat} {w : zw_T} {pc : Nat} {lv : List (Option Value)} {st : List Value} {cc : ByteArray} {own : String} {nL fr lo mc : Nat} {y : MethodName} {ws ws' : List Cond} {bytes : ByteArray} {maxL idx fry loy mcy : Nat} {ret : Option FieldType} {v : Option Nat} {w1 : zw_T} {st0 : List Value} {ci N a : Nat} {T : u_T} (hc : vwCl[ci]? = some (y.cls, T, N)) (hci : ci < 99) {o : Option Nat} (hoa : o = some a) (ha : (zw_ty w a).1 = ci + 1) (As : List Value) (hM : ∀ l : Launch, zc l y ws fry loy mcy D G A (.ref a :: As) w (some (va_rf v), w1)) (hG : GoodIn zT (wsV own idx y.cls y ws)) (hw : ws = Cond.code y bytes maxL ret :: ws') (hd0 : y.cls ≠ "java/lang/invoke/MethodHandle" ∧ y.cls ≠ "java/lang/invoke/VarHandle" ∧ (parseMethodDescriptor y.desc).map (fun d => d.parameters.length) = some As.length) (hR : fry + 1 ≤ fr ∧ 8 + (maxL + 11) + loy ≤ lo) (hcell : ck + mcy ≤ mc) (hcat : (st.map fun v => v.category).sum ≤ 8) (hll : lv.length = nL) (hst : st0 = As.reverse ++ va_rf o :: st) (hX : zg_ok X cc own nL fr lo mc D G A) (hd : decode cc pc = .ok (.invokevirtual idx, 3)) (kk : zg X D G A Q (ck + mcy) w1 (pc + 3) lv (va_rf v :: st)) : zg X D G A Q ck w pc lv st0 := zg_callV hc hci hoa ha As hM hG hw hd0 hR hcell hcat hll hst hX hd kk
theorem zg_callV_v {X : zg_X} {D : va_G} {G : zw_G} {A : Nat → Prop} {Q : State → Prop} {ck : Nat} {w : zw_T} {pc : Nat} {lv : List (Option Value)} {st : List Value} {cc : ByteArray} {own : String} {nL fr lo mc : Nat} {y : MethodName} {ws ws' : List Cond} {bytes : ByteArray} {maxL idx fry loy mcy : Nat} {ret : Option FieldType} {w1 : zw_T} {st0 : List Value} {ci N a : Nat} {T : u_T} (hc : vwCl[ci]? = some (y.cls, T, N)) (hci : ci < 99) {o : Option Nat} (hoa : o = some a) (ha : (zw_ty w a).1 = ci + 1) (As : List Value) (hM : ∀ l : Launch, zc l y ws fry loy mcy D G A (.ref a :: As) w (none, w1)) (hG : GoodIn zT (wsV own idx y.cls y ws)) (hw : ws = Cond.code y bytes maxL ret :: ws') (hd0 : y.cls ≠ "java/lang/invoke/MethodHandle" ∧ y.cls ≠ "java/lang/invoke/VarHandle" ∧ (parseMethodDescriptor y.desc).map (fun d => d.parameters.length) = some As.length) (hR : fry + 1 ≤ fr ∧ 8 + (maxL + 11) + loy ≤ lo) (hcell : ck + mcy ≤ mc) (hcat : (st.map fun v => v.category).sum ≤ 8) (hll : lv.length = nL) (hst : st0 = As.reverse ++ va_rf o :: st) (hX : zg_ok X cc own nL fr lo mc D G A) (hd : decode cc pc = .ok (.invokevirtual idx, 3)) (kk : zg X D G A Q (ck + mcy) w1 (pc + 3) lv st) : zg X D G A Q ck w pc lv st0 := zg_callV hc hci hoa ha As hM hG hw hd0 hR hcell hcat hll hst hX hd kk
theorem zg_callI_v {X : zg_X} {D : va_G} {G : zw_G} {A : Nat → Prop} {Q : State → Prop} {ck : Nat} {w : zw_T} {pc : Nat} {lv : List (Option Value)} {st : List Value} {cc : ByteArray} {own : String} {nL fr lo mc : Nat} {y : MethodName} {ws ws' : List Cond} {bytes : ByteArray} {maxL idx fry loy mcy : Nat} {ret : Option FieldType} {w1 : zw_T} {st0 : List Value} {a : Nat} (As : List Value) (hM : ∀ l : Launch, zc l y ws fry loy mcy D G A (.ref a :: As) w (none, w1)) (hret : ret = none) (hy1 : y.name = "<init>") (hG : GoodIn zT ws) (hli : Cond.methodLink own idx y ∈ zT) (hini : Cond.initialized y.cls ∈ zT) (hinst : Cond.instanceMethod y ∈ zT) (hw : ws = Cond.code y bytes maxL ret :: ws') (hd0 : y.cls ≠ "java/lang/invoke/MethodHandle" ∧ y.cls ≠ "java/lang/invoke/VarHandle" ∧ (parseMethodDescriptor y.desc).map (fun d => d.parameters.length) = some As.length) (hR : fry + 1 ≤ fr ∧ 8 + (maxL + 11) + loy ≤ lo) (hcell : ck + mcy ≤ mc) (hcat : (st.map fun v => v.category).sum ≤ 8) (hll : lv.length = nL) (hst : st0 = As.reverse ++ .ref a :: st) (hX : zg_ok X cc own nL fr lo mc D G A) (hd : decode cc pc = .ok (.invokespecial idx, 3)) (kk : zg X D G A Q (ck + mcy) w1 (pc + 3) lv st) : zg X D G A Q ck w pc lv st0 := zg_callI As hM hret hy1 hG hli hini hinst hw hd0 hR hcell hcat hll hst hX hd kk
theorem zg_callIN_v {X : zg_X} {D : va_G} {G : zw_G} {A : Nat → Prop} {Q : State → Prop} {ck : Nat} {w : zw_T} {pc : Nat} {lv : List (Option Value)} {st : List Value} {cc : ByteArray} {own : String} {nL fr lo mc : Nat} {y : MethodName} {ws ws' : List Cond} {bytes : ByteArray} {maxL idx fry loy mcy : Nat} {ret : Option FieldType} {w1 : zw_T} {st0 : List Value} {a : Nat} {host : String} (As : List Value) (hM : ∀ l : Launch, zc l y ws fry loy mcy D G A (.ref a :: As) w (none, w1)) (hret : ret = none) (hy1 : y.name = "<init>") (hG : GoodIn zT ws) (hln : (own, idx, y, host) ∈ zn_L) (hini : Cond.initialized y.cls ∈ zT) (hinst : Cond.instanceMethod y ∈ zT) (hw : ws = Cond.code y bytes maxL ret :: ws') (hd0 : y.cls ≠ "java/lang/invoke/MethodHandle" ∧ y.cls ≠ "java/lang/invoke/VarHandle" ∧ (parseMethodDescriptor y.desc).map (fun d => d.parameters.length) = some As.length) (hR : fry + 1 ≤ fr ∧ 8 + (maxL + 11) + loy ≤ lo) (hcell : ck + mcy ≤ mc) (hcat : (st.map fun v => v.category).sum ≤ 8) (hll : lv.length = nL) (hst : st0 = As.reverse ++ .ref a :: st) (hX : zg_ok X cc own nL fr lo mc D G A) (hd : decode cc pc = .ok (.invokespecial idx, 3)) (kk : zg X D G A Q (ck + mcy) w1 (pc + 3) lv st) : zg X D G A Q ck w pc lv st0 := zg_callIN As hM hret hy1 hG hln hini hinst hw hd0 hR hcell hcat hll hst hX hd kk
theorem zg_oinit {X : zg_X} {D : va_G} {G : zw_G} {A : Nat → Prop} {Q : State → Prop} {ck : Nat} {w : zw_T} {pc : Nat} {lv : List (Option Value)} {st : List Value} {cc : ByteArray} {own : String} {nL fr lo mc : Nat} {idx : Nat} (hli : Cond.methodLink own idx objectInit ∈ zT) (hinst : Cond.instanceMethod objectInit ∈ zT) (hcode : Cond.code objectInit ⟨#[0xb1]⟩ 1 none ∈ zT) {a : Nat} (hfr1 : 1 ≤ fr) (hlo1 : (st.map fun v => v.category).sum + 12 ≤ lo) (hll : lv.length = nL) (hX : zg_ok X cc own nL fr lo mc D G A) (hd : decode cc pc = .ok (.invokespecial idx, 3)) (kk : zg X D G A Q ck w (pc + 3) lv st) : zg X D G A Q ck w pc lv (va_rf (some a) :: st) := by
  obtain ⟨p, l, e, R, s, m, args, below, meth, c⟩ := X
  obtain ⟨hx, hb, hml, ho, hts, hK, hA, hlk, hfr, hR1, hR2, hlo, hZ⟩ := hX
  intro H locs ls h1 h2 h3
  exact W.objInit hx hb ho (hts _ hli) (hts _ hinst) (hts _ hcode) rfl (by show ls.size = c.maxLocals; rw [h1.1, hml]; exact hll) rfl hd (by rw [hfr]; exact hfr1) (by rw [hlo]; show 2 * 0 + _ + 12 ≤ lo; omega) (kk H locs ls h1 h2 h3)
theorem zg_copy {X : zg_X} {D : va_G} {G : zw_G} {A : Nat → Prop} {Q : State → Prop} {ck : Nat} {w : zw_T} {pc : Nat} {lv : List (Option Value)} {st : List Value} {cc : ByteArray} {own : String} {nL fr lo mc : Nat} {k0 k1 idx : Nat} (ha1 : 100 ≤ k0) (ha2 : k0 < 200) (hb1 : 100 ≤ k1) (hb2 : k1 < 200) (hli : Cond.methodLink own idx arraycopyName ∈ zT) (hnat : Cond.native arraycopyName ∈ zT) (hstat : Cond.static arraycopyName ∈ zT) (hini : Cond.initialized "java/lang/System" ∈ zT) {o0 o1 : Option Nat} {sp dp n : Int32} {ρ : Type} {r : ρ} {K : zw_T → Option ρ} (hfr1 : 1 ≤ fr) (hlo1 : (st.map fun v => v.category).sum + (nativeFrameWords "java/lang/System" "arraycopy" 5 + 11) ≤ lo) (hll : lv.length = nL) (hX : zg_ok X cc own nL fr lo mc D G A) (hd : decode cc pc = .ok (.invokestatic idx, 3)) (h : zf_cp w k0 k1 o0 sp o1 dp n K = some r) (kk : ∀ w1, K w1 = some r → zg X D G A Q ck w1 (pc + 3) lv st) : zg X D G A Q ck w pc lv (.int n :: .int dp :: va_rf o1 :: .int sp :: va_rf o0 :: st) := by
  unfold zf_cp at h
  cases o0 with
  | none => cases h
  | some a0 =>
    cases o1 with
    | none => cases h
    | some a1 =>
      by_cases hq : (zw_ty w a0).1 = k0 ∧ (zw_ty w a1).1 = k1 ∧ ¬ sp < 0 ∧ ¬ dp < 0 ∧ ¬ n < 0 ∧ sp.toNatClampNeg + n.toNatClampNeg ≤ (zw_ty w a0).2 ∧ dp.toNatClampNeg + n.toNatClampNeg ≤ (zw_ty w a1).2
      · simp only [if_pos hq] at h
        obtain ⟨t0, t1, c1, c2, c3, c4, c5⟩ := hq
        obtain ⟨p, l, e, R, s, m, args, below, meth, c⟩ := X
        obtain ⟨hx, hb, hml, ho, hts, hK, hA, hlk, hfr, hR1, hR2, hlo, hZ⟩ := hX
        intro H locs ls h1 h2 h3 T hT X
        have nn : ∀ z : Int32, ¬ z < 0 → z.toInt = (z.toNatClampNeg : Int) := by
          intro z hz
          have hz0 : (0 : Int) ≤ z.toInt := by
            have := Int32.not_lt.mp hz
            simpa using Int32.le_iff_toInt_le.mp this
          show z.toInt = ((z.toInt.toNat : Nat) : Int)
          omega
        have v0 := (h2.2 a0 (by rw [t0]; omega)).1
        have v1 := h2.2 a1 (by rw [t1]; omega)
        have hAa := v1.2
        have v1 := v1.1
        rw [zw_cell_i t0 ha1 ha2] at v0
        rw [zw_cell_i t1 hb1 hb2] at v1
        have v0 : H[a0]? = some (vp_cell G.1 ((zw_ty w a0).2, .inl (zw_I w k0 a0))) := v0
        have v1 : H[a1]? = some (vp_cell G.1 ((zw_ty w a1).2, .inl (zw_I w k1 a1))) := v1
        obtain ⟨-, kc0, hk0, cm0, hkk0⟩ := (hK.2 0 (G.1, .int) rfl).1 (zw_ty w a0).2 (fun j => .int (zw_I w k0 a0 j))
        obtain ⟨-, kc1, hk1, cm1, hkk1⟩ := (hK.2 0 (G.1, .int) rfl).1 (zw_ty w a1).2 (fun j => .int (zw_I w k1 a1 j))
        obtain ⟨vm', X', step⟩ := X.arraycopy hx ho (hts _ hli) (hts _ hnat) (hts _ hstat) (hts _ hini) (src := a0) (dst := a1) (cs := vp_cell G.1 ((zw_ty w a0).2, .inl (zw_I w k0 a0))) (cd := vp_cell G.1 ((zw_ty w a1).2, .inl (zw_I w k1 a1))) (srcPos := sp) (destPos := dp) (n := n) (by rw [hT]; exact v0) (by rw [hT]; exact v1)
          (fun _ h => by cases h) (fun _ h => by cases h) (fun h => by cases h) (fun h => by cases h) hk0 hk1 hkk0 hkk1 rfl c1 c2 c3
          (by rw [nn sp c1, nn n c3]; show ¬ _ > ((arrV _ _ _).slots.size : Int); rw [arrV_size]; omega)
          (by rw [nn dp c2, nn n c3]; show ¬ _ > ((arrV _ _ _).slots.size : Int); rw [arrV_size]; omega)
          (fun vm₁ _ i hi => by
            have e : (vp_cell G.1 ((zw_ty w a0).2, .inl (zw_I w k0 a0))).slots.getD (sp.toNatClampNeg + i) .null = .int (zw_I w k0 a0 (sp.toNatClampNeg + i)) := by
              show (arrV _ _ _).slots.getD _ _ = _
              rw [Array.getD_eq_getD_getElem?, arrV_read _ _ (by omega)]
              rfl
            refine ⟨?_, ?_⟩
            · rw [e]
              rfl
            · rw [e]
              exact trivial)
          (g := F0 m pc ls (.int n :: .int dp :: .ref a1 :: .int sp :: .ref a0 :: st)) rfl (by show ls.size = c.maxLocals; rw [h1.1, hml]; exact hll) (rest := st) rfl (by rw [hb]; exact hd) (by rw [hfr]; exact hfr1) (by rw [hlo]; show 2 * 0 + _ + _ ≤ lo; omega)
        have e1 : copied (vp_cell G.1 ((zw_ty w a0).2, .inl (zw_I w k0 a0))) (vp_cell G.1 ((zw_ty w a1).2, .inl (zw_I w k1 a1))) sp dp n = vp_cell G.1 ((zw_ty w a1).2, .inl (va_cpy (zw_I w k0 a0) (zw_I w k1 a1) sp.toNatClampNeg dp.toNatClampNeg n.toNatClampNeg)) := va_copied (fun z => .int z) _ _ _ _ c4
        rw [e1] at X' step
        have hl : a1 < H.size := (Array.getElem?_eq_some_iff.mp v1).1
        generalize hcv : vp_cell G.1 ((zw_ty w a1).2, .inl (va_cpy (zw_I w k0 a0) (zw_I w k1 a1) sp.toNatClampNeg dp.toNatClampNeg n.toNatClampNeg)) = cv at X' step
        have hheap : ((T.setVm vm').setCell a1 cv).heap = H.setIfInBounds a1 cv := by rw [← hT]; rfl
        have oq : ∀ q : Nat, q ≠ a1 → (H.setIfInBounds a1 cv)[q]? = H[q]? := fun q hq => by simp [Array.getElem?_setIfInBounds, Ne.symm hq]
        have sq : (H.setIfInBounds a1 cv)[a1]? = some cv := by simp [Array.getElem?_setIfInBounds, hl]
        have zq : (H.setIfInBounds a1 cv).size = H.size := by simp
        obtain ⟨t, b1, b2⟩ := kk _ h (H.setIfInBounds a1 cv) _ ls h1 (zw_move h2 rfl rfl (fun b hb => zw_sF_ne hb) (by
            rw [zw_cell_i (w := zw_sF w k1 a1 (va_cpy (zw_I w k0 a0) (zw_I w k1 a1) sp.toNatClampNeg dp.toNatClampNeg n.toNatClampNeg)) (kd := k1) t1 hb1 hb2]
            show _ = some (vp_cell _ (_, .inl (zw_u2 (α := Nat → Int32) _ _ _ _ _ _)))
            rw [zw_u2_eq, sq, ← hcv]
            rfl) zq oq) ⟨by rw [zq]; exact h3.1, fun q g1 g2 => by
            rw [oq q (fun e => g2 (by rw [e]; exact hAa))]
            exact h3.2.1 q g1 g2, fun q hq => by
            rcases List.mem_append.mp hq with h | h
            · exact h3.2.2 q h
            · obtain ⟨z, -, hz⟩ := List.mem_map.mp h
              rw [← hz]
              exact hAa⟩ _ hheap X'
        exact ⟨t, step t b1, b2⟩
      · simp only [if_neg hq] at h
        cases h
end
section
theorem zx_0 : Cond.initialized "WakingPagersLaw" ∈ zT := zt_m1 0 rfl rfl
theorem zx_1 : Cond.initialized RWP ∈ zT := zt_m1 1 rfl rfl
theorem zx_2 : Cond.initialized RLy ∈ zT := zt_m1 2 rfl rfl
theorem zx_3 : Cond.initialized RAi ∈ zT := zt_m1 3 rfl rfl
theorem zx_4 : Cond.initialized RLs ∈ zT := zt_m1 4 rfl rfl
theorem zx_5 : Cond.initialized RMo ∈ zT := zt_m1 5 rfl rfl
theorem zx_6 : Cond.initialized "WakingPagers$Repairer" ∈ zT := zt_m1 6 rfl rfl
theorem zx_7 : Cond.initialized "java/lang/Integer" ∈ zT := zt_m1 7 rfl rfl
theorem zx_8 : Cond.initialized RId ∈ zT := zt_m1 8 rfl rfl
theorem zx_9 : Cond.initialized RPg ∈ zT := zt_m1 9 rfl rfl
theorem zx_10 : Cond.initialized RSd ∈ zT := zt_m1 10 rfl rfl
theorem zx_11 : Cond.initialized RHd ∈ zT := zt_m1 11 rfl rfl
theorem zx_12 : Cond.initialized RMs ∈ zT := zt_m1 12 rfl rfl
theorem zx_13 : Cond.initialized "java/util/Arrays" ∈ zT := zt_m1 13 rfl rfl
theorem zx_14 : Cond.initialized "java/lang/Math" ∈ zT := zt_m1 14 rfl rfl
theorem zx_15 : Cond.initialized "java/lang/System" ∈ zT := zt_m1 15 rfl rfl
theorem zx_16 : Cond.classLink "WakingPagersLaw" 7 RWP ∈ zT := zt_m1 16 rfl rfl
theorem zx_17 : Cond.instantiable RWP 12 ∈ zT := zt_m1 17 rfl rfl
theorem zx_18 : Cond.methodLink "WakingPagersLaw" 9 yWP_init ∈ zT := zt_m1 18 rfl rfl
theorem zx_19 : Cond.instanceMethod yWP_init ∈ zT := zt_m1 19 rfl rfl
theorem zx_20 : Cond.code yWP_init cWP_init 1 none ∈ zT := zt_m1 20 rfl rfl
theorem zx_21 : Cond.methodLink RWP 3 objectInit ∈ zT := zt_m1 21 rfl rfl
theorem zx_22 : Cond.instanceMethod objectInit ∈ zT := zt_m1 22 rfl rfl
theorem zx_23 : Cond.code objectInit ⟨#[0xb1]⟩ 1 none ∈ zT := zt_m1 23 rfl rfl
theorem zx_24 : Cond.classLink RWP 9 RId ∈ zT := zt_m1 24 rfl rfl
theorem zx_26 : Cond.classLink RWP 19 RPg ∈ zT := zt_m1 26 rfl rfl
theorem zx_28 : Cond.classLink RWP 28 RMs ∈ zT := zt_m1 28 rfl rfl
theorem zx_30 : Cond.classLink RWP 47 RLy ∈ zT := zt_m1 30 rfl rfl
theorem zx_31 : Cond.instantiable RLy 2 ∈ zT := zt_m1 31 rfl rfl
theorem zx_33 : Cond.instanceMethod yLy_init ∈ zT := zt_m1 33 rfl rfl
theorem zx_34 : Cond.code yLy_init cLy_init 1 none ∈ zT := zt_m1 34 rfl rfl
theorem zx_35 : Cond.methodLink RLy 3 objectInit ∈ zT := zt_m1 35 rfl rfl
theorem zx_36 : Cond.fieldLink RLy 9 "WakingPagers$Layout" "places" "[I" ∈ zT := zt_m1 36 rfl rfl
theorem zx_37 : Cond.fieldLink RWP 125 "WakingPagers$Layout" "places" "[I" ∈ zT := zt_m1 37 rfl rfl
theorem zx_38 : Cond.fieldLink RLy 15 "WakingPagers$Layout" "placeCount" "I" ∈ zT := zt_m1 38 rfl rfl
theorem zx_39 : Cond.laysFinal RLy "WakingPagers$Layout" "places" "[I" ∈ zT := zt_m1 39 rfl rfl
theorem zx_41 : Cond.lays RLy "WakingPagers$Layout" "placeCount" "I" ∈ zT := zt_m1 41 rfl rfl
theorem zx_44 : Cond.arrayClass .int ∈ zT := zt_m1 44 rfl rfl
theorem zx_45 : Cond.classLink RWP 54 RAi ∈ zT := zt_m1 45 rfl rfl
theorem zx_46 : Cond.instantiable RAi 2 ∈ zT := zt_m1 46 rfl rfl
theorem zx_48 : Cond.instanceMethod yAi_init ∈ zT := zt_m1 48 rfl rfl
theorem zx_49 : Cond.code yAi_init cAi_init 1 none ∈ zT := zt_m1 49 rfl rfl
theorem zx_50 : Cond.methodLink RAi 5 objectInit ∈ zT := zt_m1 50 rfl rfl
theorem zx_51 : Cond.fieldLink RAi 11 "WakingPagers$Air" "words" "[I" ∈ zT := zt_m1 51 rfl rfl
theorem zx_52 : Cond.fieldLink RAi 15 "WakingPagers$Air" "bitCount" "I" ∈ zT := zt_m1 52 rfl rfl
theorem zx_53 : Cond.fieldLink RLs 60 "WakingPagers$Air" "bitCount" "I" ∈ zT := zt_m1 53 rfl rfl
theorem zx_54 : Cond.fieldLink RWP 132 "WakingPagers$Air" "bitCount" "I" ∈ zT := zt_m1 54 rfl rfl
theorem zx_55 : Cond.laysFinal RAi "WakingPagers$Air" "words" "[I" ∈ zT := zt_m1 55 rfl rfl
theorem zx_57 : Cond.lays RAi "WakingPagers$Air" "bitCount" "I" ∈ zT := zt_m1 57 rfl rfl
theorem zx_60 : Cond.classLink RWP 61 RLs ∈ zT := zt_m1 60 rfl rfl
theorem zx_61 : Cond.instantiable RLs 8 ∈ zT := zt_m1 61 rfl rfl
theorem zx_63 : Cond.instanceMethod yLs_init ∈ zT := zt_m1 63 rfl rfl
theorem zx_64 : Cond.code yLs_init cLs_init 1 none ∈ zT := zt_m1 64 rfl rfl
theorem zx_65 : Cond.methodLink RLs 3 objectInit ∈ zT := zt_m1 65 rfl rfl
theorem zx_66 : Cond.fieldLink RLs 9 "WakingPagers$Listener" "air" "LWakingPagers$Air;" ∈ zT := zt_m1 66 rfl rfl
theorem zx_67 : Cond.fieldLink RLs 15 "WakingPagers$Listener" "pager" "LWakingPagers$Pager;" ∈ zT := zt_m1 67 rfl rfl
theorem zx_68 : Cond.fieldLink RLs 19 "WakingPagers$Listener" "storedNow" "I" ∈ zT := zt_m1 68 rfl rfl
theorem zx_69 : Cond.fieldLink RLs 23 "WakingPagers$Listener" "running" "LWakingPagers$Heard;" ∈ zT := zt_m1 69 rfl rfl
theorem zx_70 : Cond.fieldLink RLs 27 "WakingPagers$Listener" "signs" "[I" ∈ zT := zt_m1 70 rfl rfl
theorem zx_71 : Cond.fieldLink RLs 31 "WakingPagers$Listener" "signCount" "I" ∈ zT := zt_m1 71 rfl rfl
theorem zx_72 : Cond.fieldLink RLs 34 "WakingPagers$Listener" "partOfSign" "I" ∈ zT := zt_m1 72 rfl rfl
theorem zx_73 : Cond.fieldLink RLs 37 "WakingPagers$Listener" "partBits" "I" ∈ zT := zt_m1 73 rfl rfl
theorem zx_74 : Cond.lays RLs "WakingPagers$Listener" "air" "LWakingPagers$Air;" ∈ zT := zt_m1 74 rfl rfl
theorem zx_76 : Cond.lays RLs "WakingPagers$Listener" "pager" "LWakingPagers$Pager;" ∈ zT := zt_m1 76 rfl rfl
theorem zx_78 : Cond.lays RLs "WakingPagers$Listener" "storedNow" "I" ∈ zT := zt_m1 78 rfl rfl
theorem zx_80 : Cond.lays RLs "WakingPagers$Listener" "running" "LWakingPagers$Heard;" ∈ zT := zt_m1 80 rfl rfl
theorem zx_82 : Cond.laysFinal RLs "WakingPagers$Listener" "signs" "[I" ∈ zT := zt_m1 82 rfl rfl
theorem zx_84 : Cond.lays RLs "WakingPagers$Listener" "signCount" "I" ∈ zT := zt_m1 84 rfl rfl
theorem zx_86 : Cond.lays RLs "WakingPagers$Listener" "partOfSign" "I" ∈ zT := zt_m1 86 rfl rfl
theorem zx_88 : Cond.lays RLs "WakingPagers$Listener" "partBits" "I" ∈ zT := zt_m1 88 rfl rfl
theorem zx_91 : Cond.fieldLink RWP 11 "WakingPagers" "identities" "[LWakingPagers$Identity;" ∈ zT := zt_m1 91 rfl rfl
theorem zx_92 : Cond.fieldLink RWP 15 "WakingPagers" "identityCount" "I" ∈ zT := zt_m1 92 rfl rfl
theorem zx_93 : Cond.fieldLink RWP 21 "WakingPagers" "pagers" "[LWakingPagers$Pager;" ∈ zT := zt_m1 93 rfl rfl
theorem zx_94 : Cond.fieldLink RWP 25 "WakingPagers" "pagerCount" "I" ∈ zT := zt_m1 94 rfl rfl
theorem zx_95 : Cond.fieldLink RWP 30 "WakingPagers" "messages" "[LWakingPagers$Message;" ∈ zT := zt_m1 95 rfl rfl
theorem zx_96 : Cond.fieldLink RWP 34 "WakingPagers" "messageCount" "I" ∈ zT := zt_m1 96 rfl rfl
theorem zx_97 : Cond.fieldLink RWP 37 "WakingPagers" "waitingCount" "I" ∈ zT := zt_m1 97 rfl rfl
theorem zx_98 : Cond.fieldLink RWP 40 "WakingPagers" "loaded" "[I" ∈ zT := zt_m1 98 rfl rfl
theorem zx_99 : Cond.fieldLink RWP 44 "WakingPagers" "loadedCount" "I" ∈ zT := zt_m1 99 rfl rfl
theorem zx_100 : Cond.fieldLink RWP 50 "WakingPagers" "layout" "LWakingPagers$Layout;" ∈ zT := zt_m1 100 rfl rfl
theorem zx_101 : Cond.fieldLink RWP 57 "WakingPagers" "air" "LWakingPagers$Air;" ∈ zT := zt_m1 101 rfl rfl
theorem zx_102 : Cond.fieldLink RWP 64 "WakingPagers" "listener" "LWakingPagers$Listener;" ∈ zT := zt_m1 102 rfl rfl
theorem zx_103 : Cond.laysFinal RWP "WakingPagers" "identities" "[LWakingPagers$Identity;" ∈ zT := zt_m1 103 rfl rfl
theorem zx_105 : Cond.lays RWP "WakingPagers" "identityCount" "I" ∈ zT := zt_m1 105 rfl rfl
theorem zx_107 : Cond.laysFinal RWP "WakingPagers" "pagers" "[LWakingPagers$Pager;" ∈ zT := zt_m1 107 rfl rfl
theorem zx_109 : Cond.lays RWP "WakingPagers" "pagerCount" "I" ∈ zT := zt_m1 109 rfl rfl
theorem zx_111 : Cond.laysFinal RWP "WakingPagers" "messages" "[LWakingPagers$Message;" ∈ zT := zt_m1 111 rfl rfl
theorem zx_113 : Cond.lays RWP "WakingPagers" "messageCount" "I" ∈ zT := zt_m1 113 rfl rfl
theorem zx_115 : Cond.lays RWP "WakingPagers" "waitingCount" "I" ∈ zT := zt_m1 115 rfl rfl
theorem zx_117 : Cond.laysFinal RWP "WakingPagers" "loaded" "[I" ∈ zT := zt_m1 117 rfl rfl
theorem zx_119 : Cond.lays RWP "WakingPagers" "loadedCount" "I" ∈ zT := zt_m1 119 rfl rfl
theorem zx_121 : Cond.laysFinal RWP "WakingPagers" "layout" "LWakingPagers$Layout;" ∈ zT := zt_m1 121 rfl rfl
theorem zx_123 : Cond.laysFinal RWP "WakingPagers" "air" "LWakingPagers$Air;" ∈ zT := zt_m1 123 rfl rfl
theorem zx_125 : Cond.laysFinal RWP "WakingPagers" "listener" "LWakingPagers$Listener;" ∈ zT := zt_m1 125 rfl rfl
theorem zx_128 : Cond.methodLink "WakingPagersLaw" 13 yWP_code ∈ zT := zt_m1 128 rfl rfl
theorem zx_129 : Cond.instanceMethod yWP_code ∈ zT := zt_m1 129 rfl rfl
theorem zx_130 : Cond.selects RWP yWP_code yWP_code ∈ zT := zt_m1 130 rfl rfl
theorem zx_131 : Cond.code yWP_code cWP_code 2 (some .int) ∈ zT := zt_m1 131 rfl rfl
theorem zx_132 : Jvm.Cond.constant RWP 68 (2097152 : Int32) ∈ zT := zt_m1 132 rfl rfl
theorem zx_133 : Cond.methodLink RWP 69 yWP_codewordOf ∈ zT := zt_m1 133 rfl rfl
theorem zx_134 : Cond.static yWP_codewordOf ∈ zT := zt_m1 134 rfl rfl
theorem zx_135 : Cond.code yWP_codewordOf cWP_codewordOf 3 (some .int) ∈ zT := zt_m1 135 rfl rfl
theorem zx_136 : Cond.methodLink RWP 229 yRp_remainder ∈ zT := zt_m1 136 rfl rfl
theorem zx_137 : Cond.static yRp_remainder ∈ zT := zt_m1 137 rfl rfl
theorem zx_138 : Cond.code yRp_remainder cRp_remainder 3 (some .int) ∈ zT := zt_m1 138 rfl rfl
theorem zx_139 : Cond.methodLink RWP 232 yIn_bitCount ∈ zT := zt_m1 139 rfl rfl
theorem zx_140 : Cond.static yIn_bitCount ∈ zT := zt_m1 140 rfl rfl
theorem zx_141 : Cond.code yIn_bitCount cIn_bitCount 1 (some .int) ∈ zT := zt_m1 141 rfl rfl
theorem zx_142 : Jvm.Cond.constant "java/lang/Integer" 265 (1431655765 : Int32) ∈ zT := zt_m1 142 rfl rfl
theorem zx_143 : Jvm.Cond.constant "java/lang/Integer" 266 (858993459 : Int32) ∈ zT := zt_m1 143 rfl rfl
theorem zx_144 : Jvm.Cond.constant "java/lang/Integer" 267 (252645135 : Int32) ∈ zT := zt_m1 144 rfl rfl
theorem zx_145 : Cond.methodLink "WakingPagersLaw" 18 yWP_repair ∈ zT := zt_m1 145 rfl rfl
theorem zx_146 : Cond.instanceMethod yWP_repair ∈ zT := zt_m1 146 rfl rfl
theorem zx_147 : Cond.selects RWP yWP_repair yWP_repair ∈ zT := zt_m1 147 rfl rfl
theorem zx_148 : Cond.code yWP_repair cWP_repair 3 (some .int) ∈ zT := zt_m1 148 rfl rfl
theorem zx_149 : Cond.methodLink RWP 73 yRp_wrongBits ∈ zT := zt_m1 149 rfl rfl
theorem zx_150 : Cond.static yRp_wrongBits ∈ zT := zt_m1 150 rfl rfl
theorem zx_151 : Cond.code yRp_wrongBits cRp_wrongBits 2 (some .int) ∈ zT := zt_m1 151 rfl rfl
theorem zx_152 : Cond.methodLink "WakingPagers$Repairer" 20 yRp_traceOf ∈ zT := zt_m1 152 rfl rfl
theorem zx_153 : Cond.static yRp_traceOf ∈ zT := zt_m1 153 rfl rfl
theorem zx_154 : Cond.code yRp_traceOf cRp_traceOf 1 (some .int) ∈ zT := zt_m1 154 rfl rfl
theorem zx_155 : Cond.methodLink "WakingPagers$Repairer" 11 yRp_remainder ∈ zT := zt_m1 155 rfl rfl
theorem zx_156 : Cond.methodLink "WakingPagers$Repairer" 15 yIn_bitCount ∈ zT := zt_m1 156 rfl rfl
theorem zx_157 : Cond.methodLink "WakingPagers$Repairer" 23 yRp_oneWrongBit ∈ zT := zt_m1 157 rfl rfl
theorem zx_158 : Cond.static yRp_oneWrongBit ∈ zT := zt_m1 158 rfl rfl
theorem zx_159 : Cond.code yRp_oneWrongBit cRp_oneWrongBit 2 (some .int) ∈ zT := zt_m1 159 rfl rfl
theorem zx_160 : Cond.fieldLink "WakingPagers$Repairer" 29 "WakingPagers$Repairer" "TRACES" "[I" ∈ zT := zt_m1 160 rfl rfl
theorem zx_162 : Cond.methodLink "WakingPagers$Repairer" 26 yRp_twoWrongBits ∈ zT := zt_m1 162 rfl rfl
theorem zx_163 : Cond.static yRp_twoWrongBits ∈ zT := zt_m1 163 rfl rfl
theorem zx_164 : Cond.code yRp_twoWrongBits cRp_twoWrongBits 3 (some .int) ∈ zT := zt_m1 164 rfl rfl
theorem zx_165 : Cond.methodLink "WakingPagersLaw" 22 yWP_identity ∈ zT := zt_m1 165 rfl rfl
theorem zx_166 : Cond.instanceMethod yWP_identity ∈ zT := zt_m1 166 rfl rfl
theorem zx_167 : Cond.selects RWP yWP_identity yWP_identity ∈ zT := zt_m1 167 rfl rfl
theorem zx_168 : Cond.code yWP_identity cWP_identity 3 (some .int) ∈ zT := zt_m1 168 rfl rfl
theorem zx_169 : Jvm.Cond.constant RWP 78 (250958 : Int32) ∈ zT := zt_m1 169 rfl rfl
theorem zx_170 : Cond.methodLink RWP 79 yWP_isAddressUsed ∈ zT := zt_m1 170 rfl rfl
theorem zx_172 : Cond.instanceMethod yWP_isAddressUsed ∈ zT := zt_m1 172 rfl rfl
theorem zx_173 : Cond.code yWP_isAddressUsed cWP_isAddressUsed 3 (some .boolean) ∈ zT := zt_m1 173 rfl rfl
theorem zx_174 : Cond.instantiable RId 11 ∈ zT := zt_m1 174 rfl rfl
theorem zx_175 : Cond.methodLink RWP 83 yId_init ∈ zT := zt_m1 175 rfl rfl
theorem zx_176 : Cond.instanceMethod yId_init ∈ zT := zt_m1 176 rfl rfl
theorem zx_177 : Cond.code yId_init cId_init 4 none ∈ zT := zt_m1 177 rfl rfl
theorem zx_178 : Cond.methodLink RId 3 objectInit ∈ zT := zt_m1 178 rfl rfl
theorem zx_180 : Cond.fieldLink RId 18 "WakingPagers$Identity" "index" "I" ∈ zT := zt_m1 180 rfl rfl
theorem zx_181 : Cond.fieldLink RPg 44 "WakingPagers$Identity" "index" "I" ∈ zT := zt_m1 181 rfl rfl
theorem zx_182 : Cond.fieldLink RLs 152 "WakingPagers$Identity" "index" "I" ∈ zT := zt_m1 182 rfl rfl
theorem zx_183 : Cond.fieldLink RId 21 "WakingPagers$Identity" "address" "I" ∈ zT := zt_m1 183 rfl rfl
theorem zx_184 : Cond.fieldLink RWP 204 "WakingPagers$Identity" "address" "I" ∈ zT := zt_m1 184 rfl rfl
theorem zx_185 : Cond.fieldLink RId 24 "WakingPagers$Identity" "isText" "Z" ∈ zT := zt_m1 185 rfl rfl
theorem zx_186 : Cond.fieldLink RId 28 "WakingPagers$Identity" "frame" "I" ∈ zT := zt_m1 186 rfl rfl
theorem zx_187 : Cond.fieldLink RPg 60 "WakingPagers$Identity" "frame" "I" ∈ zT := zt_m1 187 rfl rfl
theorem zx_188 : Cond.fieldLink RLy 50 "WakingPagers$Identity" "frame" "I" ∈ zT := zt_m1 188 rfl rfl
theorem zx_189 : Cond.fieldLink RId 35 "WakingPagers$Identity" "addressWord" "I" ∈ zT := zt_m1 189 rfl rfl
theorem zx_190 : Cond.fieldLink RMs 46 "WakingPagers$Identity" "addressWord" "I" ∈ zT := zt_m1 190 rfl rfl
theorem zx_191 : Cond.fieldLink RPg 63 "WakingPagers$Identity" "addressWord" "I" ∈ zT := zt_m1 191 rfl rfl
theorem zx_192 : Cond.fieldLink RId 38 "WakingPagers$Identity" "leastSign" "I" ∈ zT := zt_m1 192 rfl rfl
theorem zx_193 : Cond.fieldLink RWP 207 "WakingPagers$Identity" "leastSign" "I" ∈ zT := zt_m1 193 rfl rfl
theorem zx_194 : Cond.fieldLink RId 41 "WakingPagers$Identity" "greatestSign" "I" ∈ zT := zt_m1 194 rfl rfl
theorem zx_195 : Cond.fieldLink RWP 210 "WakingPagers$Identity" "greatestSign" "I" ∈ zT := zt_m1 195 rfl rfl
theorem zx_196 : Cond.fieldLink RId 44 "WakingPagers$Identity" "signBits" "I" ∈ zT := zt_m1 196 rfl rfl
theorem zx_197 : Cond.fieldLink RMs 43 "WakingPagers$Identity" "signBits" "I" ∈ zT := zt_m1 197 rfl rfl
theorem zx_198 : Cond.fieldLink RLs 119 "WakingPagers$Identity" "signBits" "I" ∈ zT := zt_m1 198 rfl rfl
theorem zx_199 : Cond.fieldLink RId 47 "WakingPagers$Identity" "filler" "I" ∈ zT := zt_m1 199 rfl rfl
theorem zx_200 : Cond.fieldLink RMs 62 "WakingPagers$Identity" "filler" "I" ∈ zT := zt_m1 200 rfl rfl
theorem zx_201 : Cond.fieldLink RLs 145 "WakingPagers$Identity" "filler" "I" ∈ zT := zt_m1 201 rfl rfl
theorem zx_202 : Cond.fieldLink RId 9 "WakingPagers$Identity" "called" "I" ∈ zT := zt_m1 202 rfl rfl
theorem zx_203 : Cond.fieldLink RWP 109 "WakingPagers$Identity" "called" "I" ∈ zT := zt_m1 203 rfl rfl
theorem zx_204 : Cond.fieldLink RId 15 "WakingPagers$Identity" "nextPlace" "I" ∈ zT := zt_m1 204 rfl rfl
theorem zx_205 : Cond.fieldLink RLy 35 "WakingPagers$Identity" "nextPlace" "I" ∈ zT := zt_m1 205 rfl rfl
theorem zx_206 : Cond.fieldLink RWP 216 "WakingPagers$Identity" "nextPlace" "I" ∈ zT := zt_m1 206 rfl rfl
theorem zx_207 : Cond.laysFinal RId "WakingPagers$Identity" "index" "I" ∈ zT := zt_m1 207 rfl rfl
theorem zx_209 : Cond.laysFinal RId "WakingPagers$Identity" "address" "I" ∈ zT := zt_m1 209 rfl rfl
theorem zx_211 : Cond.laysFinal RId "WakingPagers$Identity" "isText" "Z" ∈ zT := zt_m1 211 rfl rfl
theorem zx_213 : Cond.laysFinal RId "WakingPagers$Identity" "frame" "I" ∈ zT := zt_m1 213 rfl rfl
theorem zx_215 : Cond.laysFinal RId "WakingPagers$Identity" "addressWord" "I" ∈ zT := zt_m1 215 rfl rfl
theorem zx_217 : Cond.laysFinal RId "WakingPagers$Identity" "leastSign" "I" ∈ zT := zt_m1 217 rfl rfl
theorem zx_219 : Cond.laysFinal RId "WakingPagers$Identity" "greatestSign" "I" ∈ zT := zt_m1 219 rfl rfl
theorem zx_221 : Cond.laysFinal RId "WakingPagers$Identity" "signBits" "I" ∈ zT := zt_m1 221 rfl rfl
theorem zx_223 : Cond.laysFinal RId "WakingPagers$Identity" "filler" "I" ∈ zT := zt_m1 223 rfl rfl
theorem zx_225 : Cond.lays RId "WakingPagers$Identity" "called" "I" ∈ zT := zt_m1 225 rfl rfl
theorem zx_227 : Cond.lays RId "WakingPagers$Identity" "nextPlace" "I" ∈ zT := zt_m1 227 rfl rfl
theorem zx_230 : Cond.methodLink "WakingPagersLaw" 27 yWP_pager ∈ zT := zt_m1 230 rfl rfl
theorem zx_231 : Cond.instanceMethod yWP_pager ∈ zT := zt_m1 231 rfl rfl
theorem zx_232 : Cond.selects RWP yWP_pager yWP_pager ∈ zT := zt_m1 232 rfl rfl
theorem zx_233 : Cond.code yWP_pager cWP_pager 1 (some .int) ∈ zT := zt_m1 233 rfl rfl
theorem zx_234 : Cond.instantiable RPg 9 ∈ zT := zt_m1 234 rfl rfl
theorem zx_235 : Cond.methodLink RWP 86 yPg_init ∈ zT := zt_m1 235 rfl rfl
theorem zx_236 : Cond.instanceMethod yPg_init ∈ zT := zt_m1 236 rfl rfl
theorem zx_237 : Cond.code yPg_init cPg_init 2 none ∈ zT := zt_m1 237 rfl rfl
theorem zx_238 : Cond.methodLink RPg 1 objectInit ∈ zT := zt_m1 238 rfl rfl
theorem zx_239 : Cond.classLink RPg 9 RHd ∈ zT := zt_m1 239 rfl rfl
theorem zx_241 : Cond.classLink RPg 19 RSd ∈ zT := zt_m2 1 rfl rfl
theorem zx_243 : Cond.instantiable RSd 5 ∈ zT := zt_m2 3 rfl rfl
theorem zx_245 : Cond.instanceMethod ySd_init ∈ zT := zt_m2 5 rfl rfl
theorem zx_246 : Cond.code ySd_init cSd_init 1 none ∈ zT := zt_m2 6 rfl rfl
theorem zx_247 : Cond.methodLink RSd 3 objectInit ∈ zT := zt_m2 7 rfl rfl
theorem zx_248 : Cond.fieldLink RSd 9 "WakingPagers$Stored" "identity" "I" ∈ zT := zt_m2 8 rfl rfl
theorem zx_249 : Cond.fieldLink RLs 155 "WakingPagers$Stored" "identity" "I" ∈ zT := zt_m2 9 rfl rfl
theorem zx_250 : Cond.fieldLink RWP 155 "WakingPagers$Stored" "identity" "I" ∈ zT := zt_m2 10 rfl rfl
theorem zx_251 : Cond.fieldLink RSd 15 "WakingPagers$Stored" "number" "I" ∈ zT := zt_m2 11 rfl rfl
theorem zx_252 : Cond.fieldLink RLs 159 "WakingPagers$Stored" "number" "I" ∈ zT := zt_m2 12 rfl rfl
theorem zx_253 : Cond.fieldLink RWP 160 "WakingPagers$Stored" "number" "I" ∈ zT := zt_m2 13 rfl rfl
theorem zx_254 : Cond.fieldLink RSd 18 "WakingPagers$Stored" "marked" "Z" ∈ zT := zt_m2 14 rfl rfl
theorem zx_255 : Cond.fieldLink RLs 162 "WakingPagers$Stored" "marked" "Z" ∈ zT := zt_m2 15 rfl rfl
theorem zx_256 : Cond.fieldLink RWP 166 "WakingPagers$Stored" "marked" "Z" ∈ zT := zt_m2 16 rfl rfl
theorem zx_257 : Cond.fieldLink RSd 22 "WakingPagers$Stored" "signs" "[I" ∈ zT := zt_m2 17 rfl rfl
theorem zx_258 : Cond.fieldLink RLs 167 "WakingPagers$Stored" "signs" "[I" ∈ zT := zt_m2 18 rfl rfl
theorem zx_259 : Cond.fieldLink RWP 170 "WakingPagers$Stored" "signs" "[I" ∈ zT := zt_m2 19 rfl rfl
theorem zx_260 : Cond.fieldLink RSd 26 "WakingPagers$Stored" "signCount" "I" ∈ zT := zt_m2 20 rfl rfl
theorem zx_261 : Cond.fieldLink RLs 166 "WakingPagers$Stored" "signCount" "I" ∈ zT := zt_m2 21 rfl rfl
theorem zx_262 : Cond.fieldLink RWP 163 "WakingPagers$Stored" "signCount" "I" ∈ zT := zt_m2 22 rfl rfl
theorem zx_263 : Cond.lays RSd "WakingPagers$Stored" "identity" "I" ∈ zT := zt_m2 23 rfl rfl
theorem zx_265 : Cond.lays RSd "WakingPagers$Stored" "number" "I" ∈ zT := zt_m2 25 rfl rfl
theorem zx_267 : Cond.lays RSd "WakingPagers$Stored" "marked" "Z" ∈ zT := zt_m2 27 rfl rfl
theorem zx_269 : Cond.laysFinal RSd "WakingPagers$Stored" "signs" "[I" ∈ zT := zt_m2 29 rfl rfl
theorem zx_271 : Cond.lays RSd "WakingPagers$Stored" "signCount" "I" ∈ zT := zt_m2 31 rfl rfl
theorem zx_274 : Cond.fieldLink RPg 11 "WakingPagers$Pager" "heard" "[LWakingPagers$Heard;" ∈ zT := zt_m2 34 rfl rfl
theorem zx_275 : Cond.fieldLink RPg 15 "WakingPagers$Pager" "heardCount" "I" ∈ zT := zt_m2 35 rfl rfl
theorem zx_276 : Cond.fieldLink RWP 99 "WakingPagers$Pager" "heardCount" "I" ∈ zT := zt_m2 36 rfl rfl
theorem zx_277 : Cond.fieldLink RPg 21 "WakingPagers$Pager" "ring" "[LWakingPagers$Stored;" ∈ zT := zt_m2 37 rfl rfl
theorem zx_278 : Cond.fieldLink RPg 25 "WakingPagers$Pager" "oldest" "I" ∈ zT := zt_m2 38 rfl rfl
theorem zx_279 : Cond.fieldLink RPg 28 "WakingPagers$Pager" "storedCount" "I" ∈ zT := zt_m2 39 rfl rfl
theorem zx_280 : Cond.fieldLink RWP 148 "WakingPagers$Pager" "storedCount" "I" ∈ zT := zt_m2 40 rfl rfl
theorem zx_281 : Cond.fieldLink RPg 31 "WakingPagers$Pager" "bitsAwake" "I" ∈ zT := zt_m2 41 rfl rfl
theorem zx_282 : Cond.fieldLink RLs 66 "WakingPagers$Pager" "bitsAwake" "I" ∈ zT := zt_m2 42 rfl rfl
theorem zx_283 : Cond.fieldLink RWP 183 "WakingPagers$Pager" "bitsAwake" "I" ∈ zT := zt_m2 43 rfl rfl
theorem zx_284 : Cond.fieldLink RPg 34 "WakingPagers$Pager" "bitsRepaired" "I" ∈ zT := zt_m2 44 rfl rfl
theorem zx_285 : Cond.fieldLink RLs 92 "WakingPagers$Pager" "bitsRepaired" "I" ∈ zT := zt_m2 45 rfl rfl
theorem zx_286 : Cond.fieldLink RWP 186 "WakingPagers$Pager" "bitsRepaired" "I" ∈ zT := zt_m2 46 rfl rfl
theorem zx_287 : Cond.fieldLink RPg 37 "WakingPagers$Pager" "wordsBroken" "I" ∈ zT := zt_m2 47 rfl rfl
theorem zx_288 : Cond.fieldLink RLs 89 "WakingPagers$Pager" "wordsBroken" "I" ∈ zT := zt_m2 48 rfl rfl
theorem zx_289 : Cond.fieldLink RWP 189 "WakingPagers$Pager" "wordsBroken" "I" ∈ zT := zt_m2 49 rfl rfl
theorem zx_290 : Cond.fieldLink RPg 40 "WakingPagers$Pager" "messagesLost" "I" ∈ zT := zt_m2 50 rfl rfl
theorem zx_291 : Cond.fieldLink RLs 131 "WakingPagers$Pager" "messagesLost" "I" ∈ zT := zt_m2 51 rfl rfl
theorem zx_292 : Cond.fieldLink RWP 192 "WakingPagers$Pager" "messagesLost" "I" ∈ zT := zt_m2 52 rfl rfl
theorem zx_293 : Cond.laysFinal RPg "WakingPagers$Pager" "heard" "[LWakingPagers$Heard;" ∈ zT := zt_m2 53 rfl rfl
theorem zx_295 : Cond.lays RPg "WakingPagers$Pager" "heardCount" "I" ∈ zT := zt_m2 55 rfl rfl
theorem zx_297 : Cond.laysFinal RPg "WakingPagers$Pager" "ring" "[LWakingPagers$Stored;" ∈ zT := zt_m2 57 rfl rfl
theorem zx_299 : Cond.lays RPg "WakingPagers$Pager" "oldest" "I" ∈ zT := zt_m2 59 rfl rfl
theorem zx_301 : Cond.lays RPg "WakingPagers$Pager" "storedCount" "I" ∈ zT := zt_m2 61 rfl rfl
theorem zx_303 : Cond.lays RPg "WakingPagers$Pager" "bitsAwake" "I" ∈ zT := zt_m2 63 rfl rfl
theorem zx_305 : Cond.lays RPg "WakingPagers$Pager" "bitsRepaired" "I" ∈ zT := zt_m2 65 rfl rfl
theorem zx_307 : Cond.lays RPg "WakingPagers$Pager" "wordsBroken" "I" ∈ zT := zt_m2 67 rfl rfl
theorem zx_309 : Cond.lays RPg "WakingPagers$Pager" "messagesLost" "I" ∈ zT := zt_m2 69 rfl rfl
theorem zx_312 : Cond.methodLink "WakingPagersLaw" 32 yWP_join ∈ zT := zt_m2 72 rfl rfl
theorem zx_313 : Cond.instanceMethod yWP_join ∈ zT := zt_m2 73 rfl rfl
theorem zx_314 : Cond.selects RWP yWP_join yWP_join ∈ zT := zt_m2 74 rfl rfl
theorem zx_315 : Cond.code yWP_join cWP_join 5 (some .int) ∈ zT := zt_m2 75 rfl rfl
theorem zx_316 : Cond.methodLink RWP 87 yWP_pagerAt ∈ zT := zt_m2 76 rfl rfl
theorem zx_318 : Cond.instanceMethod yWP_pagerAt ∈ zT := zt_m2 78 rfl rfl
theorem zx_319 : Cond.code yWP_pagerAt cWP_pagerAt 2 (some (.object "WakingPagers$Pager")) ∈ zT := zt_m2 79 rfl rfl
theorem zx_320 : Cond.methodLink RWP 91 yWP_identityAt ∈ zT := zt_m2 80 rfl rfl
theorem zx_322 : Cond.instanceMethod yWP_identityAt ∈ zT := zt_m2 82 rfl rfl
theorem zx_323 : Cond.code yWP_identityAt cWP_identityAt 2 (some (.object "WakingPagers$Identity")) ∈ zT := zt_m2 83 rfl rfl
theorem zx_324 : Cond.methodLink RWP 95 yPg_addHeard ∈ zT := zt_m2 84 rfl rfl
theorem zx_325 : Cond.instanceMethod yPg_addHeard ∈ zT := zt_m2 85 rfl rfl
theorem zx_326 : Cond.selects RPg yPg_addHeard yPg_addHeard ∈ zT := zt_m2 86 rfl rfl
theorem zx_327 : Cond.code yPg_addHeard cPg_addHeard 2 (some .boolean) ∈ zT := zt_m2 87 rfl rfl
theorem zx_328 : Cond.methodLink RPg 49 yPg_heardOf ∈ zT := zt_m2 88 rfl rfl
theorem zx_329 : Cond.instanceMethod yPg_heardOf ∈ zT := zt_m2 89 rfl rfl
theorem zx_330 : Cond.selects RPg yPg_heardOf yPg_heardOf ∈ zT := zt_m2 90 rfl rfl
theorem zx_331 : Cond.code yPg_heardOf cPg_heardOf 3 (some (.object "WakingPagers$Heard")) ∈ zT := zt_m2 91 rfl rfl
theorem zx_332 : Cond.instantiable RHd 3 ∈ zT := zt_m2 92 rfl rfl
theorem zx_333 : Cond.methodLink RPg 53 yHd_init ∈ zT := zt_m2 93 rfl rfl
theorem zx_334 : Cond.instanceMethod yHd_init ∈ zT := zt_m2 94 rfl rfl
theorem zx_335 : Cond.code yHd_init cHd_init 2 none ∈ zT := zt_m2 95 rfl rfl
theorem zx_336 : Cond.methodLink RHd 3 objectInit ∈ zT := zt_m2 96 rfl rfl
theorem zx_337 : Cond.fieldLink RHd 19 "WakingPagers$Heard" "identity" "LWakingPagers$Identity;" ∈ zT := zt_m2 97 rfl rfl
theorem zx_338 : Cond.fieldLink RPg 56 "WakingPagers$Heard" "identity" "LWakingPagers$Identity;" ∈ zT := zt_m2 98 rfl rfl
theorem zx_339 : Cond.fieldLink RLs 113 "WakingPagers$Heard" "identity" "LWakingPagers$Identity;" ∈ zT := zt_m2 99 rfl rfl
theorem zx_340 : Cond.fieldLink RHd 9 "WakingPagers$Heard" "gaps" "J" ∈ zT := zt_m2 100 rfl rfl
theorem zx_341 : Cond.fieldLink RWP 177 "WakingPagers$Heard" "gaps" "J" ∈ zT := zt_m2 101 rfl rfl
theorem zx_342 : Cond.fieldLink RHd 15 "WakingPagers$Heard" "latest" "I" ∈ zT := zt_m2 102 rfl rfl
theorem zx_343 : Cond.laysFinal RHd "WakingPagers$Heard" "identity" "LWakingPagers$Identity;" ∈ zT := zt_m2 103 rfl rfl
theorem zx_345 : Cond.lays RHd "WakingPagers$Heard" "gaps" "J" ∈ zT := zt_m2 105 rfl rfl
theorem zx_347 : Cond.lays RHd "WakingPagers$Heard" "latest" "I" ∈ zT := zt_m2 107 rfl rfl
theorem zx_350 : Cond.methodLink "WakingPagersLaw" 38 yWP_load ∈ zT := zt_m2 110 rfl rfl
theorem zx_351 : Cond.instanceMethod yWP_load ∈ zT := zt_m2 111 rfl rfl
theorem zx_352 : Cond.selects RWP yWP_load yWP_load ∈ zT := zt_m2 112 rfl rfl
theorem zx_353 : Cond.code yWP_load cWP_load 5 (some .int) ∈ zT := zt_m2 113 rfl rfl
theorem zx_354 : Cond.methodLink RWP 102 yWP_byteOf ∈ zT := zt_m2 114 rfl rfl
theorem zx_355 : Cond.static yWP_byteOf ∈ zT := zt_m2 115 rfl rfl
theorem zx_356 : Cond.code yWP_byteOf cWP_byteOf 3 (some .int) ∈ zT := zt_m2 116 rfl rfl
theorem zx_357 : Cond.methodLink "WakingPagersLaw" 43 yWP_unload ∈ zT := zt_m2 117 rfl rfl
theorem zx_358 : Cond.instanceMethod yWP_unload ∈ zT := zt_m2 118 rfl rfl
theorem zx_359 : Cond.selects RWP yWP_unload yWP_unload ∈ zT := zt_m2 119 rfl rfl
theorem zx_360 : Cond.code yWP_unload cWP_unload 2 (some .int) ∈ zT := zt_m2 120 rfl rfl
theorem zx_361 : Cond.methodLink "WakingPagersLaw" 47 yWP_call ∈ zT := zt_m2 121 rfl rfl
theorem zx_362 : Cond.instanceMethod yWP_call ∈ zT := zt_m2 122 rfl rfl
theorem zx_363 : Cond.selects RWP yWP_call yWP_call ∈ zT := zt_m2 123 rfl rfl
theorem zx_364 : Cond.code yWP_call cWP_call 5 (some .int) ∈ zT := zt_m2 124 rfl rfl
theorem zx_365 : Cond.methodLink RWP 106 yWP_areLoadedSignsOf ∈ zT := zt_m2 125 rfl rfl
theorem zx_367 : Cond.instanceMethod yWP_areLoadedSignsOf ∈ zT := zt_m2 127 rfl rfl
theorem zx_368 : Cond.code yWP_areLoadedSignsOf cWP_areLoadedSignsOf 3 (some .boolean) ∈ zT := zt_m2 128 rfl rfl
theorem zx_369 : Cond.instantiable RMs 6 ∈ zT := zt_m2 129 rfl rfl
theorem zx_370 : Cond.methodLink RWP 112 yAr_copyOf ∈ zT := zt_m2 130 rfl rfl
theorem zx_371 : Cond.static yAr_copyOf ∈ zT := zt_m2 131 rfl rfl
theorem zx_372 : Cond.code yAr_copyOf cAr_copyOf 3 (some (.array .int)) ∈ zT := zt_m2 132 rfl rfl
theorem zx_373 : Cond.methodLink "java/util/Arrays" 316 ⟨"[I", "clone", "()Ljava/lang/Object;"⟩ ∈ zT := zt_m2 133 rfl rfl
theorem zx_375 : Cond.native ⟨"java/lang/Object", "clone", "()Ljava/lang/Object;"⟩ ∈ zT := zt_m2 135 rfl rfl
theorem zx_376 : Cond.instanceMethod ⟨"java/lang/Object", "clone", "()Ljava/lang/Object;"⟩ ∈ zT := zt_m2 136 rfl rfl
theorem zx_377 : Cond.selects "[I" ⟨"[I", "clone", "()Ljava/lang/Object;"⟩ ⟨"java/lang/Object", "clone", "()Ljava/lang/Object;"⟩ ∈ zT := zt_m2 137 rfl rfl
theorem zx_379 : Cond.classLink "java/util/Arrays" 317 "[I" ∈ zT := zt_m2 139 rfl rfl
theorem zx_380 : Cond.methodLink "java/util/Arrays" 304 yMa_min ∈ zT := zt_m2 140 rfl rfl
theorem zx_381 : Cond.static yMa_min ∈ zT := zt_m2 141 rfl rfl
theorem zx_382 : Cond.code yMa_min cMa_min 2 (some .int) ∈ zT := zt_m2 142 rfl rfl
theorem zx_383 : Cond.methodLink "java/util/Arrays" 150 ⟨"java/lang/System", "arraycopy", "(Ljava/lang/Object;ILjava/lang/Object;II)V"⟩ ∈ zT := zt_m2 143 rfl rfl
theorem zx_384 : Cond.static ⟨"java/lang/System", "arraycopy", "(Ljava/lang/Object;ILjava/lang/Object;II)V"⟩ ∈ zT := zt_m2 144 rfl rfl
theorem zx_385 : Cond.native ⟨"java/lang/System", "arraycopy", "(Ljava/lang/Object;ILjava/lang/Object;II)V"⟩ ∈ zT := zt_m2 145 rfl rfl
theorem zx_386 : Cond.methodLink RWP 118 yMs_init ∈ zT := zt_m2 146 rfl rfl
theorem zx_387 : Cond.instanceMethod yMs_init ∈ zT := zt_m2 147 rfl rfl
theorem zx_388 : Cond.code yMs_init cMs_init 5 none ∈ zT := zt_m2 148 rfl rfl
theorem zx_389 : Cond.methodLink RMs 3 objectInit ∈ zT := zt_m2 149 rfl rfl
theorem zx_390 : Cond.methodLink RMs 30 yMs_wordsOf ∈ zT := zt_m2 150 rfl rfl
theorem zx_391 : Cond.static yMs_wordsOf ∈ zT := zt_m2 151 rfl rfl
theorem zx_392 : Cond.code yMs_wordsOf cMs_wordsOf 10 (some (.array .int)) ∈ zT := zt_m2 152 rfl rfl
theorem zx_393 : Cond.methodLink RMs 37 yId_numberSigns ∈ zT := zt_m2 153 rfl rfl
theorem zx_394 : Cond.instanceMethod yId_numberSigns ∈ zT := zt_m2 154 rfl rfl
theorem zx_395 : Cond.selects RId yId_numberSigns yId_numberSigns ∈ zT := zt_m2 155 rfl rfl
theorem zx_396 : Cond.code yId_numberSigns cId_numberSigns 1 (some .int) ∈ zT := zt_m2 156 rfl rfl
theorem zx_397 : Cond.methodLink RMs 49 yMs_sentSign ∈ zT := zt_m2 157 rfl rfl
theorem zx_398 : Cond.static yMs_sentSign ∈ zT := zt_m2 158 rfl rfl
theorem zx_399 : Cond.code yMs_sentSign cMs_sentSign 5 (some .int) ∈ zT := zt_m2 159 rfl rfl
theorem zx_400 : Cond.methodLink RMs 58 yId_numberSign ∈ zT := zt_m2 160 rfl rfl
theorem zx_401 : Cond.instanceMethod yId_numberSign ∈ zT := zt_m2 161 rfl rfl
theorem zx_402 : Cond.selects RId yId_numberSign yId_numberSign ∈ zT := zt_m2 162 rfl rfl
theorem zx_403 : Cond.code yId_numberSign cId_numberSign 3 (some .int) ∈ zT := zt_m2 163 rfl rfl
theorem zx_404 : Jvm.Cond.constant RMs 53 (1048576 : Int32) ∈ zT := zt_m2 164 rfl rfl
theorem zx_406 : Cond.fieldLink RMs 15 "WakingPagers$Message" "to" "LWakingPagers$Identity;" ∈ zT := zt_m2 166 rfl rfl
theorem zx_407 : Cond.fieldLink RLy 26 "WakingPagers$Message" "to" "LWakingPagers$Identity;" ∈ zT := zt_m2 167 rfl rfl
theorem zx_408 : Cond.fieldLink RWP 195 "WakingPagers$Message" "to" "LWakingPagers$Identity;" ∈ zT := zt_m2 168 rfl rfl
theorem zx_409 : Cond.fieldLink RMs 19 "WakingPagers$Message" "priority" "I" ∈ zT := zt_m2 169 rfl rfl
theorem zx_410 : Cond.fieldLink RWP 222 "WakingPagers$Message" "priority" "I" ∈ zT := zt_m2 170 rfl rfl
theorem zx_411 : Cond.fieldLink RMs 23 "WakingPagers$Message" "number" "I" ∈ zT := zt_m2 171 rfl rfl
theorem zx_412 : Cond.fieldLink RWP 199 "WakingPagers$Message" "number" "I" ∈ zT := zt_m2 172 rfl rfl
theorem zx_413 : Cond.fieldLink RMs 26 "WakingPagers$Message" "signs" "[I" ∈ zT := zt_m2 173 rfl rfl
theorem zx_414 : Cond.fieldLink RWP 200 "WakingPagers$Message" "signs" "[I" ∈ zT := zt_m2 174 rfl rfl
theorem zx_415 : Cond.fieldLink RMs 34 "WakingPagers$Message" "words" "[I" ∈ zT := zt_m2 175 rfl rfl
theorem zx_416 : Cond.fieldLink RLy 32 "WakingPagers$Message" "words" "[I" ∈ zT := zt_m2 176 rfl rfl
theorem zx_417 : Cond.fieldLink RMs 9 "WakingPagers$Message" "waits" "Z" ∈ zT := zt_m2 177 rfl rfl
theorem zx_418 : Cond.fieldLink RWP 219 "WakingPagers$Message" "waits" "Z" ∈ zT := zt_m2 178 rfl rfl
theorem zx_419 : Cond.laysFinal RMs "WakingPagers$Message" "to" "LWakingPagers$Identity;" ∈ zT := zt_m2 179 rfl rfl
theorem zx_421 : Cond.laysFinal RMs "WakingPagers$Message" "priority" "I" ∈ zT := zt_m2 181 rfl rfl
theorem zx_423 : Cond.laysFinal RMs "WakingPagers$Message" "number" "I" ∈ zT := zt_m2 183 rfl rfl
theorem zx_425 : Cond.laysFinal RMs "WakingPagers$Message" "signs" "[I" ∈ zT := zt_m2 185 rfl rfl
theorem zx_427 : Cond.laysFinal RMs "WakingPagers$Message" "words" "[I" ∈ zT := zt_m2 187 rfl rfl
theorem zx_429 : Cond.lays RMs "WakingPagers$Message" "waits" "Z" ∈ zT := zt_m2 189 rfl rfl
theorem zx_432 : Cond.methodLink "WakingPagersLaw" 51 yWP_waiting ∈ zT := zt_m2 192 rfl rfl
theorem zx_433 : Cond.instanceMethod yWP_waiting ∈ zT := zt_m2 193 rfl rfl
theorem zx_434 : Cond.selects RWP yWP_waiting yWP_waiting ∈ zT := zt_m2 194 rfl rfl
theorem zx_435 : Cond.code yWP_waiting cWP_waiting 1 (some .int) ∈ zT := zt_m2 195 rfl rfl
theorem zx_436 : Cond.methodLink "WakingPagersLaw" 55 yWP_transmit ∈ zT := zt_m2 196 rfl rfl
theorem zx_437 : Cond.instanceMethod yWP_transmit ∈ zT := zt_m2 197 rfl rfl
theorem zx_438 : Cond.selects RWP yWP_transmit yWP_transmit ∈ zT := zt_m2 198 rfl rfl
theorem zx_439 : Cond.code yWP_transmit cWP_transmit 2 (some .int) ∈ zT := zt_m2 199 rfl rfl
theorem zx_440 : Cond.methodLink RWP 121 yWP_layMessages ∈ zT := zt_m2 200 rfl rfl
theorem zx_442 : Cond.instanceMethod yWP_layMessages ∈ zT := zt_m2 202 rfl rfl
theorem zx_443 : Cond.code yWP_layMessages cWP_layMessages 5 none ∈ zT := zt_m2 203 rfl rfl
theorem zx_444 : Cond.methodLink RWP 213 yLy_clear ∈ zT := zt_m2 204 rfl rfl
theorem zx_445 : Cond.instanceMethod yLy_clear ∈ zT := zt_m2 205 rfl rfl
theorem zx_446 : Cond.selects RLy yLy_clear yLy_clear ∈ zT := zt_m2 206 rfl rfl
theorem zx_447 : Cond.code yLy_clear cLy_clear 2 none ∈ zT := zt_m2 207 rfl rfl
theorem zx_448 : Jvm.Cond.constant RLy 19 (2055848343 : Int32) ∈ zT := zt_m2 208 rfl rfl
theorem zx_449 : Cond.methodLink RLy 20 yAr_fill ∈ zT := zt_m2 209 rfl rfl
theorem zx_450 : Cond.static yAr_fill ∈ zT := zt_m2 210 rfl rfl
theorem zx_451 : Cond.code yAr_fill cAr_fill 4 none ∈ zT := zt_m2 211 rfl rfl
theorem zx_452 : Cond.methodLink RWP 225 yLy_lay ∈ zT := zt_m2 212 rfl rfl
theorem zx_453 : Cond.instanceMethod yLy_lay ∈ zT := zt_m2 213 rfl rfl
theorem zx_454 : Cond.selects RLy yLy_lay yLy_lay ∈ zT := zt_m2 214 rfl rfl
theorem zx_455 : Cond.code yLy_lay cLy_lay 5 (some .boolean) ∈ zT := zt_m2 215 rfl rfl
theorem zx_456 : Cond.methodLink RLy 40 yLy_findPlace ∈ zT := zt_m2 216 rfl rfl
theorem zx_458 : Cond.instanceMethod yLy_findPlace ∈ zT := zt_m2 218 rfl rfl
theorem zx_459 : Cond.code yLy_findPlace cLy_findPlace 4 (some .int) ∈ zT := zt_m2 219 rfl rfl
theorem zx_460 : Cond.methodLink RLy 53 yLy_areFree ∈ zT := zt_m2 220 rfl rfl
theorem zx_462 : Cond.instanceMethod yLy_areFree ∈ zT := zt_m2 222 rfl rfl
theorem zx_463 : Cond.code yLy_areFree cLy_areFree 4 (some .boolean) ∈ zT := zt_m2 223 rfl rfl
theorem zx_464 : Cond.methodLink RLy 44 ⟨"java/lang/System", "arraycopy", "(Ljava/lang/Object;ILjava/lang/Object;II)V"⟩ ∈ zT := zt_m2 224 rfl rfl
theorem zx_465 : Cond.methodLink RWP 128 yAi_send ∈ zT := zt_m2 225 rfl rfl
theorem zx_466 : Cond.instanceMethod yAi_send ∈ zT := zt_m2 226 rfl rfl
theorem zx_467 : Cond.selects RAi yAi_send yAi_send ∈ zT := zt_m2 227 rfl rfl
theorem zx_468 : Cond.code yAi_send cAi_send 5 none ∈ zT := zt_m2 228 rfl rfl
theorem zx_469 : Jvm.Cond.constant RAi 19 (-1431655766 : Int32) ∈ zT := zt_m2 229 rfl rfl
theorem zx_470 : Jvm.Cond.constant RAi 20 (2094142936 : Int32) ∈ zT := zt_m2 230 rfl rfl
theorem zx_471 : Cond.methodLink RAi 21 ⟨"java/lang/System", "arraycopy", "(Ljava/lang/Object;ILjava/lang/Object;II)V"⟩ ∈ zT := zt_m2 231 rfl rfl
theorem zx_472 : Cond.methodLink "WakingPagersLaw" 59 yWP_bit ∈ zT := zt_m2 232 rfl rfl
theorem zx_473 : Cond.instanceMethod yWP_bit ∈ zT := zt_m2 233 rfl rfl
theorem zx_474 : Cond.selects RWP yWP_bit yWP_bit ∈ zT := zt_m2 234 rfl rfl
theorem zx_475 : Cond.code yWP_bit cWP_bit 2 (some .int) ∈ zT := zt_m2 235 rfl rfl
theorem zx_476 : Cond.methodLink RWP 135 yAi_hasBit ∈ zT := zt_m2 236 rfl rfl
theorem zx_477 : Cond.instanceMethod yAi_hasBit ∈ zT := zt_m2 237 rfl rfl
theorem zx_478 : Cond.selects RAi yAi_hasBit yAi_hasBit ∈ zT := zt_m2 238 rfl rfl
theorem zx_479 : Cond.code yAi_hasBit cAi_hasBit 2 (some .boolean) ∈ zT := zt_m2 239 rfl rfl
theorem zx_480 : Cond.methodLink RWP 138 yAi_bitAt ∈ zT := zt_m3 0 rfl rfl
theorem zx_481 : Cond.instanceMethod yAi_bitAt ∈ zT := zt_m3 1 rfl rfl
theorem zx_482 : Cond.selects RAi yAi_bitAt yAi_bitAt ∈ zT := zt_m3 2 rfl rfl
theorem zx_483 : Cond.code yAi_bitAt cAi_bitAt 2 (some .int) ∈ zT := zt_m3 3 rfl rfl
theorem zx_484 : Cond.methodLink "WakingPagersLaw" 63 yWP_flip ∈ zT := zt_m3 4 rfl rfl
theorem zx_485 : Cond.instanceMethod yWP_flip ∈ zT := zt_m3 5 rfl rfl
theorem zx_486 : Cond.selects RWP yWP_flip yWP_flip ∈ zT := zt_m3 6 rfl rfl
theorem zx_487 : Cond.code yWP_flip cWP_flip 2 (some .int) ∈ zT := zt_m3 7 rfl rfl
theorem zx_488 : Cond.methodLink RWP 141 yAi_changeBit ∈ zT := zt_m3 8 rfl rfl
theorem zx_489 : Cond.instanceMethod yAi_changeBit ∈ zT := zt_m3 9 rfl rfl
theorem zx_490 : Cond.selects RAi yAi_changeBit yAi_changeBit ∈ zT := zt_m3 10 rfl rfl
theorem zx_491 : Cond.code yAi_changeBit cAi_changeBit 2 none ∈ zT := zt_m3 11 rfl rfl
theorem zx_492 : Cond.methodLink "WakingPagersLaw" 67 yWP_hear ∈ zT := zt_m3 12 rfl rfl
theorem zx_493 : Cond.instanceMethod yWP_hear ∈ zT := zt_m3 13 rfl rfl
theorem zx_494 : Cond.selects RWP yWP_hear yWP_hear ∈ zT := zt_m3 14 rfl rfl
theorem zx_495 : Cond.code yWP_hear cWP_hear 4 (some .int) ∈ zT := zt_m3 15 rfl rfl
theorem zx_496 : Cond.methodLink RWP 144 yLs_listen ∈ zT := zt_m3 16 rfl rfl
theorem zx_497 : Cond.instanceMethod yLs_listen ∈ zT := zt_m3 17 rfl rfl
theorem zx_498 : Cond.selects RLs yLs_listen yLs_listen ∈ zT := zt_m3 18 rfl rfl
theorem zx_499 : Cond.code yLs_listen cLs_listen 6 (some .int) ∈ zT := zt_m3 19 rfl rfl
theorem zx_500 : Cond.methodLink RLs 40 yLs_hunt ∈ zT := zt_m3 20 rfl rfl
theorem zx_502 : Cond.instanceMethod yLs_hunt ∈ zT := zt_m3 22 rfl rfl
theorem zx_503 : Cond.code yLs_hunt cLs_hunt 4 (some .int) ∈ zT := zt_m3 23 rfl rfl
theorem zx_504 : Cond.methodLink RLs 63 yAi_bitAt ∈ zT := zt_m3 24 rfl rfl
theorem zx_506 : Cond.static yWP_isSync ∈ zT := zt_m3 26 rfl rfl
theorem zx_507 : Cond.code yWP_isSync cWP_isSync 1 (some .boolean) ∈ zT := zt_m3 27 rfl rfl
theorem zx_508 : Jvm.Cond.constant RWP 236 (2094142936 : Int32) ∈ zT := zt_m3 28 rfl rfl
theorem zx_509 : Cond.methodLink RLs 46 yAi_hasWord ∈ zT := zt_m3 29 rfl rfl
theorem zx_510 : Cond.instanceMethod yAi_hasWord ∈ zT := zt_m3 30 rfl rfl
theorem zx_511 : Cond.selects RAi yAi_hasWord yAi_hasWord ∈ zT := zt_m3 31 rfl rfl
theorem zx_512 : Cond.code yAi_hasWord cAi_hasWord 2 (some .boolean) ∈ zT := zt_m3 32 rfl rfl
theorem zx_513 : Cond.methodLink RLs 50 yLs_takeBatch ∈ zT := zt_m3 33 rfl rfl
theorem zx_515 : Cond.instanceMethod yLs_takeBatch ∈ zT := zt_m3 35 rfl rfl
theorem zx_516 : Cond.code yLs_takeBatch cLs_takeBatch 5 (some .int) ∈ zT := zt_m3 36 rfl rfl
theorem zx_517 : Cond.methodLink RLs 74 yPg_hasFrame ∈ zT := zt_m3 37 rfl rfl
theorem zx_518 : Cond.instanceMethod yPg_hasFrame ∈ zT := zt_m3 38 rfl rfl
theorem zx_519 : Cond.selects RPg yPg_hasFrame yPg_hasFrame ∈ zT := zt_m3 39 rfl rfl
theorem zx_520 : Cond.code yPg_hasFrame cPg_hasFrame 3 (some .boolean) ∈ zT := zt_m3 40 rfl rfl
theorem zx_521 : Cond.methodLink RLs 77 yAi_wordAt ∈ zT := zt_m3 41 rfl rfl
theorem zx_522 : Cond.instanceMethod yAi_wordAt ∈ zT := zt_m3 42 rfl rfl
theorem zx_523 : Cond.selects RAi yAi_wordAt yAi_wordAt ∈ zT := zt_m3 43 rfl rfl
theorem zx_524 : Cond.code yAi_wordAt cAi_wordAt 4 (some .int) ∈ zT := zt_m3 44 rfl rfl
theorem zx_525 : Cond.methodLink RLs 80 yLs_takeWord ∈ zT := zt_m3 45 rfl rfl
theorem zx_527 : Cond.instanceMethod yLs_takeWord ∈ zT := zt_m3 47 rfl rfl
theorem zx_528 : Cond.code yLs_takeWord cLs_takeWord 5 none ∈ zT := zt_m3 48 rfl rfl
theorem zx_529 : Cond.methodLink RLs 84 yRp_wrongBits ∈ zT := zt_m3 49 rfl rfl
theorem zx_530 : Cond.methodLink RLs 56 yLs_endMessage ∈ zT := zt_m3 50 rfl rfl
theorem zx_532 : Cond.instanceMethod yLs_endMessage ∈ zT := zt_m3 52 rfl rfl
theorem zx_533 : Cond.code yLs_endMessage cLs_endMessage 3 none ∈ zT := zt_m3 53 rfl rfl
theorem zx_534 : Cond.methodLink RLs 127 yId_numberIn ∈ zT := zt_m3 54 rfl rfl
theorem zx_535 : Cond.instanceMethod yId_numberIn ∈ zT := zt_m3 55 rfl rfl
theorem zx_536 : Cond.selects RId yId_numberIn yId_numberIn ∈ zT := zt_m3 56 rfl rfl
theorem zx_537 : Cond.code yId_numberIn cId_numberIn 4 (some .int) ∈ zT := zt_m3 57 rfl rfl
theorem zx_538 : Cond.methodLink RId 50 yId_numberSigns ∈ zT := zt_m3 58 rfl rfl
theorem zx_539 : Cond.methodLink RId 54 yId_decimal ∈ zT := zt_m3 59 rfl rfl
theorem zx_540 : Cond.static yId_decimal ∈ zT := zt_m3 60 rfl rfl
theorem zx_541 : Cond.code yId_decimal cId_decimal 2 (some .int) ∈ zT := zt_m3 61 rfl rfl
theorem zx_542 : Cond.methodLink RLs 134 yLs_store ∈ zT := zt_m3 62 rfl rfl
theorem zx_544 : Cond.instanceMethod yLs_store ∈ zT := zt_m3 64 rfl rfl
theorem zx_545 : Cond.code yLs_store cLs_store 7 none ∈ zT := zt_m3 65 rfl rfl
theorem zx_546 : Cond.methodLink RLs 141 yId_numberSigns ∈ zT := zt_m3 66 rfl rfl
theorem zx_547 : Cond.methodLink RLs 148 yPg_nextStored ∈ zT := zt_m3 67 rfl rfl
theorem zx_548 : Cond.instanceMethod yPg_nextStored ∈ zT := zt_m3 68 rfl rfl
theorem zx_549 : Cond.selects RPg yPg_nextStored yPg_nextStored ∈ zT := zt_m3 69 rfl rfl
theorem zx_550 : Cond.code yPg_nextStored cPg_nextStored 2 (some (.object "WakingPagers$Stored")) ∈ zT := zt_m3 70 rfl rfl
theorem zx_551 : Cond.methodLink RLs 168 ⟨"java/lang/System", "arraycopy", "(Ljava/lang/Object;ILjava/lang/Object;II)V"⟩ ∈ zT := zt_m3 71 rfl rfl
theorem zx_552 : Cond.methodLink RLs 138 yHd_noteNumber ∈ zT := zt_m3 72 rfl rfl
theorem zx_553 : Cond.instanceMethod yHd_noteNumber ∈ zT := zt_m3 73 rfl rfl
theorem zx_554 : Cond.selects RHd yHd_noteNumber yHd_noteNumber ∈ zT := zt_m3 74 rfl rfl
theorem zx_555 : Cond.code yHd_noteNumber cHd_noteNumber 4 none ∈ zT := zt_m3 75 rfl rfl
theorem zx_556 : Cond.methodLink RHd 23 yMa_floorMod ∈ zT := zt_m3 76 rfl rfl
theorem zx_557 : Cond.static yMa_floorMod ∈ zT := zt_m3 77 rfl rfl
theorem zx_558 : Cond.code yMa_floorMod cMa_floorMod 3 (some .int) ∈ zT := zt_m3 78 rfl rfl
theorem zx_559 : Jvm.Cond.constantLong RHd 29 (-1 : Int64) ∈ zT := zt_m3 79 rfl rfl
theorem zx_560 : Cond.methodLink RLs 95 yIn_bitCount ∈ zT := zt_m3 80 rfl rfl
theorem zx_561 : Jvm.Cond.constant RLs 99 (1048576 : Int32) ∈ zT := zt_m3 81 rfl rfl
theorem zx_562 : Jvm.Cond.constant RLs 100 (1048575 : Int32) ∈ zT := zt_m3 82 rfl rfl
theorem zx_563 : Cond.methodLink RLs 101 yLs_addContent ∈ zT := zt_m3 83 rfl rfl
theorem zx_565 : Cond.instanceMethod yLs_addContent ∈ zT := zt_m3 85 rfl rfl
theorem zx_566 : Cond.code yLs_addContent cLs_addContent 3 none ∈ zT := zt_m3 86 rfl rfl
theorem zx_567 : Cond.methodLink RLs 124 yLs_addSign ∈ zT := zt_m3 87 rfl rfl
theorem zx_569 : Cond.instanceMethod yLs_addSign ∈ zT := zt_m3 89 rfl rfl
theorem zx_570 : Cond.code yLs_addSign cLs_addSign 2 none ∈ zT := zt_m3 90 rfl rfl
theorem zx_571 : Cond.methodLink RLs 105 yPg_calledBy ∈ zT := zt_m3 91 rfl rfl
theorem zx_572 : Cond.instanceMethod yPg_calledBy ∈ zT := zt_m3 92 rfl rfl
theorem zx_573 : Cond.selects RPg yPg_calledBy yPg_calledBy ∈ zT := zt_m3 93 rfl rfl
theorem zx_574 : Cond.code yPg_calledBy cPg_calledBy 5 (some (.object "WakingPagers$Heard")) ∈ zT := zt_m3 94 rfl rfl
theorem zx_575 : Cond.methodLink RLs 109 yLs_beginMessage ∈ zT := zt_m3 95 rfl rfl
theorem zx_577 : Cond.instanceMethod yLs_beginMessage ∈ zT := zt_m3 97 rfl rfl
theorem zx_578 : Cond.code yLs_beginMessage cLs_beginMessage 2 none ∈ zT := zt_m3 98 rfl rfl
theorem zx_579 : Cond.methodLink RLs 53 yLs_takeSync ∈ zT := zt_m3 99 rfl rfl
theorem zx_581 : Cond.instanceMethod yLs_takeSync ∈ zT := zt_m3 101 rfl rfl
theorem zx_582 : Cond.code yLs_takeSync cLs_takeSync 2 (some .int) ∈ zT := zt_m3 102 rfl rfl
theorem zx_583 : Cond.methodLink "WakingPagersLaw" 71 yWP_kept ∈ zT := zt_m3 103 rfl rfl
theorem zx_584 : Cond.instanceMethod yWP_kept ∈ zT := zt_m3 104 rfl rfl
theorem zx_585 : Cond.selects RWP yWP_kept yWP_kept ∈ zT := zt_m3 105 rfl rfl
theorem zx_586 : Cond.code yWP_kept cWP_kept 3 (some .int) ∈ zT := zt_m3 106 rfl rfl
theorem zx_587 : Cond.methodLink "WakingPagersLaw" 75 yWP_message ∈ zT := zt_m3 107 rfl rfl
theorem zx_588 : Cond.instanceMethod yWP_message ∈ zT := zt_m3 108 rfl rfl
theorem zx_589 : Cond.selects RWP yWP_message yWP_message ∈ zT := zt_m3 109 rfl rfl
theorem zx_590 : Cond.code yWP_message cWP_message 5 (some .int) ∈ zT := zt_m3 110 rfl rfl
theorem zx_591 : Cond.methodLink RWP 151 yWP_storedAt ∈ zT := zt_m3 111 rfl rfl
theorem zx_593 : Cond.instanceMethod yWP_storedAt ∈ zT := zt_m3 113 rfl rfl
theorem zx_594 : Cond.code yWP_storedAt cWP_storedAt 4 (some (.object "WakingPagers$Stored")) ∈ zT := zt_m3 114 rfl rfl
theorem zx_595 : Cond.methodLink RWP 201 yPg_storedAt ∈ zT := zt_m3 115 rfl rfl
theorem zx_596 : Cond.instanceMethod yPg_storedAt ∈ zT := zt_m3 116 rfl rfl
theorem zx_597 : Cond.selects RPg yPg_storedAt yPg_storedAt ∈ zT := zt_m3 117 rfl rfl
theorem zx_598 : Cond.code yPg_storedAt cPg_storedAt 2 (some (.object "WakingPagers$Stored")) ∈ zT := zt_m3 118 rfl rfl
theorem zx_599 : Cond.methodLink "WakingPagersLaw" 80 yWP_sign ∈ zT := zt_m3 119 rfl rfl
theorem zx_600 : Cond.instanceMethod yWP_sign ∈ zT := zt_m3 120 rfl rfl
theorem zx_601 : Cond.selects RWP yWP_sign yWP_sign ∈ zT := zt_m3 121 rfl rfl
theorem zx_602 : Cond.code yWP_sign cWP_sign 5 (some .int) ∈ zT := zt_m3 122 rfl rfl
theorem zx_603 : Cond.methodLink "WakingPagersLaw" 84 yWP_missed ∈ zT := zt_m3 123 rfl rfl
theorem zx_604 : Cond.instanceMethod yWP_missed ∈ zT := zt_m3 124 rfl rfl
theorem zx_605 : Cond.selects RWP yWP_missed yWP_missed ∈ zT := zt_m3 125 rfl rfl
theorem zx_606 : Cond.code yWP_missed cWP_missed 5 (some .long) ∈ zT := zt_m3 126 rfl rfl
theorem zx_607 : Cond.methodLink RWP 173 yPg_heardOf ∈ zT := zt_m3 127 rfl rfl
theorem zx_608 : Cond.methodLink "WakingPagersLaw" 89 yWP_count ∈ zT := zt_m3 128 rfl rfl
theorem zx_609 : Cond.instanceMethod yWP_count ∈ zT := zt_m3 129 rfl rfl
theorem zx_610 : Cond.selects RWP yWP_count yWP_count ∈ zT := zt_m3 130 rfl rfl
theorem zx_611 : Cond.code yWP_count cWP_count 4 (some .int) ∈ zT := zt_m3 131 rfl rfl
theorem zx_612 : Cond.methodLink "WakingPagersLaw" 93 yWP_desk ∈ zT := zt_m3 132 rfl rfl
theorem zx_613 : Cond.instanceMethod yWP_desk ∈ zT := zt_m3 133 rfl rfl
theorem zx_614 : Cond.selects RWP yWP_desk yWP_desk ∈ zT := zt_m3 134 rfl rfl
theorem zx_615 : Cond.code yWP_desk cWP_desk 7 (some .int) ∈ zT := zt_m3 135 rfl rfl
theorem zx_616 : Cond.classLink "WakingPagersLaw" 10 RMo ∈ zT := zt_m3 136 rfl rfl
theorem zx_617 : Cond.instantiable RMo 37 ∈ zT := zt_m3 137 rfl rfl
theorem zx_618 : Cond.methodLink "WakingPagersLaw" 12 yMo_init ∈ zT := zt_m3 138 rfl rfl
theorem zx_619 : Cond.instanceMethod yMo_init ∈ zT := zt_m3 139 rfl rfl
theorem zx_620 : Cond.code yMo_init cMo_init 1 none ∈ zT := zt_m3 140 rfl rfl
theorem zx_621 : Cond.methodLink RMo 1 objectInit ∈ zT := zt_m3 141 rfl rfl
theorem zx_622 : Cond.fieldLink RMo 104 "WakingPagersModel" "many" "I" ∈ zT := zt_m3 142 rfl rfl
theorem zx_623 : Cond.fieldLink RMo 7 "WakingPagersModel" "address" "[I" ∈ zT := zt_m3 143 rfl rfl
theorem zx_624 : Cond.fieldLink RMo 13 "WakingPagersModel" "kind" "[I" ∈ zT := zt_m3 144 rfl rfl
theorem zx_625 : Cond.fieldLink RMo 16 "WakingPagersModel" "called" "[I" ∈ zT := zt_m3 145 rfl rfl
theorem zx_626 : Cond.fieldLink RMo 127 "WakingPagersModel" "messages" "I" ∈ zT := zt_m3 146 rfl rfl
theorem zx_627 : Cond.fieldLink RMo 19 "WakingPagersModel" "to" "[I" ∈ zT := zt_m3 147 rfl rfl
theorem zx_628 : Cond.fieldLink RMo 22 "WakingPagersModel" "priority" "[I" ∈ zT := zt_m3 148 rfl rfl
theorem zx_629 : Cond.fieldLink RMo 25 "WakingPagersModel" "numbers" "[I" ∈ zT := zt_m3 149 rfl rfl
theorem zx_630 : Cond.fieldLink RMo 28 "WakingPagersModel" "lengths" "[I" ∈ zT := zt_m3 150 rfl rfl
theorem zx_631 : Cond.fieldLink RMo 31 "WakingPagersModel" "signs" "[I" ∈ zT := zt_m3 151 rfl rfl
theorem zx_632 : Cond.fieldLink RMo 34 "WakingPagersModel" "waits" "[Z" ∈ zT := zt_m3 152 rfl rfl
theorem zx_633 : Cond.fieldLink RMo 38 "WakingPagersModel" "loaded" "[I" ∈ zT := zt_m3 153 rfl rfl
theorem zx_634 : Cond.fieldLink RMo 120 "WakingPagersModel" "loads" "I" ∈ zT := zt_m3 154 rfl rfl
theorem zx_635 : Cond.fieldLink RMo 41 "WakingPagersModel" "words" "[I" ∈ zT := zt_m3 155 rfl rfl
theorem zx_636 : Cond.fieldLink RMo 44 "WakingPagersModel" "taken" "[Z" ∈ zT := zt_m3 156 rfl rfl
theorem zx_637 : Cond.fieldLink RMo 47 "WakingPagersModel" "air" "[I" ∈ zT := zt_m3 157 rfl rfl
theorem zx_638 : Cond.fieldLink RMo 155 "WakingPagersModel" "bits" "I" ∈ zT := zt_m3 158 rfl rfl
theorem zx_639 : Cond.fieldLink RMo 107 "WakingPagersModel" "pagers" "I" ∈ zT := zt_m3 159 rfl rfl
theorem zx_640 : Cond.fieldLink RMo 50 "WakingPagersModel" "hears" "[I" ∈ zT := zt_m3 160 rfl rfl
theorem zx_641 : Cond.fieldLink RMo 53 "WakingPagersModel" "heard" "[I" ∈ zT := zt_m3 161 rfl rfl
theorem zx_642 : Cond.fieldLink RMo 56 "WakingPagersModel" "kept" "[I" ∈ zT := zt_m3 162 rfl rfl
theorem zx_643 : Cond.fieldLink RMo 59 "WakingPagersModel" "keptOf" "[I" ∈ zT := zt_m3 163 rfl rfl
theorem zx_644 : Cond.fieldLink RMo 62 "WakingPagersModel" "keptNumber" "[I" ∈ zT := zt_m3 164 rfl rfl
theorem zx_645 : Cond.fieldLink RMo 65 "WakingPagersModel" "keptMany" "[I" ∈ zT := zt_m3 165 rfl rfl
theorem zx_646 : Cond.fieldLink RMo 68 "WakingPagersModel" "marked" "[Z" ∈ zT := zt_m3 166 rfl rfl
theorem zx_647 : Cond.fieldLink RMo 71 "WakingPagersModel" "keptSigns" "[I" ∈ zT := zt_m3 167 rfl rfl
theorem zx_648 : Cond.fieldLink RMo 74 "WakingPagersModel" "missing" "[J" ∈ zT := zt_m3 168 rfl rfl
theorem zx_649 : Cond.fieldLink RMo 78 "WakingPagersModel" "latest" "[I" ∈ zT := zt_m3 169 rfl rfl
theorem zx_650 : Cond.fieldLink RMo 81 "WakingPagersModel" "counts" "[I" ∈ zT := zt_m3 170 rfl rfl
theorem zx_651 : Cond.fieldLink RMo 178 "WakingPagersModel" "who" "I" ∈ zT := zt_m3 171 rfl rfl
theorem zx_652 : Cond.fieldLink RMo 84 "WakingPagersModel" "running" "I" ∈ zT := zt_m3 172 rfl rfl
theorem zx_653 : Cond.fieldLink RMo 88 "WakingPagersModel" "got" "[I" ∈ zT := zt_m3 173 rfl rfl
theorem zx_654 : Cond.fieldLink RMo 183 "WakingPagersModel" "gotMany" "I" ∈ zT := zt_m3 174 rfl rfl
theorem zx_655 : Cond.fieldLink RMo 195 "WakingPagersModel" "fresh" "I" ∈ zT := zt_m3 175 rfl rfl
theorem zx_656 : Cond.fieldLink RMo 91 "WakingPagersModel" "end" "[I" ∈ zT := zt_m3 176 rfl rfl
theorem zx_657 : Cond.lays RMo "WakingPagersModel" "many" "I" ∈ zT := zt_m3 177 rfl rfl
theorem zx_659 : Cond.laysFinal RMo "WakingPagersModel" "address" "[I" ∈ zT := zt_m3 179 rfl rfl
theorem zx_661 : Cond.laysFinal RMo "WakingPagersModel" "kind" "[I" ∈ zT := zt_m3 181 rfl rfl
theorem zx_663 : Cond.laysFinal RMo "WakingPagersModel" "called" "[I" ∈ zT := zt_m3 183 rfl rfl
theorem zx_665 : Cond.lays RMo "WakingPagersModel" "messages" "I" ∈ zT := zt_m3 185 rfl rfl
theorem zx_667 : Cond.laysFinal RMo "WakingPagersModel" "to" "[I" ∈ zT := zt_m3 187 rfl rfl
theorem zx_669 : Cond.laysFinal RMo "WakingPagersModel" "priority" "[I" ∈ zT := zt_m3 189 rfl rfl
theorem zx_671 : Cond.laysFinal RMo "WakingPagersModel" "numbers" "[I" ∈ zT := zt_m3 191 rfl rfl
theorem zx_673 : Cond.laysFinal RMo "WakingPagersModel" "lengths" "[I" ∈ zT := zt_m3 193 rfl rfl
theorem zx_675 : Cond.laysFinal RMo "WakingPagersModel" "signs" "[I" ∈ zT := zt_m3 195 rfl rfl
theorem zx_677 : Cond.laysFinal RMo "WakingPagersModel" "waits" "[Z" ∈ zT := zt_m3 197 rfl rfl
theorem zx_679 : Cond.laysFinal RMo "WakingPagersModel" "loaded" "[I" ∈ zT := zt_m3 199 rfl rfl
theorem zx_681 : Cond.lays RMo "WakingPagersModel" "loads" "I" ∈ zT := zt_m3 201 rfl rfl
theorem zx_683 : Cond.laysFinal RMo "WakingPagersModel" "words" "[I" ∈ zT := zt_m3 203 rfl rfl
theorem zx_685 : Cond.laysFinal RMo "WakingPagersModel" "taken" "[Z" ∈ zT := zt_m3 205 rfl rfl
theorem zx_687 : Cond.laysFinal RMo "WakingPagersModel" "air" "[I" ∈ zT := zt_m3 207 rfl rfl
theorem zx_689 : Cond.lays RMo "WakingPagersModel" "bits" "I" ∈ zT := zt_m3 209 rfl rfl
theorem zx_691 : Cond.lays RMo "WakingPagersModel" "content" "I" ∈ zT := zt_m3 211 rfl rfl
theorem zx_693 : Cond.lays RMo "WakingPagersModel" "filled" "I" ∈ zT := zt_m3 213 rfl rfl
theorem zx_695 : Cond.lays RMo "WakingPagersModel" "pagers" "I" ∈ zT := zt_m3 215 rfl rfl
theorem zx_697 : Cond.laysFinal RMo "WakingPagersModel" "hears" "[I" ∈ zT := zt_m3 217 rfl rfl
theorem zx_699 : Cond.laysFinal RMo "WakingPagersModel" "heard" "[I" ∈ zT := zt_m3 219 rfl rfl
theorem zx_701 : Cond.laysFinal RMo "WakingPagersModel" "kept" "[I" ∈ zT := zt_m3 221 rfl rfl
theorem zx_703 : Cond.laysFinal RMo "WakingPagersModel" "keptOf" "[I" ∈ zT := zt_m3 223 rfl rfl
theorem zx_705 : Cond.laysFinal RMo "WakingPagersModel" "keptNumber" "[I" ∈ zT := zt_m3 225 rfl rfl
theorem zx_707 : Cond.laysFinal RMo "WakingPagersModel" "keptMany" "[I" ∈ zT := zt_m3 227 rfl rfl
theorem zx_709 : Cond.laysFinal RMo "WakingPagersModel" "marked" "[Z" ∈ zT := zt_m3 229 rfl rfl
theorem zx_711 : Cond.laysFinal RMo "WakingPagersModel" "keptSigns" "[I" ∈ zT := zt_m3 231 rfl rfl
theorem zx_713 : Cond.laysFinal RMo "WakingPagersModel" "missing" "[J" ∈ zT := zt_m3 233 rfl rfl
theorem zx_715 : Cond.laysFinal RMo "WakingPagersModel" "latest" "[I" ∈ zT := zt_m3 235 rfl rfl
theorem zx_717 : Cond.laysFinal RMo "WakingPagersModel" "counts" "[I" ∈ zT := zt_m3 237 rfl rfl
theorem zx_719 : Cond.lays RMo "WakingPagersModel" "who" "I" ∈ zT := zt_m3 239 rfl rfl
theorem zx_721 : Cond.lays RMo "WakingPagersModel" "running" "I" ∈ zT := zt_m4 1 rfl rfl
theorem zx_723 : Cond.laysFinal RMo "WakingPagersModel" "got" "[I" ∈ zT := zt_m4 3 rfl rfl
theorem zx_725 : Cond.lays RMo "WakingPagersModel" "gotMany" "I" ∈ zT := zt_m4 5 rfl rfl
theorem zx_727 : Cond.lays RMo "WakingPagersModel" "fresh" "I" ∈ zT := zt_m4 7 rfl rfl
theorem zx_729 : Cond.laysFinal RMo "WakingPagersModel" "end" "[I" ∈ zT := zt_m4 9 rfl rfl
theorem zx_732 : Cond.arrayClass .boolean ∈ zT := zt_m4 12 rfl rfl
theorem zx_733 : Cond.arrayClass .long ∈ zT := zt_m4 13 rfl rfl
theorem zx_734 : Cond.methodLink "WakingPagersLaw" 17 yMo_code ∈ zT := zt_m4 14 rfl rfl
theorem zx_735 : Cond.instanceMethod yMo_code ∈ zT := zt_m4 15 rfl rfl
theorem zx_736 : Cond.selects RMo yMo_code yMo_code ∈ zT := zt_m4 16 rfl rfl
theorem zx_737 : Cond.code yMo_code cMo_code 2 (some .int) ∈ zT := zt_m4 17 rfl rfl
theorem zx_738 : Jvm.Cond.constant RMo 94 (2097152 : Int32) ∈ zT := zt_m4 18 rfl rfl
theorem zx_739 : Cond.methodLink RMo 95 yMo_codeword ∈ zT := zt_m4 19 rfl rfl
theorem zx_740 : Cond.static yMo_codeword ∈ zT := zt_m4 20 rfl rfl
theorem zx_741 : Cond.code yMo_codeword cMo_codeword 5 (some .int) ∈ zT := zt_m4 21 rfl rfl
theorem zx_742 : Cond.methodLink "WakingPagersLaw" 21 yMo_repair ∈ zT := zt_m4 22 rfl rfl
theorem zx_743 : Cond.instanceMethod yMo_repair ∈ zT := zt_m4 23 rfl rfl
theorem zx_744 : Cond.selects RMo yMo_repair yMo_repair ∈ zT := zt_m4 24 rfl rfl
theorem zx_745 : Cond.code yMo_repair cMo_repair 5 (some .int) ∈ zT := zt_m4 25 rfl rfl
theorem zx_746 : Cond.methodLink RMo 99 yMo_isCodeword ∈ zT := zt_m4 26 rfl rfl
theorem zx_747 : Cond.static yMo_isCodeword ∈ zT := zt_m4 27 rfl rfl
theorem zx_748 : Cond.code yMo_isCodeword cMo_isCodeword 1 (some .boolean) ∈ zT := zt_m4 28 rfl rfl
theorem zx_749 : Cond.methodLink "WakingPagersLaw" 26 yMo_identity ∈ zT := zt_m4 29 rfl rfl
theorem zx_750 : Cond.instanceMethod yMo_identity ∈ zT := zt_m4 30 rfl rfl
theorem zx_751 : Cond.selects RMo yMo_identity yMo_identity ∈ zT := zt_m4 31 rfl rfl
theorem zx_752 : Cond.code yMo_identity cMo_identity 4 (some .int) ∈ zT := zt_m4 32 rfl rfl
theorem zx_753 : Jvm.Cond.constant RMo 103 (250958 : Int32) ∈ zT := zt_m4 33 rfl rfl
theorem zx_754 : Cond.methodLink "WakingPagersLaw" 31 yMo_pager ∈ zT := zt_m4 34 rfl rfl
theorem zx_755 : Cond.instanceMethod yMo_pager ∈ zT := zt_m4 35 rfl rfl
theorem zx_756 : Cond.selects RMo yMo_pager yMo_pager ∈ zT := zt_m4 36 rfl rfl
theorem zx_757 : Cond.code yMo_pager cMo_pager 1 (some .int) ∈ zT := zt_m4 37 rfl rfl
theorem zx_758 : Cond.methodLink "WakingPagersLaw" 35 yMo_join ∈ zT := zt_m4 38 rfl rfl
theorem zx_759 : Cond.instanceMethod yMo_join ∈ zT := zt_m4 39 rfl rfl
theorem zx_760 : Cond.selects RMo yMo_join yMo_join ∈ zT := zt_m4 40 rfl rfl
theorem zx_761 : Cond.code yMo_join cMo_join 3 (some .int) ∈ zT := zt_m4 41 rfl rfl
theorem zx_762 : Cond.methodLink RMo 110 yMo_isPager ∈ zT := zt_m4 42 rfl rfl
theorem zx_764 : Cond.instanceMethod yMo_isPager ∈ zT := zt_m4 44 rfl rfl
theorem zx_765 : Cond.code yMo_isPager cMo_isPager 2 (some .boolean) ∈ zT := zt_m4 45 rfl rfl
theorem zx_766 : Cond.methodLink RMo 113 yMo_isIdentity ∈ zT := zt_m4 46 rfl rfl
theorem zx_768 : Cond.instanceMethod yMo_isIdentity ∈ zT := zt_m4 48 rfl rfl
theorem zx_769 : Cond.code yMo_isIdentity cMo_isIdentity 2 (some .boolean) ∈ zT := zt_m4 49 rfl rfl
theorem zx_770 : Cond.methodLink RMo 116 yMo_listensTo ∈ zT := zt_m4 50 rfl rfl
theorem zx_772 : Cond.instanceMethod yMo_listensTo ∈ zT := zt_m4 52 rfl rfl
theorem zx_773 : Cond.code yMo_listensTo cMo_listensTo 5 (some .boolean) ∈ zT := zt_m4 53 rfl rfl
theorem zx_774 : Cond.methodLink "WakingPagersLaw" 42 yMo_load ∈ zT := zt_m4 54 rfl rfl
theorem zx_775 : Cond.instanceMethod yMo_load ∈ zT := zt_m4 55 rfl rfl
theorem zx_776 : Cond.selects RMo yMo_load yMo_load ∈ zT := zt_m4 56 rfl rfl
theorem zx_777 : Cond.code yMo_load cMo_load 5 (some .int) ∈ zT := zt_m4 57 rfl rfl
theorem zx_778 : Jvm.Cond.constantLong RMo 123 (255 : Int64) ∈ zT := zt_m4 58 rfl rfl
theorem zx_779 : Jvm.Cond.constantLong RMo 125 (126 : Int64) ∈ zT := zt_m4 59 rfl rfl
theorem zx_780 : Cond.methodLink "WakingPagersLaw" 46 yMo_unload ∈ zT := zt_m4 60 rfl rfl
theorem zx_781 : Cond.instanceMethod yMo_unload ∈ zT := zt_m4 61 rfl rfl
theorem zx_782 : Cond.selects RMo yMo_unload yMo_unload ∈ zT := zt_m4 62 rfl rfl
theorem zx_783 : Cond.code yMo_unload cMo_unload 2 (some .int) ∈ zT := zt_m4 63 rfl rfl
theorem zx_784 : Cond.methodLink "WakingPagersLaw" 54 yMo_waiting ∈ zT := zt_m4 64 rfl rfl
theorem zx_785 : Cond.instanceMethod yMo_waiting ∈ zT := zt_m4 65 rfl rfl
theorem zx_786 : Cond.selects RMo yMo_waiting yMo_waiting ∈ zT := zt_m4 66 rfl rfl
theorem zx_787 : Cond.code yMo_waiting cMo_waiting 3 (some .int) ∈ zT := zt_m4 67 rfl rfl
theorem zx_788 : Cond.methodLink "WakingPagersLaw" 50 yMo_call ∈ zT := zt_m4 68 rfl rfl
theorem zx_789 : Cond.instanceMethod yMo_call ∈ zT := zt_m4 69 rfl rfl
theorem zx_790 : Cond.selects RMo yMo_call yMo_call ∈ zT := zt_m4 70 rfl rfl
theorem zx_791 : Cond.code yMo_call cMo_call 5 (some .int) ∈ zT := zt_m4 71 rfl rfl
theorem zx_792 : Cond.methodLink RMo 130 yMo_waiting ∈ zT := zt_m4 72 rfl rfl
theorem zx_793 : Cond.methodLink "WakingPagersLaw" 58 yMo_transmit ∈ zT := zt_m4 73 rfl rfl
theorem zx_794 : Cond.instanceMethod yMo_transmit ∈ zT := zt_m4 74 rfl rfl
theorem zx_795 : Cond.selects RMo yMo_transmit yMo_transmit ∈ zT := zt_m4 75 rfl rfl
theorem zx_796 : Cond.code yMo_transmit cMo_transmit 4 (some .int) ∈ zT := zt_m4 76 rfl rfl
theorem zx_797 : Jvm.Cond.constant RMo 158 (2055848343 : Int32) ∈ zT := zt_m4 77 rfl rfl
theorem zx_798 : Cond.methodLink RMo 159 yMo_lay ∈ zT := zt_m4 78 rfl rfl
theorem zx_800 : Cond.instanceMethod yMo_lay ∈ zT := zt_m4 80 rfl rfl
theorem zx_801 : Cond.code yMo_lay cMo_lay 5 (some .int) ∈ zT := zt_m4 81 rfl rfl
theorem zx_802 : Cond.methodLink RMo 147 yMo_fits ∈ zT := zt_m4 82 rfl rfl
theorem zx_804 : Cond.instanceMethod yMo_fits ∈ zT := zt_m4 84 rfl rfl
theorem zx_805 : Cond.code yMo_fits cMo_fits 6 (some .boolean) ∈ zT := zt_m4 85 rfl rfl
theorem zx_806 : Cond.methodLink RMo 141 yMo_wordsOf ∈ zT := zt_m4 86 rfl rfl
theorem zx_808 : Cond.instanceMethod yMo_wordsOf ∈ zT := zt_m4 88 rfl rfl
theorem zx_809 : Cond.code yMo_wordsOf cMo_wordsOf 3 (some .int) ∈ zT := zt_m4 89 rfl rfl
theorem zx_810 : Cond.methodLink RMo 151 yMo_layAt ∈ zT := zt_m4 90 rfl rfl
theorem zx_812 : Cond.instanceMethod yMo_layAt ∈ zT := zt_m4 92 rfl rfl
theorem zx_813 : Cond.code yMo_layAt cMo_layAt 6 none ∈ zT := zt_m4 93 rfl rfl
theorem zx_814 : Cond.methodLink RMo 138 yMo_addressData ∈ zT := zt_m4 94 rfl rfl
theorem zx_816 : Cond.instanceMethod yMo_addressData ∈ zT := zt_m4 96 rfl rfl
theorem zx_817 : Cond.code yMo_addressData cMo_addressData 2 (some .int) ∈ zT := zt_m4 97 rfl rfl
theorem zx_818 : Cond.methodLink RMo 144 yMo_outBit ∈ zT := zt_m4 98 rfl rfl
theorem zx_820 : Cond.instanceMethod yMo_outBit ∈ zT := zt_m4 100 rfl rfl
theorem zx_821 : Cond.code yMo_outBit cMo_outBit 4 (some .int) ∈ zT := zt_m4 101 rfl rfl
theorem zx_822 : Cond.methodLink RMo 134 yMo_outgoing ∈ zT := zt_m4 102 rfl rfl
theorem zx_824 : Cond.instanceMethod yMo_outgoing ∈ zT := zt_m4 104 rfl rfl
theorem zx_825 : Cond.code yMo_outgoing cMo_outgoing 3 (some .int) ∈ zT := zt_m4 105 rfl rfl
theorem zx_826 : Jvm.Cond.constant RMo 163 (-1431655766 : Int32) ∈ zT := zt_m4 106 rfl rfl
theorem zx_827 : Cond.methodLink RMo 164 yMo_send ∈ zT := zt_m4 107 rfl rfl
theorem zx_829 : Cond.instanceMethod yMo_send ∈ zT := zt_m4 109 rfl rfl
theorem zx_830 : Cond.code yMo_send cMo_send 3 none ∈ zT := zt_m4 110 rfl rfl
theorem zx_831 : Jvm.Cond.constant RMo 168 (2094142936 : Int32) ∈ zT := zt_m4 111 rfl rfl
theorem zx_832 : Cond.methodLink "WakingPagersLaw" 62 yMo_bit ∈ zT := zt_m4 112 rfl rfl
theorem zx_833 : Cond.instanceMethod yMo_bit ∈ zT := zt_m4 113 rfl rfl
theorem zx_834 : Cond.selects RMo yMo_bit yMo_bit ∈ zT := zt_m4 114 rfl rfl
theorem zx_835 : Cond.code yMo_bit cMo_bit 2 (some .int) ∈ zT := zt_m4 115 rfl rfl
theorem zx_836 : Cond.methodLink "WakingPagersLaw" 66 yMo_flip ∈ zT := zt_m4 116 rfl rfl
theorem zx_837 : Cond.instanceMethod yMo_flip ∈ zT := zt_m4 117 rfl rfl
theorem zx_838 : Cond.selects RMo yMo_flip yMo_flip ∈ zT := zt_m4 118 rfl rfl
theorem zx_839 : Cond.code yMo_flip cMo_flip 2 (some .int) ∈ zT := zt_m4 119 rfl rfl
theorem zx_840 : Cond.methodLink "WakingPagersLaw" 70 yMo_hear ∈ zT := zt_m4 120 rfl rfl
theorem zx_841 : Cond.instanceMethod yMo_hear ∈ zT := zt_m4 121 rfl rfl
theorem zx_842 : Cond.selects RMo yMo_hear yMo_hear ∈ zT := zt_m4 122 rfl rfl
theorem zx_843 : Cond.code yMo_hear cMo_hear 5 (some .int) ∈ zT := zt_m4 123 rfl rfl
theorem zx_844 : Cond.methodLink RMo 218 yMo_isSync ∈ zT := zt_m4 124 rfl rfl
theorem zx_846 : Cond.instanceMethod yMo_isSync ∈ zT := zt_m4 126 rfl rfl
theorem zx_847 : Cond.code yMo_isSync cMo_isSync 2 (some .boolean) ∈ zT := zt_m4 127 rfl rfl
theorem zx_848 : Cond.methodLink RMo 169 yMo_wordAt ∈ zT := zt_m4 128 rfl rfl
theorem zx_850 : Cond.instanceMethod yMo_wordAt ∈ zT := zt_m4 130 rfl rfl
theorem zx_851 : Cond.code yMo_wordAt cMo_wordAt 4 (some .int) ∈ zT := zt_m4 131 rfl rfl
theorem zx_852 : Cond.methodLink RMo 172 yMo_onesOf ∈ zT := zt_m4 132 rfl rfl
theorem zx_853 : Cond.static yMo_onesOf ∈ zT := zt_m4 133 rfl rfl
theorem zx_854 : Cond.code yMo_onesOf cMo_onesOf 3 (some .int) ∈ zT := zt_m4 134 rfl rfl
theorem zx_855 : Cond.methodLink RMo 221 yMo_batches ∈ zT := zt_m4 135 rfl rfl
theorem zx_857 : Cond.instanceMethod yMo_batches ∈ zT := zt_m4 137 rfl rfl
theorem zx_858 : Cond.code yMo_batches cMo_batches 5 (some .int) ∈ zT := zt_m4 138 rfl rfl
theorem zx_859 : Cond.methodLink RMo 212 yMo_isAwake ∈ zT := zt_m4 139 rfl rfl
theorem zx_861 : Cond.instanceMethod yMo_isAwake ∈ zT := zt_m4 141 rfl rfl
theorem zx_862 : Cond.code yMo_isAwake cMo_isAwake 4 (some .boolean) ∈ zT := zt_m4 142 rfl rfl
theorem zx_863 : Cond.methodLink RMo 215 yMo_look ∈ zT := zt_m4 143 rfl rfl
theorem zx_865 : Cond.instanceMethod yMo_look ∈ zT := zt_m4 145 rfl rfl
theorem zx_866 : Cond.code yMo_look cMo_look 4 none ∈ zT := zt_m4 146 rfl rfl
theorem zx_867 : Cond.methodLink RMo 198 yMo_repair ∈ zT := zt_m4 147 rfl rfl
theorem zx_868 : Cond.methodLink RMo 201 yMo_finish ∈ zT := zt_m4 148 rfl rfl
theorem zx_870 : Cond.instanceMethod yMo_finish ∈ zT := zt_m4 150 rfl rfl
theorem zx_871 : Cond.code yMo_finish cMo_finish 9 none ∈ zT := zt_m4 151 rfl rfl
theorem zx_872 : Cond.methodLink RMo 186 yMo_numberOf ∈ zT := zt_m4 152 rfl rfl
theorem zx_874 : Cond.instanceMethod yMo_numberOf ∈ zT := zt_m4 154 rfl rfl
theorem zx_875 : Cond.code yMo_numberOf cMo_numberOf 3 (some .int) ∈ zT := zt_m4 155 rfl rfl
theorem zx_876 : Cond.methodLink RMo 175 yMo_gotSign ∈ zT := zt_m4 156 rfl rfl
theorem zx_878 : Cond.instanceMethod yMo_gotSign ∈ zT := zt_m4 158 rfl rfl
theorem zx_879 : Cond.code yMo_gotSign cMo_gotSign 5 (some .int) ∈ zT := zt_m4 159 rfl rfl
theorem zx_880 : Cond.methodLink RMo 189 yMo_room ∈ zT := zt_m4 160 rfl rfl
theorem zx_882 : Cond.instanceMethod yMo_room ∈ zT := zt_m4 162 rfl rfl
theorem zx_883 : Cond.code yMo_room cMo_room 4 (some .int) ∈ zT := zt_m4 163 rfl rfl
theorem zx_884 : Cond.methodLink RMo 192 yMo_note ∈ zT := zt_m4 164 rfl rfl
theorem zx_886 : Cond.instanceMethod yMo_note ∈ zT := zt_m4 166 rfl rfl
theorem zx_887 : Cond.code yMo_note cMo_note 5 none ∈ zT := zt_m4 167 rfl rfl
theorem zx_888 : Jvm.Cond.constantLong RMo 181 (-1 : Int64) ∈ zT := zt_m4 168 rfl rfl
theorem zx_889 : Jvm.Cond.constant RMo 205 (1048576 : Int32) ∈ zT := zt_m4 169 rfl rfl
theorem zx_890 : Cond.methodLink RMo 206 yMo_add ∈ zT := zt_m4 170 rfl rfl
theorem zx_892 : Cond.instanceMethod yMo_add ∈ zT := zt_m4 172 rfl rfl
theorem zx_893 : Cond.code yMo_add cMo_add 3 none ∈ zT := zt_m4 173 rfl rfl
theorem zx_894 : Cond.methodLink RMo 209 yMo_identityOf ∈ zT := zt_m4 174 rfl rfl
theorem zx_896 : Cond.instanceMethod yMo_identityOf ∈ zT := zt_m4 176 rfl rfl
theorem zx_897 : Cond.code yMo_identityOf cMo_identityOf 5 (some .int) ∈ zT := zt_m4 177 rfl rfl
theorem zx_898 : Cond.methodLink "WakingPagersLaw" 74 yMo_kept ∈ zT := zt_m4 178 rfl rfl
theorem zx_899 : Cond.instanceMethod yMo_kept ∈ zT := zt_m4 179 rfl rfl
theorem zx_900 : Cond.selects RMo yMo_kept yMo_kept ∈ zT := zt_m4 180 rfl rfl
theorem zx_901 : Cond.code yMo_kept cMo_kept 2 (some .int) ∈ zT := zt_m4 181 rfl rfl
theorem zx_902 : Cond.methodLink "WakingPagersLaw" 79 yMo_message ∈ zT := zt_m4 182 rfl rfl
theorem zx_903 : Cond.instanceMethod yMo_message ∈ zT := zt_m4 183 rfl rfl
theorem zx_904 : Cond.selects RMo yMo_message yMo_message ∈ zT := zt_m4 184 rfl rfl
theorem zx_905 : Cond.code yMo_message cMo_message 5 (some .int) ∈ zT := zt_m4 185 rfl rfl
theorem zx_906 : Cond.methodLink RMo 224 yMo_isKept ∈ zT := zt_m4 186 rfl rfl
theorem zx_908 : Cond.instanceMethod yMo_isKept ∈ zT := zt_m4 188 rfl rfl
theorem zx_909 : Cond.code yMo_isKept cMo_isKept 3 (some .boolean) ∈ zT := zt_m4 189 rfl rfl
theorem zx_910 : Cond.methodLink "WakingPagersLaw" 83 yMo_sign ∈ zT := zt_m4 190 rfl rfl
theorem zx_911 : Cond.instanceMethod yMo_sign ∈ zT := zt_m4 191 rfl rfl
theorem zx_912 : Cond.selects RMo yMo_sign yMo_sign ∈ zT := zt_m4 192 rfl rfl
theorem zx_913 : Cond.code yMo_sign cMo_sign 4 (some .int) ∈ zT := zt_m4 193 rfl rfl
theorem zx_914 : Cond.methodLink "WakingPagersLaw" 88 yMo_missed ∈ zT := zt_m4 194 rfl rfl
theorem zx_915 : Cond.instanceMethod yMo_missed ∈ zT := zt_m4 195 rfl rfl
theorem zx_916 : Cond.selects RMo yMo_missed yMo_missed ∈ zT := zt_m4 196 rfl rfl
theorem zx_917 : Cond.code yMo_missed cMo_missed 3 (some .long) ∈ zT := zt_m4 197 rfl rfl
theorem zx_918 : Cond.methodLink "WakingPagersLaw" 92 yMo_count ∈ zT := zt_m4 198 rfl rfl
theorem zx_919 : Cond.instanceMethod yMo_count ∈ zT := zt_m4 199 rfl rfl
theorem zx_920 : Cond.selects RMo yMo_count yMo_count ∈ zT := zt_m4 200 rfl rfl
theorem zx_921 : Cond.code yMo_count cMo_count 3 (some .int) ∈ zT := zt_m4 201 rfl rfl
theorem zx_922 : Cond.methodLink "WakingPagersLaw" 96 yMo_desk ∈ zT := zt_m4 202 rfl rfl
theorem zx_923 : Cond.instanceMethod yMo_desk ∈ zT := zt_m4 203 rfl rfl
theorem zx_924 : Cond.selects RMo yMo_desk yMo_desk ∈ zT := zt_m4 204 rfl rfl
theorem zx_925 : Cond.code yMo_desk cMo_desk 6 (some .int) ∈ zT := zt_m4 205 rfl rfl
theorem zx_926 : Jvm.Cond.constantLong "WakingPagersLaw" 36 (4294967295 : Int64) ∈ zT := zt_m4 206 rfl rfl
theorem zs_6 : Cond.selects RLy yLy_areFree yLy_areFree ∈ zT := zt_sel 6 rfl rfl
theorem zs_5 : Cond.selects RLy yLy_findPlace yLy_findPlace ∈ zT := zt_sel 5 rfl rfl
theorem zs_12 : Cond.selects RLs yLs_addContent yLs_addContent ∈ zT := zt_sel 12 rfl rfl
theorem zs_13 : Cond.selects RLs yLs_addSign yLs_addSign ∈ zT := zt_sel 13 rfl rfl
theorem zs_14 : Cond.selects RLs yLs_beginMessage yLs_beginMessage ∈ zT := zt_sel 14 rfl rfl
theorem zs_10 : Cond.selects RLs yLs_endMessage yLs_endMessage ∈ zT := zt_sel 10 rfl rfl
theorem zs_7 : Cond.selects RLs yLs_hunt yLs_hunt ∈ zT := zt_sel 7 rfl rfl
theorem zs_11 : Cond.selects RLs yLs_store yLs_store ∈ zT := zt_sel 11 rfl rfl
theorem zs_8 : Cond.selects RLs yLs_takeBatch yLs_takeBatch ∈ zT := zt_sel 8 rfl rfl
theorem zs_15 : Cond.selects RLs yLs_takeSync yLs_takeSync ∈ zT := zt_sel 15 rfl rfl
theorem zs_9 : Cond.selects RLs yLs_takeWord yLs_takeWord ∈ zT := zt_sel 9 rfl rfl
theorem zs_3 : Cond.selects RWP yWP_areLoadedSignsOf yWP_areLoadedSignsOf ∈ zT := zt_sel 3 rfl rfl
theorem zs_2 : Cond.selects RWP yWP_identityAt yWP_identityAt ∈ zT := zt_sel 2 rfl rfl
theorem zs_0 : Cond.selects RWP yWP_isAddressUsed yWP_isAddressUsed ∈ zT := zt_sel 0 rfl rfl
theorem zs_4 : Cond.selects RWP yWP_layMessages yWP_layMessages ∈ zT := zt_sel 4 rfl rfl
theorem zs_1 : Cond.selects RWP yWP_pagerAt yWP_pagerAt ∈ zT := zt_sel 1 rfl rfl
theorem zs_16 : Cond.selects RWP yWP_storedAt yWP_storedAt ∈ zT := zt_sel 16 rfl rfl
theorem zs_38 : Cond.selects RMo yMo_add yMo_add ∈ zT := zt_sel 38 rfl rfl
theorem zs_24 : Cond.selects RMo yMo_addressData yMo_addressData ∈ zT := zt_sel 24 rfl rfl
theorem zs_30 : Cond.selects RMo yMo_batches yMo_batches ∈ zT := zt_sel 30 rfl rfl
theorem zs_33 : Cond.selects RMo yMo_finish yMo_finish ∈ zT := zt_sel 33 rfl rfl
theorem zs_21 : Cond.selects RMo yMo_fits yMo_fits ∈ zT := zt_sel 21 rfl rfl
theorem zs_35 : Cond.selects RMo yMo_gotSign yMo_gotSign ∈ zT := zt_sel 35 rfl rfl
theorem zs_39 : Cond.selects RMo yMo_identityOf yMo_identityOf ∈ zT := zt_sel 39 rfl rfl
theorem zs_31 : Cond.selects RMo yMo_isAwake yMo_isAwake ∈ zT := zt_sel 31 rfl rfl
theorem zs_18 : Cond.selects RMo yMo_isIdentity yMo_isIdentity ∈ zT := zt_sel 18 rfl rfl
theorem zs_40 : Cond.selects RMo yMo_isKept yMo_isKept ∈ zT := zt_sel 40 rfl rfl
theorem zs_17 : Cond.selects RMo yMo_isPager yMo_isPager ∈ zT := zt_sel 17 rfl rfl
theorem zs_28 : Cond.selects RMo yMo_isSync yMo_isSync ∈ zT := zt_sel 28 rfl rfl
theorem zs_20 : Cond.selects RMo yMo_lay yMo_lay ∈ zT := zt_sel 20 rfl rfl
theorem zs_23 : Cond.selects RMo yMo_layAt yMo_layAt ∈ zT := zt_sel 23 rfl rfl
theorem zs_19 : Cond.selects RMo yMo_listensTo yMo_listensTo ∈ zT := zt_sel 19 rfl rfl
theorem zs_32 : Cond.selects RMo yMo_look yMo_look ∈ zT := zt_sel 32 rfl rfl
theorem zs_37 : Cond.selects RMo yMo_note yMo_note ∈ zT := zt_sel 37 rfl rfl
theorem zs_34 : Cond.selects RMo yMo_numberOf yMo_numberOf ∈ zT := zt_sel 34 rfl rfl
theorem zs_25 : Cond.selects RMo yMo_outBit yMo_outBit ∈ zT := zt_sel 25 rfl rfl
theorem zs_26 : Cond.selects RMo yMo_outgoing yMo_outgoing ∈ zT := zt_sel 26 rfl rfl
theorem zs_36 : Cond.selects RMo yMo_room yMo_room ∈ zT := zt_sel 36 rfl rfl
theorem zs_27 : Cond.selects RMo yMo_send yMo_send ∈ zT := zt_sel 27 rfl rfl
theorem zs_29 : Cond.selects RMo yMo_wordAt yMo_wordAt ∈ zT := zt_sel 29 rfl rfl
theorem zs_22 : Cond.selects RMo yMo_wordsOf yMo_wordsOf ∈ zT := zt_sel 22 rfl rfl
theorem hin_0 : ∀ x ∈ u_ws RAi TAi 2, x ∈ zT := List.forall_mem_cons.mpr ⟨zx_55, List.forall_mem_cons.mpr ⟨zx_57, fun _ h => absurd h List.not_mem_nil⟩⟩
theorem hin_1 : ∀ x ∈ u_ws RHd THd 3, x ∈ zT := List.forall_mem_cons.mpr ⟨zx_343, List.forall_mem_cons.mpr ⟨zx_345, List.forall_mem_cons.mpr ⟨zx_347, fun _ h => absurd h List.not_mem_nil⟩⟩⟩
theorem hin_2 : ∀ x ∈ u_ws RId TId 11, x ∈ zT := List.forall_mem_cons.mpr ⟨zx_207, List.forall_mem_cons.mpr ⟨zx_209, List.forall_mem_cons.mpr ⟨zx_211, List.forall_mem_cons.mpr ⟨zx_213, List.forall_mem_cons.mpr ⟨zx_215, List.forall_mem_cons.mpr ⟨zx_217, List.forall_mem_cons.mpr ⟨zx_219, List.forall_mem_cons.mpr ⟨zx_221, List.forall_mem_cons.mpr ⟨zx_223, List.forall_mem_cons.mpr ⟨zx_225, List.forall_mem_cons.mpr ⟨zx_227, fun _ h => absurd h List.not_mem_nil⟩⟩⟩⟩⟩⟩⟩⟩⟩⟩⟩
theorem hin_3 : ∀ x ∈ u_ws RLy TLy 2, x ∈ zT := List.forall_mem_cons.mpr ⟨zx_39, List.forall_mem_cons.mpr ⟨zx_41, fun _ h => absurd h List.not_mem_nil⟩⟩
theorem hin_4 : ∀ x ∈ u_ws RLs TLs 8, x ∈ zT := List.forall_mem_cons.mpr ⟨zx_74, List.forall_mem_cons.mpr ⟨zx_76, List.forall_mem_cons.mpr ⟨zx_78, List.forall_mem_cons.mpr ⟨zx_80, List.forall_mem_cons.mpr ⟨zx_82, List.forall_mem_cons.mpr ⟨zx_84, List.forall_mem_cons.mpr ⟨zx_86, List.forall_mem_cons.mpr ⟨zx_88, fun _ h => absurd h List.not_mem_nil⟩⟩⟩⟩⟩⟩⟩⟩
theorem hin_5 : ∀ x ∈ u_ws RMs TMs 6, x ∈ zT := List.forall_mem_cons.mpr ⟨zx_419, List.forall_mem_cons.mpr ⟨zx_421, List.forall_mem_cons.mpr ⟨zx_423, List.forall_mem_cons.mpr ⟨zx_425, List.forall_mem_cons.mpr ⟨zx_427, List.forall_mem_cons.mpr ⟨zx_429, fun _ h => absurd h List.not_mem_nil⟩⟩⟩⟩⟩⟩
theorem hin_6 : ∀ x ∈ u_ws RPg TPg 9, x ∈ zT := List.forall_mem_cons.mpr ⟨zx_293, List.forall_mem_cons.mpr ⟨zx_295, List.forall_mem_cons.mpr ⟨zx_297, List.forall_mem_cons.mpr ⟨zx_299, List.forall_mem_cons.mpr ⟨zx_301, List.forall_mem_cons.mpr ⟨zx_303, List.forall_mem_cons.mpr ⟨zx_305, List.forall_mem_cons.mpr ⟨zx_307, List.forall_mem_cons.mpr ⟨zx_309, fun _ h => absurd h List.not_mem_nil⟩⟩⟩⟩⟩⟩⟩⟩⟩
theorem hin_7 : ∀ x ∈ u_ws RSd TSd 5, x ∈ zT := List.forall_mem_cons.mpr ⟨zx_263, List.forall_mem_cons.mpr ⟨zx_265, List.forall_mem_cons.mpr ⟨zx_267, List.forall_mem_cons.mpr ⟨zx_269, List.forall_mem_cons.mpr ⟨zx_271, fun _ h => absurd h List.not_mem_nil⟩⟩⟩⟩⟩
theorem hin_8 : ∀ x ∈ u_ws RWP TWP 12, x ∈ zT := List.forall_mem_cons.mpr ⟨zx_103, List.forall_mem_cons.mpr ⟨zx_105, List.forall_mem_cons.mpr ⟨zx_107, List.forall_mem_cons.mpr ⟨zx_109, List.forall_mem_cons.mpr ⟨zx_111, List.forall_mem_cons.mpr ⟨zx_113, List.forall_mem_cons.mpr ⟨zx_115, List.forall_mem_cons.mpr ⟨zx_117, List.forall_mem_cons.mpr ⟨zx_119, List.forall_mem_cons.mpr ⟨zx_121, List.forall_mem_cons.mpr ⟨zx_123, List.forall_mem_cons.mpr ⟨zx_125, fun _ h => absurd h List.not_mem_nil⟩⟩⟩⟩⟩⟩⟩⟩⟩⟩⟩⟩
theorem hin_9 : ∀ x ∈ u_ws RMo TMo 37, x ∈ zT := List.forall_mem_cons.mpr ⟨zx_657, List.forall_mem_cons.mpr ⟨zx_659, List.forall_mem_cons.mpr ⟨zx_661, List.forall_mem_cons.mpr ⟨zx_663, List.forall_mem_cons.mpr ⟨zx_665, List.forall_mem_cons.mpr ⟨zx_667, List.forall_mem_cons.mpr ⟨zx_669, List.forall_mem_cons.mpr ⟨zx_671, List.forall_mem_cons.mpr ⟨zx_673, List.forall_mem_cons.mpr ⟨zx_675, List.forall_mem_cons.mpr ⟨zx_677, List.forall_mem_cons.mpr ⟨zx_679, List.forall_mem_cons.mpr ⟨zx_681, List.forall_mem_cons.mpr ⟨zx_683, List.forall_mem_cons.mpr ⟨zx_685, List.forall_mem_cons.mpr ⟨zx_687, List.forall_mem_cons.mpr ⟨zx_689, List.forall_mem_cons.mpr ⟨zx_691, List.forall_mem_cons.mpr ⟨zx_693, List.forall_mem_cons.mpr ⟨zx_695, List.forall_mem_cons.mpr ⟨zx_697, List.forall_mem_cons.mpr ⟨zx_699, List.forall_mem_cons.mpr ⟨zx_701, List.forall_mem_cons.mpr ⟨zx_703, List.forall_mem_cons.mpr ⟨zx_705, List.forall_mem_cons.mpr ⟨zx_707, List.forall_mem_cons.mpr ⟨zx_709, List.forall_mem_cons.mpr ⟨zx_711, List.forall_mem_cons.mpr ⟨zx_713, List.forall_mem_cons.mpr ⟨zx_715, List.forall_mem_cons.mpr ⟨zx_717, List.forall_mem_cons.mpr ⟨zx_719, List.forall_mem_cons.mpr ⟨zx_721, List.forall_mem_cons.mpr ⟨zx_723, List.forall_mem_cons.mpr ⟨zx_725, List.forall_mem_cons.mpr ⟨zx_727, List.forall_mem_cons.mpr ⟨zx_729, fun _ h => absurd h List.not_mem_nil⟩⟩⟩⟩⟩⟩⟩⟩⟩⟩⟩⟩⟩⟩⟩⟩⟩⟩⟩⟩⟩⟩⟩⟩⟩⟩⟩⟩⟩⟩⟩⟩⟩⟩⟩⟩⟩
end
