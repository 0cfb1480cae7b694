section
/-- a private method of a class that the tables say can be made, by its rows of tables_1 -/
def lw_okq (q : MethodName × Nat) : Prop := (q.1.cls ≠ "java/lang/invoke/MethodHandle" ∧ q.1.cls ≠ "java/lang/invoke/VarHandle") ∧ Cond.instantiable q.1.cls q.2 ∈ tables_1 ∧ Cond.privateMethod q.1 ∈ tables_1 ∧ Cond.instanceMethod q.1 ∈ tables_1
theorem lw_p0 : lw_okq (⟨"java/lang/Throwable", "fillInStackTrace", "(I)Ljava/lang/Throwable;"⟩, 6) := ⟨⟨by decide +kernel, by decide +kernel⟩, List.mem_of_getElem? (i := 342) (by decide +kernel), List.mem_of_getElem? (i := 340) (by decide +kernel), List.mem_of_getElem? (i := 341) (by decide +kernel)⟩
theorem lw_p1 : lw_okq (⟨"TimeKeeper", "known", "(I)LTimeKeeper$Peer;"⟩, 5) := ⟨⟨by decide +kernel, by decide +kernel⟩, List.mem_of_getElem? (i := 17) (by decide +kernel), List.mem_of_getElem? (i := 448) (by decide +kernel), List.mem_of_getElem? (i := 449) (by decide +kernel)⟩
theorem lw_p2 : lw_okq (⟨"TimeKeeper", "failedTest", "(LTimeKeeper$Peer;)I"⟩, 5) := ⟨⟨by decide +kernel, by decide +kernel⟩, List.mem_of_getElem? (i := 17) (by decide +kernel), List.mem_of_getElem? (i := 464) (by decide +kernel), List.mem_of_getElem? (i := 465) (by decide +kernel)⟩
theorem lw_p3 : lw_okq (⟨"TimeKeeper", "toldOffset", "(LTimeKeeper$Peer;)J"⟩, 5) := ⟨⟨by decide +kernel, by decide +kernel⟩, List.mem_of_getElem? (i := 17) (by decide +kernel), List.mem_of_getElem? (i := 479) (by decide +kernel), List.mem_of_getElem? (i := 480) (by decide +kernel)⟩
theorem lw_p4 : lw_okq (⟨"TimeKeeper", "take", "(LTimeKeeper$Peer;)V"⟩, 5) := ⟨⟨by decide +kernel, by decide +kernel⟩, List.mem_of_getElem? (i := 17) (by decide +kernel), List.mem_of_getElem? (i := 489) (by decide +kernel), List.mem_of_getElem? (i := 490) (by decide +kernel)⟩
theorem lw_p5 : lw_okq (⟨"TimeKeeper", "toldDelay", "(LTimeKeeper$Peer;)J"⟩, 5) := ⟨⟨by decide +kernel, by decide +kernel⟩, List.mem_of_getElem? (i := 17) (by decide +kernel), List.mem_of_getElem? (i := 493) (by decide +kernel), List.mem_of_getElem? (i := 494) (by decide +kernel)⟩
theorem lw_p6 : lw_okq (⟨"TimeKeeper$Peer", "sortSamples", "()V"⟩, 14) := ⟨⟨by decide +kernel, by decide +kernel⟩, List.mem_of_getElem? (i := 88) (by decide +kernel), List.mem_of_getElem? (i := 514) (by decide +kernel), List.mem_of_getElem? (i := 515) (by decide +kernel)⟩
theorem lw_p7 : lw_okq (⟨"TimeKeeper$Choice", "findAgreement", "()Z"⟩, 10) := ⟨⟨by decide +kernel, by decide +kernel⟩, List.mem_of_getElem? (i := 148) (by decide +kernel), List.mem_of_getElem? (i := 569) (by decide +kernel), List.mem_of_getElem? (i := 570) (by decide +kernel)⟩
theorem lw_p8 : lw_okq (⟨"TimeKeeper$Choice", "agreeBut", "(I)Z"⟩, 10) := ⟨⟨by decide +kernel, by decide +kernel⟩, List.mem_of_getElem? (i := 148) (by decide +kernel), List.mem_of_getElem? (i := 573) (by decide +kernel), List.mem_of_getElem? (i := 574) (by decide +kernel)⟩
theorem lw_p9 : lw_okq (⟨"TimeKeeper$Row", "rank", "(I)J"⟩, 6) := ⟨⟨by decide +kernel, by decide +kernel⟩, List.mem_of_getElem? (i := 154) (by decide +kernel), List.mem_of_getElem? (i := 611) (by decide +kernel), List.mem_of_getElem? (i := 612) (by decide +kernel)⟩
theorem lw_p10 : lw_okq (⟨"TimeKeeper$Row", "swapWithNext", "(I)V"⟩, 6) := ⟨⟨by decide +kernel, by decide +kernel⟩, List.mem_of_getElem? (i := 154) (by decide +kernel), List.mem_of_getElem? (i := 615) (by decide +kernel), List.mem_of_getElem? (i := 616) (by decide +kernel)⟩
theorem lw_p11 : lw_okq (⟨"TimeKeeper$Choice", "thinOut", "()V"⟩, 10) := ⟨⟨by decide +kernel, by decide +kernel⟩, List.mem_of_getElem? (i := 148) (by decide +kernel), List.mem_of_getElem? (i := 625) (by decide +kernel), List.mem_of_getElem? (i := 626) (by decide +kernel)⟩
theorem lw_p12 : lw_okq (⟨"TimeKeeper$Choice", "conclude", "()V"⟩, 10) := ⟨⟨by decide +kernel, by decide +kernel⟩, List.mem_of_getElem? (i := 148) (by decide +kernel), List.mem_of_getElem? (i := 645) (by decide +kernel), List.mem_of_getElem? (i := 646) (by decide +kernel)⟩
theorem lw_p13 : lw_okq (⟨"TimeKeeper$Timepiece", "step", "(J)Z"⟩, 10) := ⟨⟨by decide +kernel, by decide +kernel⟩, List.mem_of_getElem? (i := 41) (by decide +kernel), List.mem_of_getElem? (i := 665) (by decide +kernel), List.mem_of_getElem? (i := 666) (by decide +kernel)⟩
theorem lw_p14 : lw_okq (⟨"TimeKeeper$Timepiece", "secondsSinceLed", "()I"⟩, 10) := ⟨⟨by decide +kernel, by decide +kernel⟩, List.mem_of_getElem? (i := 41) (by decide +kernel), List.mem_of_getElem? (i := 669) (by decide +kernel), List.mem_of_getElem? (i := 670) (by decide +kernel)⟩
theorem lw_p15 : lw_okq (⟨"TimeKeeper$Timepiece", "markLed", "()V"⟩, 10) := ⟨⟨by decide +kernel, by decide +kernel⟩, List.mem_of_getElem? (i := 41) (by decide +kernel), List.mem_of_getElem? (i := 673) (by decide +kernel), List.mem_of_getElem? (i := 674) (by decide +kernel)⟩
def lw_privs_1 : List (MethodName × Nat) := [(⟨"java/lang/Throwable", "fillInStackTrace", "(I)Ljava/lang/Throwable;"⟩, 6), (⟨"TimeKeeper", "known", "(I)LTimeKeeper$Peer;"⟩, 5), (⟨"TimeKeeper", "failedTest", "(LTimeKeeper$Peer;)I"⟩, 5), (⟨"TimeKeeper", "toldOffset", "(LTimeKeeper$Peer;)J"⟩, 5), (⟨"TimeKeeper", "take", "(LTimeKeeper$Peer;)V"⟩, 5), (⟨"TimeKeeper", "toldDelay", "(LTimeKeeper$Peer;)J"⟩, 5), (⟨"TimeKeeper$Peer", "sortSamples", "()V"⟩, 14), (⟨"TimeKeeper$Choice", "findAgreement", "()Z"⟩, 10), (⟨"TimeKeeper$Choice", "agreeBut", "(I)Z"⟩, 10), (⟨"TimeKeeper$Row", "rank", "(I)J"⟩, 6), (⟨"TimeKeeper$Row", "swapWithNext", "(I)V"⟩, 6), (⟨"TimeKeeper$Choice", "thinOut", "()V"⟩, 10), (⟨"TimeKeeper$Choice", "conclude", "()V"⟩, 10), (⟨"TimeKeeper$Timepiece", "step", "(J)Z"⟩, 10), (⟨"TimeKeeper$Timepiece", "secondsSinceLed", "()I"⟩, 10), (⟨"TimeKeeper$Timepiece", "markLed", "()V"⟩, 10)]
theorem lw_r1 : ∀ q ∈ lw_privs_1, lw_okq q := List.forall_mem_cons.mpr ⟨lw_p0, List.forall_mem_cons.mpr ⟨lw_p1, List.forall_mem_cons.mpr ⟨lw_p2, List.forall_mem_cons.mpr ⟨lw_p3, List.forall_mem_cons.mpr ⟨lw_p4, List.forall_mem_cons.mpr ⟨lw_p5, List.forall_mem_cons.mpr ⟨lw_p6, List.forall_mem_cons.mpr ⟨lw_p7, List.forall_mem_cons.mpr ⟨lw_p8, List.forall_mem_cons.mpr ⟨lw_p9, List.forall_mem_cons.mpr ⟨lw_p10, List.forall_mem_cons.mpr ⟨lw_p11, List.forall_mem_cons.mpr ⟨lw_p12, List.forall_mem_cons.mpr ⟨lw_p13, List.forall_mem_cons.mpr ⟨lw_p14, List.forall_mem_cons.mpr ⟨lw_p15, fun _ h => absurd h List.not_mem_nil⟩⟩⟩⟩⟩⟩⟩⟩⟩⟩⟩⟩⟩⟩⟩⟩
theorem lw_p16 : lw_okq (⟨"TimeKeeper$Timepiece", "judge", "(Z)V"⟩, 10) := ⟨⟨by decide +kernel, by decide +kernel⟩, List.mem_of_getElem? (i := 41) (by decide +kernel), List.mem_of_getElem? (i := 683) (by decide +kernel), List.mem_of_getElem? (i := 684) (by decide +kernel)⟩
theorem lw_p17 : lw_okq (⟨"TimeKeeper", "forgetSamples", "()V"⟩, 5) := ⟨⟨by decide +kernel, by decide +kernel⟩, List.mem_of_getElem? (i := 17) (by decide +kernel), List.mem_of_getElem? (i := 690) (by decide +kernel), List.mem_of_getElem? (i := 691) (by decide +kernel)⟩
theorem lw_p18 : lw_okq (⟨"TimeKeeperModel", "noPeer", "(I)Z"⟩, 38) := ⟨⟨by decide +kernel, by decide +kernel⟩, List.mem_of_getElem? (i := 753) (by decide +kernel), List.mem_of_getElem? (i := 927) (by decide +kernel), List.mem_of_getElem? (i := 928) (by decide +kernel)⟩
theorem lw_p19 : lw_okq (⟨"TimeKeeperModel", "clearOut", "()V"⟩, 38) := ⟨⟨by decide +kernel, by decide +kernel⟩, List.mem_of_getElem? (i := 753) (by decide +kernel), List.mem_of_getElem? (i := 931) (by decide +kernel), List.mem_of_getElem? (i := 932) (by decide +kernel)⟩
theorem lw_p20 : lw_okq (⟨"TimeKeeperModel", "failed", "(I)I"⟩, 38) := ⟨⟨by decide +kernel, by decide +kernel⟩, List.mem_of_getElem? (i := 753) (by decide +kernel), List.mem_of_getElem? (i := 942) (by decide +kernel), List.mem_of_getElem? (i := 943) (by decide +kernel)⟩
theorem lw_p21 : lw_okq (⟨"TimeKeeperModel", "version", "()I"⟩, 38) := ⟨⟨by decide +kernel, by decide +kernel⟩, List.mem_of_getElem? (i := 753) (by decide +kernel), List.mem_of_getElem? (i := 946) (by decide +kernel), List.mem_of_getElem? (i := 947) (by decide +kernel)⟩
theorem lw_p22 : lw_okq (⟨"TimeKeeperModel", "number", "(II)J"⟩, 38) := ⟨⟨by decide +kernel, by decide +kernel⟩, List.mem_of_getElem? (i := 753) (by decide +kernel), List.mem_of_getElem? (i := 950) (by decide +kernel), List.mem_of_getElem? (i := 951) (by decide +kernel)⟩
theorem lw_p23 : lw_okq (⟨"TimeKeeperModel", "offsetNow", "(I)J"⟩, 38) := ⟨⟨by decide +kernel, by decide +kernel⟩, List.mem_of_getElem? (i := 753) (by decide +kernel), List.mem_of_getElem? (i := 958) (by decide +kernel), List.mem_of_getElem? (i := 959) (by decide +kernel)⟩
theorem lw_p24 : lw_okq (⟨"TimeKeeperModel", "take", "(I)V"⟩, 38) := ⟨⟨by decide +kernel, by decide +kernel⟩, List.mem_of_getElem? (i := 753) (by decide +kernel), List.mem_of_getElem? (i := 967) (by decide +kernel), List.mem_of_getElem? (i := 968) (by decide +kernel)⟩
theorem lw_p25 : lw_okq (⟨"TimeKeeperModel", "sampleAt", "(II)I"⟩, 38) := ⟨⟨by decide +kernel, by decide +kernel⟩, List.mem_of_getElem? (i := 753) (by decide +kernel), List.mem_of_getElem? (i := 971) (by decide +kernel), List.mem_of_getElem? (i := 972) (by decide +kernel)⟩
theorem lw_p26 : lw_okq (⟨"TimeKeeperModel", "move", "(II)V"⟩, 38) := ⟨⟨by decide +kernel, by decide +kernel⟩, List.mem_of_getElem? (i := 753) (by decide +kernel), List.mem_of_getElem? (i := 975) (by decide +kernel), List.mem_of_getElem? (i := 976) (by decide +kernel)⟩
theorem lw_p27 : lw_okq (⟨"TimeKeeperModel", "ordered", "(II)I"⟩, 38) := ⟨⟨by decide +kernel, by decide +kernel⟩, List.mem_of_getElem? (i := 753) (by decide +kernel), List.mem_of_getElem? (i := 980) (by decide +kernel), List.mem_of_getElem? (i := 981) (by decide +kernel)⟩
theorem lw_p28 : lw_okq (⟨"TimeKeeperModel", "update", "()V"⟩, 38) := ⟨⟨by decide +kernel, by decide +kernel⟩, List.mem_of_getElem? (i := 753) (by decide +kernel), List.mem_of_getElem? (i := 984) (by decide +kernel), List.mem_of_getElem? (i := 985) (by decide +kernel)⟩
theorem lw_p29 : lw_okq (⟨"TimeKeeperModel", "isCandidate", "(I)Z"⟩, 38) := ⟨⟨by decide +kernel, by decide +kernel⟩, List.mem_of_getElem? (i := 753) (by decide +kernel), List.mem_of_getElem? (i := 988) (by decide +kernel), List.mem_of_getElem? (i := 989) (by decide +kernel)⟩
theorem lw_p30 : lw_okq (⟨"TimeKeeperModel", "distanceOf", "(I)J"⟩, 38) := ⟨⟨by decide +kernel, by decide +kernel⟩, List.mem_of_getElem? (i := 753) (by decide +kernel), List.mem_of_getElem? (i := 992) (by decide +kernel), List.mem_of_getElem? (i := 993) (by decide +kernel)⟩
theorem lw_p31 : lw_okq (⟨"TimeKeeperModel", "delayOf", "(I)J"⟩, 38) := ⟨⟨by decide +kernel, by decide +kernel⟩, List.mem_of_getElem? (i := 753) (by decide +kernel), List.mem_of_getElem? (i := 996) (by decide +kernel), List.mem_of_getElem? (i := 997) (by decide +kernel)⟩
def lw_privs_2 : List (MethodName × Nat) := [(⟨"TimeKeeper$Timepiece", "judge", "(Z)V"⟩, 10), (⟨"TimeKeeper", "forgetSamples", "()V"⟩, 5), (⟨"TimeKeeperModel", "noPeer", "(I)Z"⟩, 38), (⟨"TimeKeeperModel", "clearOut", "()V"⟩, 38), (⟨"TimeKeeperModel", "failed", "(I)I"⟩, 38), (⟨"TimeKeeperModel", "version", "()I"⟩, 38), (⟨"TimeKeeperModel", "number", "(II)J"⟩, 38), (⟨"TimeKeeperModel", "offsetNow", "(I)J"⟩, 38), (⟨"TimeKeeperModel", "take", "(I)V"⟩, 38), (⟨"TimeKeeperModel", "sampleAt", "(II)I"⟩, 38), (⟨"TimeKeeperModel", "move", "(II)V"⟩, 38), (⟨"TimeKeeperModel", "ordered", "(II)I"⟩, 38), (⟨"TimeKeeperModel", "update", "()V"⟩, 38), (⟨"TimeKeeperModel", "isCandidate", "(I)Z"⟩, 38), (⟨"TimeKeeperModel", "distanceOf", "(I)J"⟩, 38), (⟨"TimeKeeperModel", "delayOf", "(I)J"⟩, 38)]
theorem lw_r2 : ∀ q ∈ lw_privs_2, lw_okq q := List.forall_mem_cons.mpr ⟨lw_p16, List.forall_mem_cons.mpr ⟨lw_p17, List.forall_mem_cons.mpr ⟨lw_p18, List.forall_mem_cons.mpr ⟨lw_p19, List.forall_mem_cons.mpr ⟨lw_p20, List.forall_mem_cons.mpr ⟨lw_p21, List.forall_mem_cons.mpr ⟨lw_p22, List.forall_mem_cons.mpr ⟨lw_p23, List.forall_mem_cons.mpr ⟨lw_p24, List.forall_mem_cons.mpr ⟨lw_p25, List.forall_mem_cons.mpr ⟨lw_p26, List.forall_mem_cons.mpr ⟨lw_p27, List.forall_mem_cons.mpr ⟨lw_p28, List.forall_mem_cons.mpr ⟨lw_p29, List.forall_mem_cons.mpr ⟨lw_p30, List.forall_mem_cons.mpr ⟨lw_p31, fun _ h => absurd h List.not_mem_nil⟩⟩⟩⟩⟩⟩⟩⟩⟩⟩⟩⟩⟩⟩⟩⟩
theorem lw_p32 : lw_okq (⟨"TimeKeeperModel", "dispersionOf", "(I)J"⟩, 38) := ⟨⟨by decide +kernel, by decide +kernel⟩, List.mem_of_getElem? (i := 753) (by decide +kernel), List.mem_of_getElem? (i := 1000) (by decide +kernel), List.mem_of_getElem? (i := 1001) (by decide +kernel)⟩
theorem lw_p33 : lw_okq (⟨"TimeKeeperModel", "now", "(I)J"⟩, 38) := ⟨⟨by decide +kernel, by decide +kernel⟩, List.mem_of_getElem? (i := 753) (by decide +kernel), List.mem_of_getElem? (i := 1004) (by decide +kernel), List.mem_of_getElem? (i := 1005) (by decide +kernel)⟩
theorem lw_p34 : lw_okq (⟨"TimeKeeperModel", "jitterOf", "(I)J"⟩, 38) := ⟨⟨by decide +kernel, by decide +kernel⟩, List.mem_of_getElem? (i := 753) (by decide +kernel), List.mem_of_getElem? (i := 1009) (by decide +kernel), List.mem_of_getElem? (i := 1010) (by decide +kernel)⟩
theorem lw_p35 : lw_okq (⟨"TimeKeeperModel", "offsetOf", "(I)J"⟩, 38) := ⟨⟨by decide +kernel, by decide +kernel⟩, List.mem_of_getElem? (i := 753) (by decide +kernel), List.mem_of_getElem? (i := 1013) (by decide +kernel), List.mem_of_getElem? (i := 1014) (by decide +kernel)⟩
theorem lw_p36 : lw_okq (⟨"TimeKeeperModel", "intersect", "(I)Z"⟩, 38) := ⟨⟨by decide +kernel, by decide +kernel⟩, List.mem_of_getElem? (i := 753) (by decide +kernel), List.mem_of_getElem? (i := 1032) (by decide +kernel), List.mem_of_getElem? (i := 1033) (by decide +kernel)⟩
theorem lw_p37 : lw_okq (⟨"TimeKeeperModel", "holding", "(J)I"⟩, 38) := ⟨⟨by decide +kernel, by decide +kernel⟩, List.mem_of_getElem? (i := 753) (by decide +kernel), List.mem_of_getElem? (i := 1036) (by decide +kernel), List.mem_of_getElem? (i := 1037) (by decide +kernel)⟩
theorem lw_p38 : lw_okq (⟨"TimeKeeperModel", "layRow", "()V"⟩, 38) := ⟨⟨by decide +kernel, by decide +kernel⟩, List.mem_of_getElem? (i := 753) (by decide +kernel), List.mem_of_getElem? (i := 1040) (by decide +kernel), List.mem_of_getElem? (i := 1041) (by decide +kernel)⟩
theorem lw_p39 : lw_okq (⟨"TimeKeeperModel", "rankOf", "(I)J"⟩, 38) := ⟨⟨by decide +kernel, by decide +kernel⟩, List.mem_of_getElem? (i := 753) (by decide +kernel), List.mem_of_getElem? (i := 1044) (by decide +kernel), List.mem_of_getElem? (i := 1045) (by decide +kernel)⟩
theorem lw_p40 : lw_okq (⟨"TimeKeeperModel", "cluster", "()V"⟩, 38) := ⟨⟨by decide +kernel, by decide +kernel⟩, List.mem_of_getElem? (i := 753) (by decide +kernel), List.mem_of_getElem? (i := 1048) (by decide +kernel), List.mem_of_getElem? (i := 1049) (by decide +kernel)⟩
theorem lw_p41 : lw_okq (⟨"TimeKeeperModel", "spreadFrom", "(I)J"⟩, 38) := ⟨⟨by decide +kernel, by decide +kernel⟩, List.mem_of_getElem? (i := 753) (by decide +kernel), List.mem_of_getElem? (i := 1052) (by decide +kernel), List.mem_of_getElem? (i := 1053) (by decide +kernel)⟩
theorem lw_p42 : lw_okq (⟨"TimeKeeperModel", "combine", "()V"⟩, 38) := ⟨⟨by decide +kernel, by decide +kernel⟩, List.mem_of_getElem? (i := 753) (by decide +kernel), List.mem_of_getElem? (i := 1056) (by decide +kernel), List.mem_of_getElem? (i := 1057) (by decide +kernel)⟩
theorem lw_p43 : lw_okq (⟨"TimeKeeperModel", "lead", "()V"⟩, 38) := ⟨⟨by decide +kernel, by decide +kernel⟩, List.mem_of_getElem? (i := 753) (by decide +kernel), List.mem_of_getElem? (i := 1061) (by decide +kernel), List.mem_of_getElem? (i := 1062) (by decide +kernel)⟩
theorem lw_p44 : lw_okq (⟨"TimeKeeperModel", "trust", "(Z)V"⟩, 38) := ⟨⟨by decide +kernel, by decide +kernel⟩, List.mem_of_getElem? (i := 753) (by decide +kernel), List.mem_of_getElem? (i := 1073) (by decide +kernel), List.mem_of_getElem? (i := 1074) (by decide +kernel)⟩
def lw_privs_3 : List (MethodName × Nat) := [(⟨"TimeKeeperModel", "dispersionOf", "(I)J"⟩, 38), (⟨"TimeKeeperModel", "now", "(I)J"⟩, 38), (⟨"TimeKeeperModel", "jitterOf", "(I)J"⟩, 38), (⟨"TimeKeeperModel", "offsetOf", "(I)J"⟩, 38), (⟨"TimeKeeperModel", "intersect", "(I)Z"⟩, 38), (⟨"TimeKeeperModel", "holding", "(J)I"⟩, 38), (⟨"TimeKeeperModel", "layRow", "()V"⟩, 38), (⟨"TimeKeeperModel", "rankOf", "(I)J"⟩, 38), (⟨"TimeKeeperModel", "cluster", "()V"⟩, 38), (⟨"TimeKeeperModel", "spreadFrom", "(I)J"⟩, 38), (⟨"TimeKeeperModel", "combine", "()V"⟩, 38), (⟨"TimeKeeperModel", "lead", "()V"⟩, 38), (⟨"TimeKeeperModel", "trust", "(Z)V"⟩, 38)]
theorem lw_r3 : ∀ q ∈ lw_privs_3, lw_okq q := List.forall_mem_cons.mpr ⟨lw_p32, List.forall_mem_cons.mpr ⟨lw_p33, List.forall_mem_cons.mpr ⟨lw_p34, List.forall_mem_cons.mpr ⟨lw_p35, List.forall_mem_cons.mpr ⟨lw_p36, List.forall_mem_cons.mpr ⟨lw_p37, List.forall_mem_cons.mpr ⟨lw_p38, List.forall_mem_cons.mpr ⟨lw_p39, List.forall_mem_cons.mpr ⟨lw_p40, List.forall_mem_cons.mpr ⟨lw_p41, List.forall_mem_cons.mpr ⟨lw_p42, List.forall_mem_cons.mpr ⟨lw_p43, List.forall_mem_cons.mpr ⟨lw_p44, fun _ h => absurd h List.not_mem_nil⟩⟩⟩⟩⟩⟩⟩⟩⟩⟩⟩⟩⟩
def lw_privs : List (MethodName × Nat) := lw_privs_1 ++ (lw_privs_2 ++ (lw_privs_3))
def lw_tbl : List Cond := k2_sels lw_privs ++ tables_1
theorem lw_privs_ok : ∀ q ∈ lw_privs, lw_okq q := by
  show ∀ q ∈ lw_privs_1 ++ (lw_privs_2 ++ (lw_privs_3)), lw_okq q
  exact List.forall_mem_append.mpr ⟨lw_r1, List.forall_mem_append.mpr ⟨lw_r2, lw_r3⟩⟩
/-- the words that stay true under warmer tables -/
def GW : List Cond := lw_tbl.filter goodWord
theorem gw_of {w : Cond} (i : Nat) (h : lw_tbl[i]? = some w) (hg : goodWord w = true) : w ∈ GW := List.mem_filter.mpr ⟨List.mem_of_getElem? h, hg⟩
end
section
def T_TK : u_T := fun k => match k with
  | 0 => ("TimeKeeper", "tape", "LTimeKeeper$Packet;", true)
  | 1 => ("TimeKeeper", "outgoing", "LTimeKeeper$Packet;", true)
  | 2 => ("TimeKeeper", "timepiece", "LTimeKeeper$Timepiece;", true)
  | 3 => ("TimeKeeper", "peers", "[LTimeKeeper$Peer;", true)
  | _ => ("TimeKeeper", "choice", "LTimeKeeper$Choice;", true)
def t_TK : Nat → FieldType := fun k => match k with
  | 0 => .object "TimeKeeper$Packet"
  | 1 => .object "TimeKeeper$Packet"
  | 2 => .object "TimeKeeper$Timepiece"
  | 3 => .array (.object "TimeKeeper$Peer")
  | _ => .object "TimeKeeper$Choice"
theorem nm_TK : ∀ a, a < 5 → ∀ b, b < 5 → a ≠ b → (T_TK a).2.1 ≠ (T_TK b).2.1 := by decide +kernel
theorem ty_TK : ∀ k, k < 5 → parseFieldDescriptor (T_TK k).2.2.1 = some (t_TK k) := by decide +kernel
def T_PK : u_T := fun k => match k with
  | 0 => ("TimeKeeper$Packet", "bytes", "[I", true)
  | _ => ("TimeKeeper$Packet", "length", "I", false)
def t_PK : Nat → FieldType := fun k => match k with
  | 0 => .array .int
  | _ => .int
theorem nm_PK : ∀ a, a < 2 → ∀ b, b < 2 → a ≠ b → (T_PK a).2.1 ≠ (T_PK b).2.1 := by decide +kernel
theorem ty_PK : ∀ k, k < 2 → parseFieldDescriptor (T_PK k).2.2.1 = some (t_PK k) := by decide +kernel
def T_TP : u_T := fun k => match k with
  | 0 => ("TimeKeeper$Timepiece", "stamp", "J", false)
  | 1 => ("TimeKeeper$Timepiece", "uptime", "I", false)
  | 2 => ("TimeKeeper$Timepiece", "drift", "I", false)
  | 3 => ("TimeKeeper$Timepiece", "rate", "J", false)
  | 4 => ("TimeKeeper$Timepiece", "rest", "J", false)
  | 5 => ("TimeKeeper$Timepiece", "poll", "I", false)
  | 6 => ("TimeKeeper$Timepiece", "count", "I", false)
  | 7 => ("TimeKeeper$Timepiece", "ledAt", "I", false)
  | 8 => ("TimeKeeper$Timepiece", "timesLed", "I", false)
  | _ => ("TimeKeeper$Timepiece", "timesStepped", "I", false)
def t_TP : Nat → FieldType := fun k => match k with
  | 0 => .long
  | 1 => .int
  | 2 => .int
  | 3 => .long
  | 4 => .long
  | 5 => .int
  | 6 => .int
  | 7 => .int
  | 8 => .int
  | _ => .int
theorem nm_TP : ∀ a, a < 10 → ∀ b, b < 10 → a ≠ b → (T_TP a).2.1 ≠ (T_TP b).2.1 := by decide +kernel
theorem ty_TP : ∀ k, k < 10 → parseFieldDescriptor (T_TP k).2.2.1 = some (t_TP k) := by decide +kernel
def T_PE : u_T := fun k => match k with
  | 0 => ("TimeKeeper$Peer", "sent", "J", false)
  | 1 => ("TimeKeeper$Peer", "last", "J", false)
  | 2 => ("TimeKeeper$Peer", "reach", "I", false)
  | 3 => ("TimeKeeper$Peer", "stratum", "I", false)
  | 4 => ("TimeKeeper$Peer", "rootDelay", "J", false)
  | 5 => ("TimeKeeper$Peer", "rootDispersion", "J", false)
  | 6 => ("TimeKeeper$Peer", "count", "I", false)
  | 7 => ("TimeKeeper$Peer", "jitter", "J", false)
  | 8 => ("TimeKeeper$Peer", "offsets", "[J", true)
  | 9 => ("TimeKeeper$Peer", "delays", "[J", true)
  | 10 => ("TimeKeeper$Peer", "dispersions", "[J", true)
  | 11 => ("TimeKeeper$Peer", "times", "[I", true)
  | 12 => ("TimeKeeper$Peer", "order", "[I", true)
  | _ => ("TimeKeeper$Peer", "timeLookedAt", "I", false)
def t_PE : Nat → FieldType := fun k => match k with
  | 0 => .long
  | 1 => .long
  | 2 => .int
  | 3 => .int
  | 4 => .long
  | 5 => .long
  | 6 => .int
  | 7 => .long
  | 8 => .array .long
  | 9 => .array .long
  | 10 => .array .long
  | 11 => .array .int
  | 12 => .array .int
  | _ => .int
theorem nm_PE : ∀ a, a < 14 → ∀ b, b < 14 → a ≠ b → (T_PE a).2.1 ≠ (T_PE b).2.1 := by decide +kernel
theorem ty_PE : ∀ k, k < 14 → parseFieldDescriptor (T_PE k).2.2.1 = some (t_PE k) := by decide +kernel
def T_CH : u_T := fun k => match k with
  | 0 => ("TimeKeeper$Choice", "row", "LTimeKeeper$Row;", true)
  | 1 => ("TimeKeeper$Choice", "candidates", "I", false)
  | 2 => ("TimeKeeper$Choice", "survivors", "I", false)
  | 3 => ("TimeKeeper$Choice", "left", "I", false)
  | 4 => ("TimeKeeper$Choice", "isMade", "Z", false)
  | 5 => ("TimeKeeper$Choice", "offset", "J", false)
  | 6 => ("TimeKeeper$Choice", "jitter", "J", false)
  | 7 => ("TimeKeeper$Choice", "stratum", "I", false)
  | 8 => ("TimeKeeper$Choice", "low", "J", false)
  | _ => ("TimeKeeper$Choice", "high", "J", false)
def t_CH : Nat → FieldType := fun k => match k with
  | 0 => .object "TimeKeeper$Row"
  | 1 => .int
  | 2 => .int
  | 3 => .int
  | 4 => .boolean
  | 5 => .long
  | 6 => .long
  | 7 => .int
  | 8 => .long
  | _ => .long
theorem nm_CH : ∀ a, a < 10 → ∀ b, b < 10 → a ≠ b → (T_CH a).2.1 ≠ (T_CH b).2.1 := by decide +kernel
theorem ty_CH : ∀ k, k < 10 → parseFieldDescriptor (T_CH k).2.2.1 = some (t_CH k) := by decide +kernel
def T_RW : u_T := fun k => match k with
  | 0 => ("TimeKeeper$Row", "numbers", "[I", true)
  | 1 => ("TimeKeeper$Row", "strata", "[I", true)
  | 2 => ("TimeKeeper$Row", "offsets", "[J", true)
  | 3 => ("TimeKeeper$Row", "distances", "[J", true)
  | 4 => ("TimeKeeper$Row", "jitters", "[J", true)
  | _ => ("TimeKeeper$Row", "length", "I", false)
def t_RW : Nat → FieldType := fun k => match k with
  | 0 => .array .int
  | 1 => .array .int
  | 2 => .array .long
  | 3 => .array .long
  | 4 => .array .long
  | _ => .int
theorem nm_RW : ∀ a, a < 6 → ∀ b, b < 6 → a ≠ b → (T_RW a).2.1 ≠ (T_RW b).2.1 := by decide +kernel
theorem ty_RW : ∀ k, k < 6 → parseFieldDescriptor (T_RW k).2.2.1 = some (t_RW k) := by decide +kernel
def T_MO : u_T := fun k => match k with
  | 0 => ("TimeKeeperModel", "code", "I", false)
  | 1 => ("TimeKeeperModel", "tape", "[I", true)
  | 2 => ("TimeKeeperModel", "taped", "I", false)
  | 3 => ("TimeKeeperModel", "out", "[I", true)
  | 4 => ("TimeKeeperModel", "outs", "I", false)
  | 5 => ("TimeKeeperModel", "clock", "J", false)
  | 6 => ("TimeKeeperModel", "uptime", "I", false)
  | 7 => ("TimeKeeperModel", "drift", "J", false)
  | 8 => ("TimeKeeperModel", "rate", "J", false)
  | 9 => ("TimeKeeperModel", "rest", "J", false)
  | 10 => ("TimeKeeperModel", "sent", "[J", true)
  | 11 => ("TimeKeeperModel", "last", "[J", true)
  | 12 => ("TimeKeeperModel", "reach", "[I", true)
  | 13 => ("TimeKeeperModel", "stratum", "[I", true)
  | 14 => ("TimeKeeperModel", "rootDelay", "[J", true)
  | 15 => ("TimeKeeperModel", "rootDispersion", "[J", true)
  | 16 => ("TimeKeeperModel", "count", "[I", true)
  | 17 => ("TimeKeeperModel", "looked", "[I", true)
  | 18 => ("TimeKeeperModel", "offsets", "[J", true)
  | 19 => ("TimeKeeperModel", "delays", "[J", true)
  | 20 => ("TimeKeeperModel", "dispersions", "[J", true)
  | 21 => ("TimeKeeperModel", "times", "[I", true)
  | 22 => ("TimeKeeperModel", "candidates", "I", false)
  | 23 => ("TimeKeeperModel", "survivors", "I", false)
  | 24 => ("TimeKeeperModel", "ended", "I", false)
  | 25 => ("TimeKeeperModel", "had", "Z", false)
  | 26 => ("TimeKeeperModel", "theOffset", "J", false)
  | 27 => ("TimeKeeperModel", "theJitter", "J", false)
  | 28 => ("TimeKeeperModel", "theStratum", "I", false)
  | 29 => ("TimeKeeperModel", "theLow", "J", false)
  | 30 => ("TimeKeeperModel", "theHigh", "J", false)
  | 31 => ("TimeKeeperModel", "row", "[I", true)
  | 32 => ("TimeKeeperModel", "rowSize", "I", false)
  | 33 => ("TimeKeeperModel", "poll", "I", false)
  | 34 => ("TimeKeeperModel", "counted", "I", false)
  | 35 => ("TimeKeeperModel", "steps", "I", false)
  | 36 => ("TimeKeeperModel", "leads", "I", false)
  | _ => ("TimeKeeperModel", "ledAt", "I", false)
def t_MO : Nat → FieldType := fun k => match k with
  | 0 => .int
  | 1 => .array .int
  | 2 => .int
  | 3 => .array .int
  | 4 => .int
  | 5 => .long
  | 6 => .int
  | 7 => .long
  | 8 => .long
  | 9 => .long
  | 10 => .array .long
  | 11 => .array .long
  | 12 => .array .int
  | 13 => .array .int
  | 14 => .array .long
  | 15 => .array .long
  | 16 => .array .int
  | 17 => .array .int
  | 18 => .array .long
  | 19 => .array .long
  | 20 => .array .long
  | 21 => .array .int
  | 22 => .int
  | 23 => .int
  | 24 => .int
  | 25 => .boolean
  | 26 => .long
  | 27 => .long
  | 28 => .int
  | 29 => .long
  | 30 => .long
  | 31 => .array .int
  | 32 => .int
  | 33 => .int
  | 34 => .int
  | 35 => .int
  | 36 => .int
  | _ => .int
theorem nm_MO : ∀ a, a < 38 → ∀ b, b < 38 → a ≠ b → (T_MO a).2.1 ≠ (T_MO b).2.1 := by decide +kernel
theorem ty_MO : ∀ k, k < 38 → parseFieldDescriptor (T_MO k).2.2.1 = some (t_MO k) := by decide +kernel
abbrev classes : List vw_C := [("TimeKeeper", T_TK, 5), ("TimeKeeper$Packet", T_PK, 2), ("TimeKeeper$Timepiece", T_TP, 10), ("TimeKeeper$Peer", T_PE, 14), ("TimeKeeper$Choice", T_CH, 10), ("TimeKeeper$Row", T_RW, 6), ("TimeKeeperModel", T_MO, 38)]
theorem in_TK : ∀ w ∈ u_ws "TimeKeeper" T_TK 5, w ∈ GW := by decide +kernel
theorem in_PK : ∀ w ∈ u_ws "TimeKeeper$Packet" T_PK 2, w ∈ GW := by decide +kernel
theorem in_TP : ∀ w ∈ u_ws "TimeKeeper$Timepiece" T_TP 10, w ∈ GW := by decide +kernel
theorem in_PE : ∀ w ∈ u_ws "TimeKeeper$Peer" T_PE 14, w ∈ GW := by decide +kernel
theorem in_CH : ∀ w ∈ u_ws "TimeKeeper$Choice" T_CH 10, w ∈ GW := by decide +kernel
theorem in_RW : ∀ w ∈ u_ws "TimeKeeper$Row" T_RW 6, w ∈ GW := by decide +kernel
theorem in_MO : ∀ w ∈ u_ws "TimeKeeperModel" T_MO 38, w ∈ GW := by decide +kernel
def fty (ci : Nat) : Nat → FieldType := match ci with
  | 0 => t_TK
  | 1 => t_PK
  | 2 => t_TP
  | 3 => t_PE
  | 4 => t_CH
  | 5 => t_RW
  | _ => t_MO
def nfl (ci : Nat) : Nat := match ci with
  | 0 => 5
  | 1 => 2
  | 2 => 10
  | 3 => 14
  | 4 => 10
  | 5 => 6
  | _ => 38
def cnm (ci : Nat) : String := match ci with
  | 0 => "TimeKeeper"
  | 1 => "TimeKeeper$Packet"
  | 2 => "TimeKeeper$Timepiece"
  | 3 => "TimeKeeper$Peer"
  | 4 => "TimeKeeper$Choice"
  | 5 => "TimeKeeper$Row"
  | _ => "TimeKeeperModel"
def cT (ci : Nat) : u_T := match ci with
  | 0 => T_TK
  | 1 => T_PK
  | 2 => T_TP
  | 3 => T_PE
  | 4 => T_CH
  | 5 => T_RW
  | _ => T_MO
theorem cls_at (ci : Nat) (h : ci < 7) : classes[ci]? = some (cnm ci, cT ci, nfl ci) := by
  match ci, h with
  | 0, _ => rfl
  | 1, _ => rfl
  | 2, _ => rfl
  | 3, _ => rfl
  | 4, _ => rfl
  | 5, _ => rfl
  | 6, _ => rfl
theorem cls_in (ci : Nat) (h : ci < 7) : ∀ w ∈ u_ws (cnm ci) (cT ci) (nfl ci), w ∈ GW := by
  match ci, h with
  | 0, _ => exact in_TK
  | 1, _ => exact in_PK
  | 2, _ => exact in_TP
  | 3, _ => exact in_PE
  | 4, _ => exact in_CH
  | 5, _ => exact in_RW
  | 6, _ => exact in_MO
theorem cls_ty (ci : Nat) (h : ci < 7) : ∀ k, k < nfl ci → parseFieldDescriptor (cT ci k).2.2.1 = some (fty ci k) := by
  match ci, h with
  | 0, _ => exact ty_TK
  | 1, _ => exact ty_PK
  | 2, _ => exact ty_TP
  | 3, _ => exact ty_PE
  | 4, _ => exact ty_CH
  | 5, _ => exact ty_RW
  | 6, _ => exact ty_MO
theorem cls_nm (ci : Nat) (h : ci < 7) : ∀ a, a < nfl ci → ∀ b, b < nfl ci → a ≠ b → (cT ci a).2.1 ≠ (cT ci b).2.1 := by
  match ci, h with
  | 0, _ => exact nm_TK
  | 1, _ => exact nm_PK
  | 2, _ => exact nm_TP
  | 3, _ => exact nm_PE
  | 4, _ => exact nm_CH
  | 5, _ => exact nm_RW
  | 6, _ => exact nm_MO
end
section
/-! THE PURE LAYER: keys, values, memory; a memory's picture of the heap -/
abbrev KK : Type := Nat × Nat
abbrev PV : Type := Int32 ⊕ Int64 ⊕ Option KK
abbrev vI (x : Int32) : PV := .inl x
abbrev vL (x : Int64) : PV := .inr (.inl x)
abbrev vR (k : Option KK) : PV := .inr (.inr k)
abbrev Mem : Type := (KK → Nat → Int32) × (KK → Nat → Int64) × (KK → Nat → Option KK) × Nat
abbrev GG : Type := va_G × (Nat → ClassId)
def cv (ad : KK → Nat) : PV → Value
  | .inl x => .int x
  | .inr (.inl x) => .long x
  | .inr (.inr k) => va_rf (k.map ad)
def cat : PV → Nat
  | .inr (.inl _) => 2
  | _ => 1
theorem cv_cat (ad : KK → Nat) (v : PV) : (cv ad v).category = cat v := by
  rcases v with x | x | k
  · rfl
  · rfl
  · cases k <;> rfl
theorem cv_cats (ad : KK → Nat) (st : List PV) : ((st.map (cv ad)).map fun v => v.category).sum = (st.map cat).sum := by
  rw [List.map_map]
  congr 1
  exact List.map_congr_left fun v _ => cv_cat ad v
/-- shapes: (0, class), (1, length) of ints, (2, length) of longs, (3, length) of peers -/
def shH : Nat → Nat × Nat
  | 0 => (0, 0) | 1 => (0, 1) | 2 => (1, 64) | 3 => (0, 1) | 4 => (1, 48) | 5 => (0, 2) | 6 => (3, 8) | 7 => (0, 4) | 8 => (0, 5)
  | 9 => (1, 8) | 10 => (1, 8) | 11 => (2, 8) | 12 => (2, 8) | 13 => (2, 8)
  | 20 => (0, 6) | 21 => (1, 64) | 22 => (1, 48) | 23 => (2, 8) | 24 => (2, 8) | 25 => (1, 8) | 26 => (1, 8) | 27 => (2, 8) | 28 => (2, 8) | 29 => (1, 8) | 30 => (1, 8)
  | 31 => (2, 64) | 32 => (2, 64) | 33 => (2, 64) | 34 => (1, 64) | 35 => (1, 8)
  | 40 => (2, 1)
  | _ => (1, 0)
def shP : Nat → Nat × Nat
  | 0 => (0, 3) | 1 => (2, 8) | 2 => (2, 8) | 3 => (2, 8) | 4 => (1, 8) | _ => (1, 8)
def shp : KK → Nat × Nat
  | (0, j) => shH j
  | (_ + 1, j) => shP j
/-- the key of the n-th cell that is made -/
def nk (n : Nat) : KK := if n < 7 then (0, n) else if n < 55 then ((n - 7) / 6 + 1, (n - 7) % 6) else if n < 62 then (0, n - 48) else if n < 78 then (0, n - 42) else (0, n - 38)
theorem nk_inj : ∀ i, i < 79 → ∀ j, j < 79 → nk i = nk j → i = j := by decide +kernel
def al (M : Mem) (k : KK) : Prop := ∃ n, n < M.2.2.2 ∧ nk n = k
def okv (M : Mem) (v : PV) : Prop := ∀ k, v = vR (some k) → al M k
def fvl (ad : KK → Nat) (M : Mem) (k : KK) (j : Nat) : FieldType → Value
  | .long => .long (M.2.1 k j)
  | .object _ => va_rf ((M.2.2.1 k j).map ad)
  | .array _ => va_rf ((M.2.2.1 k j).map ad)
  | _ => .int (M.1 k j)
def cE (G : GG) (ad : KK → Nat) (M : Mem) (k : KK) : va_E := match shp k with
  | (0, ci) => .inr (ci, (List.range (nfl ci)).map (fun j => fvl ad M k j (fty ci j)))
  | (1, n) => .inl (G.2 0, n, .inl (M.1 k))
  | (2, n) => .inl (G.2 1, n, .inr (.inl (M.2.1 k)))
  | (_, n) => .inl (G.2 2, n, .inr (.inr (.inr (.inr (fun j => (M.2.2.1 k j).map ad)))))
def wl (G : GG) (ad : KK → Nat) (M : Mem) : va_W := (List.range M.2.2.2).map (fun n => (ad (nk n), cE G ad M (nk n)))
abbrev tyl (G : GG) : List (ClassId × FieldType) := [(G.2 0, .int), (G.2 1, .long), (G.2 2, .object "TimeKeeper$Peer")]
def HR (G : GG) (B : Heap) (ad : KK → Nat) (M : Mem) (H : Heap) : Prop :=
  va_P G.1 classes (wl G ad M) H ∧ va_D (fun q => B.size ≤ q) (wl G ad M) ∧ (∀ k j k', al M k → M.2.2.1 k j = some k' → al M k') ∧ M.2.2.2 ≤ 79
theorem wl_at {G : GG} {ad : KK → Nat} {M : Mem} {n : Nat} (h : n < M.2.2.2) : (wl G ad M)[n]? = some (ad (nk n), cE G ad M (nk n)) := by
  simp [wl, h]
/-- a memory that differs at one cell alone -/
def M1 (k : KK) (M M' : Mem) : Prop := M'.2.2.2 = M.2.2.2 ∧ ∀ q, q ≠ k → M'.1 q = M.1 q ∧ M'.2.1 q = M.2.1 q ∧ M'.2.2.1 q = M.2.2.1 q
theorem cE_congr {G : GG} {ad : KK → Nat} {M M' : Mem} {q : KK} (h1 : M'.1 q = M.1 q) (h2 : M'.2.1 q = M.2.1 q) (h3 : M'.2.2.1 q = M.2.2.1 q) : cE G ad M' q = cE G ad M q := by
  unfold cE
  rw [h1, h2, h3]
  have hf : ∀ j t, fvl ad M' q j t = fvl ad M q j t := by
    intro j t
    cases t <;> simp only [fvl, h1, h2, h3]
  simp only [hf]
theorem wl_set {G : GG} {ad : KK → Nat} {M M' : Mem} {n : Nat} (hn : n < M.2.2.2) (h79 : M.2.2.2 ≤ 79) (h : M1 (nk n) M M') : (wl G ad M).set n (ad (nk n), cE G ad M' (nk n)) = wl G ad M' := by
  apply List.ext_getElem?
  intro i
  by_cases hi : i < M.2.2.2
  · rw [List.getElem?_set]
    by_cases e : n = i
    · subst e
      rw [if_pos rfl, if_pos (by simp [wl]; exact hn), wl_at (by rw [h.1]; exact hn)]
    · rw [if_neg e, wl_at hi, wl_at (by rw [h.1]; exact hi)]
      obtain ⟨h1, h2, h3⟩ := h.2 (nk i) (fun q => e (nk_inj n (by omega) i (by omega) q.symm))
      rw [cE_congr h1 h2 h3]
  · have h1 : (wl G ad M').length ≤ i := by simp [wl, h.1]; omega
    have h2 : ((wl G ad M).set n (ad (nk n), cE G ad M' (nk n))).length ≤ i := by simp [wl]; omega
    rw [List.getElem?_eq_none h1, List.getElem?_eq_none h2]
theorem al_M1 {k q : KK} {M M' : Mem} (h : M1 k M M') : al M' q ↔ al M q := by
  unfold al
  rw [h.1]
theorem okv_M1 {k : KK} {M M' : Mem} (h : M1 k M M') {v : PV} (hv : okv M v) : okv M' v := fun q e => (al_M1 h).mpr (hv q e)
/-! ints, longs, references stored at a place of a cell -/
def sI (M : Mem) (k : KK) (j : Nat) (x : Int32) : Mem := (fun q i => if q = k ∧ i = j then x else M.1 q i, M.2)
def sL (M : Mem) (k : KK) (j : Nat) (x : Int64) : Mem := (M.1, fun q i => if q = k ∧ i = j then x else M.2.1 q i, M.2.2)
def sR (M : Mem) (k : KK) (j : Nat) (x : Option KK) : Mem := (M.1, M.2.1, fun q i => if q = k ∧ i = j then x else M.2.2.1 q i, M.2.2.2)
theorem M1_sI (M : Mem) (k : KK) (j : Nat) (x : Int32) : M1 k M (sI M k j x) := ⟨rfl, fun q h => ⟨by funext i; simp [sI, h], rfl, rfl⟩⟩
theorem M1_sL (M : Mem) (k : KK) (j : Nat) (x : Int64) : M1 k M (sL M k j x) := ⟨rfl, fun q h => ⟨rfl, by funext i; simp [sL, h], rfl⟩⟩
theorem M1_sR (M : Mem) (k : KK) (j : Nat) (x : Option KK) : M1 k M (sR M k j x) := ⟨rfl, fun q h => ⟨rfl, rfl, by funext i; simp [sR, h]⟩⟩
/-! locals: a list, a long's second place is empty -/
def isL : Option PV → Bool
  | some (.inr (.inl _)) => true
  | _ => false
def kil : List (Option PV) → List (Option PV)
  | [] => []
  | _ :: r => none :: r
def stL : List (Option PV) → Nat → PV → List (Option PV)
  | [], _, _ => []
  | _ :: r, 0, v => some v :: (match cat v with | 2 => kil r | _ => r)
  | x :: r, 1, v => (match isL x with | true => none | false => x) :: stL r 0 v
  | x :: r, n + 2, v => x :: stL r (n + 1) v
def ldL : List (Option PV) → Nat → Option PV
  | [], _ => none
  | x :: _, 0 => x
  | _ :: r, n + 1 => ldL r n
def entL : List PV → List (Option PV)
  | [] => []
  | v :: r => some v :: (match cat v with | 2 => none :: entL r | _ => entL r)
def padL : Nat → List (Option PV) → List (Option PV)
  | 0, _ => []
  | n + 1, [] => none :: padL n []
  | n + 1, x :: r => x :: padL n r
def LR (ad : KK → Nat) (L : List (Option PV)) (ls : Array Slot) (nL : Nat) : Prop := ls.size = nL ∧ lv_wf ls ∧ ∀ i v, ldL L i = some v → ls[i]? = some (.val (cv ad v))
def okL (M : Mem) (L : List (Option PV)) : Prop := ∀ i v, ldL L i = some v → okv M v
theorem ldL_st0 (L : List (Option PV)) (v w : PV) : ∀ j, ldL (stL L 0 v) j = some w → (j = 0 ∧ w = v) ∨ (j ≠ 0 ∧ ldL L j = some w ∧ ¬ (cat v = 2 ∧ j = 1)) := by
  intro j h
  cases L with
  | nil => simp [stL, ldL] at h
  | cons x r =>
    cases j with
    | zero => left; simp only [stL, ldL, Option.some.injEq] at h; exact ⟨rfl, h.symm⟩
    | succ j =>
      right
      simp only [stL, ldL] at h
      refine ⟨by omega, ?_, ?_⟩
      · show ldL r j = some w
        split at h
        · cases r with
          | nil => simp [kil, ldL] at h
          | cons y r =>
            cases j with
            | zero => simp [kil, ldL] at h
            | succ j => simpa [kil, ldL] using h
        · exact h
      · rintro ⟨c2, j1⟩
        have hj : j = 0 := by omega
        subst hj
        rw [c2] at h
        cases r with
        | nil => simp [kil, ldL] at h
        | cons y r => simp [kil, ldL] at h
theorem ldL_st (v w : PV) : ∀ (L : List (Option PV)) (i j : Nat), ldL (stL L i v) j = some w → (j = i ∧ w = v) ∨ (j ≠ i ∧ ldL L j = some w ∧ ¬ (cat v = 2 ∧ j = i + 1) ∧ ¬ (j + 1 = i ∧ cat w = 2))
  | [], i, j, h => by simp [stL, ldL] at h
  | x :: r, 0, j, h => by
    rcases ldL_st0 _ _ _ j h with h | ⟨h1, h2, h3⟩
    · exact Or.inl h
    · exact Or.inr ⟨h1, h2, h3, fun q => by omega⟩
  | x :: r, 1, j, h => by
    cases j with
    | zero =>
      right
      simp only [stL, ldL] at h
      cases hx : isL x with
      | true => rw [hx] at h; simp at h
      | false =>
        rw [hx] at h
        refine ⟨by omega, h, fun q => by omega, fun q => ?_⟩
        have hx2 : x = some w := h
        rw [hx2] at hx
        rcases w with a | a | a
        · simp [cat] at q
        · simp [isL] at hx
        · simp [cat] at q
    | succ j =>
      simp only [stL, ldL] at h
      rcases ldL_st0 _ _ _ j h with ⟨h1, h2⟩ | ⟨h1, h2, h3⟩
      · exact Or.inl ⟨by omega, h2⟩
      · exact Or.inr ⟨by omega, h2, fun q => h3 ⟨q.1, by omega⟩, fun q => by omega⟩
  | x :: r, n + 2, j, h => by
    cases j with
    | zero =>
      simp only [stL, ldL] at h
      exact Or.inr ⟨by omega, h, fun q => by omega, fun q => by omega⟩
    | succ j =>
      simp only [stL, ldL] at h
      rcases ldL_st v w r (n + 1) j h with ⟨h1, h2⟩ | ⟨h1, h2, h3, h4⟩
      · exact Or.inl ⟨by omega, h2⟩
      · exact Or.inr ⟨by omega, h2, fun q => h3 ⟨q.1, by omega⟩, fun q => h4 ⟨by omega, q.2⟩⟩
/-- the listed pairs of a list of locals -/
def asc (ad : KK → Nat) (L : List (Option PV)) : List (Nat × Value) := (List.range L.length).filterMap (fun i => (ldL L i).map (fun v => (i, cv ad v)))
theorem ldL_lt : ∀ (L : List (Option PV)) (i : Nat) (v : PV), ldL L i = some v → i < L.length
  | [], i, v, h => by simp [ldL] at h
  | x :: r, 0, v, h => by simp
  | x :: r, i + 1, v, h => by have := ldL_lt r i v h; simp; omega
theorem mem_asc {ad : KK → Nat} {L : List (Option PV)} {q : Nat × Value} : q ∈ asc ad L ↔ ∃ v, ldL L q.1 = some v ∧ q.2 = cv ad v := by
  unfold asc
  rw [List.mem_filterMap]
  constructor
  · rintro ⟨i, -, h⟩
    obtain ⟨v, h1, h2⟩ := Option.map_eq_some_iff.mp h
    subst h2
    exact ⟨v, h1, rfl⟩
  · rintro ⟨v, h1, h2⟩
    exact ⟨q.1, List.mem_range.mpr (ldL_lt _ _ _ h1), by rw [h1]; obtain ⟨a, b⟩ := q; simp at h2 ⊢; exact h2.symm⟩
theorem LR_has {ad : KK → Nat} {L : List (Option PV)} {ls : Array Slot} {nL : Nat} (h : LR ad L ls nL) : lv_has ls nL (asc ad L) := by
  refine ⟨h.1, h.2.1, fun q hq => ?_⟩
  obtain ⟨v, h1, h2⟩ := mem_asc.mp hq
  rw [h2]
  exact h.2.2 q.1 v h1
theorem LR_of {ad : KK → Nat} {L : List (Option PV)} {ls : Array Slot} {nL : Nat} {l : List (Nat × Value)} (h : lv_has ls nL l) (hm : ∀ i v, ldL L i = some v → (i, cv ad v) ∈ l) : LR ad L ls nL := ⟨h.1, h.2.1, fun i v hv => h.2.2 _ (hm i v hv)⟩
theorem LR_st {ad : KK → Nat} {L : List (Option PV)} {ls' : Array Slot} {nL i : Nat} {v : PV} (hc : cat v = 1) (h : lv_has ls' nL ((i, cv ad v) :: (asc ad L).filter (fun q => !(q.1 == i) && !(q.1 + 1 == i && q.2.category == 2)))) : LR ad (stL L i v) ls' nL := by
  refine LR_of h fun j w hw => ?_
  rcases ldL_st v w L i j hw with ⟨h1, h2⟩ | ⟨h1, h2, h3, h4⟩
  · subst h1; subst h2; exact List.mem_cons_self
  · refine List.mem_cons_of_mem _ (List.mem_filter.mpr ⟨mem_asc.mpr ⟨w, h2, rfl⟩, ?_⟩)
    simp only [cv_cat, Bool.and_eq_true, Bool.not_eq_true', beq_eq_false_iff_ne, ne_eq, Bool.and_eq_false_iff]
    refine ⟨h1, ?_⟩
    by_cases e : j + 1 = i
    · exact Or.inr fun q => h4 ⟨e, q⟩
    · exact Or.inl e
theorem LR_st2 {ad : KK → Nat} {L : List (Option PV)} {ls' : Array Slot} {nL i : Nat} {v : PV} (hc : cat v = 2) (h : lv_has ls' nL ((i, cv ad v) :: (asc ad L).filter (fun q => !(q.1 == i) && (!(q.1 == i + 1) && !(q.1 + 1 == i && q.2.category == 2))))) : LR ad (stL L i v) ls' nL := by
  refine LR_of h fun j w hw => ?_
  rcases ldL_st v w L i j hw with ⟨h1, h2⟩ | ⟨h1, h2, h3, h4⟩
  · subst h1; subst h2; exact List.mem_cons_self
  · refine List.mem_cons_of_mem _ (List.mem_filter.mpr ⟨mem_asc.mpr ⟨w, h2, rfl⟩, ?_⟩)
    simp only [cv_cat, Bool.and_eq_true, Bool.not_eq_true', beq_eq_false_iff_ne, ne_eq, Bool.and_eq_false_iff]
    refine ⟨h1, fun q => h3 ⟨hc, q⟩, ?_⟩
    by_cases e : j + 1 = i
    · exact Or.inr fun q => h4 ⟨e, q⟩
    · exact Or.inl e
theorem okL_st {M : Mem} {L : List (Option PV)} {i : Nat} {v : PV} (h : okL M L) (hv : okv M v) : okL M (stL L i v) := by
  intro j w hw
  rcases ldL_st v w L i j hw with ⟨h1, h2⟩ | ⟨h1, h2, h3, h4⟩
  · rw [h2]; exact hv
  · exact h j w h2
end
section
/-- calls of a nest mate's private method -/
def NW : List Cond := [.methodLinkNest "TimeKeeper$Peer" 59 ⟨"TimeKeeper", "spread", "([JIJI)J"⟩ "TimeKeeper", .methodLinkNest "TimeKeeper$Row" 79 ⟨"TimeKeeper", "spread", "([JIJI)J"⟩ "TimeKeeper", .methodLinkNest "TimeKeeper$Choice" 122 ⟨"TimeKeeper", "spread", "([JIJI)J"⟩ "TimeKeeper"]
theorem NW_is : ∀ w ∈ NW, ∃ a i x b, w = Cond.methodLinkNest a i x b := by
  intro w hw
  simp only [NW, List.mem_cons, List.not_mem_nil, or_false] at hw
  rcases hw with rfl | rfl | rfl <;> exact ⟨_, _, _, _, rfl⟩
theorem NW_in : ∀ w ∈ NW, w ∈ lw_tbl := by decide +kernel
/-- the texts of exceptions -/
def XS : List (String × Nat × String) := [("TimeKeeper", 44, "n is not 1 .. 8"), ("TimeKeeper", 55, "the tape has no room"), ("TimeKeeper", 63, "no such byte"), ("TimeKeeper", 66, "v is not 0 .. 255"), ("TimeKeeper", 72, "n is not 0 .. 4096"), ("TimeKeeper", 86, "d is not -2000000 .. 2000000"), ("TimeKeeper", 244, "no such peer"), ("TimeKeeper", 163, "stratum is not 0 .. 255"), ("TimeKeeper", 165, "a root number is below 0"), ("TimeKeeper", 171, "out, held or back is not 0 .. 2^40"), ("TimeKeeper", 173, "what is not 0 .. 9"), ("TimeKeeper", 178, "the peer has no sample"), ("TimeKeeper", 201, "no such sample"), ("TimeKeeper", 206, "what is not 0 .. 2"), ("TimeKeeper", 217, "what is not 0 .. 10"), ("TimeKeeper", 223, "no update had survivors yet")]
def XP : List (Nat × Nat) := [(0, 1), (0, 2), (1, 0), (1, 2), (2, 0), (2, 1)]
end
section
/-! THE JUDGEMENT: from this pc, with these locals, stack and memory, the method ends with this outcome and memory -/
abbrev MI : Type := String × MethodName × ByteArray × Nat × Option FieldType × List (Nat × Nat × Nat × Nat) × Nat × Nat
abbrev mO (m : MI) : String := m.1
abbrev mY (m : MI) : MethodName := m.2.1
abbrev mB (m : MI) : ByteArray := m.2.2.1
abbrev mL (m : MI) : Nat := m.2.2.2.1
abbrev mT (m : MI) : Option FieldType := m.2.2.2.2.1
abbrev mH (m : MI) : List (Nat × Nat × Nat × Nat) := m.2.2.2.2.2.1
abbrev mF (m : MI) : Nat := m.2.2.2.2.2.2.1
abbrev mW (m : MI) : Nat := m.2.2.2.2.2.2.2
abbrev PO : Type := Option PV ⊕ Nat
abbrev rV : PO := .inl none
abbrev rI (x : Int32) : PO := .inl (some (vI x))
abbrev rL (x : Int64) : PO := .inl (some (vL x))
abbrev rR (k : Option KK) : PO := .inl (some (vR k))
abbrev tE (e : Nat) : PO := .inr e
def exN : Nat → String
  | 0 => "java/lang/IllegalArgumentException"
  | 1 => "java/lang/IllegalStateException"
  | _ => "java/lang/IndexOutOfBoundsException"
/-- a static field that lies in the first heap, and holds a reference or null -/
def ZS (C n d : String) (B : Heap) (U : State) : Prop := ∃ (c : ClassId) (k : Class) (i : Nat) (f : Field) (a : Nat) (cell : Cell) (v : Value), U.vm.findClass C = some c ∧ U.fieldFound? C n d = some (c, k, i, f) ∧ f.isStatic = true ∧ k.statics = some a ∧ B[a]? = some cell ∧ cell.vm.isStatics = true ∧ cell.cls = c ∧ k.staticTypes[f.slot]? = some f.type ∧ cell.slots[f.slot]? = some v ∧ v.isRef = true
/-- what the tables say: good words, nest mates' calls, the classes' numbers, texts, which exception is which -/
def TB (G : GG) (s : State) : Prop := (∀ w ∈ GW, va_Nw w s) ∧ (∀ w ∈ NW, va_Nw w s) ∧ va_K G.1 classes (tyl G) s ∧ (∀ q ∈ XS, ∃ a, vk_R q.1 q.2.1 q.2.2 a s) ∧ (∀ e, va_Nw (.castable (exN e) (exN e)) s) ∧ (∀ q ∈ XP, va_Nc (exN q.1) (exN q.2) s)
def EX (B : Heap) (s : State) : Prop := ZS Bundle.tN "UNASSIGNED_STACK" Bundle.steD B s ∧ ZS Bundle.tN "SUPPRESSED_SENTINEL" Bundle.listD B s
theorem cast_moved {A C : String} {s U : State} (hvm : s.vm.Alike U.vm) (h : va_Nw (.castable A C) s) : va_Nw (.castable A C) U := by
  simpa [va_Nw, Cond.before, Cond.holds, Cond.value, hvm.findClass, hvm.assignable] using h
theorem TB.warm {G : GG} {s U : State} (hW : s.WarmedH U.vm) (h : TB G s) : TB G U := by
  obtain ⟨h1, h2, h3, h4, h5, h6⟩ := h
  refine ⟨fun w hw => word_at hW (good_of_word (List.mem_filter.mp hw).2) (h1 w hw), fun w hw => ?_, va_K.moved hW.alike h3, fun q hq => ?_, fun e => cast_moved hW.alike (h5 e), fun q hq => va_Nc.moved hW.alike (h6 q hq)⟩
  · have h := h2 w hw
    obtain ⟨a, i, x, b, rfl⟩ := NW_is w hw
    exact va_Nw.warmM hW h
  · obtain ⟨a, ha⟩ := h4 q hq
    exact ⟨a, vk_R.warm hW ha⟩
theorem ZS.moved {C n d : String} {B : Heap} {u U : State} (hvm : u.vm.Alike U.vm) (h : ZS C n d B u) : ZS C n d B U := by
  obtain ⟨c, k, i, f, a, cell, v, h1, h2, h3, h4, h6, h7, h8, h9, h10, h11⟩ := h
  obtain ⟨k', hi', he⟩ := State.fieldFound?_setVm hvm h2
  exact ⟨c, k', i, f, a, cell, v, by rw [hvm.findClass]; exact h1, hi', h3, by rw [he]; exact h4, h6, h7, h8, by rw [he]; exact h9, h10, h11⟩
theorem EX.moved {B : Heap} {u U : State} (hvm : u.vm.Alike U.vm) (h : EX B u) : EX B U := ⟨h.1.moved hvm, h.2.moved hvm⟩
/-- what stays the same in a frame -/
def CX (G : GG) (l : Launch) (mi : MI) (p : Program) (R : Room) (s : State) (mid : MethodId) (meth : Method) (c : Code) (B : Heap) : Prop :=
  p.tables.exec = Jvm.exec ∧ c.code = mB mi ∧ c.maxLocals = mL mi ∧ meth.sig.returnType = mT mi ∧ meth.locks = false ∧ c.exceptionTable.toList = tableOf (mH mi) ∧ s.vm.findClass (mO mi) = some mid.cls ∧ meth.name = (mY mi).name ∧ TB G s ∧ EX B s ∧ mF mi ≤ R.frames ∧ mW mi ≤ R.locals ∧ l.stackTraces = false
/-- what the heap, the locals and the stack hold now -/
def DX (G : GG) (mi : MI) (R : Room) (B : Heap) (M : Mem) (L : List (Option PV)) (st : List PV) (mc ms : Nat) (H : Heap) (locs : List Loc) (cells slots : Nat) (ls : Array Slot) (ad : KK → Nat) : Prop :=
  (cells + mc ≤ R.cells ∧ slots + ms ≤ R.slots) ∧ va_S (fun q => B.size ≤ q) B H locs ∧ HR G B ad M H ∧ LR ad L ls (mL mi) ∧ okL M L ∧ ∀ v ∈ st, okv M v
def oR (ad : KK → Nat) (s : State) (M : Mem) : PO → Outcome → State → Prop
  | .inl v, out, _ => out = .returned (v.map (cv ad)) ∧ ∀ w, v = some w → okv M w
  | .inr e, out, t => ∃ q ce, out = .threw q ∧ t.heap[q]? = some ce ∧ ce.vm = .none ∧ s.vm.findClass (exN e) = some ce.cls
def pE (G : GG) (B : Heap) (below : List Frame) (s : State) (ad : KK → Nat) (nx : Nat) (o : PO) (M' : Mem) (k n : Nat) (t : State) : Prop :=
  ∃ (out : Outcome) (ad' : KK → Nat) (Ls : List Loc), t.status = .running ∧ Ended t below out ∧ s.WarmedH t.vm ∧ s.sameButNew ({ t with vm := s.vm } : State) Ls k n ∧ va_S (fun q => B.size ≤ q) B t.heap Ls ∧ (∀ i, i < nx → ad' (nk i) = ad (nk i)) ∧ nx ≤ M'.2.2.2 ∧ HR G B ad' M' t.heap ∧ oR ad' s M' o out t
def PW (G : GG) (l : Launch) (mi : MI) (pc : Nat) (L : List (Option PV)) (st : List PV) (M : Mem) (o : PO) (M' : Mem) (mc ms : Nat) : Prop :=
  ∀ p e R s mid args below meth c B, CX G l mi p R s mid meth c B → ∀ H locs cells slots ls ad, DX G mi R B M L st mc ms H locs cells slots ls ad →
    W p l e R s mid args below meth c H locs cells slots (pE G B below s ad M.2.2.2 o M' (cells + mc) (slots + ms)) (F0 mid pc ls (st.map (cv ad)))
/-- a method from its entry -/
def PM (G : GG) (l : Launch) (mi : MI) (as : List PV) (M : Mem) (o : PO) (M' : Mem) (mc ms : Nat) : Prop := PW G l mi 0 (padL (mL mi) (entL as)) [] M o M' mc ms
section PR
variable {G : GG} {l : Launch} {mi : MI} {pc : Nat} {L : List (Option PV)} {st : List PV} {M M' : Mem} {o : PO} {mc ms : Nat}
theorem okI (x : Int32) : okv M (vI x) := fun _ h => by cases h
theorem okJ (x : Int64) : okv M (vL x) := fun _ h => by cases h
theorem okN : okv M (vR none) := fun _ h => by cases h
theorem okc {v : PV} (hv : okv M v) (h : ∀ w ∈ st, okv M w) : ∀ w ∈ v :: st, okv M w := fun w hw => (List.mem_cons.mp hw).elim (fun q => by rw [q]; exact hv) (h w)
theorem okt {v : PV} (h : ∀ w ∈ v :: st, okv M w) : ∀ w ∈ st, okv M w := fun w hw => h w (List.mem_cons_of_mem _ hw)
theorem okh {v : PV} (h : ∀ w ∈ v :: st, okv M w) : okv M v := h v List.mem_cons_self
theorem DX.stk {R : Room} {B : Heap} {st' : List PV} {H : Heap} {locs : List Loc} {cells slots : Nat} {ls : Array Slot} {ad : KK → Nat} (D : DX G mi R B M L st mc ms H locs cells slots ls ad) (h : ∀ v ∈ st', okv M v) : DX G mi R B M L st' mc ms H locs cells slots ls ad := ⟨D.1, D.2.1, D.2.2.1, D.2.2.2.1, D.2.2.2.2.1, h⟩
theorem DX.ok {R : Room} {B : Heap} {H : Heap} {locs : List Loc} {cells slots : Nat} {ls : Array Slot} {ad : KK → Nat} (D : DX G mi R B M L st mc ms H locs cells slots ls ad) : ∀ v ∈ st, okv M v := D.2.2.2.2.2
theorem DX.at {R : Room} {B : Heap} {H : Heap} {locs : List Loc} {cells slots : Nat} {ls : Array Slot} {ad : KK → Nat} (D : DX G mi R B M L st mc ms H locs cells slots ls ad) {i : Nat} {v : PV} (h : ldL L i = some v) : ls[i]? = some (.val (cv ad v)) := D.2.2.2.1.2.2 i v h
theorem DX.okat {R : Room} {B : Heap} {H : Heap} {locs : List Loc} {cells slots : Nat} {ls : Array Slot} {ad : KK → Nat} (D : DX G mi R B M L st mc ms H locs cells slots ls ad) {i : Nat} {v : PV} (h : ldL L i = some v) : okv M v := D.2.2.2.2.1 i v h
theorem DX.loc {R : Room} {B : Heap} {st' : List PV} {L' : List (Option PV)} {H : Heap} {locs : List Loc} {cells slots : Nat} {ls ls' : Array Slot} {ad : KK → Nat} (D : DX G mi R B M L st mc ms H locs cells slots ls ad) (h1 : LR ad L' ls' (mL mi)) (h2 : okL M L') (h : ∀ v ∈ st', okv M v) : DX G mi R B M L' st' mc ms H locs cells slots ls' ad := ⟨D.1, D.2.1, D.2.2.1, h1, h2, h⟩

theorem pw_iconst {n : Int} (v : Int32) (hd : decode (mB mi) pc = .ok (.iconst n, 1)) (hv : Int32.ofInt n = v)
    (h : PW G l mi (pc + 1) L (vI v :: st) M o M' mc ms) : PW G l mi pc L (st) M o M' mc ms := by
  intro p e R s mid args below meth c B C H locs cells slots ls ad D
  exact lv_iconst C.1 C.2.1 hd hv (h p e R s mid args below meth c B C H locs cells slots ls ad (D.stk (okc (okI _) D.ok)))
theorem pw_bipush {n : Int} (v : Int32) (hd : decode (mB mi) pc = .ok (.bipush n, 2)) (hv : (Int8.ofInt n).toInt32 = v)
    (h : PW G l mi (pc + 2) L (vI v :: st) M o M' mc ms) : PW G l mi pc L (st) M o M' mc ms := by
  intro p e R s mid args below meth c B C H locs cells slots ls ad D
  exact lv_bipush C.1 C.2.1 hd hv (h p e R s mid args below meth c B C H locs cells slots ls ad (D.stk (okc (okI _) D.ok)))
theorem pw_sipush {n : Int} (v : Int32) (hd : decode (mB mi) pc = .ok (.sipush n, 3)) (hv : (Int16.ofInt n).toInt32 = v)
    (h : PW G l mi (pc + 3) L (vI v :: st) M o M' mc ms) : PW G l mi pc L (st) M o M' mc ms := by
  intro p e R s mid args below meth c B C H locs cells slots ls ad D
  exact lv_sipush C.1 C.2.1 hd hv (h p e R s mid args below meth c B C H locs cells slots ls ad (D.stk (okc (okI _) D.ok)))
theorem pw_lconst {k : Fin 2} (v : Int64) (hd : decode (mB mi) pc = .ok (.lconst k, 1)) (hv : Int64.ofNat k.val = v)
    (h : PW G l mi (pc + 1) L (vL v :: st) M o M' mc ms) : PW G l mi pc L (st) M o M' mc ms := by
  intro p e R s mid args below meth c B C H locs cells slots ls ad D
  exact lv_lconst C.1 C.2.1 hd hv (h p e R s mid args below meth c B C H locs cells slots ls ad (D.stk (okc (okJ _) D.ok)))
theorem pw_aconst_null (hd : decode (mB mi) pc = .ok (.aconst_null, 1))
    (h : PW G l mi (pc + 1) L (vR none :: st) M o M' mc ms) : PW G l mi pc L (st) M o M' mc ms := by
  intro p e R s mid args below meth c B C H locs cells slots ls ad D
  exact lv_null C.1 C.2.1 hd (h p e R s mid args below meth c B C H locs cells slots ls ad (D.stk (okc okN D.ok)))
theorem pw_iload_n {k : Fin 4} {x : Int32} (hd : decode (mB mi) pc = .ok (.iload_n k, 1)) (hl : ldL L k.val = some (vI x))
    (h : PW G l mi (pc + 1) L (vI x :: st) M o M' mc ms) : PW G l mi pc L (st) M o M' mc ms := by
  intro p e R s mid args below meth c B C H locs cells slots ls ad D
  exact lv_iload_n C.1 C.2.1 hd rfl (D.at hl) (h p e R s mid args below meth c B C H locs cells slots ls ad (D.stk (okc (okI _) D.ok)))
theorem pw_iload {i : Nat} {x : Int32} (hd : decode (mB mi) pc = .ok (.iload i, 2)) (hl : ldL L i = some (vI x))
    (h : PW G l mi (pc + 2) L (vI x :: st) M o M' mc ms) : PW G l mi pc L (st) M o M' mc ms := by
  intro p e R s mid args below meth c B C H locs cells slots ls ad D
  exact lv_iload C.1 C.2.1 hd (D.at hl) (h p e R s mid args below meth c B C H locs cells slots ls ad (D.stk (okc (okI _) D.ok)))
theorem pw_lload_n {k : Fin 4} {x : Int64} (hd : decode (mB mi) pc = .ok (.lload_n k, 1)) (hl : ldL L k.val = some (vL x))
    (h : PW G l mi (pc + 1) L (vL x :: st) M o M' mc ms) : PW G l mi pc L (st) M o M' mc ms := by
  intro p e R s mid args below meth c B C H locs cells slots ls ad D
  exact lv_lload_n C.1 C.2.1 hd rfl (D.at hl) (h p e R s mid args below meth c B C H locs cells slots ls ad (D.stk (okc (okJ _) D.ok)))
theorem pw_lload {i : Nat} {x : Int64} (hd : decode (mB mi) pc = .ok (.lload i, 2)) (hl : ldL L i = some (vL x))
    (h : PW G l mi (pc + 2) L (vL x :: st) M o M' mc ms) : PW G l mi pc L (st) M o M' mc ms := by
  intro p e R s mid args below meth c B C H locs cells slots ls ad D
  exact lv_lload C.1 C.2.1 hd (D.at hl) (h p e R s mid args below meth c B C H locs cells slots ls ad (D.stk (okc (okJ _) D.ok)))
theorem pw_aload_n {k : Fin 4} {x : KK} (hd : decode (mB mi) pc = .ok (.aload_n k, 1)) (hl : ldL L k.val = some (vR (some x)))
    (h : PW G l mi (pc + 1) L (vR (some x) :: st) M o M' mc ms) : PW G l mi pc L (st) M o M' mc ms := by
  intro p e R s mid args below meth c B C H locs cells slots ls ad D
  exact lv_aload_n C.1 C.2.1 hd rfl (D.at hl) (h p e R s mid args below meth c B C H locs cells slots ls ad (D.stk (okc (D.okat hl) D.ok)))
theorem pw_aload {i : Nat} {x : KK} (hd : decode (mB mi) pc = .ok (.aload i, 2)) (hl : ldL L i = some (vR (some x)))
    (h : PW G l mi (pc + 2) L (vR (some x) :: st) M o M' mc ms) : PW G l mi pc L (st) M o M' mc ms := by
  intro p e R s mid args below meth c B C H locs cells slots ls ad D
  exact lv_aload C.1 C.2.1 hd (D.at hl) (h p e R s mid args below meth c B C H locs cells slots ls ad (D.stk (okc (D.okat hl) D.ok)))
theorem pw_istore_n {k : Fin 4} {x : Int32} (hd : decode (mB mi) pc = .ok (.istore_n k, 1)) (hn : k.val < mL mi)
    (h : PW G l mi (pc + 1) (stL L k.val (vI x)) st M o M' mc ms) : PW G l mi pc L (vI x :: st) M o M' mc ms := by
  intro p e R s mid args below meth c B C H locs cells slots ls ad D
  exact lv_istore_n C.1 C.2.1 hd rfl (LR_has D.2.2.2.1) hn rfl (fun ls2 hl2 => h p e R s mid args below meth c B C H locs cells slots ls2 ad (D.loc (LR_st (v := vI x) rfl hl2) (okL_st D.2.2.2.2.1 (okI _)) (okt D.ok)))
theorem pw_istore {i : Nat} {x : Int32} (hd : decode (mB mi) pc = .ok (.istore i, 2)) (hn : i < mL mi)
    (h : PW G l mi (pc + 2) (stL L i (vI x)) st M o M' mc ms) : PW G l mi pc L (vI x :: st) M o M' mc ms := by
  intro p e R s mid args below meth c B C H locs cells slots ls ad D
  exact lv_istore C.1 C.2.1 hd (LR_has D.2.2.2.1) hn rfl (fun ls2 hl2 => h p e R s mid args below meth c B C H locs cells slots ls2 ad (D.loc (LR_st (v := vI x) rfl hl2) (okL_st D.2.2.2.2.1 (okI _)) (okt D.ok)))
theorem pw_lstore_n {k : Fin 4} {x : Int64} (hd : decode (mB mi) pc = .ok (.lstore_n k, 1)) (hn : k.val + 1 < mL mi)
    (h : PW G l mi (pc + 1) (stL L k.val (vL x)) st M o M' mc ms) : PW G l mi pc L (vL x :: st) M o M' mc ms := by
  intro p e R s mid args below meth c B C H locs cells slots ls ad D
  exact lv_lstore_n C.1 C.2.1 hd rfl (LR_has D.2.2.2.1) hn rfl (fun ls2 hl2 => h p e R s mid args below meth c B C H locs cells slots ls2 ad (D.loc (LR_st2 (v := vL x) rfl hl2) (okL_st D.2.2.2.2.1 (okJ _)) (okt D.ok)))
theorem pw_lstore {i : Nat} {x : Int64} (hd : decode (mB mi) pc = .ok (.lstore i, 2)) (hn : i + 1 < mL mi)
    (h : PW G l mi (pc + 2) (stL L i (vL x)) st M o M' mc ms) : PW G l mi pc L (vL x :: st) M o M' mc ms := by
  intro p e R s mid args below meth c B C H locs cells slots ls ad D
  exact lv_lstore C.1 C.2.1 hd (LR_has D.2.2.2.1) hn rfl (fun ls2 hl2 => h p e R s mid args below meth c B C H locs cells slots ls2 ad (D.loc (LR_st2 (v := vL x) rfl hl2) (okL_st D.2.2.2.2.1 (okJ _)) (okt D.ok)))
theorem pw_astore_n {k : Fin 4} {x : KK} (hd : decode (mB mi) pc = .ok (.astore_n k, 1)) (hn : k.val < mL mi)
    (h : PW G l mi (pc + 1) (stL L k.val (vR (some x))) st M o M' mc ms) : PW G l mi pc L (vR (some x) :: st) M o M' mc ms := by
  intro p e R s mid args below meth c B C H locs cells slots ls ad D
  exact lv_astore_n C.1 C.2.1 hd rfl (LR_has D.2.2.2.1) hn rfl (fun ls2 hl2 => h p e R s mid args below meth c B C H locs cells slots ls2 ad (D.loc (LR_st (v := vR (some x)) rfl hl2) (okL_st D.2.2.2.2.1 (okh D.ok)) (okt D.ok)))
theorem pw_astore {i : Nat} {x : KK} (hd : decode (mB mi) pc = .ok (.astore i, 2)) (hn : i < mL mi)
    (h : PW G l mi (pc + 2) (stL L i (vR (some x))) st M o M' mc ms) : PW G l mi pc L (vR (some x) :: st) M o M' mc ms := by
  intro p e R s mid args below meth c B C H locs cells slots ls ad D
  exact lv_astore C.1 C.2.1 hd (LR_has D.2.2.2.1) hn rfl (fun ls2 hl2 => h p e R s mid args below meth c B C H locs cells slots ls2 ad (D.loc (LR_st (v := vR (some x)) rfl hl2) (okL_st D.2.2.2.2.1 (okh D.ok)) (okt D.ok)))
theorem pw_iinc {i : Nat} {n : Int} {x : Int32} (v : Int32) (hd : decode (mB mi) pc = .ok (.iinc i n, 3)) (hl : ldL L i = some (vI x)) (hv : Int32.ofInt n = v) (hn : i < mL mi)
    (h : PW G l mi (pc + 3) (stL L i (vI (x + v))) st M o M' mc ms) : PW G l mi pc L st M o M' mc ms := by
  subst hv
  intro p e R s mid args below meth c B C H locs cells slots ls ad D
  obtain ⟨k, hk⟩ := List.getElem?_of_mem (mem_asc.mpr ⟨_, hl, rfl⟩ : (i, cv ad (vI x)) ∈ asc ad L)
  exact lv_iinc C.1 C.2.1 hd (LR_has D.2.2.2.1) hk rfl hn rfl (fun ls2 hl2 => h p e R s mid args below meth c B C H locs cells slots ls2 ad (D.loc (LR_st (v := vI (x + Int32.ofInt n)) rfl hl2) (okL_st D.2.2.2.2.1 (okI _)) D.ok))
theorem pw_iadd {x y : Int32} (hd : decode (mB mi) pc = .ok (.iadd, 1))
    (h : PW G l mi (pc + 1) L (vI (x + y) :: st) M o M' mc ms) : PW G l mi pc L (vI y :: vI x :: st) M o M' mc ms := by
  intro p e R s mid args below meth c B C H locs cells slots ls ad D
  exact lv_iadd C.1 C.2.1 hd (h p e R s mid args below meth c B C H locs cells slots ls ad (D.stk (okc (okI _) (okt (okt D.ok)))))
theorem pw_isub {x y : Int32} (hd : decode (mB mi) pc = .ok (.isub, 1))
    (h : PW G l mi (pc + 1) L (vI (x - y) :: st) M o M' mc ms) : PW G l mi pc L (vI y :: vI x :: st) M o M' mc ms := by
  intro p e R s mid args below meth c B C H locs cells slots ls ad D
  exact lv_isub C.1 C.2.1 hd (h p e R s mid args below meth c B C H locs cells slots ls ad (D.stk (okc (okI _) (okt (okt D.ok)))))
theorem pw_imul {x y : Int32} (hd : decode (mB mi) pc = .ok (.imul, 1))
    (h : PW G l mi (pc + 1) L (vI (x * y) :: st) M o M' mc ms) : PW G l mi pc L (vI y :: vI x :: st) M o M' mc ms := by
  intro p e R s mid args below meth c B C H locs cells slots ls ad D
  exact lv_imul C.1 C.2.1 hd (h p e R s mid args below meth c B C H locs cells slots ls ad (D.stk (okc (okI _) (okt (okt D.ok)))))
theorem pw_iand {x y : Int32} (hd : decode (mB mi) pc = .ok (.iand, 1))
    (h : PW G l mi (pc + 1) L (vI (x &&& y) :: st) M o M' mc ms) : PW G l mi pc L (vI y :: vI x :: st) M o M' mc ms := by
  intro p e R s mid args below meth c B C H locs cells slots ls ad D
  exact lv_iand C.1 C.2.1 hd (h p e R s mid args below meth c B C H locs cells slots ls ad (D.stk (okc (okI _) (okt (okt D.ok)))))
theorem pw_ior {x y : Int32} (hd : decode (mB mi) pc = .ok (.ior, 1))
    (h : PW G l mi (pc + 1) L (vI (x ||| y) :: st) M o M' mc ms) : PW G l mi pc L (vI y :: vI x :: st) M o M' mc ms := by
  intro p e R s mid args below meth c B C H locs cells slots ls ad D
  exact lv_ior C.1 C.2.1 hd (h p e R s mid args below meth c B C H locs cells slots ls ad (D.stk (okc (okI _) (okt (okt D.ok)))))
theorem pw_ixor {x y : Int32} (hd : decode (mB mi) pc = .ok (.ixor, 1))
    (h : PW G l mi (pc + 1) L (vI (x ^^^ y) :: st) M o M' mc ms) : PW G l mi pc L (vI y :: vI x :: st) M o M' mc ms := by
  intro p e R s mid args below meth c B C H locs cells slots ls ad D
  exact lv_ixor C.1 C.2.1 hd (h p e R s mid args below meth c B C H locs cells slots ls ad (D.stk (okc (okI _) (okt (okt D.ok)))))
theorem pw_ishl {x y : Int32} (hd : decode (mB mi) pc = .ok (.ishl, 1))
    (h : PW G l mi (pc + 1) L (vI (x <<< (y &&& 31)) :: st) M o M' mc ms) : PW G l mi pc L (vI y :: vI x :: st) M o M' mc ms := by
  intro p e R s mid args below meth c B C H locs cells slots ls ad D
  exact lv_ishl C.1 C.2.1 hd (h p e R s mid args below meth c B C H locs cells slots ls ad (D.stk (okc (okI _) (okt (okt D.ok)))))
theorem pw_ishr {x y : Int32} (hd : decode (mB mi) pc = .ok (.ishr, 1))
    (h : PW G l mi (pc + 1) L (vI (x >>> (y &&& 31)) :: st) M o M' mc ms) : PW G l mi pc L (vI y :: vI x :: st) M o M' mc ms := by
  intro p e R s mid args below meth c B C H locs cells slots ls ad D
  exact lv_ishr C.1 C.2.1 hd (h p e R s mid args below meth c B C H locs cells slots ls ad (D.stk (okc (okI _) (okt (okt D.ok)))))
theorem pw_idiv {x y : Int32} (hd : decode (mB mi) pc = .ok (.idiv, 1)) (hne : ¬ y = 0)
    (h : PW G l mi (pc + 1) L (vI (x / y) :: st) M o M' mc ms) : PW G l mi pc L (vI y :: vI x :: st) M o M' mc ms := by
  intro p e R s mid args below meth c B C H locs cells slots ls ad D
  exact lv_idiv C.1 C.2.1 hd hne (h p e R s mid args below meth c B C H locs cells slots ls ad (D.stk (okc (okI _) (okt (okt D.ok)))))
theorem pw_irem {x y : Int32} (hd : decode (mB mi) pc = .ok (.irem, 1)) (hne : ¬ y = 0)
    (h : PW G l mi (pc + 1) L (vI (x - x / y * y) :: st) M o M' mc ms) : PW G l mi pc L (vI y :: vI x :: st) M o M' mc ms := by
  intro p e R s mid args below meth c B C H locs cells slots ls ad D
  exact lv_irem C.1 C.2.1 hd hne (h p e R s mid args below meth c B C H locs cells slots ls ad (D.stk (okc (okI _) (okt (okt D.ok)))))
theorem pw_ladd {x y : Int64} (hd : decode (mB mi) pc = .ok (.ladd, 1))
    (h : PW G l mi (pc + 1) L (vL (x + y) :: st) M o M' mc ms) : PW G l mi pc L (vL y :: vL x :: st) M o M' mc ms := by
  intro p e R s mid args below meth c B C H locs cells slots ls ad D
  exact lv_ladd C.1 C.2.1 hd (h p e R s mid args below meth c B C H locs cells slots ls ad (D.stk (okc (okJ _) (okt (okt D.ok)))))
theorem pw_lsub {x y : Int64} (hd : decode (mB mi) pc = .ok (.lsub, 1))
    (h : PW G l mi (pc + 1) L (vL (x - y) :: st) M o M' mc ms) : PW G l mi pc L (vL y :: vL x :: st) M o M' mc ms := by
  intro p e R s mid args below meth c B C H locs cells slots ls ad D
  exact lv_lsub C.1 C.2.1 hd (h p e R s mid args below meth c B C H locs cells slots ls ad (D.stk (okc (okJ _) (okt (okt D.ok)))))
theorem pw_lmul {x y : Int64} (hd : decode (mB mi) pc = .ok (.lmul, 1))
    (h : PW G l mi (pc + 1) L (vL (x * y) :: st) M o M' mc ms) : PW G l mi pc L (vL y :: vL x :: st) M o M' mc ms := by
  intro p e R s mid args below meth c B C H locs cells slots ls ad D
  exact lv_lmul C.1 C.2.1 hd (h p e R s mid args below meth c B C H locs cells slots ls ad (D.stk (okc (okJ _) (okt (okt D.ok)))))
theorem pw_land {x y : Int64} (hd : decode (mB mi) pc = .ok (.land, 1))
    (h : PW G l mi (pc + 1) L (vL (x &&& y) :: st) M o M' mc ms) : PW G l mi pc L (vL y :: vL x :: st) M o M' mc ms := by
  intro p e R s mid args below meth c B C H locs cells slots ls ad D
  exact lv_land C.1 C.2.1 hd (h p e R s mid args below meth c B C H locs cells slots ls ad (D.stk (okc (okJ _) (okt (okt D.ok)))))
theorem pw_lor {x y : Int64} (hd : decode (mB mi) pc = .ok (.lor, 1))
    (h : PW G l mi (pc + 1) L (vL (x ||| y) :: st) M o M' mc ms) : PW G l mi pc L (vL y :: vL x :: st) M o M' mc ms := by
  intro p e R s mid args below meth c B C H locs cells slots ls ad D
  exact lv_lor C.1 C.2.1 hd (h p e R s mid args below meth c B C H locs cells slots ls ad (D.stk (okc (okJ _) (okt (okt D.ok)))))
theorem pw_lxor {x y : Int64} (hd : decode (mB mi) pc = .ok (.lxor, 1))
    (h : PW G l mi (pc + 1) L (vL (x ^^^ y) :: st) M o M' mc ms) : PW G l mi pc L (vL y :: vL x :: st) M o M' mc ms := by
  intro p e R s mid args below meth c B C H locs cells slots ls ad D
  exact lv_lxor C.1 C.2.1 hd (h p e R s mid args below meth c B C H locs cells slots ls ad (D.stk (okc (okJ _) (okt (okt D.ok)))))
theorem pw_ldiv {x y : Int64} (hd : decode (mB mi) pc = .ok (.ldiv, 1)) (hne : ¬ y = 0)
    (h : PW G l mi (pc + 1) L (vL (x / y) :: st) M o M' mc ms) : PW G l mi pc L (vL y :: vL x :: st) M o M' mc ms := by
  intro p e R s mid args below meth c B C H locs cells slots ls ad D
  exact lv_ldiv C.1 C.2.1 hd hne (h p e R s mid args below meth c B C H locs cells slots ls ad (D.stk (okc (okJ _) (okt (okt D.ok)))))
theorem pw_lneg {x : Int64} (hd : decode (mB mi) pc = .ok (.lneg, 1))
    (h : PW G l mi (pc + 1) L (vL (-x) :: st) M o M' mc ms) : PW G l mi pc L (vL x :: st) M o M' mc ms := by
  intro p e R s mid args below meth c B C H locs cells slots ls ad D
  exact lv_lneg C.1 C.2.1 hd (h p e R s mid args below meth c B C H locs cells slots ls ad (D.stk (okc (okJ _) (okt D.ok))))
theorem pw_lushr {x : Int64} {y : Int32} (hd : decode (mB mi) pc = .ok (.lushr, 1))
    (h : PW G l mi (pc + 1) L (vL ((x.toUInt64 >>> (y.toInt64.toUInt64 &&& Int64.toUInt64 63)).toInt64) :: st) M o M' mc ms) : PW G l mi pc L (vI y :: vL x :: st) M o M' mc ms := by
  intro p e R s mid args below meth c B C H locs cells slots ls ad D
  exact lv_lushr C.1 C.2.1 hd rfl (h p e R s mid args below meth c B C H locs cells slots ls ad (D.stk (okc (okJ _) (okt (okt D.ok)))))
theorem pw_lshl {x : Int64} {y : Int32} (hd : decode (mB mi) pc = .ok (.lshl, 1))
    (h : PW G l mi (pc + 1) L (vL (x <<< (y.toInt64 &&& 63)) :: st) M o M' mc ms) : PW G l mi pc L (vI y :: vL x :: st) M o M' mc ms := by
  intro p e R s mid args below meth c B C H locs cells slots ls ad D
  exact lv_lshl C.1 C.2.1 hd rfl (h p e R s mid args below meth c B C H locs cells slots ls ad (D.stk (okc (okJ _) (okt (okt D.ok)))))
theorem pw_lshr {x : Int64} {y : Int32} (hd : decode (mB mi) pc = .ok (.lshr, 1))
    (h : PW G l mi (pc + 1) L (vL (x >>> (y.toInt64 &&& 63)) :: st) M o M' mc ms) : PW G l mi pc L (vI y :: vL x :: st) M o M' mc ms := by
  intro p e R s mid args below meth c B C H locs cells slots ls ad D
  exact lv_lshr C.1 C.2.1 hd rfl (h p e R s mid args below meth c B C H locs cells slots ls ad (D.stk (okc (okJ _) (okt (okt D.ok)))))
theorem pw_i2l {x : Int32} (hd : decode (mB mi) pc = .ok (.i2l, 1))
    (h : PW G l mi (pc + 1) L (vL x.toInt64 :: st) M o M' mc ms) : PW G l mi pc L (vI x :: st) M o M' mc ms := by
  intro p e R s mid args below meth c B C H locs cells slots ls ad D
  exact lv_i2l C.1 C.2.1 hd rfl (h p e R s mid args below meth c B C H locs cells slots ls ad (D.stk (okc (okJ _) (okt D.ok))))
theorem pw_l2i {x : Int64} (hd : decode (mB mi) pc = .ok (.l2i, 1))
    (h : PW G l mi (pc + 1) L (vI x.toInt32 :: st) M o M' mc ms) : PW G l mi pc L (vL x :: st) M o M' mc ms := by
  intro p e R s mid args below meth c B C H locs cells slots ls ad D
  exact lv_l2i C.1 C.2.1 hd rfl (h p e R s mid args below meth c B C H locs cells slots ls ad (D.stk (okc (okI _) (okt D.ok))))
theorem pw_lcmp {x y : Int64} (hd : decode (mB mi) pc = .ok (.lcmp, 1))
    (h : PW G l mi (pc + 1) L (vI (lg_cmp x y) :: st) M o M' mc ms) : PW G l mi pc L (vL y :: vL x :: st) M o M' mc ms := by
  intro p e R s mid args below meth c B C H locs cells slots ls ad D
  exact W.lcmp C.1 C.2.1 hd (h p e R s mid args below meth c B C H locs cells slots ls ad (D.stk (okc (okI _) (okt (okt D.ok)))))
theorem pw_dup {v : PV} (hd : decode (mB mi) pc = .ok (.dup, 1)) (hc : cat v = 1)
    (h : PW G l mi (pc + 1) L (v :: v :: st) M o M' mc ms) : PW G l mi pc L (v :: st) M o M' mc ms := by
  intro p e R s mid args below meth c B C H locs cells slots ls ad D
  exact lv_dup C.1 C.2.1 hd (by rw [cv_cat]; exact hc) (h p e R s mid args below meth c B C H locs cells slots ls ad (D.stk (okc (okh D.ok) D.ok)))
theorem pw_pop {v : PV} (hd : decode (mB mi) pc = .ok (.pop, 1)) (hc : cat v = 1)
    (h : PW G l mi (pc + 1) L (st) M o M' mc ms) : PW G l mi pc L (v :: st) M o M' mc ms := by
  intro p e R s mid args below meth c B C H locs cells slots ls ad D
  exact lv_pop C.1 C.2.1 hd (by rw [cv_cat]; exact hc) (h p e R s mid args below meth c B C H locs cells slots ls ad (D.stk (okt D.ok)))
theorem pw_dup2_11 {v w : PV} (hd : decode (mB mi) pc = .ok (.dup2, 1)) (hc : cat v = 1) (hc2 : cat w = 1)
    (h : PW G l mi (pc + 1) L (v :: w :: v :: w :: st) M o M' mc ms) : PW G l mi pc L (v :: w :: st) M o M' mc ms := by
  intro p e R s mid args below meth c B C H locs cells slots ls ad D
  exact lv_dup2_11 C.1 C.2.1 hd (by rw [cv_cat]; exact hc) (by rw [cv_cat]; exact hc2) (h p e R s mid args below meth c B C H locs cells slots ls ad (D.stk (okc (okh D.ok) (okc (okh (okt D.ok)) D.ok))))
theorem pw_dup2_2 {v : PV} (hd : decode (mB mi) pc = .ok (.dup2, 1)) (hc : cat v = 2)
    (h : PW G l mi (pc + 1) L (v :: v :: st) M o M' mc ms) : PW G l mi pc L (v :: st) M o M' mc ms := by
  intro p e R s mid args below meth c B C H locs cells slots ls ad D
  exact lv_dup2_2 C.1 C.2.1 hd (by rw [cv_cat]; exact hc) (h p e R s mid args below meth c B C H locs cells slots ls ad (D.stk (okc (okh D.ok) D.ok)))
theorem pw_if_eq {x : Int32} {off : Int} {tgt : Nat} (hd : decode (mB mi) pc = .ok (.ifCond .eq off, 3)) (ht : (pc : Int) + off = (tgt : Int))
    (kt : x = 0 → PW G l mi tgt L st M o M' mc ms) (kf : ¬ x = 0 → PW G l mi (pc + 3) L st M o M' mc ms) : PW G l mi pc L (vI x :: st) M o M' mc ms := by
  intro p e R s mid args below meth c B C H locs cells slots ls ad D
  exact lv_if_eq C.1 C.2.1 hd ht (fun q => kt q p e R s mid args below meth c B C H locs cells slots ls ad (D.stk (okt D.ok))) (fun q => kf q p e R s mid args below meth c B C H locs cells slots ls ad (D.stk (okt D.ok)))
theorem pw_icmp_eq {x y : Int32} {off : Int} {tgt : Nat} (hd : decode (mB mi) pc = .ok (.if_icmp .eq off, 3)) (ht : (pc : Int) + off = (tgt : Int))
    (kt : x = y → PW G l mi tgt L st M o M' mc ms) (kf : ¬ x = y → PW G l mi (pc + 3) L st M o M' mc ms) : PW G l mi pc L (vI y :: vI x :: st) M o M' mc ms := by
  intro p e R s mid args below meth c B C H locs cells slots ls ad D
  exact lv_icmp_eq C.1 C.2.1 hd ht (fun q => kt q p e R s mid args below meth c B C H locs cells slots ls ad (D.stk (okt (okt D.ok)))) (fun q => kf q p e R s mid args below meth c B C H locs cells slots ls ad (D.stk (okt (okt D.ok))))
theorem pw_if_ne {x : Int32} {off : Int} {tgt : Nat} (hd : decode (mB mi) pc = .ok (.ifCond .ne off, 3)) (ht : (pc : Int) + off = (tgt : Int))
    (kt : ¬ x = 0 → PW G l mi tgt L st M o M' mc ms) (kf : x = 0 → PW G l mi (pc + 3) L st M o M' mc ms) : PW G l mi pc L (vI x :: st) M o M' mc ms := by
  intro p e R s mid args below meth c B C H locs cells slots ls ad D
  exact lv_if_ne C.1 C.2.1 hd ht (fun q => kt q p e R s mid args below meth c B C H locs cells slots ls ad (D.stk (okt D.ok))) (fun q => kf q p e R s mid args below meth c B C H locs cells slots ls ad (D.stk (okt D.ok)))
theorem pw_icmp_ne {x y : Int32} {off : Int} {tgt : Nat} (hd : decode (mB mi) pc = .ok (.if_icmp .ne off, 3)) (ht : (pc : Int) + off = (tgt : Int))
    (kt : ¬ x = y → PW G l mi tgt L st M o M' mc ms) (kf : x = y → PW G l mi (pc + 3) L st M o M' mc ms) : PW G l mi pc L (vI y :: vI x :: st) M o M' mc ms := by
  intro p e R s mid args below meth c B C H locs cells slots ls ad D
  exact lv_icmp_ne C.1 C.2.1 hd ht (fun q => kt q p e R s mid args below meth c B C H locs cells slots ls ad (D.stk (okt (okt D.ok)))) (fun q => kf q p e R s mid args below meth c B C H locs cells slots ls ad (D.stk (okt (okt D.ok))))
theorem pw_if_lt {x : Int32} {off : Int} {tgt : Nat} (hd : decode (mB mi) pc = .ok (.ifCond .lt off, 3)) (ht : (pc : Int) + off = (tgt : Int))
    (kt : x < 0 → PW G l mi tgt L st M o M' mc ms) (kf : ¬ x < 0 → PW G l mi (pc + 3) L st M o M' mc ms) : PW G l mi pc L (vI x :: st) M o M' mc ms := by
  intro p e R s mid args below meth c B C H locs cells slots ls ad D
  exact lv_if_lt C.1 C.2.1 hd ht (fun q => kt q p e R s mid args below meth c B C H locs cells slots ls ad (D.stk (okt D.ok))) (fun q => kf q p e R s mid args below meth c B C H locs cells slots ls ad (D.stk (okt D.ok)))
theorem pw_icmp_lt {x y : Int32} {off : Int} {tgt : Nat} (hd : decode (mB mi) pc = .ok (.if_icmp .lt off, 3)) (ht : (pc : Int) + off = (tgt : Int))
    (kt : x < y → PW G l mi tgt L st M o M' mc ms) (kf : ¬ x < y → PW G l mi (pc + 3) L st M o M' mc ms) : PW G l mi pc L (vI y :: vI x :: st) M o M' mc ms := by
  intro p e R s mid args below meth c B C H locs cells slots ls ad D
  exact lv_icmp_lt C.1 C.2.1 hd ht (fun q => kt q p e R s mid args below meth c B C H locs cells slots ls ad (D.stk (okt (okt D.ok)))) (fun q => kf q p e R s mid args below meth c B C H locs cells slots ls ad (D.stk (okt (okt D.ok))))
theorem pw_if_ge {x : Int32} {off : Int} {tgt : Nat} (hd : decode (mB mi) pc = .ok (.ifCond .ge off, 3)) (ht : (pc : Int) + off = (tgt : Int))
    (kt : 0 ≤ x → PW G l mi tgt L st M o M' mc ms) (kf : ¬ 0 ≤ x → PW G l mi (pc + 3) L st M o M' mc ms) : PW G l mi pc L (vI x :: st) M o M' mc ms := by
  intro p e R s mid args below meth c B C H locs cells slots ls ad D
  exact lv_if_ge C.1 C.2.1 hd ht (fun q => kt q p e R s mid args below meth c B C H locs cells slots ls ad (D.stk (okt D.ok))) (fun q => kf q p e R s mid args below meth c B C H locs cells slots ls ad (D.stk (okt D.ok)))
theorem pw_icmp_ge {x y : Int32} {off : Int} {tgt : Nat} (hd : decode (mB mi) pc = .ok (.if_icmp .ge off, 3)) (ht : (pc : Int) + off = (tgt : Int))
    (kt : y ≤ x → PW G l mi tgt L st M o M' mc ms) (kf : ¬ y ≤ x → PW G l mi (pc + 3) L st M o M' mc ms) : PW G l mi pc L (vI y :: vI x :: st) M o M' mc ms := by
  intro p e R s mid args below meth c B C H locs cells slots ls ad D
  exact lv_icmp_ge C.1 C.2.1 hd ht (fun q => kt q p e R s mid args below meth c B C H locs cells slots ls ad (D.stk (okt (okt D.ok)))) (fun q => kf q p e R s mid args below meth c B C H locs cells slots ls ad (D.stk (okt (okt D.ok))))
theorem pw_if_gt {x : Int32} {off : Int} {tgt : Nat} (hd : decode (mB mi) pc = .ok (.ifCond .gt off, 3)) (ht : (pc : Int) + off = (tgt : Int))
    (kt : 0 < x → PW G l mi tgt L st M o M' mc ms) (kf : ¬ 0 < x → PW G l mi (pc + 3) L st M o M' mc ms) : PW G l mi pc L (vI x :: st) M o M' mc ms := by
  intro p e R s mid args below meth c B C H locs cells slots ls ad D
  exact lv_if_gt C.1 C.2.1 hd ht (fun q => kt q p e R s mid args below meth c B C H locs cells slots ls ad (D.stk (okt D.ok))) (fun q => kf q p e R s mid args below meth c B C H locs cells slots ls ad (D.stk (okt D.ok)))
theorem pw_icmp_gt {x y : Int32} {off : Int} {tgt : Nat} (hd : decode (mB mi) pc = .ok (.if_icmp .gt off, 3)) (ht : (pc : Int) + off = (tgt : Int))
    (kt : y < x → PW G l mi tgt L st M o M' mc ms) (kf : ¬ y < x → PW G l mi (pc + 3) L st M o M' mc ms) : PW G l mi pc L (vI y :: vI x :: st) M o M' mc ms := by
  intro p e R s mid args below meth c B C H locs cells slots ls ad D
  exact lv_icmp_gt C.1 C.2.1 hd ht (fun q => kt q p e R s mid args below meth c B C H locs cells slots ls ad (D.stk (okt (okt D.ok)))) (fun q => kf q p e R s mid args below meth c B C H locs cells slots ls ad (D.stk (okt (okt D.ok))))
theorem pw_if_le {x : Int32} {off : Int} {tgt : Nat} (hd : decode (mB mi) pc = .ok (.ifCond .le off, 3)) (ht : (pc : Int) + off = (tgt : Int))
    (kt : x ≤ 0 → PW G l mi tgt L st M o M' mc ms) (kf : ¬ x ≤ 0 → PW G l mi (pc + 3) L st M o M' mc ms) : PW G l mi pc L (vI x :: st) M o M' mc ms := by
  intro p e R s mid args below meth c B C H locs cells slots ls ad D
  exact lv_if_le C.1 C.2.1 hd ht (fun q => kt q p e R s mid args below meth c B C H locs cells slots ls ad (D.stk (okt D.ok))) (fun q => kf q p e R s mid args below meth c B C H locs cells slots ls ad (D.stk (okt D.ok)))
theorem pw_icmp_le {x y : Int32} {off : Int} {tgt : Nat} (hd : decode (mB mi) pc = .ok (.if_icmp .le off, 3)) (ht : (pc : Int) + off = (tgt : Int))
    (kt : x ≤ y → PW G l mi tgt L st M o M' mc ms) (kf : ¬ x ≤ y → PW G l mi (pc + 3) L st M o M' mc ms) : PW G l mi pc L (vI y :: vI x :: st) M o M' mc ms := by
  intro p e R s mid args below meth c B C H locs cells slots ls ad D
  exact lv_icmp_le C.1 C.2.1 hd ht (fun q => kt q p e R s mid args below meth c B C H locs cells slots ls ad (D.stk (okt (okt D.ok)))) (fun q => kf q p e R s mid args below meth c B C H locs cells slots ls ad (D.stk (okt (okt D.ok))))
theorem pw_goto {off : Int} {tgt : Nat} (hd : decode (mB mi) pc = .ok (.goto off, 3)) (ht : (pc : Int) + off = (tgt : Int)) (h : PW G l mi tgt L st M o M' mc ms) : PW G l mi pc L st M o M' mc ms := by
  intro p e R s mid args below meth c B C H locs cells slots ls ad D
  exact lv_goto C.1 C.2.1 hd ht (h p e R s mid args below meth c B C H locs cells slots ls ad D)
theorem pw_tableOut {dflt lo hi : Int} {offs : Array Int} {len : Nat} {x : Int32} {tgt : Nat} (hd : decode (mB mi) pc = .ok (.tableswitch dflt lo hi offs, len)) (hx : x.toInt < lo ∨ hi < x.toInt) (ht : (pc : Int) + dflt = (tgt : Int))
    (h : PW G l mi tgt L st M o M' mc ms) : PW G l mi pc L (vI x :: st) M o M' mc ms := by
  intro p e R s mid args below meth c B C H locs cells slots ls ad D
  exact lv_tableOut C.1 C.2.1 hd hx ht (h p e R s mid args below meth c B C H locs cells slots ls ad (D.stk (okt D.ok)))
theorem pw_tableIn {dflt lo hi : Int} {offs : Array Int} {len : Nat} {x : Int32} {off : Int} {tgt : Nat} (hd : decode (mB mi) pc = .ok (.tableswitch dflt lo hi offs, len)) (h1 : ¬ x.toInt < lo) (h2 : ¬ hi < x.toInt) (ho : offs[(x.toInt - lo).toNat]? = some off) (ht : (pc : Int) + off = (tgt : Int))
    (h : PW G l mi tgt L st M o M' mc ms) : PW G l mi pc L (vI x :: st) M o M' mc ms := by
  intro p e R s mid args below meth c B C H locs cells slots ls ad D
  exact lv_tableIn C.1 C.2.1 hd h1 h2 ho ht (h p e R s mid args below meth c B C H locs cells slots ls ad (D.stk (okt D.ok)))
end PR
end
section
/-! rows that read and write the heap -/
section PH
variable {G : GG} {l : Launch} {mi : MI} {pc : Nat} {L : List (Option PV)} {st : List PV} {M M' : Mem} {o : PO} {mc ms : Nat}
/-- a place of a pool is the field j of the class ci -/
def FL (own : String) (idx ci j : Nat) : Prop := ci < 7 ∧ j < nfl ci ∧ Cond.fieldLink own idx (cT ci j).1 (cT ci j).2.1 (cT ci j).2.2.1 ∈ GW
theorem TB.hts {G : GG} {s : State} (h : TB G s) (args : Array Value) : ∀ w ∈ GW, w.before args s = true := fun w hw => word_at (State.WarmedH.refl s) (good_of_word (List.mem_filter.mp hw).2) (h.1 w hw)
theorem HR.obj {B : Heap} {ad : KK → Nat} {H : Heap} {k : KK} {ci : Nat} (hs : shp k = (0, ci)) (ha : al M k) : ∃ n, n < M.2.2.2 ∧ nk n = k ∧ (wl G ad M)[n]? = some (ad k, .inr (ci, (List.range (nfl ci)).map (fun j => fvl ad M k j (fty ci j)))) := by
  obtain ⟨n, hn, hk⟩ := ha
  refine ⟨n, hn, hk, ?_⟩
  rw [wl_at hn, hk]
  simp only [cE, hs]
theorem HR.arI {B : Heap} {ad : KK → Nat} {H : Heap} {k : KK} {z : Nat} (hs : shp k = (1, z)) (ha : al M k) : ∃ n, n < M.2.2.2 ∧ nk n = k ∧ (wl G ad M)[n]? = some (ad k, .inl (G.2 0, z, .inl (M.1 k))) := by
  obtain ⟨n, hn, hk⟩ := ha
  refine ⟨n, hn, hk, ?_⟩
  rw [wl_at hn, hk]
  simp only [cE, hs]
theorem HR.arL {B : Heap} {ad : KK → Nat} {H : Heap} {k : KK} {z : Nat} (hs : shp k = (2, z)) (ha : al M k) : ∃ n, n < M.2.2.2 ∧ nk n = k ∧ (wl G ad M)[n]? = some (ad k, .inl (G.2 1, z, .inr (.inl (M.2.1 k)))) := by
  obtain ⟨n, hn, hk⟩ := ha
  refine ⟨n, hn, hk, ?_⟩
  rw [wl_at hn, hk]
  simp only [cE, hs]
theorem HR.arR {B : Heap} {ad : KK → Nat} {H : Heap} {k : KK} {z : Nat} (hs : shp k = (3, z)) (ha : al M k) : ∃ n, n < M.2.2.2 ∧ nk n = k ∧ (wl G ad M)[n]? = some (ad k, .inl (G.2 2, z, .inr (.inr (.inr (.inr (fun j => (M.2.2.1 k j).map ad)))))) := by
  obtain ⟨n, hn, hk⟩ := ha
  refine ⟨n, hn, hk, ?_⟩
  rw [wl_at hn, hk]
  simp only [cE, hs]
theorem DX.alh {R : Room} {B : Heap} {H : Heap} {locs : List Loc} {cells slots : Nat} {ls : Array Slot} {ad : KK → Nat} {k : KK} (D : DX G mi R B M L (vR (some k) :: st) mc ms H locs cells slots ls ad) : al M k := okh D.ok k rfl
/-- getfield of any type -/
theorem pw_get {idx ci j : Nat} {k : KK} {v : PV} (hd : decode (mB mi) pc = .ok (.getfield idx, 3)) (hf : FL (mO mi) idx ci j) (hs : shp k = (0, ci)) (hv : ∀ ad, cv ad v = fvl ad M k j (fty ci j)) (hok : ∀ k', v = vR (some k') → M.2.2.1 k j = some k')
    (h : PW G l mi (pc + 3) L (v :: st) M o M' mc ms) : PW G l mi pc L (vR (some k) :: st) M o M' mc ms := by
  intro p e R s mid args below meth c B C H locs cells slots ls ad D
  obtain ⟨n, hn, hk, hat⟩ := HR.obj (G := G) (B := B) (H := H) (ad := ad) hs D.alh
  obtain ⟨h1, h2, h3⟩ := hf
  have hT := C.2.2.2.2.2.2.2.2.1
  refine va_get C.1 C.2.1 (hT.hts args) (cls_in ci h1) C.2.2.2.2.2.2.1 hT.2.2.1 D.2.2.1.1 n hat (cls_at ci h1) j h2 (hT.hts args _ h3) (fun _ q => q) (v := cv ad v) ?_ hd (h p e R s mid args below meth c B C H locs cells slots ls ad (D.stk (okc (fun k' e' => D.2.2.1.2.2.1 k j k' D.alh (hok k' e')) (okt D.ok))))
  rw [hv ad]
  simp [h2]
theorem pw_getI {idx ci j : Nat} {k : KK} (hd : decode (mB mi) pc = .ok (.getfield idx, 3)) (hf : FL (mO mi) idx ci j) (hs : shp k = (0, ci)) (ht : fty ci j = .int)
    (h : PW G l mi (pc + 3) L (vI (M.1 k j) :: st) M o M' mc ms) : PW G l mi pc L (vR (some k) :: st) M o M' mc ms :=
  pw_get hd hf hs (fun ad => by rw [ht]; rfl) (fun _ q => by cases q) h
theorem pw_getZ {idx ci j : Nat} {k : KK} (hd : decode (mB mi) pc = .ok (.getfield idx, 3)) (hf : FL (mO mi) idx ci j) (hs : shp k = (0, ci)) (ht : fty ci j = .boolean)
    (h : PW G l mi (pc + 3) L (vI (M.1 k j) :: st) M o M' mc ms) : PW G l mi pc L (vR (some k) :: st) M o M' mc ms :=
  pw_get hd hf hs (fun ad => by rw [ht]; rfl) (fun _ q => by cases q) h
theorem pw_getL {idx ci j : Nat} {k : KK} (hd : decode (mB mi) pc = .ok (.getfield idx, 3)) (hf : FL (mO mi) idx ci j) (hs : shp k = (0, ci)) (ht : fty ci j = .long)
    (h : PW G l mi (pc + 3) L (vL (M.2.1 k j) :: st) M o M' mc ms) : PW G l mi pc L (vR (some k) :: st) M o M' mc ms :=
  pw_get hd hf hs (fun ad => by rw [ht]; rfl) (fun _ q => by cases q) h
def isRT : FieldType → Bool
  | .object _ => true
  | .array _ => true
  | _ => false
theorem pw_getR {idx ci j : Nat} {k : KK} {r : Option KK} (hd : decode (mB mi) pc = .ok (.getfield idx, 3)) (hf : FL (mO mi) idx ci j) (hs : shp k = (0, ci)) (ht : isRT (fty ci j) = true) (hr : M.2.2.1 k j = r)
    (h : PW G l mi (pc + 3) L (vR r :: st) M o M' mc ms) : PW G l mi pc L (vR (some k) :: st) M o M' mc ms := by
  subst hr
  refine pw_get hd hf hs (fun ad => ?_) (fun k' q => by simpa using q) h
  cases hq : fty ci j <;> rw [hq] at ht <;> first | rfl | (simp [isRT] at ht)
theorem HR.put {B H H1 : Heap} {ad : KK → Nat} {M2 : Mem} {n : Nat} {e : va_E} (hR : HR G B ad M H) (hn : n < M.2.2.2) (hM : M1 (nk n) M M2) (he : cE G ad M2 (nk n) = e) (hr : ∀ j k', M2.2.2.1 (nk n) j = some k' → al M k')
    (hP : va_P G.1 classes ((wl G ad M).set n (ad (nk n), e)) H1) (hD : va_D (fun q => B.size ≤ q) ((wl G ad M).set n (ad (nk n), e))) : HR G B ad M2 H1 := by
  have h79 := hR.2.2.2
  rw [← he, wl_set hn h79 hM] at hP hD
  refine ⟨hP, hD, fun k j k' ha hk => ?_, by rw [hM.1]; exact h79⟩
  rw [al_M1 hM] at ha ⊢
  by_cases q : k = nk n
  · subst q; exact hr j k' hk
  · rw [(hM.2 k q).2.2] at hk
    exact hR.2.2.1 k j k' ha hk
theorem DX.put {R : Room} {B H H1 : Heap} {locs locs1 : List Loc} {cells slots : Nat} {ls : Array Slot} {ad : KK → Nat} {M2 : Mem} {k : KK} {st' : List PV} (D : DX G mi R B M L st mc ms H locs cells slots ls ad) (hM : M1 k M M2) (hR : HR G B ad M2 H1) (hS : va_S (fun q => B.size ≤ q) B H1 locs1) (h : ∀ v ∈ st', okv M v) : DX G mi R B M2 L st' mc ms H1 locs1 cells slots ls ad :=
  ⟨D.1, hS, hR, D.2.2.2.1, fun i v q => okv_M1 hM (D.2.2.2.2.1 i v q), fun v q => okv_M1 hM (h v q)⟩
/-- what a class's cell looks like when one field changes -/
theorem cE_setI {ad : KK → Nat} {k : KK} {ci j : Nat} {x : Int32} (hs : shp k = (0, ci)) (hj : j < nfl ci) (ht : fvl ad (sI M k j x) k j (fty ci j) = .int x) (hoth : ∀ i t, i ≠ j → fvl ad (sI M k j x) k i t = fvl ad M k i t) : cE G ad (sI M k j x) k = .inr (ci, ((List.range (nfl ci)).map (fun j => fvl ad M k j (fty ci j))).set j (.int x)) := by
  simp only [cE, hs]
  congr 2
  apply List.ext_getElem?
  intro i
  rw [List.getElem?_set]
  by_cases e : j = i
  · subst e
    simp [hj, ht]
  · rw [if_neg e]
    by_cases hi : i < nfl ci
    · simp [hi, hoth i _ (fun q => e q.symm)]
    · simp [hi]
theorem fvl_sI {ad : KK → Nat} {k : KK} {j : Nat} {x : Int32} : ∀ i t, i ≠ j → fvl ad (sI M k j x) k i t = fvl ad M k i t := by
  intro i t hi
  cases t <;> simp [fvl, sI, hi]
theorem fvl_sL {ad : KK → Nat} {k : KK} {j : Nat} {x : Int64} : ∀ i t, i ≠ j → fvl ad (sL M k j x) k i t = fvl ad M k i t := by
  intro i t hi
  cases t <;> simp [fvl, sL, hi]
theorem fvl_sR {ad : KK → Nat} {k : KK} {j : Nat} {x : Option KK} : ∀ i t, i ≠ j → fvl ad (sR M k j x) k i t = fvl ad M k i t := by
  intro i t hi
  cases t <;> simp [fvl, sR, hi]
theorem cE_set {ad : KK → Nat} {M2 : Mem} {k : KK} {ci j : Nat} {v : Value} (hs : shp k = (0, ci)) (hj : j < nfl ci) (ht : fvl ad M2 k j (fty ci j) = v) (hoth : ∀ i t, i ≠ j → fvl ad M2 k i t = fvl ad M k i t) : cE G ad M2 k = .inr (ci, ((List.range (nfl ci)).map (fun j => fvl ad M k j (fty ci j))).set j v) := by
  simp only [cE, hs]
  congr 2
  apply List.ext_getElem?
  intro i
  rw [List.getElem?_set]
  by_cases e : j = i
  · subst e
    simp [hj, ht]
  · rw [if_neg e]
    by_cases hi : i < nfl ci
    · simp [hi, hoth i _ (fun q => e q.symm)]
    · simp [hi]
/-- putfield of any type, not final -/
theorem pw_put {idx ci j : Nat} {k : KK} {v : PV} {M2 : Mem} (hd : decode (mB mi) pc = .ok (.putfield idx, 3)) (hf : FL (mO mi) idx ci j) (hs : shp k = (0, ci)) (hfin : (cT ci j).2.2.2 = false) (hM : M1 k M M2) (hoth : ∀ ad i t, i ≠ j → fvl ad M2 k i t = fvl ad M k i t) (hv : ∀ ad, fvl ad M2 k j (fty ci j) = cv ad v) (hnar : ∀ ad, narrow (fty ci j) (cv ad v) = cv ad v) (hfit : ∀ ad, fits (fty ci j) (cv ad v) = true)
    (hr : ∀ i k', M2.2.2.1 k i = some k' → M.2.2.1 k i = some k' ∨ v = vR (some k'))
    (h : PW G l mi (pc + 3) L st M2 o M' mc ms) : PW G l mi pc L (v :: vR (some k) :: st) M o M' mc ms := by
  intro p e R s mid args below meth c B C H locs cells slots ls ad D
  have hal : al M k := okh (okt D.ok) k rfl
  obtain ⟨n, hn, hk, hat⟩ := HR.obj (G := G) (B := B) (H := H) (ad := ad) hs hal
  obtain ⟨h1, h2, h3⟩ := hf
  have hT := C.2.2.2.2.2.2.2.2.1
  refine va_put C.1 C.2.1 (hT.hts args) (cls_in ci h1) (fty ci) (cls_ty ci h1) (cls_nm ci h1) C.2.2.2.2.2.2.1 hT.2.2.1 D.2.2.1.1 D.2.2.1.2.1 D.2.1 n hat (cls_at ci h1) j h2 (hT.hts args _ h3) (fun _ q => q) hfin (cls_ty ci h1 j h2) (hnar ad) (hfit ad) (by simp [h2]) hd (fun H1 locs1 hP hD hS => ?_)
  subst hk
  have hR := HR.put D.2.2.1 hn hM (cE_set hs h2 (hv ad) (hoth ad)) (fun i k' q => (hr i k' q).elim (fun q => D.2.2.1.2.2.1 _ i k' hal q) (fun q => okh D.ok k' q)) hP hD
  have hx := h p e R s mid args below meth c B C H1 locs1 cells slots ls ad (D.put hM hR hS (okt (okt D.ok)))
  rw [hM.1] at hx
  exact hx
theorem pw_putI {idx ci j : Nat} {k : KK} {x : Int32} (hd : decode (mB mi) pc = .ok (.putfield idx, 3)) (hf : FL (mO mi) idx ci j) (hs : shp k = (0, ci)) (hfin : (cT ci j).2.2.2 = false) (ht : fty ci j = .int)
    (h : PW G l mi (pc + 3) L st (sI M k j x) o M' mc ms) : PW G l mi pc L (vI x :: vR (some k) :: st) M o M' mc ms :=
  pw_put hd hf hs hfin (M1_sI M k j x) (fun ad => fvl_sI) (fun ad => by rw [ht]; simp [fvl, sI, cv]) (fun ad => by rw [ht]; rfl) (fun ad => by rw [ht]; rfl) (fun i k' q => Or.inl q) h
theorem pw_putZ {idx ci j : Nat} {k : KK} {x : Int32} (hd : decode (mB mi) pc = .ok (.putfield idx, 3)) (hf : FL (mO mi) idx ci j) (hs : shp k = (0, ci)) (hfin : (cT ci j).2.2.2 = false) (ht : fty ci j = .boolean) (hx : x = 0 ∨ x = 1)
    (h : PW G l mi (pc + 3) L st (sI M k j x) o M' mc ms) : PW G l mi pc L (vI x :: vR (some k) :: st) M o M' mc ms :=
  pw_put hd hf hs hfin (M1_sI M k j x) (fun ad => fvl_sI) (fun ad => by rw [ht]; simp [fvl, sI, cv]) (fun ad => by rw [ht]; rcases hx with rfl | rfl <;> rfl) (fun ad => by rw [ht]; rcases hx with rfl | rfl <;> rfl) (fun i k' q => Or.inl q) h
theorem pw_putL {idx ci j : Nat} {k : KK} {x : Int64} (hd : decode (mB mi) pc = .ok (.putfield idx, 3)) (hf : FL (mO mi) idx ci j) (hs : shp k = (0, ci)) (hfin : (cT ci j).2.2.2 = false) (ht : fty ci j = .long)
    (h : PW G l mi (pc + 3) L st (sL M k j x) o M' mc ms) : PW G l mi pc L (vL x :: vR (some k) :: st) M o M' mc ms :=
  pw_put hd hf hs hfin (M1_sL M k j x) (fun ad => fvl_sL) (fun ad => by rw [ht]; simp [fvl, sL, cv]) (fun ad => by rw [ht]; rfl) (fun ad => by rw [ht]; rfl) (fun i k' q => Or.inl q) h
/-- a final field, in its class's own constructor -/
theorem pw_putF {idx ci j : Nat} {k q : KK} (hd : decode (mB mi) pc = .ok (.putfield idx, 3)) (hf : FL (mO mi) idx ci j) (hs : shp k = (0, ci)) (hfin : (cT ci j).2.2.2 = true) (hown : (cT ci j).1 = mO mi) (hin : (mY mi).name = "<init>") (ht : isRT (fty ci j) = true)
    (h : PW G l mi (pc + 3) L st (sR M k j (some q)) o M' mc ms) : PW G l mi pc L (vR (some q) :: vR (some k) :: st) M o M' mc ms := by
  intro p e R s mid args below meth c B C H locs cells slots ls ad D
  have hal : al M k := okh (okt D.ok) k rfl
  obtain ⟨n, hn, hk, hat⟩ := HR.obj (G := G) (B := B) (H := H) (ad := ad) hs hal
  obtain ⟨h1, h2, h3⟩ := hf
  have hT := C.2.2.2.2.2.2.2.2.1
  have hv : fvl ad (sR M k j (some q)) k j (fty ci j) = cv ad (vR (some q)) := by cases hq : fty ci j <;> rw [hq] at ht <;> first | (simp [fvl, sR, cv]; done) | (simp [isRT] at ht)
  have hnar : narrow (fty ci j) (cv ad (vR (some q))) = cv ad (vR (some q)) := by cases hq : fty ci j <;> rw [hq] at ht <;> first | rfl | (simp [isRT] at ht)
  have hfit : fits (fty ci j) (cv ad (vR (some q))) = true := by cases hq : fty ci j <;> rw [hq] at ht <;> first | rfl | (simp [isRT] at ht)
  refine va_putF C.1 C.2.1 (hT.hts args) (cls_in ci h1) (fty ci) (cls_ty ci h1) (cls_nm ci h1) C.2.2.2.2.2.2.1 hT.2.2.1 D.2.2.1.1 D.2.2.1.2.1 D.2.1 n hat (cls_at ci h1) j h2 (hT.hts args _ h3) (fun _ q => q) hfin (by rw [C.2.2.2.2.2.2.2.1]; exact hin) hown (cls_ty ci h1 j h2) hnar hfit (by simp [h2]) hd (fun H1 locs1 hP hD hS => ?_)
  subst hk
  have hR := HR.put D.2.2.1 hn (M1_sR M _ j (some q)) (cE_set hs h2 hv fvl_sR) (fun i k' z => by
    by_cases e : i = j
    · subst e
      have : q = k' := by simpa [sR] using z
      subst this
      exact okh D.ok q rfl
    · exact D.2.2.1.2.2.1 _ i k' hal (by simpa [sR, e] using z)) hP hD
  exact h p e R s mid args below meth c B C H1 locs1 cells slots ls ad (D.put (M1_sR M _ j (some q)) hR hS (okt (okt D.ok)))
/-! arrays -/
theorem pw_iaload {k : KK} {z : Nat} {i : Int32} (hd : decode (mB mi) pc = .ok (.iaload, 1)) (hs : shp k = (1, z)) (hin : vp_in i z)
    (h : PW G l mi (pc + 1) L (vI (M.1 k i.toNatClampNeg) :: st) M o M' mc ms) : PW G l mi pc L (vI i :: vR (some k) :: st) M o M' mc ms := by
  intro p e R s mid args below meth c B C H locs cells slots ls ad D
  obtain ⟨n, hn, hk, hat⟩ := HR.arI (G := G) (B := B) (H := H) (ad := ad) hs (okh (okt D.ok) k rfl)
  exact va_iald C.1 C.2.1 C.2.2.2.2.2.2.2.2.1.2.2.1 D.2.2.1.1 n 0 hat rfl hin hd (h p e R s mid args below meth c B C H locs cells slots ls ad (D.stk (okc (okI _) (okt (okt D.ok)))))
theorem pw_laload {k : KK} {z : Nat} {i : Int32} (hd : decode (mB mi) pc = .ok (.laload, 1)) (hs : shp k = (2, z)) (hin : vp_in i z)
    (h : PW G l mi (pc + 1) L (vL (M.2.1 k i.toNatClampNeg) :: st) M o M' mc ms) : PW G l mi pc L (vI i :: vR (some k) :: st) M o M' mc ms := by
  intro p e R s mid args below meth c B C H locs cells slots ls ad D
  obtain ⟨n, hn, hk, hat⟩ := HR.arL (G := G) (B := B) (H := H) (ad := ad) hs (okh (okt D.ok) k rfl)
  exact va_lald C.1 C.2.1 C.2.2.2.2.2.2.2.2.1.2.2.1 D.2.2.1.1 n 1 hat rfl hin hd (h p e R s mid args below meth c B C H locs cells slots ls ad (D.stk (okc (okJ _) (okt (okt D.ok)))))
theorem pw_aaload {k : KK} {z : Nat} {i : Int32} {r : Option KK} (hd : decode (mB mi) pc = .ok (.aaload, 1)) (hs : shp k = (3, z)) (hin : vp_in i z) (hr : M.2.2.1 k i.toNatClampNeg = r)
    (h : PW G l mi (pc + 1) L (vR r :: st) M o M' mc ms) : PW G l mi pc L (vI i :: vR (some k) :: st) M o M' mc ms := by
  subst hr
  intro p e R s mid args below meth c B C H locs cells slots ls ad D
  have hal : al M k := okh (okt D.ok) k rfl
  obtain ⟨n, hn, hk, hat⟩ := HR.arR (G := G) (B := B) (H := H) (ad := ad) hs hal
  exact va_aldq C.1 C.2.1 C.2.2.2.2.2.2.2.2.1.2.2.1 D.2.2.1.1 n 2 hat rfl hin hd (h p e R s mid args below meth c B C H locs cells slots ls ad (D.stk (okc (fun k' q => D.2.2.1.2.2.1 k _ k' hal (by simpa using q)) (okt (okt D.ok)))))
theorem pw_iastore {k : KK} {z : Nat} {i x : Int32} (hd : decode (mB mi) pc = .ok (.iastore, 1)) (hs : shp k = (1, z)) (hin : vp_in i z)
    (h : PW G l mi (pc + 1) L st (sI M k i.toNatClampNeg x) o M' mc ms) : PW G l mi pc L (vI x :: vI i :: vR (some k) :: st) M o M' mc ms := by
  intro p e R s mid args below meth c B C H locs cells slots ls ad D
  have hal : al M k := okh (okt (okt D.ok)) k rfl
  obtain ⟨n, hn, hk, hat⟩ := HR.arI (G := G) (B := B) (H := H) (ad := ad) hs hal
  refine va_iast C.1 C.2.1 C.2.2.2.2.2.2.2.2.1.2.2.1 D.2.2.1.1 D.2.2.1.2.1 D.2.1 n 0 hat rfl hin hd (fun H1 locs1 hP hD hS => ?_)
  subst hk
  have hR := HR.put D.2.2.1 hn (M1_sI M _ i.toNatClampNeg x) (e := .inl (G.2 0, z, .inl (upd (M.1 (nk n)) i.toNatClampNeg x))) (by
    simp only [cE, hs]
    congr 4
    funext q
    simp [sI, upd]) (fun j k' q => D.2.2.1.2.2.1 _ j k' hal q) hP hD
  exact h p e R s mid args below meth c B C H1 locs1 cells slots ls ad (D.put (M1_sI M _ _ x) hR hS (okt (okt (okt D.ok))))
theorem pw_lastore {k : KK} {z : Nat} {i : Int32} {x : Int64} (hd : decode (mB mi) pc = .ok (.lastore, 1)) (hs : shp k = (2, z)) (hin : vp_in i z)
    (h : PW G l mi (pc + 1) L st (sL M k i.toNatClampNeg x) o M' mc ms) : PW G l mi pc L (vL x :: vI i :: vR (some k) :: st) M o M' mc ms := by
  intro p e R s mid args below meth c B C H locs cells slots ls ad D
  have hal : al M k := okh (okt (okt D.ok)) k rfl
  obtain ⟨n, hn, hk, hat⟩ := HR.arL (G := G) (B := B) (H := H) (ad := ad) hs hal
  refine va_last C.1 C.2.1 C.2.2.2.2.2.2.2.2.1.2.2.1 D.2.2.1.1 D.2.2.1.2.1 D.2.1 n 1 hat rfl hin hd (fun H1 locs1 hP hD hS => ?_)
  subst hk
  have hR := HR.put D.2.2.1 hn (M1_sL M _ i.toNatClampNeg x) (e := .inl (G.2 1, z, .inr (.inl (vp_updL (M.2.1 (nk n)) i.toNatClampNeg x)))) (by
    simp only [cE, hs]
    congr 5
    funext q
    simp [sL, vp_updL]) (fun j k' q => D.2.2.1.2.2.1 _ j k' hal q) hP hD
  exact h p e R s mid args below meth c B C H1 locs1 cells slots ls ad (D.put (M1_sL M _ _ x) hR hS (okt (okt (okt D.ok))))
theorem pw_aastore {k q : KK} {z : Nat} {i : Int32} (hd : decode (mB mi) pc = .ok (.aastore, 1)) (hs : shp k = (3, z)) (hq : shp q = (0, 3)) (hin : vp_in i z)
    (h : PW G l mi (pc + 1) L st (sR M k i.toNatClampNeg (some q)) o M' mc ms) : PW G l mi pc L (vR (some q) :: vI i :: vR (some k) :: st) M o M' mc ms := by
  intro p e R s mid args below meth c B C H locs cells slots ls ad D
  have hal : al M k := okh (okt (okt D.ok)) k rfl
  obtain ⟨n, hn, hk, hat⟩ := HR.arR (G := G) (B := B) (H := H) (ad := ad) hs hal
  obtain ⟨n2, hn2, hk2, hat2⟩ := HR.obj (G := G) (B := B) (H := H) (ad := ad) hq (okh D.ok q rfl)
  refine va_astq C.1 C.2.1 C.2.2.2.2.2.2.2.2.1.2.2.1 D.2.2.1.1 D.2.2.1.2.1 D.2.1 n 2 n2 3 (r := ("TimeKeeper$Peer", T_PE, 14)) hat rfl hat2 rfl hin hd (fun H1 locs1 hP hD hS => ?_)
  subst hk
  have hR := HR.put D.2.2.1 hn (M1_sR M _ i.toNatClampNeg (some q)) (e := .inl (G.2 2, z, .inr (.inr (.inr (.inr (va_up (fun j => (M.2.2.1 (nk n) j).map ad) i.toNatClampNeg (some (ad q)))))))) (by
    simp only [cE, hs]
    congr 7
    funext j
    by_cases e : j = i.toNatClampNeg
    · simp [sR, va_up, e]
    · simp [sR, va_up, e]) (fun j k' z => by
    by_cases e : j = i.toNatClampNeg
    · subst e
      have : q = k' := by simpa [sR] using z
      subst this
      exact okh D.ok q rfl
    · exact D.2.2.1.2.2.1 _ j k' hal (by simpa [sR, e] using z)) hP hD
  exact h p e R s mid args below meth c B C H1 locs1 cells slots ls ad (D.put (M1_sR M _ _ _) hR hS (okt (okt (okt D.ok))))
/-! constants of the pool -/
theorem pw_ldc {idx : Nat} (v : Int32) (hd : decode (mB mi) pc = .ok (.ldc idx, 2)) (hw : Cond.constant (mO mi) idx v ∈ GW)
    (h : PW G l mi (pc + 2) L (vI v :: st) M o M' mc ms) : PW G l mi pc L st M o M' mc ms := by
  intro p e R s mid args below meth c B C H locs cells slots ls ad D
  exact lv_ldc C.1 C.2.1 C.2.2.2.2.2.2.1 (C.2.2.2.2.2.2.2.2.1.hts args _ hw) hd (h p e R s mid args below meth c B C H locs cells slots ls ad (D.stk (okc (okI _) D.ok)))
theorem pw_ldc2 {idx : Nat} (v : Int64) (hd : decode (mB mi) pc = .ok (.ldc2_w idx, 3)) (hw : Cond.constantLong (mO mi) idx v ∈ GW)
    (h : PW G l mi (pc + 3) L (vL v :: st) M o M' mc ms) : PW G l mi pc L st M o M' mc ms := by
  intro p e R s mid args below meth c B C H locs cells slots ls ad D
  exact lv_ldc2 C.1 C.2.1 C.2.2.2.2.2.2.1 (C.2.2.2.2.2.2.2.2.1.hts args _ hw) hd (h p e R s mid args below meth c B C H locs cells slots ls ad (D.stk (okc (okJ _) D.ok)))
end PH
end
section
/-! returns, and cells that are made -/
section PT
variable {G : GG} {l : Launch} {mi : MI} {pc : Nat} {L : List (Option PV)} {st : List PV} {M M' : Mem} {o : PO} {mc ms : Nat}
theorem sbn_mono {s t : State} {Ls : List Loc} {k n k' n' : Nat} (h : s.sameButNew t Ls k n) (h1 : k ≤ k') (h2 : n ≤ n') : s.sameButNew t Ls k' n' := h.mono h1 h2
theorem pE_ret {B H : Heap} {below : List Frame} {s t : State} {args : Array Value} {ad : KK → Nat} {locs : List Loc} {cells slots : Nat} {v : Option PV} (hS : va_S (fun q => B.size ≤ q) B H locs) (hR : HR G B ad M H) (hv : ∀ w, v = some w → okv M w)
    (h : MQ below (fun _ _ out t => out = .returned (v.map (cv ad)) ∧ t.heap = H) args s cells slots (fun q => B.size ≤ q) t) : pE G B below s ad M.2.2.2 (.inl v) M (cells + mc) (slots + ms) t := by
  obtain ⟨out, h1, h2, ⟨h3, h4⟩, Ls, ⟨-, h5, h6⟩, h7⟩ := h
  exact ⟨out, ad, Ls, h1, h2, h5, sbn_mono h6 (Nat.le_add_right _ _) (Nat.le_add_right _ _), ⟨by rw [h4]; exact hS.1, by rw [h4]; exact hS.2.1, h7⟩, fun _ _ => rfl, Nat.le_refl _, by rw [h4]; exact hR, h3, hv⟩
theorem W_mono {p : Program} {e : Env} {R : Room} {s : State} {m : MethodId} {args : Array Value} {below : List Frame} {meth : Method} {c : Code} {H : Heap} {locs : List Loc} {cells slots : Nat} {Q Q' : State → Prop} {g : JFrame} (h : W p l e R s m args below meth c H locs cells slots Q g) (hq : ∀ t, Q t → Q' t) : W p l e R s m args below meth c H locs cells slots Q' g := by
  intro T hT X
  obtain ⟨t, h1, h2⟩ := h T hT X
  exact ⟨t, h1, hq t h2⟩
theorem pw_ireturn {x : Int32} (hd : decode (mB mi) pc = .ok (.ireturn, 1)) (ht : mT mi = some .int) (ho : o = rI x) (hM : M' = M) : PW G l mi pc L [vI x] M o M' mc ms := by
  subst ho; subst hM
  intro p e R s mid args below meth c B C H locs cells slots ls ad D
  refine W_mono (W.iret (v := x) (Qc := fun _ _ out t => out = .returned ((some (vI x)).map (cv ad)) ∧ t.heap = H) C.1 C.2.1 (C.2.2.2.1.trans ht) (fun t h1 _ => ⟨rfl, h1⟩) D.2.1.2.2 hd C.2.2.2.2.1) (fun t h => ?_)
  exact pE_ret D.2.1 D.2.2.1 (fun w hw => by cases hw; exact okI x) h
theorem pw_zreturn {x : Int32} (hd : decode (mB mi) pc = .ok (.ireturn, 1)) (ht : mT mi = some .boolean) (hx : x = 0 ∨ x = 1) (ho : o = rI x) (hM : M' = M) : PW G l mi pc L [vI x] M o M' mc ms := by
  subst ho; subst hM
  intro p e R s mid args below meth c B C H locs cells slots ls ad D
  refine W_mono (W.zret (v := x) (ty := .boolean) (Qc := fun _ _ out t => out = .returned ((some (vI x)).map (cv ad)) ∧ t.heap = H) C.1 C.2.1 (C.2.2.2.1.trans ht) (by rcases hx with rfl | rfl <;> rfl) (fun t h1 _ => ⟨rfl, h1⟩) D.2.1.2.2 hd C.2.2.2.2.1) (fun t h => ?_)
  exact pE_ret D.2.1 D.2.2.1 (fun w hw => by cases hw; exact okI x) h
theorem pw_lreturn {x : Int64} (hd : decode (mB mi) pc = .ok (.lreturn, 1)) (ht : mT mi = some .long) (ho : o = rL x) (hM : M' = M) : PW G l mi pc L [vL x] M o M' mc ms := by
  subst ho; subst hM
  intro p e R s mid args below meth c B C H locs cells slots ls ad D
  refine W_mono (W.lret (v := x) (Qc := fun _ _ out t => out = .returned ((some (vL x)).map (cv ad)) ∧ t.heap = H) C.1 C.2.1 (C.2.2.2.1.trans ht) (fun t h1 _ => ⟨rfl, h1⟩) D.2.1.2.2 hd C.2.2.2.2.1) (fun t h => ?_)
  exact pE_ret D.2.1 D.2.2.1 (fun w hw => by cases hw; exact okJ x) h
theorem pw_areturn {x : KK} {C0 : String} (hd : decode (mB mi) pc = .ok (.areturn, 1)) (ht : mT mi = some (.object C0)) (ho : o = rR (some x)) (hM : M' = M) : PW G l mi pc L [vR (some x)] M o M' mc ms := by
  subst ho; subst hM
  intro p e R s mid args below meth c B C H locs cells slots ls ad D
  refine W_mono (W.aret (v := .ref (ad x)) (rt := .object C0) (Qc := fun _ _ out t => out = .returned ((some (vR (some x))).map (cv ad)) ∧ t.heap = H) C.1 C.2.1 (C.2.2.2.1.trans ht) (Or.inl ⟨_, rfl⟩) (Or.inr ⟨_, rfl⟩) (fun t h1 _ => ⟨rfl, h1⟩) D.2.1.2.2 hd C.2.2.2.2.1) (fun t h => ?_)
  exact pE_ret D.2.1 D.2.2.1 (fun w hw => by cases hw; exact okh D.ok) h
theorem pw_return (hd : decode (mB mi) pc = .ok (.return_, 1)) (ht : mT mi = none) (ho : o = rV) (hM : M' = M) : PW G l mi pc L [] M o M' mc ms := by
  subst ho; subst hM
  intro p e R s mid args below meth c B C H locs cells slots ls ad D
  refine W_mono (W.vret (Qc := fun _ _ out t => out = .returned ((none : Option PV).map (cv ad)) ∧ t.heap = H) C.1 C.2.1 (C.2.2.2.1.trans ht) (fun t h1 _ => ⟨rfl, h1⟩) D.2.1.2.2 hd C.2.2.2.2.1) (fun t h => ?_)
  exact pE_ret D.2.1 D.2.2.1 (fun w hw => by cases hw) h
/-! making cells -/
def nw (M : Mem) (k : KK) : Mem := (fun q i => if q = k then 0 else M.1 q i, fun q i => if q = k then 0 else M.2.1 q i, fun q i => if q = k then none else M.2.2.1 q i, M.2.2.2 + 1)
def adU (ad : KK → Nat) (k : KK) (a : Nat) : KK → Nat := fun q => if q = k then a else ad q
theorem nk_new {n : Nat} {k : KK} (hk : nk M.2.2.2 = k) (h79 : M.2.2.2 < 79) (hn : n < M.2.2.2) : nk n ≠ k := fun q => by
  have := nk_inj n (by omega) M.2.2.2 h79 (q.trans hk.symm)
  omega
theorem al_ne {q k : KK} (hk : nk M.2.2.2 = k) (h79 : M.2.2.2 < 79) (ha : al M q) : q ≠ k := by
  obtain ⟨n, hn, e⟩ := ha
  rw [← e]
  exact nk_new hk h79 hn
theorem map_adU {ad : KK → Nat} {k : KK} {a : Nat} {r : Option KK} (h : ∀ k', r = some k' → k' ≠ k) : r.map (adU ad k a) = r.map ad := by
  cases r with
  | none => rfl
  | some k' => simp [adU, h k' rfl]
theorem cv_adU {ad : KK → Nat} {k : KK} {a : Nat} {v : PV} (h : ∀ k', v = vR (some k') → k' ≠ k) : cv (adU ad k a) v = cv ad v := by
  rcases v with x | x | r
  · rfl
  · rfl
  · show va_rf _ = va_rf _
    rw [map_adU (fun k' e => h k' (by rw [e]))]
theorem cE_new {ad : KK → Nat} {k q : KK} {a : Nat} (hq : q ≠ k) (hr : ∀ j k', M.2.2.1 q j = some k' → k' ≠ k) : cE G (adU ad k a) (nw M k) q = cE G ad M q := by
  have e1 : (nw M k).1 q = M.1 q := by funext i; simp [nw, hq]
  have e2 : (nw M k).2.1 q = M.2.1 q := by funext i; simp [nw, hq]
  have e3 : (nw M k).2.2.1 q = M.2.2.1 q := by funext i; simp [nw, hq]
  rw [cE_congr e1 e2 e3]
  have hm : ∀ j, (M.2.2.1 q j).map (adU ad k a) = (M.2.2.1 q j).map ad := fun j => map_adU (hr j)
  have hf : ∀ j t, fvl (adU ad k a) M q j t = fvl ad M q j t := by
    intro j t
    cases t <;> simp only [fvl, hm]
  unfold cE
  simp only [hf, hm]
theorem wl_new {B H : Heap} {ad : KK → Nat} {k : KK} {a : Nat} (hR : HR G B ad M H) (hk : nk M.2.2.2 = k) (h79 : M.2.2.2 < 79) : wl G (adU ad k a) (nw M k) = wl G ad M ++ [(a, cE G (adU ad k a) (nw M k) k)] := by
  unfold wl
  show (List.range (M.2.2.2 + 1)).map _ = _
  rw [List.range_succ, List.map_append]
  congr 1
  · refine List.map_congr_left fun n hn => ?_
    have hn := List.mem_range.mp hn
    have hne := nk_new hk h79 hn
    rw [cE_new hne (fun j k' q => al_ne hk h79 (hR.2.2.1 _ j k' ⟨n, hn, rfl⟩ q))]
    simp [adU, hne]
  · simp [hk, adU]
theorem al_nw {k q : KK} (ha : al M q) : al (nw M k) q := by
  obtain ⟨n, hn, e⟩ := ha
  exact ⟨n, Nat.lt_succ_of_lt hn, e⟩
theorem al_nwk {k : KK} (hk : nk M.2.2.2 = k) : al (nw M k) k := ⟨M.2.2.2, Nat.lt_succ_self _, hk⟩
theorem HR.new {B H H1 : Heap} {ad : KK → Nat} {k : KK} {a : Nat} {e : va_E} (hR : HR G B ad M H) (hk : nk M.2.2.2 = k) (h79 : M.2.2.2 < 79) (he : cE G (adU ad k a) (nw M k) k = e) (hP : va_P G.1 classes (wl G ad M ++ [(a, e)]) H1) (hD : va_D (fun q => B.size ≤ q) (wl G ad M ++ [(a, e)])) : HR G B (adU ad k a) (nw M k) H1 := by
  rw [← he, ← wl_new hR hk h79] at hP hD
  refine ⟨hP, hD, fun q j k' hq hk' => ?_, h79⟩
  by_cases e : q = k
  · subst e; simp [nw] at hk'
  · have hq' : al M q := by
      obtain ⟨n, hn, e2⟩ := hq
      have hn : n < M.2.2.2 + 1 := hn
      rcases Nat.lt_or_ge n M.2.2.2 with h | h
      · exact ⟨n, h, e2⟩
      · have : n = M.2.2.2 := by omega
        subst this
        exact absurd (e2.symm.trans hk) e
    exact al_nw (hR.2.2.1 q j k' hq' (by simpa [nw, e] using hk'))
theorem pE_new {B : Heap} {below : List Frame} {s t : State} {ad : KK → Nat} {k : KK} {a x y : Nat} (hk : nk M.2.2.2 = k) (h79 : M.2.2.2 < 79) (h : pE G B below s (adU ad k a) (M.2.2.2 + 1) o M' x y t) : pE G B below s ad M.2.2.2 o M' x y t := by
  obtain ⟨out, ad', Ls, h1, h2, h3, h4, h5, h6, h7, h8, h9⟩ := h
  refine ⟨out, ad', Ls, h1, h2, h3, h4, h5, fun i hi => ?_, by omega, h8, h9⟩
  rw [h6 i (by omega)]
  simp [adU, nk_new hk h79 hi]
theorem DX.new {R : Room} {B H H1 : Heap} {locs : List Loc} {cells slots : Nat} {ls : Array Slot} {ad : KK → Nat} {k : KK} {a d : Nat} (D : DX G mi R B M L st (mc + 1) (ms + d) H locs cells slots ls ad) (hk : nk M.2.2.2 = k) (h79 : M.2.2.2 < 79) (hR : HR G B (adU ad k a) (nw M k) H1) (hS : va_S (fun q => B.size ≤ q) B H1 locs) : DX G mi R B (nw M k) L (vR (some k) :: st) mc ms H1 locs (cells + 1) (slots + d) ls (adU ad k a) := by
  obtain ⟨⟨d1, d1'⟩, d2, d3, d4, d5, d6⟩ := D
  refine ⟨⟨by omega, by omega⟩, hS, hR, ⟨d4.1, d4.2.1, fun i v hv => ?_⟩, fun i v hv k' e => al_nw (d5 i v hv k' e), okc (fun k' e => ?_) (fun v hv k' e => al_nw (d6 v hv k' e))⟩
  · rw [cv_adU (fun k' e => al_ne hk h79 (d5 i v hv k' e))]
    exact d4.2.2 i v hv
  · have : k = k' := by simpa using e
    subst this
    exact al_nwk hk
theorem map_new {ad : KK → Nat} {k : KK} {a : Nat} (hk : nk M.2.2.2 = k) (h79 : M.2.2.2 < 79) (h : ∀ v ∈ st, okv M v) : (vR (some k) :: st).map (cv (adU ad k a)) = .ref a :: st.map (cv ad) := by
  rw [List.map_cons]
  congr 1
  · show va_rf (some (adU ad k a k)) = _
    simp [adU, va_rf]
  · exact List.map_congr_left fun v hv => cv_adU (fun k' e => al_ne hk h79 (h v hv k' e))
theorem fvl_nw {ad : KK → Nat} {k : KK} {j : Nat} {t : FieldType} : fvl ad (nw M k) k j t = (match t with | .long => .long 0 | .object _ => .null | .array _ => .null | _ => .int 0) := by
  cases t <;> simp [fvl, nw, va_rf]
/-- a type of field that our classes have -/
def okT : FieldType → Bool
  | .int => true | .long => true | .boolean => true | .object _ => true | .array _ => true | _ => false
theorem pw_new {idx ci : Nat} {k : KK} (hd : decode (mB mi) pc = .ok (.new idx, 3)) (h7 : ci < 7) (hw1 : Cond.classLink (mO mi) idx (cnm ci) ∈ GW) (hw2 : Cond.instantiable (cnm ci) (nfl ci) ∈ GW) (hw3 : Cond.initialized (cnm ci) ∈ GW) (hk : nk M.2.2.2 = k) (h79 : M.2.2.2 < 79) (hs : shp k = (0, ci)) (hok : (List.range (nfl ci)).all (fun j => okT (fty ci j)) = true)
    (h : PW G l mi (pc + 3) L (vR (some k) :: st) (nw M k) o M' mc ms) : PW G l mi pc L st M o M' (mc + 1) (ms + nfl ci) := by
  intro p e R s mid args below meth c B C H locs cells slots ls ad D
  have hT := C.2.2.2.2.2.2.2.2.1
  have hD1 := D.1
  refine va_new C.1 C.2.1 (hT.hts args) (cls_in ci h7) (fty ci) (cls_ty ci h7) C.2.2.2.2.2.2.1 (hT.hts args _ hw1) (hT.hts args _ hw2) (hT.hts args _ hw3) hT.2.2.1 D.2.2.1.1 D.2.2.1.2.1 D.2.1 (fun _ q => q) (cls_at ci h7) (fs := (List.range (nfl ci)).map (fun j => fvl ad (nw M k) k j (fty ci j))) (fun j hj => ?_) (by omega) (by omega) hd (fun q H1 hP hD hS => ?_)
  · have h1 := List.all_eq_true.mp hok j (List.mem_range.mpr hj)
    simp only [vp_V, List.getD_eq_getElem?_getD, List.getElem?_map, List.getElem?_range hj, Option.map_some, Option.getD_some, fvl_nw]
    cases hq : fty ci j <;> rw [hq] at h1 <;> first | rfl | (simp [okT] at h1)
  · have hR : HR G B (adU ad k q) (nw M k) H1 := HR.new D.2.2.1 hk h79 (by
      simp only [cE, hs]
      congr 2
      refine List.map_congr_left fun j _ => ?_
      rw [fvl_nw, fvl_nw]) hP hD
    have hx := h p e R s mid args below meth c B C H1 locs (cells + 1) (slots + nfl ci) ls (adU ad k q) (D.new hk h79 hR hS)
    rw [map_new hk h79 D.ok] at hx
    refine W_mono hx fun t ht => ?_
    have e1 : cells + 1 + mc = cells + (mc + 1) := by omega
    have e2 : slots + nfl ci + ms = slots + (ms + nfl ci) := by omega
    rw [e1, e2] at ht
    exact pE_new hk h79 ht
theorem pw_newI {k : KK} {n : Int32} {z : Nat} (hd : decode (mB mi) pc = .ok (.newarray .int, 2)) (hw : Cond.arrayClass .int ∈ GW) (hn : ¬ n < 0) (hz : n.toNatClampNeg = z) (hb : z * 4 ≤ 536870912) (hk : nk M.2.2.2 = k) (h79 : M.2.2.2 < 79) (hs : shp k = (1, z))
    (h : PW G l mi (pc + 2) L (vR (some k) :: st) (nw M k) o M' mc ms) : PW G l mi pc L (vI n :: st) M o M' (mc + 1) (ms + z) := by
  intro p e R s mid args below meth c B C H locs cells slots ls ad D
  have hT := C.2.2.2.2.2.2.2.2.1
  have hD1 := D.1
  refine va_newa (atype := .int) (ty := .int) (a0 := (z, .inl (fun _ => 0))) C.1 C.2.1 (hT.hts args _ hw) rfl hT.2.2.1 D.2.2.1.1 D.2.2.1.2.1 D.2.1 (fun _ q => q) (fun cA => rfl) hn hz hb (by omega) (by omega) hd (fun q cA H1 hK hP hD hS => ?_)
  have hA : cA = G.2 0 := Option.some.inj ((show s.vm.findClass _ = some cA from (hK.2 3 (cA, .int) rfl).2).symm.trans (hT.2.2.1.2 0 (G.2 0, .int) rfl).2)
  subst hA
  have hR : HR G B (adU ad k q) (nw M k) H1 := HR.new D.2.2.1 hk h79 (by
    simp only [cE, hs]
    congr 4
    funext j
    simp [nw]) hP hD
  have hx := h p e R s mid args below meth c B C H1 locs (cells + 1) (slots + z) ls (adU ad k q) ((D.stk (okt D.ok)).new hk h79 hR hS)
  rw [map_new hk h79 (okt D.ok)] at hx
  refine W_mono hx fun t ht => ?_
  have e1 : cells + 1 + mc = cells + (mc + 1) := by omega
  have e2 : slots + z + ms = slots + (ms + z) := by omega
  rw [e1, e2] at ht
  exact pE_new hk h79 ht
theorem pw_newL {k : KK} {n : Int32} {z : Nat} (hd : decode (mB mi) pc = .ok (.newarray .long, 2)) (hw : Cond.arrayClass .long ∈ GW) (hn : ¬ n < 0) (hz : n.toNatClampNeg = z) (hb : z * 8 ≤ 536870912) (hk : nk M.2.2.2 = k) (h79 : M.2.2.2 < 79) (hs : shp k = (2, z))
    (h : PW G l mi (pc + 2) L (vR (some k) :: st) (nw M k) o M' mc ms) : PW G l mi pc L (vI n :: st) M o M' (mc + 1) (ms + z) := by
  intro p e R s mid args below meth c B C H locs cells slots ls ad D
  have hT := C.2.2.2.2.2.2.2.2.1
  have hD1 := D.1
  refine va_newa (atype := .long) (ty := .long) (a0 := (z, .inr (.inl (fun _ => 0)))) C.1 C.2.1 (hT.hts args _ hw) rfl hT.2.2.1 D.2.2.1.1 D.2.2.1.2.1 D.2.1 (fun _ q => q) (fun cA => rfl) hn hz hb (by omega) (by omega) hd (fun q cA H1 hK hP hD hS => ?_)
  have hA : cA = G.2 1 := Option.some.inj ((show s.vm.findClass _ = some cA from (hK.2 3 (cA, .long) rfl).2).symm.trans (hT.2.2.1.2 1 (G.2 1, .long) rfl).2)
  subst hA
  have hR : HR G B (adU ad k q) (nw M k) H1 := HR.new D.2.2.1 hk h79 (by
    simp only [cE, hs]
    congr 5
    funext j
    simp [nw]) hP hD
  have hx := h p e R s mid args below meth c B C H1 locs (cells + 1) (slots + z) ls (adU ad k q) ((D.stk (okt D.ok)).new hk h79 hR hS)
  rw [map_new hk h79 (okt D.ok)] at hx
  refine W_mono hx fun t ht => ?_
  have e1 : cells + 1 + mc = cells + (mc + 1) := by omega
  have e2 : slots + z + ms = slots + (ms + z) := by omega
  rw [e1, e2] at ht
  exact pE_new hk h79 ht
theorem pw_newR {idx : Nat} {k : KK} {n : Int32} {z : Nat} (hd : decode (mB mi) pc = .ok (.anewarray idx, 3)) (hw : Cond.classLink (mO mi) idx "TimeKeeper$Peer" ∈ GW) (ho : ∀ s, TB G s → va_AO "TimeKeeper$Peer" s) (hn : ¬ n < 0) (hz : n.toNatClampNeg = z) (hb : z * 4 ≤ 536870912) (hk : nk M.2.2.2 = k) (h79 : M.2.2.2 < 79) (hs : shp k = (3, z))
    (h : PW G l mi (pc + 3) L (vR (some k) :: st) (nw M k) o M' mc ms) : PW G l mi pc L (vI n :: st) M o M' (mc + 1) (ms + z) := by
  intro p e R s mid args below meth c B C H locs cells slots ls ad D
  have hT := C.2.2.2.2.2.2.2.2.1
  have hD1 := D.1
  refine va_newq C.1 C.2.1 C.2.2.2.2.2.2.1 (hT.hts args _ hw) (ho s hT) hT.2.2.1 D.2.2.1.1 D.2.2.1.2.1 D.2.1 (fun _ q => q) hn hz hb (by omega) (by omega) hd (fun q cA H1 hK hP hD hS => ?_)
  have hA : cA = G.2 2 := by
    obtain ⟨kA, comp, -, -, -, f4⟩ := (hK.2 3 (cA, .object "TimeKeeper$Peer") rfl).2
    obtain ⟨kA2, comp2, -, -, -, g4⟩ := (hK.2 2 (G.2 2, .object "TimeKeeper$Peer") rfl).2
    exact Option.some.inj (f4.symm.trans g4)
  subst hA
  have hR : HR G B (adU ad k q) (nw M k) H1 := HR.new D.2.2.1 hk h79 (by
    simp only [cE, hs]
    congr 7
    funext j
    simp [nw]) hP hD
  have hx := h p e R s mid args below meth c B C H1 locs (cells + 1) (slots + z) ls (adU ad k q) ((D.stk (okt D.ok)).new hk h79 hR hS)
  rw [map_new hk h79 (okt D.ok)] at hx
  refine W_mono hx fun t ht => ?_
  have e1 : cells + 1 + mc = cells + (mc + 1) := by omega
  have e2 : slots + z + ms = slots + (ms + z) := by omega
  rw [e1, e2] at ht
  exact pE_new hk h79 ht
end PT
end
section
/-! calls -/
def cw (mi : MI) : Cond := match mH mi with
  | [] => .code (mY mi) (mB mi) (mL mi) (mT mi)
  | _ :: _ => .codeWith (mY mi) (mB mi) (mL mi) (mT mi) (mH mi)
theorem cw_spec {mi : MI} {args : Array Value} {s : State} (h : (cw mi).before args s = true) : ∃ m meth c, s.methodNamed? (mY mi) = some m ∧ s.vm.method? m = some meth ∧ meth.code = some c ∧ c.code = mB mi ∧ c.maxLocals = mL mi ∧ meth.sig.returnType = mT mi ∧ meth.locks = false ∧ c.exceptionTable.toList = tableOf (mH mi) ∧ parseMethodDescriptor (mY mi).desc = some meth.sig := by
  unfold cw at h
  split at h
  · rename_i hh
    obtain ⟨m, hn⟩ := Cond.code_named h
    obtain ⟨meth, c, h1, h2, h3, h4, h5, h6, h7, h8⟩ := Cond.code_spec hn h
    refine ⟨m, meth, c, hn, h1, h2, h3, h4, h5, h6, ?_, h8⟩
    rw [hh, Array.isEmpty_iff.mp h7]
    rfl
  · obtain ⟨m, meth, c, hn, h1, h2, h3, h4, h5, h6, h7, h8⟩ := Cond.codeWith_spec h
    refine ⟨m, meth, c, hn, h1, h2, h3, h4, h6, h7, ?_, h8⟩
    rw [← h5, table_eq]
/-- a method as the tables have it -/
def MOK (mi : MI) : Prop := cw mi ∈ GW ∧ Cond.initialized (mY mi).cls ∈ GW ∧ mO mi = (mY mi).cls ∧ plainName (mY mi).cls = true ∧ ((mY mi).cls ≠ "java/lang/invoke/MethodHandle" ∧ (mY mi).cls ≠ "java/lang/invoke/VarHandle")
def nP (mi : MI) (n : Nat) : Prop := (parseMethodDescriptor (mY mi).desc).map (fun d => d.parameters.length) = some n
/-- the invoking instruction comes to the invocation -/
def INV (G : GG) (l : Launch) (mi : MI) (pc : Nat) (y : MethodName) (as stk st : List PV) (M : Mem) : Prop :=
  ((∀ v ∈ as, v ∈ stk) ∧ ∀ v ∈ st, v ∈ stk) ∧ ∀ p e R s mid args below meth c B, CX G l mi p R s mid meth c B → ∀ T locs cells slots ls ad, Stand p l e R s mid args below meth c T locs cells slots → HR G B ad M T.heap → (∀ v ∈ stk, okv M v) →
    (∃ ig, decode c.code pc = .ok (ig, 3)) ∧ ∃ T1 mk, T1.heap = T.heap ∧ Stand p l e R s mid args below meth c T1 locs cells slots ∧ T1.methodNamed? y = some mk ∧
      ∀ target, Steps p.tables e below (doInvoke e (T1.setTop (F0 mid pc ls (st.map (cv ad)))) [] mk (as.map (cv ad)).toArray).1 target → Steps p.tables e below (T.setTop (F0 mid pc ls (stk.map (cv ad)))) target
theorem cv_rev (ad : KK → Nat) (as st : List PV) : (as.reverse ++ st).map (cv ad) = (as.map (cv ad)).reverse ++ st.map (cv ad) := by simp
section PC
variable {G : GG} {l : Launch} {mi m2 : MI} {pc : Nat} {L : List (Option PV)} {as stk st : List PV} {M M' M2 : Mem} {o : PO} {mc ms c1 s1 : Nat}
theorem inv_S {idx : Nat} (hd : decode (mB mi) pc = .ok (.invokestatic idx, 3)) (hok : MOK m2) (hl : Cond.methodLink (mO mi) idx (mY m2) ∈ GW) (hst : Cond.static (mY m2) ∈ GW) (hn : nP m2 as.length) (hs : stk = as.reverse ++ st) : INV G l mi pc (mY m2) as stk st M := by
  subst hs
  refine ⟨⟨fun v h => by simp at h ⊢; first | exact Or.inl h | (rcases h with h | h; exact Or.inr (Or.inl h); exact Or.inl h), fun v h => by simp; first | exact Or.inr h | exact Or.inr (Or.inr h)⟩, ?_⟩
  intro p e R s mid args below meth c B C T locs cells slots ls ad X hR hk
  have hT := C.2.2.2.2.2.2.2.2.1
  have hw := hT.hts args
  obtain ⟨mk, methM, cM, hnamed, hmethM, -, -, -, -, -, -, hsigM⟩ := cw_spec (hw _ hok.1)
  have hstatic : methM.isStatic = true := Cond.static_spec hnamed hmethM (hw _ hst)
  obtain ⟨kP, hkP, -⟩ := className_of_methodNamed hnamed
  have hinitP : kP.init = .initialized := Cond.initialized_spec (findClass_of_methodNamed hnamed) hkP (hw _ hok.2.1)
  have hlen : (as.map (cv ad)).length = methM.sig.parameters.length := by
    have h2 := hn
    unfold nP at h2
    rw [hsigM] at h2
    rw [List.length_map]
    exact (Option.some.inj h2).symm
  obtain ⟨vm₁, X₁, hstep₁⟩ := X.invokestatic C.1 C.2.2.2.2.2.2.1 (hw _ hl) hnamed hmethM hstatic hkP hinitP hok.2.2.2.2 (g := F0 mid pc ls ((as.reverse ++ st).map (cv ad))) rfl (argsL := as.map (cv ad)) (rest := st.map (cv ad)) hlen (cv_rev ad as st) (by rw [C.2.1]; exact hd)
  exact ⟨⟨_, by rw [C.2.1]; exact hd⟩, T.setVm vm₁, mk, rfl, X₁, X₁.named hnamed, fun target h => hstep₁ _ fun acts => by rw [doInvoke_state]; exact h⟩
theorem inv_N {idx : Nat} {host : String} (hd : decode (mB mi) pc = .ok (.invokestatic idx, 3)) (hok : MOK m2) (hl : Cond.methodLinkNest (mO mi) idx (mY m2) host ∈ NW) (hst : Cond.static (mY m2) ∈ GW) (hn : nP m2 as.length) (hs : stk = as.reverse ++ st) : INV G l mi pc (mY m2) as stk st M := by
  subst hs
  refine ⟨⟨fun v h => by simp at h ⊢; first | exact Or.inl h | (rcases h with h | h; exact Or.inr (Or.inl h); exact Or.inl h), fun v h => by simp; first | exact Or.inr h | exact Or.inr (Or.inr h)⟩, ?_⟩
  intro p e R s mid args below meth c B C T locs cells slots ls ad X hR hk
  have hT := C.2.2.2.2.2.2.2.2.1
  have hw := hT.hts args
  obtain ⟨mk, methM, cM, hnamed, hmethM, -, -, -, -, -, -, hsigM⟩ := cw_spec (hw _ hok.1)
  have hstatic : methM.isStatic = true := Cond.static_spec hnamed hmethM (hw _ hst)
  obtain ⟨kP, hkP, -⟩ := className_of_methodNamed hnamed
  have hinitP : kP.init = .initialized := Cond.initialized_spec (findClass_of_methodNamed hnamed) hkP (hw _ hok.2.1)
  have hlen : (as.map (cv ad)).length = methM.sig.parameters.length := by
    have h2 := hn
    unfold nP at h2
    rw [hsigM] at h2
    rw [List.length_map]
    exact (Option.some.inj h2).symm
  obtain ⟨vm₁, X₁, hstep₁⟩ := X.invokestaticNest C.1 C.2.2.2.2.2.2.1 (va_Nw.use rfl (hT.2.1 _ hl)) hnamed hmethM hstatic hkP hinitP hok.2.2.2.2 (g := F0 mid pc ls ((as.reverse ++ st).map (cv ad))) rfl (argsL := as.map (cv ad)) (rest := st.map (cv ad)) hlen (cv_rev ad as st) (by rw [C.2.1]; exact hd)
  exact ⟨⟨_, by rw [C.2.1]; exact hd⟩, T.setVm vm₁, mk, rfl, X₁, X₁.named hnamed, fun target h => hstep₁ _ fun acts => by rw [doInvoke_state]; exact h⟩
theorem inv_V {idx ci : Nat} {k : KK} (hd : decode (mB mi) pc = .ok (.invokevirtual idx, 3)) (hok : MOK m2) (hl : Cond.methodLink (mO mi) idx (mY m2) ∈ GW) (hin : Cond.instanceMethod (mY m2) ∈ GW) (hse : Cond.selects (mY m2).cls (mY m2) (mY m2) ∈ GW) (h7 : ci < 7) (hsh : shp k = (0, ci)) (hc : (mY m2).cls = cnm ci) (hn : nP m2 as.length) (hs : stk = as.reverse ++ vR (some k) :: st) : INV G l mi pc (mY m2) (vR (some k) :: as) stk st M := by
  subst hs
  refine ⟨⟨fun v h => by simp at h ⊢; first | exact Or.inl h | (rcases h with h | h; exact Or.inr (Or.inl h); exact Or.inl h), fun v h => by simp; first | exact Or.inr h | exact Or.inr (Or.inr h)⟩, ?_⟩
  intro p e R s mid args below meth c B C T locs cells slots ls ad X hR hk
  have hT := C.2.2.2.2.2.2.2.2.1
  have hw := hT.hts args
  have hal : al M k := hk (vR (some k)) (by simp) k rfl
  obtain ⟨n, hn0, hk0, hat⟩ := HR.obj (G := G) (B := B) (H := T.heap) (ad := ad) hsh hal
  obtain ⟨cellB, hcell, hobj, hcls⟩ := va_recv hT.2.2.1 hR.1 (cls_at ci h7) hat
  obtain ⟨mk, methM, hnamed, hmethM, hstM, habM⟩ := Cond.instanceMethod_spec (hw _ hin)
  obtain ⟨mk', methM', cM, hnamed', hmethM', -, -, -, -, -, -, hsigM⟩ := cw_spec (hw _ hok.1)
  cases Option.some.inj (hnamed.symm.trans hnamed')
  cases Option.some.inj (hmethM.symm.trans hmethM')
  obtain ⟨c2, r2, m2', q1, q2, q3, q4, kP, hkP, hkPi⟩ := Cond.selects_spec (hw _ hse)
  rw [hc] at q1
  cases hcls.symm.trans q1
  cases (State.methodFound?_of_named hnamed hok.2.2.2.2).symm.trans q2
  cases hnamed.symm.trans q3
  have hselP : selectMethod e.platform s.vm cellB.cls mk = .method mk := by rw [Launch.admits_selectMethod X.admits]; exact q4
  have hlen : (as.map (cv ad)).length = methM.sig.parameters.length := by
    have h2 := hn
    unfold nP at h2
    rw [hsigM] at h2
    rw [List.length_map]
    exact (Option.some.inj h2).symm
  obtain ⟨vm₁, X₁, hstep₁⟩ := X.invokevirtual C.1 C.2.2.2.2.2.2.1 (hw _ hl) hnamed hmethM hstM hkP hkPi hok.2.2.2.2 (a := ad k) (cell := cellB) hcell
    (fun z h => by rw [h] at hobj; cases hobj) hselP hmethM habM hkP hkPi (g := F0 mid pc ls ((as.reverse ++ vR (some k) :: st).map (cv ad))) rfl (argsL := as.map (cv ad)) (rest := st.map (cv ad)) hlen (cv_rev ad as _) (by rw [C.2.1]; exact hd)
  exact ⟨⟨_, by rw [C.2.1]; exact hd⟩, T.setVm vm₁, mk, rfl, X₁, X₁.named hnamed, fun target h => hstep₁ _ fun acts => by rw [doInvoke_state]; exact h⟩
theorem inv_I {idx : Nat} {k : KK} (hd : decode (mB mi) pc = .ok (.invokespecial idx, 3)) (hok : MOK m2) (hH : mH m2 = []) (hT0 : mT m2 = none) (hnm : (mY m2).name = "<init>") (hl : Cond.methodLink (mO mi) idx (mY m2) ∈ GW) (hin : Cond.instanceMethod (mY m2) ∈ GW) (hn : nP m2 as.length) (hs : stk = as.reverse ++ vR (some k) :: st) : INV G l mi pc (mY m2) (vR (some k) :: as) stk st M := by
  subst hs
  refine ⟨⟨fun v h => by simp at h ⊢; first | exact Or.inl h | (rcases h with h | h; exact Or.inr (Or.inl h); exact Or.inl h), fun v h => by simp; first | exact Or.inr h | exact Or.inr (Or.inr h)⟩, ?_⟩
  intro p e R s mid args below meth c B C T locs cells slots ls ad X hR hk
  have hT := C.2.2.2.2.2.2.2.2.1
  have hw := hT.hts args
  have hpl : e.platform.magicAccessors = ({} : Platform).magicAccessors := by rw [X.admits.platform]
  have hcode : (Cond.code (mY m2) (mB m2) (mL m2) none).before args s = true := by
    have h1 := hw _ hok.1
    unfold cw at h1
    rw [hH, hT0] at h1
    exact h1
  obtain ⟨mk, methM, cM, kP, vm₁, hnamed, hmethM, hcodeM, -, hlocalsM, -, hkP, -, hW₁, hstep₁⟩ := Steps.initColdArgs (e := e) X.here C.1 X.warmed hpl C.2.2.2.2.2.2.1 hnm hok.2.2.2.2 (hw _ hl) (hw _ hin) hcode (f := F0 mid pc ls ((as.reverse ++ vR (some k) :: st).map (cv ad))) rfl (a := ad k) (argsL := as.map (cv ad)) (rest := st.map (cv ad)) (fun sig h => by
    have h2 := hn
    unfold nP at h2
    rw [h] at h2
    rw [List.length_map]
    exact (Option.some.inj h2).symm) (cv_rev ad as _) (by rw [C.2.1]; exact hd)
  have X₁ := X.noted hW₁
  exact ⟨⟨_, by rw [C.2.1]; exact hd⟩, T.setVm vm₁, mk, rfl, X₁, X₁.named hnamed, fun target h => hstep₁ _ fun acts => by rw [doInvoke_state]; exact h⟩
/-! the callee's entry -/
theorem ldL_pad : ∀ (n : Nat) (L : List (Option PV)) (i : Nat) (v : PV), ldL (padL n L) i = some v → ldL L i = some v
  | 0, L, i, v, h => by simp [padL, ldL] at h
  | n + 1, [], i, v, h => by
    cases i with
    | zero => simp [padL, ldL] at h
    | succ i => have := ldL_pad n [] i v (by simpa [padL, ldL] using h); simp [ldL] at this
  | n + 1, x :: r, i, v, h => by
    cases i with
    | zero => simpa [padL, ldL] using h
    | succ i => exact ldL_pad n r i v (by simpa [padL, ldL] using h)
theorem ldL_ent (ad : KK → Nat) : ∀ (as : List PV) (b i : Nat) (v : PV), ldL (entL as) i = some v → (b + i, cv ad v) ∈ lv_args b (as.map (cv ad))
  | [], b, i, v, h => by simp [entL, ldL] at h
  | a :: as, b, i, v, h => by
    rw [List.map_cons]
    unfold lv_args
    cases i with
    | zero =>
      have : a = v := by simpa [entL, ldL] using h
      subst this
      exact List.mem_cons_self
    | succ i =>
      refine List.mem_cons_of_mem _ ?_
      rw [cv_cat]
      by_cases c2 : cat a = 2
      · rw [if_pos c2]
        have h1 : ldL (none :: entL as) i = some v := by simpa [entL, ldL, c2] using h
        cases i with
        | zero => simp [ldL] at h1
        | succ i =>
          have := ldL_ent ad as (b + 2) i v (by simpa [ldL] using h1)
          rw [show b + (i + 1 + 1) = b + 2 + i by omega]
          exact this
      · rw [if_neg c2]
        have h1 : ldL (entL as) i = some v := by
          have h0 : ldL (match cat a with | 2 => none :: entL as | _ => entL as) i = some v := by simpa [entL, ldL] using h
          split at h0
          · rename_i q; exact absurd q c2
          · exact h0
        have := ldL_ent ad as (b + 1) i v h1
        rw [show b + (i + 1) = b + 1 + i by omega]
        exact this
theorem lg_len (ad : KK → Nat) : ∀ as : List PV, (lg_sl (as.map (cv ad))).length = (entL as).length
  | [] => rfl
  | a :: as => by
    have h := lg_len ad as
    unfold lg_sl at h ⊢
    rw [List.map_cons, List.flatMap_cons, List.length_append, h, cv_cat]
    rcases a with x | x | x <;> simp [entL, cat] <;> omega
theorem LR_ent {ad : KK → Nat} {n : Nat} (hn : (entL as).length ≤ n) : LR ad (padL n (entL as)) ((lg_sl (as.map (cv ad)) ++ List.replicate (n - (lg_sl (as.map (cv ad))).length) Slot.unset).toArray) n :=
  LR_of (lv_entry _ (by rw [lg_len]; exact hn)) fun i v h => by
    have := ldL_ent ad as 0 i v (ldL_pad _ _ _ _ h)
    rwa [Nat.zero_add] at this
theorem okL_ent {n : Nat} (h : ∀ v ∈ as, okv M v) : okL M (padL n (entL as)) := fun i v hv => by
  have h1 := ldL_ent (fun _ => 0) as 0 i v (ldL_pad _ _ _ _ hv)
  have key : ∀ (as : List PV) (i : Nat), ldL (entL as) i = some v → v ∈ as := by
    intro as
    induction as with
    | nil => intro i h; simp [entL, ldL] at h
    | cons a as ih =>
      intro i h
      cases i with
      | zero =>
        have : a = v := by simpa [entL, ldL] using h
        subst this
        exact List.mem_cons_self
      | succ i =>
        refine List.mem_cons_of_mem _ ?_
        simp only [entL, ldL] at h
        split at h
        · cases i with
          | zero => simp [ldL] at h
          | succ i => exact ih i (by simpa [ldL] using h)
        · exact ih i h
  exact h v (key as i (ldL_pad _ _ _ _ hv))
theorem st_weaken {tb : Tables} {e : Env} {mid below : List Frame} {a b : State} (h : Steps tb e (mid ++ below) a b) : Steps tb e below a b := by
  obtain ⟨n, hn, w⟩ := h
  exact ⟨n, hn, fun k hk => (w k hk).weaken⟩
/-- the room that a method is called with -/
abbrev rmOf (m : MI) (c s : Nat) : Room := { frames := mF m, cells := c, slots := s, locals := mW m }
/-- the invocation comes to the callee's end -/
theorem call_core {p : Program} {e : Env} {R : Room} {s : State} {mid : MethodId} {args : Array Value} {below : List Frame} {meth : Method} {c : Code} {B : Heap} (C : CX G l mi p R s mid meth c B) {T1 : State} {locs : List Loc} {cells slots : Nat} {ls : Array Slot} {ad : KK → Nat} (X : Stand p l e R s mid args below meth c T1 locs cells slots)
    (hS : va_S (fun q => B.size ≤ q) B T1.heap locs) (hR : HR G B ad M T1.heap) (hok : MOK m2) {mk : MethodId} (hn : T1.methodNamed? (mY m2) = some mk) (hls : ls.size = mL mi) {ig : Instr} (hdg : decode c.code pc = .ok (ig, 3)) (has : ∀ v ∈ as, okv M v) (hent : (entL as).length ≤ mL m2)
    (hPM : PM G l m2 as M o M2 c1 s1) (hf : mF m2 + 1 ≤ mF mi) (hw : (st.map cat).sum + (mL m2 + 11) + mW m2 ≤ mW mi) (hc : cells + c1 ≤ R.cells) (hs : slots + s1 ≤ R.slots) :
    ∃ t, Steps p.tables e below (doInvoke e (T1.setTop (F0 mid pc ls (st.map (cv ad)))) [] mk (as.map (cv ad)).toArray).1 t ∧
      (T1.calling (F0 mid pc ls (st.map (cv ad))) mk (as.map (cv ad)).toArray).vm = T1.vm ∧ pE G B (.java (F0 mid pc ls (st.map (cv ad))) :: below) (T1.calling (F0 mid pc ls (st.map (cv ad))) mk (as.map (cv ad)).toArray) ad M.2.2.2 o M2 c1 s1 t := by
  have hT := C.2.2.2.2.2.2.2.2.1
  have hT1 : TB G T1 := hT.warm X.warmed
  obtain ⟨mk', methk, ck, hn', hmk, hck, hbk, hlk, hrk, hlock, htab, hsig⟩ := cw_spec (hT1.hts args _ hok.1)
  cases Option.some.inj (hn.symm.trans hn')
  have hfr := C.2.2.2.2.2.2.2.2.2.2.1
  have hlo := C.2.2.2.2.2.2.2.2.2.2.2.1
  obtain ⟨Y0, hin⟩ := X.into (g := F0 mid pc ls (st.map (cv ad))) rfl (hls.trans C.2.2.1.symm) hdg (as.map (cv ad)).toArray (R' := rmOf m2 c1 s1) hmk hck hlock (State.plainMethod.of_named (plainFor_of_name hok.2.2.2.1) hn hmk) (Nat.le_trans hf hfr) (by
    rw [cv_cats, hlk]
    show 2 * 0 + _ + _ + mW m2 ≤ _
    omega) hc hs
  have hvm : (T1.calling (F0 mid pc ls (st.map (cv ad))) mk (as.map (cv ad)).toArray).vm = T1.vm := rfl
  have hhp : (T1.calling (F0 mid pc ls (st.map (cv ad))) mk (as.map (cv ad)).toArray).heap = T1.heap := rfl
  have hWs : s.WarmedH (T1.calling (F0 mid pc ls (st.map (cv ad))) mk (as.map (cv ad)).toArray).vm := X.warmed
  have C' : CX G l m2 p (rmOf m2 c1 s1) (T1.calling (F0 mid pc ls (st.map (cv ad))) mk (as.map (cv ad)).toArray) mk methk ck B :=
    ⟨C.1, hbk, hlk, hrk, hlock, htab, by rw [hok.2.2.1]; exact findClass_of_methodNamed (s := T1) hn, (name_of_methodNamed hn hmk).1, hT.warm hWs, C.2.2.2.2.2.2.2.2.2.1.moved hWs.alike, Nat.le_refl _, Nat.le_refl _, C.2.2.2.2.2.2.2.2.2.2.2.2⟩
  have D' : DX G m2 (rmOf m2 c1 s1) B M (padL (mL m2) (entL as)) [] c1 s1 T1.heap [] 0 0 ((lg_sl (as.map (cv ad)) ++ List.replicate (mL m2 - (lg_sl (as.map (cv ad))).length) Slot.unset).toArray) ad :=
    ⟨⟨by show 0 + c1 ≤ c1; omega, by show 0 + s1 ≤ s1; omega⟩, ⟨hS.1, hS.2.1, fun _ h => by cases h⟩, hR, LR_ent hent, okL_ent has, fun _ h => by cases h⟩
  obtain ⟨t, ht, hE⟩ := hPM p e (rmOf m2 c1 s1) _ mk (as.map (cv ad)).toArray (.java (F0 mid pc ls (st.map (cv ad))) :: below) methk ck B C' T1.heap [] 0 0 _ ad D' ((T1.setTop (F0 mid pc ls (st.map (cv ad)))).pushFrame (.java (entryFrame mk (as.map (cv ad)).toArray ck.maxLocals))) rfl Y0
  refine ⟨t, ?_, hvm, ?_⟩
  · rw [hin []]
    rw [hlk, lg_entry_eq]
    exact st_weaken (mid := [.java (F0 mid pc ls (st.map (cv ad)))]) (by rw [hlk, lg_entry_eq] at ht; exact ht)
  · rw [Nat.zero_add, Nat.zero_add] at hE
    exact hE
end PC
end
section
/-! a call's ends: it returns; it throws and nobody here catches; it throws and a row of the table catches -/
section PX
variable {G : GG} {l : Launch} {mi m2 : MI} {pc : Nat} {L : List (Option PV)} {as stk st : List PV} {M M' M2 : Mem} {o : PO} {mc ms c1 s1 : Nat}
theorem cv_agree {ad ad' : KK → Nat} (h : ∀ i, i < M.2.2.2 → ad' (nk i) = ad (nk i)) {v : PV} (hv : okv M v) : cv ad' v = cv ad v := by
  rcases v with x | x | r
  · rfl
  · rfl
  · cases r with
    | none => rfl
    | some k =>
      obtain ⟨n, hn, e⟩ := hv k rfl
      show va_rf (some (ad' k)) = va_rf (some (ad k))
      rw [← e, h n hn]
theorem al_mono (h : M.2.2.2 ≤ M2.2.2.2) {k : KK} (ha : al M k) : al M2 k := by
  obtain ⟨n, hn, e⟩ := ha
  exact ⟨n, by omega, e⟩
theorem LR_agree {ad ad' : KK → Nat} {ls : Array Slot} {n : Nat} (h : ∀ i, i < M.2.2.2 → ad' (nk i) = ad (nk i)) (hL : LR ad L ls n) (ho : okL M L) : LR ad' L ls n := ⟨hL.1, hL.2.1, fun i v hv => by rw [cv_agree h (ho i v hv)]; exact hL.2.2 i v hv⟩
theorem pE_agree {B : Heap} {below : List Frame} {s t : State} {ad ad' : KK → Nat} {x y x' y' : Nat} (h : ∀ i, i < M.2.2.2 → ad' (nk i) = ad (nk i)) (hm : M.2.2.2 ≤ M2.2.2.2) (hx : x = x') (hy : y = y') (hE : pE G B below s ad' M2.2.2.2 o M' x y t) : pE G B below s ad M.2.2.2 o M' x' y' t := by
  subst hx; subst hy
  obtain ⟨out, ad2, Ls, h1, h2, h3, h4, h5, h6, h7, h8, h9⟩ := hE
  exact ⟨out, ad2, Ls, h1, h2, h3, h4, h5, fun i hi => (h6 i (by omega)).trans (h i hi), by omega, h8, h9⟩
theorem pw_call {r : Option PV} (hI : INV G l mi pc (mY m2) as stk st M) (hok : MOK m2) (hent : (entL as).length ≤ mL m2) (hf : mF m2 + 1 ≤ mF mi) (hw : (st.map cat).sum + (mL m2 + 11) + mW m2 ≤ mW mi) (hPM : PM G l m2 as M (.inl r) M2 c1 s1)
    (h : PW G l mi (pc + 3) L (r.toList ++ st) M2 o M' mc ms) : PW G l mi pc L stk M o M' (c1 + mc) (s1 + ms) := by
  intro p e R s mid args below meth c B C H locs cells slots ls ad D
  obtain ⟨⟨ha, hst⟩, hI⟩ := hI
  intro T hT X
  subst hT
  obtain ⟨⟨ig, hdg⟩, T1, mk, hh, X1, hn, hgo⟩ := hI p e R s mid args below meth c B C T locs cells slots ls ad X D.2.2.1 D.ok
  have hD1 := D.1
  obtain ⟨t, hs, hvm, out, ad', Ls, q1, q2, q3, q4, q5, q6, q7, q8, q9⟩ := call_core (st := st) (ls := ls) C X1 (by rw [hh]; exact D.2.1) (by rw [hh]; exact D.2.2.1) hok hn D.2.2.2.1.1 hdg (fun v hv => D.ok v (ha v hv)) hent hPM hf hw (by omega) (by omega)
  obtain ⟨rfl, q9⟩ := q9
  obtain ⟨T', X', hW', hsm, ht⟩ := X1.outOf (g := F0 mid pc ls (st.map (cv ad))) rfl hdg q2 q3 q4
  have hh' : t.heap = T'.heap := by rw [ht]; rfl
  have hstk : ∀ v ∈ st, okv M v := fun v hv => D.ok v (hst v hv)
  have hmap : ((r.map (cv ad')).toList ++ st.map (cv ad)) = (r.toList ++ st).map (cv ad') := by
    rw [List.map_append]
    congr 1
    · cases r <;> rfl
    · exact List.map_congr_left fun v hv => (cv_agree q6 (hstk v hv)).symm
  have D' : DX G mi R B M2 L (r.toList ++ st) mc ms T'.heap (locs ++ Ls) (cells + c1) (slots + s1) ls ad' := by
    refine ⟨⟨by omega, by omega⟩, ⟨?_, ?_, ?_⟩, ?_, LR_agree q6 D.2.2.2.1 D.2.2.2.2.1, fun i v hv k ek => al_mono q7 (D.2.2.2.2.1 i v hv k ek), fun v hv => ?_⟩
    · rw [← hh']; exact q5.1
    · rw [← hh']; exact q5.2.1
    · intro q hq
      rcases List.mem_append.mp hq with z | z
      · exact D.2.1.2.2 q z
      · exact q5.2.2 q z
    · rw [← hh']; exact q8
    · rcases List.mem_append.mp hv with z | z
      · cases r with
        | none => cases z
        | some w => exact (List.mem_singleton.mp z) ▸ q9 w rfl
      · exact fun k ek => al_mono q7 (hstk v z k ek)
  obtain ⟨t2, g1, g2⟩ := h p e R s mid args below meth c B C T'.heap (locs ++ Ls) (cells + c1) (slots + s1) ls ad' D' T' rfl X'
  refine ⟨t2, hgo t2 (hs.trans ?_), pE_agree q6 q7 (by omega) (by omega) g2⟩
  rw [ht]
  show Steps p.tables e below (T'.setTop (F0 mid (pc + 3) ls ((r.map (cv ad')).toList ++ st.map (cv ad)))) t2
  rw [hmap]
  exact g1
theorem pw_callX {e0 : Nat} (hI : INV G l mi pc (mY m2) as stk st M) (hok : MOK m2) (hent : (entL as).length ≤ mL m2) (hf : mF m2 + 1 ≤ mF mi) (hw : (st.map cat).sum + (mL m2 + 11) + mW m2 ≤ mW mi) (hPM : PM G l m2 as M (tE e0) M2 c1 s1) (hno : ∀ x ∈ tableOf (mH mi), covers x pc = false) (ho : o = tE e0) (hM : M' = M2) : PW G l mi pc L stk M o M' (c1 + mc) (s1 + ms) := by
  subst ho; subst hM
  intro p e R s mid args below meth c B C H locs cells slots ls ad D
  obtain ⟨⟨ha, hst⟩, hI⟩ := hI
  intro T hT X
  subst hT
  obtain ⟨⟨ig, hdg⟩, T1, mk, hh, X1, hn, hgo⟩ := hI p e R s mid args below meth c B C T locs cells slots ls ad X D.2.2.1 D.ok
  have hD1 := D.1
  obtain ⟨t, hs, hvm, out, ad', Ls, q1, q2, q3, q4, q5, q6, q7, q8, q9⟩ := call_core (st := st) (ls := ls) C X1 (by rw [hh]; exact D.2.1) (by rw [hh]; exact D.2.2.1) hok hn D.2.2.2.1.1 hdg (fun v hv => D.ok v (ha v hv)) hent hPM hf hw (by omega) (by omega)
  obtain ⟨q, ce, rfl, z1, z2, z3⟩ := q9
  obtain ⟨T', X', hW', hsm, ht⟩ := X1.outOfThrown (g := F0 mid pc ls (st.map (cv ad))) rfl q2 q3 q4
  have hh' : t.heap = T'.heap := by rw [ht]; rfl
  obtain ⟨st1, hrun, hend, hW, hsm2⟩ := X'.leaveThrown q (g := F0 mid pc ls (st.map (cv ad))) rfl rfl rfl (by rw [C.2.2.2.2.2.1]; exact hno) C.2.2.2.2.1
  have hcl : s.vm.findClass (exN e0) = some ce.cls := by
    have : T1.vm.findClass (exN e0) = some ce.cls := z3
    rwa [X1.warmed.alike.findClass] at this
  refine ⟨_, hgo _ (hs.trans (by rw [ht]; exact st1)), .threw q, ad', locs ++ Ls, hrun, hend, hW, sbn_mono hsm2 (by omega) (by omega), ⟨?_, ?_, ?_⟩, q6, q7, ?_, q, ce, rfl, ?_, z2, hcl⟩
  · show B.size ≤ T'.heap.size
    rw [← hh']; exact q5.1
  · show ∀ z : Nat, z < B.size → ¬ B.size ≤ z → T'.heap[z]? = B[z]?
    rw [← hh']; exact q5.2.1
  · intro z hz
    rcases List.mem_append.mp hz with y | y
    · exact D.2.1.2.2 z y
    · exact q5.2.2 z y
  · show HR G B ad' M' T'.heap
    rw [← hh']; exact q8
  · show T'.heap[q]? = some ce
    rw [← hh']; exact z1
/-! the search for a handler, with classes that may be resolved in it -/
def fdTo (e : Env) (s : State) (f : JFrame) (a : Addr) (h : Handler) (vm' : Vm) : Prop := ∀ (Q : Handler → Pre) (E : CtlPost) (d : Bool) (acts : List Action), wp (findHandler f a) Q E e d acts s ↔ Q h d acts (s.setVm vm')
theorem fd_link {Q : Handler → Pre} {E : CtlPost} {e : Env} {d : Bool} {acts : List Action} {s : State} {f : JFrame} {a : Addr} {x : ExceptionTableEntry} {t : List ExceptionTableEntry} {c : ClassId} {cell : Cell} (hx : covers x f.pc = true) (h0 : x.catchType ≠ 0)
    (hl : s.vm.ClassLinks e.platform f.method.cls x.catchType c) (hcell : s.heap[a]? = some cell) (hobj : ∀ k, cell.vm ≠ .statics k) (hk : ∃ k, s.vm.classes[cell.cls]? = some k) (hc : ∃ k, s.vm.classes[c]? = some k) :
    (s.vm.assignable cell.cls c = true → (wp (findHandler.go f a (x :: t)) Q E e d acts s ↔ Q (.found x.handlerPc) d acts (s.setVm (s.vm.noted f.method.cls x.catchType (.cls c))))) ∧
    (s.vm.assignable cell.cls c = false → (wp (findHandler.go f a (x :: t)) Q E e d acts s ↔ wp (findHandler.go f a t) Q E e d acts (s.setVm (s.vm.noted f.method.cls x.catchType (.cls c))))) := by
  simp only [covers] at hx
  obtain ⟨ha, ht⟩ := (resolveClass_links e.toSetting hl).op (op := VmOp.resolveClass f.method.cls x.catchType) rfl
  have hal : s.vm.Alike (s.vm.noted f.method.cls x.catchType (.cls c)) := (Vm.Alike.refl s.vm).noted _ _ _
  obtain ⟨k1, hk1⟩ := hk
  obtain ⟨k2, hk2⟩ := hc
  obtain ⟨k1', hk1', -⟩ := hal.2.2 _ _ hk1
  obtain ⟨k2', hk2', -⟩ := hal.2.2 _ _ hk2
  constructor
  · intro hfit
    have hfit' : (s.vm.noted f.method.cls x.catchType (.cls c)).assignable cell.cls c = true := by rw [hal.assignable]; exact hfit
    simp [findHandler.go, hx, h0, ha, ht, hcell, hobj, hk1', hk2', hfit', VmOp.dirties, VmOp.acts]
  · intro hno
    have hno' : (s.vm.noted f.method.cls x.catchType (.cls c)).assignable cell.cls c = false := by rw [hal.assignable]; exact hno
    simp [findHandler.go, hx, h0, ha, ht, hcell, hobj, hk1', hk2', hno', VmOp.dirties, VmOp.acts]
/-- the rows ahead are passed -/
theorem fd_go {e : Env} {s₀ : State} {f : JFrame} {a : Addr} {cell : Cell} (hobj : ∀ k, cell.vm ≠ .statics k) (hk0 : ∃ k, s₀.vm.classes[cell.cls]? = some k) (x : ExceptionTableEntry) (rest : List ExceptionTableEntry) (hx : covers x f.pc = true) (h0 : x.catchType ≠ 0) {c : ClassId} (hl : s₀.vm.ClassLinks e.platform f.method.cls x.catchType c) (hfit : s₀.vm.assignable cell.cls c = true) :
    ∀ (pre : List ExceptionTableEntry) (S : State), s₀.WarmedH S.vm → S.heap[a]? = some cell → (∀ y ∈ pre, covers y f.pc = false ∨ (y.catchType ≠ 0 ∧ ∃ c, s₀.vm.ClassLinks e.platform f.method.cls y.catchType c ∧ s₀.vm.assignable cell.cls c = false)) →
      ∃ vm', s₀.WarmedH vm' ∧ ∀ (Q : Handler → Pre) (E : CtlPost) (d : Bool) (acts : List Action), wp (findHandler.go f a (pre ++ x :: rest)) Q E e d acts S ↔ Q (.found x.handlerPc) d acts (S.setVm vm') := by
  obtain ⟨k0, hk0⟩ := hk0
  intro pre
  induction pre with
  | nil =>
    intro S hW hcell _
    obtain ⟨k0', hk0', -⟩ := hW.alike.2.2 _ _ hk0
    obtain ⟨dk, _, _, kt, hd, _, _, _, _, hkt, _, hopen⟩ := hl.here
    obtain ⟨kt', hkt', -⟩ := hW.alike.2.2 _ _ hkt
    exact ⟨_, hW.noted hd hopen (State.rightAt_cls hl), fun Q E d acts => (fd_link hx h0 (hW.classLinks hl) hcell hobj ⟨k0', hk0'⟩ ⟨kt', hkt'⟩).1 (by rw [hW.alike.assignable]; exact hfit)⟩
  | cons y ys ih =>
    intro S hW hcell hpass
    obtain ⟨k0', hk0', -⟩ := hW.alike.2.2 _ _ hk0
    have hrest := fun z hz => hpass z (List.mem_cons_of_mem _ hz)
    by_cases hcov : covers y f.pc = true
    · rcases hpass y List.mem_cons_self with h | ⟨hy0, c2, hl2, hno⟩
      · rw [h] at hcov; cases hcov
      · obtain ⟨dk, _, _, kt, hd, _, _, _, _, hkt, _, hopen⟩ := hl2.here
        obtain ⟨kt', hkt', -⟩ := hW.alike.2.2 _ _ hkt
        obtain ⟨vm', hW', hq⟩ := ih (S.setVm (S.vm.noted f.method.cls y.catchType (.cls c2))) (hW.noted hd hopen (State.rightAt_cls hl2)) hcell hrest
        refine ⟨vm', hW', fun Q E d acts => ?_⟩
        rw [List.cons_append, (fd_link hcov hy0 (hW.classLinks hl2) hcell hobj ⟨k0', hk0'⟩ ⟨kt', hkt'⟩).2 (by rw [hW.alike.assignable]; exact hno)]
        exact hq Q E d acts
    · obtain ⟨vm', hW', hq⟩ := ih S hW hcell hrest
      refine ⟨vm', hW', fun Q E d acts => ?_⟩
      rw [List.cons_append, W.findHandler_go_skip (by simpa using hcov)]
      exact hq Q E d acts
theorem fd_step {e : Env} {s : State} {a : Addr} {f : JFrame} {r : List Frame} {pc : Nat} {vm' : Vm} (hfind : fdTo e s f a (.found pc) vm') : (stepThrowing e s a (.java f :: r)).Is ((s.setVm vm').setFrames (.java { f with pc := pc, stack := [.ref a] } :: r)) [] := by
  simp only [stepThrowing, searchFrame, vmDo]
  generalize hr : Sem.go _ e false [] s = res
  obtain ⟨as, rfl, ha⟩ := Sem.eq_ok_of hr (a := Handler.found pc) (s' := s.setVm vm') (acts' := []) (by simp [hfind _ _ _ _])
  exact ⟨rfl, ha⟩
theorem sfv (u : State) (vm' : Vm) (F G : List Frame) : ((u.setFrames F).setVm vm').setFrames G = (u.setVm vm').setFrames G := by
  have h1 : (u.setFrames F).setVm vm' = (u.setVm vm').setFrames F := rfl
  rw [h1, State.setFrames_setFrames]
theorem fd_caught {tb : Tables} {e : Env} {s target : State} {g : JFrame} {c : Code} {below : List Frame} {a : Addr} (h : At s g.method c below) {pc : Nat} {vm' : Vm} (hfind : fdTo e ((s.setTop g).pushFrame (.throwing a)) g a (.found pc) vm') (hrest : Steps tb e below ((s.setVm vm').setTop { g with pc := pc, stack := [.ref a] }) target) :
    Steps tb e below ((s.setTop g).pushFrame (.throwing a)) target := by
  obtain ⟨hgo, hw⟩ := h.throwing a
  refine Steps.head hgo hw ?_
  rw [stepThread_throwing (frames_entered h.top _), (fd_step (s := (s.setTop g).pushFrame (.throwing a)) hfind).1]
  obtain ⟨g₀, hg⟩ := Option.isSome_iff_exists.mp h.top
  obtain ⟨r, hr⟩ := State.topJava?_eq_some.mp hg
  have hr' : (s.setVm vm').frames = .java g₀ :: r := hr
  rw [State.setTop_of_frames _ hr'] at hrest
  rw [hr, List.tail_cons, State.pushFrame, sfv, State.setTop_of_frames _ hr, sfv]
  exact hrest
/-! a local that is given up -/
def stN (L : List (Option PV)) (j : Nat) : List (Option PV) := (stL L j (vI 0)).set j none
theorem ldL_set : ∀ (L : List (Option PV)) (j i : Nat) (v : PV), ldL (L.set j none) i = some v → i ≠ j ∧ ldL L i = some v
  | [], j, i, v, h => by simp [ldL] at h
  | x :: r, 0, i, v, h => by
    cases i with
    | zero => simp [ldL] at h
    | succ i => exact ⟨by omega, by simpa [ldL] using h⟩
  | x :: r, j + 1, i, v, h => by
    cases i with
    | zero => exact ⟨by omega, by simpa [ldL] using h⟩
    | succ i =>
      obtain ⟨h1, h2⟩ := ldL_set r j i v (by simpa [ldL] using h)
      exact ⟨by omega, by simpa [ldL] using h2⟩
theorem LR_stN {ad : KK → Nat} {ls' : Array Slot} {nL i : Nat} {w : Value} (h : lv_has ls' nL ((i, w) :: (asc ad L).filter (fun q => !(q.1 == i) && !(q.1 + 1 == i && q.2.category == 2)))) : LR ad (stN L i) ls' nL := by
  refine LR_of h fun j v hv => ?_
  obtain ⟨h0, hv⟩ := ldL_set _ _ _ _ hv
  rcases ldL_st (vI 0) v L i j hv with ⟨h1, h2⟩ | ⟨h1, h2, h3, h4⟩
  · exact absurd h1 h0
  · refine List.mem_cons_of_mem _ (List.mem_filter.mpr ⟨mem_asc.mpr ⟨v, h2, rfl⟩, ?_⟩)
    simp only [cv_cat, Bool.and_eq_true, Bool.not_eq_true', beq_eq_false_iff_ne, ne_eq, Bool.and_eq_false_iff]
    refine ⟨h1, ?_⟩
    by_cases e : j + 1 = i
    · exact Or.inr fun q => h4 ⟨e, q⟩
    · exact Or.inl e
theorem okL_stN {i : Nat} (h : okL M L) : okL M (stN L i) := fun j v hv => okL_st h (okI 0) j v (ldL_set _ _ _ _ hv).2
/-- a row of the table catches: its handler stores the exception away, and nobody asks for it again -/
theorem pw_callC {e0 j len : Nat} {pre suf : List (Nat × Nat × Nat × Nat)} {x : Nat × Nat × Nat × Nat} (hI : INV G l mi pc (mY m2) as stk st M) (hok : MOK m2) (hent : (entL as).length ≤ mL m2) (hf : mF m2 + 1 ≤ mF mi) (hw : (st.map cat).sum + (mL m2 + 11) + mW m2 ≤ mW mi) (hPM : PM G l m2 as M (tE e0) M2 c1 s1)
    (hsplit : mH mi = pre ++ x :: suf) (hpass : ∀ z ∈ pre, z.2.2.2 ≠ 0 ∧ ∃ e2, (e0, e2) ∈ XP ∧ Cond.classLink (mO mi) z.2.2.2 (exN e2) ∈ GW) (hx : covers ⟨x.1, x.2.1, x.2.2.1, x.2.2.2⟩ pc = true) (h0 : x.2.2.2 ≠ 0) (hlink : Cond.classLink (mO mi) x.2.2.2 (exN e0) ∈ GW) (hj : j < mL mi)
    (hda : (decode (mB mi) x.2.2.1 = .ok (.astore j, 2) ∧ len = 2) ∨ (∃ k : Fin 4, decode (mB mi) x.2.2.1 = .ok (.astore_n k, 1) ∧ k.val = j ∧ len = 1))
    (h : PW G l mi (x.2.2.1 + len) (stN L j) [] M2 o M' mc ms) : PW G l mi pc L stk M o M' (c1 + mc) (s1 + ms) := by
  intro p e R s mid args below meth c B C H locs cells slots ls ad D
  obtain ⟨⟨ha, hst⟩, hI⟩ := hI
  intro T hT X
  subst hT
  obtain ⟨⟨ig, hdg⟩, T1, mk, hh, X1, hn, hgo⟩ := hI p e R s mid args below meth c B C T locs cells slots ls ad X D.2.2.1 D.ok
  have hD1 := D.1
  have hTB := C.2.2.2.2.2.2.2.2.1
  have hpl : e.platform.magicAccessors = ({} : Platform).magicAccessors := by rw [X.admits.platform]
  obtain ⟨t, hs, hvm, out, ad', Ls, q1, q2, q3, q4, q5, q6, q7, q8, q9⟩ := call_core (st := st) (ls := ls) C X1 (by rw [hh]; exact D.2.1) (by rw [hh]; exact D.2.2.1) hok hn D.2.2.2.1.1 hdg (fun v hv => D.ok v (ha v hv)) hent hPM hf hw (by omega) (by omega)
  obtain ⟨q, ce, rfl, z1, z2, z3⟩ := q9
  obtain ⟨T', X', hW', hsm, ht⟩ := X1.outOfThrown (g := F0 mid pc ls (st.map (cv ad))) rfl q2 q3 q4
  have hh' : t.heap = T'.heap := by rw [ht]; rfl
  have hcl : s.vm.findClass (exN e0) = some ce.cls := by
    have : T1.vm.findClass (exN e0) = some ce.cls := z3
    rwa [X1.warmed.alike.findClass] at this
  obtain ⟨c3, c4, hc3, hc4, hasg⟩ := Cond.castable_spec (show (Cond.castable (exN e0) (exN e0)).holds #[] s none s [] = true from hTB.2.2.2.2.1 e0)
  cases Option.some.inj (hc3.symm.trans hcl)
  obtain ⟨c5, hc5, hcl5⟩ := Cond.classLink_spec C.2.2.2.2.2.2.1 (hTB.hts args _ hlink) e.platform hpl
  cases Option.some.inj (hc4.symm.trans hc5)
  have hk0 : ∃ k, s.vm.classes[ce.cls]? = some k := by obtain ⟨k9, h9, -⟩ := Vm.findClass_spec hcl; exact ⟨k9, h9⟩
  have hobj : ∀ k, ce.vm ≠ .statics k := fun k z => by rw [z2] at z; cases z
  obtain ⟨vm', hW', hq⟩ := fd_go (e := e) (s₀ := s) (f := F0 mid pc ls (st.map (cv ad))) (a := q) (cell := ce) hobj hk0 ⟨x.1, x.2.1, x.2.2.1, x.2.2.2⟩ (tableOf suf) hx h0 hcl5 hasg (tableOf pre) ((T'.setTop (F0 mid pc ls (st.map (cv ad)))).pushFrame (.throwing q)) X'.warmed (by
      show T'.heap[q]? = some ce
      rw [← hh']; exact z1) (fun y hy => by
      obtain ⟨z, hz, rfl⟩ := List.mem_map.mp hy
      obtain ⟨y0, e2, y1, y2⟩ := hpass z hz
      obtain ⟨a8, b8, g1, g2, g3⟩ := hTB.2.2.2.2.2 _ y1
      cases Option.some.inj (g1.symm.trans hcl)
      obtain ⟨c6, hc6, hcl6⟩ := Cond.classLink_spec C.2.2.2.2.2.2.1 (hTB.hts args _ y2) e.platform hpl
      cases Option.some.inj (g2.symm.trans hc6)
      exact Or.inr ⟨y0, _, hcl6, g3⟩)
  have X2 := X'.noted hW'
  have hfind : fdTo e ((T'.setTop (F0 mid pc ls (st.map (cv ad)))).pushFrame (.throwing q)) (F0 mid pc ls (st.map (cv ad))) q (.found x.2.2.1) vm' := by
    intro Q E d acts
    rw [W.findHandler_eq (meth := meth) (code := c) X'.method' X'.code, C.2.2.2.2.2.1, hsplit]
    have := hq Q E d acts
    rw [show tableOf (pre ++ x :: suf) = tableOf pre ++ ⟨x.1, x.2.1, x.2.2.1, x.2.2.2⟩ :: tableOf suf by simp [tableOf]]
    exact this
  have key : ∀ ls2 : Array Slot, LR ad' (stN L j) ls2 (mL mi) → ∃ t2, Steps p.tables e below ((T'.setVm vm').setTop (F0 mid (x.2.2.1 + len) ls2 [])) t2 ∧ pE G B below s ad' M2.2.2.2 o M' (cells + c1 + mc) (slots + s1 + ms) t2 := by
    intro ls2 hl2
    have D' : DX G mi R B M2 (stN L j) [] mc ms T'.heap (locs ++ Ls) (cells + c1) (slots + s1) ls2 ad' := by
      refine ⟨⟨by omega, by omega⟩, ⟨?_, ?_, ?_⟩, ?_, hl2, okL_stN (fun i v hv k ek => al_mono q7 (D.2.2.2.2.1 i v hv k ek)), fun v hv => by cases hv⟩
      · rw [← hh']; exact q5.1
      · rw [← hh']; exact q5.2.1
      · intro z hz
        rcases List.mem_append.mp hz with y | y
        · exact D.2.1.2.2 z y
        · exact q5.2.2 z y
      · rw [← hh']; exact q8
    exact h p e R s mid args below meth c B C T'.heap (locs ++ Ls) (cells + c1) (slots + s1) ls2 ad' D' (T'.setVm vm') rfl X2
  have hLR : LR ad' L ls (mL mi) := LR_agree q6 D.2.2.2.1 D.2.2.2.2.1
  have hwk : W p l e R s mid args below meth c T'.heap (locs ++ Ls) (cells + c1) (slots + s1) (pE G B below s ad' M2.2.2.2 o M' (cells + c1 + mc) (slots + s1 + ms)) (F0 mid x.2.2.1 ls [.ref q]) := by
    rcases hda with ⟨hda, rfl⟩ | ⟨k, hda, hkj, rfl⟩
    · exact lv_astore C.1 C.2.1 hda (LR_has hLR) hj rfl (fun ls2 hl2 => by
        intro T9 hT9 X9
        have D' : DX G mi R B M2 (stN L j) [] mc ms T'.heap (locs ++ Ls) (cells + c1) (slots + s1) ls2 ad' := by
          refine ⟨⟨by omega, by omega⟩, ⟨?_, ?_, ?_⟩, ?_, LR_stN hl2, okL_stN (fun i v hv k ek => al_mono q7 (D.2.2.2.2.1 i v hv k ek)), fun v hv => by cases hv⟩
          · rw [← hh']; exact q5.1
          · rw [← hh']; exact q5.2.1
          · intro z hz
            rcases List.mem_append.mp hz with y | y
            · exact D.2.1.2.2 z y
            · exact q5.2.2 z y
          · rw [← hh']; exact q8
        exact h p e R s mid args below meth c B C T'.heap (locs ++ Ls) (cells + c1) (slots + s1) ls2 ad' D' T9 hT9 X9)
    · subst hkj
      exact lv_astore_n C.1 C.2.1 hda rfl (LR_has hLR) hj rfl (fun ls2 hl2 => by
        intro T9 hT9 X9
        have D' : DX G mi R B M2 (stN L k.val) [] mc ms T'.heap (locs ++ Ls) (cells + c1) (slots + s1) ls2 ad' := by
          refine ⟨⟨by omega, by omega⟩, ⟨?_, ?_, ?_⟩, ?_, LR_stN hl2, okL_stN (fun i v hv k ek => al_mono q7 (D.2.2.2.2.1 i v hv k ek)), fun v hv => by cases hv⟩
          · rw [← hh']; exact q5.1
          · rw [← hh']; exact q5.2.1
          · intro z hz
            rcases List.mem_append.mp hz with y | y
            · exact D.2.1.2.2 z y
            · exact q5.2.2 z y
          · rw [← hh']; exact q8
        exact h p e R s mid args below meth c B C T'.heap (locs ++ Ls) (cells + c1) (slots + s1) ls2 ad' D' T9 hT9 X9)
  obtain ⟨t2, g1, g2⟩ := hwk (T'.setVm vm') rfl X2
  refine ⟨t2, hgo t2 (hs.trans ?_), pE_agree q6 q7 (by omega) (by omega) g2⟩
  rw [ht]
  exact fd_caught X'.here hfind g1
end PX
end
section
/-! 'throw new E("text")', and arraycopy -/
section PY
variable {G : GG} {l : Launch} {mi : MI} {pc : Nat} {L : List (Option PV)} {st : List PV} {M M' : Mem} {o : PO} {mc ms : Nat}
/-- the same frame, as if the method were called anew in this heap -/
theorem rebase {p : Program} {e : Env} {R R' : Room} {s T : State} {m : MethodId} {args : Array Value} {below : List Frame} {meth : Method} {c : Code} {locs : List Loc} {cells slots : Nat} (X : Stand p l e R s m args below meth c T locs cells slots) (hf : R'.frames ≤ R.frames) (hl : R'.locals ≤ R.locals) (hc : cells + R'.cells ≤ R.cells) (hs : slots + R'.slots ≤ R.slots) :
    Stand p l e R' ((T.setVm s.vm).setFrames (.invoking m args :: below)) m args below meth c T [] 0 0 := by
  have htop : (T.setVm s.vm).topJava?.isSome := X.here.top
  have hF : ((T.setVm s.vm).setFrames (.invoking m args :: below)).frames = .invoking m args :: below := State.frames_setFrames _ (State.cur_lt_of_top htop)
  obtain ⟨g₀, hg0⟩ := Option.isSome_iff_exists.mp htop
  obtain ⟨r, hr⟩ := State.topJava?_eq_some.mp hg0
  have hl9 : e.platform.stackLimits (T.setVm s.vm).me = e.platform.stackLimits s.me := X.limits
  have hb9 : (T.setVm s.vm).me.stackBytes = s.me.stackBytes := X.bytes
  refine ⟨X.admits, X.cas, X.clock, hF, ?_, X.hears, X.method, X.code, X.here, X.tail, X.warmed, ?_, ?_, ?_⟩
  · have h := X.room
    have hU : ((T.setVm s.vm).setFrames (.invoking m args :: below)).localsInUse = s.localsInUse := by
      rw [State.localsInUse_invoking hF (meth := meth) (c := c) X.method X.code, State.localsInUse_invoking X.frames X.method X.code]
    simp only [State.hasRoom, Bool.and_eq_true, decide_eq_true_eq] at h ⊢
    obtain ⟨⟨⟨⟨h1, h2, h3, h4, h5, h6⟩, h7⟩, h8⟩, h9⟩ := h
    rw [X.frames, List.length_cons] at h2 h3
    have q1 := X.heapSize
    have q2 := X.used
    simp only [hF, hU, List.length_cons, State.stackLimits_setFrames, State.stackBytes_setFrames, hl9, hb9]
    refine ⟨⟨⟨⟨by omega, by omega, by omega, by omega, by omega, h6⟩, ?_⟩, ?_⟩, X.book⟩
    · show T.heap.size + R'.cells ≤ e.platform.maxCells
      omega
    · show T.slotsUsed + R'.slots ≤ e.platform.maxSlots
      omega
  · rw [State.stackLimits_setFrames]; rfl
  · rw [State.stackBytes_setFrames]; rfl
  · refine ⟨?_, Nat.le_refl _, Nat.le_refl _, ?_, ?_, fun a c9 h9 => ⟨c9, h9, rfl, rfl, fun _ _ => rfl⟩⟩
    · obtain ⟨t, ht, -⟩ := State.frames_cons hr
      show T.setVm s.vm = { ((T.setVm s.vm).setFrames (.invoking m args :: below)).setFrames (T.setVm s.vm).frames with heap := T.heap, slotsUsed := T.slotsUsed }
      rw [State.setFrames_setFrames, State.setFrames_self ht]
      rfl
    · show T.slotsUsed = T.slotsUsed + ((T.heap.toList.drop T.heap.size).map (·.slots.size)).sum
      rw [List.drop_eq_nil_of_le (Nat.le_of_eq Array.length_toList)]
      rfl
    · show ((T.heap.toList.drop T.heap.size).map (·.slots.size)).sum ≤ 0
      rw [List.drop_eq_nil_of_le (Nat.le_of_eq Array.length_toList)]
      exact Nat.le_refl _
theorem ZS.lays {C n d : String} {B : Heap} {U : State} {args : Array Value} (h : ZS C n d B U) (hh : ∀ a, a < B.size → U.heap[a]? = B[a]?) : (Cond.laysStatic C n d).before args U = true := by
  obtain ⟨c, k, i, f, a, cell, v, h1, h2, h3, h4, h6, h7, h8, h9, h10, h11⟩ := h
  have hc : U.heap[a]? = some cell := by rw [hh a (Array.getElem?_eq_some_iff.mp h6).1]; exact h6
  show (Cond.laysStatic C n d).holds args U none U [] = true
  exact Cond.laysStatic_of h1 h2 h3 h4 hc h7 h8 (Array.getElem?_eq_some_iff.mp h10).1 h9
theorem ZS.isRef {C n d : String} {B : Heap} {U : State} {args : Array Value} (h : ZS C n d B U) (hh : ∀ a, a < B.size → U.heap[a]? = B[a]?) : (Cond.isRef (.static C n d)).before args U = true := by
  obtain ⟨c, k, i, f, a, cell, v, h1, h2, h3, h4, h6, h7, h8, h9, h10, h11⟩ := h
  have hc : U.heap[a]? = some cell := by rw [hh a (Array.getElem?_eq_some_iff.mp h6).1]; exact h6
  have hu : cell.vm ≠ .unknown := fun q => by rw [q] at h7; cases h7
  have he : (Term.static C n d).eval args U none [] U = some v := by
    simp [Term.eval, State.fieldNamed?, h2, h3, h4, hc, hu, h10, h7]
  simp only [Cond.before, Cond.holds, Cond.value, he]
  cases v <;> simp_all [Value.isRef]
abbrev exC : List String := ["java/lang/RuntimeException", "java/lang/Exception"]
/-- the words of a throw, as the tables have them -/
def XW (own : String) (ic e0 : Nat) : Prop := ∀ w ∈ Bundle.ownAtoms own ic (exN e0) exC, w ∈ GW ∨ w = .castable (exN e0) (exN e0) ∨ w = .isRef (.static Bundle.tN "UNASSIGNED_STACK" Bundle.steD) ∨ w = .isRef (.static Bundle.tN "SUPPRESSED_SENTINEL" Bundle.listD) ∨ w = .laysStatic Bundle.tN "UNASSIGNED_STACK" Bundle.steD ∨ w = .laysStatic Bundle.tN "SUPPRESSED_SENTINEL" Bundle.listD
theorem pw_throw {ik is ic e0 : Nat} {text : String} (d0 : decode (mB mi) pc = .ok (.new ik, 3)) (d3 : decode (mB mi) (pc + 3) = .ok (.dup, 1)) (d4 : decode (mB mi) (pc + 4) = .ok (.ldc is, 2)) (d6 : decode (mB mi) (pc + 6) = .ok (.invokespecial ic, 3)) (d9 : decode (mB mi) (pc + 9) = .ok (.athrow, 1))
    (hk : Cond.classLink (mO mi) ik (exN e0) ∈ GW) (hini : Cond.initialized (exN e0) ∈ GW) (hstr : (mO mi, is, text) ∈ XS) (hat : XW (mO mi) ic e0) (hfit : Bundle.fit (exN e0) = true) (hno : ∀ x ∈ tableOf (mH mi), covers x (pc + 9) = false) (hf : 5 < mF mi) (hw : (st.map cat).sum + 82 ≤ mW mi) (ho : o = tE e0) (hM : M' = M) : PW G l mi pc L st M o M' (mc + 1) (ms + 6) := by
  subst ho; subst hM
  intro p e R s m args below meth c B C H locs cells slots ls ad D
  intro T hT X
  have hTB := C.2.2.2.2.2.2.2.2.1
  have hEX := C.2.2.2.2.2.2.2.2.2.1
  have hfr := C.2.2.2.2.2.2.2.2.2.2.1
  have hlo := C.2.2.2.2.2.2.2.2.2.2.2.1
  have hl := C.2.2.2.2.2.2.2.2.2.2.2.2
  have hD1 := D.1
  have htr : e.platform.stackTraces = false := (show e.platform.stackTraces = l.stackTraces by rw [X.admits.platform]).trans hl
  have Y := rebase X (R' := { frames := R.frames, locals := R.locals, cells := 1, slots := 6 }) (Nat.le_refl _) (Nat.le_refl _) (by show cells + 1 ≤ _; omega) (by show slots + 6 ≤ _; omega)
  obtain ⟨s', hA⟩ : ∃ z, z = (T.setVm s.vm).setFrames (.invoking m args :: below) := ⟨_, rfl⟩
  rw [← hA] at Y
  have hvm : s'.vm = s.vm := by rw [hA]; rfl
  have hhp : s'.heap = H := by rw [hA]; exact hT
  have hW0 : s.WarmedH s'.vm := by rw [hvm]; exact State.WarmedH.refl s
  have hTB' : TB G s' := hTB.warm hW0
  have hEX' : EX B s' := hEX.moved hW0.alike
  have hold : ∀ a, a < B.size → s'.heap[a]? = B[a]? := fun a ha => by rw [hhp]; exact D.2.1.2.1 a ha (by omega)
  have h : ∀ w ∈ Bundle.ownAtoms (mO mi) ic (exN e0) exC, w.before args s' = true := by
    intro w hw
    rcases hat w hw with h | rfl | rfl | rfl | rfl | rfl
    · exact hTB'.hts args w h
    · exact va_Nw.use rfl (hTB'.2.2.2.2.1 e0)
    · exact hEX'.1.isRef hold
    · exact hEX'.2.isRef hold
    · exact hEX'.1.lays hold
    · exact hEX'.2.lays hold
  have hown' : s'.vm.findClass (mO mi) = some m.cls := by rw [hvm]; exact C.2.2.2.2.2.2.1
  have hins : (Cond.instantiable (exN e0) 6).before args s' = true := h _ (by simp [Bundle.ownAtoms])
  obtain ⟨sa, hsa⟩ := hTB'.2.2.2.1 _ hstr
  obtain ⟨vm₁, cX, kX, hfX, hkX, -, -, X₁, st1⟩ := Y.newCold C.1 (own := mO mi) (C := exN e0) (index := ik) (n := 6) hown' (hTB'.hts args _ hk) hins (hTB'.hts args _ hini)
    (g := F0 m pc ls (st.map (cv ad))) rfl (by rw [C.2.1]; exact d0) (Nat.le_refl _) (Nat.le_refl _)
  generalize hT1 : (T.setVm vm₁).pushCell { cls := cX, slots := kX.instanceTypes.map defaultValue, vm := .none } = T1 at X₁ st1
  have hcat : (Value.ref T.heap.size).category = 1 := rfl
  have hcellA : T1.heap[T.heap.size]? = some (freshCell cX kX) := by rw [← hT1]; exact State.heap_pushCell_size _ _
  have d3' : decode c.code (pc + 3) = .ok (.dup, 1) := by rw [C.2.1]; exact d3
  have d4' : decode c.code (pc + 4) = .ok (.ldc is, 2) := by rw [C.2.1]; exact d4
  have hcs := cv_cats ad st
  obtain ⟨U, hsteps, hrun, hend, hW, hsame, ce, hce, hO⟩ := X₁.ctorThrowS C.1 htr (own := mO mi) (cls := exN e0) (names := exC) (ic := ic) hown' hfit (by decide +kernel) h (fun x hx => nomatch hx) hfX hkX hcellA (by rw [hhp, hT]; exact Nat.le_refl _) (msg := .ref sa) rfl
    (g := { method := m, pc := pc + 6, locals := ls, stack := .ref sa :: .ref T.heap.size :: .ref T.heap.size :: st.map (cv ad), locked := none }) rfl (D.2.2.2.1.1.trans C.2.2.1.symm) rfl rfl (rest := st.map (cv ad)) rfl
    (by rw [C.2.1]; exact d6) (by rw [C.2.1]; exact d9) (by rw [C.2.2.2.2.2.1]; exact hno) (by show 2 + 3 < R.frames; omega) (by
      simp only [List.map_cons, List.sum_cons, hcat]
      show 2 * 0 + (1 + _) + (13 * (2 + 1) + 42) ≤ R.locals
      omega) C.2.2.2.2.1
  have hWs : s.WarmedH U.vm := State.WarmedH.trans hW0 hW
  have hcl : s.vm.findClass (exN e0) = some ce.cls := by
    have h9 := hO.cls
    rw [hvm] at h9
    exact h9
  have hkeep : H.size ≤ U.heap.size ∧ ∀ q : Nat, q < H.size → U.heap[q]? = H[q]? := by
    obtain ⟨-, f2, -, -, -, f6⟩ := hsame
    rw [hhp] at f2 f6
    refine ⟨f2, fun q hq => ?_⟩
    obtain ⟨c9, e1, e2, e3, e4⟩ := f6 q _ (Array.getElem?_eq_getElem hq)
    have hs9 : c9.slots = (H[q]).slots := Array.ext_getElem? fun i => e4 i fun hm => nomatch hm
    have h9 : c9 = H[q] := by
      rw [hs9] at e2
      exact e2
    have e5 : U.heap[q]? = some c9 := e1
    rw [e5, h9, Array.getElem?_eq_getElem hq]
  have hall : s.sameButNew ({ U with vm := s.vm } : State) locs (cells + (mc + 1)) (slots + (ms + 6)) := by
    subst hA
    obtain ⟨e1, e2⟩ := hsame
    rw [State.setFrames_setFrames] at e1
    have h2 : (T.setVm s.vm).sameButNew ({ U with vm := s.vm } : State) [] (0 + 1) (0 + 6) := ⟨e1, e2⟩
    have h3 := X.same.trans h2
    rw [List.append_nil] at h3
    exact sbn_mono h3 (by omega) (by omega)
  have hR := D.2.2.1
  have hP : va_P G.1 classes (wl G ad M') U.heap := hR.1.kept (fun k q hq => hkeep.2 q.1 ((hR.1 k q hq).lt))
  refine ⟨U, ?_, .threw T.heap.size, ad, locs, hrun, hend, hWs, hall, ⟨Nat.le_trans D.2.1.1 hkeep.1, fun q h1 h2 => (hkeep.2 q (Nat.lt_of_lt_of_le h1 D.2.1.1)).trans (D.2.1.2.1 q h1 h2), D.2.1.2.2⟩, fun _ _ => rfl, Nat.le_refl _, ⟨hP, hR.2⟩, _, ce, rfl, hce, hO.vm, hcl⟩
  refine st1 _ ?_
  show Steps p.tables e below (T1.setTop { method := m, pc := pc + 3, locals := ls, stack := .ref T.heap.size :: st.map (cv ad), locked := none }) _
  have hexec := C.1
  jvm_step X₁.here [X₁.here.top, hexec, d3', Value.category]
  exact X₁.ldcString C.1 (own := mO mi) (text := text) (index := is) (a := sa) hown' hsa.1 hsa.2
    (g := { method := m, pc := pc + 4, locals := ls, stack := .ref T.heap.size :: .ref T.heap.size :: st.map (cv ad), locked := none }) rfl d4' _ hsteps
/-! arraycopy of ints, from one array into another -/
def cpI (M : Mem) (k k2 : KK) (n : Nat) : Mem := (fun q i => if q = k2 ∧ i < n then M.1 k i else M.1 q i, M.2)
theorem M1_cpI (M : Mem) (k k2 : KK) (n : Nat) : M1 k2 M (cpI M k k2 n) := ⟨rfl, fun q h => ⟨by funext i; simp [cpI, h], rfl, rfl⟩⟩
theorem pw_copy {idx : Nat} {k k2 : KK} {z z2 : Nat} {n : Int32} (hd : decode (mB mi) pc = .ok (.invokestatic idx, 3)) (hw1 : Cond.methodLink (mO mi) idx arraycopyName ∈ GW) (hw2 : Cond.native arraycopyName ∈ GW) (hw3 : Cond.static arraycopyName ∈ GW) (hw4 : Cond.initialized "java/lang/System" ∈ GW) (hs : shp k = (1, z)) (hs2 : shp k2 = (1, z2)) (hn : ¬ n < 0) (h4 : n.toNatClampNeg ≤ z) (h5 : n.toNatClampNeg ≤ z2)
    (hf : 1 ≤ mF mi) (hw : (st.map cat).sum + (nativeFrameWords "java/lang/System" "arraycopy" 5 + 11) ≤ mW mi)
    (h : PW G l mi (pc + 3) L st (cpI M k k2 n.toNatClampNeg) o M' mc ms) : PW G l mi pc L (vI n :: vI 0 :: vR (some k2) :: vI 0 :: vR (some k) :: st) M o M' mc ms := by
  intro p e R s mid args below meth c B C H locs cells slots ls ad D
  have hT := C.2.2.2.2.2.2.2.2.1
  have hx := hT.hts args
  have hfr := C.2.2.2.2.2.2.2.2.2.2.1
  have hlo := C.2.2.2.2.2.2.2.2.2.2.2.1
  have hal : al M k2 := okh (okt (okt D.ok)) k2 rfl
  obtain ⟨n1, hn1, hk1, hat1⟩ := HR.arI (G := G) (B := B) (H := H) (ad := ad) hs (okh (okt (okt (okt (okt D.ok)))) k rfl)
  obtain ⟨n2, hn2, hk2, hat2⟩ := HR.arI (G := G) (B := B) (H := H) (ad := ad) hs2 hal
  have hcs := cv_cats ad st
  refine va_copyi (ty := .int) C.1 C.2.1 (C.2.2.1.trans D.2.2.2.1.1.symm) C.2.2.2.2.2.2.1 (hx _ hw1) (hx _ hw2) (hx _ hw3) (hx _ hw4) hT.2.2.1 D.2.2.1.1 D.2.2.1.2.1 D.2.1 n1 n2 0 0 hat1 hat2 rfl rfl rfl (by decide) (by decide) hn (by rw [sb_cl0]; omega) (by rw [sb_cl0]; omega) (fun i _ => rfl) (by omega) (by rw [hcs]; omega) hd (fun H1 locs1 hP hD hS => ?_)
  subst hk2
  have hR := HR.put D.2.2.1 hn2 (M1_cpI M k _ n.toNatClampNeg) (e := .inl (G.2 0, z2, .inl (va_cpy (M.1 k) (M.1 (nk n2)) (0 : Int32).toNatClampNeg (0 : Int32).toNatClampNeg n.toNatClampNeg))) (by
    simp only [cE, hs2]
    congr 4
    funext q
    simp only [cpI, va_cpy, sb_cl0, Nat.zero_le, true_and, Nat.zero_add, Nat.sub_zero]) (fun j k' q => D.2.2.1.2.2.1 _ j k' hal q) hP hD
  exact h p e R s mid args below meth c B C H1 locs1 cells slots ls ad (D.put (M1_cpI M k _ _) hR hS (okt (okt (okt (okt (okt D.ok))))))
theorem pw_objInit {idx : Nat} {k : KK} (hd : decode (mB mi) pc = .ok (.invokespecial idx, 3)) (hw1 : Cond.methodLink (mO mi) idx objectInit ∈ GW) (hw2 : Cond.instanceMethod objectInit ∈ GW) (hw3 : Cond.code objectInit ⟨#[0xb1]⟩ 1 none ∈ GW) (hf : 1 ≤ mF mi) (hw : (st.map cat).sum + 12 ≤ mW mi)
    (h : PW G l mi (pc + 3) L st M o M' mc ms) : PW G l mi pc L (vR (some k) :: st) M o M' mc ms := by
  intro p e R s mid args below meth c B C H locs cells slots ls ad D
  have hT := C.2.2.2.2.2.2.2.2.1
  have hx := hT.hts args
  have hfr := C.2.2.2.2.2.2.2.2.2.2.1
  have hlo := C.2.2.2.2.2.2.2.2.2.2.2.1
  have hcs := cv_cats ad st
  exact W.objInit C.1 C.2.1 C.2.2.2.2.2.2.1 (hx _ hw1) (hx _ hw2) (hx _ hw3) rfl (D.2.2.2.1.1.trans C.2.2.1.symm) rfl hd (by omega) (by
    show 2 * 0 + _ + 12 ≤ _
    rw [hcs]
    omega) (h p e R s mid args below meth c B C H locs cells slots ls ad (D.stk (okt D.ok)))
end PY
end
