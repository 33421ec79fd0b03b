section
/-- a private method of a class that the tables say can be made, by its rows of tables_1 -/
def lw_okq (q : MethodName × Nat) : Prop := (q.1.cls ≠ "java/lang/invoke/MethodHandle" ∧ q.1.cls ≠ "java/lang/invoke/VarHandle") ∧ Cond.instantiable q.1.cls q.2 ∈ tables_1 ∧ Cond.privateMethod q.1 ∈ tables_1 ∧ Cond.instanceMethod q.1 ∈ tables_1
theorem lw_p0 : lw_okq (⟨"JoinedNames", "refuseBad", "()I"⟩, 9) := ⟨⟨by decide +kernel, by decide +kernel⟩, List.mem_of_getElem? (i := 14) (by decide +kernel), List.mem_of_getElem? (i := 156) (by decide +kernel), List.mem_of_getElem? (i := 157) (by decide +kernel)⟩
theorem lw_p1 : lw_okq (⟨"JoinedNames", "refuseFull", "()I"⟩, 9) := ⟨⟨by decide +kernel, by decide +kernel⟩, List.mem_of_getElem? (i := 14) (by decide +kernel), List.mem_of_getElem? (i := 164) (by decide +kernel), List.mem_of_getElem? (i := 165) (by decide +kernel)⟩
theorem lw_p2 : lw_okq (⟨"JoinedNames$States", "loseOldest", "()V"⟩, 2) := ⟨⟨by decide +kernel, by decide +kernel⟩, List.mem_of_getElem? (i := 36) (by decide +kernel), List.mem_of_getElem? (i := 172) (by decide +kernel), List.mem_of_getElem? (i := 173) (by decide +kernel)⟩
theorem lw_p3 : lw_okq (⟨"JoinedNames", "isLine", "(I)Z"⟩, 9) := ⟨⟨by decide +kernel, by decide +kernel⟩, List.mem_of_getElem? (i := 14) (by decide +kernel), List.mem_of_getElem? (i := 191) (by decide +kernel), List.mem_of_getElem? (i := 192) (by decide +kernel)⟩
theorem lw_p4 : lw_okq (⟨"JoinedNames$Fine", "apply", "(LJoinedNames$Lines;I)Z"⟩, 1) := ⟨⟨by decide +kernel, by decide +kernel⟩, List.mem_of_getElem? (i := 79) (by decide +kernel), List.mem_of_getElem? (i := 220) (by decide +kernel), List.mem_of_getElem? (i := 221) (by decide +kernel)⟩
theorem lw_p5 : lw_okq (⟨"JoinedNames$Fine", "grow", "(II)Z"⟩, 1) := ⟨⟨by decide +kernel, by decide +kernel⟩, List.mem_of_getElem? (i := 79) (by decide +kernel), List.mem_of_getElem? (i := 239) (by decide +kernel), List.mem_of_getElem? (i := 240) (by decide +kernel)⟩
theorem lw_p6 : lw_okq (⟨"JoinedNames$Fine", "unionOver", "(I)I"⟩, 1) := ⟨⟨by decide +kernel, by decide +kernel⟩, List.mem_of_getElem? (i := 79) (by decide +kernel), List.mem_of_getElem? (i := 243) (by decide +kernel), List.mem_of_getElem? (i := 244) (by decide +kernel)⟩
theorem lw_p7 : lw_okq (⟨"JoinedNames$Fine", "growAll", "(II)Z"⟩, 1) := ⟨⟨by decide +kernel, by decide +kernel⟩, List.mem_of_getElem? (i := 79) (by decide +kernel), List.mem_of_getElem? (i := 251) (by decide +kernel), List.mem_of_getElem? (i := 252) (by decide +kernel)⟩
theorem lw_p8 : lw_okq (⟨"JoinedNames", "lineDetail", "(II)I"⟩, 9) := ⟨⟨by decide +kernel, by decide +kernel⟩, List.mem_of_getElem? (i := 14) (by decide +kernel), List.mem_of_getElem? (i := 255) (by decide +kernel), List.mem_of_getElem? (i := 256) (by decide +kernel)⟩
theorem lw_p9 : lw_okq (⟨"JoinedNames", "writesOf", "(I)I"⟩, 9) := ⟨⟨by decide +kernel, by decide +kernel⟩, List.mem_of_getElem? (i := 14) (by decide +kernel), List.mem_of_getElem? (i := 262) (by decide +kernel), List.mem_of_getElem? (i := 263) (by decide +kernel)⟩
theorem lw_p10 : lw_okq (⟨"JoinedNames", "readsOf", "(I)I"⟩, 9) := ⟨⟨by decide +kernel, by decide +kernel⟩, List.mem_of_getElem? (i := 14) (by decide +kernel), List.mem_of_getElem? (i := 270) (by decide +kernel), List.mem_of_getElem? (i := 271) (by decide +kernel)⟩
theorem lw_p11 : lw_okq (⟨"JoinedNames", "disturbs", "(II)Z"⟩, 9) := ⟨⟨by decide +kernel, by decide +kernel⟩, List.mem_of_getElem? (i := 14) (by decide +kernel), List.mem_of_getElem? (i := 278) (by decide +kernel), List.mem_of_getElem? (i := 279) (by decide +kernel)⟩
theorem lw_p12 : lw_okq (⟨"JoinedNames$Coarse", "apply", "(LJoinedNames$Lines;I)Z"⟩, 2) := ⟨⟨by decide +kernel, by decide +kernel⟩, List.mem_of_getElem? (i := 89) (by decide +kernel), List.mem_of_getElem? (i := 298) (by decide +kernel), List.mem_of_getElem? (i := 299) (by decide +kernel)⟩
theorem lw_p13 : lw_okq (⟨"JoinedNames$Coarse", "point", "(II)Z"⟩, 2) := ⟨⟨by decide +kernel, by decide +kernel⟩, List.mem_of_getElem? (i := 89) (by decide +kernel), List.mem_of_getElem? (i := 305) (by decide +kernel), List.mem_of_getElem? (i := 306) (by decide +kernel)⟩
theorem lw_p14 : lw_okq (⟨"JoinedNames$Coarse", "join", "(II)V"⟩, 2) := ⟨⟨by decide +kernel, by decide +kernel⟩, List.mem_of_getElem? (i := 89) (by decide +kernel), List.mem_of_getElem? (i := 309) (by decide +kernel), List.mem_of_getElem? (i := 310) (by decide +kernel)⟩
theorem lw_p15 : lw_okq (⟨"JoinedNames$Coarse", "rename", "(II)V"⟩, 2) := ⟨⟨by decide +kernel, by decide +kernel⟩, List.mem_of_getElem? (i := 89) (by decide +kernel), List.mem_of_getElem? (i := 319) (by decide +kernel), List.mem_of_getElem? (i := 320) (by decide +kernel)⟩
def lw_privs_1 : List (MethodName × Nat) := [(⟨"JoinedNames", "refuseBad", "()I"⟩, 9), (⟨"JoinedNames", "refuseFull", "()I"⟩, 9), (⟨"JoinedNames$States", "loseOldest", "()V"⟩, 2), (⟨"JoinedNames", "isLine", "(I)Z"⟩, 9), (⟨"JoinedNames$Fine", "apply", "(LJoinedNames$Lines;I)Z"⟩, 1), (⟨"JoinedNames$Fine", "grow", "(II)Z"⟩, 1), (⟨"JoinedNames$Fine", "unionOver", "(I)I"⟩, 1), (⟨"JoinedNames$Fine", "growAll", "(II)Z"⟩, 1), (⟨"JoinedNames", "lineDetail", "(II)I"⟩, 9), (⟨"JoinedNames", "writesOf", "(I)I"⟩, 9), (⟨"JoinedNames", "readsOf", "(I)I"⟩, 9), (⟨"JoinedNames", "disturbs", "(II)Z"⟩, 9), (⟨"JoinedNames$Coarse", "apply", "(LJoinedNames$Lines;I)Z"⟩, 2), (⟨"JoinedNames$Coarse", "point", "(II)Z"⟩, 2), (⟨"JoinedNames$Coarse", "join", "(II)V"⟩, 2), (⟨"JoinedNames$Coarse", "rename", "(II)V"⟩, 2)]
theorem lw_r1 : ∀ q ∈ lw_privs_1, lw_okq q := List.forall_mem_cons.mpr ⟨lw_p0, List.forall_mem_cons.mpr ⟨lw_p1, List.forall_mem_cons.mpr ⟨lw_p2, List.forall_mem_cons.mpr ⟨lw_p3, List.forall_mem_cons.mpr ⟨lw_p4, List.forall_mem_cons.mpr ⟨lw_p5, List.forall_mem_cons.mpr ⟨lw_p6, List.forall_mem_cons.mpr ⟨lw_p7, List.forall_mem_cons.mpr ⟨lw_p8, List.forall_mem_cons.mpr ⟨lw_p9, List.forall_mem_cons.mpr ⟨lw_p10, List.forall_mem_cons.mpr ⟨lw_p11, List.forall_mem_cons.mpr ⟨lw_p12, List.forall_mem_cons.mpr ⟨lw_p13, List.forall_mem_cons.mpr ⟨lw_p14, List.forall_mem_cons.mpr ⟨lw_p15, fun _ h => absurd h List.not_mem_nil⟩⟩⟩⟩⟩⟩⟩⟩⟩⟩⟩⟩⟩⟩⟩⟩
theorem lw_p16 : lw_okq (⟨"JoinedNames", "groupDetail", "(II)I"⟩, 9) := ⟨⟨by decide +kernel, by decide +kernel⟩, List.mem_of_getElem? (i := 14) (by decide +kernel), List.mem_of_getElem? (i := 340) (by decide +kernel), List.mem_of_getElem? (i := 341) (by decide +kernel)⟩
theorem lw_p17 : lw_okq (⟨"JoinedNames", "counted", "(I)I"⟩, 9) := ⟨⟨by decide +kernel, by decide +kernel⟩, List.mem_of_getElem? (i := 14) (by decide +kernel), List.mem_of_getElem? (i := 354) (by decide +kernel), List.mem_of_getElem? (i := 355) (by decide +kernel)⟩
theorem lw_p18 : lw_okq (⟨"JoinedNames", "mayPointTo", "(III)I"⟩, 9) := ⟨⟨by decide +kernel, by decide +kernel⟩, List.mem_of_getElem? (i := 14) (by decide +kernel), List.mem_of_getElem? (i := 391) (by decide +kernel), List.mem_of_getElem? (i := 392) (by decide +kernel)⟩
theorem lw_p19 : lw_okq (⟨"JoinedNames$Run", "carryOut", "(LJoinedNames$Lines;I)V"⟩, 3) := ⟨⟨by decide +kernel, by decide +kernel⟩, List.mem_of_getElem? (i := 102) (by decide +kernel), List.mem_of_getElem? (i := 413) (by decide +kernel), List.mem_of_getElem? (i := 414) (by decide +kernel)⟩
theorem lw_p20 : lw_okq (⟨"JoinedNames$Run", "point", "(II)V"⟩, 3) := ⟨⟨by decide +kernel, by decide +kernel⟩, List.mem_of_getElem? (i := 102) (by decide +kernel), List.mem_of_getElem? (i := 420) (by decide +kernel), List.mem_of_getElem? (i := 421) (by decide +kernel)⟩
theorem lw_p21 : lw_okq (⟨"JoinedNames$Run", "load", "(II)V"⟩, 3) := ⟨⟨by decide +kernel, by decide +kernel⟩, List.mem_of_getElem? (i := 102) (by decide +kernel), List.mem_of_getElem? (i := 425) (by decide +kernel), List.mem_of_getElem? (i := 426) (by decide +kernel)⟩
theorem lw_p22 : lw_okq (⟨"JoinedNames$Run", "store", "(II)V"⟩, 3) := ⟨⟨by decide +kernel, by decide +kernel⟩, List.mem_of_getElem? (i := 102) (by decide +kernel), List.mem_of_getElem? (i := 429) (by decide +kernel), List.mem_of_getElem? (i := 430) (by decide +kernel)⟩
theorem lw_p23 : lw_okq (⟨"JoinedNames$Text", "stepBehind", "(II)I"⟩, 6) := ⟨⟨by decide +kernel, by decide +kernel⟩, List.mem_of_getElem? (i := 52) (by decide +kernel), List.mem_of_getElem? (i := 485) (by decide +kernel), List.mem_of_getElem? (i := 486) (by decide +kernel)⟩
theorem lw_p24 : lw_okq (⟨"JoinedNames$Text", "behindStart", "(I)I"⟩, 6) := ⟨⟨by decide +kernel, by decide +kernel⟩, List.mem_of_getElem? (i := 52) (by decide +kernel), List.mem_of_getElem? (i := 489) (by decide +kernel), List.mem_of_getElem? (i := 490) (by decide +kernel)⟩
theorem lw_p25 : lw_okq (⟨"JoinedNames$Text", "behindLeftName", "(I)I"⟩, 6) := ⟨⟨by decide +kernel, by decide +kernel⟩, List.mem_of_getElem? (i := 52) (by decide +kernel), List.mem_of_getElem? (i := 494) (by decide +kernel), List.mem_of_getElem? (i := 495) (by decide +kernel)⟩
theorem lw_p26 : lw_okq (⟨"JoinedNames$Text", "behindRightSide", "(I)I"⟩, 6) := ⟨⟨by decide +kernel, by decide +kernel⟩, List.mem_of_getElem? (i := 52) (by decide +kernel), List.mem_of_getElem? (i := 499) (by decide +kernel), List.mem_of_getElem? (i := 500) (by decide +kernel)⟩
theorem lw_p27 : lw_okq (⟨"JoinedNames$Text", "behindRightName", "(I)I"⟩, 6) := ⟨⟨by decide +kernel, by decide +kernel⟩, List.mem_of_getElem? (i := 52) (by decide +kernel), List.mem_of_getElem? (i := 503) (by decide +kernel), List.mem_of_getElem? (i := 504) (by decide +kernel)⟩
theorem lw_p28 : lw_okq (⟨"JoinedNames$Text", "behindEnd", "(I)I"⟩, 6) := ⟨⟨by decide +kernel, by decide +kernel⟩, List.mem_of_getElem? (i := 52) (by decide +kernel), List.mem_of_getElem? (i := 507) (by decide +kernel), List.mem_of_getElem? (i := 508) (by decide +kernel)⟩
theorem lw_p29 : lw_okq (⟨"JoinedNames$Lines", "lengthAt", "(I)I"⟩, 2) := ⟨⟨by decide +kernel, by decide +kernel⟩, List.mem_of_getElem? (i := 22) (by decide +kernel), List.mem_of_getElem? (i := 525) (by decide +kernel), List.mem_of_getElem? (i := 526) (by decide +kernel)⟩
theorem lw_p30 : lw_okq (⟨"JoinedNames$Lines", "byteAt", "(II)I"⟩, 2) := ⟨⟨by decide +kernel, by decide +kernel⟩, List.mem_of_getElem? (i := 22) (by decide +kernel), List.mem_of_getElem? (i := 534) (by decide +kernel), List.mem_of_getElem? (i := 535) (by decide +kernel)⟩
theorem lw_p31 : lw_okq (⟨"JoinedNames", "refuseNo", "()I"⟩, 9) := ⟨⟨by decide +kernel, by decide +kernel⟩, List.mem_of_getElem? (i := 14) (by decide +kernel), List.mem_of_getElem? (i := 548) (by decide +kernel), List.mem_of_getElem? (i := 549) (by decide +kernel)⟩
def lw_privs_2 : List (MethodName × Nat) := [(⟨"JoinedNames", "groupDetail", "(II)I"⟩, 9), (⟨"JoinedNames", "counted", "(I)I"⟩, 9), (⟨"JoinedNames", "mayPointTo", "(III)I"⟩, 9), (⟨"JoinedNames$Run", "carryOut", "(LJoinedNames$Lines;I)V"⟩, 3), (⟨"JoinedNames$Run", "point", "(II)V"⟩, 3), (⟨"JoinedNames$Run", "load", "(II)V"⟩, 3), (⟨"JoinedNames$Run", "store", "(II)V"⟩, 3), (⟨"JoinedNames$Text", "stepBehind", "(II)I"⟩, 6), (⟨"JoinedNames$Text", "behindStart", "(I)I"⟩, 6), (⟨"JoinedNames$Text", "behindLeftName", "(I)I"⟩, 6), (⟨"JoinedNames$Text", "behindRightSide", "(I)I"⟩, 6), (⟨"JoinedNames$Text", "behindRightName", "(I)I"⟩, 6), (⟨"JoinedNames$Text", "behindEnd", "(I)I"⟩, 6), (⟨"JoinedNames$Lines", "lengthAt", "(I)I"⟩, 2), (⟨"JoinedNames$Lines", "byteAt", "(II)I"⟩, 2), (⟨"JoinedNames", "refuseNo", "()I"⟩, 9)]
theorem lw_r2 : ∀ q ∈ lw_privs_2, lw_okq q := List.forall_mem_cons.mpr ⟨lw_p16, List.forall_mem_cons.mpr ⟨lw_p17, List.forall_mem_cons.mpr ⟨lw_p18, List.forall_mem_cons.mpr ⟨lw_p19, List.forall_mem_cons.mpr ⟨lw_p20, List.forall_mem_cons.mpr ⟨lw_p21, List.forall_mem_cons.mpr ⟨lw_p22, List.forall_mem_cons.mpr ⟨lw_p23, List.forall_mem_cons.mpr ⟨lw_p24, List.forall_mem_cons.mpr ⟨lw_p25, List.forall_mem_cons.mpr ⟨lw_p26, List.forall_mem_cons.mpr ⟨lw_p27, List.forall_mem_cons.mpr ⟨lw_p28, List.forall_mem_cons.mpr ⟨lw_p29, List.forall_mem_cons.mpr ⟨lw_p30, List.forall_mem_cons.mpr ⟨lw_p31, fun _ h => absurd h List.not_mem_nil⟩⟩⟩⟩⟩⟩⟩⟩⟩⟩⟩⟩⟩⟩⟩⟩
theorem lw_p32 : lw_okq (⟨"JoinedNames", "tally", "(I)I"⟩, 9) := ⟨⟨by decide +kernel, by decide +kernel⟩, List.mem_of_getElem? (i := 14) (by decide +kernel), List.mem_of_getElem? (i := 560) (by decide +kernel), List.mem_of_getElem? (i := 561) (by decide +kernel)⟩
theorem lw_p33 : lw_okq (⟨"JoinedNames", "mixedName", "(JI)J"⟩, 9) := ⟨⟨by decide +kernel, by decide +kernel⟩, List.mem_of_getElem? (i := 14) (by decide +kernel), List.mem_of_getElem? (i := 573) (by decide +kernel), List.mem_of_getElem? (i := 574) (by decide +kernel)⟩
theorem lw_p34 : lw_okq (⟨"JoinedNamesModel", "counts", "(I)I"⟩, 18) := ⟨⟨by decide +kernel, by decide +kernel⟩, List.mem_of_getElem? (i := 577) (by decide +kernel), List.mem_of_getElem? (i := 642) (by decide +kernel), List.mem_of_getElem? (i := 643) (by decide +kernel)⟩
theorem lw_p35 : lw_okq (⟨"JoinedNamesModel", "leaves", "()V"⟩, 18) := ⟨⟨by decide +kernel, by decide +kernel⟩, List.mem_of_getElem? (i := 577) (by decide +kernel), List.mem_of_getElem? (i := 656) (by decide +kernel), List.mem_of_getElem? (i := 657) (by decide +kernel)⟩
theorem lw_p36 : lw_okq (⟨"JoinedNamesModel", "isLine", "(I)Z"⟩, 18) := ⟨⟨by decide +kernel, by decide +kernel⟩, List.mem_of_getElem? (i := 577) (by decide +kernel), List.mem_of_getElem? (i := 664) (by decide +kernel), List.mem_of_getElem? (i := 665) (by decide +kernel)⟩
theorem lw_p37 : lw_okq (⟨"JoinedNamesModel", "laysFine", "(I)V"⟩, 18) := ⟨⟨by decide +kernel, by decide +kernel⟩, List.mem_of_getElem? (i := 577) (by decide +kernel), List.mem_of_getElem? (i := 676) (by decide +kernel), List.mem_of_getElem? (i := 677) (by decide +kernel)⟩
theorem lw_p38 : lw_okq (⟨"JoinedNamesModel", "growsBy", "(I)V"⟩, 18) := ⟨⟨by decide +kernel, by decide +kernel⟩, List.mem_of_getElem? (i := 577) (by decide +kernel), List.mem_of_getElem? (i := 680) (by decide +kernel), List.mem_of_getElem? (i := 681) (by decide +kernel)⟩
theorem lw_p39 : lw_okq (⟨"JoinedNamesModel", "xOf", "(I)I"⟩, 18) := ⟨⟨by decide +kernel, by decide +kernel⟩, List.mem_of_getElem? (i := 577) (by decide +kernel), List.mem_of_getElem? (i := 684) (by decide +kernel), List.mem_of_getElem? (i := 685) (by decide +kernel)⟩
theorem lw_p40 : lw_okq (⟨"JoinedNamesModel", "yOf", "(I)I"⟩, 18) := ⟨⟨by decide +kernel, by decide +kernel⟩, List.mem_of_getElem? (i := 577) (by decide +kernel), List.mem_of_getElem? (i := 688) (by decide +kernel), List.mem_of_getElem? (i := 689) (by decide +kernel)⟩
theorem lw_p41 : lw_okq (⟨"JoinedNamesModel", "sortOf", "(I)I"⟩, 18) := ⟨⟨by decide +kernel, by decide +kernel⟩, List.mem_of_getElem? (i := 577) (by decide +kernel), List.mem_of_getElem? (i := 692) (by decide +kernel), List.mem_of_getElem? (i := 693) (by decide +kernel)⟩
theorem lw_p42 : lw_okq (⟨"JoinedNamesModel", "gets", "(II)V"⟩, 18) := ⟨⟨by decide +kernel, by decide +kernel⟩, List.mem_of_getElem? (i := 577) (by decide +kernel), List.mem_of_getElem? (i := 699) (by decide +kernel), List.mem_of_getElem? (i := 700) (by decide +kernel)⟩
theorem lw_p43 : lw_okq (⟨"JoinedNamesModel", "ofLine", "(II)I"⟩, 18) := ⟨⟨by decide +kernel, by decide +kernel⟩, List.mem_of_getElem? (i := 577) (by decide +kernel), List.mem_of_getElem? (i := 703) (by decide +kernel), List.mem_of_getElem? (i := 704) (by decide +kernel)⟩
theorem lw_p44 : lw_okq (⟨"JoinedNamesModel", "writes", "(I)I"⟩, 18) := ⟨⟨by decide +kernel, by decide +kernel⟩, List.mem_of_getElem? (i := 577) (by decide +kernel), List.mem_of_getElem? (i := 707) (by decide +kernel), List.mem_of_getElem? (i := 708) (by decide +kernel)⟩
theorem lw_p45 : lw_okq (⟨"JoinedNamesModel", "readBy", "(I)I"⟩, 18) := ⟨⟨by decide +kernel, by decide +kernel⟩, List.mem_of_getElem? (i := 577) (by decide +kernel), List.mem_of_getElem? (i := 711) (by decide +kernel), List.mem_of_getElem? (i := 712) (by decide +kernel)⟩
theorem lw_p46 : lw_okq (⟨"JoinedNamesModel", "laysCoarse", "(I)V"⟩, 18) := ⟨⟨by decide +kernel, by decide +kernel⟩, List.mem_of_getElem? (i := 577) (by decide +kernel), List.mem_of_getElem? (i := 727) (by decide +kernel), List.mem_of_getElem? (i := 728) (by decide +kernel)⟩
theorem lw_p47 : lw_okq (⟨"JoinedNamesModel", "joinsBy", "(I)V"⟩, 18) := ⟨⟨by decide +kernel, by decide +kernel⟩, List.mem_of_getElem? (i := 577) (by decide +kernel), List.mem_of_getElem? (i := 731) (by decide +kernel), List.mem_of_getElem? (i := 732) (by decide +kernel)⟩
def lw_privs_3 : List (MethodName × Nat) := [(⟨"JoinedNames", "tally", "(I)I"⟩, 9), (⟨"JoinedNames", "mixedName", "(JI)J"⟩, 9), (⟨"JoinedNamesModel", "counts", "(I)I"⟩, 18), (⟨"JoinedNamesModel", "leaves", "()V"⟩, 18), (⟨"JoinedNamesModel", "isLine", "(I)Z"⟩, 18), (⟨"JoinedNamesModel", "laysFine", "(I)V"⟩, 18), (⟨"JoinedNamesModel", "growsBy", "(I)V"⟩, 18), (⟨"JoinedNamesModel", "xOf", "(I)I"⟩, 18), (⟨"JoinedNamesModel", "yOf", "(I)I"⟩, 18), (⟨"JoinedNamesModel", "sortOf", "(I)I"⟩, 18), (⟨"JoinedNamesModel", "gets", "(II)V"⟩, 18), (⟨"JoinedNamesModel", "ofLine", "(II)I"⟩, 18), (⟨"JoinedNamesModel", "writes", "(I)I"⟩, 18), (⟨"JoinedNamesModel", "readBy", "(I)I"⟩, 18), (⟨"JoinedNamesModel", "laysCoarse", "(I)V"⟩, 18), (⟨"JoinedNamesModel", "joinsBy", "(I)V"⟩, 18)]
theorem lw_r3 : ∀ q ∈ lw_privs_3, lw_okq q := List.forall_mem_cons.mpr ⟨lw_p32, List.forall_mem_cons.mpr ⟨lw_p33, List.forall_mem_cons.mpr ⟨lw_p34, List.forall_mem_cons.mpr ⟨lw_p35, List.forall_mem_cons.mpr ⟨lw_p36, List.forall_mem_cons.mpr ⟨lw_p37, List.forall_mem_cons.mpr ⟨lw_p38, List.forall_mem_cons.mpr ⟨lw_p39, List.forall_mem_cons.mpr ⟨lw_p40, List.forall_mem_cons.mpr ⟨lw_p41, List.forall_mem_cons.mpr ⟨lw_p42, List.forall_mem_cons.mpr ⟨lw_p43, List.forall_mem_cons.mpr ⟨lw_p44, List.forall_mem_cons.mpr ⟨lw_p45, List.forall_mem_cons.mpr ⟨lw_p46, List.forall_mem_cons.mpr ⟨lw_p47, fun _ h => absurd h List.not_mem_nil⟩⟩⟩⟩⟩⟩⟩⟩⟩⟩⟩⟩⟩⟩⟩⟩
theorem lw_p48 : lw_okq (⟨"JoinedNamesModel", "pointsTo", "(II)V"⟩, 18) := ⟨⟨by decide +kernel, by decide +kernel⟩, List.mem_of_getElem? (i := 577) (by decide +kernel), List.mem_of_getElem? (i := 735) (by decide +kernel), List.mem_of_getElem? (i := 736) (by decide +kernel)⟩
theorem lw_p49 : lw_okq (⟨"JoinedNamesModel", "joins", "(II)V"⟩, 18) := ⟨⟨by decide +kernel, by decide +kernel⟩, List.mem_of_getElem? (i := 577) (by decide +kernel), List.mem_of_getElem? (i := 739) (by decide +kernel), List.mem_of_getElem? (i := 740) (by decide +kernel)⟩
theorem lw_p50 : lw_okq (⟨"JoinedNamesModel", "coarseOf", "(I)I"⟩, 18) := ⟨⟨by decide +kernel, by decide +kernel⟩, List.mem_of_getElem? (i := 577) (by decide +kernel), List.mem_of_getElem? (i := 743) (by decide +kernel), List.mem_of_getElem? (i := 744) (by decide +kernel)⟩
theorem lw_p51 : lw_okq (⟨"JoinedNamesModel", "groupSet", "(I)I"⟩, 18) := ⟨⟨by decide +kernel, by decide +kernel⟩, List.mem_of_getElem? (i := 577) (by decide +kernel), List.mem_of_getElem? (i := 747) (by decide +kernel), List.mem_of_getElem? (i := 748) (by decide +kernel)⟩
theorem lw_p52 : lw_okq (⟨"JoinedNamesModel", "countOf", "(I)I"⟩, 18) := ⟨⟨by decide +kernel, by decide +kernel⟩, List.mem_of_getElem? (i := 577) (by decide +kernel), List.mem_of_getElem? (i := 759) (by decide +kernel), List.mem_of_getElem? (i := 760) (by decide +kernel)⟩
theorem lw_p53 : lw_okq (⟨"JoinedNamesModel", "runs", "(I)V"⟩, 18) := ⟨⟨by decide +kernel, by decide +kernel⟩, List.mem_of_getElem? (i := 577) (by decide +kernel), List.mem_of_getElem? (i := 778) (by decide +kernel), List.mem_of_getElem? (i := 779) (by decide +kernel)⟩
theorem lw_p54 : lw_okq (⟨"JoinedNamesModel", "does", "(I)V"⟩, 18) := ⟨⟨by decide +kernel, by decide +kernel⟩, List.mem_of_getElem? (i := 577) (by decide +kernel), List.mem_of_getElem? (i := 782) (by decide +kernel), List.mem_of_getElem? (i := 783) (by decide +kernel)⟩
theorem lw_p55 : lw_okq (⟨"JoinedNamesModel", "isRead", "()Z"⟩, 18) := ⟨⟨by decide +kernel, by decide +kernel⟩, List.mem_of_getElem? (i := 577) (by decide +kernel), List.mem_of_getElem? (i := 806) (by decide +kernel), List.mem_of_getElem? (i := 807) (by decide +kernel)⟩
theorem lw_p56 : lw_okq (⟨"JoinedNamesModel", "next", "()I"⟩, 18) := ⟨⟨by decide +kernel, by decide +kernel⟩, List.mem_of_getElem? (i := 577) (by decide +kernel), List.mem_of_getElem? (i := 810) (by decide +kernel), List.mem_of_getElem? (i := 811) (by decide +kernel)⟩
theorem lw_p57 : lw_okq (⟨"JoinedNamesModel", "readsLine", "()Z"⟩, 18) := ⟨⟨by decide +kernel, by decide +kernel⟩, List.mem_of_getElem? (i := 577) (by decide +kernel), List.mem_of_getElem? (i := 814) (by decide +kernel), List.mem_of_getElem? (i := 815) (by decide +kernel)⟩
theorem lw_p58 : lw_okq (⟨"JoinedNamesModel", "passes", "(I)Z"⟩, 18) := ⟨⟨by decide +kernel, by decide +kernel⟩, List.mem_of_getElem? (i := 577) (by decide +kernel), List.mem_of_getElem? (i := 818) (by decide +kernel), List.mem_of_getElem? (i := 819) (by decide +kernel)⟩
theorem lw_p59 : lw_okq (⟨"JoinedNamesModel", "namePassed", "()I"⟩, 18) := ⟨⟨by decide +kernel, by decide +kernel⟩, List.mem_of_getElem? (i := 577) (by decide +kernel), List.mem_of_getElem? (i := 822) (by decide +kernel), List.mem_of_getElem? (i := 823) (by decide +kernel)⟩
theorem lw_p60 : lw_okq (⟨"JoinedNamesModel", "writesOut", "(I)V"⟩, 18) := ⟨⟨by decide +kernel, by decide +kernel⟩, List.mem_of_getElem? (i := 577) (by decide +kernel), List.mem_of_getElem? (i := 830) (by decide +kernel), List.mem_of_getElem? (i := 831) (by decide +kernel)⟩
theorem lw_p61 : lw_okq (⟨"JoinedNamesModel", "puts", "(I)V"⟩, 18) := ⟨⟨by decide +kernel, by decide +kernel⟩, List.mem_of_getElem? (i := 577) (by decide +kernel), List.mem_of_getElem? (i := 834) (by decide +kernel), List.mem_of_getElem? (i := 835) (by decide +kernel)⟩
theorem lw_p62 : lw_okq (⟨"JoinedNamesModel", "toldOf", "(I)I"⟩, 18) := ⟨⟨by decide +kernel, by decide +kernel⟩, List.mem_of_getElem? (i := 577) (by decide +kernel), List.mem_of_getElem? (i := 842) (by decide +kernel), List.mem_of_getElem? (i := 843) (by decide +kernel)⟩
theorem lw_p63 : lw_okq (⟨"JoinedNamesModel", "mix", "(I)V"⟩, 18) := ⟨⟨by decide +kernel, by decide +kernel⟩, List.mem_of_getElem? (i := 577) (by decide +kernel), List.mem_of_getElem? (i := 851) (by decide +kernel), List.mem_of_getElem? (i := 852) (by decide +kernel)⟩
def lw_privs_4 : List (MethodName × Nat) := [(⟨"JoinedNamesModel", "pointsTo", "(II)V"⟩, 18), (⟨"JoinedNamesModel", "joins", "(II)V"⟩, 18), (⟨"JoinedNamesModel", "coarseOf", "(I)I"⟩, 18), (⟨"JoinedNamesModel", "groupSet", "(I)I"⟩, 18), (⟨"JoinedNamesModel", "countOf", "(I)I"⟩, 18), (⟨"JoinedNamesModel", "runs", "(I)V"⟩, 18), (⟨"JoinedNamesModel", "does", "(I)V"⟩, 18), (⟨"JoinedNamesModel", "isRead", "()Z"⟩, 18), (⟨"JoinedNamesModel", "next", "()I"⟩, 18), (⟨"JoinedNamesModel", "readsLine", "()Z"⟩, 18), (⟨"JoinedNamesModel", "passes", "(I)Z"⟩, 18), (⟨"JoinedNamesModel", "namePassed", "()I"⟩, 18), (⟨"JoinedNamesModel", "writesOut", "(I)V"⟩, 18), (⟨"JoinedNamesModel", "puts", "(I)V"⟩, 18), (⟨"JoinedNamesModel", "toldOf", "(I)I"⟩, 18), (⟨"JoinedNamesModel", "mix", "(I)V"⟩, 18)]
theorem lw_r4 : ∀ q ∈ lw_privs_4, lw_okq q := List.forall_mem_cons.mpr ⟨lw_p48, List.forall_mem_cons.mpr ⟨lw_p49, List.forall_mem_cons.mpr ⟨lw_p50, List.forall_mem_cons.mpr ⟨lw_p51, List.forall_mem_cons.mpr ⟨lw_p52, List.forall_mem_cons.mpr ⟨lw_p53, List.forall_mem_cons.mpr ⟨lw_p54, List.forall_mem_cons.mpr ⟨lw_p55, List.forall_mem_cons.mpr ⟨lw_p56, List.forall_mem_cons.mpr ⟨lw_p57, List.forall_mem_cons.mpr ⟨lw_p58, List.forall_mem_cons.mpr ⟨lw_p59, List.forall_mem_cons.mpr ⟨lw_p60, List.forall_mem_cons.mpr ⟨lw_p61, List.forall_mem_cons.mpr ⟨lw_p62, List.forall_mem_cons.mpr ⟨lw_p63, fun _ h => absurd h List.not_mem_nil⟩⟩⟩⟩⟩⟩⟩⟩⟩⟩⟩⟩⟩⟩⟩⟩
theorem lw_p64 : lw_okq (⟨"JoinedNamesModel", "mixName", "(I)V"⟩, 18) := ⟨⟨by decide +kernel, by decide +kernel⟩, List.mem_of_getElem? (i := 577) (by decide +kernel), List.mem_of_getElem? (i := 856) (by decide +kernel), List.mem_of_getElem? (i := 857) (by decide +kernel)⟩
def lw_privs_5 : List (MethodName × Nat) := [(⟨"JoinedNamesModel", "mixName", "(I)V"⟩, 18)]
theorem lw_r5 : ∀ q ∈ lw_privs_5, lw_okq q := List.forall_mem_cons.mpr ⟨lw_p64, fun _ h => absurd h List.not_mem_nil⟩
def lw_privs : List (MethodName × Nat) := lw_privs_1 ++ (lw_privs_2 ++ (lw_privs_3 ++ (lw_privs_4 ++ (lw_privs_5))))
def lw_tbl : List Cond := k2_sels lw_privs ++ tables_1
theorem lw_privs_ok : ∀ q ∈ lw_privs, lw_okq q := by
  show ∀ q ∈ lw_privs_1 ++ (lw_privs_2 ++ (lw_privs_3 ++ (lw_privs_4 ++ (lw_privs_5)))), lw_okq q
  exact List.forall_mem_append.mpr ⟨lw_r1, List.forall_mem_append.mpr ⟨lw_r2, List.forall_mem_append.mpr ⟨lw_r3, List.forall_mem_append.mpr ⟨lw_r4, lw_r5⟩⟩⟩⟩
end
section
def RX0 : String := "JoinedNames$Coarse"
def TX0 : u_T := fun k => match k with
  | 0 => ("JoinedNames$Coarse", "groups", "[I", true)
  | _ => ("JoinedNames$Coarse", "targets", "[I", true)
def tyX0 : Nat → FieldType := fun k => match k with
  | 0 => .array .int
  | _ => .array .int
abbrev wsX00 : List Cond := u_ws RX0 TX0 2
theorem nmX0 : ∀ a, a < 2 → ∀ b, b < 2 → a ≠ b → (TX0 a).2.1 ≠ (TX0 b).2.1 := by decide +kernel
theorem tyX0_ok : ∀ k, k < 2 → parseFieldDescriptor (TX0 k).2.2.1 = some (tyX0 k) := by decide +kernel
abbrev cX0_init : ByteArray := prog_2_method_1_code
def yX0_init : MethodName := ⟨RX0, "<init>", "()V"⟩
abbrev cX0_groupOf : ByteArray := prog_2_method_2_code
def yX0_groupOf : MethodName := ⟨RX0, "groupOf", "(I)I"⟩
abbrev cX0_targetOf : ByteArray := prog_2_method_3_code
def yX0_targetOf : MethodName := ⟨RX0, "targetOf", "(I)I"⟩
abbrev cX0_setOf : ByteArray := prog_2_method_4_code
def yX0_setOf : MethodName := ⟨RX0, "setOf", "(I)I"⟩
abbrev cX0_membersOf : ByteArray := prog_2_method_5_code
def yX0_membersOf : MethodName := ⟨RX0, "membersOf", "(I)I"⟩
abbrev cX0_groupCount : ByteArray := prog_2_method_6_code
def yX0_groupCount : MethodName := ⟨RX0, "groupCount", "()I"⟩
abbrev cX0_pointingCount : ByteArray := prog_2_method_7_code
def yX0_pointingCount : MethodName := ⟨RX0, "pointingCount", "()I"⟩
abbrev cX0_selfPointingCount : ByteArray := prog_2_method_8_code
def yX0_selfPointingCount : MethodName := ⟨RX0, "selfPointingCount", "()I"⟩
abbrev cX0_total : ByteArray := prog_2_method_9_code
def yX0_total : MethodName := ⟨RX0, "total", "()I"⟩
abbrev cX0_solve : ByteArray := prog_2_method_10_code
def yX0_solve : MethodName := ⟨RX0, "solve", "(LJoinedNames$Lines;I)V"⟩
abbrev cX0_apply : ByteArray := prog_2_method_11_code
def yX0_apply : MethodName := ⟨RX0, "apply", "(LJoinedNames$Lines;I)Z"⟩
abbrev cX0_point : ByteArray := prog_2_method_12_code
def yX0_point : MethodName := ⟨RX0, "point", "(II)Z"⟩
abbrev cX0_join : ByteArray := prog_2_method_13_code
def yX0_join : MethodName := ⟨RX0, "join", "(II)V"⟩
abbrev cX0_rename : ByteArray := prog_2_method_14_code
def yX0_rename : MethodName := ⟨RX0, "rename", "(II)V"⟩
def RX1 : String := "JoinedNames$Fine"
def TX1 : u_T := fun k => match k with
  | _ => ("JoinedNames$Fine", "sets", "[I", true)
def tyX1 : Nat → FieldType := fun k => match k with
  | _ => .array .int
abbrev wsX10 : List Cond := u_ws RX1 TX1 1
theorem nmX1 : ∀ a, a < 1 → ∀ b, b < 1 → a ≠ b → (TX1 a).2.1 ≠ (TX1 b).2.1 := by decide +kernel
theorem tyX1_ok : ∀ k, k < 1 → parseFieldDescriptor (TX1 k).2.2.1 = some (tyX1 k) := by decide +kernel
abbrev cX1_init : ByteArray := prog_3_method_1_code
def yX1_init : MethodName := ⟨RX1, "<init>", "()V"⟩
abbrev cX1_setOf : ByteArray := prog_3_method_2_code
def yX1_setOf : MethodName := ⟨RX1, "setOf", "(I)I"⟩
abbrev cX1_total : ByteArray := prog_3_method_3_code
def yX1_total : MethodName := ⟨RX1, "total", "()I"⟩
abbrev cX1_solve : ByteArray := prog_3_method_4_code
def yX1_solve : MethodName := ⟨RX1, "solve", "(LJoinedNames$Lines;I)V"⟩
abbrev cX1_apply : ByteArray := prog_3_method_5_code
def yX1_apply : MethodName := ⟨RX1, "apply", "(LJoinedNames$Lines;I)Z"⟩
abbrev cX1_grow : ByteArray := prog_3_method_6_code
def yX1_grow : MethodName := ⟨RX1, "grow", "(II)Z"⟩
abbrev cX1_unionOver : ByteArray := prog_3_method_7_code
def yX1_unionOver : MethodName := ⟨RX1, "unionOver", "(I)I"⟩
abbrev cX1_growAll : ByteArray := prog_3_method_8_code
def yX1_growAll : MethodName := ⟨RX1, "growAll", "(II)Z"⟩
def RX2 : String := "JoinedNames$Lines"
def TX2 : u_T := fun k => match k with
  | 0 => ("JoinedNames$Lines", "codes", "[I", true)
  | _ => ("JoinedNames$Lines", "size", "I", false)
def tyX2 : Nat → FieldType := fun k => match k with
  | 0 => .array .int
  | _ => .int
abbrev wsX20 : List Cond := u_ws RX2 TX2 2
theorem nmX2 : ∀ a, a < 2 → ∀ b, b < 2 → a ≠ b → (TX2 a).2.1 ≠ (TX2 b).2.1 := by decide +kernel
theorem tyX2_ok : ∀ k, k < 2 → parseFieldDescriptor (TX2 k).2.2.1 = some (tyX2 k) := by decide +kernel
abbrev cX2_init : ByteArray := prog_4_method_1_code
def yX2_init : MethodName := ⟨RX2, "<init>", "()V"⟩
abbrev cX2_size : ByteArray := prog_4_method_2_code
def yX2_size : MethodName := ⟨RX2, "size", "()I"⟩
abbrev cX2_sortAt : ByteArray := prog_4_method_3_code
def yX2_sortAt : MethodName := ⟨RX2, "sortAt", "(I)I"⟩
abbrev cX2_leftAt : ByteArray := prog_4_method_4_code
def yX2_leftAt : MethodName := ⟨RX2, "leftAt", "(I)I"⟩
abbrev cX2_rightAt : ByteArray := prog_4_method_5_code
def yX2_rightAt : MethodName := ⟨RX2, "rightAt", "(I)I"⟩
abbrev cX2_append : ByteArray := prog_4_method_6_code
def yX2_append : MethodName := ⟨RX2, "append", "(III)V"⟩
abbrev cX2_removeAt : ByteArray := prog_4_method_7_code
def yX2_removeAt : MethodName := ⟨RX2, "removeAt", "(I)V"⟩
abbrev cX2_moveTo : ByteArray := prog_4_method_8_code
def yX2_moveTo : MethodName := ⟨RX2, "moveTo", "(II)V"⟩
abbrev cX2_removeAll : ByteArray := prog_4_method_9_code
def yX2_removeAll : MethodName := ⟨RX2, "removeAll", "()V"⟩
abbrev cX2_copyFrom : ByteArray := prog_4_method_10_code
def yX2_copyFrom : MethodName := ⟨RX2, "copyFrom", "(LJoinedNames$Lines;)V"⟩
abbrev cX2_writtenLength : ByteArray := prog_4_method_11_code
def yX2_writtenLength : MethodName := ⟨RX2, "writtenLength", "()I"⟩
abbrev cX2_writtenByte : ByteArray := prog_4_method_12_code
def yX2_writtenByte : MethodName := ⟨RX2, "writtenByte", "(I)I"⟩
abbrev cX2_lengthAt : ByteArray := prog_4_method_13_code
def yX2_lengthAt : MethodName := ⟨RX2, "lengthAt", "(I)I"⟩
abbrev cX2_byteAt : ByteArray := prog_4_method_14_code
def yX2_byteAt : MethodName := ⟨RX2, "byteAt", "(II)I"⟩
def RX3 : String := "JoinedNames$Run"
def TX3 : u_T := fun k => match k with
  | 0 => ("JoinedNames$Run", "ends", "[I", true)
  | 1 => ("JoinedNames$Run", "evers", "[I", true)
  | _ => ("JoinedNames$Run", "missed", "I", false)
def tyX3 : Nat → FieldType := fun k => match k with
  | 0 => .array .int
  | 1 => .array .int
  | _ => .int
abbrev wsX30 : List Cond := u_ws RX3 TX3 3
theorem nmX3 : ∀ a, a < 3 → ∀ b, b < 3 → a ≠ b → (TX3 a).2.1 ≠ (TX3 b).2.1 := by decide +kernel
theorem tyX3_ok : ∀ k, k < 3 → parseFieldDescriptor (TX3 k).2.2.1 = some (tyX3 k) := by decide +kernel
abbrev cX3_init : ByteArray := prog_5_method_1_code
def yX3_init : MethodName := ⟨RX3, "<init>", "()V"⟩
abbrev cX3_endOf : ByteArray := prog_5_method_2_code
def yX3_endOf : MethodName := ⟨RX3, "endOf", "(I)I"⟩
abbrev cX3_everOf : ByteArray := prog_5_method_3_code
def yX3_everOf : MethodName := ⟨RX3, "everOf", "(I)I"⟩
abbrev cX3_missed : ByteArray := prog_5_method_4_code
def yX3_missed : MethodName := ⟨RX3, "missed", "()I"⟩
abbrev cX3_play : ByteArray := prog_5_method_5_code
def yX3_play : MethodName := ⟨RX3, "play", "(LJoinedNames$Lines;I)V"⟩
abbrev cX3_carryOut : ByteArray := prog_5_method_6_code
def yX3_carryOut : MethodName := ⟨RX3, "carryOut", "(LJoinedNames$Lines;I)V"⟩
abbrev cX3_load : ByteArray := prog_5_method_7_code
def yX3_load : MethodName := ⟨RX3, "load", "(II)V"⟩
abbrev cX3_store : ByteArray := prog_5_method_8_code
def yX3_store : MethodName := ⟨RX3, "store", "(II)V"⟩
abbrev cX3_point : ByteArray := prog_5_method_9_code
def yX3_point : MethodName := ⟨RX3, "point", "(II)V"⟩
def RX4 : String := "JoinedNames$States"
def TX4 : u_T := fun k => match k with
  | 0 => ("JoinedNames$States", "kept", "[LJoinedNames$Lines;", true)
  | _ => ("JoinedNames$States", "size", "I", false)
def tyX4 : Nat → FieldType := fun k => match k with
  | 0 => .array (.object "JoinedNames$Lines")
  | _ => .int
abbrev wsX40 : List Cond := u_ws RX4 TX4 2
theorem nmX4 : ∀ a, a < 2 → ∀ b, b < 2 → a ≠ b → (TX4 a).2.1 ≠ (TX4 b).2.1 := by decide +kernel
theorem tyX4_ok : ∀ k, k < 2 → parseFieldDescriptor (TX4 k).2.2.1 = some (tyX4 k) := by decide +kernel
abbrev cX4_init : ByteArray := prog_6_method_1_code
def yX4_init : MethodName := ⟨RX4, "<init>", "()V"⟩
abbrev cX4_size : ByteArray := prog_6_method_2_code
def yX4_size : MethodName := ⟨RX4, "size", "()I"⟩
abbrev cX4_keep : ByteArray := prog_6_method_3_code
def yX4_keep : MethodName := ⟨RX4, "keep", "(LJoinedNames$Lines;)V"⟩
abbrev cX4_restore : ByteArray := prog_6_method_4_code
def yX4_restore : MethodName := ⟨RX4, "restore", "(LJoinedNames$Lines;)V"⟩
abbrev cX4_loseOldest : ByteArray := prog_6_method_5_code
def yX4_loseOldest : MethodName := ⟨RX4, "loseOldest", "()V"⟩
def RX5 : String := "JoinedNames$Text"
def TX5 : u_T := fun k => match k with
  | 0 => ("JoinedNames$Text", "bytes", "[I", true)
  | 1 => ("JoinedNames$Text", "found", "LJoinedNames$Lines;", true)
  | 2 => ("JoinedNames$Text", "length", "I", false)
  | 3 => ("JoinedNames$Text", "sort", "I", false)
  | 4 => ("JoinedNames$Text", "x", "I", false)
  | _ => ("JoinedNames$Text", "y", "I", false)
def tyX5 : Nat → FieldType := fun k => match k with
  | 0 => .array .int
  | 1 => .object "JoinedNames$Lines"
  | 2 => .int
  | 3 => .int
  | 4 => .int
  | _ => .int
abbrev wsX50 : List Cond := u_ws RX5 TX5 6
theorem nmX5 : ∀ a, a < 6 → ∀ b, b < 6 → a ≠ b → (TX5 a).2.1 ≠ (TX5 b).2.1 := by decide +kernel
theorem tyX5_ok : ∀ k, k < 6 → parseFieldDescriptor (TX5 k).2.2.1 = some (tyX5 k) := by decide +kernel
abbrev cX5_init : ByteArray := prog_7_method_1_code
def yX5_init : MethodName := ⟨RX5, "<init>", "()V"⟩
abbrev cX5_length : ByteArray := prog_7_method_2_code
def yX5_length : MethodName := ⟨RX5, "length", "()I"⟩
abbrev cX5_parsed : ByteArray := prog_7_method_3_code
def yX5_parsed : MethodName := ⟨RX5, "parsed", "()LJoinedNames$Lines;"⟩
abbrev cX5_append : ByteArray := prog_7_method_4_code
def yX5_append : MethodName := ⟨RX5, "append", "(I)V"⟩
abbrev cX5_empty : ByteArray := prog_7_method_5_code
def yX5_empty : MethodName := ⟨RX5, "empty", "()V"⟩
abbrev cX5_parse : ByteArray := prog_7_method_6_code
def yX5_parse : MethodName := ⟨RX5, "parse", "()I"⟩
abbrev cX5_stepBehind : ByteArray := prog_7_method_7_code
def yX5_stepBehind : MethodName := ⟨RX5, "stepBehind", "(II)I"⟩
abbrev cX5_behindStart : ByteArray := prog_7_method_8_code
def yX5_behindStart : MethodName := ⟨RX5, "behindStart", "(I)I"⟩
abbrev cX5_behindLeftName : ByteArray := prog_7_method_9_code
def yX5_behindLeftName : MethodName := ⟨RX5, "behindLeftName", "(I)I"⟩
abbrev cX5_behindRightSide : ByteArray := prog_7_method_10_code
def yX5_behindRightSide : MethodName := ⟨RX5, "behindRightSide", "(I)I"⟩
abbrev cX5_behindRightName : ByteArray := prog_7_method_11_code
def yX5_behindRightName : MethodName := ⟨RX5, "behindRightName", "(I)I"⟩
abbrev cX5_behindEnd : ByteArray := prog_7_method_12_code
def yX5_behindEnd : MethodName := ⟨RX5, "behindEnd", "(I)I"⟩
def RX6 : String := "JoinedNames"
def TX6 : u_T := fun k => match k with
  | 0 => ("JoinedNames", "lines", "LJoinedNames$Lines;", true)
  | 1 => ("JoinedNames", "states", "LJoinedNames$States;", true)
  | 2 => ("JoinedNames", "text", "LJoinedNames$Text;", true)
  | 3 => ("JoinedNames", "fineSets", "LJoinedNames$Fine;", true)
  | 4 => ("JoinedNames", "coarseSets", "LJoinedNames$Coarse;", true)
  | 5 => ("JoinedNames", "run", "LJoinedNames$Run;", true)
  | 6 => ("JoinedNames", "badCount", "I", false)
  | 7 => ("JoinedNames", "noCount", "I", false)
  | _ => ("JoinedNames", "fullCount", "I", false)
def tyX6 : Nat → FieldType := fun k => match k with
  | 0 => .object "JoinedNames$Lines"
  | 1 => .object "JoinedNames$States"
  | 2 => .object "JoinedNames$Text"
  | 3 => .object "JoinedNames$Fine"
  | 4 => .object "JoinedNames$Coarse"
  | 5 => .object "JoinedNames$Run"
  | 6 => .int
  | 7 => .int
  | _ => .int
abbrev wsX60 : List Cond := u_ws RX6 TX6 9
theorem nmX6 : ∀ a, a < 9 → ∀ b, b < 9 → a ≠ b → (TX6 a).2.1 ≠ (TX6 b).2.1 := by decide +kernel
theorem tyX6_ok : ∀ k, k < 9 → parseFieldDescriptor (TX6 k).2.2.1 = some (tyX6 k) := by decide +kernel
abbrev cX6_init : ByteArray := prog_1_method_1_code
def yX6_init : MethodName := ⟨RX6, "<init>", "()V"⟩
abbrev cX6_line : ByteArray := prog_1_method_2_code
def yX6_line : MethodName := ⟨RX6, "line", "(III)I"⟩
abbrev cX6_drops : ByteArray := prog_1_method_3_code
def yX6_drops : MethodName := ⟨RX6, "drops", "(I)I"⟩
abbrev cX6_moves : ByteArray := prog_1_method_4_code
def yX6_moves : MethodName := ⟨RX6, "moves", "(II)I"⟩
abbrev cX6_of : ByteArray := prog_1_method_5_code
def yX6_of : MethodName := ⟨RX6, "of", "(II)I"⟩
abbrev cX6_clash : ByteArray := prog_1_method_6_code
def yX6_clash : MethodName := ⟨RX6, "clash", "(II)I"⟩
abbrev cX6_fine : ByteArray := prog_1_method_7_code
def yX6_fine : MethodName := ⟨RX6, "fine", "(I)I"⟩
abbrev cX6_coarse : ByteArray := prog_1_method_8_code
def yX6_coarse : MethodName := ⟨RX6, "coarse", "(I)I"⟩
abbrev cX6_group : ByteArray := prog_1_method_9_code
def yX6_group : MethodName := ⟨RX6, "group", "(II)I"⟩
abbrev cX6_count : ByteArray := prog_1_method_10_code
def yX6_count : MethodName := ⟨RX6, "count", "(I)I"⟩
abbrev cX6_alias : ByteArray := prog_1_method_11_code
def yX6_alias : MethodName := ⟨RX6, "alias", "(III)I"⟩
abbrev cX6_without : ByteArray := prog_1_method_12_code
def yX6_without : MethodName := ⟨RX6, "without", "(III)I"⟩
abbrev cX6_points : ByteArray := prog_1_method_13_code
def yX6_points : MethodName := ⟨RX6, "points", "(II)I"⟩
abbrev cX6_seen : ByteArray := prog_1_method_14_code
def yX6_seen : MethodName := ⟨RX6, "seen", "(II)I"⟩
abbrev cX6_misses : ByteArray := prog_1_method_15_code
def yX6_misses : MethodName := ⟨RX6, "misses", "(I)I"⟩
abbrev cX6_type : ByteArray := prog_1_method_16_code
def yX6_type : MethodName := ⟨RX6, "type", "(I)I"⟩
abbrev cX6_clear : ByteArray := prog_1_method_17_code
def yX6_clear : MethodName := ⟨RX6, "clear", "()I"⟩
abbrev cX6_reads : ByteArray := prog_1_method_18_code
def yX6_reads : MethodName := ⟨RX6, "reads", "()I"⟩
abbrev cX6_shown : ByteArray := prog_1_method_19_code
def yX6_shown : MethodName := ⟨RX6, "shown", "(I)I"⟩
abbrev cX6_back : ByteArray := prog_1_method_20_code
def yX6_back : MethodName := ⟨RX6, "back", "()I"⟩
abbrev cX6_told : ByteArray := prog_1_method_21_code
def yX6_told : MethodName := ⟨RX6, "told", "(I)I"⟩
abbrev cX6_digest : ByteArray := prog_1_method_22_code
def yX6_digest : MethodName := ⟨RX6, "digest", "()J"⟩
abbrev cX6_below : ByteArray := prog_1_method_23_code
def yX6_below : MethodName := ⟨RX6, "below", "(II)Z"⟩
abbrev cX6_isName : ByteArray := prog_1_method_24_code
def yX6_isName : MethodName := ⟨RX6, "isName", "(I)Z"⟩
abbrev cX6_isRounds : ByteArray := prog_1_method_25_code
def yX6_isRounds : MethodName := ⟨RX6, "isRounds", "(I)Z"⟩
abbrev cX6_isLine : ByteArray := prog_1_method_26_code
def yX6_isLine : MethodName := ⟨RX6, "isLine", "(I)Z"⟩
abbrev cX6_asNumber : ByteArray := prog_1_method_27_code
def yX6_asNumber : MethodName := ⟨RX6, "asNumber", "(Z)I"⟩
abbrev cX6_bit : ByteArray := prog_1_method_28_code
def yX6_bit : MethodName := ⟨RX6, "bit", "(I)I"⟩
abbrev cX6_hasBit : ByteArray := prog_1_method_29_code
def yX6_hasBit : MethodName := ⟨RX6, "hasBit", "(II)Z"⟩
abbrev cX6_refuseBad : ByteArray := prog_1_method_30_code
def yX6_refuseBad : MethodName := ⟨RX6, "refuseBad", "()I"⟩
abbrev cX6_refuseNo : ByteArray := prog_1_method_31_code
def yX6_refuseNo : MethodName := ⟨RX6, "refuseNo", "()I"⟩
abbrev cX6_refuseFull : ByteArray := prog_1_method_32_code
def yX6_refuseFull : MethodName := ⟨RX6, "refuseFull", "()I"⟩
abbrev cX6_tally : ByteArray := prog_1_method_33_code
def yX6_tally : MethodName := ⟨RX6, "tally", "(I)I"⟩
abbrev cX6_lineDetail : ByteArray := prog_1_method_34_code
def yX6_lineDetail : MethodName := ⟨RX6, "lineDetail", "(II)I"⟩
abbrev cX6_writesOf : ByteArray := prog_1_method_35_code
def yX6_writesOf : MethodName := ⟨RX6, "writesOf", "(I)I"⟩
abbrev cX6_readsOf : ByteArray := prog_1_method_36_code
def yX6_readsOf : MethodName := ⟨RX6, "readsOf", "(I)I"⟩
abbrev cX6_disturbs : ByteArray := prog_1_method_37_code
def yX6_disturbs : MethodName := ⟨RX6, "disturbs", "(II)Z"⟩
abbrev cX6_groupDetail : ByteArray := prog_1_method_38_code
def yX6_groupDetail : MethodName := ⟨RX6, "groupDetail", "(II)I"⟩
abbrev cX6_counted : ByteArray := prog_1_method_39_code
def yX6_counted : MethodName := ⟨RX6, "counted", "(I)I"⟩
abbrev cX6_mayPointTo : ByteArray := prog_1_method_40_code
def yX6_mayPointTo : MethodName := ⟨RX6, "mayPointTo", "(III)I"⟩
abbrev cX6_mixedName : ByteArray := prog_1_method_41_code
def yX6_mixedName : MethodName := ⟨RX6, "mixedName", "(JI)J"⟩
abbrev cX6_mixed : ByteArray := prog_1_method_42_code
def yX6_mixed : MethodName := ⟨RX6, "mixed", "(JI)J"⟩
def RX7 : String := "JoinedNamesModel"
def TX7 : u_T := fun k => match k with
  | 0 => ("JoinedNamesModel", "now", "[I", true)
  | 1 => ("JoinedNamesModel", "fresh", "[I", true)
  | 2 => ("JoinedNamesModel", "past", "[I", true)
  | 3 => ("JoinedNamesModel", "states", "I", false)
  | 4 => ("JoinedNamesModel", "refused", "[I", true)
  | 5 => ("JoinedNamesModel", "text", "[I", true)
  | 6 => ("JoinedNamesModel", "length", "I", false)
  | 7 => ("JoinedNamesModel", "sets", "[I", true)
  | 8 => ("JoinedNamesModel", "grew", "Z", false)
  | 9 => ("JoinedNamesModel", "group", "[I", true)
  | 10 => ("JoinedNamesModel", "to", "[I", true)
  | 11 => ("JoinedNamesModel", "at", "[I", true)
  | 12 => ("JoinedNamesModel", "were", "[I", true)
  | 13 => ("JoinedNamesModel", "missed", "I", false)
  | 14 => ("JoinedNamesModel", "place", "I", false)
  | 15 => ("JoinedNamesModel", "written", "[I", true)
  | 16 => ("JoinedNamesModel", "writtenMany", "I", false)
  | _ => ("JoinedNamesModel", "hash", "J", false)
def tyX7 : Nat → FieldType := fun k => match k with
  | 0 => .array .int
  | 1 => .array .int
  | 2 => .array .int
  | 3 => .int
  | 4 => .array .int
  | 5 => .array .int
  | 6 => .int
  | 7 => .array .int
  | 8 => .boolean
  | 9 => .array .int
  | 10 => .array .int
  | 11 => .array .int
  | 12 => .array .int
  | 13 => .int
  | 14 => .int
  | 15 => .array .int
  | 16 => .int
  | _ => .long
abbrev wsX70 : List Cond := u_ws RX7 TX7 18
theorem nmX7 : ∀ a, a < 18 → ∀ b, b < 18 → a ≠ b → (TX7 a).2.1 ≠ (TX7 b).2.1 := by decide +kernel
theorem tyX7_ok : ∀ k, k < 18 → parseFieldDescriptor (TX7 k).2.2.1 = some (tyX7 k) := by decide +kernel
abbrev cX7_init : ByteArray := prog_9_method_1_code
def yX7_init : MethodName := ⟨RX7, "<init>", "()V"⟩
abbrev cX7_within : ByteArray := prog_9_method_3_code
def yX7_within : MethodName := ⟨RX7, "within", "(III)Z"⟩
abbrev cX7_has : ByteArray := prog_9_method_4_code
def yX7_has : MethodName := ⟨RX7, "has", "(II)Z"⟩
abbrev cX7_ones : ByteArray := prog_9_method_5_code
def yX7_ones : MethodName := ⟨RX7, "ones", "(I)I"⟩
abbrev cX7_counts : ByteArray := prog_9_method_6_code
def yX7_counts : MethodName := ⟨RX7, "counts", "(I)I"⟩
abbrev cX7_isName : ByteArray := prog_9_method_7_code
def yX7_isName : MethodName := ⟨RX7, "isName", "(I)Z"⟩
abbrev cX7_isLine : ByteArray := prog_9_method_8_code
def yX7_isLine : MethodName := ⟨RX7, "isLine", "(I)Z"⟩
abbrev cX7_sortOf : ByteArray := prog_9_method_9_code
def yX7_sortOf : MethodName := ⟨RX7, "sortOf", "(I)I"⟩
abbrev cX7_xOf : ByteArray := prog_9_method_10_code
def yX7_xOf : MethodName := ⟨RX7, "xOf", "(I)I"⟩
abbrev cX7_yOf : ByteArray := prog_9_method_11_code
def yX7_yOf : MethodName := ⟨RX7, "yOf", "(I)I"⟩
abbrev cX7_leaves : ByteArray := prog_9_method_12_code
def yX7_leaves : MethodName := ⟨RX7, "leaves", "()V"⟩
abbrev cX7_back : ByteArray := prog_9_method_13_code
def yX7_back : MethodName := ⟨RX7, "back", "()I"⟩
abbrev cX7_line : ByteArray := prog_9_method_14_code
def yX7_line : MethodName := ⟨RX7, "line", "(III)I"⟩
abbrev cX7_drops : ByteArray := prog_9_method_15_code
def yX7_drops : MethodName := ⟨RX7, "drops", "(I)I"⟩
abbrev cX7_moves : ByteArray := prog_9_method_16_code
def yX7_moves : MethodName := ⟨RX7, "moves", "(II)I"⟩
abbrev cX7_gets : ByteArray := prog_9_method_17_code
def yX7_gets : MethodName := ⟨RX7, "gets", "(II)V"⟩
abbrev cX7_growsBy : ByteArray := prog_9_method_18_code
def yX7_growsBy : MethodName := ⟨RX7, "growsBy", "(I)V"⟩
abbrev cX7_laysFine : ByteArray := prog_9_method_19_code
def yX7_laysFine : MethodName := ⟨RX7, "laysFine", "(I)V"⟩
abbrev cX7_joins : ByteArray := prog_9_method_20_code
def yX7_joins : MethodName := ⟨RX7, "joins", "(II)V"⟩
abbrev cX7_pointsTo : ByteArray := prog_9_method_21_code
def yX7_pointsTo : MethodName := ⟨RX7, "pointsTo", "(II)V"⟩
abbrev cX7_joinsBy : ByteArray := prog_9_method_22_code
def yX7_joinsBy : MethodName := ⟨RX7, "joinsBy", "(I)V"⟩
abbrev cX7_laysCoarse : ByteArray := prog_9_method_23_code
def yX7_laysCoarse : MethodName := ⟨RX7, "laysCoarse", "(I)V"⟩
abbrev cX7_groupSet : ByteArray := prog_9_method_24_code
def yX7_groupSet : MethodName := ⟨RX7, "groupSet", "(I)I"⟩
abbrev cX7_coarseOf : ByteArray := prog_9_method_25_code
def yX7_coarseOf : MethodName := ⟨RX7, "coarseOf", "(I)I"⟩
abbrev cX7_writes : ByteArray := prog_9_method_26_code
def yX7_writes : MethodName := ⟨RX7, "writes", "(I)I"⟩
abbrev cX7_readBy : ByteArray := prog_9_method_27_code
def yX7_readBy : MethodName := ⟨RX7, "readBy", "(I)I"⟩
abbrev cX7_ofLine : ByteArray := prog_9_method_28_code
def yX7_ofLine : MethodName := ⟨RX7, "ofLine", "(II)I"⟩
abbrev cX7_of : ByteArray := prog_9_method_29_code
def yX7_of : MethodName := ⟨RX7, "of", "(II)I"⟩
abbrev cX7_clash : ByteArray := prog_9_method_30_code
def yX7_clash : MethodName := ⟨RX7, "clash", "(II)I"⟩
abbrev cX7_fine : ByteArray := prog_9_method_31_code
def yX7_fine : MethodName := ⟨RX7, "fine", "(I)I"⟩
abbrev cX7_coarse : ByteArray := prog_9_method_32_code
def yX7_coarse : MethodName := ⟨RX7, "coarse", "(I)I"⟩
abbrev cX7_group : ByteArray := prog_9_method_33_code
def yX7_group : MethodName := ⟨RX7, "group", "(II)I"⟩
abbrev cX7_countOf : ByteArray := prog_9_method_34_code
def yX7_countOf : MethodName := ⟨RX7, "countOf", "(I)I"⟩
abbrev cX7_count : ByteArray := prog_9_method_35_code
def yX7_count : MethodName := ⟨RX7, "count", "(I)I"⟩
abbrev cX7_alias : ByteArray := prog_9_method_36_code
def yX7_alias : MethodName := ⟨RX7, "alias", "(III)I"⟩
abbrev cX7_without : ByteArray := prog_9_method_37_code
def yX7_without : MethodName := ⟨RX7, "without", "(III)I"⟩
abbrev cX7_does : ByteArray := prog_9_method_38_code
def yX7_does : MethodName := ⟨RX7, "does", "(I)V"⟩
abbrev cX7_runs : ByteArray := prog_9_method_39_code
def yX7_runs : MethodName := ⟨RX7, "runs", "(I)V"⟩
abbrev cX7_points : ByteArray := prog_9_method_40_code
def yX7_points : MethodName := ⟨RX7, "points", "(II)I"⟩
abbrev cX7_seen : ByteArray := prog_9_method_41_code
def yX7_seen : MethodName := ⟨RX7, "seen", "(II)I"⟩
abbrev cX7_misses : ByteArray := prog_9_method_42_code
def yX7_misses : MethodName := ⟨RX7, "misses", "(I)I"⟩
abbrev cX7_type : ByteArray := prog_9_method_43_code
def yX7_type : MethodName := ⟨RX7, "type", "(I)I"⟩
abbrev cX7_clear : ByteArray := prog_9_method_44_code
def yX7_clear : MethodName := ⟨RX7, "clear", "()I"⟩
abbrev cX7_next : ByteArray := prog_9_method_45_code
def yX7_next : MethodName := ⟨RX7, "next", "()I"⟩
abbrev cX7_passes : ByteArray := prog_9_method_46_code
def yX7_passes : MethodName := ⟨RX7, "passes", "(I)Z"⟩
abbrev cX7_namePassed : ByteArray := prog_9_method_47_code
def yX7_namePassed : MethodName := ⟨RX7, "namePassed", "()I"⟩
abbrev cX7_readsLine : ByteArray := prog_9_method_48_code
def yX7_readsLine : MethodName := ⟨RX7, "readsLine", "()Z"⟩
abbrev cX7_isRead : ByteArray := prog_9_method_49_code
def yX7_isRead : MethodName := ⟨RX7, "isRead", "()Z"⟩
abbrev cX7_reads : ByteArray := prog_9_method_50_code
def yX7_reads : MethodName := ⟨RX7, "reads", "()I"⟩
abbrev cX7_puts : ByteArray := prog_9_method_51_code
def yX7_puts : MethodName := ⟨RX7, "puts", "(I)V"⟩
abbrev cX7_writesOut : ByteArray := prog_9_method_52_code
def yX7_writesOut : MethodName := ⟨RX7, "writesOut", "(I)V"⟩
abbrev cX7_shown : ByteArray := prog_9_method_53_code
def yX7_shown : MethodName := ⟨RX7, "shown", "(I)I"⟩
abbrev cX7_toldOf : ByteArray := prog_9_method_54_code
def yX7_toldOf : MethodName := ⟨RX7, "toldOf", "(I)I"⟩
abbrev cX7_told : ByteArray := prog_9_method_55_code
def yX7_told : MethodName := ⟨RX7, "told", "(I)I"⟩
abbrev cX7_mix : ByteArray := prog_9_method_56_code
def yX7_mix : MethodName := ⟨RX7, "mix", "(I)V"⟩
abbrev cX7_mixName : ByteArray := prog_9_method_57_code
def yX7_mixName : MethodName := ⟨RX7, "mixName", "(I)V"⟩
abbrev cX7_digest : ByteArray := prog_9_method_58_code
def yX7_digest : MethodName := ⟨RX7, "digest", "()J"⟩
def RJ6 : String := "java/lang/Integer"
def TJ6 : u_T := fun k => match k with
  | _ => ("", "", "", false)
def tyJ6 : Nat → FieldType := fun k => match k with
  | _ => .int
abbrev wsJ60 : List Cond := u_ws RJ6 TJ6 0
theorem nmJ6 : ∀ a, a < 0 → ∀ b, b < 0 → a ≠ b → (TJ6 a).2.1 ≠ (TJ6 b).2.1 := by decide +kernel
theorem tyJ6_ok : ∀ k, k < 0 → parseFieldDescriptor (TJ6 k).2.2.1 = some (tyJ6 k) := by decide +kernel
abbrev cJ6_bitCount_0f7a4 : ByteArray := prog_10_method_49_code
def yJ6_bitCount_0f7a4 : MethodName := ⟨RJ6, "bitCount", "(I)I"⟩
def RJ9 : String := "java/lang/Math"
def TJ9 : u_T := fun k => match k with
  | _ => ("", "", "", false)
def tyJ9 : Nat → FieldType := fun k => match k with
  | _ => .int
abbrev wsJ90 : List Cond := u_ws RJ9 TJ9 0
theorem nmJ9 : ∀ a, a < 0 → ∀ b, b < 0 → a ≠ b → (TJ9 a).2.1 ≠ (TJ9 b).2.1 := by decide +kernel
theorem tyJ9_ok : ∀ k, k < 0 → parseFieldDescriptor (TJ9 k).2.2.1 = some (tyJ9 k) := by decide +kernel
abbrev cJ9_max_7cf53 : ByteArray := prog_11_method_65_code
def yJ9_max_7cf53 : MethodName := ⟨RJ9, "max", "(II)I"⟩
abbrev cJ9_min_7cf53 : ByteArray := prog_11_method_69_code
def yJ9_min_7cf53 : MethodName := ⟨RJ9, "min", "(II)I"⟩
def RJ10 : String := "java/lang/System"
def TJ10 : u_T := fun k => match k with
  | _ => ("", "", "", false)
def tyJ10 : Nat → FieldType := fun k => match k with
  | _ => .int
abbrev wsJ100 : List Cond := u_ws RJ10 TJ10 0
theorem nmJ10 : ∀ a, a < 0 → ∀ b, b < 0 → a ≠ b → (TJ10 a).2.1 ≠ (TJ10 b).2.1 := by decide +kernel
theorem tyJ10_ok : ∀ k, k < 0 → parseFieldDescriptor (TJ10 k).2.2.1 = some (tyJ10 k) := by decide +kernel
def RJ7 : String := "java/util/Arrays"
def TJ7 : u_T := fun k => match k with
  | _ => ("", "", "", false)
def tyJ7 : Nat → FieldType := fun k => match k with
  | _ => .int
abbrev wsJ70 : List Cond := u_ws RJ7 TJ7 0
theorem nmJ7 : ∀ a, a < 0 → ∀ b, b < 0 → a ≠ b → (TJ7 a).2.1 ≠ (TJ7 b).2.1 := by decide +kernel
theorem tyJ7_ok : ∀ k, k < 0 → parseFieldDescriptor (TJ7 k).2.2.1 = some (tyJ7 k) := by decide +kernel
abbrev cJ7_fill_53178 : ByteArray := prog_13_method_103_code
def yJ7_fill_53178 : MethodName := ⟨RJ7, "fill", "([II)V"⟩
def RL : String := "JoinedNamesLaw"
abbrev cL_law : ByteArray := code
def yL_law : MethodName := ⟨RL, "law", "([I)Z"⟩
end
section
theorem dX0_init_0 : decode cX0_init 0 = .ok (.aload_n 0, 1) := by decide +kernel
theorem dX0_init_1 : decode cX0_init 1 = .ok (.invokespecial 3, 3) := by decide +kernel
theorem dX0_init_4 : decode cX0_init 4 = .ok (.aload_n 0, 1) := by decide +kernel
theorem dX0_init_5 : decode cX0_init 5 = .ok (.bipush 10, 2) := by decide +kernel
theorem dX0_init_7 : decode cX0_init 7 = .ok (.newarray .int, 2) := by decide +kernel
theorem dX0_init_9 : decode cX0_init 9 = .ok (.putfield 9, 3) := by decide +kernel
theorem dX0_init_12 : decode cX0_init 12 = .ok (.aload_n 0, 1) := by decide +kernel
theorem dX0_init_13 : decode cX0_init 13 = .ok (.bipush 10, 2) := by decide +kernel
theorem dX0_init_15 : decode cX0_init 15 = .ok (.newarray .int, 2) := by decide +kernel
theorem dX0_init_17 : decode cX0_init 17 = .ok (.putfield 15, 3) := by decide +kernel
theorem dX0_init_20 : decode cX0_init 20 = .ok (.return_, 1) := by decide +kernel
theorem dX0_groupOf_0 : decode cX0_groupOf 0 = .ok (.aload_n 0, 1) := by decide +kernel
theorem dX0_groupOf_1 : decode cX0_groupOf 1 = .ok (.getfield 9, 3) := by decide +kernel
theorem dX0_groupOf_4 : decode cX0_groupOf 4 = .ok (.iload_n 1, 1) := by decide +kernel
theorem dX0_groupOf_5 : decode cX0_groupOf 5 = .ok (.iaload, 1) := by decide +kernel
theorem dX0_groupOf_6 : decode cX0_groupOf 6 = .ok (.ireturn, 1) := by decide +kernel
theorem dX0_targetOf_0 : decode cX0_targetOf 0 = .ok (.iload_n 1, 1) := by decide +kernel
theorem dX0_targetOf_1 : decode cX0_targetOf 1 = .ok (.iconst (-1), 1) := by decide +kernel
theorem dX0_targetOf_2 : decode cX0_targetOf 2 = .ok (.if_icmp .ne 7, 3) := by decide +kernel
theorem dX0_targetOf_5 : decode cX0_targetOf 5 = .ok (.iconst (-1), 1) := by decide +kernel
theorem dX0_targetOf_6 : decode cX0_targetOf 6 = .ok (.goto 9, 3) := by decide +kernel
theorem dX0_targetOf_9 : decode cX0_targetOf 9 = .ok (.aload_n 0, 1) := by decide +kernel
theorem dX0_targetOf_10 : decode cX0_targetOf 10 = .ok (.getfield 15, 3) := by decide +kernel
theorem dX0_targetOf_13 : decode cX0_targetOf 13 = .ok (.iload_n 1, 1) := by decide +kernel
theorem dX0_targetOf_14 : decode cX0_targetOf 14 = .ok (.iaload, 1) := by decide +kernel
theorem dX0_targetOf_15 : decode cX0_targetOf 15 = .ok (.ireturn, 1) := by decide +kernel
theorem dX0_setOf_0 : decode cX0_setOf 0 = .ok (.aload_n 0, 1) := by decide +kernel
theorem dX0_setOf_1 : decode cX0_setOf 1 = .ok (.aload_n 0, 1) := by decide +kernel
theorem dX0_setOf_2 : decode cX0_setOf 2 = .ok (.getfield 15, 3) := by decide +kernel
theorem dX0_setOf_5 : decode cX0_setOf 5 = .ok (.aload_n 0, 1) := by decide +kernel
theorem dX0_setOf_6 : decode cX0_setOf 6 = .ok (.getfield 9, 3) := by decide +kernel
theorem dX0_setOf_9 : decode cX0_setOf 9 = .ok (.iload_n 1, 1) := by decide +kernel
theorem dX0_setOf_10 : decode cX0_setOf 10 = .ok (.iaload, 1) := by decide +kernel
theorem dX0_setOf_11 : decode cX0_setOf 11 = .ok (.iaload, 1) := by decide +kernel
theorem dX0_setOf_12 : decode cX0_setOf 12 = .ok (.invokevirtual 18, 3) := by decide +kernel
theorem dX0_setOf_15 : decode cX0_setOf 15 = .ok (.ireturn, 1) := by decide +kernel
theorem dX0_membersOf_0 : decode cX0_membersOf 0 = .ok (.iconst 0, 1) := by decide +kernel
theorem dX0_membersOf_1 : decode cX0_membersOf 1 = .ok (.istore_n 2, 1) := by decide +kernel
theorem dX0_membersOf_2 : decode cX0_membersOf 2 = .ok (.iconst 0, 1) := by decide +kernel
theorem dX0_membersOf_3 : decode cX0_membersOf 3 = .ok (.istore_n 3, 1) := by decide +kernel
theorem dX0_membersOf_4 : decode cX0_membersOf 4 = .ok (.iload_n 3, 1) := by decide +kernel
theorem dX0_membersOf_5 : decode cX0_membersOf 5 = .ok (.bipush 10, 2) := by decide +kernel
theorem dX0_membersOf_7 : decode cX0_membersOf 7 = .ok (.if_icmp .ge 26, 3) := by decide +kernel
theorem dX0_membersOf_10 : decode cX0_membersOf 10 = .ok (.aload_n 0, 1) := by decide +kernel
theorem dX0_membersOf_11 : decode cX0_membersOf 11 = .ok (.getfield 9, 3) := by decide +kernel
theorem dX0_membersOf_14 : decode cX0_membersOf 14 = .ok (.iload_n 3, 1) := by decide +kernel
theorem dX0_membersOf_15 : decode cX0_membersOf 15 = .ok (.iaload, 1) := by decide +kernel
theorem dX0_membersOf_16 : decode cX0_membersOf 16 = .ok (.iload_n 1, 1) := by decide +kernel
theorem dX0_membersOf_17 : decode cX0_membersOf 17 = .ok (.if_icmp .ne 10, 3) := by decide +kernel
theorem dX0_membersOf_20 : decode cX0_membersOf 20 = .ok (.iload_n 2, 1) := by decide +kernel
theorem dX0_membersOf_21 : decode cX0_membersOf 21 = .ok (.iload_n 3, 1) := by decide +kernel
theorem dX0_membersOf_22 : decode cX0_membersOf 22 = .ok (.invokestatic 22, 3) := by decide +kernel
theorem dX0_membersOf_25 : decode cX0_membersOf 25 = .ok (.ior, 1) := by decide +kernel
theorem dX0_membersOf_26 : decode cX0_membersOf 26 = .ok (.istore_n 2, 1) := by decide +kernel
theorem dX0_membersOf_27 : decode cX0_membersOf 27 = .ok (.iinc 3 1, 3) := by decide +kernel
theorem dX0_membersOf_30 : decode cX0_membersOf 30 = .ok (.goto (-26), 3) := by decide +kernel
theorem dX0_membersOf_33 : decode cX0_membersOf 33 = .ok (.iload_n 2, 1) := by decide +kernel
theorem dX0_membersOf_34 : decode cX0_membersOf 34 = .ok (.ireturn, 1) := by decide +kernel
theorem dX0_groupCount_0 : decode cX0_groupCount 0 = .ok (.iconst 0, 1) := by decide +kernel
theorem dX0_groupCount_1 : decode cX0_groupCount 1 = .ok (.istore_n 1, 1) := by decide +kernel
theorem dX0_groupCount_2 : decode cX0_groupCount 2 = .ok (.iconst 0, 1) := by decide +kernel
theorem dX0_groupCount_3 : decode cX0_groupCount 3 = .ok (.istore_n 2, 1) := by decide +kernel
theorem dX0_groupCount_4 : decode cX0_groupCount 4 = .ok (.iload_n 2, 1) := by decide +kernel
theorem dX0_groupCount_5 : decode cX0_groupCount 5 = .ok (.bipush 10, 2) := by decide +kernel
theorem dX0_groupCount_7 : decode cX0_groupCount 7 = .ok (.if_icmp .ge 30, 3) := by decide +kernel
theorem dX0_groupCount_10 : decode cX0_groupCount 10 = .ok (.iload_n 1, 1) := by decide +kernel
theorem dX0_groupCount_11 : decode cX0_groupCount 11 = .ok (.aload_n 0, 1) := by decide +kernel
theorem dX0_groupCount_12 : decode cX0_groupCount 12 = .ok (.getfield 9, 3) := by decide +kernel
theorem dX0_groupCount_15 : decode cX0_groupCount 15 = .ok (.iload_n 2, 1) := by decide +kernel
theorem dX0_groupCount_16 : decode cX0_groupCount 16 = .ok (.iaload, 1) := by decide +kernel
theorem dX0_groupCount_17 : decode cX0_groupCount 17 = .ok (.iload_n 2, 1) := by decide +kernel
theorem dX0_groupCount_18 : decode cX0_groupCount 18 = .ok (.if_icmp .ne 7, 3) := by decide +kernel
theorem dX0_groupCount_21 : decode cX0_groupCount 21 = .ok (.iconst 1, 1) := by decide +kernel
theorem dX0_groupCount_22 : decode cX0_groupCount 22 = .ok (.goto 4, 3) := by decide +kernel
theorem dX0_groupCount_25 : decode cX0_groupCount 25 = .ok (.iconst 0, 1) := by decide +kernel
theorem dX0_groupCount_26 : decode cX0_groupCount 26 = .ok (.invokestatic 25, 3) := by decide +kernel
theorem dX0_groupCount_29 : decode cX0_groupCount 29 = .ok (.iadd, 1) := by decide +kernel
theorem dX0_groupCount_30 : decode cX0_groupCount 30 = .ok (.istore_n 1, 1) := by decide +kernel
theorem dX0_groupCount_31 : decode cX0_groupCount 31 = .ok (.iinc 2 1, 3) := by decide +kernel
theorem dX0_groupCount_34 : decode cX0_groupCount 34 = .ok (.goto (-30), 3) := by decide +kernel
theorem dX0_groupCount_37 : decode cX0_groupCount 37 = .ok (.iload_n 1, 1) := by decide +kernel
theorem dX0_groupCount_38 : decode cX0_groupCount 38 = .ok (.ireturn, 1) := by decide +kernel
theorem dX0_pointingCount_0 : decode cX0_pointingCount 0 = .ok (.iconst 0, 1) := by decide +kernel
theorem dX0_pointingCount_1 : decode cX0_pointingCount 1 = .ok (.istore_n 1, 1) := by decide +kernel
theorem dX0_pointingCount_2 : decode cX0_pointingCount 2 = .ok (.iconst 0, 1) := by decide +kernel
theorem dX0_pointingCount_3 : decode cX0_pointingCount 3 = .ok (.istore_n 2, 1) := by decide +kernel
theorem dX0_pointingCount_4 : decode cX0_pointingCount 4 = .ok (.iload_n 2, 1) := by decide +kernel
theorem dX0_pointingCount_5 : decode cX0_pointingCount 5 = .ok (.bipush 10, 2) := by decide +kernel
theorem dX0_pointingCount_7 : decode cX0_pointingCount 7 = .ok (.if_icmp .ge 30, 3) := by decide +kernel
theorem dX0_pointingCount_10 : decode cX0_pointingCount 10 = .ok (.iload_n 1, 1) := by decide +kernel
theorem dX0_pointingCount_11 : decode cX0_pointingCount 11 = .ok (.aload_n 0, 1) := by decide +kernel
theorem dX0_pointingCount_12 : decode cX0_pointingCount 12 = .ok (.getfield 15, 3) := by decide +kernel
theorem dX0_pointingCount_15 : decode cX0_pointingCount 15 = .ok (.iload_n 2, 1) := by decide +kernel
theorem dX0_pointingCount_16 : decode cX0_pointingCount 16 = .ok (.iaload, 1) := by decide +kernel
theorem dX0_pointingCount_17 : decode cX0_pointingCount 17 = .ok (.iconst (-1), 1) := by decide +kernel
theorem dX0_pointingCount_18 : decode cX0_pointingCount 18 = .ok (.if_icmp .eq 7, 3) := by decide +kernel
theorem dX0_pointingCount_21 : decode cX0_pointingCount 21 = .ok (.iconst 1, 1) := by decide +kernel
theorem dX0_pointingCount_22 : decode cX0_pointingCount 22 = .ok (.goto 4, 3) := by decide +kernel
theorem dX0_pointingCount_25 : decode cX0_pointingCount 25 = .ok (.iconst 0, 1) := by decide +kernel
theorem dX0_pointingCount_26 : decode cX0_pointingCount 26 = .ok (.invokestatic 25, 3) := by decide +kernel
theorem dX0_pointingCount_29 : decode cX0_pointingCount 29 = .ok (.iadd, 1) := by decide +kernel
theorem dX0_pointingCount_30 : decode cX0_pointingCount 30 = .ok (.istore_n 1, 1) := by decide +kernel
theorem dX0_pointingCount_31 : decode cX0_pointingCount 31 = .ok (.iinc 2 1, 3) := by decide +kernel
theorem dX0_pointingCount_34 : decode cX0_pointingCount 34 = .ok (.goto (-30), 3) := by decide +kernel
theorem dX0_pointingCount_37 : decode cX0_pointingCount 37 = .ok (.iload_n 1, 1) := by decide +kernel
theorem dX0_pointingCount_38 : decode cX0_pointingCount 38 = .ok (.ireturn, 1) := by decide +kernel
theorem dX0_selfPointingCount_0 : decode cX0_selfPointingCount 0 = .ok (.iconst 0, 1) := by decide +kernel
theorem dX0_selfPointingCount_1 : decode cX0_selfPointingCount 1 = .ok (.istore_n 1, 1) := by decide +kernel
theorem dX0_selfPointingCount_2 : decode cX0_selfPointingCount 2 = .ok (.iconst 0, 1) := by decide +kernel
theorem dX0_selfPointingCount_3 : decode cX0_selfPointingCount 3 = .ok (.istore_n 2, 1) := by decide +kernel
theorem dX0_selfPointingCount_4 : decode cX0_selfPointingCount 4 = .ok (.iload_n 2, 1) := by decide +kernel
theorem dX0_selfPointingCount_5 : decode cX0_selfPointingCount 5 = .ok (.bipush 10, 2) := by decide +kernel
theorem dX0_selfPointingCount_7 : decode cX0_selfPointingCount 7 = .ok (.if_icmp .ge 30, 3) := by decide +kernel
theorem dX0_selfPointingCount_10 : decode cX0_selfPointingCount 10 = .ok (.iload_n 1, 1) := by decide +kernel
theorem dX0_selfPointingCount_11 : decode cX0_selfPointingCount 11 = .ok (.aload_n 0, 1) := by decide +kernel
theorem dX0_selfPointingCount_12 : decode cX0_selfPointingCount 12 = .ok (.getfield 15, 3) := by decide +kernel
theorem dX0_selfPointingCount_15 : decode cX0_selfPointingCount 15 = .ok (.iload_n 2, 1) := by decide +kernel
theorem dX0_selfPointingCount_16 : decode cX0_selfPointingCount 16 = .ok (.iaload, 1) := by decide +kernel
theorem dX0_selfPointingCount_17 : decode cX0_selfPointingCount 17 = .ok (.iload_n 2, 1) := by decide +kernel
theorem dX0_selfPointingCount_18 : decode cX0_selfPointingCount 18 = .ok (.if_icmp .ne 7, 3) := by decide +kernel
theorem dX0_selfPointingCount_21 : decode cX0_selfPointingCount 21 = .ok (.iconst 1, 1) := by decide +kernel
theorem dX0_selfPointingCount_22 : decode cX0_selfPointingCount 22 = .ok (.goto 4, 3) := by decide +kernel
theorem dX0_selfPointingCount_25 : decode cX0_selfPointingCount 25 = .ok (.iconst 0, 1) := by decide +kernel
theorem dX0_selfPointingCount_26 : decode cX0_selfPointingCount 26 = .ok (.invokestatic 25, 3) := by decide +kernel
theorem dX0_selfPointingCount_29 : decode cX0_selfPointingCount 29 = .ok (.iadd, 1) := by decide +kernel
theorem dX0_selfPointingCount_30 : decode cX0_selfPointingCount 30 = .ok (.istore_n 1, 1) := by decide +kernel
theorem dX0_selfPointingCount_31 : decode cX0_selfPointingCount 31 = .ok (.iinc 2 1, 3) := by decide +kernel
theorem dX0_selfPointingCount_34 : decode cX0_selfPointingCount 34 = .ok (.goto (-30), 3) := by decide +kernel
theorem dX0_selfPointingCount_37 : decode cX0_selfPointingCount 37 = .ok (.iload_n 1, 1) := by decide +kernel
theorem dX0_selfPointingCount_38 : decode cX0_selfPointingCount 38 = .ok (.ireturn, 1) := by decide +kernel
theorem dX0_total_0 : decode cX0_total 0 = .ok (.iconst 0, 1) := by decide +kernel
theorem dX0_total_1 : decode cX0_total 1 = .ok (.istore_n 1, 1) := by decide +kernel
theorem dX0_total_2 : decode cX0_total 2 = .ok (.iconst 0, 1) := by decide +kernel
theorem dX0_total_3 : decode cX0_total 3 = .ok (.istore_n 2, 1) := by decide +kernel
theorem dX0_total_4 : decode cX0_total 4 = .ok (.iload_n 2, 1) := by decide +kernel
theorem dX0_total_5 : decode cX0_total 5 = .ok (.bipush 10, 2) := by decide +kernel
theorem dX0_total_7 : decode cX0_total 7 = .ok (.if_icmp .ge 20, 3) := by decide +kernel
theorem dX0_total_10 : decode cX0_total 10 = .ok (.iload_n 1, 1) := by decide +kernel
theorem dX0_total_11 : decode cX0_total 11 = .ok (.aload_n 0, 1) := by decide +kernel
theorem dX0_total_12 : decode cX0_total 12 = .ok (.iload_n 2, 1) := by decide +kernel
theorem dX0_total_13 : decode cX0_total 13 = .ok (.invokevirtual 29, 3) := by decide +kernel
theorem dX0_total_16 : decode cX0_total 16 = .ok (.invokestatic 32, 3) := by decide +kernel
theorem dX0_total_19 : decode cX0_total 19 = .ok (.iadd, 1) := by decide +kernel
theorem dX0_total_20 : decode cX0_total 20 = .ok (.istore_n 1, 1) := by decide +kernel
theorem dX0_total_21 : decode cX0_total 21 = .ok (.iinc 2 1, 3) := by decide +kernel
theorem dX0_total_24 : decode cX0_total 24 = .ok (.goto (-20), 3) := by decide +kernel
theorem dX0_total_27 : decode cX0_total 27 = .ok (.iload_n 1, 1) := by decide +kernel
theorem dX0_total_28 : decode cX0_total 28 = .ok (.ireturn, 1) := by decide +kernel
theorem dX0_solve_0 : decode cX0_solve 0 = .ok (.iconst 0, 1) := by decide +kernel
theorem dX0_solve_1 : decode cX0_solve 1 = .ok (.istore_n 3, 1) := by decide +kernel
theorem dX0_solve_2 : decode cX0_solve 2 = .ok (.iload_n 3, 1) := by decide +kernel
theorem dX0_solve_3 : decode cX0_solve 3 = .ok (.bipush 10, 2) := by decide +kernel
theorem dX0_solve_5 : decode cX0_solve 5 = .ok (.if_icmp .ge 23, 3) := by decide +kernel
theorem dX0_solve_8 : decode cX0_solve 8 = .ok (.aload_n 0, 1) := by decide +kernel
theorem dX0_solve_9 : decode cX0_solve 9 = .ok (.getfield 9, 3) := by decide +kernel
theorem dX0_solve_12 : decode cX0_solve 12 = .ok (.iload_n 3, 1) := by decide +kernel
theorem dX0_solve_13 : decode cX0_solve 13 = .ok (.iload_n 3, 1) := by decide +kernel
theorem dX0_solve_14 : decode cX0_solve 14 = .ok (.iastore, 1) := by decide +kernel
theorem dX0_solve_15 : decode cX0_solve 15 = .ok (.aload_n 0, 1) := by decide +kernel
theorem dX0_solve_16 : decode cX0_solve 16 = .ok (.getfield 15, 3) := by decide +kernel
theorem dX0_solve_19 : decode cX0_solve 19 = .ok (.iload_n 3, 1) := by decide +kernel
theorem dX0_solve_20 : decode cX0_solve 20 = .ok (.iconst (-1), 1) := by decide +kernel
theorem dX0_solve_21 : decode cX0_solve 21 = .ok (.iastore, 1) := by decide +kernel
theorem dX0_solve_22 : decode cX0_solve 22 = .ok (.iinc 3 1, 3) := by decide +kernel
theorem dX0_solve_25 : decode cX0_solve 25 = .ok (.goto (-23), 3) := by decide +kernel
theorem dX0_solve_28 : decode cX0_solve 28 = .ok (.iconst 1, 1) := by decide +kernel
theorem dX0_solve_29 : decode cX0_solve 29 = .ok (.istore_n 3, 1) := by decide +kernel
theorem dX0_solve_30 : decode cX0_solve 30 = .ok (.iconst 0, 1) := by decide +kernel
theorem dX0_solve_31 : decode cX0_solve 31 = .ok (.istore 4, 2) := by decide +kernel
theorem dX0_solve_33 : decode cX0_solve 33 = .ok (.iload 4, 2) := by decide +kernel
theorem dX0_solve_35 : decode cX0_solve 35 = .ok (.bipush 20, 2) := by decide +kernel
theorem dX0_solve_37 : decode cX0_solve 37 = .ok (.if_icmp .gt 51, 3) := by decide +kernel
theorem dX0_solve_40 : decode cX0_solve 40 = .ok (.iload_n 3, 1) := by decide +kernel
theorem dX0_solve_41 : decode cX0_solve 41 = .ok (.ifCond .eq 47, 3) := by decide +kernel
theorem dX0_solve_44 : decode cX0_solve 44 = .ok (.iconst 0, 1) := by decide +kernel
theorem dX0_solve_45 : decode cX0_solve 45 = .ok (.istore_n 3, 1) := by decide +kernel
theorem dX0_solve_46 : decode cX0_solve 46 = .ok (.iconst 0, 1) := by decide +kernel
theorem dX0_solve_47 : decode cX0_solve 47 = .ok (.istore 5, 2) := by decide +kernel
theorem dX0_solve_49 : decode cX0_solve 49 = .ok (.iload 5, 2) := by decide +kernel
theorem dX0_solve_51 : decode cX0_solve 51 = .ok (.aload_n 1, 1) := by decide +kernel
theorem dX0_solve_52 : decode cX0_solve 52 = .ok (.invokevirtual 37, 3) := by decide +kernel
theorem dX0_solve_55 : decode cX0_solve 55 = .ok (.if_icmp .ge 27, 3) := by decide +kernel
theorem dX0_solve_58 : decode cX0_solve 58 = .ok (.iload 5, 2) := by decide +kernel
theorem dX0_solve_60 : decode cX0_solve 60 = .ok (.iload_n 2, 1) := by decide +kernel
theorem dX0_solve_61 : decode cX0_solve 61 = .ok (.if_icmp .eq 15, 3) := by decide +kernel
theorem dX0_solve_64 : decode cX0_solve 64 = .ok (.aload_n 0, 1) := by decide +kernel
theorem dX0_solve_65 : decode cX0_solve 65 = .ok (.aload_n 1, 1) := by decide +kernel
theorem dX0_solve_66 : decode cX0_solve 66 = .ok (.iload 5, 2) := by decide +kernel
theorem dX0_solve_68 : decode cX0_solve 68 = .ok (.invokevirtual 43, 3) := by decide +kernel
theorem dX0_solve_71 : decode cX0_solve 71 = .ok (.ifCond .eq 5, 3) := by decide +kernel
theorem dX0_solve_74 : decode cX0_solve 74 = .ok (.iconst 1, 1) := by decide +kernel
theorem dX0_solve_75 : decode cX0_solve 75 = .ok (.istore_n 3, 1) := by decide +kernel
theorem dX0_solve_76 : decode cX0_solve 76 = .ok (.iinc 5 1, 3) := by decide +kernel
theorem dX0_solve_79 : decode cX0_solve 79 = .ok (.goto (-30), 3) := by decide +kernel
theorem dX0_solve_82 : decode cX0_solve 82 = .ok (.iinc 4 1, 3) := by decide +kernel
theorem dX0_solve_85 : decode cX0_solve 85 = .ok (.goto (-52), 3) := by decide +kernel
theorem dX0_solve_88 : decode cX0_solve 88 = .ok (.return_, 1) := by decide +kernel
theorem dX0_apply_0 : decode cX0_apply 0 = .ok (.aload_n 0, 1) := by decide +kernel
theorem dX0_apply_1 : decode cX0_apply 1 = .ok (.getfield 9, 3) := by decide +kernel
theorem dX0_apply_4 : decode cX0_apply 4 = .ok (.aload_n 1, 1) := by decide +kernel
theorem dX0_apply_5 : decode cX0_apply 5 = .ok (.iload_n 2, 1) := by decide +kernel
theorem dX0_apply_6 : decode cX0_apply 6 = .ok (.invokevirtual 47, 3) := by decide +kernel
theorem dX0_apply_9 : decode cX0_apply 9 = .ok (.iaload, 1) := by decide +kernel
theorem dX0_apply_10 : decode cX0_apply 10 = .ok (.istore_n 3, 1) := by decide +kernel
theorem dX0_apply_11 : decode cX0_apply 11 = .ok (.aload_n 0, 1) := by decide +kernel
theorem dX0_apply_12 : decode cX0_apply 12 = .ok (.getfield 9, 3) := by decide +kernel
theorem dX0_apply_15 : decode cX0_apply 15 = .ok (.aload_n 1, 1) := by decide +kernel
theorem dX0_apply_16 : decode cX0_apply 16 = .ok (.iload_n 2, 1) := by decide +kernel
theorem dX0_apply_17 : decode cX0_apply 17 = .ok (.invokevirtual 50, 3) := by decide +kernel
theorem dX0_apply_20 : decode cX0_apply 20 = .ok (.iaload, 1) := by decide +kernel
theorem dX0_apply_21 : decode cX0_apply 21 = .ok (.istore 4, 2) := by decide +kernel
theorem dX0_apply_23 : decode cX0_apply 23 = .ok (.aload_n 1, 1) := by decide +kernel
theorem dX0_apply_24 : decode cX0_apply 24 = .ok (.iload_n 2, 1) := by decide +kernel
theorem dX0_apply_25 : decode cX0_apply 25 = .ok (.invokevirtual 53, 3) := by decide +kernel
theorem dX0_apply_28 : decode cX0_apply 28 = .ok (.tableswitch 66 0 2 #[28, 36, 49], 28) := by decide +kernel
theorem dX0_apply_56 : decode cX0_apply 56 = .ok (.aload_n 0, 1) := by decide +kernel
theorem dX0_apply_57 : decode cX0_apply 57 = .ok (.iload_n 3, 1) := by decide +kernel
theorem dX0_apply_58 : decode cX0_apply 58 = .ok (.iload 4, 2) := by decide +kernel
theorem dX0_apply_60 : decode cX0_apply 60 = .ok (.invokevirtual 56, 3) := by decide +kernel
theorem dX0_apply_63 : decode cX0_apply 63 = .ok (.ireturn, 1) := by decide +kernel
theorem dX0_apply_64 : decode cX0_apply 64 = .ok (.aload_n 0, 1) := by decide +kernel
theorem dX0_apply_65 : decode cX0_apply 65 = .ok (.iload_n 3, 1) := by decide +kernel
theorem dX0_apply_66 : decode cX0_apply 66 = .ok (.aload_n 0, 1) := by decide +kernel
theorem dX0_apply_67 : decode cX0_apply 67 = .ok (.getfield 15, 3) := by decide +kernel
theorem dX0_apply_70 : decode cX0_apply 70 = .ok (.iload 4, 2) := by decide +kernel
theorem dX0_apply_72 : decode cX0_apply 72 = .ok (.iaload, 1) := by decide +kernel
theorem dX0_apply_73 : decode cX0_apply 73 = .ok (.invokevirtual 56, 3) := by decide +kernel
theorem dX0_apply_76 : decode cX0_apply 76 = .ok (.ireturn, 1) := by decide +kernel
theorem dX0_apply_77 : decode cX0_apply 77 = .ok (.aload_n 0, 1) := by decide +kernel
theorem dX0_apply_78 : decode cX0_apply 78 = .ok (.iload_n 3, 1) := by decide +kernel
theorem dX0_apply_79 : decode cX0_apply 79 = .ok (.aload_n 0, 1) := by decide +kernel
theorem dX0_apply_80 : decode cX0_apply 80 = .ok (.aload_n 0, 1) := by decide +kernel
theorem dX0_apply_81 : decode cX0_apply 81 = .ok (.getfield 15, 3) := by decide +kernel
theorem dX0_apply_84 : decode cX0_apply 84 = .ok (.iload 4, 2) := by decide +kernel
theorem dX0_apply_86 : decode cX0_apply 86 = .ok (.iaload, 1) := by decide +kernel
theorem dX0_apply_87 : decode cX0_apply 87 = .ok (.invokevirtual 60, 3) := by decide +kernel
theorem dX0_apply_90 : decode cX0_apply 90 = .ok (.invokevirtual 56, 3) := by decide +kernel
theorem dX0_apply_93 : decode cX0_apply 93 = .ok (.ireturn, 1) := by decide +kernel
theorem dX0_apply_94 : decode cX0_apply 94 = .ok (.aload_n 0, 1) := by decide +kernel
theorem dX0_apply_95 : decode cX0_apply 95 = .ok (.aload_n 0, 1) := by decide +kernel
theorem dX0_apply_96 : decode cX0_apply 96 = .ok (.getfield 15, 3) := by decide +kernel
theorem dX0_apply_99 : decode cX0_apply 99 = .ok (.iload_n 3, 1) := by decide +kernel
theorem dX0_apply_100 : decode cX0_apply 100 = .ok (.iaload, 1) := by decide +kernel
theorem dX0_apply_101 : decode cX0_apply 101 = .ok (.aload_n 0, 1) := by decide +kernel
theorem dX0_apply_102 : decode cX0_apply 102 = .ok (.getfield 15, 3) := by decide +kernel
theorem dX0_apply_105 : decode cX0_apply 105 = .ok (.iload 4, 2) := by decide +kernel
theorem dX0_apply_107 : decode cX0_apply 107 = .ok (.iaload, 1) := by decide +kernel
theorem dX0_apply_108 : decode cX0_apply 108 = .ok (.invokevirtual 56, 3) := by decide +kernel
theorem dX0_apply_111 : decode cX0_apply 111 = .ok (.ireturn, 1) := by decide +kernel
theorem dX0_point_0 : decode cX0_point 0 = .ok (.iload_n 1, 1) := by decide +kernel
theorem dX0_point_1 : decode cX0_point 1 = .ok (.iconst (-1), 1) := by decide +kernel
theorem dX0_point_2 : decode cX0_point 2 = .ok (.if_icmp .eq 18, 3) := by decide +kernel
theorem dX0_point_5 : decode cX0_point 5 = .ok (.iload_n 2, 1) := by decide +kernel
theorem dX0_point_6 : decode cX0_point 6 = .ok (.iconst (-1), 1) := by decide +kernel
theorem dX0_point_7 : decode cX0_point 7 = .ok (.if_icmp .eq 13, 3) := by decide +kernel
theorem dX0_point_10 : decode cX0_point 10 = .ok (.aload_n 0, 1) := by decide +kernel
theorem dX0_point_11 : decode cX0_point 11 = .ok (.getfield 15, 3) := by decide +kernel
theorem dX0_point_14 : decode cX0_point 14 = .ok (.iload_n 1, 1) := by decide +kernel
theorem dX0_point_15 : decode cX0_point 15 = .ok (.iaload, 1) := by decide +kernel
theorem dX0_point_16 : decode cX0_point 16 = .ok (.iload_n 2, 1) := by decide +kernel
theorem dX0_point_17 : decode cX0_point 17 = .ok (.if_icmp .ne 5, 3) := by decide +kernel
theorem dX0_point_20 : decode cX0_point 20 = .ok (.iconst 0, 1) := by decide +kernel
theorem dX0_point_21 : decode cX0_point 21 = .ok (.ireturn, 1) := by decide +kernel
theorem dX0_point_22 : decode cX0_point 22 = .ok (.aload_n 0, 1) := by decide +kernel
theorem dX0_point_23 : decode cX0_point 23 = .ok (.getfield 15, 3) := by decide +kernel
theorem dX0_point_26 : decode cX0_point 26 = .ok (.iload_n 1, 1) := by decide +kernel
theorem dX0_point_27 : decode cX0_point 27 = .ok (.iaload, 1) := by decide +kernel
theorem dX0_point_28 : decode cX0_point 28 = .ok (.iconst (-1), 1) := by decide +kernel
theorem dX0_point_29 : decode cX0_point 29 = .ok (.if_icmp .ne 13, 3) := by decide +kernel
theorem dX0_point_32 : decode cX0_point 32 = .ok (.aload_n 0, 1) := by decide +kernel
theorem dX0_point_33 : decode cX0_point 33 = .ok (.getfield 15, 3) := by decide +kernel
theorem dX0_point_36 : decode cX0_point 36 = .ok (.iload_n 1, 1) := by decide +kernel
theorem dX0_point_37 : decode cX0_point 37 = .ok (.iload_n 2, 1) := by decide +kernel
theorem dX0_point_38 : decode cX0_point 38 = .ok (.iastore, 1) := by decide +kernel
theorem dX0_point_39 : decode cX0_point 39 = .ok (.goto 14, 3) := by decide +kernel
theorem dX0_point_42 : decode cX0_point 42 = .ok (.aload_n 0, 1) := by decide +kernel
theorem dX0_point_43 : decode cX0_point 43 = .ok (.aload_n 0, 1) := by decide +kernel
theorem dX0_point_44 : decode cX0_point 44 = .ok (.getfield 15, 3) := by decide +kernel
theorem dX0_point_47 : decode cX0_point 47 = .ok (.iload_n 1, 1) := by decide +kernel
theorem dX0_point_48 : decode cX0_point 48 = .ok (.iaload, 1) := by decide +kernel
theorem dX0_point_49 : decode cX0_point 49 = .ok (.iload_n 2, 1) := by decide +kernel
theorem dX0_point_50 : decode cX0_point 50 = .ok (.invokevirtual 63, 3) := by decide +kernel
theorem dX0_point_53 : decode cX0_point 53 = .ok (.iconst 1, 1) := by decide +kernel
theorem dX0_point_54 : decode cX0_point 54 = .ok (.ireturn, 1) := by decide +kernel
theorem dX0_join_0 : decode cX0_join 0 = .ok (.iload_n 1, 1) := by decide +kernel
theorem dX0_join_1 : decode cX0_join 1 = .ok (.istore_n 3, 1) := by decide +kernel
theorem dX0_join_2 : decode cX0_join 2 = .ok (.iload_n 2, 1) := by decide +kernel
theorem dX0_join_3 : decode cX0_join 3 = .ok (.istore 4, 2) := by decide +kernel
theorem dX0_join_5 : decode cX0_join 5 = .ok (.iconst 0, 1) := by decide +kernel
theorem dX0_join_6 : decode cX0_join 6 = .ok (.istore 5, 2) := by decide +kernel
theorem dX0_join_8 : decode cX0_join 8 = .ok (.iload 5, 2) := by decide +kernel
theorem dX0_join_10 : decode cX0_join 10 = .ok (.bipush 10, 2) := by decide +kernel
theorem dX0_join_12 : decode cX0_join 12 = .ok (.if_icmp .ge 89, 3) := by decide +kernel
theorem dX0_join_15 : decode cX0_join 15 = .ok (.iload_n 3, 1) := by decide +kernel
theorem dX0_join_16 : decode cX0_join 16 = .ok (.iload 4, 2) := by decide +kernel
theorem dX0_join_18 : decode cX0_join 18 = .ok (.if_icmp .eq 83, 3) := by decide +kernel
theorem dX0_join_21 : decode cX0_join 21 = .ok (.iload_n 3, 1) := by decide +kernel
theorem dX0_join_22 : decode cX0_join 22 = .ok (.iconst (-1), 1) := by decide +kernel
theorem dX0_join_23 : decode cX0_join 23 = .ok (.if_icmp .eq 78, 3) := by decide +kernel
theorem dX0_join_26 : decode cX0_join 26 = .ok (.iload 4, 2) := by decide +kernel
theorem dX0_join_28 : decode cX0_join 28 = .ok (.iconst (-1), 1) := by decide +kernel
theorem dX0_join_29 : decode cX0_join 29 = .ok (.if_icmp .eq 72, 3) := by decide +kernel
theorem dX0_join_32 : decode cX0_join 32 = .ok (.iload_n 3, 1) := by decide +kernel
theorem dX0_join_33 : decode cX0_join 33 = .ok (.iload 4, 2) := by decide +kernel
theorem dX0_join_35 : decode cX0_join 35 = .ok (.invokestatic 67, 3) := by decide +kernel
theorem dX0_join_38 : decode cX0_join 38 = .ok (.istore 6, 2) := by decide +kernel
theorem dX0_join_40 : decode cX0_join 40 = .ok (.iload_n 3, 1) := by decide +kernel
theorem dX0_join_41 : decode cX0_join 41 = .ok (.iload 4, 2) := by decide +kernel
theorem dX0_join_43 : decode cX0_join 43 = .ok (.invokestatic 73, 3) := by decide +kernel
theorem dX0_join_46 : decode cX0_join 46 = .ok (.istore 7, 2) := by decide +kernel
theorem dX0_join_48 : decode cX0_join 48 = .ok (.aload_n 0, 1) := by decide +kernel
theorem dX0_join_49 : decode cX0_join 49 = .ok (.iload 7, 2) := by decide +kernel
theorem dX0_join_51 : decode cX0_join 51 = .ok (.iload 6, 2) := by decide +kernel
theorem dX0_join_53 : decode cX0_join 53 = .ok (.invokevirtual 76, 3) := by decide +kernel
theorem dX0_join_56 : decode cX0_join 56 = .ok (.aload_n 0, 1) := by decide +kernel
theorem dX0_join_57 : decode cX0_join 57 = .ok (.getfield 15, 3) := by decide +kernel
theorem dX0_join_60 : decode cX0_join 60 = .ok (.iload 6, 2) := by decide +kernel
theorem dX0_join_62 : decode cX0_join 62 = .ok (.iaload, 1) := by decide +kernel
theorem dX0_join_63 : decode cX0_join 63 = .ok (.istore_n 3, 1) := by decide +kernel
theorem dX0_join_64 : decode cX0_join 64 = .ok (.aload_n 0, 1) := by decide +kernel
theorem dX0_join_65 : decode cX0_join 65 = .ok (.getfield 15, 3) := by decide +kernel
theorem dX0_join_68 : decode cX0_join 68 = .ok (.iload 7, 2) := by decide +kernel
theorem dX0_join_70 : decode cX0_join 70 = .ok (.iaload, 1) := by decide +kernel
theorem dX0_join_71 : decode cX0_join 71 = .ok (.istore 4, 2) := by decide +kernel
theorem dX0_join_73 : decode cX0_join 73 = .ok (.aload_n 0, 1) := by decide +kernel
theorem dX0_join_74 : decode cX0_join 74 = .ok (.getfield 15, 3) := by decide +kernel
theorem dX0_join_77 : decode cX0_join 77 = .ok (.iload 7, 2) := by decide +kernel
theorem dX0_join_79 : decode cX0_join 79 = .ok (.iconst (-1), 1) := by decide +kernel
theorem dX0_join_80 : decode cX0_join 80 = .ok (.iastore, 1) := by decide +kernel
theorem dX0_join_81 : decode cX0_join 81 = .ok (.iload_n 3, 1) := by decide +kernel
theorem dX0_join_82 : decode cX0_join 82 = .ok (.iconst (-1), 1) := by decide +kernel
theorem dX0_join_83 : decode cX0_join 83 = .ok (.if_icmp .ne 12, 3) := by decide +kernel
theorem dX0_join_86 : decode cX0_join 86 = .ok (.aload_n 0, 1) := by decide +kernel
theorem dX0_join_87 : decode cX0_join 87 = .ok (.getfield 15, 3) := by decide +kernel
theorem dX0_join_90 : decode cX0_join 90 = .ok (.iload 6, 2) := by decide +kernel
theorem dX0_join_92 : decode cX0_join 92 = .ok (.iload 4, 2) := by decide +kernel
theorem dX0_join_94 : decode cX0_join 94 = .ok (.iastore, 1) := by decide +kernel
theorem dX0_join_95 : decode cX0_join 95 = .ok (.iinc 5 1, 3) := by decide +kernel
theorem dX0_join_98 : decode cX0_join 98 = .ok (.goto (-90), 3) := by decide +kernel
theorem dX0_join_101 : decode cX0_join 101 = .ok (.return_, 1) := by decide +kernel
theorem dX0_rename_0 : decode cX0_rename 0 = .ok (.iconst 0, 1) := by decide +kernel
theorem dX0_rename_1 : decode cX0_rename 1 = .ok (.istore_n 3, 1) := by decide +kernel
theorem dX0_rename_2 : decode cX0_rename 2 = .ok (.iload_n 3, 1) := by decide +kernel
theorem dX0_rename_3 : decode cX0_rename 3 = .ok (.bipush 10, 2) := by decide +kernel
theorem dX0_rename_5 : decode cX0_rename 5 = .ok (.if_icmp .ge 43, 3) := by decide +kernel
theorem dX0_rename_8 : decode cX0_rename 8 = .ok (.aload_n 0, 1) := by decide +kernel
theorem dX0_rename_9 : decode cX0_rename 9 = .ok (.getfield 9, 3) := by decide +kernel
theorem dX0_rename_12 : decode cX0_rename 12 = .ok (.iload_n 3, 1) := by decide +kernel
theorem dX0_rename_13 : decode cX0_rename 13 = .ok (.iaload, 1) := by decide +kernel
theorem dX0_rename_14 : decode cX0_rename 14 = .ok (.iload_n 1, 1) := by decide +kernel
theorem dX0_rename_15 : decode cX0_rename 15 = .ok (.if_icmp .ne 10, 3) := by decide +kernel
theorem dX0_rename_18 : decode cX0_rename 18 = .ok (.aload_n 0, 1) := by decide +kernel
theorem dX0_rename_19 : decode cX0_rename 19 = .ok (.getfield 9, 3) := by decide +kernel
theorem dX0_rename_22 : decode cX0_rename 22 = .ok (.iload_n 3, 1) := by decide +kernel
theorem dX0_rename_23 : decode cX0_rename 23 = .ok (.iload_n 2, 1) := by decide +kernel
theorem dX0_rename_24 : decode cX0_rename 24 = .ok (.iastore, 1) := by decide +kernel
theorem dX0_rename_25 : decode cX0_rename 25 = .ok (.aload_n 0, 1) := by decide +kernel
theorem dX0_rename_26 : decode cX0_rename 26 = .ok (.getfield 15, 3) := by decide +kernel
theorem dX0_rename_29 : decode cX0_rename 29 = .ok (.iload_n 3, 1) := by decide +kernel
theorem dX0_rename_30 : decode cX0_rename 30 = .ok (.iaload, 1) := by decide +kernel
theorem dX0_rename_31 : decode cX0_rename 31 = .ok (.iload_n 1, 1) := by decide +kernel
theorem dX0_rename_32 : decode cX0_rename 32 = .ok (.if_icmp .ne 10, 3) := by decide +kernel
theorem dX0_rename_35 : decode cX0_rename 35 = .ok (.aload_n 0, 1) := by decide +kernel
theorem dX0_rename_36 : decode cX0_rename 36 = .ok (.getfield 15, 3) := by decide +kernel
theorem dX0_rename_39 : decode cX0_rename 39 = .ok (.iload_n 3, 1) := by decide +kernel
theorem dX0_rename_40 : decode cX0_rename 40 = .ok (.iload_n 2, 1) := by decide +kernel
theorem dX0_rename_41 : decode cX0_rename 41 = .ok (.iastore, 1) := by decide +kernel
theorem dX0_rename_42 : decode cX0_rename 42 = .ok (.iinc 3 1, 3) := by decide +kernel
theorem dX0_rename_45 : decode cX0_rename 45 = .ok (.goto (-43), 3) := by decide +kernel
theorem dX0_rename_48 : decode cX0_rename 48 = .ok (.return_, 1) := by decide +kernel
theorem dX1_init_0 : decode cX1_init 0 = .ok (.aload_n 0, 1) := by decide +kernel
theorem dX1_init_1 : decode cX1_init 1 = .ok (.invokespecial 3, 3) := by decide +kernel
theorem dX1_init_4 : decode cX1_init 4 = .ok (.aload_n 0, 1) := by decide +kernel
theorem dX1_init_5 : decode cX1_init 5 = .ok (.bipush 10, 2) := by decide +kernel
theorem dX1_init_7 : decode cX1_init 7 = .ok (.newarray .int, 2) := by decide +kernel
theorem dX1_init_9 : decode cX1_init 9 = .ok (.putfield 9, 3) := by decide +kernel
theorem dX1_init_12 : decode cX1_init 12 = .ok (.return_, 1) := by decide +kernel
theorem dX1_setOf_0 : decode cX1_setOf 0 = .ok (.aload_n 0, 1) := by decide +kernel
theorem dX1_setOf_1 : decode cX1_setOf 1 = .ok (.getfield 9, 3) := by decide +kernel
theorem dX1_setOf_4 : decode cX1_setOf 4 = .ok (.iload_n 1, 1) := by decide +kernel
theorem dX1_setOf_5 : decode cX1_setOf 5 = .ok (.iaload, 1) := by decide +kernel
theorem dX1_setOf_6 : decode cX1_setOf 6 = .ok (.ireturn, 1) := by decide +kernel
theorem dX1_total_0 : decode cX1_total 0 = .ok (.iconst 0, 1) := by decide +kernel
theorem dX1_total_1 : decode cX1_total 1 = .ok (.istore_n 1, 1) := by decide +kernel
theorem dX1_total_2 : decode cX1_total 2 = .ok (.iconst 0, 1) := by decide +kernel
theorem dX1_total_3 : decode cX1_total 3 = .ok (.istore_n 2, 1) := by decide +kernel
theorem dX1_total_4 : decode cX1_total 4 = .ok (.iload_n 2, 1) := by decide +kernel
theorem dX1_total_5 : decode cX1_total 5 = .ok (.bipush 10, 2) := by decide +kernel
theorem dX1_total_7 : decode cX1_total 7 = .ok (.if_icmp .ge 21, 3) := by decide +kernel
theorem dX1_total_10 : decode cX1_total 10 = .ok (.iload_n 1, 1) := by decide +kernel
theorem dX1_total_11 : decode cX1_total 11 = .ok (.aload_n 0, 1) := by decide +kernel
theorem dX1_total_12 : decode cX1_total 12 = .ok (.getfield 9, 3) := by decide +kernel
theorem dX1_total_15 : decode cX1_total 15 = .ok (.iload_n 2, 1) := by decide +kernel
theorem dX1_total_16 : decode cX1_total 16 = .ok (.iaload, 1) := by decide +kernel
theorem dX1_total_17 : decode cX1_total 17 = .ok (.invokestatic 15, 3) := by decide +kernel
theorem dX1_total_20 : decode cX1_total 20 = .ok (.iadd, 1) := by decide +kernel
theorem dX1_total_21 : decode cX1_total 21 = .ok (.istore_n 1, 1) := by decide +kernel
theorem dX1_total_22 : decode cX1_total 22 = .ok (.iinc 2 1, 3) := by decide +kernel
theorem dX1_total_25 : decode cX1_total 25 = .ok (.goto (-21), 3) := by decide +kernel
theorem dX1_total_28 : decode cX1_total 28 = .ok (.iload_n 1, 1) := by decide +kernel
theorem dX1_total_29 : decode cX1_total 29 = .ok (.ireturn, 1) := by decide +kernel
theorem dX1_solve_0 : decode cX1_solve 0 = .ok (.aload_n 0, 1) := by decide +kernel
theorem dX1_solve_1 : decode cX1_solve 1 = .ok (.getfield 9, 3) := by decide +kernel
theorem dX1_solve_4 : decode cX1_solve 4 = .ok (.iconst 0, 1) := by decide +kernel
theorem dX1_solve_5 : decode cX1_solve 5 = .ok (.invokestatic 21, 3) := by decide +kernel
theorem dX1_solve_8 : decode cX1_solve 8 = .ok (.iconst 1, 1) := by decide +kernel
theorem dX1_solve_9 : decode cX1_solve 9 = .ok (.istore_n 3, 1) := by decide +kernel
theorem dX1_solve_10 : decode cX1_solve 10 = .ok (.iconst 0, 1) := by decide +kernel
theorem dX1_solve_11 : decode cX1_solve 11 = .ok (.istore 4, 2) := by decide +kernel
theorem dX1_solve_13 : decode cX1_solve 13 = .ok (.iload 4, 2) := by decide +kernel
theorem dX1_solve_15 : decode cX1_solve 15 = .ok (.bipush 100, 2) := by decide +kernel
theorem dX1_solve_17 : decode cX1_solve 17 = .ok (.if_icmp .gt 51, 3) := by decide +kernel
theorem dX1_solve_20 : decode cX1_solve 20 = .ok (.iload_n 3, 1) := by decide +kernel
theorem dX1_solve_21 : decode cX1_solve 21 = .ok (.ifCond .eq 47, 3) := by decide +kernel
theorem dX1_solve_24 : decode cX1_solve 24 = .ok (.iconst 0, 1) := by decide +kernel
theorem dX1_solve_25 : decode cX1_solve 25 = .ok (.istore_n 3, 1) := by decide +kernel
theorem dX1_solve_26 : decode cX1_solve 26 = .ok (.iconst 0, 1) := by decide +kernel
theorem dX1_solve_27 : decode cX1_solve 27 = .ok (.istore 5, 2) := by decide +kernel
theorem dX1_solve_29 : decode cX1_solve 29 = .ok (.iload 5, 2) := by decide +kernel
theorem dX1_solve_31 : decode cX1_solve 31 = .ok (.aload_n 1, 1) := by decide +kernel
theorem dX1_solve_32 : decode cX1_solve 32 = .ok (.invokevirtual 27, 3) := by decide +kernel
theorem dX1_solve_35 : decode cX1_solve 35 = .ok (.if_icmp .ge 27, 3) := by decide +kernel
theorem dX1_solve_38 : decode cX1_solve 38 = .ok (.iload 5, 2) := by decide +kernel
theorem dX1_solve_40 : decode cX1_solve 40 = .ok (.iload_n 2, 1) := by decide +kernel
theorem dX1_solve_41 : decode cX1_solve 41 = .ok (.if_icmp .eq 15, 3) := by decide +kernel
theorem dX1_solve_44 : decode cX1_solve 44 = .ok (.aload_n 0, 1) := by decide +kernel
theorem dX1_solve_45 : decode cX1_solve 45 = .ok (.aload_n 1, 1) := by decide +kernel
theorem dX1_solve_46 : decode cX1_solve 46 = .ok (.iload 5, 2) := by decide +kernel
theorem dX1_solve_48 : decode cX1_solve 48 = .ok (.invokevirtual 33, 3) := by decide +kernel
theorem dX1_solve_51 : decode cX1_solve 51 = .ok (.ifCond .eq 5, 3) := by decide +kernel
theorem dX1_solve_54 : decode cX1_solve 54 = .ok (.iconst 1, 1) := by decide +kernel
theorem dX1_solve_55 : decode cX1_solve 55 = .ok (.istore_n 3, 1) := by decide +kernel
theorem dX1_solve_56 : decode cX1_solve 56 = .ok (.iinc 5 1, 3) := by decide +kernel
theorem dX1_solve_59 : decode cX1_solve 59 = .ok (.goto (-30), 3) := by decide +kernel
theorem dX1_solve_62 : decode cX1_solve 62 = .ok (.iinc 4 1, 3) := by decide +kernel
theorem dX1_solve_65 : decode cX1_solve 65 = .ok (.goto (-52), 3) := by decide +kernel
theorem dX1_solve_68 : decode cX1_solve 68 = .ok (.return_, 1) := by decide +kernel
theorem dX1_apply_0 : decode cX1_apply 0 = .ok (.aload_n 1, 1) := by decide +kernel
theorem dX1_apply_1 : decode cX1_apply 1 = .ok (.iload_n 2, 1) := by decide +kernel
theorem dX1_apply_2 : decode cX1_apply 2 = .ok (.invokevirtual 37, 3) := by decide +kernel
theorem dX1_apply_5 : decode cX1_apply 5 = .ok (.istore_n 3, 1) := by decide +kernel
theorem dX1_apply_6 : decode cX1_apply 6 = .ok (.aload_n 1, 1) := by decide +kernel
theorem dX1_apply_7 : decode cX1_apply 7 = .ok (.iload_n 2, 1) := by decide +kernel
theorem dX1_apply_8 : decode cX1_apply 8 = .ok (.invokevirtual 40, 3) := by decide +kernel
theorem dX1_apply_11 : decode cX1_apply 11 = .ok (.istore 4, 2) := by decide +kernel
theorem dX1_apply_13 : decode cX1_apply 13 = .ok (.aload_n 1, 1) := by decide +kernel
theorem dX1_apply_14 : decode cX1_apply 14 = .ok (.iload_n 2, 1) := by decide +kernel
theorem dX1_apply_15 : decode cX1_apply 15 = .ok (.invokevirtual 43, 3) := by decide +kernel
theorem dX1_apply_18 : decode cX1_apply 18 = .ok (.tableswitch 67 0 2 #[26, 37, 50], 26) := by decide +kernel
theorem dX1_apply_44 : decode cX1_apply 44 = .ok (.aload_n 0, 1) := by decide +kernel
theorem dX1_apply_45 : decode cX1_apply 45 = .ok (.iload_n 3, 1) := by decide +kernel
theorem dX1_apply_46 : decode cX1_apply 46 = .ok (.iload 4, 2) := by decide +kernel
theorem dX1_apply_48 : decode cX1_apply 48 = .ok (.invokestatic 46, 3) := by decide +kernel
theorem dX1_apply_51 : decode cX1_apply 51 = .ok (.invokevirtual 49, 3) := by decide +kernel
theorem dX1_apply_54 : decode cX1_apply 54 = .ok (.ireturn, 1) := by decide +kernel
theorem dX1_apply_55 : decode cX1_apply 55 = .ok (.aload_n 0, 1) := by decide +kernel
theorem dX1_apply_56 : decode cX1_apply 56 = .ok (.iload_n 3, 1) := by decide +kernel
theorem dX1_apply_57 : decode cX1_apply 57 = .ok (.aload_n 0, 1) := by decide +kernel
theorem dX1_apply_58 : decode cX1_apply 58 = .ok (.getfield 9, 3) := by decide +kernel
theorem dX1_apply_61 : decode cX1_apply 61 = .ok (.iload 4, 2) := by decide +kernel
theorem dX1_apply_63 : decode cX1_apply 63 = .ok (.iaload, 1) := by decide +kernel
theorem dX1_apply_64 : decode cX1_apply 64 = .ok (.invokevirtual 49, 3) := by decide +kernel
theorem dX1_apply_67 : decode cX1_apply 67 = .ok (.ireturn, 1) := by decide +kernel
theorem dX1_apply_68 : decode cX1_apply 68 = .ok (.aload_n 0, 1) := by decide +kernel
theorem dX1_apply_69 : decode cX1_apply 69 = .ok (.iload_n 3, 1) := by decide +kernel
theorem dX1_apply_70 : decode cX1_apply 70 = .ok (.aload_n 0, 1) := by decide +kernel
theorem dX1_apply_71 : decode cX1_apply 71 = .ok (.aload_n 0, 1) := by decide +kernel
theorem dX1_apply_72 : decode cX1_apply 72 = .ok (.getfield 9, 3) := by decide +kernel
theorem dX1_apply_75 : decode cX1_apply 75 = .ok (.iload 4, 2) := by decide +kernel
theorem dX1_apply_77 : decode cX1_apply 77 = .ok (.iaload, 1) := by decide +kernel
theorem dX1_apply_78 : decode cX1_apply 78 = .ok (.invokevirtual 53, 3) := by decide +kernel
theorem dX1_apply_81 : decode cX1_apply 81 = .ok (.invokevirtual 49, 3) := by decide +kernel
theorem dX1_apply_84 : decode cX1_apply 84 = .ok (.ireturn, 1) := by decide +kernel
theorem dX1_apply_85 : decode cX1_apply 85 = .ok (.aload_n 0, 1) := by decide +kernel
theorem dX1_apply_86 : decode cX1_apply 86 = .ok (.aload_n 0, 1) := by decide +kernel
theorem dX1_apply_87 : decode cX1_apply 87 = .ok (.getfield 9, 3) := by decide +kernel
theorem dX1_apply_90 : decode cX1_apply 90 = .ok (.iload_n 3, 1) := by decide +kernel
theorem dX1_apply_91 : decode cX1_apply 91 = .ok (.iaload, 1) := by decide +kernel
theorem dX1_apply_92 : decode cX1_apply 92 = .ok (.aload_n 0, 1) := by decide +kernel
theorem dX1_apply_93 : decode cX1_apply 93 = .ok (.getfield 9, 3) := by decide +kernel
theorem dX1_apply_96 : decode cX1_apply 96 = .ok (.iload 4, 2) := by decide +kernel
theorem dX1_apply_98 : decode cX1_apply 98 = .ok (.iaload, 1) := by decide +kernel
theorem dX1_apply_99 : decode cX1_apply 99 = .ok (.invokevirtual 56, 3) := by decide +kernel
theorem dX1_apply_102 : decode cX1_apply 102 = .ok (.ireturn, 1) := by decide +kernel
theorem dX1_grow_0 : decode cX1_grow 0 = .ok (.iload_n 2, 1) := by decide +kernel
theorem dX1_grow_1 : decode cX1_grow 1 = .ok (.aload_n 0, 1) := by decide +kernel
theorem dX1_grow_2 : decode cX1_grow 2 = .ok (.getfield 9, 3) := by decide +kernel
theorem dX1_grow_5 : decode cX1_grow 5 = .ok (.iload_n 1, 1) := by decide +kernel
theorem dX1_grow_6 : decode cX1_grow 6 = .ok (.iaload, 1) := by decide +kernel
theorem dX1_grow_7 : decode cX1_grow 7 = .ok (.iconst (-1), 1) := by decide +kernel
theorem dX1_grow_8 : decode cX1_grow 8 = .ok (.ixor, 1) := by decide +kernel
theorem dX1_grow_9 : decode cX1_grow 9 = .ok (.iand, 1) := by decide +kernel
theorem dX1_grow_10 : decode cX1_grow 10 = .ok (.ifCond .eq 7, 3) := by decide +kernel
theorem dX1_grow_13 : decode cX1_grow 13 = .ok (.iconst 1, 1) := by decide +kernel
theorem dX1_grow_14 : decode cX1_grow 14 = .ok (.goto 4, 3) := by decide +kernel
theorem dX1_grow_17 : decode cX1_grow 17 = .ok (.iconst 0, 1) := by decide +kernel
theorem dX1_grow_18 : decode cX1_grow 18 = .ok (.istore_n 3, 1) := by decide +kernel
theorem dX1_grow_19 : decode cX1_grow 19 = .ok (.aload_n 0, 1) := by decide +kernel
theorem dX1_grow_20 : decode cX1_grow 20 = .ok (.getfield 9, 3) := by decide +kernel
theorem dX1_grow_23 : decode cX1_grow 23 = .ok (.iload_n 1, 1) := by decide +kernel
theorem dX1_grow_24 : decode cX1_grow 24 = .ok (.dup2, 1) := by decide +kernel
theorem dX1_grow_25 : decode cX1_grow 25 = .ok (.iaload, 1) := by decide +kernel
theorem dX1_grow_26 : decode cX1_grow 26 = .ok (.iload_n 2, 1) := by decide +kernel
theorem dX1_grow_27 : decode cX1_grow 27 = .ok (.ior, 1) := by decide +kernel
theorem dX1_grow_28 : decode cX1_grow 28 = .ok (.iastore, 1) := by decide +kernel
theorem dX1_grow_29 : decode cX1_grow 29 = .ok (.iload_n 3, 1) := by decide +kernel
theorem dX1_grow_30 : decode cX1_grow 30 = .ok (.ireturn, 1) := by decide +kernel
theorem dX1_unionOver_0 : decode cX1_unionOver 0 = .ok (.iconst 0, 1) := by decide +kernel
theorem dX1_unionOver_1 : decode cX1_unionOver 1 = .ok (.istore_n 2, 1) := by decide +kernel
theorem dX1_unionOver_2 : decode cX1_unionOver 2 = .ok (.iconst 0, 1) := by decide +kernel
theorem dX1_unionOver_3 : decode cX1_unionOver 3 = .ok (.istore_n 3, 1) := by decide +kernel
theorem dX1_unionOver_4 : decode cX1_unionOver 4 = .ok (.iload_n 3, 1) := by decide +kernel
theorem dX1_unionOver_5 : decode cX1_unionOver 5 = .ok (.bipush 10, 2) := by decide +kernel
theorem dX1_unionOver_7 : decode cX1_unionOver 7 = .ok (.if_icmp .ge 26, 3) := by decide +kernel
theorem dX1_unionOver_10 : decode cX1_unionOver 10 = .ok (.iload_n 1, 1) := by decide +kernel
theorem dX1_unionOver_11 : decode cX1_unionOver 11 = .ok (.iload_n 3, 1) := by decide +kernel
theorem dX1_unionOver_12 : decode cX1_unionOver 12 = .ok (.invokestatic 59, 3) := by decide +kernel
theorem dX1_unionOver_15 : decode cX1_unionOver 15 = .ok (.ifCond .eq 12, 3) := by decide +kernel
theorem dX1_unionOver_18 : decode cX1_unionOver 18 = .ok (.iload_n 2, 1) := by decide +kernel
theorem dX1_unionOver_19 : decode cX1_unionOver 19 = .ok (.aload_n 0, 1) := by decide +kernel
theorem dX1_unionOver_20 : decode cX1_unionOver 20 = .ok (.getfield 9, 3) := by decide +kernel
theorem dX1_unionOver_23 : decode cX1_unionOver 23 = .ok (.iload_n 3, 1) := by decide +kernel
theorem dX1_unionOver_24 : decode cX1_unionOver 24 = .ok (.iaload, 1) := by decide +kernel
theorem dX1_unionOver_25 : decode cX1_unionOver 25 = .ok (.ior, 1) := by decide +kernel
theorem dX1_unionOver_26 : decode cX1_unionOver 26 = .ok (.istore_n 2, 1) := by decide +kernel
theorem dX1_unionOver_27 : decode cX1_unionOver 27 = .ok (.iinc 3 1, 3) := by decide +kernel
theorem dX1_unionOver_30 : decode cX1_unionOver 30 = .ok (.goto (-26), 3) := by decide +kernel
theorem dX1_unionOver_33 : decode cX1_unionOver 33 = .ok (.iload_n 2, 1) := by decide +kernel
theorem dX1_unionOver_34 : decode cX1_unionOver 34 = .ok (.ireturn, 1) := by decide +kernel
theorem dX1_growAll_0 : decode cX1_growAll 0 = .ok (.iconst 0, 1) := by decide +kernel
theorem dX1_growAll_1 : decode cX1_growAll 1 = .ok (.istore_n 3, 1) := by decide +kernel
theorem dX1_growAll_2 : decode cX1_growAll 2 = .ok (.iconst 0, 1) := by decide +kernel
theorem dX1_growAll_3 : decode cX1_growAll 3 = .ok (.istore 4, 2) := by decide +kernel
theorem dX1_growAll_5 : decode cX1_growAll 5 = .ok (.iload 4, 2) := by decide +kernel
theorem dX1_growAll_7 : decode cX1_growAll 7 = .ok (.bipush 10, 2) := by decide +kernel
theorem dX1_growAll_9 : decode cX1_growAll 9 = .ok (.if_icmp .ge 30, 3) := by decide +kernel
theorem dX1_growAll_12 : decode cX1_growAll 12 = .ok (.iload_n 1, 1) := by decide +kernel
theorem dX1_growAll_13 : decode cX1_growAll 13 = .ok (.iload 4, 2) := by decide +kernel
theorem dX1_growAll_15 : decode cX1_growAll 15 = .ok (.invokestatic 59, 3) := by decide +kernel
theorem dX1_growAll_18 : decode cX1_growAll 18 = .ok (.ifCond .eq 15, 3) := by decide +kernel
theorem dX1_growAll_21 : decode cX1_growAll 21 = .ok (.aload_n 0, 1) := by decide +kernel
theorem dX1_growAll_22 : decode cX1_growAll 22 = .ok (.iload 4, 2) := by decide +kernel
theorem dX1_growAll_24 : decode cX1_growAll 24 = .ok (.iload_n 2, 1) := by decide +kernel
theorem dX1_growAll_25 : decode cX1_growAll 25 = .ok (.invokevirtual 49, 3) := by decide +kernel
theorem dX1_growAll_28 : decode cX1_growAll 28 = .ok (.ifCond .eq 5, 3) := by decide +kernel
theorem dX1_growAll_31 : decode cX1_growAll 31 = .ok (.iconst 1, 1) := by decide +kernel
theorem dX1_growAll_32 : decode cX1_growAll 32 = .ok (.istore_n 3, 1) := by decide +kernel
theorem dX1_growAll_33 : decode cX1_growAll 33 = .ok (.iinc 4 1, 3) := by decide +kernel
theorem dX1_growAll_36 : decode cX1_growAll 36 = .ok (.goto (-31), 3) := by decide +kernel
theorem dX1_growAll_39 : decode cX1_growAll 39 = .ok (.iload_n 3, 1) := by decide +kernel
theorem dX1_growAll_40 : decode cX1_growAll 40 = .ok (.ireturn, 1) := by decide +kernel
theorem dX2_init_0 : decode cX2_init 0 = .ok (.aload_n 0, 1) := by decide +kernel
theorem dX2_init_1 : decode cX2_init 1 = .ok (.invokespecial 3, 3) := by decide +kernel
theorem dX2_init_4 : decode cX2_init 4 = .ok (.aload_n 0, 1) := by decide +kernel
theorem dX2_init_5 : decode cX2_init 5 = .ok (.bipush 14, 2) := by decide +kernel
theorem dX2_init_7 : decode cX2_init 7 = .ok (.newarray .int, 2) := by decide +kernel
theorem dX2_init_9 : decode cX2_init 9 = .ok (.putfield 9, 3) := by decide +kernel
theorem dX2_init_12 : decode cX2_init 12 = .ok (.return_, 1) := by decide +kernel
theorem dX2_size_0 : decode cX2_size 0 = .ok (.aload_n 0, 1) := by decide +kernel
theorem dX2_size_1 : decode cX2_size 1 = .ok (.getfield 15, 3) := by decide +kernel
theorem dX2_size_4 : decode cX2_size 4 = .ok (.ireturn, 1) := by decide +kernel
theorem dX2_sortAt_0 : decode cX2_sortAt 0 = .ok (.aload_n 0, 1) := by decide +kernel
theorem dX2_sortAt_1 : decode cX2_sortAt 1 = .ok (.getfield 9, 3) := by decide +kernel
theorem dX2_sortAt_4 : decode cX2_sortAt 4 = .ok (.iload_n 1, 1) := by decide +kernel
theorem dX2_sortAt_5 : decode cX2_sortAt 5 = .ok (.iaload, 1) := by decide +kernel
theorem dX2_sortAt_6 : decode cX2_sortAt 6 = .ok (.bipush 8, 2) := by decide +kernel
theorem dX2_sortAt_8 : decode cX2_sortAt 8 = .ok (.ishr, 1) := by decide +kernel
theorem dX2_sortAt_9 : decode cX2_sortAt 9 = .ok (.ireturn, 1) := by decide +kernel
theorem dX2_leftAt_0 : decode cX2_leftAt 0 = .ok (.aload_n 0, 1) := by decide +kernel
theorem dX2_leftAt_1 : decode cX2_leftAt 1 = .ok (.getfield 9, 3) := by decide +kernel
theorem dX2_leftAt_4 : decode cX2_leftAt 4 = .ok (.iload_n 1, 1) := by decide +kernel
theorem dX2_leftAt_5 : decode cX2_leftAt 5 = .ok (.iaload, 1) := by decide +kernel
theorem dX2_leftAt_6 : decode cX2_leftAt 6 = .ok (.iconst 4, 1) := by decide +kernel
theorem dX2_leftAt_7 : decode cX2_leftAt 7 = .ok (.ishr, 1) := by decide +kernel
theorem dX2_leftAt_8 : decode cX2_leftAt 8 = .ok (.bipush 15, 2) := by decide +kernel
theorem dX2_leftAt_10 : decode cX2_leftAt 10 = .ok (.iand, 1) := by decide +kernel
theorem dX2_leftAt_11 : decode cX2_leftAt 11 = .ok (.ireturn, 1) := by decide +kernel
theorem dX2_rightAt_0 : decode cX2_rightAt 0 = .ok (.aload_n 0, 1) := by decide +kernel
theorem dX2_rightAt_1 : decode cX2_rightAt 1 = .ok (.getfield 9, 3) := by decide +kernel
theorem dX2_rightAt_4 : decode cX2_rightAt 4 = .ok (.iload_n 1, 1) := by decide +kernel
theorem dX2_rightAt_5 : decode cX2_rightAt 5 = .ok (.iaload, 1) := by decide +kernel
theorem dX2_rightAt_6 : decode cX2_rightAt 6 = .ok (.bipush 15, 2) := by decide +kernel
theorem dX2_rightAt_8 : decode cX2_rightAt 8 = .ok (.iand, 1) := by decide +kernel
theorem dX2_rightAt_9 : decode cX2_rightAt 9 = .ok (.ireturn, 1) := by decide +kernel
theorem dX2_append_0 : decode cX2_append 0 = .ok (.aload_n 0, 1) := by decide +kernel
theorem dX2_append_1 : decode cX2_append 1 = .ok (.getfield 15, 3) := by decide +kernel
theorem dX2_append_4 : decode cX2_append 4 = .ok (.bipush 14, 2) := by decide +kernel
theorem dX2_append_6 : decode cX2_append 6 = .ok (.if_icmp .ge 32, 3) := by decide +kernel
theorem dX2_append_9 : decode cX2_append 9 = .ok (.aload_n 0, 1) := by decide +kernel
theorem dX2_append_10 : decode cX2_append 10 = .ok (.getfield 9, 3) := by decide +kernel
theorem dX2_append_13 : decode cX2_append 13 = .ok (.aload_n 0, 1) := by decide +kernel
theorem dX2_append_14 : decode cX2_append 14 = .ok (.getfield 15, 3) := by decide +kernel
theorem dX2_append_17 : decode cX2_append 17 = .ok (.iload_n 1, 1) := by decide +kernel
theorem dX2_append_18 : decode cX2_append 18 = .ok (.bipush 8, 2) := by decide +kernel
theorem dX2_append_20 : decode cX2_append 20 = .ok (.ishl, 1) := by decide +kernel
theorem dX2_append_21 : decode cX2_append 21 = .ok (.iload_n 2, 1) := by decide +kernel
theorem dX2_append_22 : decode cX2_append 22 = .ok (.iconst 4, 1) := by decide +kernel
theorem dX2_append_23 : decode cX2_append 23 = .ok (.ishl, 1) := by decide +kernel
theorem dX2_append_24 : decode cX2_append 24 = .ok (.ior, 1) := by decide +kernel
theorem dX2_append_25 : decode cX2_append 25 = .ok (.iload_n 3, 1) := by decide +kernel
theorem dX2_append_26 : decode cX2_append 26 = .ok (.ior, 1) := by decide +kernel
theorem dX2_append_27 : decode cX2_append 27 = .ok (.iastore, 1) := by decide +kernel
theorem dX2_append_28 : decode cX2_append 28 = .ok (.aload_n 0, 1) := by decide +kernel
theorem dX2_append_29 : decode cX2_append 29 = .ok (.dup, 1) := by decide +kernel
theorem dX2_append_30 : decode cX2_append 30 = .ok (.getfield 15, 3) := by decide +kernel
theorem dX2_append_33 : decode cX2_append 33 = .ok (.iconst 1, 1) := by decide +kernel
theorem dX2_append_34 : decode cX2_append 34 = .ok (.iadd, 1) := by decide +kernel
theorem dX2_append_35 : decode cX2_append 35 = .ok (.putfield 15, 3) := by decide +kernel
theorem dX2_append_38 : decode cX2_append 38 = .ok (.return_, 1) := by decide +kernel
theorem dX2_removeAt_0 : decode cX2_removeAt 0 = .ok (.aload_n 0, 1) := by decide +kernel
theorem dX2_removeAt_1 : decode cX2_removeAt 1 = .ok (.iload_n 1, 1) := by decide +kernel
theorem dX2_removeAt_2 : decode cX2_removeAt 2 = .ok (.aload_n 0, 1) := by decide +kernel
theorem dX2_removeAt_3 : decode cX2_removeAt 3 = .ok (.getfield 15, 3) := by decide +kernel
theorem dX2_removeAt_6 : decode cX2_removeAt 6 = .ok (.iconst 1, 1) := by decide +kernel
theorem dX2_removeAt_7 : decode cX2_removeAt 7 = .ok (.isub, 1) := by decide +kernel
theorem dX2_removeAt_8 : decode cX2_removeAt 8 = .ok (.invokevirtual 19, 3) := by decide +kernel
theorem dX2_removeAt_11 : decode cX2_removeAt 11 = .ok (.aload_n 0, 1) := by decide +kernel
theorem dX2_removeAt_12 : decode cX2_removeAt 12 = .ok (.dup, 1) := by decide +kernel
theorem dX2_removeAt_13 : decode cX2_removeAt 13 = .ok (.getfield 15, 3) := by decide +kernel
theorem dX2_removeAt_16 : decode cX2_removeAt 16 = .ok (.iconst 1, 1) := by decide +kernel
theorem dX2_removeAt_17 : decode cX2_removeAt 17 = .ok (.isub, 1) := by decide +kernel
theorem dX2_removeAt_18 : decode cX2_removeAt 18 = .ok (.putfield 15, 3) := by decide +kernel
theorem dX2_removeAt_21 : decode cX2_removeAt 21 = .ok (.return_, 1) := by decide +kernel
theorem dX2_moveTo_0 : decode cX2_moveTo 0 = .ok (.aload_n 0, 1) := by decide +kernel
theorem dX2_moveTo_1 : decode cX2_moveTo 1 = .ok (.getfield 9, 3) := by decide +kernel
theorem dX2_moveTo_4 : decode cX2_moveTo 4 = .ok (.iload_n 1, 1) := by decide +kernel
theorem dX2_moveTo_5 : decode cX2_moveTo 5 = .ok (.iaload, 1) := by decide +kernel
theorem dX2_moveTo_6 : decode cX2_moveTo 6 = .ok (.istore_n 3, 1) := by decide +kernel
theorem dX2_moveTo_7 : decode cX2_moveTo 7 = .ok (.iload_n 1, 1) := by decide +kernel
theorem dX2_moveTo_8 : decode cX2_moveTo 8 = .ok (.istore 4, 2) := by decide +kernel
theorem dX2_moveTo_10 : decode cX2_moveTo 10 = .ok (.iload 4, 2) := by decide +kernel
theorem dX2_moveTo_12 : decode cX2_moveTo 12 = .ok (.iload_n 2, 1) := by decide +kernel
theorem dX2_moveTo_13 : decode cX2_moveTo 13 = .ok (.if_icmp .ge 25, 3) := by decide +kernel
theorem dX2_moveTo_16 : decode cX2_moveTo 16 = .ok (.aload_n 0, 1) := by decide +kernel
theorem dX2_moveTo_17 : decode cX2_moveTo 17 = .ok (.getfield 9, 3) := by decide +kernel
theorem dX2_moveTo_20 : decode cX2_moveTo 20 = .ok (.iload 4, 2) := by decide +kernel
theorem dX2_moveTo_22 : decode cX2_moveTo 22 = .ok (.aload_n 0, 1) := by decide +kernel
theorem dX2_moveTo_23 : decode cX2_moveTo 23 = .ok (.getfield 9, 3) := by decide +kernel
theorem dX2_moveTo_26 : decode cX2_moveTo 26 = .ok (.iload 4, 2) := by decide +kernel
theorem dX2_moveTo_28 : decode cX2_moveTo 28 = .ok (.iconst 1, 1) := by decide +kernel
theorem dX2_moveTo_29 : decode cX2_moveTo 29 = .ok (.iadd, 1) := by decide +kernel
theorem dX2_moveTo_30 : decode cX2_moveTo 30 = .ok (.iaload, 1) := by decide +kernel
theorem dX2_moveTo_31 : decode cX2_moveTo 31 = .ok (.iastore, 1) := by decide +kernel
theorem dX2_moveTo_32 : decode cX2_moveTo 32 = .ok (.iinc 4 1, 3) := by decide +kernel
theorem dX2_moveTo_35 : decode cX2_moveTo 35 = .ok (.goto (-25), 3) := by decide +kernel
theorem dX2_moveTo_38 : decode cX2_moveTo 38 = .ok (.iload_n 1, 1) := by decide +kernel
theorem dX2_moveTo_39 : decode cX2_moveTo 39 = .ok (.istore 4, 2) := by decide +kernel
theorem dX2_moveTo_41 : decode cX2_moveTo 41 = .ok (.iload 4, 2) := by decide +kernel
theorem dX2_moveTo_43 : decode cX2_moveTo 43 = .ok (.iload_n 2, 1) := by decide +kernel
theorem dX2_moveTo_44 : decode cX2_moveTo 44 = .ok (.if_icmp .le 25, 3) := by decide +kernel
theorem dX2_moveTo_47 : decode cX2_moveTo 47 = .ok (.aload_n 0, 1) := by decide +kernel
theorem dX2_moveTo_48 : decode cX2_moveTo 48 = .ok (.getfield 9, 3) := by decide +kernel
theorem dX2_moveTo_51 : decode cX2_moveTo 51 = .ok (.iload 4, 2) := by decide +kernel
theorem dX2_moveTo_53 : decode cX2_moveTo 53 = .ok (.aload_n 0, 1) := by decide +kernel
theorem dX2_moveTo_54 : decode cX2_moveTo 54 = .ok (.getfield 9, 3) := by decide +kernel
theorem dX2_moveTo_57 : decode cX2_moveTo 57 = .ok (.iload 4, 2) := by decide +kernel
theorem dX2_moveTo_59 : decode cX2_moveTo 59 = .ok (.iconst 1, 1) := by decide +kernel
theorem dX2_moveTo_60 : decode cX2_moveTo 60 = .ok (.isub, 1) := by decide +kernel
theorem dX2_moveTo_61 : decode cX2_moveTo 61 = .ok (.iaload, 1) := by decide +kernel
theorem dX2_moveTo_62 : decode cX2_moveTo 62 = .ok (.iastore, 1) := by decide +kernel
theorem dX2_moveTo_63 : decode cX2_moveTo 63 = .ok (.iinc 4 (-1), 3) := by decide +kernel
theorem dX2_moveTo_66 : decode cX2_moveTo 66 = .ok (.goto (-25), 3) := by decide +kernel
theorem dX2_moveTo_69 : decode cX2_moveTo 69 = .ok (.aload_n 0, 1) := by decide +kernel
theorem dX2_moveTo_70 : decode cX2_moveTo 70 = .ok (.getfield 9, 3) := by decide +kernel
theorem dX2_moveTo_73 : decode cX2_moveTo 73 = .ok (.iload_n 2, 1) := by decide +kernel
theorem dX2_moveTo_74 : decode cX2_moveTo 74 = .ok (.iload_n 3, 1) := by decide +kernel
theorem dX2_moveTo_75 : decode cX2_moveTo 75 = .ok (.iastore, 1) := by decide +kernel
theorem dX2_moveTo_76 : decode cX2_moveTo 76 = .ok (.return_, 1) := by decide +kernel
theorem dX2_removeAll_0 : decode cX2_removeAll 0 = .ok (.aload_n 0, 1) := by decide +kernel
theorem dX2_removeAll_1 : decode cX2_removeAll 1 = .ok (.iconst 0, 1) := by decide +kernel
theorem dX2_removeAll_2 : decode cX2_removeAll 2 = .ok (.putfield 15, 3) := by decide +kernel
theorem dX2_removeAll_5 : decode cX2_removeAll 5 = .ok (.return_, 1) := by decide +kernel
theorem dX2_copyFrom_0 : decode cX2_copyFrom 0 = .ok (.aload_n 1, 1) := by decide +kernel
theorem dX2_copyFrom_1 : decode cX2_copyFrom 1 = .ok (.getfield 9, 3) := by decide +kernel
theorem dX2_copyFrom_4 : decode cX2_copyFrom 4 = .ok (.iconst 0, 1) := by decide +kernel
theorem dX2_copyFrom_5 : decode cX2_copyFrom 5 = .ok (.aload_n 0, 1) := by decide +kernel
theorem dX2_copyFrom_6 : decode cX2_copyFrom 6 = .ok (.getfield 9, 3) := by decide +kernel
theorem dX2_copyFrom_9 : decode cX2_copyFrom 9 = .ok (.iconst 0, 1) := by decide +kernel
theorem dX2_copyFrom_10 : decode cX2_copyFrom 10 = .ok (.aload_n 1, 1) := by decide +kernel
theorem dX2_copyFrom_11 : decode cX2_copyFrom 11 = .ok (.getfield 15, 3) := by decide +kernel
theorem dX2_copyFrom_14 : decode cX2_copyFrom 14 = .ok (.invokestatic 23, 3) := by decide +kernel
theorem dX2_copyFrom_17 : decode cX2_copyFrom 17 = .ok (.aload_n 0, 1) := by decide +kernel
theorem dX2_copyFrom_18 : decode cX2_copyFrom 18 = .ok (.aload_n 1, 1) := by decide +kernel
theorem dX2_copyFrom_19 : decode cX2_copyFrom 19 = .ok (.getfield 15, 3) := by decide +kernel
theorem dX2_copyFrom_22 : decode cX2_copyFrom 22 = .ok (.putfield 15, 3) := by decide +kernel
theorem dX2_copyFrom_25 : decode cX2_copyFrom 25 = .ok (.return_, 1) := by decide +kernel
theorem dX2_writtenLength_0 : decode cX2_writtenLength 0 = .ok (.iconst 0, 1) := by decide +kernel
theorem dX2_writtenLength_1 : decode cX2_writtenLength 1 = .ok (.istore_n 1, 1) := by decide +kernel
theorem dX2_writtenLength_2 : decode cX2_writtenLength 2 = .ok (.iconst 0, 1) := by decide +kernel
theorem dX2_writtenLength_3 : decode cX2_writtenLength 3 = .ok (.istore_n 2, 1) := by decide +kernel
theorem dX2_writtenLength_4 : decode cX2_writtenLength 4 = .ok (.iload_n 2, 1) := by decide +kernel
theorem dX2_writtenLength_5 : decode cX2_writtenLength 5 = .ok (.aload_n 0, 1) := by decide +kernel
theorem dX2_writtenLength_6 : decode cX2_writtenLength 6 = .ok (.getfield 15, 3) := by decide +kernel
theorem dX2_writtenLength_9 : decode cX2_writtenLength 9 = .ok (.if_icmp .ge 17, 3) := by decide +kernel
theorem dX2_writtenLength_12 : decode cX2_writtenLength 12 = .ok (.iload_n 1, 1) := by decide +kernel
theorem dX2_writtenLength_13 : decode cX2_writtenLength 13 = .ok (.aload_n 0, 1) := by decide +kernel
theorem dX2_writtenLength_14 : decode cX2_writtenLength 14 = .ok (.iload_n 2, 1) := by decide +kernel
theorem dX2_writtenLength_15 : decode cX2_writtenLength 15 = .ok (.invokevirtual 29, 3) := by decide +kernel
theorem dX2_writtenLength_18 : decode cX2_writtenLength 18 = .ok (.iadd, 1) := by decide +kernel
theorem dX2_writtenLength_19 : decode cX2_writtenLength 19 = .ok (.istore_n 1, 1) := by decide +kernel
theorem dX2_writtenLength_20 : decode cX2_writtenLength 20 = .ok (.iinc 2 1, 3) := by decide +kernel
theorem dX2_writtenLength_23 : decode cX2_writtenLength 23 = .ok (.goto (-19), 3) := by decide +kernel
theorem dX2_writtenLength_26 : decode cX2_writtenLength 26 = .ok (.iload_n 1, 1) := by decide +kernel
theorem dX2_writtenLength_27 : decode cX2_writtenLength 27 = .ok (.ireturn, 1) := by decide +kernel
theorem dX2_writtenByte_0 : decode cX2_writtenByte 0 = .ok (.iload_n 1, 1) := by decide +kernel
theorem dX2_writtenByte_1 : decode cX2_writtenByte 1 = .ok (.istore_n 2, 1) := by decide +kernel
theorem dX2_writtenByte_2 : decode cX2_writtenByte 2 = .ok (.iconst 0, 1) := by decide +kernel
theorem dX2_writtenByte_3 : decode cX2_writtenByte 3 = .ok (.istore_n 3, 1) := by decide +kernel
theorem dX2_writtenByte_4 : decode cX2_writtenByte 4 = .ok (.iload_n 3, 1) := by decide +kernel
theorem dX2_writtenByte_5 : decode cX2_writtenByte 5 = .ok (.aload_n 0, 1) := by decide +kernel
theorem dX2_writtenByte_6 : decode cX2_writtenByte 6 = .ok (.getfield 15, 3) := by decide +kernel
theorem dX2_writtenByte_9 : decode cX2_writtenByte 9 = .ok (.if_icmp .ge 33, 3) := by decide +kernel
theorem dX2_writtenByte_12 : decode cX2_writtenByte 12 = .ok (.iload_n 2, 1) := by decide +kernel
theorem dX2_writtenByte_13 : decode cX2_writtenByte 13 = .ok (.aload_n 0, 1) := by decide +kernel
theorem dX2_writtenByte_14 : decode cX2_writtenByte 14 = .ok (.iload_n 3, 1) := by decide +kernel
theorem dX2_writtenByte_15 : decode cX2_writtenByte 15 = .ok (.invokevirtual 29, 3) := by decide +kernel
theorem dX2_writtenByte_18 : decode cX2_writtenByte 18 = .ok (.if_icmp .ge 10, 3) := by decide +kernel
theorem dX2_writtenByte_21 : decode cX2_writtenByte 21 = .ok (.aload_n 0, 1) := by decide +kernel
theorem dX2_writtenByte_22 : decode cX2_writtenByte 22 = .ok (.iload_n 3, 1) := by decide +kernel
theorem dX2_writtenByte_23 : decode cX2_writtenByte 23 = .ok (.iload_n 2, 1) := by decide +kernel
theorem dX2_writtenByte_24 : decode cX2_writtenByte 24 = .ok (.invokevirtual 33, 3) := by decide +kernel
theorem dX2_writtenByte_27 : decode cX2_writtenByte 27 = .ok (.ireturn, 1) := by decide +kernel
theorem dX2_writtenByte_28 : decode cX2_writtenByte 28 = .ok (.iload_n 2, 1) := by decide +kernel
theorem dX2_writtenByte_29 : decode cX2_writtenByte 29 = .ok (.aload_n 0, 1) := by decide +kernel
theorem dX2_writtenByte_30 : decode cX2_writtenByte 30 = .ok (.iload_n 3, 1) := by decide +kernel
theorem dX2_writtenByte_31 : decode cX2_writtenByte 31 = .ok (.invokevirtual 29, 3) := by decide +kernel
theorem dX2_writtenByte_34 : decode cX2_writtenByte 34 = .ok (.isub, 1) := by decide +kernel
theorem dX2_writtenByte_35 : decode cX2_writtenByte 35 = .ok (.istore_n 2, 1) := by decide +kernel
theorem dX2_writtenByte_36 : decode cX2_writtenByte 36 = .ok (.iinc 3 1, 3) := by decide +kernel
theorem dX2_writtenByte_39 : decode cX2_writtenByte 39 = .ok (.goto (-35), 3) := by decide +kernel
theorem dX2_writtenByte_42 : decode cX2_writtenByte 42 = .ok (.bipush (-5), 2) := by decide +kernel
theorem dX2_writtenByte_44 : decode cX2_writtenByte 44 = .ok (.ireturn, 1) := by decide +kernel
theorem dX2_lengthAt_0 : decode cX2_lengthAt 0 = .ok (.aload_n 0, 1) := by decide +kernel
theorem dX2_lengthAt_1 : decode cX2_lengthAt 1 = .ok (.iload_n 1, 1) := by decide +kernel
theorem dX2_lengthAt_2 : decode cX2_lengthAt 2 = .ok (.invokevirtual 37, 3) := by decide +kernel
theorem dX2_lengthAt_5 : decode cX2_lengthAt 5 = .ok (.iconst 1, 1) := by decide +kernel
theorem dX2_lengthAt_6 : decode cX2_lengthAt 6 = .ok (.if_icmp .ne 7, 3) := by decide +kernel
theorem dX2_lengthAt_9 : decode cX2_lengthAt 9 = .ok (.iconst 4, 1) := by decide +kernel
theorem dX2_lengthAt_10 : decode cX2_lengthAt 10 = .ok (.goto 4, 3) := by decide +kernel
theorem dX2_lengthAt_13 : decode cX2_lengthAt 13 = .ok (.iconst 5, 1) := by decide +kernel
theorem dX2_lengthAt_14 : decode cX2_lengthAt 14 = .ok (.ireturn, 1) := by decide +kernel
theorem dX2_byteAt_0 : decode cX2_byteAt 0 = .ok (.aload_n 0, 1) := by decide +kernel
theorem dX2_byteAt_1 : decode cX2_byteAt 1 = .ok (.iload_n 1, 1) := by decide +kernel
theorem dX2_byteAt_2 : decode cX2_byteAt 2 = .ok (.invokevirtual 37, 3) := by decide +kernel
theorem dX2_byteAt_5 : decode cX2_byteAt 5 = .ok (.istore_n 3, 1) := by decide +kernel
theorem dX2_byteAt_6 : decode cX2_byteAt 6 = .ok (.iload_n 3, 1) := by decide +kernel
theorem dX2_byteAt_7 : decode cX2_byteAt 7 = .ok (.iconst 3, 1) := by decide +kernel
theorem dX2_byteAt_8 : decode cX2_byteAt 8 = .ok (.if_icmp .ne 9, 3) := by decide +kernel
theorem dX2_byteAt_11 : decode cX2_byteAt 11 = .ok (.iload_n 2, 1) := by decide +kernel
theorem dX2_byteAt_12 : decode cX2_byteAt 12 = .ok (.iconst 1, 1) := by decide +kernel
theorem dX2_byteAt_13 : decode cX2_byteAt 13 = .ok (.isub, 1) := by decide +kernel
theorem dX2_byteAt_14 : decode cX2_byteAt 14 = .ok (.goto 4, 3) := by decide +kernel
theorem dX2_byteAt_17 : decode cX2_byteAt 17 = .ok (.iload_n 2, 1) := by decide +kernel
theorem dX2_byteAt_18 : decode cX2_byteAt 18 = .ok (.istore 4, 2) := by decide +kernel
theorem dX2_byteAt_20 : decode cX2_byteAt 20 = .ok (.iload 4, 2) := by decide +kernel
theorem dX2_byteAt_22 : decode cX2_byteAt 22 = .ok (.iconst 2, 1) := by decide +kernel
theorem dX2_byteAt_23 : decode cX2_byteAt 23 = .ok (.if_icmp .lt 16, 3) := by decide +kernel
theorem dX2_byteAt_26 : decode cX2_byteAt 26 = .ok (.iload_n 3, 1) := by decide +kernel
theorem dX2_byteAt_27 : decode cX2_byteAt 27 = .ok (.iconst 1, 1) := by decide +kernel
theorem dX2_byteAt_28 : decode cX2_byteAt 28 = .ok (.if_icmp .eq 8, 3) := by decide +kernel
theorem dX2_byteAt_31 : decode cX2_byteAt 31 = .ok (.iload_n 3, 1) := by decide +kernel
theorem dX2_byteAt_32 : decode cX2_byteAt 32 = .ok (.iconst 3, 1) := by decide +kernel
theorem dX2_byteAt_33 : decode cX2_byteAt 33 = .ok (.if_icmp .ne 6, 3) := by decide +kernel
theorem dX2_byteAt_36 : decode cX2_byteAt 36 = .ok (.iinc 4 1, 3) := by decide +kernel
theorem dX2_byteAt_39 : decode cX2_byteAt 39 = .ok (.iload 4, 2) := by decide +kernel
theorem dX2_byteAt_41 : decode cX2_byteAt 41 = .ok (.tableswitch 71 (-1) 3 #[35, 38, 47, 50, 62], 35) := by decide +kernel
theorem dX2_byteAt_76 : decode cX2_byteAt 76 = .ok (.bipush 42, 2) := by decide +kernel
theorem dX2_byteAt_78 : decode cX2_byteAt 78 = .ok (.ireturn, 1) := by decide +kernel
theorem dX2_byteAt_79 : decode cX2_byteAt 79 = .ok (.bipush 97, 2) := by decide +kernel
theorem dX2_byteAt_81 : decode cX2_byteAt 81 = .ok (.aload_n 0, 1) := by decide +kernel
theorem dX2_byteAt_82 : decode cX2_byteAt 82 = .ok (.iload_n 1, 1) := by decide +kernel
theorem dX2_byteAt_83 : decode cX2_byteAt 83 = .ok (.invokevirtual 40, 3) := by decide +kernel
theorem dX2_byteAt_86 : decode cX2_byteAt 86 = .ok (.iadd, 1) := by decide +kernel
theorem dX2_byteAt_87 : decode cX2_byteAt 87 = .ok (.ireturn, 1) := by decide +kernel
theorem dX2_byteAt_88 : decode cX2_byteAt 88 = .ok (.bipush 61, 2) := by decide +kernel
theorem dX2_byteAt_90 : decode cX2_byteAt 90 = .ok (.ireturn, 1) := by decide +kernel
theorem dX2_byteAt_91 : decode cX2_byteAt 91 = .ok (.iload_n 3, 1) := by decide +kernel
theorem dX2_byteAt_92 : decode cX2_byteAt 92 = .ok (.ifCond .ne 8, 3) := by decide +kernel
theorem dX2_byteAt_95 : decode cX2_byteAt 95 = .ok (.bipush 38, 2) := by decide +kernel
theorem dX2_byteAt_97 : decode cX2_byteAt 97 = .ok (.goto 5, 3) := by decide +kernel
theorem dX2_byteAt_100 : decode cX2_byteAt 100 = .ok (.bipush 42, 2) := by decide +kernel
theorem dX2_byteAt_102 : decode cX2_byteAt 102 = .ok (.ireturn, 1) := by decide +kernel
theorem dX2_byteAt_103 : decode cX2_byteAt 103 = .ok (.bipush 97, 2) := by decide +kernel
theorem dX2_byteAt_105 : decode cX2_byteAt 105 = .ok (.aload_n 0, 1) := by decide +kernel
theorem dX2_byteAt_106 : decode cX2_byteAt 106 = .ok (.iload_n 1, 1) := by decide +kernel
theorem dX2_byteAt_107 : decode cX2_byteAt 107 = .ok (.invokevirtual 43, 3) := by decide +kernel
theorem dX2_byteAt_110 : decode cX2_byteAt 110 = .ok (.iadd, 1) := by decide +kernel
theorem dX2_byteAt_111 : decode cX2_byteAt 111 = .ok (.ireturn, 1) := by decide +kernel
theorem dX2_byteAt_112 : decode cX2_byteAt 112 = .ok (.bipush 59, 2) := by decide +kernel
theorem dX2_byteAt_114 : decode cX2_byteAt 114 = .ok (.ireturn, 1) := by decide +kernel
theorem dX3_init_0 : decode cX3_init 0 = .ok (.aload_n 0, 1) := by decide +kernel
theorem dX3_init_1 : decode cX3_init 1 = .ok (.invokespecial 3, 3) := by decide +kernel
theorem dX3_init_4 : decode cX3_init 4 = .ok (.aload_n 0, 1) := by decide +kernel
theorem dX3_init_5 : decode cX3_init 5 = .ok (.bipush 10, 2) := by decide +kernel
theorem dX3_init_7 : decode cX3_init 7 = .ok (.newarray .int, 2) := by decide +kernel
theorem dX3_init_9 : decode cX3_init 9 = .ok (.putfield 9, 3) := by decide +kernel
theorem dX3_init_12 : decode cX3_init 12 = .ok (.aload_n 0, 1) := by decide +kernel
theorem dX3_init_13 : decode cX3_init 13 = .ok (.bipush 10, 2) := by decide +kernel
theorem dX3_init_15 : decode cX3_init 15 = .ok (.newarray .int, 2) := by decide +kernel
theorem dX3_init_17 : decode cX3_init 17 = .ok (.putfield 15, 3) := by decide +kernel
theorem dX3_init_20 : decode cX3_init 20 = .ok (.return_, 1) := by decide +kernel
theorem dX3_endOf_0 : decode cX3_endOf 0 = .ok (.aload_n 0, 1) := by decide +kernel
theorem dX3_endOf_1 : decode cX3_endOf 1 = .ok (.getfield 9, 3) := by decide +kernel
theorem dX3_endOf_4 : decode cX3_endOf 4 = .ok (.iload_n 1, 1) := by decide +kernel
theorem dX3_endOf_5 : decode cX3_endOf 5 = .ok (.iaload, 1) := by decide +kernel
theorem dX3_endOf_6 : decode cX3_endOf 6 = .ok (.ireturn, 1) := by decide +kernel
theorem dX3_everOf_0 : decode cX3_everOf 0 = .ok (.aload_n 0, 1) := by decide +kernel
theorem dX3_everOf_1 : decode cX3_everOf 1 = .ok (.getfield 15, 3) := by decide +kernel
theorem dX3_everOf_4 : decode cX3_everOf 4 = .ok (.iload_n 1, 1) := by decide +kernel
theorem dX3_everOf_5 : decode cX3_everOf 5 = .ok (.iaload, 1) := by decide +kernel
theorem dX3_everOf_6 : decode cX3_everOf 6 = .ok (.ireturn, 1) := by decide +kernel
theorem dX3_missed_0 : decode cX3_missed 0 = .ok (.aload_n 0, 1) := by decide +kernel
theorem dX3_missed_1 : decode cX3_missed 1 = .ok (.getfield 18, 3) := by decide +kernel
theorem dX3_missed_4 : decode cX3_missed 4 = .ok (.ireturn, 1) := by decide +kernel
theorem dX3_play_0 : decode cX3_play 0 = .ok (.aload_n 0, 1) := by decide +kernel
theorem dX3_play_1 : decode cX3_play 1 = .ok (.getfield 9, 3) := by decide +kernel
theorem dX3_play_4 : decode cX3_play 4 = .ok (.iconst (-1), 1) := by decide +kernel
theorem dX3_play_5 : decode cX3_play 5 = .ok (.invokestatic 22, 3) := by decide +kernel
theorem dX3_play_8 : decode cX3_play 8 = .ok (.aload_n 0, 1) := by decide +kernel
theorem dX3_play_9 : decode cX3_play 9 = .ok (.getfield 15, 3) := by decide +kernel
theorem dX3_play_12 : decode cX3_play 12 = .ok (.iconst 0, 1) := by decide +kernel
theorem dX3_play_13 : decode cX3_play 13 = .ok (.invokestatic 22, 3) := by decide +kernel
theorem dX3_play_16 : decode cX3_play 16 = .ok (.aload_n 0, 1) := by decide +kernel
theorem dX3_play_17 : decode cX3_play 17 = .ok (.iconst 0, 1) := by decide +kernel
theorem dX3_play_18 : decode cX3_play 18 = .ok (.putfield 18, 3) := by decide +kernel
theorem dX3_play_21 : decode cX3_play 21 = .ok (.iconst 0, 1) := by decide +kernel
theorem dX3_play_22 : decode cX3_play 22 = .ok (.istore_n 3, 1) := by decide +kernel
theorem dX3_play_23 : decode cX3_play 23 = .ok (.iload_n 3, 1) := by decide +kernel
theorem dX3_play_24 : decode cX3_play 24 = .ok (.iload_n 2, 1) := by decide +kernel
theorem dX3_play_25 : decode cX3_play 25 = .ok (.if_icmp .ge 34, 3) := by decide +kernel
theorem dX3_play_28 : decode cX3_play 28 = .ok (.iconst 0, 1) := by decide +kernel
theorem dX3_play_29 : decode cX3_play 29 = .ok (.istore 4, 2) := by decide +kernel
theorem dX3_play_31 : decode cX3_play 31 = .ok (.iload 4, 2) := by decide +kernel
theorem dX3_play_33 : decode cX3_play 33 = .ok (.aload_n 1, 1) := by decide +kernel
theorem dX3_play_34 : decode cX3_play 34 = .ok (.invokevirtual 28, 3) := by decide +kernel
theorem dX3_play_37 : decode cX3_play 37 = .ok (.if_icmp .ge 16, 3) := by decide +kernel
theorem dX3_play_40 : decode cX3_play 40 = .ok (.aload_n 0, 1) := by decide +kernel
theorem dX3_play_41 : decode cX3_play 41 = .ok (.aload_n 1, 1) := by decide +kernel
theorem dX3_play_42 : decode cX3_play 42 = .ok (.iload 4, 2) := by decide +kernel
theorem dX3_play_44 : decode cX3_play 44 = .ok (.invokevirtual 34, 3) := by decide +kernel
theorem dX3_play_47 : decode cX3_play 47 = .ok (.iinc 4 1, 3) := by decide +kernel
theorem dX3_play_50 : decode cX3_play 50 = .ok (.goto (-19), 3) := by decide +kernel
theorem dX3_play_53 : decode cX3_play 53 = .ok (.iinc 3 1, 3) := by decide +kernel
theorem dX3_play_56 : decode cX3_play 56 = .ok (.goto (-33), 3) := by decide +kernel
theorem dX3_play_59 : decode cX3_play 59 = .ok (.return_, 1) := by decide +kernel
theorem dX3_carryOut_0 : decode cX3_carryOut 0 = .ok (.aload_n 1, 1) := by decide +kernel
theorem dX3_carryOut_1 : decode cX3_carryOut 1 = .ok (.iload_n 2, 1) := by decide +kernel
theorem dX3_carryOut_2 : decode cX3_carryOut 2 = .ok (.invokevirtual 38, 3) := by decide +kernel
theorem dX3_carryOut_5 : decode cX3_carryOut 5 = .ok (.istore_n 3, 1) := by decide +kernel
theorem dX3_carryOut_6 : decode cX3_carryOut 6 = .ok (.aload_n 1, 1) := by decide +kernel
theorem dX3_carryOut_7 : decode cX3_carryOut 7 = .ok (.iload_n 2, 1) := by decide +kernel
theorem dX3_carryOut_8 : decode cX3_carryOut 8 = .ok (.invokevirtual 42, 3) := by decide +kernel
theorem dX3_carryOut_11 : decode cX3_carryOut 11 = .ok (.istore 4, 2) := by decide +kernel
theorem dX3_carryOut_13 : decode cX3_carryOut 13 = .ok (.aload_n 1, 1) := by decide +kernel
theorem dX3_carryOut_14 : decode cX3_carryOut 14 = .ok (.iload_n 2, 1) := by decide +kernel
theorem dX3_carryOut_15 : decode cX3_carryOut 15 = .ok (.invokevirtual 45, 3) := by decide +kernel
theorem dX3_carryOut_18 : decode cX3_carryOut 18 = .ok (.tableswitch 66 0 2 #[26, 36, 51], 26) := by decide +kernel
theorem dX3_carryOut_44 : decode cX3_carryOut 44 = .ok (.aload_n 0, 1) := by decide +kernel
theorem dX3_carryOut_45 : decode cX3_carryOut 45 = .ok (.iload_n 3, 1) := by decide +kernel
theorem dX3_carryOut_46 : decode cX3_carryOut 46 = .ok (.iload 4, 2) := by decide +kernel
theorem dX3_carryOut_48 : decode cX3_carryOut 48 = .ok (.invokevirtual 48, 3) := by decide +kernel
theorem dX3_carryOut_51 : decode cX3_carryOut 51 = .ok (.goto 50, 3) := by decide +kernel
theorem dX3_carryOut_54 : decode cX3_carryOut 54 = .ok (.aload_n 0, 1) := by decide +kernel
theorem dX3_carryOut_55 : decode cX3_carryOut 55 = .ok (.iload_n 3, 1) := by decide +kernel
theorem dX3_carryOut_56 : decode cX3_carryOut 56 = .ok (.aload_n 0, 1) := by decide +kernel
theorem dX3_carryOut_57 : decode cX3_carryOut 57 = .ok (.getfield 9, 3) := by decide +kernel
theorem dX3_carryOut_60 : decode cX3_carryOut 60 = .ok (.iload 4, 2) := by decide +kernel
theorem dX3_carryOut_62 : decode cX3_carryOut 62 = .ok (.iaload, 1) := by decide +kernel
theorem dX3_carryOut_63 : decode cX3_carryOut 63 = .ok (.invokevirtual 48, 3) := by decide +kernel
theorem dX3_carryOut_66 : decode cX3_carryOut 66 = .ok (.goto 35, 3) := by decide +kernel
theorem dX3_carryOut_69 : decode cX3_carryOut 69 = .ok (.aload_n 0, 1) := by decide +kernel
theorem dX3_carryOut_70 : decode cX3_carryOut 70 = .ok (.iload_n 3, 1) := by decide +kernel
theorem dX3_carryOut_71 : decode cX3_carryOut 71 = .ok (.aload_n 0, 1) := by decide +kernel
theorem dX3_carryOut_72 : decode cX3_carryOut 72 = .ok (.getfield 9, 3) := by decide +kernel
theorem dX3_carryOut_75 : decode cX3_carryOut 75 = .ok (.iload 4, 2) := by decide +kernel
theorem dX3_carryOut_77 : decode cX3_carryOut 77 = .ok (.iaload, 1) := by decide +kernel
theorem dX3_carryOut_78 : decode cX3_carryOut 78 = .ok (.invokevirtual 52, 3) := by decide +kernel
theorem dX3_carryOut_81 : decode cX3_carryOut 81 = .ok (.goto 20, 3) := by decide +kernel
theorem dX3_carryOut_84 : decode cX3_carryOut 84 = .ok (.aload_n 0, 1) := by decide +kernel
theorem dX3_carryOut_85 : decode cX3_carryOut 85 = .ok (.aload_n 0, 1) := by decide +kernel
theorem dX3_carryOut_86 : decode cX3_carryOut 86 = .ok (.getfield 9, 3) := by decide +kernel
theorem dX3_carryOut_89 : decode cX3_carryOut 89 = .ok (.iload_n 3, 1) := by decide +kernel
theorem dX3_carryOut_90 : decode cX3_carryOut 90 = .ok (.iaload, 1) := by decide +kernel
theorem dX3_carryOut_91 : decode cX3_carryOut 91 = .ok (.aload_n 0, 1) := by decide +kernel
theorem dX3_carryOut_92 : decode cX3_carryOut 92 = .ok (.getfield 9, 3) := by decide +kernel
theorem dX3_carryOut_95 : decode cX3_carryOut 95 = .ok (.iload 4, 2) := by decide +kernel
theorem dX3_carryOut_97 : decode cX3_carryOut 97 = .ok (.iaload, 1) := by decide +kernel
theorem dX3_carryOut_98 : decode cX3_carryOut 98 = .ok (.invokevirtual 55, 3) := by decide +kernel
theorem dX3_carryOut_101 : decode cX3_carryOut 101 = .ok (.return_, 1) := by decide +kernel
theorem dX3_load_0 : decode cX3_load 0 = .ok (.iload_n 2, 1) := by decide +kernel
theorem dX3_load_1 : decode cX3_load 1 = .ok (.iconst (-1), 1) := by decide +kernel
theorem dX3_load_2 : decode cX3_load 2 = .ok (.if_icmp .ne 16, 3) := by decide +kernel
theorem dX3_load_5 : decode cX3_load 5 = .ok (.aload_n 0, 1) := by decide +kernel
theorem dX3_load_6 : decode cX3_load 6 = .ok (.dup, 1) := by decide +kernel
theorem dX3_load_7 : decode cX3_load 7 = .ok (.getfield 18, 3) := by decide +kernel
theorem dX3_load_10 : decode cX3_load 10 = .ok (.iconst 1, 1) := by decide +kernel
theorem dX3_load_11 : decode cX3_load 11 = .ok (.iadd, 1) := by decide +kernel
theorem dX3_load_12 : decode cX3_load 12 = .ok (.putfield 18, 3) := by decide +kernel
theorem dX3_load_15 : decode cX3_load 15 = .ok (.goto 14, 3) := by decide +kernel
theorem dX3_load_18 : decode cX3_load 18 = .ok (.aload_n 0, 1) := by decide +kernel
theorem dX3_load_19 : decode cX3_load 19 = .ok (.iload_n 1, 1) := by decide +kernel
theorem dX3_load_20 : decode cX3_load 20 = .ok (.aload_n 0, 1) := by decide +kernel
theorem dX3_load_21 : decode cX3_load 21 = .ok (.getfield 9, 3) := by decide +kernel
theorem dX3_load_24 : decode cX3_load 24 = .ok (.iload_n 2, 1) := by decide +kernel
theorem dX3_load_25 : decode cX3_load 25 = .ok (.iaload, 1) := by decide +kernel
theorem dX3_load_26 : decode cX3_load 26 = .ok (.invokevirtual 48, 3) := by decide +kernel
theorem dX3_load_29 : decode cX3_load 29 = .ok (.return_, 1) := by decide +kernel
theorem dX3_store_0 : decode cX3_store 0 = .ok (.iload_n 1, 1) := by decide +kernel
theorem dX3_store_1 : decode cX3_store 1 = .ok (.iconst (-1), 1) := by decide +kernel
theorem dX3_store_2 : decode cX3_store 2 = .ok (.if_icmp .ne 16, 3) := by decide +kernel
theorem dX3_store_5 : decode cX3_store 5 = .ok (.aload_n 0, 1) := by decide +kernel
theorem dX3_store_6 : decode cX3_store 6 = .ok (.dup, 1) := by decide +kernel
theorem dX3_store_7 : decode cX3_store 7 = .ok (.getfield 18, 3) := by decide +kernel
theorem dX3_store_10 : decode cX3_store 10 = .ok (.iconst 1, 1) := by decide +kernel
theorem dX3_store_11 : decode cX3_store 11 = .ok (.iadd, 1) := by decide +kernel
theorem dX3_store_12 : decode cX3_store 12 = .ok (.putfield 18, 3) := by decide +kernel
theorem dX3_store_15 : decode cX3_store 15 = .ok (.goto 9, 3) := by decide +kernel
theorem dX3_store_18 : decode cX3_store 18 = .ok (.aload_n 0, 1) := by decide +kernel
theorem dX3_store_19 : decode cX3_store 19 = .ok (.iload_n 1, 1) := by decide +kernel
theorem dX3_store_20 : decode cX3_store 20 = .ok (.iload_n 2, 1) := by decide +kernel
theorem dX3_store_21 : decode cX3_store 21 = .ok (.invokevirtual 48, 3) := by decide +kernel
theorem dX3_store_24 : decode cX3_store 24 = .ok (.return_, 1) := by decide +kernel
theorem dX3_point_0 : decode cX3_point 0 = .ok (.aload_n 0, 1) := by decide +kernel
theorem dX3_point_1 : decode cX3_point 1 = .ok (.getfield 9, 3) := by decide +kernel
theorem dX3_point_4 : decode cX3_point 4 = .ok (.iload_n 1, 1) := by decide +kernel
theorem dX3_point_5 : decode cX3_point 5 = .ok (.iload_n 2, 1) := by decide +kernel
theorem dX3_point_6 : decode cX3_point 6 = .ok (.iastore, 1) := by decide +kernel
theorem dX3_point_7 : decode cX3_point 7 = .ok (.iload_n 2, 1) := by decide +kernel
theorem dX3_point_8 : decode cX3_point 8 = .ok (.iconst (-1), 1) := by decide +kernel
theorem dX3_point_9 : decode cX3_point 9 = .ok (.if_icmp .eq 16, 3) := by decide +kernel
theorem dX3_point_12 : decode cX3_point 12 = .ok (.aload_n 0, 1) := by decide +kernel
theorem dX3_point_13 : decode cX3_point 13 = .ok (.getfield 15, 3) := by decide +kernel
theorem dX3_point_16 : decode cX3_point 16 = .ok (.iload_n 1, 1) := by decide +kernel
theorem dX3_point_17 : decode cX3_point 17 = .ok (.dup2, 1) := by decide +kernel
theorem dX3_point_18 : decode cX3_point 18 = .ok (.iaload, 1) := by decide +kernel
theorem dX3_point_19 : decode cX3_point 19 = .ok (.iload_n 2, 1) := by decide +kernel
theorem dX3_point_20 : decode cX3_point 20 = .ok (.invokestatic 58, 3) := by decide +kernel
theorem dX3_point_23 : decode cX3_point 23 = .ok (.ior, 1) := by decide +kernel
theorem dX3_point_24 : decode cX3_point 24 = .ok (.iastore, 1) := by decide +kernel
theorem dX3_point_25 : decode cX3_point 25 = .ok (.return_, 1) := by decide +kernel
theorem dX4_init_0 : decode cX4_init 0 = .ok (.aload_n 0, 1) := by decide +kernel
theorem dX4_init_1 : decode cX4_init 1 = .ok (.invokespecial 3, 3) := by decide +kernel
theorem dX4_init_4 : decode cX4_init 4 = .ok (.aload_n 0, 1) := by decide +kernel
theorem dX4_init_5 : decode cX4_init 5 = .ok (.iconst 5, 1) := by decide +kernel
theorem dX4_init_6 : decode cX4_init 6 = .ok (.anewarray 9, 3) := by decide +kernel
theorem dX4_init_9 : decode cX4_init 9 = .ok (.putfield 11, 3) := by decide +kernel
theorem dX4_init_12 : decode cX4_init 12 = .ok (.iconst 0, 1) := by decide +kernel
theorem dX4_init_13 : decode cX4_init 13 = .ok (.istore_n 1, 1) := by decide +kernel
theorem dX4_init_14 : decode cX4_init 14 = .ok (.iload_n 1, 1) := by decide +kernel
theorem dX4_init_15 : decode cX4_init 15 = .ok (.iconst 5, 1) := by decide +kernel
theorem dX4_init_16 : decode cX4_init 16 = .ok (.if_icmp .ge 22, 3) := by decide +kernel
theorem dX4_init_19 : decode cX4_init 19 = .ok (.aload_n 0, 1) := by decide +kernel
theorem dX4_init_20 : decode cX4_init 20 = .ok (.getfield 11, 3) := by decide +kernel
theorem dX4_init_23 : decode cX4_init 23 = .ok (.iload_n 1, 1) := by decide +kernel
theorem dX4_init_24 : decode cX4_init 24 = .ok (.new 9, 3) := by decide +kernel
theorem dX4_init_27 : decode cX4_init 27 = .ok (.dup, 1) := by decide +kernel
theorem dX4_init_28 : decode cX4_init 28 = .ok (.invokespecial 17, 3) := by decide +kernel
theorem dX4_init_31 : decode cX4_init 31 = .ok (.aastore, 1) := by decide +kernel
theorem dX4_init_32 : decode cX4_init 32 = .ok (.iinc 1 1, 3) := by decide +kernel
theorem dX4_init_35 : decode cX4_init 35 = .ok (.goto (-21), 3) := by decide +kernel
theorem dX4_init_38 : decode cX4_init 38 = .ok (.return_, 1) := by decide +kernel
theorem dX4_size_0 : decode cX4_size 0 = .ok (.aload_n 0, 1) := by decide +kernel
theorem dX4_size_1 : decode cX4_size 1 = .ok (.getfield 18, 3) := by decide +kernel
theorem dX4_size_4 : decode cX4_size 4 = .ok (.ireturn, 1) := by decide +kernel
theorem dX4_keep_0 : decode cX4_keep 0 = .ok (.aload_n 0, 1) := by decide +kernel
theorem dX4_keep_1 : decode cX4_keep 1 = .ok (.getfield 18, 3) := by decide +kernel
theorem dX4_keep_4 : decode cX4_keep 4 = .ok (.iconst 5, 1) := by decide +kernel
theorem dX4_keep_5 : decode cX4_keep 5 = .ok (.if_icmp .ne 7, 3) := by decide +kernel
theorem dX4_keep_8 : decode cX4_keep 8 = .ok (.aload_n 0, 1) := by decide +kernel
theorem dX4_keep_9 : decode cX4_keep 9 = .ok (.invokevirtual 22, 3) := by decide +kernel
theorem dX4_keep_12 : decode cX4_keep 12 = .ok (.aload_n 0, 1) := by decide +kernel
theorem dX4_keep_13 : decode cX4_keep 13 = .ok (.getfield 11, 3) := by decide +kernel
theorem dX4_keep_16 : decode cX4_keep 16 = .ok (.aload_n 0, 1) := by decide +kernel
theorem dX4_keep_17 : decode cX4_keep 17 = .ok (.getfield 18, 3) := by decide +kernel
theorem dX4_keep_20 : decode cX4_keep 20 = .ok (.aaload, 1) := by decide +kernel
theorem dX4_keep_21 : decode cX4_keep 21 = .ok (.aload_n 1, 1) := by decide +kernel
theorem dX4_keep_22 : decode cX4_keep 22 = .ok (.invokevirtual 25, 3) := by decide +kernel
theorem dX4_keep_25 : decode cX4_keep 25 = .ok (.aload_n 0, 1) := by decide +kernel
theorem dX4_keep_26 : decode cX4_keep 26 = .ok (.dup, 1) := by decide +kernel
theorem dX4_keep_27 : decode cX4_keep 27 = .ok (.getfield 18, 3) := by decide +kernel
theorem dX4_keep_30 : decode cX4_keep 30 = .ok (.iconst 1, 1) := by decide +kernel
theorem dX4_keep_31 : decode cX4_keep 31 = .ok (.iadd, 1) := by decide +kernel
theorem dX4_keep_32 : decode cX4_keep 32 = .ok (.putfield 18, 3) := by decide +kernel
theorem dX4_keep_35 : decode cX4_keep 35 = .ok (.return_, 1) := by decide +kernel
theorem dX4_restore_0 : decode cX4_restore 0 = .ok (.aload_n 0, 1) := by decide +kernel
theorem dX4_restore_1 : decode cX4_restore 1 = .ok (.getfield 18, 3) := by decide +kernel
theorem dX4_restore_4 : decode cX4_restore 4 = .ok (.ifCond .le 26, 3) := by decide +kernel
theorem dX4_restore_7 : decode cX4_restore 7 = .ok (.aload_n 0, 1) := by decide +kernel
theorem dX4_restore_8 : decode cX4_restore 8 = .ok (.dup, 1) := by decide +kernel
theorem dX4_restore_9 : decode cX4_restore 9 = .ok (.getfield 18, 3) := by decide +kernel
theorem dX4_restore_12 : decode cX4_restore 12 = .ok (.iconst 1, 1) := by decide +kernel
theorem dX4_restore_13 : decode cX4_restore 13 = .ok (.isub, 1) := by decide +kernel
theorem dX4_restore_14 : decode cX4_restore 14 = .ok (.putfield 18, 3) := by decide +kernel
theorem dX4_restore_17 : decode cX4_restore 17 = .ok (.aload_n 1, 1) := by decide +kernel
theorem dX4_restore_18 : decode cX4_restore 18 = .ok (.aload_n 0, 1) := by decide +kernel
theorem dX4_restore_19 : decode cX4_restore 19 = .ok (.getfield 11, 3) := by decide +kernel
theorem dX4_restore_22 : decode cX4_restore 22 = .ok (.aload_n 0, 1) := by decide +kernel
theorem dX4_restore_23 : decode cX4_restore 23 = .ok (.getfield 18, 3) := by decide +kernel
theorem dX4_restore_26 : decode cX4_restore 26 = .ok (.aaload, 1) := by decide +kernel
theorem dX4_restore_27 : decode cX4_restore 27 = .ok (.invokevirtual 25, 3) := by decide +kernel
theorem dX4_restore_30 : decode cX4_restore 30 = .ok (.return_, 1) := by decide +kernel
theorem dX4_loseOldest_0 : decode cX4_loseOldest 0 = .ok (.aload_n 0, 1) := by decide +kernel
theorem dX4_loseOldest_1 : decode cX4_loseOldest 1 = .ok (.getfield 11, 3) := by decide +kernel
theorem dX4_loseOldest_4 : decode cX4_loseOldest 4 = .ok (.iconst 0, 1) := by decide +kernel
theorem dX4_loseOldest_5 : decode cX4_loseOldest 5 = .ok (.aaload, 1) := by decide +kernel
theorem dX4_loseOldest_6 : decode cX4_loseOldest 6 = .ok (.astore_n 1, 1) := by decide +kernel
theorem dX4_loseOldest_7 : decode cX4_loseOldest 7 = .ok (.iconst 1, 1) := by decide +kernel
theorem dX4_loseOldest_8 : decode cX4_loseOldest 8 = .ok (.istore_n 2, 1) := by decide +kernel
theorem dX4_loseOldest_9 : decode cX4_loseOldest 9 = .ok (.iload_n 2, 1) := by decide +kernel
theorem dX4_loseOldest_10 : decode cX4_loseOldest 10 = .ok (.iconst 5, 1) := by decide +kernel
theorem dX4_loseOldest_11 : decode cX4_loseOldest 11 = .ok (.if_icmp .ge 23, 3) := by decide +kernel
theorem dX4_loseOldest_14 : decode cX4_loseOldest 14 = .ok (.aload_n 0, 1) := by decide +kernel
theorem dX4_loseOldest_15 : decode cX4_loseOldest 15 = .ok (.getfield 11, 3) := by decide +kernel
theorem dX4_loseOldest_18 : decode cX4_loseOldest 18 = .ok (.iload_n 2, 1) := by decide +kernel
theorem dX4_loseOldest_19 : decode cX4_loseOldest 19 = .ok (.iconst 1, 1) := by decide +kernel
theorem dX4_loseOldest_20 : decode cX4_loseOldest 20 = .ok (.isub, 1) := by decide +kernel
theorem dX4_loseOldest_21 : decode cX4_loseOldest 21 = .ok (.aload_n 0, 1) := by decide +kernel
theorem dX4_loseOldest_22 : decode cX4_loseOldest 22 = .ok (.getfield 11, 3) := by decide +kernel
theorem dX4_loseOldest_25 : decode cX4_loseOldest 25 = .ok (.iload_n 2, 1) := by decide +kernel
theorem dX4_loseOldest_26 : decode cX4_loseOldest 26 = .ok (.aaload, 1) := by decide +kernel
theorem dX4_loseOldest_27 : decode cX4_loseOldest 27 = .ok (.aastore, 1) := by decide +kernel
theorem dX4_loseOldest_28 : decode cX4_loseOldest 28 = .ok (.iinc 2 1, 3) := by decide +kernel
theorem dX4_loseOldest_31 : decode cX4_loseOldest 31 = .ok (.goto (-22), 3) := by decide +kernel
theorem dX4_loseOldest_34 : decode cX4_loseOldest 34 = .ok (.aload_n 0, 1) := by decide +kernel
theorem dX4_loseOldest_35 : decode cX4_loseOldest 35 = .ok (.getfield 11, 3) := by decide +kernel
theorem dX4_loseOldest_38 : decode cX4_loseOldest 38 = .ok (.iconst 4, 1) := by decide +kernel
theorem dX4_loseOldest_39 : decode cX4_loseOldest 39 = .ok (.aload_n 1, 1) := by decide +kernel
theorem dX4_loseOldest_40 : decode cX4_loseOldest 40 = .ok (.aastore, 1) := by decide +kernel
theorem dX4_loseOldest_41 : decode cX4_loseOldest 41 = .ok (.aload_n 0, 1) := by decide +kernel
theorem dX4_loseOldest_42 : decode cX4_loseOldest 42 = .ok (.iconst 4, 1) := by decide +kernel
theorem dX4_loseOldest_43 : decode cX4_loseOldest 43 = .ok (.putfield 18, 3) := by decide +kernel
theorem dX4_loseOldest_46 : decode cX4_loseOldest 46 = .ok (.return_, 1) := by decide +kernel
theorem dX5_init_0 : decode cX5_init 0 = .ok (.aload_n 0, 1) := by decide +kernel
theorem dX5_init_1 : decode cX5_init 1 = .ok (.invokespecial 3, 3) := by decide +kernel
theorem dX5_init_4 : decode cX5_init 4 = .ok (.aload_n 0, 1) := by decide +kernel
theorem dX5_init_5 : decode cX5_init 5 = .ok (.bipush 120, 2) := by decide +kernel
theorem dX5_init_7 : decode cX5_init 7 = .ok (.newarray .int, 2) := by decide +kernel
theorem dX5_init_9 : decode cX5_init 9 = .ok (.putfield 9, 3) := by decide +kernel
theorem dX5_init_12 : decode cX5_init 12 = .ok (.aload_n 0, 1) := by decide +kernel
theorem dX5_init_13 : decode cX5_init 13 = .ok (.new 15, 3) := by decide +kernel
theorem dX5_init_16 : decode cX5_init 16 = .ok (.dup, 1) := by decide +kernel
theorem dX5_init_17 : decode cX5_init 17 = .ok (.invokespecial 17, 3) := by decide +kernel
theorem dX5_init_20 : decode cX5_init 20 = .ok (.putfield 18, 3) := by decide +kernel
theorem dX5_init_23 : decode cX5_init 23 = .ok (.return_, 1) := by decide +kernel
theorem dX5_length_0 : decode cX5_length 0 = .ok (.aload_n 0, 1) := by decide +kernel
theorem dX5_length_1 : decode cX5_length 1 = .ok (.getfield 22, 3) := by decide +kernel
theorem dX5_length_4 : decode cX5_length 4 = .ok (.ireturn, 1) := by decide +kernel
theorem dX5_parsed_0 : decode cX5_parsed 0 = .ok (.aload_n 0, 1) := by decide +kernel
theorem dX5_parsed_1 : decode cX5_parsed 1 = .ok (.getfield 18, 3) := by decide +kernel
theorem dX5_parsed_4 : decode cX5_parsed 4 = .ok (.areturn, 1) := by decide +kernel
theorem dX5_append_0 : decode cX5_append 0 = .ok (.aload_n 0, 1) := by decide +kernel
theorem dX5_append_1 : decode cX5_append 1 = .ok (.getfield 22, 3) := by decide +kernel
theorem dX5_append_4 : decode cX5_append 4 = .ok (.bipush 120, 2) := by decide +kernel
theorem dX5_append_6 : decode cX5_append 6 = .ok (.if_icmp .ge 23, 3) := by decide +kernel
theorem dX5_append_9 : decode cX5_append 9 = .ok (.aload_n 0, 1) := by decide +kernel
theorem dX5_append_10 : decode cX5_append 10 = .ok (.getfield 9, 3) := by decide +kernel
theorem dX5_append_13 : decode cX5_append 13 = .ok (.aload_n 0, 1) := by decide +kernel
theorem dX5_append_14 : decode cX5_append 14 = .ok (.getfield 22, 3) := by decide +kernel
theorem dX5_append_17 : decode cX5_append 17 = .ok (.iload_n 1, 1) := by decide +kernel
theorem dX5_append_18 : decode cX5_append 18 = .ok (.iastore, 1) := by decide +kernel
theorem dX5_append_19 : decode cX5_append 19 = .ok (.aload_n 0, 1) := by decide +kernel
theorem dX5_append_20 : decode cX5_append 20 = .ok (.dup, 1) := by decide +kernel
theorem dX5_append_21 : decode cX5_append 21 = .ok (.getfield 22, 3) := by decide +kernel
theorem dX5_append_24 : decode cX5_append 24 = .ok (.iconst 1, 1) := by decide +kernel
theorem dX5_append_25 : decode cX5_append 25 = .ok (.iadd, 1) := by decide +kernel
theorem dX5_append_26 : decode cX5_append 26 = .ok (.putfield 22, 3) := by decide +kernel
theorem dX5_append_29 : decode cX5_append 29 = .ok (.return_, 1) := by decide +kernel
theorem dX5_empty_0 : decode cX5_empty 0 = .ok (.aload_n 0, 1) := by decide +kernel
theorem dX5_empty_1 : decode cX5_empty 1 = .ok (.iconst 0, 1) := by decide +kernel
theorem dX5_empty_2 : decode cX5_empty 2 = .ok (.putfield 22, 3) := by decide +kernel
theorem dX5_empty_5 : decode cX5_empty 5 = .ok (.return_, 1) := by decide +kernel
theorem dX5_parse_0 : decode cX5_parse 0 = .ok (.aload_n 0, 1) := by decide +kernel
theorem dX5_parse_1 : decode cX5_parse 1 = .ok (.getfield 18, 3) := by decide +kernel
theorem dX5_parse_4 : decode cX5_parse 4 = .ok (.invokevirtual 26, 3) := by decide +kernel
theorem dX5_parse_7 : decode cX5_parse 7 = .ok (.iconst 0, 1) := by decide +kernel
theorem dX5_parse_8 : decode cX5_parse 8 = .ok (.istore_n 1, 1) := by decide +kernel
theorem dX5_parse_9 : decode cX5_parse 9 = .ok (.iconst 0, 1) := by decide +kernel
theorem dX5_parse_10 : decode cX5_parse 10 = .ok (.istore_n 2, 1) := by decide +kernel
theorem dX5_parse_11 : decode cX5_parse 11 = .ok (.iload_n 2, 1) := by decide +kernel
theorem dX5_parse_12 : decode cX5_parse 12 = .ok (.aload_n 0, 1) := by decide +kernel
theorem dX5_parse_13 : decode cX5_parse 13 = .ok (.getfield 22, 3) := by decide +kernel
theorem dX5_parse_16 : decode cX5_parse 16 = .ok (.if_icmp .ge 40, 3) := by decide +kernel
theorem dX5_parse_19 : decode cX5_parse 19 = .ok (.aload_n 0, 1) := by decide +kernel
theorem dX5_parse_20 : decode cX5_parse 20 = .ok (.getfield 9, 3) := by decide +kernel
theorem dX5_parse_23 : decode cX5_parse 23 = .ok (.iload_n 2, 1) := by decide +kernel
theorem dX5_parse_24 : decode cX5_parse 24 = .ok (.iaload, 1) := by decide +kernel
theorem dX5_parse_25 : decode cX5_parse 25 = .ok (.bipush 32, 2) := by decide +kernel
theorem dX5_parse_27 : decode cX5_parse 27 = .ok (.if_icmp .eq 15, 3) := by decide +kernel
theorem dX5_parse_30 : decode cX5_parse 30 = .ok (.aload_n 0, 1) := by decide +kernel
theorem dX5_parse_31 : decode cX5_parse 31 = .ok (.iload_n 1, 1) := by decide +kernel
theorem dX5_parse_32 : decode cX5_parse 32 = .ok (.aload_n 0, 1) := by decide +kernel
theorem dX5_parse_33 : decode cX5_parse 33 = .ok (.getfield 9, 3) := by decide +kernel
theorem dX5_parse_36 : decode cX5_parse 36 = .ok (.iload_n 2, 1) := by decide +kernel
theorem dX5_parse_37 : decode cX5_parse 37 = .ok (.iaload, 1) := by decide +kernel
theorem dX5_parse_38 : decode cX5_parse 38 = .ok (.invokevirtual 29, 3) := by decide +kernel
theorem dX5_parse_41 : decode cX5_parse 41 = .ok (.istore_n 1, 1) := by decide +kernel
theorem dX5_parse_42 : decode cX5_parse 42 = .ok (.iload_n 1, 1) := by decide +kernel
theorem dX5_parse_43 : decode cX5_parse 43 = .ok (.bipush 6, 2) := by decide +kernel
theorem dX5_parse_45 : decode cX5_parse 45 = .ok (.if_icmp .ne 5, 3) := by decide +kernel
theorem dX5_parse_48 : decode cX5_parse 48 = .ok (.iload_n 2, 1) := by decide +kernel
theorem dX5_parse_49 : decode cX5_parse 49 = .ok (.ireturn, 1) := by decide +kernel
theorem dX5_parse_50 : decode cX5_parse 50 = .ok (.iinc 2 1, 3) := by decide +kernel
theorem dX5_parse_53 : decode cX5_parse 53 = .ok (.goto (-42), 3) := by decide +kernel
theorem dX5_parse_56 : decode cX5_parse 56 = .ok (.iload_n 1, 1) := by decide +kernel
theorem dX5_parse_57 : decode cX5_parse 57 = .ok (.ifCond .ne 7, 3) := by decide +kernel
theorem dX5_parse_60 : decode cX5_parse 60 = .ok (.iconst (-1), 1) := by decide +kernel
theorem dX5_parse_61 : decode cX5_parse 61 = .ok (.goto 7, 3) := by decide +kernel
theorem dX5_parse_64 : decode cX5_parse 64 = .ok (.aload_n 0, 1) := by decide +kernel
theorem dX5_parse_65 : decode cX5_parse 65 = .ok (.getfield 22, 3) := by decide +kernel
theorem dX5_parse_68 : decode cX5_parse 68 = .ok (.ireturn, 1) := by decide +kernel
theorem dX5_stepBehind_0 : decode cX5_stepBehind 0 = .ok (.iload_n 1, 1) := by decide +kernel
theorem dX5_stepBehind_1 : decode cX5_stepBehind 1 = .ok (.tableswitch 84 0 4 #[35, 41, 47, 72, 78], 35) := by decide +kernel
theorem dX5_stepBehind_36 : decode cX5_stepBehind 36 = .ok (.aload_n 0, 1) := by decide +kernel
theorem dX5_stepBehind_37 : decode cX5_stepBehind 37 = .ok (.iload_n 2, 1) := by decide +kernel
theorem dX5_stepBehind_38 : decode cX5_stepBehind 38 = .ok (.invokevirtual 33, 3) := by decide +kernel
theorem dX5_stepBehind_41 : decode cX5_stepBehind 41 = .ok (.ireturn, 1) := by decide +kernel
theorem dX5_stepBehind_42 : decode cX5_stepBehind 42 = .ok (.aload_n 0, 1) := by decide +kernel
theorem dX5_stepBehind_43 : decode cX5_stepBehind 43 = .ok (.iload_n 2, 1) := by decide +kernel
theorem dX5_stepBehind_44 : decode cX5_stepBehind 44 = .ok (.invokevirtual 37, 3) := by decide +kernel
theorem dX5_stepBehind_47 : decode cX5_stepBehind 47 = .ok (.ireturn, 1) := by decide +kernel
theorem dX5_stepBehind_48 : decode cX5_stepBehind 48 = .ok (.iload_n 2, 1) := by decide +kernel
theorem dX5_stepBehind_49 : decode cX5_stepBehind 49 = .ok (.bipush 61, 2) := by decide +kernel
theorem dX5_stepBehind_51 : decode cX5_stepBehind 51 = .ok (.if_icmp .ne 19, 3) := by decide +kernel
theorem dX5_stepBehind_54 : decode cX5_stepBehind 54 = .ok (.aload_n 0, 1) := by decide +kernel
theorem dX5_stepBehind_55 : decode cX5_stepBehind 55 = .ok (.getfield 40, 3) := by decide +kernel
theorem dX5_stepBehind_58 : decode cX5_stepBehind 58 = .ok (.iconst 3, 1) := by decide +kernel
theorem dX5_stepBehind_59 : decode cX5_stepBehind 59 = .ok (.if_icmp .ne 7, 3) := by decide +kernel
theorem dX5_stepBehind_62 : decode cX5_stepBehind 62 = .ok (.iconst 4, 1) := by decide +kernel
theorem dX5_stepBehind_63 : decode cX5_stepBehind 63 = .ok (.goto 9, 3) := by decide +kernel
theorem dX5_stepBehind_66 : decode cX5_stepBehind 66 = .ok (.iconst 3, 1) := by decide +kernel
theorem dX5_stepBehind_67 : decode cX5_stepBehind 67 = .ok (.goto 5, 3) := by decide +kernel
theorem dX5_stepBehind_70 : decode cX5_stepBehind 70 = .ok (.bipush 6, 2) := by decide +kernel
theorem dX5_stepBehind_72 : decode cX5_stepBehind 72 = .ok (.ireturn, 1) := by decide +kernel
theorem dX5_stepBehind_73 : decode cX5_stepBehind 73 = .ok (.aload_n 0, 1) := by decide +kernel
theorem dX5_stepBehind_74 : decode cX5_stepBehind 74 = .ok (.iload_n 2, 1) := by decide +kernel
theorem dX5_stepBehind_75 : decode cX5_stepBehind 75 = .ok (.invokevirtual 43, 3) := by decide +kernel
theorem dX5_stepBehind_78 : decode cX5_stepBehind 78 = .ok (.ireturn, 1) := by decide +kernel
theorem dX5_stepBehind_79 : decode cX5_stepBehind 79 = .ok (.aload_n 0, 1) := by decide +kernel
theorem dX5_stepBehind_80 : decode cX5_stepBehind 80 = .ok (.iload_n 2, 1) := by decide +kernel
theorem dX5_stepBehind_81 : decode cX5_stepBehind 81 = .ok (.invokevirtual 46, 3) := by decide +kernel
theorem dX5_stepBehind_84 : decode cX5_stepBehind 84 = .ok (.ireturn, 1) := by decide +kernel
theorem dX5_stepBehind_85 : decode cX5_stepBehind 85 = .ok (.aload_n 0, 1) := by decide +kernel
theorem dX5_stepBehind_86 : decode cX5_stepBehind 86 = .ok (.iload_n 2, 1) := by decide +kernel
theorem dX5_stepBehind_87 : decode cX5_stepBehind 87 = .ok (.invokevirtual 49, 3) := by decide +kernel
theorem dX5_stepBehind_90 : decode cX5_stepBehind 90 = .ok (.ireturn, 1) := by decide +kernel
theorem dX5_behindStart_0 : decode cX5_behindStart 0 = .ok (.aload_n 0, 1) := by decide +kernel
theorem dX5_behindStart_1 : decode cX5_behindStart 1 = .ok (.getfield 18, 3) := by decide +kernel
theorem dX5_behindStart_4 : decode cX5_behindStart 4 = .ok (.invokevirtual 52, 3) := by decide +kernel
theorem dX5_behindStart_7 : decode cX5_behindStart 7 = .ok (.bipush 14, 2) := by decide +kernel
theorem dX5_behindStart_9 : decode cX5_behindStart 9 = .ok (.if_icmp .lt 6, 3) := by decide +kernel
theorem dX5_behindStart_12 : decode cX5_behindStart 12 = .ok (.bipush 6, 2) := by decide +kernel
theorem dX5_behindStart_14 : decode cX5_behindStart 14 = .ok (.ireturn, 1) := by decide +kernel
theorem dX5_behindStart_15 : decode cX5_behindStart 15 = .ok (.aload_n 0, 1) := by decide +kernel
theorem dX5_behindStart_16 : decode cX5_behindStart 16 = .ok (.iload_n 1, 1) := by decide +kernel
theorem dX5_behindStart_17 : decode cX5_behindStart 17 = .ok (.bipush 42, 2) := by decide +kernel
theorem dX5_behindStart_19 : decode cX5_behindStart 19 = .ok (.if_icmp .ne 7, 3) := by decide +kernel
theorem dX5_behindStart_22 : decode cX5_behindStart 22 = .ok (.iconst 3, 1) := by decide +kernel
theorem dX5_behindStart_23 : decode cX5_behindStart 23 = .ok (.goto 4, 3) := by decide +kernel
theorem dX5_behindStart_26 : decode cX5_behindStart 26 = .ok (.iconst 1, 1) := by decide +kernel
theorem dX5_behindStart_27 : decode cX5_behindStart 27 = .ok (.putfield 40, 3) := by decide +kernel
theorem dX5_behindStart_30 : decode cX5_behindStart 30 = .ok (.iload_n 1, 1) := by decide +kernel
theorem dX5_behindStart_31 : decode cX5_behindStart 31 = .ok (.bipush 42, 2) := by decide +kernel
theorem dX5_behindStart_33 : decode cX5_behindStart 33 = .ok (.if_icmp .ne 7, 3) := by decide +kernel
theorem dX5_behindStart_36 : decode cX5_behindStart 36 = .ok (.iconst 1, 1) := by decide +kernel
theorem dX5_behindStart_37 : decode cX5_behindStart 37 = .ok (.goto 8, 3) := by decide +kernel
theorem dX5_behindStart_40 : decode cX5_behindStart 40 = .ok (.aload_n 0, 1) := by decide +kernel
theorem dX5_behindStart_41 : decode cX5_behindStart 41 = .ok (.iload_n 1, 1) := by decide +kernel
theorem dX5_behindStart_42 : decode cX5_behindStart 42 = .ok (.invokevirtual 37, 3) := by decide +kernel
theorem dX5_behindStart_45 : decode cX5_behindStart 45 = .ok (.ireturn, 1) := by decide +kernel
theorem dX5_behindLeftName_0 : decode cX5_behindLeftName 0 = .ok (.aload_n 0, 1) := by decide +kernel
theorem dX5_behindLeftName_1 : decode cX5_behindLeftName 1 = .ok (.iload_n 1, 1) := by decide +kernel
theorem dX5_behindLeftName_2 : decode cX5_behindLeftName 2 = .ok (.bipush 97, 2) := by decide +kernel
theorem dX5_behindLeftName_4 : decode cX5_behindLeftName 4 = .ok (.isub, 1) := by decide +kernel
theorem dX5_behindLeftName_5 : decode cX5_behindLeftName 5 = .ok (.putfield 56, 3) := by decide +kernel
theorem dX5_behindLeftName_8 : decode cX5_behindLeftName 8 = .ok (.aload_n 0, 1) := by decide +kernel
theorem dX5_behindLeftName_9 : decode cX5_behindLeftName 9 = .ok (.getfield 56, 3) := by decide +kernel
theorem dX5_behindLeftName_12 : decode cX5_behindLeftName 12 = .ok (.invokestatic 59, 3) := by decide +kernel
theorem dX5_behindLeftName_15 : decode cX5_behindLeftName 15 = .ok (.ifCond .eq 7, 3) := by decide +kernel
theorem dX5_behindLeftName_18 : decode cX5_behindLeftName 18 = .ok (.iconst 2, 1) := by decide +kernel
theorem dX5_behindLeftName_19 : decode cX5_behindLeftName 19 = .ok (.goto 5, 3) := by decide +kernel
theorem dX5_behindLeftName_22 : decode cX5_behindLeftName 22 = .ok (.bipush 6, 2) := by decide +kernel
theorem dX5_behindLeftName_24 : decode cX5_behindLeftName 24 = .ok (.ireturn, 1) := by decide +kernel
theorem dX5_behindRightSide_0 : decode cX5_behindRightSide 0 = .ok (.iload_n 1, 1) := by decide +kernel
theorem dX5_behindRightSide_1 : decode cX5_behindRightSide 1 = .ok (.bipush 38, 2) := by decide +kernel
theorem dX5_behindRightSide_3 : decode cX5_behindRightSide 3 = .ok (.if_icmp .eq 9, 3) := by decide +kernel
theorem dX5_behindRightSide_6 : decode cX5_behindRightSide 6 = .ok (.iload_n 1, 1) := by decide +kernel
theorem dX5_behindRightSide_7 : decode cX5_behindRightSide 7 = .ok (.bipush 42, 2) := by decide +kernel
theorem dX5_behindRightSide_9 : decode cX5_behindRightSide 9 = .ok (.if_icmp .ne 20, 3) := by decide +kernel
theorem dX5_behindRightSide_12 : decode cX5_behindRightSide 12 = .ok (.aload_n 0, 1) := by decide +kernel
theorem dX5_behindRightSide_13 : decode cX5_behindRightSide 13 = .ok (.iload_n 1, 1) := by decide +kernel
theorem dX5_behindRightSide_14 : decode cX5_behindRightSide 14 = .ok (.bipush 38, 2) := by decide +kernel
theorem dX5_behindRightSide_16 : decode cX5_behindRightSide 16 = .ok (.if_icmp .ne 7, 3) := by decide +kernel
theorem dX5_behindRightSide_19 : decode cX5_behindRightSide 19 = .ok (.iconst 0, 1) := by decide +kernel
theorem dX5_behindRightSide_20 : decode cX5_behindRightSide 20 = .ok (.goto 4, 3) := by decide +kernel
theorem dX5_behindRightSide_23 : decode cX5_behindRightSide 23 = .ok (.iconst 2, 1) := by decide +kernel
theorem dX5_behindRightSide_24 : decode cX5_behindRightSide 24 = .ok (.putfield 40, 3) := by decide +kernel
theorem dX5_behindRightSide_27 : decode cX5_behindRightSide 27 = .ok (.iconst 4, 1) := by decide +kernel
theorem dX5_behindRightSide_28 : decode cX5_behindRightSide 28 = .ok (.ireturn, 1) := by decide +kernel
theorem dX5_behindRightSide_29 : decode cX5_behindRightSide 29 = .ok (.aload_n 0, 1) := by decide +kernel
theorem dX5_behindRightSide_30 : decode cX5_behindRightSide 30 = .ok (.iload_n 1, 1) := by decide +kernel
end
section
theorem dX5_behindRightSide_31 : decode cX5_behindRightSide 31 = .ok (.invokevirtual 46, 3) := by decide +kernel
theorem dX5_behindRightSide_34 : decode cX5_behindRightSide 34 = .ok (.ireturn, 1) := by decide +kernel
theorem dX5_behindRightName_0 : decode cX5_behindRightName 0 = .ok (.aload_n 0, 1) := by decide +kernel
theorem dX5_behindRightName_1 : decode cX5_behindRightName 1 = .ok (.iload_n 1, 1) := by decide +kernel
theorem dX5_behindRightName_2 : decode cX5_behindRightName 2 = .ok (.bipush 97, 2) := by decide +kernel
theorem dX5_behindRightName_4 : decode cX5_behindRightName 4 = .ok (.isub, 1) := by decide +kernel
theorem dX5_behindRightName_5 : decode cX5_behindRightName 5 = .ok (.putfield 63, 3) := by decide +kernel
theorem dX5_behindRightName_8 : decode cX5_behindRightName 8 = .ok (.aload_n 0, 1) := by decide +kernel
theorem dX5_behindRightName_9 : decode cX5_behindRightName 9 = .ok (.getfield 63, 3) := by decide +kernel
theorem dX5_behindRightName_12 : decode cX5_behindRightName 12 = .ok (.invokestatic 59, 3) := by decide +kernel
theorem dX5_behindRightName_15 : decode cX5_behindRightName 15 = .ok (.ifCond .eq 7, 3) := by decide +kernel
theorem dX5_behindRightName_18 : decode cX5_behindRightName 18 = .ok (.iconst 5, 1) := by decide +kernel
theorem dX5_behindRightName_19 : decode cX5_behindRightName 19 = .ok (.goto 5, 3) := by decide +kernel
theorem dX5_behindRightName_22 : decode cX5_behindRightName 22 = .ok (.bipush 6, 2) := by decide +kernel
theorem dX5_behindRightName_24 : decode cX5_behindRightName 24 = .ok (.ireturn, 1) := by decide +kernel
theorem dX5_behindEnd_0 : decode cX5_behindEnd 0 = .ok (.iload_n 1, 1) := by decide +kernel
theorem dX5_behindEnd_1 : decode cX5_behindEnd 1 = .ok (.bipush 59, 2) := by decide +kernel
theorem dX5_behindEnd_3 : decode cX5_behindEnd 3 = .ok (.if_icmp .eq 6, 3) := by decide +kernel
theorem dX5_behindEnd_6 : decode cX5_behindEnd 6 = .ok (.bipush 6, 2) := by decide +kernel
theorem dX5_behindEnd_8 : decode cX5_behindEnd 8 = .ok (.ireturn, 1) := by decide +kernel
theorem dX5_behindEnd_9 : decode cX5_behindEnd 9 = .ok (.aload_n 0, 1) := by decide +kernel
theorem dX5_behindEnd_10 : decode cX5_behindEnd 10 = .ok (.getfield 18, 3) := by decide +kernel
theorem dX5_behindEnd_13 : decode cX5_behindEnd 13 = .ok (.aload_n 0, 1) := by decide +kernel
theorem dX5_behindEnd_14 : decode cX5_behindEnd 14 = .ok (.getfield 40, 3) := by decide +kernel
theorem dX5_behindEnd_17 : decode cX5_behindEnd 17 = .ok (.aload_n 0, 1) := by decide +kernel
theorem dX5_behindEnd_18 : decode cX5_behindEnd 18 = .ok (.getfield 56, 3) := by decide +kernel
theorem dX5_behindEnd_21 : decode cX5_behindEnd 21 = .ok (.aload_n 0, 1) := by decide +kernel
theorem dX5_behindEnd_22 : decode cX5_behindEnd 22 = .ok (.getfield 63, 3) := by decide +kernel
theorem dX5_behindEnd_25 : decode cX5_behindEnd 25 = .ok (.invokevirtual 66, 3) := by decide +kernel
theorem dX5_behindEnd_28 : decode cX5_behindEnd 28 = .ok (.iconst 0, 1) := by decide +kernel
theorem dX5_behindEnd_29 : decode cX5_behindEnd 29 = .ok (.ireturn, 1) := by decide +kernel
theorem dX6_init_0 : decode cX6_init 0 = .ok (.aload_n 0, 1) := by decide +kernel
theorem dX6_init_1 : decode cX6_init 1 = .ok (.invokespecial 1, 3) := by decide +kernel
theorem dX6_init_4 : decode cX6_init 4 = .ok (.aload_n 0, 1) := by decide +kernel
theorem dX6_init_5 : decode cX6_init 5 = .ok (.new 7, 3) := by decide +kernel
theorem dX6_init_8 : decode cX6_init 8 = .ok (.dup, 1) := by decide +kernel
theorem dX6_init_9 : decode cX6_init 9 = .ok (.invokespecial 9, 3) := by decide +kernel
theorem dX6_init_12 : decode cX6_init 12 = .ok (.putfield 10, 3) := by decide +kernel
theorem dX6_init_15 : decode cX6_init 15 = .ok (.aload_n 0, 1) := by decide +kernel
theorem dX6_init_16 : decode cX6_init 16 = .ok (.new 16, 3) := by decide +kernel
theorem dX6_init_19 : decode cX6_init 19 = .ok (.dup, 1) := by decide +kernel
theorem dX6_init_20 : decode cX6_init 20 = .ok (.invokespecial 18, 3) := by decide +kernel
theorem dX6_init_23 : decode cX6_init 23 = .ok (.putfield 19, 3) := by decide +kernel
theorem dX6_init_26 : decode cX6_init 26 = .ok (.aload_n 0, 1) := by decide +kernel
theorem dX6_init_27 : decode cX6_init 27 = .ok (.new 23, 3) := by decide +kernel
theorem dX6_init_30 : decode cX6_init 30 = .ok (.dup, 1) := by decide +kernel
theorem dX6_init_31 : decode cX6_init 31 = .ok (.invokespecial 25, 3) := by decide +kernel
theorem dX6_init_34 : decode cX6_init 34 = .ok (.putfield 26, 3) := by decide +kernel
theorem dX6_init_37 : decode cX6_init 37 = .ok (.aload_n 0, 1) := by decide +kernel
theorem dX6_init_38 : decode cX6_init 38 = .ok (.new 30, 3) := by decide +kernel
theorem dX6_init_41 : decode cX6_init 41 = .ok (.dup, 1) := by decide +kernel
theorem dX6_init_42 : decode cX6_init 42 = .ok (.invokespecial 32, 3) := by decide +kernel
theorem dX6_init_45 : decode cX6_init 45 = .ok (.putfield 33, 3) := by decide +kernel
theorem dX6_init_48 : decode cX6_init 48 = .ok (.aload_n 0, 1) := by decide +kernel
theorem dX6_init_49 : decode cX6_init 49 = .ok (.new 37, 3) := by decide +kernel
theorem dX6_init_52 : decode cX6_init 52 = .ok (.dup, 1) := by decide +kernel
theorem dX6_init_53 : decode cX6_init 53 = .ok (.invokespecial 39, 3) := by decide +kernel
theorem dX6_init_56 : decode cX6_init 56 = .ok (.putfield 40, 3) := by decide +kernel
theorem dX6_init_59 : decode cX6_init 59 = .ok (.aload_n 0, 1) := by decide +kernel
theorem dX6_init_60 : decode cX6_init 60 = .ok (.new 44, 3) := by decide +kernel
theorem dX6_init_63 : decode cX6_init 63 = .ok (.dup, 1) := by decide +kernel
theorem dX6_init_64 : decode cX6_init 64 = .ok (.invokespecial 46, 3) := by decide +kernel
theorem dX6_init_67 : decode cX6_init 67 = .ok (.putfield 47, 3) := by decide +kernel
theorem dX6_init_70 : decode cX6_init 70 = .ok (.return_, 1) := by decide +kernel
theorem dX6_line_0 : decode cX6_line 0 = .ok (.iload_n 1, 1) := by decide +kernel
theorem dX6_line_1 : decode cX6_line 1 = .ok (.iconst 4, 1) := by decide +kernel
theorem dX6_line_2 : decode cX6_line 2 = .ok (.invokestatic 51, 3) := by decide +kernel
theorem dX6_line_5 : decode cX6_line 5 = .ok (.ifCond .eq 17, 3) := by decide +kernel
theorem dX6_line_8 : decode cX6_line 8 = .ok (.iload_n 2, 1) := by decide +kernel
theorem dX6_line_9 : decode cX6_line 9 = .ok (.invokestatic 55, 3) := by decide +kernel
theorem dX6_line_12 : decode cX6_line 12 = .ok (.ifCond .eq 10, 3) := by decide +kernel
theorem dX6_line_15 : decode cX6_line 15 = .ok (.iload_n 3, 1) := by decide +kernel
theorem dX6_line_16 : decode cX6_line 16 = .ok (.invokestatic 55, 3) := by decide +kernel
theorem dX6_line_19 : decode cX6_line 19 = .ok (.ifCond .ne 8, 3) := by decide +kernel
theorem dX6_line_22 : decode cX6_line 22 = .ok (.aload_n 0, 1) := by decide +kernel
theorem dX6_line_23 : decode cX6_line 23 = .ok (.invokevirtual 59, 3) := by decide +kernel
theorem dX6_line_26 : decode cX6_line 26 = .ok (.ireturn, 1) := by decide +kernel
theorem dX6_line_27 : decode cX6_line 27 = .ok (.aload_n 0, 1) := by decide +kernel
theorem dX6_line_28 : decode cX6_line 28 = .ok (.getfield 10, 3) := by decide +kernel
theorem dX6_line_31 : decode cX6_line 31 = .ok (.invokevirtual 63, 3) := by decide +kernel
theorem dX6_line_34 : decode cX6_line 34 = .ok (.bipush 14, 2) := by decide +kernel
theorem dX6_line_36 : decode cX6_line 36 = .ok (.if_icmp .lt 8, 3) := by decide +kernel
theorem dX6_line_39 : decode cX6_line 39 = .ok (.aload_n 0, 1) := by decide +kernel
theorem dX6_line_40 : decode cX6_line 40 = .ok (.invokevirtual 66, 3) := by decide +kernel
theorem dX6_line_43 : decode cX6_line 43 = .ok (.ireturn, 1) := by decide +kernel
theorem dX6_line_44 : decode cX6_line 44 = .ok (.aload_n 0, 1) := by decide +kernel
theorem dX6_line_45 : decode cX6_line 45 = .ok (.getfield 19, 3) := by decide +kernel
theorem dX6_line_48 : decode cX6_line 48 = .ok (.aload_n 0, 1) := by decide +kernel
theorem dX6_line_49 : decode cX6_line 49 = .ok (.getfield 10, 3) := by decide +kernel
theorem dX6_line_52 : decode cX6_line 52 = .ok (.invokevirtual 69, 3) := by decide +kernel
theorem dX6_line_55 : decode cX6_line 55 = .ok (.aload_n 0, 1) := by decide +kernel
theorem dX6_line_56 : decode cX6_line 56 = .ok (.getfield 10, 3) := by decide +kernel
theorem dX6_line_59 : decode cX6_line 59 = .ok (.iload_n 1, 1) := by decide +kernel
theorem dX6_line_60 : decode cX6_line 60 = .ok (.iload_n 2, 1) := by decide +kernel
theorem dX6_line_61 : decode cX6_line 61 = .ok (.iload_n 3, 1) := by decide +kernel
theorem dX6_line_62 : decode cX6_line 62 = .ok (.invokevirtual 73, 3) := by decide +kernel
theorem dX6_line_65 : decode cX6_line 65 = .ok (.aload_n 0, 1) := by decide +kernel
theorem dX6_line_66 : decode cX6_line 66 = .ok (.getfield 10, 3) := by decide +kernel
theorem dX6_line_69 : decode cX6_line 69 = .ok (.invokevirtual 63, 3) := by decide +kernel
theorem dX6_line_72 : decode cX6_line 72 = .ok (.iconst 1, 1) := by decide +kernel
theorem dX6_line_73 : decode cX6_line 73 = .ok (.isub, 1) := by decide +kernel
theorem dX6_line_74 : decode cX6_line 74 = .ok (.ireturn, 1) := by decide +kernel
theorem dX6_drops_0 : decode cX6_drops 0 = .ok (.aload_n 0, 1) := by decide +kernel
theorem dX6_drops_1 : decode cX6_drops 1 = .ok (.iload_n 1, 1) := by decide +kernel
theorem dX6_drops_2 : decode cX6_drops 2 = .ok (.invokevirtual 77, 3) := by decide +kernel
theorem dX6_drops_5 : decode cX6_drops 5 = .ok (.ifCond .ne 8, 3) := by decide +kernel
theorem dX6_drops_8 : decode cX6_drops 8 = .ok (.aload_n 0, 1) := by decide +kernel
theorem dX6_drops_9 : decode cX6_drops 9 = .ok (.invokevirtual 59, 3) := by decide +kernel
theorem dX6_drops_12 : decode cX6_drops 12 = .ok (.ireturn, 1) := by decide +kernel
theorem dX6_drops_13 : decode cX6_drops 13 = .ok (.aload_n 0, 1) := by decide +kernel
theorem dX6_drops_14 : decode cX6_drops 14 = .ok (.getfield 19, 3) := by decide +kernel
theorem dX6_drops_17 : decode cX6_drops 17 = .ok (.aload_n 0, 1) := by decide +kernel
theorem dX6_drops_18 : decode cX6_drops 18 = .ok (.getfield 10, 3) := by decide +kernel
theorem dX6_drops_21 : decode cX6_drops 21 = .ok (.invokevirtual 69, 3) := by decide +kernel
theorem dX6_drops_24 : decode cX6_drops 24 = .ok (.aload_n 0, 1) := by decide +kernel
theorem dX6_drops_25 : decode cX6_drops 25 = .ok (.getfield 10, 3) := by decide +kernel
theorem dX6_drops_28 : decode cX6_drops 28 = .ok (.iload_n 1, 1) := by decide +kernel
theorem dX6_drops_29 : decode cX6_drops 29 = .ok (.invokevirtual 80, 3) := by decide +kernel
theorem dX6_drops_32 : decode cX6_drops 32 = .ok (.aload_n 0, 1) := by decide +kernel
theorem dX6_drops_33 : decode cX6_drops 33 = .ok (.getfield 10, 3) := by decide +kernel
theorem dX6_drops_36 : decode cX6_drops 36 = .ok (.invokevirtual 63, 3) := by decide +kernel
theorem dX6_drops_39 : decode cX6_drops 39 = .ok (.ireturn, 1) := by decide +kernel
theorem dX6_moves_0 : decode cX6_moves 0 = .ok (.aload_n 0, 1) := by decide +kernel
theorem dX6_moves_1 : decode cX6_moves 1 = .ok (.iload_n 1, 1) := by decide +kernel
theorem dX6_moves_2 : decode cX6_moves 2 = .ok (.invokevirtual 77, 3) := by decide +kernel
theorem dX6_moves_5 : decode cX6_moves 5 = .ok (.ifCond .eq 11, 3) := by decide +kernel
theorem dX6_moves_8 : decode cX6_moves 8 = .ok (.aload_n 0, 1) := by decide +kernel
theorem dX6_moves_9 : decode cX6_moves 9 = .ok (.iload_n 2, 1) := by decide +kernel
theorem dX6_moves_10 : decode cX6_moves 10 = .ok (.invokevirtual 77, 3) := by decide +kernel
theorem dX6_moves_13 : decode cX6_moves 13 = .ok (.ifCond .ne 8, 3) := by decide +kernel
theorem dX6_moves_16 : decode cX6_moves 16 = .ok (.aload_n 0, 1) := by decide +kernel
theorem dX6_moves_17 : decode cX6_moves 17 = .ok (.invokevirtual 59, 3) := by decide +kernel
theorem dX6_moves_20 : decode cX6_moves 20 = .ok (.ireturn, 1) := by decide +kernel
theorem dX6_moves_21 : decode cX6_moves 21 = .ok (.aload_n 0, 1) := by decide +kernel
theorem dX6_moves_22 : decode cX6_moves 22 = .ok (.getfield 19, 3) := by decide +kernel
theorem dX6_moves_25 : decode cX6_moves 25 = .ok (.aload_n 0, 1) := by decide +kernel
theorem dX6_moves_26 : decode cX6_moves 26 = .ok (.getfield 10, 3) := by decide +kernel
theorem dX6_moves_29 : decode cX6_moves 29 = .ok (.invokevirtual 69, 3) := by decide +kernel
theorem dX6_moves_32 : decode cX6_moves 32 = .ok (.aload_n 0, 1) := by decide +kernel
theorem dX6_moves_33 : decode cX6_moves 33 = .ok (.getfield 10, 3) := by decide +kernel
theorem dX6_moves_36 : decode cX6_moves 36 = .ok (.iload_n 1, 1) := by decide +kernel
theorem dX6_moves_37 : decode cX6_moves 37 = .ok (.iload_n 2, 1) := by decide +kernel
theorem dX6_moves_38 : decode cX6_moves 38 = .ok (.invokevirtual 84, 3) := by decide +kernel
theorem dX6_moves_41 : decode cX6_moves 41 = .ok (.iload_n 1, 1) := by decide +kernel
theorem dX6_moves_42 : decode cX6_moves 42 = .ok (.ireturn, 1) := by decide +kernel
theorem dX6_of_0 : decode cX6_of 0 = .ok (.aload_n 0, 1) := by decide +kernel
theorem dX6_of_1 : decode cX6_of 1 = .ok (.iload_n 1, 1) := by decide +kernel
theorem dX6_of_2 : decode cX6_of 2 = .ok (.invokevirtual 77, 3) := by decide +kernel
theorem dX6_of_5 : decode cX6_of 5 = .ok (.ifCond .eq 11, 3) := by decide +kernel
theorem dX6_of_8 : decode cX6_of 8 = .ok (.iload_n 2, 1) := by decide +kernel
theorem dX6_of_9 : decode cX6_of 9 = .ok (.iconst 5, 1) := by decide +kernel
theorem dX6_of_10 : decode cX6_of 10 = .ok (.invokestatic 51, 3) := by decide +kernel
theorem dX6_of_13 : decode cX6_of 13 = .ok (.ifCond .ne 8, 3) := by decide +kernel
theorem dX6_of_16 : decode cX6_of 16 = .ok (.aload_n 0, 1) := by decide +kernel
theorem dX6_of_17 : decode cX6_of 17 = .ok (.invokevirtual 59, 3) := by decide +kernel
theorem dX6_of_20 : decode cX6_of 20 = .ok (.ireturn, 1) := by decide +kernel
theorem dX6_of_21 : decode cX6_of 21 = .ok (.aload_n 0, 1) := by decide +kernel
theorem dX6_of_22 : decode cX6_of 22 = .ok (.getfield 33, 3) := by decide +kernel
theorem dX6_of_25 : decode cX6_of 25 = .ok (.aload_n 0, 1) := by decide +kernel
theorem dX6_of_26 : decode cX6_of 26 = .ok (.getfield 10, 3) := by decide +kernel
theorem dX6_of_29 : decode cX6_of 29 = .ok (.iconst (-1), 1) := by decide +kernel
theorem dX6_of_30 : decode cX6_of 30 = .ok (.invokevirtual 88, 3) := by decide +kernel
theorem dX6_of_33 : decode cX6_of 33 = .ok (.aload_n 0, 1) := by decide +kernel
theorem dX6_of_34 : decode cX6_of 34 = .ok (.iload_n 1, 1) := by decide +kernel
theorem dX6_of_35 : decode cX6_of 35 = .ok (.iload_n 2, 1) := by decide +kernel
theorem dX6_of_36 : decode cX6_of 36 = .ok (.invokevirtual 92, 3) := by decide +kernel
theorem dX6_of_39 : decode cX6_of 39 = .ok (.ireturn, 1) := by decide +kernel
theorem dX6_clash_0 : decode cX6_clash 0 = .ok (.aload_n 0, 1) := by decide +kernel
theorem dX6_clash_1 : decode cX6_clash 1 = .ok (.iload_n 1, 1) := by decide +kernel
theorem dX6_clash_2 : decode cX6_clash 2 = .ok (.invokevirtual 77, 3) := by decide +kernel
theorem dX6_clash_5 : decode cX6_clash 5 = .ok (.ifCond .eq 16, 3) := by decide +kernel
theorem dX6_clash_8 : decode cX6_clash 8 = .ok (.aload_n 0, 1) := by decide +kernel
theorem dX6_clash_9 : decode cX6_clash 9 = .ok (.iload_n 2, 1) := by decide +kernel
theorem dX6_clash_10 : decode cX6_clash 10 = .ok (.invokevirtual 77, 3) := by decide +kernel
theorem dX6_clash_13 : decode cX6_clash 13 = .ok (.ifCond .eq 8, 3) := by decide +kernel
theorem dX6_clash_16 : decode cX6_clash 16 = .ok (.iload_n 1, 1) := by decide +kernel
theorem dX6_clash_17 : decode cX6_clash 17 = .ok (.iload_n 2, 1) := by decide +kernel
theorem dX6_clash_18 : decode cX6_clash 18 = .ok (.if_icmp .ne 8, 3) := by decide +kernel
theorem dX6_clash_21 : decode cX6_clash 21 = .ok (.aload_n 0, 1) := by decide +kernel
theorem dX6_clash_22 : decode cX6_clash 22 = .ok (.invokevirtual 59, 3) := by decide +kernel
theorem dX6_clash_25 : decode cX6_clash 25 = .ok (.ireturn, 1) := by decide +kernel
theorem dX6_clash_26 : decode cX6_clash 26 = .ok (.aload_n 0, 1) := by decide +kernel
theorem dX6_clash_27 : decode cX6_clash 27 = .ok (.getfield 33, 3) := by decide +kernel
theorem dX6_clash_30 : decode cX6_clash 30 = .ok (.aload_n 0, 1) := by decide +kernel
theorem dX6_clash_31 : decode cX6_clash 31 = .ok (.getfield 10, 3) := by decide +kernel
theorem dX6_clash_34 : decode cX6_clash 34 = .ok (.iconst (-1), 1) := by decide +kernel
theorem dX6_clash_35 : decode cX6_clash 35 = .ok (.invokevirtual 88, 3) := by decide +kernel
theorem dX6_clash_38 : decode cX6_clash 38 = .ok (.aload_n 0, 1) := by decide +kernel
theorem dX6_clash_39 : decode cX6_clash 39 = .ok (.iload_n 1, 1) := by decide +kernel
theorem dX6_clash_40 : decode cX6_clash 40 = .ok (.iload_n 2, 1) := by decide +kernel
theorem dX6_clash_41 : decode cX6_clash 41 = .ok (.invokevirtual 96, 3) := by decide +kernel
theorem dX6_clash_44 : decode cX6_clash 44 = .ok (.ifCond .ne 12, 3) := by decide +kernel
theorem dX6_clash_47 : decode cX6_clash 47 = .ok (.aload_n 0, 1) := by decide +kernel
theorem dX6_clash_48 : decode cX6_clash 48 = .ok (.iload_n 2, 1) := by decide +kernel
theorem dX6_clash_49 : decode cX6_clash 49 = .ok (.iload_n 1, 1) := by decide +kernel
theorem dX6_clash_50 : decode cX6_clash 50 = .ok (.invokevirtual 96, 3) := by decide +kernel
theorem dX6_clash_53 : decode cX6_clash 53 = .ok (.ifCond .eq 7, 3) := by decide +kernel
theorem dX6_clash_56 : decode cX6_clash 56 = .ok (.iconst 1, 1) := by decide +kernel
theorem dX6_clash_57 : decode cX6_clash 57 = .ok (.goto 4, 3) := by decide +kernel
theorem dX6_clash_60 : decode cX6_clash 60 = .ok (.iconst 0, 1) := by decide +kernel
theorem dX6_clash_61 : decode cX6_clash 61 = .ok (.invokestatic 99, 3) := by decide +kernel
theorem dX6_clash_64 : decode cX6_clash 64 = .ok (.ireturn, 1) := by decide +kernel
theorem dX6_fine_0 : decode cX6_fine 0 = .ok (.iload_n 1, 1) := by decide +kernel
theorem dX6_fine_1 : decode cX6_fine 1 = .ok (.invokestatic 55, 3) := by decide +kernel
theorem dX6_fine_4 : decode cX6_fine 4 = .ok (.ifCond .ne 8, 3) := by decide +kernel
theorem dX6_fine_7 : decode cX6_fine 7 = .ok (.aload_n 0, 1) := by decide +kernel
theorem dX6_fine_8 : decode cX6_fine 8 = .ok (.invokevirtual 59, 3) := by decide +kernel
theorem dX6_fine_11 : decode cX6_fine 11 = .ok (.ireturn, 1) := by decide +kernel
theorem dX6_fine_12 : decode cX6_fine 12 = .ok (.aload_n 0, 1) := by decide +kernel
theorem dX6_fine_13 : decode cX6_fine 13 = .ok (.getfield 33, 3) := by decide +kernel
theorem dX6_fine_16 : decode cX6_fine 16 = .ok (.aload_n 0, 1) := by decide +kernel
theorem dX6_fine_17 : decode cX6_fine 17 = .ok (.getfield 10, 3) := by decide +kernel
theorem dX6_fine_20 : decode cX6_fine 20 = .ok (.iconst (-1), 1) := by decide +kernel
theorem dX6_fine_21 : decode cX6_fine 21 = .ok (.invokevirtual 88, 3) := by decide +kernel
theorem dX6_fine_24 : decode cX6_fine 24 = .ok (.aload_n 0, 1) := by decide +kernel
theorem dX6_fine_25 : decode cX6_fine 25 = .ok (.getfield 33, 3) := by decide +kernel
theorem dX6_fine_28 : decode cX6_fine 28 = .ok (.iload_n 1, 1) := by decide +kernel
theorem dX6_fine_29 : decode cX6_fine 29 = .ok (.invokevirtual 103, 3) := by decide +kernel
theorem dX6_fine_32 : decode cX6_fine 32 = .ok (.ireturn, 1) := by decide +kernel
theorem dX6_coarse_0 : decode cX6_coarse 0 = .ok (.iload_n 1, 1) := by decide +kernel
theorem dX6_coarse_1 : decode cX6_coarse 1 = .ok (.invokestatic 55, 3) := by decide +kernel
theorem dX6_coarse_4 : decode cX6_coarse 4 = .ok (.ifCond .ne 8, 3) := by decide +kernel
theorem dX6_coarse_7 : decode cX6_coarse 7 = .ok (.aload_n 0, 1) := by decide +kernel
theorem dX6_coarse_8 : decode cX6_coarse 8 = .ok (.invokevirtual 59, 3) := by decide +kernel
theorem dX6_coarse_11 : decode cX6_coarse 11 = .ok (.ireturn, 1) := by decide +kernel
theorem dX6_coarse_12 : decode cX6_coarse 12 = .ok (.aload_n 0, 1) := by decide +kernel
theorem dX6_coarse_13 : decode cX6_coarse 13 = .ok (.getfield 40, 3) := by decide +kernel
theorem dX6_coarse_16 : decode cX6_coarse 16 = .ok (.aload_n 0, 1) := by decide +kernel
theorem dX6_coarse_17 : decode cX6_coarse 17 = .ok (.getfield 10, 3) := by decide +kernel
theorem dX6_coarse_20 : decode cX6_coarse 20 = .ok (.iconst (-1), 1) := by decide +kernel
theorem dX6_coarse_21 : decode cX6_coarse 21 = .ok (.invokevirtual 107, 3) := by decide +kernel
theorem dX6_coarse_24 : decode cX6_coarse 24 = .ok (.aload_n 0, 1) := by decide +kernel
theorem dX6_coarse_25 : decode cX6_coarse 25 = .ok (.getfield 40, 3) := by decide +kernel
theorem dX6_coarse_28 : decode cX6_coarse 28 = .ok (.iload_n 1, 1) := by decide +kernel
theorem dX6_coarse_29 : decode cX6_coarse 29 = .ok (.invokevirtual 108, 3) := by decide +kernel
theorem dX6_coarse_32 : decode cX6_coarse 32 = .ok (.ireturn, 1) := by decide +kernel
theorem dX6_group_0 : decode cX6_group 0 = .ok (.iload_n 1, 1) := by decide +kernel
theorem dX6_group_1 : decode cX6_group 1 = .ok (.invokestatic 55, 3) := by decide +kernel
theorem dX6_group_4 : decode cX6_group 4 = .ok (.ifCond .eq 11, 3) := by decide +kernel
theorem dX6_group_7 : decode cX6_group 7 = .ok (.iload_n 2, 1) := by decide +kernel
theorem dX6_group_8 : decode cX6_group 8 = .ok (.iconst 3, 1) := by decide +kernel
theorem dX6_group_9 : decode cX6_group 9 = .ok (.invokestatic 51, 3) := by decide +kernel
theorem dX6_group_12 : decode cX6_group 12 = .ok (.ifCond .ne 8, 3) := by decide +kernel
theorem dX6_group_15 : decode cX6_group 15 = .ok (.aload_n 0, 1) := by decide +kernel
theorem dX6_group_16 : decode cX6_group 16 = .ok (.invokevirtual 59, 3) := by decide +kernel
theorem dX6_group_19 : decode cX6_group 19 = .ok (.ireturn, 1) := by decide +kernel
theorem dX6_group_20 : decode cX6_group 20 = .ok (.aload_n 0, 1) := by decide +kernel
theorem dX6_group_21 : decode cX6_group 21 = .ok (.getfield 40, 3) := by decide +kernel
theorem dX6_group_24 : decode cX6_group 24 = .ok (.aload_n 0, 1) := by decide +kernel
theorem dX6_group_25 : decode cX6_group 25 = .ok (.getfield 10, 3) := by decide +kernel
theorem dX6_group_28 : decode cX6_group 28 = .ok (.iconst (-1), 1) := by decide +kernel
theorem dX6_group_29 : decode cX6_group 29 = .ok (.invokevirtual 107, 3) := by decide +kernel
theorem dX6_group_32 : decode cX6_group 32 = .ok (.aload_n 0, 1) := by decide +kernel
theorem dX6_group_33 : decode cX6_group 33 = .ok (.iload_n 1, 1) := by decide +kernel
theorem dX6_group_34 : decode cX6_group 34 = .ok (.iload_n 2, 1) := by decide +kernel
theorem dX6_group_35 : decode cX6_group 35 = .ok (.invokevirtual 109, 3) := by decide +kernel
theorem dX6_group_38 : decode cX6_group 38 = .ok (.ireturn, 1) := by decide +kernel
theorem dX6_count_0 : decode cX6_count 0 = .ok (.iload_n 1, 1) := by decide +kernel
theorem dX6_count_1 : decode cX6_count 1 = .ok (.iconst 5, 1) := by decide +kernel
theorem dX6_count_2 : decode cX6_count 2 = .ok (.invokestatic 51, 3) := by decide +kernel
theorem dX6_count_5 : decode cX6_count 5 = .ok (.ifCond .ne 8, 3) := by decide +kernel
theorem dX6_count_8 : decode cX6_count 8 = .ok (.aload_n 0, 1) := by decide +kernel
theorem dX6_count_9 : decode cX6_count 9 = .ok (.invokevirtual 59, 3) := by decide +kernel
theorem dX6_count_12 : decode cX6_count 12 = .ok (.ireturn, 1) := by decide +kernel
theorem dX6_count_13 : decode cX6_count 13 = .ok (.aload_n 0, 1) := by decide +kernel
theorem dX6_count_14 : decode cX6_count 14 = .ok (.getfield 33, 3) := by decide +kernel
theorem dX6_count_17 : decode cX6_count 17 = .ok (.aload_n 0, 1) := by decide +kernel
theorem dX6_count_18 : decode cX6_count 18 = .ok (.getfield 10, 3) := by decide +kernel
theorem dX6_count_21 : decode cX6_count 21 = .ok (.iconst (-1), 1) := by decide +kernel
theorem dX6_count_22 : decode cX6_count 22 = .ok (.invokevirtual 88, 3) := by decide +kernel
theorem dX6_count_25 : decode cX6_count 25 = .ok (.aload_n 0, 1) := by decide +kernel
theorem dX6_count_26 : decode cX6_count 26 = .ok (.getfield 40, 3) := by decide +kernel
theorem dX6_count_29 : decode cX6_count 29 = .ok (.aload_n 0, 1) := by decide +kernel
theorem dX6_count_30 : decode cX6_count 30 = .ok (.getfield 10, 3) := by decide +kernel
theorem dX6_count_33 : decode cX6_count 33 = .ok (.iconst (-1), 1) := by decide +kernel
theorem dX6_count_34 : decode cX6_count 34 = .ok (.invokevirtual 107, 3) := by decide +kernel
theorem dX6_count_37 : decode cX6_count 37 = .ok (.aload_n 0, 1) := by decide +kernel
theorem dX6_count_38 : decode cX6_count 38 = .ok (.iload_n 1, 1) := by decide +kernel
theorem dX6_count_39 : decode cX6_count 39 = .ok (.invokevirtual 112, 3) := by decide +kernel
theorem dX6_count_42 : decode cX6_count 42 = .ok (.ireturn, 1) := by decide +kernel
theorem dX6_alias_0 : decode cX6_alias 0 = .ok (.iload_n 1, 1) := by decide +kernel
theorem dX6_alias_1 : decode cX6_alias 1 = .ok (.invokestatic 55, 3) := by decide +kernel
theorem dX6_alias_4 : decode cX6_alias 4 = .ok (.ifCond .eq 18, 3) := by decide +kernel
theorem dX6_alias_7 : decode cX6_alias 7 = .ok (.iload_n 2, 1) := by decide +kernel
theorem dX6_alias_8 : decode cX6_alias 8 = .ok (.invokestatic 55, 3) := by decide +kernel
theorem dX6_alias_11 : decode cX6_alias 11 = .ok (.ifCond .eq 11, 3) := by decide +kernel
theorem dX6_alias_14 : decode cX6_alias 14 = .ok (.iload_n 3, 1) := by decide +kernel
theorem dX6_alias_15 : decode cX6_alias 15 = .ok (.iconst 2, 1) := by decide +kernel
theorem dX6_alias_16 : decode cX6_alias 16 = .ok (.invokestatic 51, 3) := by decide +kernel
theorem dX6_alias_19 : decode cX6_alias 19 = .ok (.ifCond .ne 8, 3) := by decide +kernel
theorem dX6_alias_22 : decode cX6_alias 22 = .ok (.aload_n 0, 1) := by decide +kernel
theorem dX6_alias_23 : decode cX6_alias 23 = .ok (.invokevirtual 59, 3) := by decide +kernel
theorem dX6_alias_26 : decode cX6_alias 26 = .ok (.ireturn, 1) := by decide +kernel
theorem dX6_alias_27 : decode cX6_alias 27 = .ok (.aload_n 0, 1) := by decide +kernel
theorem dX6_alias_28 : decode cX6_alias 28 = .ok (.iload_n 1, 1) := by decide +kernel
theorem dX6_alias_29 : decode cX6_alias 29 = .ok (.iload_n 3, 1) := by decide +kernel
theorem dX6_alias_30 : decode cX6_alias 30 = .ok (.iconst (-1), 1) := by decide +kernel
theorem dX6_alias_31 : decode cX6_alias 31 = .ok (.invokevirtual 115, 3) := by decide +kernel
theorem dX6_alias_34 : decode cX6_alias 34 = .ok (.aload_n 0, 1) := by decide +kernel
theorem dX6_alias_35 : decode cX6_alias 35 = .ok (.iload_n 2, 1) := by decide +kernel
theorem dX6_alias_36 : decode cX6_alias 36 = .ok (.iload_n 3, 1) := by decide +kernel
theorem dX6_alias_37 : decode cX6_alias 37 = .ok (.iconst (-1), 1) := by decide +kernel
theorem dX6_alias_38 : decode cX6_alias 38 = .ok (.invokevirtual 115, 3) := by decide +kernel
theorem dX6_alias_41 : decode cX6_alias 41 = .ok (.iand, 1) := by decide +kernel
theorem dX6_alias_42 : decode cX6_alias 42 = .ok (.ifCond .eq 7, 3) := by decide +kernel
theorem dX6_alias_45 : decode cX6_alias 45 = .ok (.iconst 1, 1) := by decide +kernel
theorem dX6_alias_46 : decode cX6_alias 46 = .ok (.goto 4, 3) := by decide +kernel
theorem dX6_alias_49 : decode cX6_alias 49 = .ok (.iconst 0, 1) := by decide +kernel
theorem dX6_alias_50 : decode cX6_alias 50 = .ok (.invokestatic 99, 3) := by decide +kernel
theorem dX6_alias_53 : decode cX6_alias 53 = .ok (.ireturn, 1) := by decide +kernel
theorem dX6_without_0 : decode cX6_without 0 = .ok (.aload_n 0, 1) := by decide +kernel
theorem dX6_without_1 : decode cX6_without 1 = .ok (.iload_n 1, 1) := by decide +kernel
theorem dX6_without_2 : decode cX6_without 2 = .ok (.invokevirtual 77, 3) := by decide +kernel
theorem dX6_without_5 : decode cX6_without 5 = .ok (.ifCond .eq 18, 3) := by decide +kernel
theorem dX6_without_8 : decode cX6_without 8 = .ok (.iload_n 2, 1) := by decide +kernel
theorem dX6_without_9 : decode cX6_without 9 = .ok (.invokestatic 55, 3) := by decide +kernel
theorem dX6_without_12 : decode cX6_without 12 = .ok (.ifCond .eq 11, 3) := by decide +kernel
theorem dX6_without_15 : decode cX6_without 15 = .ok (.iload_n 3, 1) := by decide +kernel
theorem dX6_without_16 : decode cX6_without 16 = .ok (.iconst 2, 1) := by decide +kernel
theorem dX6_without_17 : decode cX6_without 17 = .ok (.invokestatic 51, 3) := by decide +kernel
theorem dX6_without_20 : decode cX6_without 20 = .ok (.ifCond .ne 8, 3) := by decide +kernel
theorem dX6_without_23 : decode cX6_without 23 = .ok (.aload_n 0, 1) := by decide +kernel
theorem dX6_without_24 : decode cX6_without 24 = .ok (.invokevirtual 59, 3) := by decide +kernel
theorem dX6_without_27 : decode cX6_without 27 = .ok (.ireturn, 1) := by decide +kernel
theorem dX6_without_28 : decode cX6_without 28 = .ok (.aload_n 0, 1) := by decide +kernel
theorem dX6_without_29 : decode cX6_without 29 = .ok (.iload_n 2, 1) := by decide +kernel
theorem dX6_without_30 : decode cX6_without 30 = .ok (.iload_n 3, 1) := by decide +kernel
theorem dX6_without_31 : decode cX6_without 31 = .ok (.iconst (-1), 1) := by decide +kernel
theorem dX6_without_32 : decode cX6_without 32 = .ok (.invokevirtual 115, 3) := by decide +kernel
theorem dX6_without_35 : decode cX6_without 35 = .ok (.invokestatic 119, 3) := by decide +kernel
theorem dX6_without_38 : decode cX6_without 38 = .ok (.istore 4, 2) := by decide +kernel
theorem dX6_without_40 : decode cX6_without 40 = .ok (.iload 4, 2) := by decide +kernel
theorem dX6_without_42 : decode cX6_without 42 = .ok (.aload_n 0, 1) := by decide +kernel
theorem dX6_without_43 : decode cX6_without 43 = .ok (.iload_n 2, 1) := by decide +kernel
theorem dX6_without_44 : decode cX6_without 44 = .ok (.iload_n 3, 1) := by decide +kernel
theorem dX6_without_45 : decode cX6_without 45 = .ok (.iload_n 1, 1) := by decide +kernel
theorem dX6_without_46 : decode cX6_without 46 = .ok (.invokevirtual 115, 3) := by decide +kernel
theorem dX6_without_49 : decode cX6_without 49 = .ok (.invokestatic 119, 3) := by decide +kernel
theorem dX6_without_52 : decode cX6_without 52 = .ok (.isub, 1) := by decide +kernel
theorem dX6_without_53 : decode cX6_without 53 = .ok (.ireturn, 1) := by decide +kernel
theorem dX6_points_0 : decode cX6_points 0 = .ok (.iload_n 1, 1) := by decide +kernel
theorem dX6_points_1 : decode cX6_points 1 = .ok (.invokestatic 124, 3) := by decide +kernel
theorem dX6_points_4 : decode cX6_points 4 = .ok (.ifCond .eq 10, 3) := by decide +kernel
theorem dX6_points_7 : decode cX6_points 7 = .ok (.iload_n 2, 1) := by decide +kernel
theorem dX6_points_8 : decode cX6_points 8 = .ok (.invokestatic 55, 3) := by decide +kernel
theorem dX6_points_11 : decode cX6_points 11 = .ok (.ifCond .ne 8, 3) := by decide +kernel
theorem dX6_points_14 : decode cX6_points 14 = .ok (.aload_n 0, 1) := by decide +kernel
theorem dX6_points_15 : decode cX6_points 15 = .ok (.invokevirtual 59, 3) := by decide +kernel
theorem dX6_points_18 : decode cX6_points 18 = .ok (.ireturn, 1) := by decide +kernel
theorem dX6_points_19 : decode cX6_points 19 = .ok (.aload_n 0, 1) := by decide +kernel
theorem dX6_points_20 : decode cX6_points 20 = .ok (.getfield 47, 3) := by decide +kernel
theorem dX6_points_23 : decode cX6_points 23 = .ok (.aload_n 0, 1) := by decide +kernel
theorem dX6_points_24 : decode cX6_points 24 = .ok (.getfield 10, 3) := by decide +kernel
theorem dX6_points_27 : decode cX6_points 27 = .ok (.iload_n 1, 1) := by decide +kernel
theorem dX6_points_28 : decode cX6_points 28 = .ok (.invokevirtual 127, 3) := by decide +kernel
theorem dX6_points_31 : decode cX6_points 31 = .ok (.aload_n 0, 1) := by decide +kernel
theorem dX6_points_32 : decode cX6_points 32 = .ok (.getfield 47, 3) := by decide +kernel
theorem dX6_points_35 : decode cX6_points 35 = .ok (.iload_n 2, 1) := by decide +kernel
theorem dX6_points_36 : decode cX6_points 36 = .ok (.invokevirtual 130, 3) := by decide +kernel
theorem dX6_points_39 : decode cX6_points 39 = .ok (.ireturn, 1) := by decide +kernel
theorem dX6_seen_0 : decode cX6_seen 0 = .ok (.iload_n 1, 1) := by decide +kernel
theorem dX6_seen_1 : decode cX6_seen 1 = .ok (.invokestatic 124, 3) := by decide +kernel
theorem dX6_seen_4 : decode cX6_seen 4 = .ok (.ifCond .eq 10, 3) := by decide +kernel
theorem dX6_seen_7 : decode cX6_seen 7 = .ok (.iload_n 2, 1) := by decide +kernel
theorem dX6_seen_8 : decode cX6_seen 8 = .ok (.invokestatic 55, 3) := by decide +kernel
theorem dX6_seen_11 : decode cX6_seen 11 = .ok (.ifCond .ne 8, 3) := by decide +kernel
theorem dX6_seen_14 : decode cX6_seen 14 = .ok (.aload_n 0, 1) := by decide +kernel
theorem dX6_seen_15 : decode cX6_seen 15 = .ok (.invokevirtual 59, 3) := by decide +kernel
theorem dX6_seen_18 : decode cX6_seen 18 = .ok (.ireturn, 1) := by decide +kernel
theorem dX6_seen_19 : decode cX6_seen 19 = .ok (.aload_n 0, 1) := by decide +kernel
theorem dX6_seen_20 : decode cX6_seen 20 = .ok (.getfield 47, 3) := by decide +kernel
theorem dX6_seen_23 : decode cX6_seen 23 = .ok (.aload_n 0, 1) := by decide +kernel
theorem dX6_seen_24 : decode cX6_seen 24 = .ok (.getfield 10, 3) := by decide +kernel
theorem dX6_seen_27 : decode cX6_seen 27 = .ok (.iload_n 1, 1) := by decide +kernel
theorem dX6_seen_28 : decode cX6_seen 28 = .ok (.invokevirtual 127, 3) := by decide +kernel
theorem dX6_seen_31 : decode cX6_seen 31 = .ok (.aload_n 0, 1) := by decide +kernel
theorem dX6_seen_32 : decode cX6_seen 32 = .ok (.getfield 47, 3) := by decide +kernel
theorem dX6_seen_35 : decode cX6_seen 35 = .ok (.iload_n 2, 1) := by decide +kernel
theorem dX6_seen_36 : decode cX6_seen 36 = .ok (.invokevirtual 133, 3) := by decide +kernel
theorem dX6_seen_39 : decode cX6_seen 39 = .ok (.ireturn, 1) := by decide +kernel
theorem dX6_misses_0 : decode cX6_misses 0 = .ok (.iload_n 1, 1) := by decide +kernel
theorem dX6_misses_1 : decode cX6_misses 1 = .ok (.invokestatic 124, 3) := by decide +kernel
theorem dX6_misses_4 : decode cX6_misses 4 = .ok (.ifCond .ne 8, 3) := by decide +kernel
theorem dX6_misses_7 : decode cX6_misses 7 = .ok (.aload_n 0, 1) := by decide +kernel
theorem dX6_misses_8 : decode cX6_misses 8 = .ok (.invokevirtual 59, 3) := by decide +kernel
theorem dX6_misses_11 : decode cX6_misses 11 = .ok (.ireturn, 1) := by decide +kernel
theorem dX6_misses_12 : decode cX6_misses 12 = .ok (.aload_n 0, 1) := by decide +kernel
theorem dX6_misses_13 : decode cX6_misses 13 = .ok (.getfield 47, 3) := by decide +kernel
theorem dX6_misses_16 : decode cX6_misses 16 = .ok (.aload_n 0, 1) := by decide +kernel
theorem dX6_misses_17 : decode cX6_misses 17 = .ok (.getfield 10, 3) := by decide +kernel
theorem dX6_misses_20 : decode cX6_misses 20 = .ok (.iload_n 1, 1) := by decide +kernel
theorem dX6_misses_21 : decode cX6_misses 21 = .ok (.invokevirtual 127, 3) := by decide +kernel
theorem dX6_misses_24 : decode cX6_misses 24 = .ok (.aload_n 0, 1) := by decide +kernel
theorem dX6_misses_25 : decode cX6_misses 25 = .ok (.getfield 47, 3) := by decide +kernel
theorem dX6_misses_28 : decode cX6_misses 28 = .ok (.invokevirtual 136, 3) := by decide +kernel
theorem dX6_misses_31 : decode cX6_misses 31 = .ok (.ireturn, 1) := by decide +kernel
theorem dX6_type_0 : decode cX6_type 0 = .ok (.iload_n 1, 1) := by decide +kernel
theorem dX6_type_1 : decode cX6_type 1 = .ok (.sipush 128, 3) := by decide +kernel
theorem dX6_type_4 : decode cX6_type 4 = .ok (.invokestatic 51, 3) := by decide +kernel
theorem dX6_type_7 : decode cX6_type 7 = .ok (.ifCond .ne 8, 3) := by decide +kernel
theorem dX6_type_10 : decode cX6_type 10 = .ok (.aload_n 0, 1) := by decide +kernel
theorem dX6_type_11 : decode cX6_type 11 = .ok (.invokevirtual 59, 3) := by decide +kernel
theorem dX6_type_14 : decode cX6_type 14 = .ok (.ireturn, 1) := by decide +kernel
theorem dX6_type_15 : decode cX6_type 15 = .ok (.aload_n 0, 1) := by decide +kernel
theorem dX6_type_16 : decode cX6_type 16 = .ok (.getfield 26, 3) := by decide +kernel
theorem dX6_type_19 : decode cX6_type 19 = .ok (.invokevirtual 139, 3) := by decide +kernel
theorem dX6_type_22 : decode cX6_type 22 = .ok (.bipush 120, 2) := by decide +kernel
theorem dX6_type_24 : decode cX6_type 24 = .ok (.if_icmp .lt 8, 3) := by decide +kernel
theorem dX6_type_27 : decode cX6_type 27 = .ok (.aload_n 0, 1) := by decide +kernel
theorem dX6_type_28 : decode cX6_type 28 = .ok (.invokevirtual 66, 3) := by decide +kernel
theorem dX6_type_31 : decode cX6_type 31 = .ok (.ireturn, 1) := by decide +kernel
theorem dX6_type_32 : decode cX6_type 32 = .ok (.aload_n 0, 1) := by decide +kernel
theorem dX6_type_33 : decode cX6_type 33 = .ok (.getfield 26, 3) := by decide +kernel
theorem dX6_type_36 : decode cX6_type 36 = .ok (.iload_n 1, 1) := by decide +kernel
theorem dX6_type_37 : decode cX6_type 37 = .ok (.invokevirtual 142, 3) := by decide +kernel
theorem dX6_type_40 : decode cX6_type 40 = .ok (.aload_n 0, 1) := by decide +kernel
theorem dX6_type_41 : decode cX6_type 41 = .ok (.getfield 26, 3) := by decide +kernel
theorem dX6_type_44 : decode cX6_type 44 = .ok (.invokevirtual 139, 3) := by decide +kernel
theorem dX6_type_47 : decode cX6_type 47 = .ok (.ireturn, 1) := by decide +kernel
theorem dX6_clear_0 : decode cX6_clear 0 = .ok (.aload_n 0, 1) := by decide +kernel
theorem dX6_clear_1 : decode cX6_clear 1 = .ok (.getfield 26, 3) := by decide +kernel
theorem dX6_clear_4 : decode cX6_clear 4 = .ok (.invokevirtual 139, 3) := by decide +kernel
theorem dX6_clear_7 : decode cX6_clear 7 = .ok (.istore_n 1, 1) := by decide +kernel
theorem dX6_clear_8 : decode cX6_clear 8 = .ok (.aload_n 0, 1) := by decide +kernel
theorem dX6_clear_9 : decode cX6_clear 9 = .ok (.getfield 26, 3) := by decide +kernel
theorem dX6_clear_12 : decode cX6_clear 12 = .ok (.invokevirtual 144, 3) := by decide +kernel
theorem dX6_clear_15 : decode cX6_clear 15 = .ok (.iload_n 1, 1) := by decide +kernel
theorem dX6_clear_16 : decode cX6_clear 16 = .ok (.ireturn, 1) := by decide +kernel
theorem dX6_reads_0 : decode cX6_reads 0 = .ok (.aload_n 0, 1) := by decide +kernel
theorem dX6_reads_1 : decode cX6_reads 1 = .ok (.getfield 26, 3) := by decide +kernel
theorem dX6_reads_4 : decode cX6_reads 4 = .ok (.invokevirtual 147, 3) := by decide +kernel
theorem dX6_reads_7 : decode cX6_reads 7 = .ok (.istore_n 1, 1) := by decide +kernel
theorem dX6_reads_8 : decode cX6_reads 8 = .ok (.iload_n 1, 1) := by decide +kernel
theorem dX6_reads_9 : decode cX6_reads 9 = .ok (.iconst (-1), 1) := by decide +kernel
theorem dX6_reads_10 : decode cX6_reads 10 = .ok (.if_icmp .eq 8, 3) := by decide +kernel
theorem dX6_reads_13 : decode cX6_reads 13 = .ok (.bipush (-10), 2) := by decide +kernel
theorem dX6_reads_15 : decode cX6_reads 15 = .ok (.iload_n 1, 1) := by decide +kernel
theorem dX6_reads_16 : decode cX6_reads 16 = .ok (.isub, 1) := by decide +kernel
theorem dX6_reads_17 : decode cX6_reads 17 = .ok (.ireturn, 1) := by decide +kernel
theorem dX6_reads_18 : decode cX6_reads 18 = .ok (.aload_n 0, 1) := by decide +kernel
theorem dX6_reads_19 : decode cX6_reads 19 = .ok (.getfield 19, 3) := by decide +kernel
theorem dX6_reads_22 : decode cX6_reads 22 = .ok (.aload_n 0, 1) := by decide +kernel
theorem dX6_reads_23 : decode cX6_reads 23 = .ok (.getfield 10, 3) := by decide +kernel
theorem dX6_reads_26 : decode cX6_reads 26 = .ok (.invokevirtual 69, 3) := by decide +kernel
theorem dX6_reads_29 : decode cX6_reads 29 = .ok (.aload_n 0, 1) := by decide +kernel
theorem dX6_reads_30 : decode cX6_reads 30 = .ok (.getfield 10, 3) := by decide +kernel
theorem dX6_reads_33 : decode cX6_reads 33 = .ok (.aload_n 0, 1) := by decide +kernel
theorem dX6_reads_34 : decode cX6_reads 34 = .ok (.getfield 26, 3) := by decide +kernel
theorem dX6_reads_37 : decode cX6_reads 37 = .ok (.invokevirtual 150, 3) := by decide +kernel
theorem dX6_reads_40 : decode cX6_reads 40 = .ok (.invokevirtual 154, 3) := by decide +kernel
theorem dX6_reads_43 : decode cX6_reads 43 = .ok (.aload_n 0, 1) := by decide +kernel
theorem dX6_reads_44 : decode cX6_reads 44 = .ok (.getfield 10, 3) := by decide +kernel
theorem dX6_reads_47 : decode cX6_reads 47 = .ok (.invokevirtual 63, 3) := by decide +kernel
theorem dX6_reads_50 : decode cX6_reads 50 = .ok (.ireturn, 1) := by decide +kernel
theorem dX6_shown_0 : decode cX6_shown 0 = .ok (.iload_n 1, 1) := by decide +kernel
theorem dX6_shown_1 : decode cX6_shown 1 = .ok (.iconst (-1), 1) := by decide +kernel
theorem dX6_shown_2 : decode cX6_shown 2 = .ok (.if_icmp .ge 8, 3) := by decide +kernel
theorem dX6_shown_5 : decode cX6_shown 5 = .ok (.aload_n 0, 1) := by decide +kernel
theorem dX6_shown_6 : decode cX6_shown 6 = .ok (.invokevirtual 59, 3) := by decide +kernel
theorem dX6_shown_9 : decode cX6_shown 9 = .ok (.ireturn, 1) := by decide +kernel
theorem dX6_shown_10 : decode cX6_shown 10 = .ok (.iload_n 1, 1) := by decide +kernel
theorem dX6_shown_11 : decode cX6_shown 11 = .ok (.iconst (-1), 1) := by decide +kernel
theorem dX6_shown_12 : decode cX6_shown 12 = .ok (.if_icmp .ne 13, 3) := by decide +kernel
theorem dX6_shown_15 : decode cX6_shown 15 = .ok (.aload_n 0, 1) := by decide +kernel
theorem dX6_shown_16 : decode cX6_shown 16 = .ok (.getfield 10, 3) := by decide +kernel
theorem dX6_shown_19 : decode cX6_shown 19 = .ok (.invokevirtual 157, 3) := by decide +kernel
theorem dX6_shown_22 : decode cX6_shown 22 = .ok (.goto 11, 3) := by decide +kernel
theorem dX6_shown_25 : decode cX6_shown 25 = .ok (.aload_n 0, 1) := by decide +kernel
theorem dX6_shown_26 : decode cX6_shown 26 = .ok (.getfield 10, 3) := by decide +kernel
theorem dX6_shown_29 : decode cX6_shown 29 = .ok (.iload_n 1, 1) := by decide +kernel
theorem dX6_shown_30 : decode cX6_shown 30 = .ok (.invokevirtual 160, 3) := by decide +kernel
theorem dX6_shown_33 : decode cX6_shown 33 = .ok (.ireturn, 1) := by decide +kernel
theorem dX6_back_0 : decode cX6_back 0 = .ok (.aload_n 0, 1) := by decide +kernel
theorem dX6_back_1 : decode cX6_back 1 = .ok (.getfield 19, 3) := by decide +kernel
theorem dX6_back_4 : decode cX6_back 4 = .ok (.invokevirtual 163, 3) := by decide +kernel
theorem dX6_back_7 : decode cX6_back 7 = .ok (.ifCond .ne 8, 3) := by decide +kernel
theorem dX6_back_10 : decode cX6_back 10 = .ok (.aload_n 0, 1) := by decide +kernel
theorem dX6_back_11 : decode cX6_back 11 = .ok (.invokevirtual 164, 3) := by decide +kernel
theorem dX6_back_14 : decode cX6_back 14 = .ok (.ireturn, 1) := by decide +kernel
theorem dX6_back_15 : decode cX6_back 15 = .ok (.aload_n 0, 1) := by decide +kernel
theorem dX6_back_16 : decode cX6_back 16 = .ok (.getfield 19, 3) := by decide +kernel
theorem dX6_back_19 : decode cX6_back 19 = .ok (.aload_n 0, 1) := by decide +kernel
theorem dX6_back_20 : decode cX6_back 20 = .ok (.getfield 10, 3) := by decide +kernel
theorem dX6_back_23 : decode cX6_back 23 = .ok (.invokevirtual 167, 3) := by decide +kernel
theorem dX6_back_26 : decode cX6_back 26 = .ok (.aload_n 0, 1) := by decide +kernel
theorem dX6_back_27 : decode cX6_back 27 = .ok (.getfield 19, 3) := by decide +kernel
theorem dX6_back_30 : decode cX6_back 30 = .ok (.invokevirtual 163, 3) := by decide +kernel
theorem dX6_back_33 : decode cX6_back 33 = .ok (.ireturn, 1) := by decide +kernel
theorem dX6_told_0 : decode cX6_told 0 = .ok (.iload_n 1, 1) := by decide +kernel
theorem dX6_told_1 : decode cX6_told 1 = .ok (.bipush 6, 2) := by decide +kernel
theorem dX6_told_3 : decode cX6_told 3 = .ok (.invokestatic 51, 3) := by decide +kernel
theorem dX6_told_6 : decode cX6_told 6 = .ok (.ifCond .ne 8, 3) := by decide +kernel
theorem dX6_told_9 : decode cX6_told 9 = .ok (.aload_n 0, 1) := by decide +kernel
theorem dX6_told_10 : decode cX6_told 10 = .ok (.invokevirtual 59, 3) := by decide +kernel
theorem dX6_told_13 : decode cX6_told 13 = .ok (.ireturn, 1) := by decide +kernel
theorem dX6_told_14 : decode cX6_told 14 = .ok (.aload_n 0, 1) := by decide +kernel
theorem dX6_told_15 : decode cX6_told 15 = .ok (.iload_n 1, 1) := by decide +kernel
theorem dX6_told_16 : decode cX6_told 16 = .ok (.invokevirtual 170, 3) := by decide +kernel
theorem dX6_told_19 : decode cX6_told 19 = .ok (.ireturn, 1) := by decide +kernel
theorem dX6_digest_0 : decode cX6_digest 0 = .ok (.aload_n 0, 1) := by decide +kernel
theorem dX6_digest_1 : decode cX6_digest 1 = .ok (.getfield 33, 3) := by decide +kernel
theorem dX6_digest_4 : decode cX6_digest 4 = .ok (.aload_n 0, 1) := by decide +kernel
theorem dX6_digest_5 : decode cX6_digest 5 = .ok (.getfield 10, 3) := by decide +kernel
theorem dX6_digest_8 : decode cX6_digest 8 = .ok (.iconst (-1), 1) := by decide +kernel
theorem dX6_digest_9 : decode cX6_digest 9 = .ok (.invokevirtual 88, 3) := by decide +kernel
theorem dX6_digest_12 : decode cX6_digest 12 = .ok (.aload_n 0, 1) := by decide +kernel
theorem dX6_digest_13 : decode cX6_digest 13 = .ok (.getfield 40, 3) := by decide +kernel
theorem dX6_digest_16 : decode cX6_digest 16 = .ok (.aload_n 0, 1) := by decide +kernel
theorem dX6_digest_17 : decode cX6_digest 17 = .ok (.getfield 10, 3) := by decide +kernel
theorem dX6_digest_20 : decode cX6_digest 20 = .ok (.iconst (-1), 1) := by decide +kernel
theorem dX6_digest_21 : decode cX6_digest 21 = .ok (.invokevirtual 107, 3) := by decide +kernel
theorem dX6_digest_24 : decode cX6_digest 24 = .ok (.aload_n 0, 1) := by decide +kernel
theorem dX6_digest_25 : decode cX6_digest 25 = .ok (.getfield 47, 3) := by decide +kernel
theorem dX6_digest_28 : decode cX6_digest 28 = .ok (.aload_n 0, 1) := by decide +kernel
theorem dX6_digest_29 : decode cX6_digest 29 = .ok (.getfield 10, 3) := by decide +kernel
theorem dX6_digest_32 : decode cX6_digest 32 = .ok (.iconst 2, 1) := by decide +kernel
theorem dX6_digest_33 : decode cX6_digest 33 = .ok (.invokevirtual 127, 3) := by decide +kernel
theorem dX6_digest_36 : decode cX6_digest 36 = .ok (.ldc2_w 173, 3) := by decide +kernel
theorem dX6_digest_39 : decode cX6_digest 39 = .ok (.lstore_n 1, 1) := by decide +kernel
theorem dX6_digest_40 : decode cX6_digest 40 = .ok (.iconst 0, 1) := by decide +kernel
theorem dX6_digest_41 : decode cX6_digest 41 = .ok (.istore_n 3, 1) := by decide +kernel
theorem dX6_digest_42 : decode cX6_digest 42 = .ok (.iload_n 3, 1) := by decide +kernel
theorem dX6_digest_43 : decode cX6_digest 43 = .ok (.bipush 6, 2) := by decide +kernel
theorem dX6_digest_45 : decode cX6_digest 45 = .ok (.if_icmp .ge 19, 3) := by decide +kernel
theorem dX6_digest_48 : decode cX6_digest 48 = .ok (.lload_n 1, 1) := by decide +kernel
theorem dX6_digest_49 : decode cX6_digest 49 = .ok (.aload_n 0, 1) := by decide +kernel
theorem dX6_digest_50 : decode cX6_digest 50 = .ok (.iload_n 3, 1) := by decide +kernel
theorem dX6_digest_51 : decode cX6_digest 51 = .ok (.invokevirtual 170, 3) := by decide +kernel
theorem dX6_digest_54 : decode cX6_digest 54 = .ok (.invokestatic 175, 3) := by decide +kernel
theorem dX6_digest_57 : decode cX6_digest 57 = .ok (.lstore_n 1, 1) := by decide +kernel
theorem dX6_digest_58 : decode cX6_digest 58 = .ok (.iinc 3 1, 3) := by decide +kernel
theorem dX6_digest_61 : decode cX6_digest 61 = .ok (.goto (-19), 3) := by decide +kernel
theorem dX6_digest_64 : decode cX6_digest 64 = .ok (.iconst 0, 1) := by decide +kernel
theorem dX6_digest_65 : decode cX6_digest 65 = .ok (.istore_n 3, 1) := by decide +kernel
theorem dX6_digest_66 : decode cX6_digest 66 = .ok (.iload_n 3, 1) := by decide +kernel
theorem dX6_digest_67 : decode cX6_digest 67 = .ok (.aload_n 0, 1) := by decide +kernel
theorem dX6_digest_68 : decode cX6_digest 68 = .ok (.getfield 10, 3) := by decide +kernel
theorem dX6_digest_71 : decode cX6_digest 71 = .ok (.invokevirtual 63, 3) := by decide +kernel
theorem dX6_digest_74 : decode cX6_digest 74 = .ok (.if_icmp .ge 36, 3) := by decide +kernel
theorem dX6_digest_77 : decode cX6_digest 77 = .ok (.iconst 0, 1) := by decide +kernel
theorem dX6_digest_78 : decode cX6_digest 78 = .ok (.istore 4, 2) := by decide +kernel
theorem dX6_digest_80 : decode cX6_digest 80 = .ok (.iload 4, 2) := by decide +kernel
theorem dX6_digest_82 : decode cX6_digest 82 = .ok (.iconst 5, 1) := by decide +kernel
theorem dX6_digest_83 : decode cX6_digest 83 = .ok (.if_icmp .ge 21, 3) := by decide +kernel
theorem dX6_digest_86 : decode cX6_digest 86 = .ok (.lload_n 1, 1) := by decide +kernel
theorem dX6_digest_87 : decode cX6_digest 87 = .ok (.aload_n 0, 1) := by decide +kernel
theorem dX6_digest_88 : decode cX6_digest 88 = .ok (.iload_n 3, 1) := by decide +kernel
theorem dX6_digest_89 : decode cX6_digest 89 = .ok (.iload 4, 2) := by decide +kernel
theorem dX6_digest_91 : decode cX6_digest 91 = .ok (.invokevirtual 92, 3) := by decide +kernel
theorem dX6_digest_94 : decode cX6_digest 94 = .ok (.invokestatic 175, 3) := by decide +kernel
theorem dX6_digest_97 : decode cX6_digest 97 = .ok (.lstore_n 1, 1) := by decide +kernel
theorem dX6_digest_98 : decode cX6_digest 98 = .ok (.iinc 4 1, 3) := by decide +kernel
theorem dX6_digest_101 : decode cX6_digest 101 = .ok (.goto (-21), 3) := by decide +kernel
theorem dX6_digest_104 : decode cX6_digest 104 = .ok (.iinc 3 1, 3) := by decide +kernel
theorem dX6_digest_107 : decode cX6_digest 107 = .ok (.goto (-41), 3) := by decide +kernel
theorem dX6_digest_110 : decode cX6_digest 110 = .ok (.iconst 0, 1) := by decide +kernel
theorem dX6_digest_111 : decode cX6_digest 111 = .ok (.istore_n 3, 1) := by decide +kernel
theorem dX6_digest_112 : decode cX6_digest 112 = .ok (.iload_n 3, 1) := by decide +kernel
theorem dX6_digest_113 : decode cX6_digest 113 = .ok (.bipush 10, 2) := by decide +kernel
theorem dX6_digest_115 : decode cX6_digest 115 = .ok (.if_icmp .ge 16, 3) := by decide +kernel
theorem dX6_digest_118 : decode cX6_digest 118 = .ok (.aload_n 0, 1) := by decide +kernel
theorem dX6_digest_119 : decode cX6_digest 119 = .ok (.lload_n 1, 1) := by decide +kernel
theorem dX6_digest_120 : decode cX6_digest 120 = .ok (.iload_n 3, 1) := by decide +kernel
theorem dX6_digest_121 : decode cX6_digest 121 = .ok (.invokevirtual 179, 3) := by decide +kernel
theorem dX6_digest_124 : decode cX6_digest 124 = .ok (.lstore_n 1, 1) := by decide +kernel
theorem dX6_digest_125 : decode cX6_digest 125 = .ok (.iinc 3 1, 3) := by decide +kernel
theorem dX6_digest_128 : decode cX6_digest 128 = .ok (.goto (-16), 3) := by decide +kernel
theorem dX6_digest_131 : decode cX6_digest 131 = .ok (.iconst 0, 1) := by decide +kernel
theorem dX6_digest_132 : decode cX6_digest 132 = .ok (.istore_n 3, 1) := by decide +kernel
theorem dX6_digest_133 : decode cX6_digest 133 = .ok (.iload_n 3, 1) := by decide +kernel
theorem dX6_digest_134 : decode cX6_digest 134 = .ok (.iconst 5, 1) := by decide +kernel
theorem dX6_digest_135 : decode cX6_digest 135 = .ok (.if_icmp .ge 19, 3) := by decide +kernel
theorem dX6_digest_138 : decode cX6_digest 138 = .ok (.lload_n 1, 1) := by decide +kernel
theorem dX6_digest_139 : decode cX6_digest 139 = .ok (.aload_n 0, 1) := by decide +kernel
theorem dX6_digest_140 : decode cX6_digest 140 = .ok (.iload_n 3, 1) := by decide +kernel
theorem dX6_digest_141 : decode cX6_digest 141 = .ok (.invokevirtual 112, 3) := by decide +kernel
theorem dX6_digest_144 : decode cX6_digest 144 = .ok (.invokestatic 175, 3) := by decide +kernel
theorem dX6_digest_147 : decode cX6_digest 147 = .ok (.lstore_n 1, 1) := by decide +kernel
theorem dX6_digest_148 : decode cX6_digest 148 = .ok (.iinc 3 1, 3) := by decide +kernel
theorem dX6_digest_151 : decode cX6_digest 151 = .ok (.goto (-18), 3) := by decide +kernel
theorem dX6_digest_154 : decode cX6_digest 154 = .ok (.lload_n 1, 1) := by decide +kernel
theorem dX6_digest_155 : decode cX6_digest 155 = .ok (.aload_n 0, 1) := by decide +kernel
theorem dX6_digest_156 : decode cX6_digest 156 = .ok (.getfield 47, 3) := by decide +kernel
theorem dX6_digest_159 : decode cX6_digest 159 = .ok (.invokevirtual 136, 3) := by decide +kernel
theorem dX6_digest_162 : decode cX6_digest 162 = .ok (.invokestatic 175, 3) := by decide +kernel
theorem dX6_digest_165 : decode cX6_digest 165 = .ok (.lreturn, 1) := by decide +kernel
theorem dX6_below_0 : decode cX6_below 0 = .ok (.iload_n 0, 1) := by decide +kernel
theorem dX6_below_1 : decode cX6_below 1 = .ok (.ifCond .lt 12, 3) := by decide +kernel
theorem dX6_below_4 : decode cX6_below 4 = .ok (.iload_n 0, 1) := by decide +kernel
theorem dX6_below_5 : decode cX6_below 5 = .ok (.iload_n 1, 1) := by decide +kernel
theorem dX6_below_6 : decode cX6_below 6 = .ok (.if_icmp .ge 7, 3) := by decide +kernel
theorem dX6_below_9 : decode cX6_below 9 = .ok (.iconst 1, 1) := by decide +kernel
theorem dX6_below_10 : decode cX6_below 10 = .ok (.goto 4, 3) := by decide +kernel
theorem dX6_below_13 : decode cX6_below 13 = .ok (.iconst 0, 1) := by decide +kernel
theorem dX6_below_14 : decode cX6_below 14 = .ok (.ireturn, 1) := by decide +kernel
theorem dX6_isName_0 : decode cX6_isName 0 = .ok (.iload_n 0, 1) := by decide +kernel
theorem dX6_isName_1 : decode cX6_isName 1 = .ok (.bipush 10, 2) := by decide +kernel
theorem dX6_isName_3 : decode cX6_isName 3 = .ok (.invokestatic 51, 3) := by decide +kernel
theorem dX6_isName_6 : decode cX6_isName 6 = .ok (.ireturn, 1) := by decide +kernel
theorem dX6_isRounds_0 : decode cX6_isRounds 0 = .ok (.iload_n 0, 1) := by decide +kernel
theorem dX6_isRounds_1 : decode cX6_isRounds 1 = .ok (.bipush 10, 2) := by decide +kernel
theorem dX6_isRounds_3 : decode cX6_isRounds 3 = .ok (.invokestatic 51, 3) := by decide +kernel
theorem dX6_isRounds_6 : decode cX6_isRounds 6 = .ok (.ireturn, 1) := by decide +kernel
theorem dX6_isLine_0 : decode cX6_isLine 0 = .ok (.iload_n 1, 1) := by decide +kernel
theorem dX6_isLine_1 : decode cX6_isLine 1 = .ok (.aload_n 0, 1) := by decide +kernel
theorem dX6_isLine_2 : decode cX6_isLine 2 = .ok (.getfield 10, 3) := by decide +kernel
theorem dX6_isLine_5 : decode cX6_isLine 5 = .ok (.invokevirtual 63, 3) := by decide +kernel
theorem dX6_isLine_8 : decode cX6_isLine 8 = .ok (.invokestatic 51, 3) := by decide +kernel
theorem dX6_isLine_11 : decode cX6_isLine 11 = .ok (.ireturn, 1) := by decide +kernel
theorem dX6_asNumber_0 : decode cX6_asNumber 0 = .ok (.iload_n 0, 1) := by decide +kernel
theorem dX6_asNumber_1 : decode cX6_asNumber 1 = .ok (.ifCond .eq 7, 3) := by decide +kernel
theorem dX6_asNumber_4 : decode cX6_asNumber 4 = .ok (.iconst 1, 1) := by decide +kernel
theorem dX6_asNumber_5 : decode cX6_asNumber 5 = .ok (.goto 4, 3) := by decide +kernel
theorem dX6_asNumber_8 : decode cX6_asNumber 8 = .ok (.iconst 0, 1) := by decide +kernel
theorem dX6_asNumber_9 : decode cX6_asNumber 9 = .ok (.ireturn, 1) := by decide +kernel
theorem dX6_bit_0 : decode cX6_bit 0 = .ok (.iconst 1, 1) := by decide +kernel
theorem dX6_bit_1 : decode cX6_bit 1 = .ok (.iload_n 0, 1) := by decide +kernel
theorem dX6_bit_2 : decode cX6_bit 2 = .ok (.ishl, 1) := by decide +kernel
theorem dX6_bit_3 : decode cX6_bit 3 = .ok (.ireturn, 1) := by decide +kernel
theorem dX6_hasBit_0 : decode cX6_hasBit 0 = .ok (.iload_n 0, 1) := by decide +kernel
theorem dX6_hasBit_1 : decode cX6_hasBit 1 = .ok (.iload_n 1, 1) := by decide +kernel
theorem dX6_hasBit_2 : decode cX6_hasBit 2 = .ok (.invokestatic 182, 3) := by decide +kernel
theorem dX6_hasBit_5 : decode cX6_hasBit 5 = .ok (.iand, 1) := by decide +kernel
theorem dX6_hasBit_6 : decode cX6_hasBit 6 = .ok (.ifCond .eq 7, 3) := by decide +kernel
theorem dX6_hasBit_9 : decode cX6_hasBit 9 = .ok (.iconst 1, 1) := by decide +kernel
theorem dX6_hasBit_10 : decode cX6_hasBit 10 = .ok (.goto 4, 3) := by decide +kernel
theorem dX6_hasBit_13 : decode cX6_hasBit 13 = .ok (.iconst 0, 1) := by decide +kernel
theorem dX6_hasBit_14 : decode cX6_hasBit 14 = .ok (.ireturn, 1) := by decide +kernel
theorem dX6_refuseBad_0 : decode cX6_refuseBad 0 = .ok (.aload_n 0, 1) := by decide +kernel
theorem dX6_refuseBad_1 : decode cX6_refuseBad 1 = .ok (.dup, 1) := by decide +kernel
theorem dX6_refuseBad_2 : decode cX6_refuseBad 2 = .ok (.getfield 185, 3) := by decide +kernel
theorem dX6_refuseBad_5 : decode cX6_refuseBad 5 = .ok (.iconst 1, 1) := by decide +kernel
theorem dX6_refuseBad_6 : decode cX6_refuseBad 6 = .ok (.iadd, 1) := by decide +kernel
theorem dX6_refuseBad_7 : decode cX6_refuseBad 7 = .ok (.putfield 185, 3) := by decide +kernel
theorem dX6_refuseBad_10 : decode cX6_refuseBad 10 = .ok (.bipush (-2), 2) := by decide +kernel
theorem dX6_refuseBad_12 : decode cX6_refuseBad 12 = .ok (.ireturn, 1) := by decide +kernel
theorem dX6_refuseNo_0 : decode cX6_refuseNo 0 = .ok (.aload_n 0, 1) := by decide +kernel
theorem dX6_refuseNo_1 : decode cX6_refuseNo 1 = .ok (.dup, 1) := by decide +kernel
theorem dX6_refuseNo_2 : decode cX6_refuseNo 2 = .ok (.getfield 189, 3) := by decide +kernel
theorem dX6_refuseNo_5 : decode cX6_refuseNo 5 = .ok (.iconst 1, 1) := by decide +kernel
theorem dX6_refuseNo_6 : decode cX6_refuseNo 6 = .ok (.iadd, 1) := by decide +kernel
theorem dX6_refuseNo_7 : decode cX6_refuseNo 7 = .ok (.putfield 189, 3) := by decide +kernel
theorem dX6_refuseNo_10 : decode cX6_refuseNo 10 = .ok (.bipush (-3), 2) := by decide +kernel
theorem dX6_refuseNo_12 : decode cX6_refuseNo 12 = .ok (.ireturn, 1) := by decide +kernel
theorem dX6_refuseFull_0 : decode cX6_refuseFull 0 = .ok (.aload_n 0, 1) := by decide +kernel
theorem dX6_refuseFull_1 : decode cX6_refuseFull 1 = .ok (.dup, 1) := by decide +kernel
theorem dX6_refuseFull_2 : decode cX6_refuseFull 2 = .ok (.getfield 192, 3) := by decide +kernel
theorem dX6_refuseFull_5 : decode cX6_refuseFull 5 = .ok (.iconst 1, 1) := by decide +kernel
theorem dX6_refuseFull_6 : decode cX6_refuseFull 6 = .ok (.iadd, 1) := by decide +kernel
theorem dX6_refuseFull_7 : decode cX6_refuseFull 7 = .ok (.putfield 192, 3) := by decide +kernel
theorem dX6_refuseFull_10 : decode cX6_refuseFull 10 = .ok (.bipush (-4), 2) := by decide +kernel
theorem dX6_refuseFull_12 : decode cX6_refuseFull 12 = .ok (.ireturn, 1) := by decide +kernel
theorem dX6_tally_0 : decode cX6_tally 0 = .ok (.iload_n 1, 1) := by decide +kernel
theorem dX6_tally_1 : decode cX6_tally 1 = .ok (.tableswitch 66 0 4 #[35, 40, 45, 50, 58], 35) := by decide +kernel
theorem dX6_tally_36 : decode cX6_tally 36 = .ok (.aload_n 0, 1) := by decide +kernel
theorem dX6_tally_37 : decode cX6_tally 37 = .ok (.getfield 185, 3) := by decide +kernel
theorem dX6_tally_40 : decode cX6_tally 40 = .ok (.ireturn, 1) := by decide +kernel
theorem dX6_tally_41 : decode cX6_tally 41 = .ok (.aload_n 0, 1) := by decide +kernel
theorem dX6_tally_42 : decode cX6_tally 42 = .ok (.getfield 189, 3) := by decide +kernel
theorem dX6_tally_45 : decode cX6_tally 45 = .ok (.ireturn, 1) := by decide +kernel
theorem dX6_tally_46 : decode cX6_tally 46 = .ok (.aload_n 0, 1) := by decide +kernel
theorem dX6_tally_47 : decode cX6_tally 47 = .ok (.getfield 192, 3) := by decide +kernel
theorem dX6_tally_50 : decode cX6_tally 50 = .ok (.ireturn, 1) := by decide +kernel
theorem dX6_tally_51 : decode cX6_tally 51 = .ok (.aload_n 0, 1) := by decide +kernel
theorem dX6_tally_52 : decode cX6_tally 52 = .ok (.getfield 26, 3) := by decide +kernel
theorem dX6_tally_55 : decode cX6_tally 55 = .ok (.invokevirtual 139, 3) := by decide +kernel
theorem dX6_tally_58 : decode cX6_tally 58 = .ok (.ireturn, 1) := by decide +kernel
theorem dX6_tally_59 : decode cX6_tally 59 = .ok (.aload_n 0, 1) := by decide +kernel
theorem dX6_tally_60 : decode cX6_tally 60 = .ok (.getfield 10, 3) := by decide +kernel
theorem dX6_tally_63 : decode cX6_tally 63 = .ok (.invokevirtual 63, 3) := by decide +kernel
theorem dX6_tally_66 : decode cX6_tally 66 = .ok (.ireturn, 1) := by decide +kernel
theorem dX6_tally_67 : decode cX6_tally 67 = .ok (.aload_n 0, 1) := by decide +kernel
theorem dX6_tally_68 : decode cX6_tally 68 = .ok (.getfield 19, 3) := by decide +kernel
theorem dX6_tally_71 : decode cX6_tally 71 = .ok (.invokevirtual 163, 3) := by decide +kernel
theorem dX6_tally_74 : decode cX6_tally 74 = .ok (.ireturn, 1) := by decide +kernel
theorem dX6_lineDetail_0 : decode cX6_lineDetail 0 = .ok (.iload_n 2, 1) := by decide +kernel
theorem dX6_lineDetail_1 : decode cX6_lineDetail 1 = .ok (.tableswitch 64 0 3 #[31, 40, 49, 58], 31) := by decide +kernel
theorem dX6_lineDetail_32 : decode cX6_lineDetail 32 = .ok (.aload_n 0, 1) := by decide +kernel
theorem dX6_lineDetail_33 : decode cX6_lineDetail 33 = .ok (.getfield 10, 3) := by decide +kernel
theorem dX6_lineDetail_36 : decode cX6_lineDetail 36 = .ok (.iload_n 1, 1) := by decide +kernel
theorem dX6_lineDetail_37 : decode cX6_lineDetail 37 = .ok (.invokevirtual 195, 3) := by decide +kernel
theorem dX6_lineDetail_40 : decode cX6_lineDetail 40 = .ok (.ireturn, 1) := by decide +kernel
theorem dX6_lineDetail_41 : decode cX6_lineDetail 41 = .ok (.aload_n 0, 1) := by decide +kernel
theorem dX6_lineDetail_42 : decode cX6_lineDetail 42 = .ok (.getfield 10, 3) := by decide +kernel
theorem dX6_lineDetail_45 : decode cX6_lineDetail 45 = .ok (.iload_n 1, 1) := by decide +kernel
theorem dX6_lineDetail_46 : decode cX6_lineDetail 46 = .ok (.invokevirtual 198, 3) := by decide +kernel
theorem dX6_lineDetail_49 : decode cX6_lineDetail 49 = .ok (.ireturn, 1) := by decide +kernel
theorem dX6_lineDetail_50 : decode cX6_lineDetail 50 = .ok (.aload_n 0, 1) := by decide +kernel
theorem dX6_lineDetail_51 : decode cX6_lineDetail 51 = .ok (.getfield 10, 3) := by decide +kernel
theorem dX6_lineDetail_54 : decode cX6_lineDetail 54 = .ok (.iload_n 1, 1) := by decide +kernel
theorem dX6_lineDetail_55 : decode cX6_lineDetail 55 = .ok (.invokevirtual 201, 3) := by decide +kernel
theorem dX6_lineDetail_58 : decode cX6_lineDetail 58 = .ok (.ireturn, 1) := by decide +kernel
theorem dX6_lineDetail_59 : decode cX6_lineDetail 59 = .ok (.aload_n 0, 1) := by decide +kernel
theorem dX6_lineDetail_60 : decode cX6_lineDetail 60 = .ok (.iload_n 1, 1) := by decide +kernel
theorem dX6_lineDetail_61 : decode cX6_lineDetail 61 = .ok (.invokevirtual 204, 3) := by decide +kernel
theorem dX6_lineDetail_64 : decode cX6_lineDetail 64 = .ok (.ireturn, 1) := by decide +kernel
theorem dX6_lineDetail_65 : decode cX6_lineDetail 65 = .ok (.aload_n 0, 1) := by decide +kernel
theorem dX6_lineDetail_66 : decode cX6_lineDetail 66 = .ok (.iload_n 1, 1) := by decide +kernel
theorem dX6_lineDetail_67 : decode cX6_lineDetail 67 = .ok (.invokevirtual 207, 3) := by decide +kernel
theorem dX6_lineDetail_70 : decode cX6_lineDetail 70 = .ok (.ireturn, 1) := by decide +kernel
theorem dX6_writesOf_0 : decode cX6_writesOf 0 = .ok (.aload_n 0, 1) := by decide +kernel
theorem dX6_writesOf_1 : decode cX6_writesOf 1 = .ok (.getfield 10, 3) := by decide +kernel
theorem dX6_writesOf_4 : decode cX6_writesOf 4 = .ok (.iload_n 1, 1) := by decide +kernel
theorem dX6_writesOf_5 : decode cX6_writesOf 5 = .ok (.invokevirtual 198, 3) := by decide +kernel
theorem dX6_writesOf_8 : decode cX6_writesOf 8 = .ok (.istore_n 2, 1) := by decide +kernel
theorem dX6_writesOf_9 : decode cX6_writesOf 9 = .ok (.aload_n 0, 1) := by decide +kernel
theorem dX6_writesOf_10 : decode cX6_writesOf 10 = .ok (.getfield 10, 3) := by decide +kernel
theorem dX6_writesOf_13 : decode cX6_writesOf 13 = .ok (.iload_n 1, 1) := by decide +kernel
theorem dX6_writesOf_14 : decode cX6_writesOf 14 = .ok (.invokevirtual 195, 3) := by decide +kernel
theorem dX6_writesOf_17 : decode cX6_writesOf 17 = .ok (.iconst 3, 1) := by decide +kernel
theorem dX6_writesOf_18 : decode cX6_writesOf 18 = .ok (.if_icmp .ne 14, 3) := by decide +kernel
theorem dX6_writesOf_21 : decode cX6_writesOf 21 = .ok (.aload_n 0, 1) := by decide +kernel
theorem dX6_writesOf_22 : decode cX6_writesOf 22 = .ok (.getfield 33, 3) := by decide +kernel
theorem dX6_writesOf_25 : decode cX6_writesOf 25 = .ok (.iload_n 2, 1) := by decide +kernel
theorem dX6_writesOf_26 : decode cX6_writesOf 26 = .ok (.invokevirtual 103, 3) := by decide +kernel
theorem dX6_writesOf_29 : decode cX6_writesOf 29 = .ok (.goto 7, 3) := by decide +kernel
theorem dX6_writesOf_32 : decode cX6_writesOf 32 = .ok (.iload_n 2, 1) := by decide +kernel
theorem dX6_writesOf_33 : decode cX6_writesOf 33 = .ok (.invokestatic 182, 3) := by decide +kernel
theorem dX6_writesOf_36 : decode cX6_writesOf 36 = .ok (.ireturn, 1) := by decide +kernel
theorem dX6_readsOf_0 : decode cX6_readsOf 0 = .ok (.aload_n 0, 1) := by decide +kernel
theorem dX6_readsOf_1 : decode cX6_readsOf 1 = .ok (.getfield 10, 3) := by decide +kernel
theorem dX6_readsOf_4 : decode cX6_readsOf 4 = .ok (.iload_n 1, 1) := by decide +kernel
theorem dX6_readsOf_5 : decode cX6_readsOf 5 = .ok (.invokevirtual 198, 3) := by decide +kernel
theorem dX6_readsOf_8 : decode cX6_readsOf 8 = .ok (.istore_n 2, 1) := by decide +kernel
theorem dX6_readsOf_9 : decode cX6_readsOf 9 = .ok (.aload_n 0, 1) := by decide +kernel
theorem dX6_readsOf_10 : decode cX6_readsOf 10 = .ok (.getfield 10, 3) := by decide +kernel
theorem dX6_readsOf_13 : decode cX6_readsOf 13 = .ok (.iload_n 1, 1) := by decide +kernel
theorem dX6_readsOf_14 : decode cX6_readsOf 14 = .ok (.invokevirtual 201, 3) := by decide +kernel
theorem dX6_readsOf_17 : decode cX6_readsOf 17 = .ok (.istore_n 3, 1) := by decide +kernel
theorem dX6_readsOf_18 : decode cX6_readsOf 18 = .ok (.aload_n 0, 1) := by decide +kernel
theorem dX6_readsOf_19 : decode cX6_readsOf 19 = .ok (.getfield 10, 3) := by decide +kernel
theorem dX6_readsOf_22 : decode cX6_readsOf 22 = .ok (.iload_n 1, 1) := by decide +kernel
theorem dX6_readsOf_23 : decode cX6_readsOf 23 = .ok (.invokevirtual 195, 3) := by decide +kernel
theorem dX6_readsOf_26 : decode cX6_readsOf 26 = .ok (.tableswitch 47 0 2 #[26, 28, 33], 26) := by decide +kernel
theorem dX6_readsOf_52 : decode cX6_readsOf 52 = .ok (.iconst 0, 1) := by decide +kernel
theorem dX6_readsOf_53 : decode cX6_readsOf 53 = .ok (.ireturn, 1) := by decide +kernel
theorem dX6_readsOf_54 : decode cX6_readsOf 54 = .ok (.iload_n 3, 1) := by decide +kernel
theorem dX6_readsOf_55 : decode cX6_readsOf 55 = .ok (.invokestatic 182, 3) := by decide +kernel
theorem dX6_readsOf_58 : decode cX6_readsOf 58 = .ok (.ireturn, 1) := by decide +kernel
theorem dX6_readsOf_59 : decode cX6_readsOf 59 = .ok (.iload_n 3, 1) := by decide +kernel
theorem dX6_readsOf_60 : decode cX6_readsOf 60 = .ok (.invokestatic 182, 3) := by decide +kernel
theorem dX6_readsOf_63 : decode cX6_readsOf 63 = .ok (.aload_n 0, 1) := by decide +kernel
theorem dX6_readsOf_64 : decode cX6_readsOf 64 = .ok (.getfield 33, 3) := by decide +kernel
theorem dX6_readsOf_67 : decode cX6_readsOf 67 = .ok (.iload_n 3, 1) := by decide +kernel
theorem dX6_readsOf_68 : decode cX6_readsOf 68 = .ok (.invokevirtual 103, 3) := by decide +kernel
theorem dX6_readsOf_71 : decode cX6_readsOf 71 = .ok (.ior, 1) := by decide +kernel
theorem dX6_readsOf_72 : decode cX6_readsOf 72 = .ok (.ireturn, 1) := by decide +kernel
theorem dX6_readsOf_73 : decode cX6_readsOf 73 = .ok (.iload_n 2, 1) := by decide +kernel
theorem dX6_readsOf_74 : decode cX6_readsOf 74 = .ok (.invokestatic 182, 3) := by decide +kernel
theorem dX6_readsOf_77 : decode cX6_readsOf 77 = .ok (.iload_n 3, 1) := by decide +kernel
theorem dX6_readsOf_78 : decode cX6_readsOf 78 = .ok (.invokestatic 182, 3) := by decide +kernel
theorem dX6_readsOf_81 : decode cX6_readsOf 81 = .ok (.ior, 1) := by decide +kernel
theorem dX6_readsOf_82 : decode cX6_readsOf 82 = .ok (.ireturn, 1) := by decide +kernel
theorem dX6_disturbs_0 : decode cX6_disturbs 0 = .ok (.aload_n 0, 1) := by decide +kernel
theorem dX6_disturbs_1 : decode cX6_disturbs 1 = .ok (.iload_n 1, 1) := by decide +kernel
theorem dX6_disturbs_2 : decode cX6_disturbs 2 = .ok (.invokevirtual 204, 3) := by decide +kernel
theorem dX6_disturbs_5 : decode cX6_disturbs 5 = .ok (.aload_n 0, 1) := by decide +kernel
theorem dX6_disturbs_6 : decode cX6_disturbs 6 = .ok (.iload_n 2, 1) := by decide +kernel
theorem dX6_disturbs_7 : decode cX6_disturbs 7 = .ok (.invokevirtual 204, 3) := by decide +kernel
theorem dX6_disturbs_10 : decode cX6_disturbs 10 = .ok (.aload_n 0, 1) := by decide +kernel
theorem dX6_disturbs_11 : decode cX6_disturbs 11 = .ok (.iload_n 2, 1) := by decide +kernel
theorem dX6_disturbs_12 : decode cX6_disturbs 12 = .ok (.invokevirtual 207, 3) := by decide +kernel
theorem dX6_disturbs_15 : decode cX6_disturbs 15 = .ok (.ior, 1) := by decide +kernel
theorem dX6_disturbs_16 : decode cX6_disturbs 16 = .ok (.iand, 1) := by decide +kernel
theorem dX6_disturbs_17 : decode cX6_disturbs 17 = .ok (.ifCond .eq 7, 3) := by decide +kernel
theorem dX6_disturbs_20 : decode cX6_disturbs 20 = .ok (.iconst 1, 1) := by decide +kernel
theorem dX6_disturbs_21 : decode cX6_disturbs 21 = .ok (.goto 4, 3) := by decide +kernel
theorem dX6_disturbs_24 : decode cX6_disturbs 24 = .ok (.iconst 0, 1) := by decide +kernel
theorem dX6_disturbs_25 : decode cX6_disturbs 25 = .ok (.ireturn, 1) := by decide +kernel
theorem dX6_groupDetail_0 : decode cX6_groupDetail 0 = .ok (.iload_n 2, 1) := by decide +kernel
theorem dX6_groupDetail_1 : decode cX6_groupDetail 1 = .ok (.lookupswitch 52 #[(0, 27), (1, 43)], 27) := by decide +kernel
theorem dX6_groupDetail_28 : decode cX6_groupDetail 28 = .ok (.aload_n 0, 1) := by decide +kernel
theorem dX6_groupDetail_29 : decode cX6_groupDetail 29 = .ok (.getfield 40, 3) := by decide +kernel
theorem dX6_groupDetail_32 : decode cX6_groupDetail 32 = .ok (.aload_n 0, 1) := by decide +kernel
theorem dX6_groupDetail_33 : decode cX6_groupDetail 33 = .ok (.getfield 40, 3) := by decide +kernel
theorem dX6_groupDetail_36 : decode cX6_groupDetail 36 = .ok (.iload_n 1, 1) := by decide +kernel
theorem dX6_groupDetail_37 : decode cX6_groupDetail 37 = .ok (.invokevirtual 210, 3) := by decide +kernel
theorem dX6_groupDetail_40 : decode cX6_groupDetail 40 = .ok (.invokevirtual 213, 3) := by decide +kernel
theorem dX6_groupDetail_43 : decode cX6_groupDetail 43 = .ok (.ireturn, 1) := by decide +kernel
theorem dX6_groupDetail_44 : decode cX6_groupDetail 44 = .ok (.aload_n 0, 1) := by decide +kernel
theorem dX6_groupDetail_45 : decode cX6_groupDetail 45 = .ok (.getfield 40, 3) := by decide +kernel
theorem dX6_groupDetail_48 : decode cX6_groupDetail 48 = .ok (.iload_n 1, 1) := by decide +kernel
theorem dX6_groupDetail_49 : decode cX6_groupDetail 49 = .ok (.invokevirtual 210, 3) := by decide +kernel
theorem dX6_groupDetail_52 : decode cX6_groupDetail 52 = .ok (.ireturn, 1) := by decide +kernel
theorem dX6_groupDetail_53 : decode cX6_groupDetail 53 = .ok (.aload_n 0, 1) := by decide +kernel
theorem dX6_groupDetail_54 : decode cX6_groupDetail 54 = .ok (.getfield 40, 3) := by decide +kernel
theorem dX6_groupDetail_57 : decode cX6_groupDetail 57 = .ok (.aload_n 0, 1) := by decide +kernel
theorem dX6_groupDetail_58 : decode cX6_groupDetail 58 = .ok (.getfield 40, 3) := by decide +kernel
theorem dX6_groupDetail_61 : decode cX6_groupDetail 61 = .ok (.iload_n 1, 1) := by decide +kernel
theorem dX6_groupDetail_62 : decode cX6_groupDetail 62 = .ok (.invokevirtual 210, 3) := by decide +kernel
theorem dX6_groupDetail_65 : decode cX6_groupDetail 65 = .ok (.invokevirtual 216, 3) := by decide +kernel
theorem dX6_groupDetail_68 : decode cX6_groupDetail 68 = .ok (.ireturn, 1) := by decide +kernel
theorem dX6_counted_0 : decode cX6_counted 0 = .ok (.iload_n 1, 1) := by decide +kernel
theorem dX6_counted_1 : decode cX6_counted 1 = .ok (.tableswitch 63 0 3 #[31, 39, 47, 55], 31) := by decide +kernel
theorem dX6_counted_32 : decode cX6_counted 32 = .ok (.aload_n 0, 1) := by decide +kernel
theorem dX6_counted_33 : decode cX6_counted 33 = .ok (.getfield 40, 3) := by decide +kernel
theorem dX6_counted_36 : decode cX6_counted 36 = .ok (.invokevirtual 219, 3) := by decide +kernel
theorem dX6_counted_39 : decode cX6_counted 39 = .ok (.ireturn, 1) := by decide +kernel
theorem dX6_counted_40 : decode cX6_counted 40 = .ok (.aload_n 0, 1) := by decide +kernel
theorem dX6_counted_41 : decode cX6_counted 41 = .ok (.getfield 40, 3) := by decide +kernel
theorem dX6_counted_44 : decode cX6_counted 44 = .ok (.invokevirtual 222, 3) := by decide +kernel
theorem dX6_counted_47 : decode cX6_counted 47 = .ok (.ireturn, 1) := by decide +kernel
theorem dX6_counted_48 : decode cX6_counted 48 = .ok (.aload_n 0, 1) := by decide +kernel
theorem dX6_counted_49 : decode cX6_counted 49 = .ok (.getfield 40, 3) := by decide +kernel
theorem dX6_counted_52 : decode cX6_counted 52 = .ok (.invokevirtual 225, 3) := by decide +kernel
theorem dX6_counted_55 : decode cX6_counted 55 = .ok (.ireturn, 1) := by decide +kernel
theorem dX6_counted_56 : decode cX6_counted 56 = .ok (.aload_n 0, 1) := by decide +kernel
theorem dX6_counted_57 : decode cX6_counted 57 = .ok (.getfield 33, 3) := by decide +kernel
theorem dX6_counted_60 : decode cX6_counted 60 = .ok (.invokevirtual 228, 3) := by decide +kernel
theorem dX6_counted_63 : decode cX6_counted 63 = .ok (.ireturn, 1) := by decide +kernel
theorem dX6_counted_64 : decode cX6_counted 64 = .ok (.aload_n 0, 1) := by decide +kernel
theorem dX6_counted_65 : decode cX6_counted 65 = .ok (.getfield 40, 3) := by decide +kernel
theorem dX6_counted_68 : decode cX6_counted 68 = .ok (.invokevirtual 231, 3) := by decide +kernel
theorem dX6_counted_71 : decode cX6_counted 71 = .ok (.ireturn, 1) := by decide +kernel
theorem dX6_mayPointTo_0 : decode cX6_mayPointTo 0 = .ok (.iload_n 2, 1) := by decide +kernel
theorem dX6_mayPointTo_1 : decode cX6_mayPointTo 1 = .ok (.ifCond .ne 24, 3) := by decide +kernel
theorem dX6_mayPointTo_4 : decode cX6_mayPointTo 4 = .ok (.aload_n 0, 1) := by decide +kernel
theorem dX6_mayPointTo_5 : decode cX6_mayPointTo 5 = .ok (.getfield 33, 3) := by decide +kernel
theorem dX6_mayPointTo_8 : decode cX6_mayPointTo 8 = .ok (.aload_n 0, 1) := by decide +kernel
theorem dX6_mayPointTo_9 : decode cX6_mayPointTo 9 = .ok (.getfield 10, 3) := by decide +kernel
theorem dX6_mayPointTo_12 : decode cX6_mayPointTo 12 = .ok (.iload_n 3, 1) := by decide +kernel
theorem dX6_mayPointTo_13 : decode cX6_mayPointTo 13 = .ok (.invokevirtual 88, 3) := by decide +kernel
theorem dX6_mayPointTo_16 : decode cX6_mayPointTo 16 = .ok (.aload_n 0, 1) := by decide +kernel
theorem dX6_mayPointTo_17 : decode cX6_mayPointTo 17 = .ok (.getfield 33, 3) := by decide +kernel
theorem dX6_mayPointTo_20 : decode cX6_mayPointTo 20 = .ok (.iload_n 1, 1) := by decide +kernel
theorem dX6_mayPointTo_21 : decode cX6_mayPointTo 21 = .ok (.invokevirtual 103, 3) := by decide +kernel
theorem dX6_mayPointTo_24 : decode cX6_mayPointTo 24 = .ok (.ireturn, 1) := by decide +kernel
theorem dX6_mayPointTo_25 : decode cX6_mayPointTo 25 = .ok (.aload_n 0, 1) := by decide +kernel
theorem dX6_mayPointTo_26 : decode cX6_mayPointTo 26 = .ok (.getfield 40, 3) := by decide +kernel
theorem dX6_mayPointTo_29 : decode cX6_mayPointTo 29 = .ok (.aload_n 0, 1) := by decide +kernel
theorem dX6_mayPointTo_30 : decode cX6_mayPointTo 30 = .ok (.getfield 10, 3) := by decide +kernel
theorem dX6_mayPointTo_33 : decode cX6_mayPointTo 33 = .ok (.iload_n 3, 1) := by decide +kernel
theorem dX6_mayPointTo_34 : decode cX6_mayPointTo 34 = .ok (.invokevirtual 107, 3) := by decide +kernel
theorem dX6_mayPointTo_37 : decode cX6_mayPointTo 37 = .ok (.aload_n 0, 1) := by decide +kernel
theorem dX6_mayPointTo_38 : decode cX6_mayPointTo 38 = .ok (.getfield 40, 3) := by decide +kernel
theorem dX6_mayPointTo_41 : decode cX6_mayPointTo 41 = .ok (.iload_n 1, 1) := by decide +kernel
theorem dX6_mayPointTo_42 : decode cX6_mayPointTo 42 = .ok (.invokevirtual 108, 3) := by decide +kernel
theorem dX6_mayPointTo_45 : decode cX6_mayPointTo 45 = .ok (.ireturn, 1) := by decide +kernel
theorem dX6_mixedName_0 : decode cX6_mixedName 0 = .ok (.lload_n 1, 1) := by decide +kernel
theorem dX6_mixedName_1 : decode cX6_mixedName 1 = .ok (.aload_n 0, 1) := by decide +kernel
theorem dX6_mixedName_2 : decode cX6_mixedName 2 = .ok (.getfield 33, 3) := by decide +kernel
theorem dX6_mixedName_5 : decode cX6_mixedName 5 = .ok (.iload_n 3, 1) := by decide +kernel
theorem dX6_mixedName_6 : decode cX6_mixedName 6 = .ok (.invokevirtual 103, 3) := by decide +kernel
theorem dX6_mixedName_9 : decode cX6_mixedName 9 = .ok (.invokestatic 175, 3) := by decide +kernel
theorem dX6_mixedName_12 : decode cX6_mixedName 12 = .ok (.lstore 4, 2) := by decide +kernel
theorem dX6_mixedName_14 : decode cX6_mixedName 14 = .ok (.lload 4, 2) := by decide +kernel
theorem dX6_mixedName_16 : decode cX6_mixedName 16 = .ok (.aload_n 0, 1) := by decide +kernel
theorem dX6_mixedName_17 : decode cX6_mixedName 17 = .ok (.getfield 40, 3) := by decide +kernel
theorem dX6_mixedName_20 : decode cX6_mixedName 20 = .ok (.iload_n 3, 1) := by decide +kernel
theorem dX6_mixedName_21 : decode cX6_mixedName 21 = .ok (.invokevirtual 108, 3) := by decide +kernel
theorem dX6_mixedName_24 : decode cX6_mixedName 24 = .ok (.invokestatic 175, 3) := by decide +kernel
theorem dX6_mixedName_27 : decode cX6_mixedName 27 = .ok (.lstore 4, 2) := by decide +kernel
theorem dX6_mixedName_29 : decode cX6_mixedName 29 = .ok (.lload 4, 2) := by decide +kernel
theorem dX6_mixedName_31 : decode cX6_mixedName 31 = .ok (.aload_n 0, 1) := by decide +kernel
theorem dX6_mixedName_32 : decode cX6_mixedName 32 = .ok (.iload_n 3, 1) := by decide +kernel
theorem dX6_mixedName_33 : decode cX6_mixedName 33 = .ok (.iconst 1, 1) := by decide +kernel
theorem dX6_mixedName_34 : decode cX6_mixedName 34 = .ok (.invokevirtual 109, 3) := by decide +kernel
theorem dX6_mixedName_37 : decode cX6_mixedName 37 = .ok (.invokestatic 175, 3) := by decide +kernel
theorem dX6_mixedName_40 : decode cX6_mixedName 40 = .ok (.lstore 4, 2) := by decide +kernel
theorem dX6_mixedName_42 : decode cX6_mixedName 42 = .ok (.lload 4, 2) := by decide +kernel
theorem dX6_mixedName_44 : decode cX6_mixedName 44 = .ok (.aload_n 0, 1) := by decide +kernel
theorem dX6_mixedName_45 : decode cX6_mixedName 45 = .ok (.iload_n 3, 1) := by decide +kernel
theorem dX6_mixedName_46 : decode cX6_mixedName 46 = .ok (.iconst 2, 1) := by decide +kernel
theorem dX6_mixedName_47 : decode cX6_mixedName 47 = .ok (.invokevirtual 109, 3) := by decide +kernel
theorem dX6_mixedName_50 : decode cX6_mixedName 50 = .ok (.invokestatic 175, 3) := by decide +kernel
theorem dX6_mixedName_53 : decode cX6_mixedName 53 = .ok (.lstore 4, 2) := by decide +kernel
theorem dX6_mixedName_55 : decode cX6_mixedName 55 = .ok (.lload 4, 2) := by decide +kernel
theorem dX6_mixedName_57 : decode cX6_mixedName 57 = .ok (.aload_n 0, 1) := by decide +kernel
theorem dX6_mixedName_58 : decode cX6_mixedName 58 = .ok (.getfield 47, 3) := by decide +kernel
theorem dX6_mixedName_61 : decode cX6_mixedName 61 = .ok (.iload_n 3, 1) := by decide +kernel
theorem dX6_mixedName_62 : decode cX6_mixedName 62 = .ok (.invokevirtual 130, 3) := by decide +kernel
theorem dX6_mixedName_65 : decode cX6_mixedName 65 = .ok (.invokestatic 175, 3) := by decide +kernel
theorem dX6_mixedName_68 : decode cX6_mixedName 68 = .ok (.lstore 4, 2) := by decide +kernel
theorem dX6_mixedName_70 : decode cX6_mixedName 70 = .ok (.lload 4, 2) := by decide +kernel
theorem dX6_mixedName_72 : decode cX6_mixedName 72 = .ok (.aload_n 0, 1) := by decide +kernel
theorem dX6_mixedName_73 : decode cX6_mixedName 73 = .ok (.getfield 47, 3) := by decide +kernel
theorem dX6_mixedName_76 : decode cX6_mixedName 76 = .ok (.iload_n 3, 1) := by decide +kernel
theorem dX6_mixedName_77 : decode cX6_mixedName 77 = .ok (.invokevirtual 133, 3) := by decide +kernel
theorem dX6_mixedName_80 : decode cX6_mixedName 80 = .ok (.invokestatic 175, 3) := by decide +kernel
theorem dX6_mixedName_83 : decode cX6_mixedName 83 = .ok (.lreturn, 1) := by decide +kernel
theorem dX6_mixed_0 : decode cX6_mixed 0 = .ok (.ldc2_w 232, 3) := by decide +kernel
theorem dX6_mixed_3 : decode cX6_mixed 3 = .ok (.lload_n 0, 1) := by decide +kernel
theorem dX6_mixed_4 : decode cX6_mixed 4 = .ok (.lmul, 1) := by decide +kernel
theorem dX6_mixed_5 : decode cX6_mixed 5 = .ok (.iload_n 2, 1) := by decide +kernel
theorem dX6_mixed_6 : decode cX6_mixed 6 = .ok (.i2l, 1) := by decide +kernel
theorem dX6_mixed_7 : decode cX6_mixed 7 = .ok (.ladd, 1) := by decide +kernel
theorem dX6_mixed_8 : decode cX6_mixed 8 = .ok (.lreturn, 1) := by decide +kernel
theorem dX7_init_0 : decode cX7_init 0 = .ok (.aload_n 0, 1) := by decide +kernel
theorem dX7_init_1 : decode cX7_init 1 = .ok (.invokespecial 1, 3) := by decide +kernel
theorem dX7_init_4 : decode cX7_init 4 = .ok (.aload_n 0, 1) := by decide +kernel
theorem dX7_init_5 : decode cX7_init 5 = .ok (.bipush 15, 2) := by decide +kernel
theorem dX7_init_7 : decode cX7_init 7 = .ok (.newarray .int, 2) := by decide +kernel
theorem dX7_init_9 : decode cX7_init 9 = .ok (.putfield 7, 3) := by decide +kernel
theorem dX7_init_12 : decode cX7_init 12 = .ok (.aload_n 0, 1) := by decide +kernel
theorem dX7_init_13 : decode cX7_init 13 = .ok (.bipush 15, 2) := by decide +kernel
theorem dX7_init_15 : decode cX7_init 15 = .ok (.newarray .int, 2) := by decide +kernel
theorem dX7_init_17 : decode cX7_init 17 = .ok (.putfield 13, 3) := by decide +kernel
theorem dX7_init_20 : decode cX7_init 20 = .ok (.aload_n 0, 1) := by decide +kernel
theorem dX7_init_21 : decode cX7_init 21 = .ok (.bipush 75, 2) := by decide +kernel
theorem dX7_init_23 : decode cX7_init 23 = .ok (.newarray .int, 2) := by decide +kernel
theorem dX7_init_25 : decode cX7_init 25 = .ok (.putfield 16, 3) := by decide +kernel
theorem dX7_init_28 : decode cX7_init 28 = .ok (.aload_n 0, 1) := by decide +kernel
theorem dX7_init_29 : decode cX7_init 29 = .ok (.iconst 3, 1) := by decide +kernel
theorem dX7_init_30 : decode cX7_init 30 = .ok (.newarray .int, 2) := by decide +kernel
theorem dX7_init_32 : decode cX7_init 32 = .ok (.putfield 19, 3) := by decide +kernel
theorem dX7_init_35 : decode cX7_init 35 = .ok (.aload_n 0, 1) := by decide +kernel
theorem dX7_init_36 : decode cX7_init 36 = .ok (.bipush 120, 2) := by decide +kernel
theorem dX7_init_38 : decode cX7_init 38 = .ok (.newarray .int, 2) := by decide +kernel
theorem dX7_init_40 : decode cX7_init 40 = .ok (.putfield 22, 3) := by decide +kernel
theorem dX7_init_43 : decode cX7_init 43 = .ok (.aload_n 0, 1) := by decide +kernel
theorem dX7_init_44 : decode cX7_init 44 = .ok (.bipush 10, 2) := by decide +kernel
theorem dX7_init_46 : decode cX7_init 46 = .ok (.newarray .int, 2) := by decide +kernel
theorem dX7_init_48 : decode cX7_init 48 = .ok (.putfield 25, 3) := by decide +kernel
theorem dX7_init_51 : decode cX7_init 51 = .ok (.aload_n 0, 1) := by decide +kernel
theorem dX7_init_52 : decode cX7_init 52 = .ok (.bipush 10, 2) := by decide +kernel
theorem dX7_init_54 : decode cX7_init 54 = .ok (.newarray .int, 2) := by decide +kernel
theorem dX7_init_56 : decode cX7_init 56 = .ok (.putfield 28, 3) := by decide +kernel
theorem dX7_init_59 : decode cX7_init 59 = .ok (.aload_n 0, 1) := by decide +kernel
theorem dX7_init_60 : decode cX7_init 60 = .ok (.bipush 10, 2) := by decide +kernel
theorem dX7_init_62 : decode cX7_init 62 = .ok (.newarray .int, 2) := by decide +kernel
theorem dX7_init_64 : decode cX7_init 64 = .ok (.putfield 31, 3) := by decide +kernel
theorem dX7_init_67 : decode cX7_init 67 = .ok (.aload_n 0, 1) := by decide +kernel
theorem dX7_init_68 : decode cX7_init 68 = .ok (.bipush 10, 2) := by decide +kernel
theorem dX7_init_70 : decode cX7_init 70 = .ok (.newarray .int, 2) := by decide +kernel
theorem dX7_init_72 : decode cX7_init 72 = .ok (.putfield 34, 3) := by decide +kernel
theorem dX7_init_75 : decode cX7_init 75 = .ok (.aload_n 0, 1) := by decide +kernel
theorem dX7_init_76 : decode cX7_init 76 = .ok (.bipush 10, 2) := by decide +kernel
theorem dX7_init_78 : decode cX7_init 78 = .ok (.newarray .int, 2) := by decide +kernel
theorem dX7_init_80 : decode cX7_init 80 = .ok (.putfield 37, 3) := by decide +kernel
theorem dX7_init_83 : decode cX7_init 83 = .ok (.aload_n 0, 1) := by decide +kernel
theorem dX7_init_84 : decode cX7_init 84 = .ok (.bipush 70, 2) := by decide +kernel
theorem dX7_init_86 : decode cX7_init 86 = .ok (.newarray .int, 2) := by decide +kernel
theorem dX7_init_88 : decode cX7_init 88 = .ok (.putfield 40, 3) := by decide +kernel
theorem dX7_init_91 : decode cX7_init 91 = .ok (.aload_n 0, 1) := by decide +kernel
theorem dX7_init_92 : decode cX7_init 92 = .ok (.getfield 7, 3) := by decide +kernel
theorem dX7_init_95 : decode cX7_init 95 = .ok (.iconst 0, 1) := by decide +kernel
theorem dX7_init_96 : decode cX7_init 96 = .ok (.iconst 0, 1) := by decide +kernel
theorem dX7_init_97 : decode cX7_init 97 = .ok (.iastore, 1) := by decide +kernel
theorem dX7_init_98 : decode cX7_init 98 = .ok (.return_, 1) := by decide +kernel
theorem dX7_within_0 : decode cX7_within 0 = .ok (.iload_n 0, 1) := by decide +kernel
theorem dX7_within_1 : decode cX7_within 1 = .ok (.iload_n 1, 1) := by decide +kernel
theorem dX7_within_2 : decode cX7_within 2 = .ok (.if_icmp .lt 12, 3) := by decide +kernel
theorem dX7_within_5 : decode cX7_within 5 = .ok (.iload_n 0, 1) := by decide +kernel
theorem dX7_within_6 : decode cX7_within 6 = .ok (.iload_n 2, 1) := by decide +kernel
theorem dX7_within_7 : decode cX7_within 7 = .ok (.if_icmp .gt 7, 3) := by decide +kernel
theorem dX7_within_10 : decode cX7_within 10 = .ok (.iconst 1, 1) := by decide +kernel
theorem dX7_within_11 : decode cX7_within 11 = .ok (.goto 4, 3) := by decide +kernel
theorem dX7_within_14 : decode cX7_within 14 = .ok (.iconst 0, 1) := by decide +kernel
theorem dX7_within_15 : decode cX7_within 15 = .ok (.ireturn, 1) := by decide +kernel
theorem dX7_has_0 : decode cX7_has 0 = .ok (.iload_n 0, 1) := by decide +kernel
theorem dX7_has_1 : decode cX7_has 1 = .ok (.iload_n 1, 1) := by decide +kernel
theorem dX7_has_2 : decode cX7_has 2 = .ok (.ishr, 1) := by decide +kernel
theorem dX7_has_3 : decode cX7_has 3 = .ok (.iconst 1, 1) := by decide +kernel
theorem dX7_has_4 : decode cX7_has 4 = .ok (.iand, 1) := by decide +kernel
theorem dX7_has_5 : decode cX7_has 5 = .ok (.iconst 1, 1) := by decide +kernel
theorem dX7_has_6 : decode cX7_has 6 = .ok (.if_icmp .ne 7, 3) := by decide +kernel
theorem dX7_has_9 : decode cX7_has 9 = .ok (.iconst 1, 1) := by decide +kernel
theorem dX7_has_10 : decode cX7_has 10 = .ok (.goto 4, 3) := by decide +kernel
theorem dX7_has_13 : decode cX7_has 13 = .ok (.iconst 0, 1) := by decide +kernel
theorem dX7_has_14 : decode cX7_has 14 = .ok (.ireturn, 1) := by decide +kernel
theorem dX7_ones_0 : decode cX7_ones 0 = .ok (.iconst 0, 1) := by decide +kernel
theorem dX7_ones_1 : decode cX7_ones 1 = .ok (.istore_n 1, 1) := by decide +kernel
theorem dX7_ones_2 : decode cX7_ones 2 = .ok (.iconst 0, 1) := by decide +kernel
theorem dX7_ones_3 : decode cX7_ones 3 = .ok (.istore_n 2, 1) := by decide +kernel
theorem dX7_ones_4 : decode cX7_ones 4 = .ok (.iload_n 2, 1) := by decide +kernel
theorem dX7_ones_5 : decode cX7_ones 5 = .ok (.bipush 10, 2) := by decide +kernel
theorem dX7_ones_7 : decode cX7_ones 7 = .ok (.if_icmp .ge 17, 3) := by decide +kernel
theorem dX7_ones_10 : decode cX7_ones 10 = .ok (.iload_n 1, 1) := by decide +kernel
theorem dX7_ones_11 : decode cX7_ones 11 = .ok (.iload_n 0, 1) := by decide +kernel
theorem dX7_ones_12 : decode cX7_ones 12 = .ok (.iload_n 2, 1) := by decide +kernel
theorem dX7_ones_13 : decode cX7_ones 13 = .ok (.ishr, 1) := by decide +kernel
theorem dX7_ones_14 : decode cX7_ones 14 = .ok (.iconst 1, 1) := by decide +kernel
theorem dX7_ones_15 : decode cX7_ones 15 = .ok (.iand, 1) := by decide +kernel
theorem dX7_ones_16 : decode cX7_ones 16 = .ok (.iadd, 1) := by decide +kernel
theorem dX7_ones_17 : decode cX7_ones 17 = .ok (.istore_n 1, 1) := by decide +kernel
theorem dX7_ones_18 : decode cX7_ones 18 = .ok (.iinc 2 1, 3) := by decide +kernel
theorem dX7_ones_21 : decode cX7_ones 21 = .ok (.goto (-17), 3) := by decide +kernel
theorem dX7_ones_24 : decode cX7_ones 24 = .ok (.iload_n 1, 1) := by decide +kernel
theorem dX7_ones_25 : decode cX7_ones 25 = .ok (.ireturn, 1) := by decide +kernel
theorem dX7_counts_0 : decode cX7_counts 0 = .ok (.aload_n 0, 1) := by decide +kernel
theorem dX7_counts_1 : decode cX7_counts 1 = .ok (.getfield 19, 3) := by decide +kernel
theorem dX7_counts_4 : decode cX7_counts 4 = .ok (.bipush (-2), 2) := by decide +kernel
theorem dX7_counts_6 : decode cX7_counts 6 = .ok (.iload_n 1, 1) := by decide +kernel
theorem dX7_counts_7 : decode cX7_counts 7 = .ok (.isub, 1) := by decide +kernel
theorem dX7_counts_8 : decode cX7_counts 8 = .ok (.dup2, 1) := by decide +kernel
theorem dX7_counts_9 : decode cX7_counts 9 = .ok (.iaload, 1) := by decide +kernel
theorem dX7_counts_10 : decode cX7_counts 10 = .ok (.iconst 1, 1) := by decide +kernel
theorem dX7_counts_11 : decode cX7_counts 11 = .ok (.iadd, 1) := by decide +kernel
theorem dX7_counts_12 : decode cX7_counts 12 = .ok (.iastore, 1) := by decide +kernel
theorem dX7_counts_13 : decode cX7_counts 13 = .ok (.iload_n 1, 1) := by decide +kernel
theorem dX7_counts_14 : decode cX7_counts 14 = .ok (.ireturn, 1) := by decide +kernel
theorem dX7_isName_0 : decode cX7_isName 0 = .ok (.iload_n 0, 1) := by decide +kernel
theorem dX7_isName_1 : decode cX7_isName 1 = .ok (.iconst 0, 1) := by decide +kernel
theorem dX7_isName_2 : decode cX7_isName 2 = .ok (.bipush 9, 2) := by decide +kernel
theorem dX7_isName_4 : decode cX7_isName 4 = .ok (.invokestatic 43, 3) := by decide +kernel
theorem dX7_isName_7 : decode cX7_isName 7 = .ok (.ireturn, 1) := by decide +kernel
theorem dX7_isLine_0 : decode cX7_isLine 0 = .ok (.iload_n 1, 1) := by decide +kernel
theorem dX7_isLine_1 : decode cX7_isLine 1 = .ok (.iconst 0, 1) := by decide +kernel
theorem dX7_isLine_2 : decode cX7_isLine 2 = .ok (.aload_n 0, 1) := by decide +kernel
theorem dX7_isLine_3 : decode cX7_isLine 3 = .ok (.getfield 7, 3) := by decide +kernel
theorem dX7_isLine_6 : decode cX7_isLine 6 = .ok (.iconst 0, 1) := by decide +kernel
theorem dX7_isLine_7 : decode cX7_isLine 7 = .ok (.iaload, 1) := by decide +kernel
theorem dX7_isLine_8 : decode cX7_isLine 8 = .ok (.iconst 1, 1) := by decide +kernel
theorem dX7_isLine_9 : decode cX7_isLine 9 = .ok (.isub, 1) := by decide +kernel
theorem dX7_isLine_10 : decode cX7_isLine 10 = .ok (.invokestatic 43, 3) := by decide +kernel
theorem dX7_isLine_13 : decode cX7_isLine 13 = .ok (.ireturn, 1) := by decide +kernel
theorem dX7_sortOf_0 : decode cX7_sortOf 0 = .ok (.aload_n 0, 1) := by decide +kernel
theorem dX7_sortOf_1 : decode cX7_sortOf 1 = .ok (.getfield 7, 3) := by decide +kernel
theorem dX7_sortOf_4 : decode cX7_sortOf 4 = .ok (.iconst 1, 1) := by decide +kernel
theorem dX7_sortOf_5 : decode cX7_sortOf 5 = .ok (.iload_n 1, 1) := by decide +kernel
theorem dX7_sortOf_6 : decode cX7_sortOf 6 = .ok (.iadd, 1) := by decide +kernel
theorem dX7_sortOf_7 : decode cX7_sortOf 7 = .ok (.iaload, 1) := by decide +kernel
theorem dX7_sortOf_8 : decode cX7_sortOf 8 = .ok (.bipush 100, 2) := by decide +kernel
theorem dX7_sortOf_10 : decode cX7_sortOf 10 = .ok (.idiv, 1) := by decide +kernel
theorem dX7_sortOf_11 : decode cX7_sortOf 11 = .ok (.ireturn, 1) := by decide +kernel
theorem dX7_xOf_0 : decode cX7_xOf 0 = .ok (.aload_n 0, 1) := by decide +kernel
theorem dX7_xOf_1 : decode cX7_xOf 1 = .ok (.getfield 7, 3) := by decide +kernel
theorem dX7_xOf_4 : decode cX7_xOf 4 = .ok (.iconst 1, 1) := by decide +kernel
theorem dX7_xOf_5 : decode cX7_xOf 5 = .ok (.iload_n 1, 1) := by decide +kernel
theorem dX7_xOf_6 : decode cX7_xOf 6 = .ok (.iadd, 1) := by decide +kernel
theorem dX7_xOf_7 : decode cX7_xOf 7 = .ok (.iaload, 1) := by decide +kernel
theorem dX7_xOf_8 : decode cX7_xOf 8 = .ok (.bipush 10, 2) := by decide +kernel
theorem dX7_xOf_10 : decode cX7_xOf 10 = .ok (.idiv, 1) := by decide +kernel
theorem dX7_xOf_11 : decode cX7_xOf 11 = .ok (.bipush 10, 2) := by decide +kernel
theorem dX7_xOf_13 : decode cX7_xOf 13 = .ok (.irem, 1) := by decide +kernel
theorem dX7_xOf_14 : decode cX7_xOf 14 = .ok (.ireturn, 1) := by decide +kernel
theorem dX7_yOf_0 : decode cX7_yOf 0 = .ok (.aload_n 0, 1) := by decide +kernel
theorem dX7_yOf_1 : decode cX7_yOf 1 = .ok (.getfield 7, 3) := by decide +kernel
theorem dX7_yOf_4 : decode cX7_yOf 4 = .ok (.iconst 1, 1) := by decide +kernel
theorem dX7_yOf_5 : decode cX7_yOf 5 = .ok (.iload_n 1, 1) := by decide +kernel
theorem dX7_yOf_6 : decode cX7_yOf 6 = .ok (.iadd, 1) := by decide +kernel
theorem dX7_yOf_7 : decode cX7_yOf 7 = .ok (.iaload, 1) := by decide +kernel
theorem dX7_yOf_8 : decode cX7_yOf 8 = .ok (.bipush 10, 2) := by decide +kernel
theorem dX7_yOf_10 : decode cX7_yOf 10 = .ok (.irem, 1) := by decide +kernel
theorem dX7_yOf_11 : decode cX7_yOf 11 = .ok (.ireturn, 1) := by decide +kernel
theorem dX7_leaves_0 : decode cX7_leaves 0 = .ok (.aload_n 0, 1) := by decide +kernel
theorem dX7_leaves_1 : decode cX7_leaves 1 = .ok (.getfield 47, 3) := by decide +kernel
theorem dX7_leaves_4 : decode cX7_leaves 4 = .ok (.iconst 5, 1) := by decide +kernel
theorem dX7_leaves_5 : decode cX7_leaves 5 = .ok (.if_icmp .ne 42, 3) := by decide +kernel
theorem dX7_leaves_8 : decode cX7_leaves 8 = .ok (.iconst 0, 1) := by decide +kernel
theorem dX7_leaves_9 : decode cX7_leaves 9 = .ok (.istore_n 1, 1) := by decide +kernel
theorem dX7_leaves_10 : decode cX7_leaves 10 = .ok (.iload_n 1, 1) := by decide +kernel
theorem dX7_leaves_11 : decode cX7_leaves 11 = .ok (.bipush 60, 2) := by decide +kernel
theorem dX7_leaves_13 : decode cX7_leaves 13 = .ok (.if_icmp .ge 24, 3) := by decide +kernel
theorem dX7_leaves_16 : decode cX7_leaves 16 = .ok (.aload_n 0, 1) := by decide +kernel
theorem dX7_leaves_17 : decode cX7_leaves 17 = .ok (.getfield 16, 3) := by decide +kernel
theorem dX7_leaves_20 : decode cX7_leaves 20 = .ok (.iload_n 1, 1) := by decide +kernel
theorem dX7_leaves_21 : decode cX7_leaves 21 = .ok (.aload_n 0, 1) := by decide +kernel
theorem dX7_leaves_22 : decode cX7_leaves 22 = .ok (.getfield 16, 3) := by decide +kernel
theorem dX7_leaves_25 : decode cX7_leaves 25 = .ok (.iload_n 1, 1) := by decide +kernel
theorem dX7_leaves_26 : decode cX7_leaves 26 = .ok (.bipush 15, 2) := by decide +kernel
theorem dX7_leaves_28 : decode cX7_leaves 28 = .ok (.iadd, 1) := by decide +kernel
theorem dX7_leaves_29 : decode cX7_leaves 29 = .ok (.iaload, 1) := by decide +kernel
theorem dX7_leaves_30 : decode cX7_leaves 30 = .ok (.iastore, 1) := by decide +kernel
theorem dX7_leaves_31 : decode cX7_leaves 31 = .ok (.iinc 1 1, 3) := by decide +kernel
theorem dX7_leaves_34 : decode cX7_leaves 34 = .ok (.goto (-24), 3) := by decide +kernel
theorem dX7_leaves_37 : decode cX7_leaves 37 = .ok (.aload_n 0, 1) := by decide +kernel
theorem dX7_leaves_38 : decode cX7_leaves 38 = .ok (.dup, 1) := by decide +kernel
theorem dX7_leaves_39 : decode cX7_leaves 39 = .ok (.getfield 47, 3) := by decide +kernel
theorem dX7_leaves_42 : decode cX7_leaves 42 = .ok (.iconst 1, 1) := by decide +kernel
theorem dX7_leaves_43 : decode cX7_leaves 43 = .ok (.isub, 1) := by decide +kernel
theorem dX7_leaves_44 : decode cX7_leaves 44 = .ok (.putfield 47, 3) := by decide +kernel
theorem dX7_leaves_47 : decode cX7_leaves 47 = .ok (.iconst 0, 1) := by decide +kernel
theorem dX7_leaves_48 : decode cX7_leaves 48 = .ok (.istore_n 1, 1) := by decide +kernel
theorem dX7_leaves_49 : decode cX7_leaves 49 = .ok (.iload_n 1, 1) := by decide +kernel
theorem dX7_leaves_50 : decode cX7_leaves 50 = .ok (.bipush 15, 2) := by decide +kernel
theorem dX7_leaves_52 : decode cX7_leaves 52 = .ok (.if_icmp .ge 29, 3) := by decide +kernel
theorem dX7_leaves_55 : decode cX7_leaves 55 = .ok (.aload_n 0, 1) := by decide +kernel
theorem dX7_leaves_56 : decode cX7_leaves 56 = .ok (.getfield 16, 3) := by decide +kernel
theorem dX7_leaves_59 : decode cX7_leaves 59 = .ok (.bipush 15, 2) := by decide +kernel
theorem dX7_leaves_61 : decode cX7_leaves 61 = .ok (.aload_n 0, 1) := by decide +kernel
theorem dX7_leaves_62 : decode cX7_leaves 62 = .ok (.getfield 47, 3) := by decide +kernel
theorem dX7_leaves_65 : decode cX7_leaves 65 = .ok (.imul, 1) := by decide +kernel
theorem dX7_leaves_66 : decode cX7_leaves 66 = .ok (.iload_n 1, 1) := by decide +kernel
theorem dX7_leaves_67 : decode cX7_leaves 67 = .ok (.iadd, 1) := by decide +kernel
theorem dX7_leaves_68 : decode cX7_leaves 68 = .ok (.aload_n 0, 1) := by decide +kernel
theorem dX7_leaves_69 : decode cX7_leaves 69 = .ok (.getfield 7, 3) := by decide +kernel
theorem dX7_leaves_72 : decode cX7_leaves 72 = .ok (.iload_n 1, 1) := by decide +kernel
theorem dX7_leaves_73 : decode cX7_leaves 73 = .ok (.iaload, 1) := by decide +kernel
theorem dX7_leaves_74 : decode cX7_leaves 74 = .ok (.iastore, 1) := by decide +kernel
theorem dX7_leaves_75 : decode cX7_leaves 75 = .ok (.iinc 1 1, 3) := by decide +kernel
theorem dX7_leaves_78 : decode cX7_leaves 78 = .ok (.goto (-29), 3) := by decide +kernel
theorem dX7_leaves_81 : decode cX7_leaves 81 = .ok (.aload_n 0, 1) := by decide +kernel
theorem dX7_leaves_82 : decode cX7_leaves 82 = .ok (.dup, 1) := by decide +kernel
theorem dX7_leaves_83 : decode cX7_leaves 83 = .ok (.getfield 47, 3) := by decide +kernel
theorem dX7_leaves_86 : decode cX7_leaves 86 = .ok (.iconst 1, 1) := by decide +kernel
theorem dX7_leaves_87 : decode cX7_leaves 87 = .ok (.iadd, 1) := by decide +kernel
theorem dX7_leaves_88 : decode cX7_leaves 88 = .ok (.putfield 47, 3) := by decide +kernel
theorem dX7_leaves_91 : decode cX7_leaves 91 = .ok (.return_, 1) := by decide +kernel
theorem dX7_back_0 : decode cX7_back 0 = .ok (.aload_n 0, 1) := by decide +kernel
theorem dX7_back_1 : decode cX7_back 1 = .ok (.getfield 47, 3) := by decide +kernel
theorem dX7_back_4 : decode cX7_back 4 = .ok (.ifCond .ne 10, 3) := by decide +kernel
theorem dX7_back_7 : decode cX7_back 7 = .ok (.aload_n 0, 1) := by decide +kernel
theorem dX7_back_8 : decode cX7_back 8 = .ok (.bipush (-3), 2) := by decide +kernel
theorem dX7_back_10 : decode cX7_back 10 = .ok (.invokevirtual 51, 3) := by decide +kernel
theorem dX7_back_13 : decode cX7_back 13 = .ok (.ireturn, 1) := by decide +kernel
theorem dX7_back_14 : decode cX7_back 14 = .ok (.aload_n 0, 1) := by decide +kernel
theorem dX7_back_15 : decode cX7_back 15 = .ok (.dup, 1) := by decide +kernel
theorem dX7_back_16 : decode cX7_back 16 = .ok (.getfield 47, 3) := by decide +kernel
theorem dX7_back_19 : decode cX7_back 19 = .ok (.iconst 1, 1) := by decide +kernel
theorem dX7_back_20 : decode cX7_back 20 = .ok (.isub, 1) := by decide +kernel
theorem dX7_back_21 : decode cX7_back 21 = .ok (.putfield 47, 3) := by decide +kernel
theorem dX7_back_24 : decode cX7_back 24 = .ok (.iconst 0, 1) := by decide +kernel
theorem dX7_back_25 : decode cX7_back 25 = .ok (.istore_n 1, 1) := by decide +kernel
theorem dX7_back_26 : decode cX7_back 26 = .ok (.iload_n 1, 1) := by decide +kernel
theorem dX7_back_27 : decode cX7_back 27 = .ok (.bipush 15, 2) := by decide +kernel
theorem dX7_back_29 : decode cX7_back 29 = .ok (.if_icmp .ge 29, 3) := by decide +kernel
theorem dX7_back_32 : decode cX7_back 32 = .ok (.aload_n 0, 1) := by decide +kernel
theorem dX7_back_33 : decode cX7_back 33 = .ok (.getfield 7, 3) := by decide +kernel
theorem dX7_back_36 : decode cX7_back 36 = .ok (.iload_n 1, 1) := by decide +kernel
theorem dX7_back_37 : decode cX7_back 37 = .ok (.aload_n 0, 1) := by decide +kernel
theorem dX7_back_38 : decode cX7_back 38 = .ok (.getfield 16, 3) := by decide +kernel
theorem dX7_back_41 : decode cX7_back 41 = .ok (.bipush 15, 2) := by decide +kernel
theorem dX7_back_43 : decode cX7_back 43 = .ok (.aload_n 0, 1) := by decide +kernel
theorem dX7_back_44 : decode cX7_back 44 = .ok (.getfield 47, 3) := by decide +kernel
theorem dX7_back_47 : decode cX7_back 47 = .ok (.imul, 1) := by decide +kernel
theorem dX7_back_48 : decode cX7_back 48 = .ok (.iload_n 1, 1) := by decide +kernel
theorem dX7_back_49 : decode cX7_back 49 = .ok (.iadd, 1) := by decide +kernel
theorem dX7_back_50 : decode cX7_back 50 = .ok (.iaload, 1) := by decide +kernel
theorem dX7_back_51 : decode cX7_back 51 = .ok (.iastore, 1) := by decide +kernel
theorem dX7_back_52 : decode cX7_back 52 = .ok (.iinc 1 1, 3) := by decide +kernel
theorem dX7_back_55 : decode cX7_back 55 = .ok (.goto (-29), 3) := by decide +kernel
theorem dX7_back_58 : decode cX7_back 58 = .ok (.aload_n 0, 1) := by decide +kernel
theorem dX7_back_59 : decode cX7_back 59 = .ok (.getfield 47, 3) := by decide +kernel
theorem dX7_back_62 : decode cX7_back 62 = .ok (.ireturn, 1) := by decide +kernel
theorem dX7_line_0 : decode cX7_line 0 = .ok (.iload_n 1, 1) := by decide +kernel
theorem dX7_line_1 : decode cX7_line 1 = .ok (.iconst 0, 1) := by decide +kernel
theorem dX7_line_2 : decode cX7_line 2 = .ok (.iconst 3, 1) := by decide +kernel
theorem dX7_line_3 : decode cX7_line 3 = .ok (.invokestatic 43, 3) := by decide +kernel
theorem dX7_line_6 : decode cX7_line 6 = .ok (.ifCond .eq 17, 3) := by decide +kernel
theorem dX7_line_9 : decode cX7_line 9 = .ok (.iload_n 2, 1) := by decide +kernel
theorem dX7_line_10 : decode cX7_line 10 = .ok (.invokestatic 55, 3) := by decide +kernel
theorem dX7_line_13 : decode cX7_line 13 = .ok (.ifCond .eq 10, 3) := by decide +kernel
theorem dX7_line_16 : decode cX7_line 16 = .ok (.iload_n 3, 1) := by decide +kernel
theorem dX7_line_17 : decode cX7_line 17 = .ok (.invokestatic 55, 3) := by decide +kernel
theorem dX7_line_20 : decode cX7_line 20 = .ok (.ifCond .ne 10, 3) := by decide +kernel
theorem dX7_line_23 : decode cX7_line 23 = .ok (.aload_n 0, 1) := by decide +kernel
theorem dX7_line_24 : decode cX7_line 24 = .ok (.bipush (-2), 2) := by decide +kernel
theorem dX7_line_26 : decode cX7_line 26 = .ok (.invokevirtual 51, 3) := by decide +kernel
theorem dX7_line_29 : decode cX7_line 29 = .ok (.ireturn, 1) := by decide +kernel
theorem dX7_line_30 : decode cX7_line 30 = .ok (.aload_n 0, 1) := by decide +kernel
theorem dX7_line_31 : decode cX7_line 31 = .ok (.getfield 7, 3) := by decide +kernel
theorem dX7_line_34 : decode cX7_line 34 = .ok (.iconst 0, 1) := by decide +kernel
theorem dX7_line_35 : decode cX7_line 35 = .ok (.iaload, 1) := by decide +kernel
theorem dX7_line_36 : decode cX7_line 36 = .ok (.bipush 14, 2) := by decide +kernel
theorem dX7_line_38 : decode cX7_line 38 = .ok (.if_icmp .ne 10, 3) := by decide +kernel
theorem dX7_line_41 : decode cX7_line 41 = .ok (.aload_n 0, 1) := by decide +kernel
theorem dX7_line_42 : decode cX7_line 42 = .ok (.bipush (-4), 2) := by decide +kernel
theorem dX7_line_44 : decode cX7_line 44 = .ok (.invokevirtual 51, 3) := by decide +kernel
theorem dX7_line_47 : decode cX7_line 47 = .ok (.ireturn, 1) := by decide +kernel
theorem dX7_line_48 : decode cX7_line 48 = .ok (.aload_n 0, 1) := by decide +kernel
theorem dX7_line_49 : decode cX7_line 49 = .ok (.invokevirtual 59, 3) := by decide +kernel
theorem dX7_line_52 : decode cX7_line 52 = .ok (.aload_n 0, 1) := by decide +kernel
theorem dX7_line_53 : decode cX7_line 53 = .ok (.getfield 7, 3) := by decide +kernel
theorem dX7_line_56 : decode cX7_line 56 = .ok (.iconst 0, 1) := by decide +kernel
theorem dX7_line_57 : decode cX7_line 57 = .ok (.dup2, 1) := by decide +kernel
theorem dX7_line_58 : decode cX7_line 58 = .ok (.iaload, 1) := by decide +kernel
theorem dX7_line_59 : decode cX7_line 59 = .ok (.iconst 1, 1) := by decide +kernel
theorem dX7_line_60 : decode cX7_line 60 = .ok (.iadd, 1) := by decide +kernel
theorem dX7_line_61 : decode cX7_line 61 = .ok (.iastore, 1) := by decide +kernel
theorem dX7_line_62 : decode cX7_line 62 = .ok (.aload_n 0, 1) := by decide +kernel
theorem dX7_line_63 : decode cX7_line 63 = .ok (.getfield 7, 3) := by decide +kernel
theorem dX7_line_66 : decode cX7_line 66 = .ok (.aload_n 0, 1) := by decide +kernel
theorem dX7_line_67 : decode cX7_line 67 = .ok (.getfield 7, 3) := by decide +kernel
theorem dX7_line_70 : decode cX7_line 70 = .ok (.iconst 0, 1) := by decide +kernel
theorem dX7_line_71 : decode cX7_line 71 = .ok (.iaload, 1) := by decide +kernel
theorem dX7_line_72 : decode cX7_line 72 = .ok (.bipush 100, 2) := by decide +kernel
theorem dX7_line_74 : decode cX7_line 74 = .ok (.iload_n 1, 1) := by decide +kernel
theorem dX7_line_75 : decode cX7_line 75 = .ok (.imul, 1) := by decide +kernel
theorem dX7_line_76 : decode cX7_line 76 = .ok (.bipush 10, 2) := by decide +kernel
theorem dX7_line_78 : decode cX7_line 78 = .ok (.iload_n 2, 1) := by decide +kernel
theorem dX7_line_79 : decode cX7_line 79 = .ok (.imul, 1) := by decide +kernel
theorem dX7_line_80 : decode cX7_line 80 = .ok (.iadd, 1) := by decide +kernel
theorem dX7_line_81 : decode cX7_line 81 = .ok (.iload_n 3, 1) := by decide +kernel
theorem dX7_line_82 : decode cX7_line 82 = .ok (.iadd, 1) := by decide +kernel
theorem dX7_line_83 : decode cX7_line 83 = .ok (.iastore, 1) := by decide +kernel
theorem dX7_line_84 : decode cX7_line 84 = .ok (.aload_n 0, 1) := by decide +kernel
theorem dX7_line_85 : decode cX7_line 85 = .ok (.getfield 7, 3) := by decide +kernel
theorem dX7_line_88 : decode cX7_line 88 = .ok (.iconst 0, 1) := by decide +kernel
theorem dX7_line_89 : decode cX7_line 89 = .ok (.iaload, 1) := by decide +kernel
theorem dX7_line_90 : decode cX7_line 90 = .ok (.iconst 1, 1) := by decide +kernel
theorem dX7_line_91 : decode cX7_line 91 = .ok (.isub, 1) := by decide +kernel
theorem dX7_line_92 : decode cX7_line 92 = .ok (.ireturn, 1) := by decide +kernel
theorem dX7_drops_0 : decode cX7_drops 0 = .ok (.aload_n 0, 1) := by decide +kernel
theorem dX7_drops_1 : decode cX7_drops 1 = .ok (.iload_n 1, 1) := by decide +kernel
theorem dX7_drops_2 : decode cX7_drops 2 = .ok (.invokevirtual 62, 3) := by decide +kernel
theorem dX7_drops_5 : decode cX7_drops 5 = .ok (.ifCond .ne 10, 3) := by decide +kernel
theorem dX7_drops_8 : decode cX7_drops 8 = .ok (.aload_n 0, 1) := by decide +kernel
theorem dX7_drops_9 : decode cX7_drops 9 = .ok (.bipush (-2), 2) := by decide +kernel
theorem dX7_drops_11 : decode cX7_drops 11 = .ok (.invokevirtual 51, 3) := by decide +kernel
theorem dX7_drops_14 : decode cX7_drops 14 = .ok (.ireturn, 1) := by decide +kernel
theorem dX7_drops_15 : decode cX7_drops 15 = .ok (.aload_n 0, 1) := by decide +kernel
theorem dX7_drops_16 : decode cX7_drops 16 = .ok (.invokevirtual 59, 3) := by decide +kernel
theorem dX7_drops_19 : decode cX7_drops 19 = .ok (.iload_n 1, 1) := by decide +kernel
theorem dX7_drops_20 : decode cX7_drops 20 = .ok (.iconst 1, 1) := by decide +kernel
theorem dX7_drops_21 : decode cX7_drops 21 = .ok (.iadd, 1) := by decide +kernel
theorem dX7_drops_22 : decode cX7_drops 22 = .ok (.istore_n 2, 1) := by decide +kernel
theorem dX7_drops_23 : decode cX7_drops 23 = .ok (.iload_n 2, 1) := by decide +kernel
theorem dX7_drops_24 : decode cX7_drops 24 = .ok (.aload_n 0, 1) := by decide +kernel
theorem dX7_drops_25 : decode cX7_drops 25 = .ok (.getfield 7, 3) := by decide +kernel
end
section
theorem dX7_drops_28 : decode cX7_drops 28 = .ok (.iconst 0, 1) := by decide +kernel
theorem dX7_drops_29 : decode cX7_drops 29 = .ok (.iaload, 1) := by decide +kernel
theorem dX7_drops_30 : decode cX7_drops 30 = .ok (.if_icmp .ge 23, 3) := by decide +kernel
theorem dX7_drops_33 : decode cX7_drops 33 = .ok (.aload_n 0, 1) := by decide +kernel
theorem dX7_drops_34 : decode cX7_drops 34 = .ok (.getfield 7, 3) := by decide +kernel
theorem dX7_drops_37 : decode cX7_drops 37 = .ok (.iload_n 2, 1) := by decide +kernel
theorem dX7_drops_38 : decode cX7_drops 38 = .ok (.aload_n 0, 1) := by decide +kernel
theorem dX7_drops_39 : decode cX7_drops 39 = .ok (.getfield 7, 3) := by decide +kernel
theorem dX7_drops_42 : decode cX7_drops 42 = .ok (.iload_n 2, 1) := by decide +kernel
theorem dX7_drops_43 : decode cX7_drops 43 = .ok (.iconst 1, 1) := by decide +kernel
theorem dX7_drops_44 : decode cX7_drops 44 = .ok (.iadd, 1) := by decide +kernel
theorem dX7_drops_45 : decode cX7_drops 45 = .ok (.iaload, 1) := by decide +kernel
theorem dX7_drops_46 : decode cX7_drops 46 = .ok (.iastore, 1) := by decide +kernel
theorem dX7_drops_47 : decode cX7_drops 47 = .ok (.iinc 2 1, 3) := by decide +kernel
theorem dX7_drops_50 : decode cX7_drops 50 = .ok (.goto (-27), 3) := by decide +kernel
theorem dX7_drops_53 : decode cX7_drops 53 = .ok (.aload_n 0, 1) := by decide +kernel
theorem dX7_drops_54 : decode cX7_drops 54 = .ok (.getfield 7, 3) := by decide +kernel
theorem dX7_drops_57 : decode cX7_drops 57 = .ok (.iconst 0, 1) := by decide +kernel
theorem dX7_drops_58 : decode cX7_drops 58 = .ok (.dup2, 1) := by decide +kernel
theorem dX7_drops_59 : decode cX7_drops 59 = .ok (.iaload, 1) := by decide +kernel
theorem dX7_drops_60 : decode cX7_drops 60 = .ok (.iconst 1, 1) := by decide +kernel
theorem dX7_drops_61 : decode cX7_drops 61 = .ok (.isub, 1) := by decide +kernel
theorem dX7_drops_62 : decode cX7_drops 62 = .ok (.iastore, 1) := by decide +kernel
theorem dX7_drops_63 : decode cX7_drops 63 = .ok (.aload_n 0, 1) := by decide +kernel
theorem dX7_drops_64 : decode cX7_drops 64 = .ok (.getfield 7, 3) := by decide +kernel
theorem dX7_drops_67 : decode cX7_drops 67 = .ok (.iconst 0, 1) := by decide +kernel
theorem dX7_drops_68 : decode cX7_drops 68 = .ok (.iaload, 1) := by decide +kernel
theorem dX7_drops_69 : decode cX7_drops 69 = .ok (.ireturn, 1) := by decide +kernel
theorem dX7_moves_0 : decode cX7_moves 0 = .ok (.aload_n 0, 1) := by decide +kernel
theorem dX7_moves_1 : decode cX7_moves 1 = .ok (.iload_n 1, 1) := by decide +kernel
theorem dX7_moves_2 : decode cX7_moves 2 = .ok (.invokevirtual 62, 3) := by decide +kernel
theorem dX7_moves_5 : decode cX7_moves 5 = .ok (.ifCond .eq 11, 3) := by decide +kernel
theorem dX7_moves_8 : decode cX7_moves 8 = .ok (.aload_n 0, 1) := by decide +kernel
theorem dX7_moves_9 : decode cX7_moves 9 = .ok (.iload_n 2, 1) := by decide +kernel
theorem dX7_moves_10 : decode cX7_moves 10 = .ok (.invokevirtual 62, 3) := by decide +kernel
theorem dX7_moves_13 : decode cX7_moves 13 = .ok (.ifCond .ne 10, 3) := by decide +kernel
theorem dX7_moves_16 : decode cX7_moves 16 = .ok (.aload_n 0, 1) := by decide +kernel
theorem dX7_moves_17 : decode cX7_moves 17 = .ok (.bipush (-2), 2) := by decide +kernel
theorem dX7_moves_19 : decode cX7_moves 19 = .ok (.invokevirtual 51, 3) := by decide +kernel
theorem dX7_moves_22 : decode cX7_moves 22 = .ok (.ireturn, 1) := by decide +kernel
theorem dX7_moves_23 : decode cX7_moves 23 = .ok (.aload_n 0, 1) := by decide +kernel
theorem dX7_moves_24 : decode cX7_moves 24 = .ok (.invokevirtual 59, 3) := by decide +kernel
theorem dX7_moves_27 : decode cX7_moves 27 = .ok (.aload_n 0, 1) := by decide +kernel
theorem dX7_moves_28 : decode cX7_moves 28 = .ok (.getfield 7, 3) := by decide +kernel
theorem dX7_moves_31 : decode cX7_moves 31 = .ok (.iconst 1, 1) := by decide +kernel
theorem dX7_moves_32 : decode cX7_moves 32 = .ok (.iload_n 1, 1) := by decide +kernel
theorem dX7_moves_33 : decode cX7_moves 33 = .ok (.iadd, 1) := by decide +kernel
theorem dX7_moves_34 : decode cX7_moves 34 = .ok (.iaload, 1) := by decide +kernel
theorem dX7_moves_35 : decode cX7_moves 35 = .ok (.istore_n 3, 1) := by decide +kernel
theorem dX7_moves_36 : decode cX7_moves 36 = .ok (.iload_n 1, 1) := by decide +kernel
theorem dX7_moves_37 : decode cX7_moves 37 = .ok (.istore 4, 2) := by decide +kernel
theorem dX7_moves_39 : decode cX7_moves 39 = .ok (.iload 4, 2) := by decide +kernel
theorem dX7_moves_41 : decode cX7_moves 41 = .ok (.iload_n 2, 1) := by decide +kernel
theorem dX7_moves_42 : decode cX7_moves 42 = .ok (.if_icmp .ge 27, 3) := by decide +kernel
theorem dX7_moves_45 : decode cX7_moves 45 = .ok (.aload_n 0, 1) := by decide +kernel
theorem dX7_moves_46 : decode cX7_moves 46 = .ok (.getfield 7, 3) := by decide +kernel
theorem dX7_moves_49 : decode cX7_moves 49 = .ok (.iconst 1, 1) := by decide +kernel
theorem dX7_moves_50 : decode cX7_moves 50 = .ok (.iload 4, 2) := by decide +kernel
theorem dX7_moves_52 : decode cX7_moves 52 = .ok (.iadd, 1) := by decide +kernel
theorem dX7_moves_53 : decode cX7_moves 53 = .ok (.aload_n 0, 1) := by decide +kernel
theorem dX7_moves_54 : decode cX7_moves 54 = .ok (.getfield 7, 3) := by decide +kernel
theorem dX7_moves_57 : decode cX7_moves 57 = .ok (.iconst 2, 1) := by decide +kernel
theorem dX7_moves_58 : decode cX7_moves 58 = .ok (.iload 4, 2) := by decide +kernel
theorem dX7_moves_60 : decode cX7_moves 60 = .ok (.iadd, 1) := by decide +kernel
theorem dX7_moves_61 : decode cX7_moves 61 = .ok (.iaload, 1) := by decide +kernel
theorem dX7_moves_62 : decode cX7_moves 62 = .ok (.iastore, 1) := by decide +kernel
theorem dX7_moves_63 : decode cX7_moves 63 = .ok (.iinc 4 1, 3) := by decide +kernel
theorem dX7_moves_66 : decode cX7_moves 66 = .ok (.goto (-27), 3) := by decide +kernel
theorem dX7_moves_69 : decode cX7_moves 69 = .ok (.iload_n 1, 1) := by decide +kernel
theorem dX7_moves_70 : decode cX7_moves 70 = .ok (.istore 4, 2) := by decide +kernel
theorem dX7_moves_72 : decode cX7_moves 72 = .ok (.iload 4, 2) := by decide +kernel
theorem dX7_moves_74 : decode cX7_moves 74 = .ok (.iload_n 2, 1) := by decide +kernel
theorem dX7_moves_75 : decode cX7_moves 75 = .ok (.if_icmp .le 25, 3) := by decide +kernel
theorem dX7_moves_78 : decode cX7_moves 78 = .ok (.aload_n 0, 1) := by decide +kernel
theorem dX7_moves_79 : decode cX7_moves 79 = .ok (.getfield 7, 3) := by decide +kernel
theorem dX7_moves_82 : decode cX7_moves 82 = .ok (.iconst 1, 1) := by decide +kernel
theorem dX7_moves_83 : decode cX7_moves 83 = .ok (.iload 4, 2) := by decide +kernel
theorem dX7_moves_85 : decode cX7_moves 85 = .ok (.iadd, 1) := by decide +kernel
theorem dX7_moves_86 : decode cX7_moves 86 = .ok (.aload_n 0, 1) := by decide +kernel
theorem dX7_moves_87 : decode cX7_moves 87 = .ok (.getfield 7, 3) := by decide +kernel
theorem dX7_moves_90 : decode cX7_moves 90 = .ok (.iload 4, 2) := by decide +kernel
theorem dX7_moves_92 : decode cX7_moves 92 = .ok (.iaload, 1) := by decide +kernel
theorem dX7_moves_93 : decode cX7_moves 93 = .ok (.iastore, 1) := by decide +kernel
theorem dX7_moves_94 : decode cX7_moves 94 = .ok (.iinc 4 (-1), 3) := by decide +kernel
theorem dX7_moves_97 : decode cX7_moves 97 = .ok (.goto (-25), 3) := by decide +kernel
theorem dX7_moves_100 : decode cX7_moves 100 = .ok (.aload_n 0, 1) := by decide +kernel
theorem dX7_moves_101 : decode cX7_moves 101 = .ok (.getfield 7, 3) := by decide +kernel
theorem dX7_moves_104 : decode cX7_moves 104 = .ok (.iconst 1, 1) := by decide +kernel
theorem dX7_moves_105 : decode cX7_moves 105 = .ok (.iload_n 2, 1) := by decide +kernel
theorem dX7_moves_106 : decode cX7_moves 106 = .ok (.iadd, 1) := by decide +kernel
theorem dX7_moves_107 : decode cX7_moves 107 = .ok (.iload_n 3, 1) := by decide +kernel
theorem dX7_moves_108 : decode cX7_moves 108 = .ok (.iastore, 1) := by decide +kernel
theorem dX7_moves_109 : decode cX7_moves 109 = .ok (.iload_n 1, 1) := by decide +kernel
theorem dX7_moves_110 : decode cX7_moves 110 = .ok (.ireturn, 1) := by decide +kernel
theorem dX7_gets_0 : decode cX7_gets 0 = .ok (.aload_n 0, 1) := by decide +kernel
theorem dX7_gets_1 : decode cX7_gets 1 = .ok (.aload_n 0, 1) := by decide +kernel
theorem dX7_gets_2 : decode cX7_gets 2 = .ok (.getfield 65, 3) := by decide +kernel
theorem dX7_gets_5 : decode cX7_gets 5 = .ok (.ifCond .ne 16, 3) := by decide +kernel
theorem dX7_gets_8 : decode cX7_gets 8 = .ok (.iload_n 2, 1) := by decide +kernel
theorem dX7_gets_9 : decode cX7_gets 9 = .ok (.aload_n 0, 1) := by decide +kernel
theorem dX7_gets_10 : decode cX7_gets 10 = .ok (.getfield 25, 3) := by decide +kernel
theorem dX7_gets_13 : decode cX7_gets 13 = .ok (.iload_n 1, 1) := by decide +kernel
theorem dX7_gets_14 : decode cX7_gets 14 = .ok (.iaload, 1) := by decide +kernel
theorem dX7_gets_15 : decode cX7_gets 15 = .ok (.iconst (-1), 1) := by decide +kernel
theorem dX7_gets_16 : decode cX7_gets 16 = .ok (.ixor, 1) := by decide +kernel
theorem dX7_gets_17 : decode cX7_gets 17 = .ok (.iand, 1) := by decide +kernel
theorem dX7_gets_18 : decode cX7_gets 18 = .ok (.ifCond .eq 7, 3) := by decide +kernel
theorem dX7_gets_21 : decode cX7_gets 21 = .ok (.iconst 1, 1) := by decide +kernel
theorem dX7_gets_22 : decode cX7_gets 22 = .ok (.goto 4, 3) := by decide +kernel
theorem dX7_gets_25 : decode cX7_gets 25 = .ok (.iconst 0, 1) := by decide +kernel
theorem dX7_gets_26 : decode cX7_gets 26 = .ok (.putfield 65, 3) := by decide +kernel
theorem dX7_gets_29 : decode cX7_gets 29 = .ok (.aload_n 0, 1) := by decide +kernel
theorem dX7_gets_30 : decode cX7_gets 30 = .ok (.getfield 25, 3) := by decide +kernel
theorem dX7_gets_33 : decode cX7_gets 33 = .ok (.iload_n 1, 1) := by decide +kernel
theorem dX7_gets_34 : decode cX7_gets 34 = .ok (.dup2, 1) := by decide +kernel
theorem dX7_gets_35 : decode cX7_gets 35 = .ok (.iaload, 1) := by decide +kernel
theorem dX7_gets_36 : decode cX7_gets 36 = .ok (.iload_n 2, 1) := by decide +kernel
theorem dX7_gets_37 : decode cX7_gets 37 = .ok (.ior, 1) := by decide +kernel
theorem dX7_gets_38 : decode cX7_gets 38 = .ok (.iastore, 1) := by decide +kernel
theorem dX7_gets_39 : decode cX7_gets 39 = .ok (.return_, 1) := by decide +kernel
theorem dX7_growsBy_0 : decode cX7_growsBy 0 = .ok (.aload_n 0, 1) := by decide +kernel
theorem dX7_growsBy_1 : decode cX7_growsBy 1 = .ok (.iload_n 1, 1) := by decide +kernel
theorem dX7_growsBy_2 : decode cX7_growsBy 2 = .ok (.invokevirtual 69, 3) := by decide +kernel
theorem dX7_growsBy_5 : decode cX7_growsBy 5 = .ok (.istore_n 2, 1) := by decide +kernel
theorem dX7_growsBy_6 : decode cX7_growsBy 6 = .ok (.aload_n 0, 1) := by decide +kernel
theorem dX7_growsBy_7 : decode cX7_growsBy 7 = .ok (.iload_n 1, 1) := by decide +kernel
theorem dX7_growsBy_8 : decode cX7_growsBy 8 = .ok (.invokevirtual 72, 3) := by decide +kernel
theorem dX7_growsBy_11 : decode cX7_growsBy 11 = .ok (.istore_n 3, 1) := by decide +kernel
theorem dX7_growsBy_12 : decode cX7_growsBy 12 = .ok (.iconst 0, 1) := by decide +kernel
theorem dX7_growsBy_13 : decode cX7_growsBy 13 = .ok (.istore 4, 2) := by decide +kernel
theorem dX7_growsBy_15 : decode cX7_growsBy 15 = .ok (.iload 4, 2) := by decide +kernel
theorem dX7_growsBy_17 : decode cX7_growsBy 17 = .ok (.bipush 10, 2) := by decide +kernel
theorem dX7_growsBy_19 : decode cX7_growsBy 19 = .ok (.if_icmp .ge 79, 3) := by decide +kernel
theorem dX7_growsBy_22 : decode cX7_growsBy 22 = .ok (.aload_n 0, 1) := by decide +kernel
theorem dX7_growsBy_23 : decode cX7_growsBy 23 = .ok (.iload_n 1, 1) := by decide +kernel
theorem dX7_growsBy_24 : decode cX7_growsBy 24 = .ok (.invokevirtual 75, 3) := by decide +kernel
theorem dX7_growsBy_27 : decode cX7_growsBy 27 = .ok (.iconst 2, 1) := by decide +kernel
theorem dX7_growsBy_28 : decode cX7_growsBy 28 = .ok (.if_icmp .ne 29, 3) := by decide +kernel
theorem dX7_growsBy_31 : decode cX7_growsBy 31 = .ok (.aload_n 0, 1) := by decide +kernel
theorem dX7_growsBy_32 : decode cX7_growsBy 32 = .ok (.getfield 25, 3) := by decide +kernel
theorem dX7_growsBy_35 : decode cX7_growsBy 35 = .ok (.iload_n 3, 1) := by decide +kernel
theorem dX7_growsBy_36 : decode cX7_growsBy 36 = .ok (.iaload, 1) := by decide +kernel
theorem dX7_growsBy_37 : decode cX7_growsBy 37 = .ok (.iload 4, 2) := by decide +kernel
theorem dX7_growsBy_39 : decode cX7_growsBy 39 = .ok (.invokestatic 78, 3) := by decide +kernel
theorem dX7_growsBy_42 : decode cX7_growsBy 42 = .ok (.ifCond .eq 15, 3) := by decide +kernel
theorem dX7_growsBy_45 : decode cX7_growsBy 45 = .ok (.aload_n 0, 1) := by decide +kernel
theorem dX7_growsBy_46 : decode cX7_growsBy 46 = .ok (.iload_n 2, 1) := by decide +kernel
theorem dX7_growsBy_47 : decode cX7_growsBy 47 = .ok (.aload_n 0, 1) := by decide +kernel
theorem dX7_growsBy_48 : decode cX7_growsBy 48 = .ok (.getfield 25, 3) := by decide +kernel
theorem dX7_growsBy_51 : decode cX7_growsBy 51 = .ok (.iload 4, 2) := by decide +kernel
theorem dX7_growsBy_53 : decode cX7_growsBy 53 = .ok (.iaload, 1) := by decide +kernel
theorem dX7_growsBy_54 : decode cX7_growsBy 54 = .ok (.invokevirtual 82, 3) := by decide +kernel
theorem dX7_growsBy_57 : decode cX7_growsBy 57 = .ok (.aload_n 0, 1) := by decide +kernel
theorem dX7_growsBy_58 : decode cX7_growsBy 58 = .ok (.iload_n 1, 1) := by decide +kernel
theorem dX7_growsBy_59 : decode cX7_growsBy 59 = .ok (.invokevirtual 75, 3) := by decide +kernel
theorem dX7_growsBy_62 : decode cX7_growsBy 62 = .ok (.iconst 3, 1) := by decide +kernel
theorem dX7_growsBy_63 : decode cX7_growsBy 63 = .ok (.if_icmp .ne 29, 3) := by decide +kernel
theorem dX7_growsBy_66 : decode cX7_growsBy 66 = .ok (.aload_n 0, 1) := by decide +kernel
theorem dX7_growsBy_67 : decode cX7_growsBy 67 = .ok (.getfield 25, 3) := by decide +kernel
theorem dX7_growsBy_70 : decode cX7_growsBy 70 = .ok (.iload_n 2, 1) := by decide +kernel
theorem dX7_growsBy_71 : decode cX7_growsBy 71 = .ok (.iaload, 1) := by decide +kernel
theorem dX7_growsBy_72 : decode cX7_growsBy 72 = .ok (.iload 4, 2) := by decide +kernel
theorem dX7_growsBy_74 : decode cX7_growsBy 74 = .ok (.invokestatic 78, 3) := by decide +kernel
theorem dX7_growsBy_77 : decode cX7_growsBy 77 = .ok (.ifCond .eq 15, 3) := by decide +kernel
theorem dX7_growsBy_80 : decode cX7_growsBy 80 = .ok (.aload_n 0, 1) := by decide +kernel
theorem dX7_growsBy_81 : decode cX7_growsBy 81 = .ok (.iload 4, 2) := by decide +kernel
theorem dX7_growsBy_83 : decode cX7_growsBy 83 = .ok (.aload_n 0, 1) := by decide +kernel
theorem dX7_growsBy_84 : decode cX7_growsBy 84 = .ok (.getfield 25, 3) := by decide +kernel
theorem dX7_growsBy_87 : decode cX7_growsBy 87 = .ok (.iload_n 3, 1) := by decide +kernel
theorem dX7_growsBy_88 : decode cX7_growsBy 88 = .ok (.iaload, 1) := by decide +kernel
theorem dX7_growsBy_89 : decode cX7_growsBy 89 = .ok (.invokevirtual 82, 3) := by decide +kernel
theorem dX7_growsBy_92 : decode cX7_growsBy 92 = .ok (.iinc 4 1, 3) := by decide +kernel
theorem dX7_growsBy_95 : decode cX7_growsBy 95 = .ok (.goto (-80), 3) := by decide +kernel
theorem dX7_growsBy_98 : decode cX7_growsBy 98 = .ok (.aload_n 0, 1) := by decide +kernel
theorem dX7_growsBy_99 : decode cX7_growsBy 99 = .ok (.iload_n 1, 1) := by decide +kernel
theorem dX7_growsBy_100 : decode cX7_growsBy 100 = .ok (.invokevirtual 75, 3) := by decide +kernel
theorem dX7_growsBy_103 : decode cX7_growsBy 103 = .ok (.iconst 2, 1) := by decide +kernel
theorem dX7_growsBy_104 : decode cX7_growsBy 104 = .ok (.if_icmp .ge 28, 3) := by decide +kernel
theorem dX7_growsBy_107 : decode cX7_growsBy 107 = .ok (.aload_n 0, 1) := by decide +kernel
theorem dX7_growsBy_108 : decode cX7_growsBy 108 = .ok (.iload_n 2, 1) := by decide +kernel
theorem dX7_growsBy_109 : decode cX7_growsBy 109 = .ok (.aload_n 0, 1) := by decide +kernel
theorem dX7_growsBy_110 : decode cX7_growsBy 110 = .ok (.iload_n 1, 1) := by decide +kernel
theorem dX7_growsBy_111 : decode cX7_growsBy 111 = .ok (.invokevirtual 75, 3) := by decide +kernel
theorem dX7_growsBy_114 : decode cX7_growsBy 114 = .ok (.ifCond .ne 9, 3) := by decide +kernel
theorem dX7_growsBy_117 : decode cX7_growsBy 117 = .ok (.iconst 1, 1) := by decide +kernel
theorem dX7_growsBy_118 : decode cX7_growsBy 118 = .ok (.iload_n 3, 1) := by decide +kernel
theorem dX7_growsBy_119 : decode cX7_growsBy 119 = .ok (.ishl, 1) := by decide +kernel
theorem dX7_growsBy_120 : decode cX7_growsBy 120 = .ok (.goto 9, 3) := by decide +kernel
theorem dX7_growsBy_123 : decode cX7_growsBy 123 = .ok (.aload_n 0, 1) := by decide +kernel
theorem dX7_growsBy_124 : decode cX7_growsBy 124 = .ok (.getfield 25, 3) := by decide +kernel
theorem dX7_growsBy_127 : decode cX7_growsBy 127 = .ok (.iload_n 3, 1) := by decide +kernel
theorem dX7_growsBy_128 : decode cX7_growsBy 128 = .ok (.iaload, 1) := by decide +kernel
theorem dX7_growsBy_129 : decode cX7_growsBy 129 = .ok (.invokevirtual 82, 3) := by decide +kernel
theorem dX7_growsBy_132 : decode cX7_growsBy 132 = .ok (.return_, 1) := by decide +kernel
theorem dX7_laysFine_0 : decode cX7_laysFine 0 = .ok (.iconst 0, 1) := by decide +kernel
theorem dX7_laysFine_1 : decode cX7_laysFine 1 = .ok (.istore_n 2, 1) := by decide +kernel
theorem dX7_laysFine_2 : decode cX7_laysFine 2 = .ok (.iload_n 2, 1) := by decide +kernel
theorem dX7_laysFine_3 : decode cX7_laysFine 3 = .ok (.bipush 10, 2) := by decide +kernel
theorem dX7_laysFine_5 : decode cX7_laysFine 5 = .ok (.if_icmp .ge 16, 3) := by decide +kernel
theorem dX7_laysFine_8 : decode cX7_laysFine 8 = .ok (.aload_n 0, 1) := by decide +kernel
theorem dX7_laysFine_9 : decode cX7_laysFine 9 = .ok (.getfield 25, 3) := by decide +kernel
theorem dX7_laysFine_12 : decode cX7_laysFine 12 = .ok (.iload_n 2, 1) := by decide +kernel
theorem dX7_laysFine_13 : decode cX7_laysFine 13 = .ok (.iconst 0, 1) := by decide +kernel
theorem dX7_laysFine_14 : decode cX7_laysFine 14 = .ok (.iastore, 1) := by decide +kernel
theorem dX7_laysFine_15 : decode cX7_laysFine 15 = .ok (.iinc 2 1, 3) := by decide +kernel
theorem dX7_laysFine_18 : decode cX7_laysFine 18 = .ok (.goto (-16), 3) := by decide +kernel
theorem dX7_laysFine_21 : decode cX7_laysFine 21 = .ok (.aload_n 0, 1) := by decide +kernel
theorem dX7_laysFine_22 : decode cX7_laysFine 22 = .ok (.iconst 1, 1) := by decide +kernel
theorem dX7_laysFine_23 : decode cX7_laysFine 23 = .ok (.putfield 65, 3) := by decide +kernel
theorem dX7_laysFine_26 : decode cX7_laysFine 26 = .ok (.aload_n 0, 1) := by decide +kernel
theorem dX7_laysFine_27 : decode cX7_laysFine 27 = .ok (.getfield 65, 3) := by decide +kernel
theorem dX7_laysFine_30 : decode cX7_laysFine 30 = .ok (.ifCond .eq 39, 3) := by decide +kernel
theorem dX7_laysFine_33 : decode cX7_laysFine 33 = .ok (.aload_n 0, 1) := by decide +kernel
theorem dX7_laysFine_34 : decode cX7_laysFine 34 = .ok (.iconst 0, 1) := by decide +kernel
theorem dX7_laysFine_35 : decode cX7_laysFine 35 = .ok (.putfield 65, 3) := by decide +kernel
theorem dX7_laysFine_38 : decode cX7_laysFine 38 = .ok (.iconst 0, 1) := by decide +kernel
theorem dX7_laysFine_39 : decode cX7_laysFine 39 = .ok (.istore_n 2, 1) := by decide +kernel
theorem dX7_laysFine_40 : decode cX7_laysFine 40 = .ok (.iload_n 2, 1) := by decide +kernel
theorem dX7_laysFine_41 : decode cX7_laysFine 41 = .ok (.aload_n 0, 1) := by decide +kernel
theorem dX7_laysFine_42 : decode cX7_laysFine 42 = .ok (.getfield 7, 3) := by decide +kernel
theorem dX7_laysFine_45 : decode cX7_laysFine 45 = .ok (.iconst 0, 1) := by decide +kernel
theorem dX7_laysFine_46 : decode cX7_laysFine 46 = .ok (.iaload, 1) := by decide +kernel
theorem dX7_laysFine_47 : decode cX7_laysFine 47 = .ok (.if_icmp .ge 19, 3) := by decide +kernel
theorem dX7_laysFine_50 : decode cX7_laysFine 50 = .ok (.iload_n 2, 1) := by decide +kernel
theorem dX7_laysFine_51 : decode cX7_laysFine 51 = .ok (.iload_n 1, 1) := by decide +kernel
theorem dX7_laysFine_52 : decode cX7_laysFine 52 = .ok (.if_icmp .eq 8, 3) := by decide +kernel
theorem dX7_laysFine_55 : decode cX7_laysFine 55 = .ok (.aload_n 0, 1) := by decide +kernel
theorem dX7_laysFine_56 : decode cX7_laysFine 56 = .ok (.iload_n 2, 1) := by decide +kernel
theorem dX7_laysFine_57 : decode cX7_laysFine 57 = .ok (.invokevirtual 86, 3) := by decide +kernel
theorem dX7_laysFine_60 : decode cX7_laysFine 60 = .ok (.iinc 2 1, 3) := by decide +kernel
theorem dX7_laysFine_63 : decode cX7_laysFine 63 = .ok (.goto (-23), 3) := by decide +kernel
theorem dX7_laysFine_66 : decode cX7_laysFine 66 = .ok (.goto (-40), 3) := by decide +kernel
theorem dX7_laysFine_69 : decode cX7_laysFine 69 = .ok (.return_, 1) := by decide +kernel
theorem dX7_joins_0 : decode cX7_joins 0 = .ok (.iload_n 1, 1) := by decide +kernel
theorem dX7_joins_1 : decode cX7_joins 1 = .ok (.istore_n 3, 1) := by decide +kernel
theorem dX7_joins_2 : decode cX7_joins 2 = .ok (.iload_n 2, 1) := by decide +kernel
theorem dX7_joins_3 : decode cX7_joins 3 = .ok (.istore 4, 2) := by decide +kernel
theorem dX7_joins_5 : decode cX7_joins 5 = .ok (.iload_n 3, 1) := by decide +kernel
theorem dX7_joins_6 : decode cX7_joins 6 = .ok (.iload 4, 2) := by decide +kernel
theorem dX7_joins_8 : decode cX7_joins 8 = .ok (.if_icmp .eq 231, 3) := by decide +kernel
theorem dX7_joins_11 : decode cX7_joins 11 = .ok (.iload_n 3, 1) := by decide +kernel
theorem dX7_joins_12 : decode cX7_joins 12 = .ok (.iload 4, 2) := by decide +kernel
theorem dX7_joins_14 : decode cX7_joins 14 = .ok (.if_icmp .ge 7, 3) := by decide +kernel
theorem dX7_joins_17 : decode cX7_joins 17 = .ok (.iload_n 3, 1) := by decide +kernel
theorem dX7_joins_18 : decode cX7_joins 18 = .ok (.goto 5, 3) := by decide +kernel
theorem dX7_joins_21 : decode cX7_joins 21 = .ok (.iload 4, 2) := by decide +kernel
theorem dX7_joins_23 : decode cX7_joins 23 = .ok (.istore 5, 2) := by decide +kernel
theorem dX7_joins_25 : decode cX7_joins 25 = .ok (.iload_n 3, 1) := by decide +kernel
theorem dX7_joins_26 : decode cX7_joins 26 = .ok (.iload 4, 2) := by decide +kernel
theorem dX7_joins_28 : decode cX7_joins 28 = .ok (.if_icmp .ge 8, 3) := by decide +kernel
theorem dX7_joins_31 : decode cX7_joins 31 = .ok (.iload 4, 2) := by decide +kernel
theorem dX7_joins_33 : decode cX7_joins 33 = .ok (.goto 4, 3) := by decide +kernel
theorem dX7_joins_36 : decode cX7_joins 36 = .ok (.iload_n 3, 1) := by decide +kernel
theorem dX7_joins_37 : decode cX7_joins 37 = .ok (.istore 6, 2) := by decide +kernel
theorem dX7_joins_39 : decode cX7_joins 39 = .ok (.aload_n 0, 1) := by decide +kernel
theorem dX7_joins_40 : decode cX7_joins 40 = .ok (.getfield 31, 3) := by decide +kernel
theorem dX7_joins_43 : decode cX7_joins 43 = .ok (.iload 5, 2) := by decide +kernel
theorem dX7_joins_45 : decode cX7_joins 45 = .ok (.iaload, 1) := by decide +kernel
theorem dX7_joins_46 : decode cX7_joins 46 = .ok (.istore 7, 2) := by decide +kernel
theorem dX7_joins_48 : decode cX7_joins 48 = .ok (.aload_n 0, 1) := by decide +kernel
theorem dX7_joins_49 : decode cX7_joins 49 = .ok (.getfield 31, 3) := by decide +kernel
theorem dX7_joins_52 : decode cX7_joins 52 = .ok (.iload 6, 2) := by decide +kernel
theorem dX7_joins_54 : decode cX7_joins 54 = .ok (.iaload, 1) := by decide +kernel
theorem dX7_joins_55 : decode cX7_joins 55 = .ok (.istore 8, 2) := by decide +kernel
theorem dX7_joins_57 : decode cX7_joins 57 = .ok (.iconst 0, 1) := by decide +kernel
theorem dX7_joins_58 : decode cX7_joins 58 = .ok (.istore 9, 2) := by decide +kernel
theorem dX7_joins_60 : decode cX7_joins 60 = .ok (.iload 9, 2) := by decide +kernel
theorem dX7_joins_62 : decode cX7_joins 62 = .ok (.bipush 10, 2) := by decide +kernel
theorem dX7_joins_64 : decode cX7_joins 64 = .ok (.if_icmp .ge 71, 3) := by decide +kernel
theorem dX7_joins_67 : decode cX7_joins 67 = .ok (.aload_n 0, 1) := by decide +kernel
theorem dX7_joins_68 : decode cX7_joins 68 = .ok (.getfield 28, 3) := by decide +kernel
theorem dX7_joins_71 : decode cX7_joins 71 = .ok (.iload 9, 2) := by decide +kernel
theorem dX7_joins_73 : decode cX7_joins 73 = .ok (.aload_n 0, 1) := by decide +kernel
theorem dX7_joins_74 : decode cX7_joins 74 = .ok (.getfield 28, 3) := by decide +kernel
theorem dX7_joins_77 : decode cX7_joins 77 = .ok (.iload 9, 2) := by decide +kernel
theorem dX7_joins_79 : decode cX7_joins 79 = .ok (.iaload, 1) := by decide +kernel
theorem dX7_joins_80 : decode cX7_joins 80 = .ok (.iload 6, 2) := by decide +kernel
theorem dX7_joins_82 : decode cX7_joins 82 = .ok (.if_icmp .ne 8, 3) := by decide +kernel
theorem dX7_joins_85 : decode cX7_joins 85 = .ok (.iload 5, 2) := by decide +kernel
theorem dX7_joins_87 : decode cX7_joins 87 = .ok (.goto 10, 3) := by decide +kernel
theorem dX7_joins_90 : decode cX7_joins 90 = .ok (.aload_n 0, 1) := by decide +kernel
theorem dX7_joins_91 : decode cX7_joins 91 = .ok (.getfield 28, 3) := by decide +kernel
theorem dX7_joins_94 : decode cX7_joins 94 = .ok (.iload 9, 2) := by decide +kernel
theorem dX7_joins_96 : decode cX7_joins 96 = .ok (.iaload, 1) := by decide +kernel
theorem dX7_joins_97 : decode cX7_joins 97 = .ok (.iastore, 1) := by decide +kernel
theorem dX7_joins_98 : decode cX7_joins 98 = .ok (.aload_n 0, 1) := by decide +kernel
theorem dX7_joins_99 : decode cX7_joins 99 = .ok (.getfield 31, 3) := by decide +kernel
theorem dX7_joins_102 : decode cX7_joins 102 = .ok (.iload 9, 2) := by decide +kernel
theorem dX7_joins_104 : decode cX7_joins 104 = .ok (.aload_n 0, 1) := by decide +kernel
theorem dX7_joins_105 : decode cX7_joins 105 = .ok (.getfield 31, 3) := by decide +kernel
theorem dX7_joins_108 : decode cX7_joins 108 = .ok (.iload 9, 2) := by decide +kernel
theorem dX7_joins_110 : decode cX7_joins 110 = .ok (.iaload, 1) := by decide +kernel
theorem dX7_joins_111 : decode cX7_joins 111 = .ok (.iload 6, 2) := by decide +kernel
theorem dX7_joins_113 : decode cX7_joins 113 = .ok (.if_icmp .ne 8, 3) := by decide +kernel
theorem dX7_joins_116 : decode cX7_joins 116 = .ok (.iload 5, 2) := by decide +kernel
theorem dX7_joins_118 : decode cX7_joins 118 = .ok (.goto 10, 3) := by decide +kernel
theorem dX7_joins_121 : decode cX7_joins 121 = .ok (.aload_n 0, 1) := by decide +kernel
theorem dX7_joins_122 : decode cX7_joins 122 = .ok (.getfield 31, 3) := by decide +kernel
theorem dX7_joins_125 : decode cX7_joins 125 = .ok (.iload 9, 2) := by decide +kernel
theorem dX7_joins_127 : decode cX7_joins 127 = .ok (.iaload, 1) := by decide +kernel
theorem dX7_joins_128 : decode cX7_joins 128 = .ok (.iastore, 1) := by decide +kernel
theorem dX7_joins_129 : decode cX7_joins 129 = .ok (.iinc 9 1, 3) := by decide +kernel
theorem dX7_joins_132 : decode cX7_joins 132 = .ok (.goto (-72), 3) := by decide +kernel
theorem dX7_joins_135 : decode cX7_joins 135 = .ok (.iload 7, 2) := by decide +kernel
theorem dX7_joins_137 : decode cX7_joins 137 = .ok (.iload 6, 2) := by decide +kernel
theorem dX7_joins_139 : decode cX7_joins 139 = .ok (.if_icmp .ne 8, 3) := by decide +kernel
theorem dX7_joins_142 : decode cX7_joins 142 = .ok (.iload 5, 2) := by decide +kernel
theorem dX7_joins_144 : decode cX7_joins 144 = .ok (.goto 5, 3) := by decide +kernel
theorem dX7_joins_147 : decode cX7_joins 147 = .ok (.iload 7, 2) := by decide +kernel
theorem dX7_joins_149 : decode cX7_joins 149 = .ok (.istore 7, 2) := by decide +kernel
theorem dX7_joins_151 : decode cX7_joins 151 = .ok (.iload 8, 2) := by decide +kernel
theorem dX7_joins_153 : decode cX7_joins 153 = .ok (.iload 6, 2) := by decide +kernel
theorem dX7_joins_155 : decode cX7_joins 155 = .ok (.if_icmp .ne 8, 3) := by decide +kernel
theorem dX7_joins_158 : decode cX7_joins 158 = .ok (.iload 5, 2) := by decide +kernel
theorem dX7_joins_160 : decode cX7_joins 160 = .ok (.goto 5, 3) := by decide +kernel
theorem dX7_joins_163 : decode cX7_joins 163 = .ok (.iload 8, 2) := by decide +kernel
theorem dX7_joins_165 : decode cX7_joins 165 = .ok (.istore 8, 2) := by decide +kernel
theorem dX7_joins_167 : decode cX7_joins 167 = .ok (.aload_n 0, 1) := by decide +kernel
theorem dX7_joins_168 : decode cX7_joins 168 = .ok (.getfield 31, 3) := by decide +kernel
theorem dX7_joins_171 : decode cX7_joins 171 = .ok (.iload 5, 2) := by decide +kernel
theorem dX7_joins_173 : decode cX7_joins 173 = .ok (.iload 7, 2) := by decide +kernel
theorem dX7_joins_175 : decode cX7_joins 175 = .ok (.iconst (-1), 1) := by decide +kernel
theorem dX7_joins_176 : decode cX7_joins 176 = .ok (.if_icmp .ne 8, 3) := by decide +kernel
theorem dX7_joins_179 : decode cX7_joins 179 = .ok (.iload 8, 2) := by decide +kernel
theorem dX7_joins_181 : decode cX7_joins 181 = .ok (.goto 5, 3) := by decide +kernel
theorem dX7_joins_184 : decode cX7_joins 184 = .ok (.iload 7, 2) := by decide +kernel
theorem dX7_joins_186 : decode cX7_joins 186 = .ok (.iastore, 1) := by decide +kernel
theorem dX7_joins_187 : decode cX7_joins 187 = .ok (.aload_n 0, 1) := by decide +kernel
theorem dX7_joins_188 : decode cX7_joins 188 = .ok (.getfield 31, 3) := by decide +kernel
theorem dX7_joins_191 : decode cX7_joins 191 = .ok (.iload 6, 2) := by decide +kernel
theorem dX7_joins_193 : decode cX7_joins 193 = .ok (.iconst (-1), 1) := by decide +kernel
theorem dX7_joins_194 : decode cX7_joins 194 = .ok (.iastore, 1) := by decide +kernel
theorem dX7_joins_195 : decode cX7_joins 195 = .ok (.iload 7, 2) := by decide +kernel
theorem dX7_joins_197 : decode cX7_joins 197 = .ok (.iconst (-1), 1) := by decide +kernel
theorem dX7_joins_198 : decode cX7_joins 198 = .ok (.if_icmp .eq 9, 3) := by decide +kernel
theorem dX7_joins_201 : decode cX7_joins 201 = .ok (.iload 8, 2) := by decide +kernel
theorem dX7_joins_203 : decode cX7_joins 203 = .ok (.iconst (-1), 1) := by decide +kernel
theorem dX7_joins_204 : decode cX7_joins 204 = .ok (.if_icmp .ne 8, 3) := by decide +kernel
theorem dX7_joins_207 : decode cX7_joins 207 = .ok (.iload 5, 2) := by decide +kernel
theorem dX7_joins_209 : decode cX7_joins 209 = .ok (.goto 5, 3) := by decide +kernel
theorem dX7_joins_212 : decode cX7_joins 212 = .ok (.iload 7, 2) := by decide +kernel
theorem dX7_joins_214 : decode cX7_joins 214 = .ok (.istore_n 3, 1) := by decide +kernel
theorem dX7_joins_215 : decode cX7_joins 215 = .ok (.iload 7, 2) := by decide +kernel
theorem dX7_joins_217 : decode cX7_joins 217 = .ok (.iconst (-1), 1) := by decide +kernel
theorem dX7_joins_218 : decode cX7_joins 218 = .ok (.if_icmp .eq 9, 3) := by decide +kernel
theorem dX7_joins_221 : decode cX7_joins 221 = .ok (.iload 8, 2) := by decide +kernel
theorem dX7_joins_223 : decode cX7_joins 223 = .ok (.iconst (-1), 1) := by decide +kernel
theorem dX7_joins_224 : decode cX7_joins 224 = .ok (.if_icmp .ne 8, 3) := by decide +kernel
theorem dX7_joins_227 : decode cX7_joins 227 = .ok (.iload 5, 2) := by decide +kernel
theorem dX7_joins_229 : decode cX7_joins 229 = .ok (.goto 5, 3) := by decide +kernel
theorem dX7_joins_232 : decode cX7_joins 232 = .ok (.iload 8, 2) := by decide +kernel
theorem dX7_joins_234 : decode cX7_joins 234 = .ok (.istore 4, 2) := by decide +kernel
theorem dX7_joins_236 : decode cX7_joins 236 = .ok (.goto (-231), 3) := by decide +kernel
theorem dX7_joins_239 : decode cX7_joins 239 = .ok (.aload_n 0, 1) := by decide +kernel
theorem dX7_joins_240 : decode cX7_joins 240 = .ok (.iconst 1, 1) := by decide +kernel
theorem dX7_joins_241 : decode cX7_joins 241 = .ok (.putfield 65, 3) := by decide +kernel
theorem dX7_joins_244 : decode cX7_joins 244 = .ok (.return_, 1) := by decide +kernel
theorem dX7_pointsTo_0 : decode cX7_pointsTo 0 = .ok (.aload_n 0, 1) := by decide +kernel
theorem dX7_pointsTo_1 : decode cX7_pointsTo 1 = .ok (.getfield 31, 3) := by decide +kernel
theorem dX7_pointsTo_4 : decode cX7_pointsTo 4 = .ok (.iload_n 1, 1) := by decide +kernel
theorem dX7_pointsTo_5 : decode cX7_pointsTo 5 = .ok (.iaload, 1) := by decide +kernel
theorem dX7_pointsTo_6 : decode cX7_pointsTo 6 = .ok (.iconst (-1), 1) := by decide +kernel
theorem dX7_pointsTo_7 : decode cX7_pointsTo 7 = .ok (.if_icmp .ne 18, 3) := by decide +kernel
theorem dX7_pointsTo_10 : decode cX7_pointsTo 10 = .ok (.aload_n 0, 1) := by decide +kernel
theorem dX7_pointsTo_11 : decode cX7_pointsTo 11 = .ok (.getfield 31, 3) := by decide +kernel
theorem dX7_pointsTo_14 : decode cX7_pointsTo 14 = .ok (.iload_n 1, 1) := by decide +kernel
theorem dX7_pointsTo_15 : decode cX7_pointsTo 15 = .ok (.iload_n 2, 1) := by decide +kernel
theorem dX7_pointsTo_16 : decode cX7_pointsTo 16 = .ok (.iastore, 1) := by decide +kernel
theorem dX7_pointsTo_17 : decode cX7_pointsTo 17 = .ok (.aload_n 0, 1) := by decide +kernel
theorem dX7_pointsTo_18 : decode cX7_pointsTo 18 = .ok (.iconst 1, 1) := by decide +kernel
theorem dX7_pointsTo_19 : decode cX7_pointsTo 19 = .ok (.putfield 65, 3) := by decide +kernel
theorem dX7_pointsTo_22 : decode cX7_pointsTo 22 = .ok (.goto 24, 3) := by decide +kernel
theorem dX7_pointsTo_25 : decode cX7_pointsTo 25 = .ok (.aload_n 0, 1) := by decide +kernel
theorem dX7_pointsTo_26 : decode cX7_pointsTo 26 = .ok (.getfield 31, 3) := by decide +kernel
theorem dX7_pointsTo_29 : decode cX7_pointsTo 29 = .ok (.iload_n 1, 1) := by decide +kernel
theorem dX7_pointsTo_30 : decode cX7_pointsTo 30 = .ok (.iaload, 1) := by decide +kernel
theorem dX7_pointsTo_31 : decode cX7_pointsTo 31 = .ok (.iload_n 2, 1) := by decide +kernel
theorem dX7_pointsTo_32 : decode cX7_pointsTo 32 = .ok (.if_icmp .eq 14, 3) := by decide +kernel
theorem dX7_pointsTo_35 : decode cX7_pointsTo 35 = .ok (.aload_n 0, 1) := by decide +kernel
theorem dX7_pointsTo_36 : decode cX7_pointsTo 36 = .ok (.aload_n 0, 1) := by decide +kernel
theorem dX7_pointsTo_37 : decode cX7_pointsTo 37 = .ok (.getfield 31, 3) := by decide +kernel
theorem dX7_pointsTo_40 : decode cX7_pointsTo 40 = .ok (.iload_n 1, 1) := by decide +kernel
theorem dX7_pointsTo_41 : decode cX7_pointsTo 41 = .ok (.iaload, 1) := by decide +kernel
theorem dX7_pointsTo_42 : decode cX7_pointsTo 42 = .ok (.iload_n 2, 1) := by decide +kernel
theorem dX7_pointsTo_43 : decode cX7_pointsTo 43 = .ok (.invokevirtual 90, 3) := by decide +kernel
theorem dX7_pointsTo_46 : decode cX7_pointsTo 46 = .ok (.return_, 1) := by decide +kernel
theorem dX7_joinsBy_0 : decode cX7_joinsBy 0 = .ok (.aload_n 0, 1) := by decide +kernel
theorem dX7_joinsBy_1 : decode cX7_joinsBy 1 = .ok (.getfield 28, 3) := by decide +kernel
theorem dX7_joinsBy_4 : decode cX7_joinsBy 4 = .ok (.aload_n 0, 1) := by decide +kernel
theorem dX7_joinsBy_5 : decode cX7_joinsBy 5 = .ok (.iload_n 1, 1) := by decide +kernel
theorem dX7_joinsBy_6 : decode cX7_joinsBy 6 = .ok (.invokevirtual 69, 3) := by decide +kernel
theorem dX7_joinsBy_9 : decode cX7_joinsBy 9 = .ok (.iaload, 1) := by decide +kernel
theorem dX7_joinsBy_10 : decode cX7_joinsBy 10 = .ok (.istore_n 2, 1) := by decide +kernel
theorem dX7_joinsBy_11 : decode cX7_joinsBy 11 = .ok (.aload_n 0, 1) := by decide +kernel
theorem dX7_joinsBy_12 : decode cX7_joinsBy 12 = .ok (.getfield 28, 3) := by decide +kernel
theorem dX7_joinsBy_15 : decode cX7_joinsBy 15 = .ok (.aload_n 0, 1) := by decide +kernel
theorem dX7_joinsBy_16 : decode cX7_joinsBy 16 = .ok (.iload_n 1, 1) := by decide +kernel
theorem dX7_joinsBy_17 : decode cX7_joinsBy 17 = .ok (.invokevirtual 72, 3) := by decide +kernel
theorem dX7_joinsBy_20 : decode cX7_joinsBy 20 = .ok (.iaload, 1) := by decide +kernel
theorem dX7_joinsBy_21 : decode cX7_joinsBy 21 = .ok (.istore_n 3, 1) := by decide +kernel
theorem dX7_joinsBy_22 : decode cX7_joinsBy 22 = .ok (.aload_n 0, 1) := by decide +kernel
theorem dX7_joinsBy_23 : decode cX7_joinsBy 23 = .ok (.iload_n 1, 1) := by decide +kernel
theorem dX7_joinsBy_24 : decode cX7_joinsBy 24 = .ok (.invokevirtual 75, 3) := by decide +kernel
theorem dX7_joinsBy_27 : decode cX7_joinsBy 27 = .ok (.tableswitch 102 0 2 #[25, 34, 58], 25) := by decide +kernel
theorem dX7_joinsBy_52 : decode cX7_joinsBy 52 = .ok (.aload_n 0, 1) := by decide +kernel
theorem dX7_joinsBy_53 : decode cX7_joinsBy 53 = .ok (.iload_n 2, 1) := by decide +kernel
theorem dX7_joinsBy_54 : decode cX7_joinsBy 54 = .ok (.iload_n 3, 1) := by decide +kernel
theorem dX7_joinsBy_55 : decode cX7_joinsBy 55 = .ok (.invokevirtual 93, 3) := by decide +kernel
theorem dX7_joinsBy_58 : decode cX7_joinsBy 58 = .ok (.goto 107, 3) := by decide +kernel
theorem dX7_joinsBy_61 : decode cX7_joinsBy 61 = .ok (.aload_n 0, 1) := by decide +kernel
theorem dX7_joinsBy_62 : decode cX7_joinsBy 62 = .ok (.getfield 31, 3) := by decide +kernel
theorem dX7_joinsBy_65 : decode cX7_joinsBy 65 = .ok (.iload_n 3, 1) := by decide +kernel
theorem dX7_joinsBy_66 : decode cX7_joinsBy 66 = .ok (.iaload, 1) := by decide +kernel
theorem dX7_joinsBy_67 : decode cX7_joinsBy 67 = .ok (.iconst (-1), 1) := by decide +kernel
theorem dX7_joinsBy_68 : decode cX7_joinsBy 68 = .ok (.if_icmp .eq 97, 3) := by decide +kernel
theorem dX7_joinsBy_71 : decode cX7_joinsBy 71 = .ok (.aload_n 0, 1) := by decide +kernel
theorem dX7_joinsBy_72 : decode cX7_joinsBy 72 = .ok (.iload_n 2, 1) := by decide +kernel
theorem dX7_joinsBy_73 : decode cX7_joinsBy 73 = .ok (.aload_n 0, 1) := by decide +kernel
theorem dX7_joinsBy_74 : decode cX7_joinsBy 74 = .ok (.getfield 31, 3) := by decide +kernel
theorem dX7_joinsBy_77 : decode cX7_joinsBy 77 = .ok (.iload_n 3, 1) := by decide +kernel
theorem dX7_joinsBy_78 : decode cX7_joinsBy 78 = .ok (.iaload, 1) := by decide +kernel
theorem dX7_joinsBy_79 : decode cX7_joinsBy 79 = .ok (.invokevirtual 93, 3) := by decide +kernel
theorem dX7_joinsBy_82 : decode cX7_joinsBy 82 = .ok (.goto 83, 3) := by decide +kernel
theorem dX7_joinsBy_85 : decode cX7_joinsBy 85 = .ok (.aload_n 0, 1) := by decide +kernel
theorem dX7_joinsBy_86 : decode cX7_joinsBy 86 = .ok (.getfield 31, 3) := by decide +kernel
theorem dX7_joinsBy_89 : decode cX7_joinsBy 89 = .ok (.iload_n 3, 1) := by decide +kernel
theorem dX7_joinsBy_90 : decode cX7_joinsBy 90 = .ok (.iaload, 1) := by decide +kernel
theorem dX7_joinsBy_91 : decode cX7_joinsBy 91 = .ok (.iconst (-1), 1) := by decide +kernel
theorem dX7_joinsBy_92 : decode cX7_joinsBy 92 = .ok (.if_icmp .eq 73, 3) := by decide +kernel
theorem dX7_joinsBy_95 : decode cX7_joinsBy 95 = .ok (.aload_n 0, 1) := by decide +kernel
theorem dX7_joinsBy_96 : decode cX7_joinsBy 96 = .ok (.getfield 31, 3) := by decide +kernel
theorem dX7_joinsBy_99 : decode cX7_joinsBy 99 = .ok (.aload_n 0, 1) := by decide +kernel
theorem dX7_joinsBy_100 : decode cX7_joinsBy 100 = .ok (.getfield 31, 3) := by decide +kernel
theorem dX7_joinsBy_103 : decode cX7_joinsBy 103 = .ok (.iload_n 3, 1) := by decide +kernel
theorem dX7_joinsBy_104 : decode cX7_joinsBy 104 = .ok (.iaload, 1) := by decide +kernel
theorem dX7_joinsBy_105 : decode cX7_joinsBy 105 = .ok (.iaload, 1) := by decide +kernel
theorem dX7_joinsBy_106 : decode cX7_joinsBy 106 = .ok (.iconst (-1), 1) := by decide +kernel
theorem dX7_joinsBy_107 : decode cX7_joinsBy 107 = .ok (.if_icmp .eq 58, 3) := by decide +kernel
theorem dX7_joinsBy_110 : decode cX7_joinsBy 110 = .ok (.aload_n 0, 1) := by decide +kernel
theorem dX7_joinsBy_111 : decode cX7_joinsBy 111 = .ok (.iload_n 2, 1) := by decide +kernel
theorem dX7_joinsBy_112 : decode cX7_joinsBy 112 = .ok (.aload_n 0, 1) := by decide +kernel
theorem dX7_joinsBy_113 : decode cX7_joinsBy 113 = .ok (.getfield 31, 3) := by decide +kernel
theorem dX7_joinsBy_116 : decode cX7_joinsBy 116 = .ok (.aload_n 0, 1) := by decide +kernel
theorem dX7_joinsBy_117 : decode cX7_joinsBy 117 = .ok (.getfield 31, 3) := by decide +kernel
theorem dX7_joinsBy_120 : decode cX7_joinsBy 120 = .ok (.iload_n 3, 1) := by decide +kernel
theorem dX7_joinsBy_121 : decode cX7_joinsBy 121 = .ok (.iaload, 1) := by decide +kernel
theorem dX7_joinsBy_122 : decode cX7_joinsBy 122 = .ok (.iaload, 1) := by decide +kernel
theorem dX7_joinsBy_123 : decode cX7_joinsBy 123 = .ok (.invokevirtual 93, 3) := by decide +kernel
theorem dX7_joinsBy_126 : decode cX7_joinsBy 126 = .ok (.goto 39, 3) := by decide +kernel
theorem dX7_joinsBy_129 : decode cX7_joinsBy 129 = .ok (.aload_n 0, 1) := by decide +kernel
theorem dX7_joinsBy_130 : decode cX7_joinsBy 130 = .ok (.getfield 31, 3) := by decide +kernel
theorem dX7_joinsBy_133 : decode cX7_joinsBy 133 = .ok (.iload_n 2, 1) := by decide +kernel
theorem dX7_joinsBy_134 : decode cX7_joinsBy 134 = .ok (.iaload, 1) := by decide +kernel
theorem dX7_joinsBy_135 : decode cX7_joinsBy 135 = .ok (.iconst (-1), 1) := by decide +kernel
theorem dX7_joinsBy_136 : decode cX7_joinsBy 136 = .ok (.if_icmp .eq 29, 3) := by decide +kernel
theorem dX7_joinsBy_139 : decode cX7_joinsBy 139 = .ok (.aload_n 0, 1) := by decide +kernel
theorem dX7_joinsBy_140 : decode cX7_joinsBy 140 = .ok (.getfield 31, 3) := by decide +kernel
theorem dX7_joinsBy_143 : decode cX7_joinsBy 143 = .ok (.iload_n 3, 1) := by decide +kernel
theorem dX7_joinsBy_144 : decode cX7_joinsBy 144 = .ok (.iaload, 1) := by decide +kernel
theorem dX7_joinsBy_145 : decode cX7_joinsBy 145 = .ok (.iconst (-1), 1) := by decide +kernel
theorem dX7_joinsBy_146 : decode cX7_joinsBy 146 = .ok (.if_icmp .eq 19, 3) := by decide +kernel
theorem dX7_joinsBy_149 : decode cX7_joinsBy 149 = .ok (.aload_n 0, 1) := by decide +kernel
theorem dX7_joinsBy_150 : decode cX7_joinsBy 150 = .ok (.aload_n 0, 1) := by decide +kernel
theorem dX7_joinsBy_151 : decode cX7_joinsBy 151 = .ok (.getfield 31, 3) := by decide +kernel
theorem dX7_joinsBy_154 : decode cX7_joinsBy 154 = .ok (.iload_n 2, 1) := by decide +kernel
theorem dX7_joinsBy_155 : decode cX7_joinsBy 155 = .ok (.iaload, 1) := by decide +kernel
theorem dX7_joinsBy_156 : decode cX7_joinsBy 156 = .ok (.aload_n 0, 1) := by decide +kernel
theorem dX7_joinsBy_157 : decode cX7_joinsBy 157 = .ok (.getfield 31, 3) := by decide +kernel
theorem dX7_joinsBy_160 : decode cX7_joinsBy 160 = .ok (.iload_n 3, 1) := by decide +kernel
theorem dX7_joinsBy_161 : decode cX7_joinsBy 161 = .ok (.iaload, 1) := by decide +kernel
theorem dX7_joinsBy_162 : decode cX7_joinsBy 162 = .ok (.invokevirtual 93, 3) := by decide +kernel
theorem dX7_joinsBy_165 : decode cX7_joinsBy 165 = .ok (.return_, 1) := by decide +kernel
theorem dX7_laysCoarse_0 : decode cX7_laysCoarse 0 = .ok (.iconst 0, 1) := by decide +kernel
theorem dX7_laysCoarse_1 : decode cX7_laysCoarse 1 = .ok (.istore_n 2, 1) := by decide +kernel
theorem dX7_laysCoarse_2 : decode cX7_laysCoarse 2 = .ok (.iload_n 2, 1) := by decide +kernel
theorem dX7_laysCoarse_3 : decode cX7_laysCoarse 3 = .ok (.bipush 10, 2) := by decide +kernel
theorem dX7_laysCoarse_5 : decode cX7_laysCoarse 5 = .ok (.if_icmp .ge 23, 3) := by decide +kernel
theorem dX7_laysCoarse_8 : decode cX7_laysCoarse 8 = .ok (.aload_n 0, 1) := by decide +kernel
theorem dX7_laysCoarse_9 : decode cX7_laysCoarse 9 = .ok (.getfield 28, 3) := by decide +kernel
theorem dX7_laysCoarse_12 : decode cX7_laysCoarse 12 = .ok (.iload_n 2, 1) := by decide +kernel
theorem dX7_laysCoarse_13 : decode cX7_laysCoarse 13 = .ok (.iload_n 2, 1) := by decide +kernel
theorem dX7_laysCoarse_14 : decode cX7_laysCoarse 14 = .ok (.iastore, 1) := by decide +kernel
theorem dX7_laysCoarse_15 : decode cX7_laysCoarse 15 = .ok (.aload_n 0, 1) := by decide +kernel
theorem dX7_laysCoarse_16 : decode cX7_laysCoarse 16 = .ok (.getfield 31, 3) := by decide +kernel
theorem dX7_laysCoarse_19 : decode cX7_laysCoarse 19 = .ok (.iload_n 2, 1) := by decide +kernel
theorem dX7_laysCoarse_20 : decode cX7_laysCoarse 20 = .ok (.iconst (-1), 1) := by decide +kernel
theorem dX7_laysCoarse_21 : decode cX7_laysCoarse 21 = .ok (.iastore, 1) := by decide +kernel
theorem dX7_laysCoarse_22 : decode cX7_laysCoarse 22 = .ok (.iinc 2 1, 3) := by decide +kernel
theorem dX7_laysCoarse_25 : decode cX7_laysCoarse 25 = .ok (.goto (-23), 3) := by decide +kernel
theorem dX7_laysCoarse_28 : decode cX7_laysCoarse 28 = .ok (.aload_n 0, 1) := by decide +kernel
theorem dX7_laysCoarse_29 : decode cX7_laysCoarse 29 = .ok (.iconst 1, 1) := by decide +kernel
theorem dX7_laysCoarse_30 : decode cX7_laysCoarse 30 = .ok (.putfield 65, 3) := by decide +kernel
theorem dX7_laysCoarse_33 : decode cX7_laysCoarse 33 = .ok (.aload_n 0, 1) := by decide +kernel
theorem dX7_laysCoarse_34 : decode cX7_laysCoarse 34 = .ok (.getfield 65, 3) := by decide +kernel
theorem dX7_laysCoarse_37 : decode cX7_laysCoarse 37 = .ok (.ifCond .eq 39, 3) := by decide +kernel
theorem dX7_laysCoarse_40 : decode cX7_laysCoarse 40 = .ok (.aload_n 0, 1) := by decide +kernel
theorem dX7_laysCoarse_41 : decode cX7_laysCoarse 41 = .ok (.iconst 0, 1) := by decide +kernel
theorem dX7_laysCoarse_42 : decode cX7_laysCoarse 42 = .ok (.putfield 65, 3) := by decide +kernel
theorem dX7_laysCoarse_45 : decode cX7_laysCoarse 45 = .ok (.iconst 0, 1) := by decide +kernel
theorem dX7_laysCoarse_46 : decode cX7_laysCoarse 46 = .ok (.istore_n 2, 1) := by decide +kernel
theorem dX7_laysCoarse_47 : decode cX7_laysCoarse 47 = .ok (.iload_n 2, 1) := by decide +kernel
theorem dX7_laysCoarse_48 : decode cX7_laysCoarse 48 = .ok (.aload_n 0, 1) := by decide +kernel
theorem dX7_laysCoarse_49 : decode cX7_laysCoarse 49 = .ok (.getfield 7, 3) := by decide +kernel
theorem dX7_laysCoarse_52 : decode cX7_laysCoarse 52 = .ok (.iconst 0, 1) := by decide +kernel
theorem dX7_laysCoarse_53 : decode cX7_laysCoarse 53 = .ok (.iaload, 1) := by decide +kernel
theorem dX7_laysCoarse_54 : decode cX7_laysCoarse 54 = .ok (.if_icmp .ge 19, 3) := by decide +kernel
theorem dX7_laysCoarse_57 : decode cX7_laysCoarse 57 = .ok (.iload_n 2, 1) := by decide +kernel
theorem dX7_laysCoarse_58 : decode cX7_laysCoarse 58 = .ok (.iload_n 1, 1) := by decide +kernel
theorem dX7_laysCoarse_59 : decode cX7_laysCoarse 59 = .ok (.if_icmp .eq 8, 3) := by decide +kernel
theorem dX7_laysCoarse_62 : decode cX7_laysCoarse 62 = .ok (.aload_n 0, 1) := by decide +kernel
theorem dX7_laysCoarse_63 : decode cX7_laysCoarse 63 = .ok (.iload_n 2, 1) := by decide +kernel
theorem dX7_laysCoarse_64 : decode cX7_laysCoarse 64 = .ok (.invokevirtual 96, 3) := by decide +kernel
theorem dX7_laysCoarse_67 : decode cX7_laysCoarse 67 = .ok (.iinc 2 1, 3) := by decide +kernel
theorem dX7_laysCoarse_70 : decode cX7_laysCoarse 70 = .ok (.goto (-23), 3) := by decide +kernel
theorem dX7_laysCoarse_73 : decode cX7_laysCoarse 73 = .ok (.goto (-40), 3) := by decide +kernel
theorem dX7_laysCoarse_76 : decode cX7_laysCoarse 76 = .ok (.return_, 1) := by decide +kernel
theorem dX7_groupSet_0 : decode cX7_groupSet 0 = .ok (.iconst 0, 1) := by decide +kernel
theorem dX7_groupSet_1 : decode cX7_groupSet 1 = .ok (.istore_n 2, 1) := by decide +kernel
theorem dX7_groupSet_2 : decode cX7_groupSet 2 = .ok (.iconst 0, 1) := by decide +kernel
theorem dX7_groupSet_3 : decode cX7_groupSet 3 = .ok (.istore_n 3, 1) := by decide +kernel
theorem dX7_groupSet_4 : decode cX7_groupSet 4 = .ok (.iload_n 3, 1) := by decide +kernel
theorem dX7_groupSet_5 : decode cX7_groupSet 5 = .ok (.bipush 10, 2) := by decide +kernel
theorem dX7_groupSet_7 : decode cX7_groupSet 7 = .ok (.if_icmp .ge 29, 3) := by decide +kernel
theorem dX7_groupSet_10 : decode cX7_groupSet 10 = .ok (.iload_n 2, 1) := by decide +kernel
theorem dX7_groupSet_11 : decode cX7_groupSet 11 = .ok (.aload_n 0, 1) := by decide +kernel
theorem dX7_groupSet_12 : decode cX7_groupSet 12 = .ok (.getfield 28, 3) := by decide +kernel
theorem dX7_groupSet_15 : decode cX7_groupSet 15 = .ok (.iload_n 3, 1) := by decide +kernel
theorem dX7_groupSet_16 : decode cX7_groupSet 16 = .ok (.iaload, 1) := by decide +kernel
theorem dX7_groupSet_17 : decode cX7_groupSet 17 = .ok (.iload_n 1, 1) := by decide +kernel
theorem dX7_groupSet_18 : decode cX7_groupSet 18 = .ok (.if_icmp .ne 9, 3) := by decide +kernel
theorem dX7_groupSet_21 : decode cX7_groupSet 21 = .ok (.iconst 1, 1) := by decide +kernel
theorem dX7_groupSet_22 : decode cX7_groupSet 22 = .ok (.iload_n 3, 1) := by decide +kernel
theorem dX7_groupSet_23 : decode cX7_groupSet 23 = .ok (.ishl, 1) := by decide +kernel
theorem dX7_groupSet_24 : decode cX7_groupSet 24 = .ok (.goto 4, 3) := by decide +kernel
theorem dX7_groupSet_27 : decode cX7_groupSet 27 = .ok (.iconst 0, 1) := by decide +kernel
theorem dX7_groupSet_28 : decode cX7_groupSet 28 = .ok (.ior, 1) := by decide +kernel
theorem dX7_groupSet_29 : decode cX7_groupSet 29 = .ok (.istore_n 2, 1) := by decide +kernel
theorem dX7_groupSet_30 : decode cX7_groupSet 30 = .ok (.iinc 3 1, 3) := by decide +kernel
theorem dX7_groupSet_33 : decode cX7_groupSet 33 = .ok (.goto (-29), 3) := by decide +kernel
theorem dX7_groupSet_36 : decode cX7_groupSet 36 = .ok (.iload_n 2, 1) := by decide +kernel
theorem dX7_groupSet_37 : decode cX7_groupSet 37 = .ok (.ireturn, 1) := by decide +kernel
theorem dX7_coarseOf_0 : decode cX7_coarseOf 0 = .ok (.aload_n 0, 1) := by decide +kernel
theorem dX7_coarseOf_1 : decode cX7_coarseOf 1 = .ok (.getfield 31, 3) := by decide +kernel
theorem dX7_coarseOf_4 : decode cX7_coarseOf 4 = .ok (.aload_n 0, 1) := by decide +kernel
theorem dX7_coarseOf_5 : decode cX7_coarseOf 5 = .ok (.getfield 28, 3) := by decide +kernel
theorem dX7_coarseOf_8 : decode cX7_coarseOf 8 = .ok (.iload_n 1, 1) := by decide +kernel
theorem dX7_coarseOf_9 : decode cX7_coarseOf 9 = .ok (.iaload, 1) := by decide +kernel
theorem dX7_coarseOf_10 : decode cX7_coarseOf 10 = .ok (.iaload, 1) := by decide +kernel
theorem dX7_coarseOf_11 : decode cX7_coarseOf 11 = .ok (.istore_n 2, 1) := by decide +kernel
theorem dX7_coarseOf_12 : decode cX7_coarseOf 12 = .ok (.iload_n 2, 1) := by decide +kernel
theorem dX7_coarseOf_13 : decode cX7_coarseOf 13 = .ok (.iconst (-1), 1) := by decide +kernel
theorem dX7_coarseOf_14 : decode cX7_coarseOf 14 = .ok (.if_icmp .ne 7, 3) := by decide +kernel
theorem dX7_coarseOf_17 : decode cX7_coarseOf 17 = .ok (.iconst 0, 1) := by decide +kernel
theorem dX7_coarseOf_18 : decode cX7_coarseOf 18 = .ok (.goto 8, 3) := by decide +kernel
theorem dX7_coarseOf_21 : decode cX7_coarseOf 21 = .ok (.aload_n 0, 1) := by decide +kernel
theorem dX7_coarseOf_22 : decode cX7_coarseOf 22 = .ok (.iload_n 2, 1) := by decide +kernel
theorem dX7_coarseOf_23 : decode cX7_coarseOf 23 = .ok (.invokevirtual 99, 3) := by decide +kernel
theorem dX7_coarseOf_26 : decode cX7_coarseOf 26 = .ok (.ireturn, 1) := by decide +kernel
theorem dX7_writes_0 : decode cX7_writes 0 = .ok (.aload_n 0, 1) := by decide +kernel
theorem dX7_writes_1 : decode cX7_writes 1 = .ok (.iload_n 1, 1) := by decide +kernel
theorem dX7_writes_2 : decode cX7_writes 2 = .ok (.invokevirtual 75, 3) := by decide +kernel
theorem dX7_writes_5 : decode cX7_writes 5 = .ok (.iconst 3, 1) := by decide +kernel
theorem dX7_writes_6 : decode cX7_writes 6 = .ok (.if_icmp .ne 16, 3) := by decide +kernel
theorem dX7_writes_9 : decode cX7_writes 9 = .ok (.aload_n 0, 1) := by decide +kernel
theorem dX7_writes_10 : decode cX7_writes 10 = .ok (.getfield 25, 3) := by decide +kernel
theorem dX7_writes_13 : decode cX7_writes 13 = .ok (.aload_n 0, 1) := by decide +kernel
theorem dX7_writes_14 : decode cX7_writes 14 = .ok (.iload_n 1, 1) := by decide +kernel
theorem dX7_writes_15 : decode cX7_writes 15 = .ok (.invokevirtual 69, 3) := by decide +kernel
theorem dX7_writes_18 : decode cX7_writes 18 = .ok (.iaload, 1) := by decide +kernel
theorem dX7_writes_19 : decode cX7_writes 19 = .ok (.goto 10, 3) := by decide +kernel
theorem dX7_writes_22 : decode cX7_writes 22 = .ok (.iconst 1, 1) := by decide +kernel
theorem dX7_writes_23 : decode cX7_writes 23 = .ok (.aload_n 0, 1) := by decide +kernel
theorem dX7_writes_24 : decode cX7_writes 24 = .ok (.iload_n 1, 1) := by decide +kernel
theorem dX7_writes_25 : decode cX7_writes 25 = .ok (.invokevirtual 69, 3) := by decide +kernel
theorem dX7_writes_28 : decode cX7_writes 28 = .ok (.ishl, 1) := by decide +kernel
theorem dX7_writes_29 : decode cX7_writes 29 = .ok (.ireturn, 1) := by decide +kernel
theorem dX7_readBy_0 : decode cX7_readBy 0 = .ok (.iconst 1, 1) := by decide +kernel
theorem dX7_readBy_1 : decode cX7_readBy 1 = .ok (.aload_n 0, 1) := by decide +kernel
theorem dX7_readBy_2 : decode cX7_readBy 2 = .ok (.iload_n 1, 1) := by decide +kernel
theorem dX7_readBy_3 : decode cX7_readBy 3 = .ok (.invokevirtual 72, 3) := by decide +kernel
theorem dX7_readBy_6 : decode cX7_readBy 6 = .ok (.ishl, 1) := by decide +kernel
theorem dX7_readBy_7 : decode cX7_readBy 7 = .ok (.istore_n 2, 1) := by decide +kernel
theorem dX7_readBy_8 : decode cX7_readBy 8 = .ok (.aload_n 0, 1) := by decide +kernel
theorem dX7_readBy_9 : decode cX7_readBy 9 = .ok (.iload_n 1, 1) := by decide +kernel
theorem dX7_readBy_10 : decode cX7_readBy 10 = .ok (.invokevirtual 75, 3) := by decide +kernel
theorem dX7_readBy_13 : decode cX7_readBy 13 = .ok (.tableswitch 44 0 2 #[27, 29, 31], 27) := by decide +kernel
theorem dX7_readBy_40 : decode cX7_readBy 40 = .ok (.iconst 0, 1) := by decide +kernel
theorem dX7_readBy_41 : decode cX7_readBy 41 = .ok (.ireturn, 1) := by decide +kernel
theorem dX7_readBy_42 : decode cX7_readBy 42 = .ok (.iload_n 2, 1) := by decide +kernel
theorem dX7_readBy_43 : decode cX7_readBy 43 = .ok (.ireturn, 1) := by decide +kernel
theorem dX7_readBy_44 : decode cX7_readBy 44 = .ok (.iload_n 2, 1) := by decide +kernel
theorem dX7_readBy_45 : decode cX7_readBy 45 = .ok (.aload_n 0, 1) := by decide +kernel
theorem dX7_readBy_46 : decode cX7_readBy 46 = .ok (.getfield 25, 3) := by decide +kernel
theorem dX7_readBy_49 : decode cX7_readBy 49 = .ok (.aload_n 0, 1) := by decide +kernel
theorem dX7_readBy_50 : decode cX7_readBy 50 = .ok (.iload_n 1, 1) := by decide +kernel
theorem dX7_readBy_51 : decode cX7_readBy 51 = .ok (.invokevirtual 72, 3) := by decide +kernel
theorem dX7_readBy_54 : decode cX7_readBy 54 = .ok (.iaload, 1) := by decide +kernel
theorem dX7_readBy_55 : decode cX7_readBy 55 = .ok (.ior, 1) := by decide +kernel
theorem dX7_readBy_56 : decode cX7_readBy 56 = .ok (.ireturn, 1) := by decide +kernel
theorem dX7_readBy_57 : decode cX7_readBy 57 = .ok (.iload_n 2, 1) := by decide +kernel
theorem dX7_readBy_58 : decode cX7_readBy 58 = .ok (.iconst 1, 1) := by decide +kernel
theorem dX7_readBy_59 : decode cX7_readBy 59 = .ok (.aload_n 0, 1) := by decide +kernel
theorem dX7_readBy_60 : decode cX7_readBy 60 = .ok (.iload_n 1, 1) := by decide +kernel
theorem dX7_readBy_61 : decode cX7_readBy 61 = .ok (.invokevirtual 69, 3) := by decide +kernel
theorem dX7_readBy_64 : decode cX7_readBy 64 = .ok (.ishl, 1) := by decide +kernel
theorem dX7_readBy_65 : decode cX7_readBy 65 = .ok (.ior, 1) := by decide +kernel
theorem dX7_readBy_66 : decode cX7_readBy 66 = .ok (.ireturn, 1) := by decide +kernel
theorem dX7_ofLine_0 : decode cX7_ofLine 0 = .ok (.iload_n 2, 1) := by decide +kernel
theorem dX7_ofLine_1 : decode cX7_ofLine 1 = .ok (.ifCond .ne 11, 3) := by decide +kernel
theorem dX7_ofLine_4 : decode cX7_ofLine 4 = .ok (.aload_n 0, 1) := by decide +kernel
theorem dX7_ofLine_5 : decode cX7_ofLine 5 = .ok (.iload_n 1, 1) := by decide +kernel
theorem dX7_ofLine_6 : decode cX7_ofLine 6 = .ok (.invokevirtual 75, 3) := by decide +kernel
theorem dX7_ofLine_9 : decode cX7_ofLine 9 = .ok (.goto 47, 3) := by decide +kernel
theorem dX7_ofLine_12 : decode cX7_ofLine 12 = .ok (.iload_n 2, 1) := by decide +kernel
theorem dX7_ofLine_13 : decode cX7_ofLine 13 = .ok (.iconst 1, 1) := by decide +kernel
theorem dX7_ofLine_14 : decode cX7_ofLine 14 = .ok (.if_icmp .ne 11, 3) := by decide +kernel
theorem dX7_ofLine_17 : decode cX7_ofLine 17 = .ok (.aload_n 0, 1) := by decide +kernel
theorem dX7_ofLine_18 : decode cX7_ofLine 18 = .ok (.iload_n 1, 1) := by decide +kernel
theorem dX7_ofLine_19 : decode cX7_ofLine 19 = .ok (.invokevirtual 69, 3) := by decide +kernel
theorem dX7_ofLine_22 : decode cX7_ofLine 22 = .ok (.goto 34, 3) := by decide +kernel
theorem dX7_ofLine_25 : decode cX7_ofLine 25 = .ok (.iload_n 2, 1) := by decide +kernel
theorem dX7_ofLine_26 : decode cX7_ofLine 26 = .ok (.iconst 2, 1) := by decide +kernel
theorem dX7_ofLine_27 : decode cX7_ofLine 27 = .ok (.if_icmp .ne 11, 3) := by decide +kernel
theorem dX7_ofLine_30 : decode cX7_ofLine 30 = .ok (.aload_n 0, 1) := by decide +kernel
theorem dX7_ofLine_31 : decode cX7_ofLine 31 = .ok (.iload_n 1, 1) := by decide +kernel
theorem dX7_ofLine_32 : decode cX7_ofLine 32 = .ok (.invokevirtual 72, 3) := by decide +kernel
theorem dX7_ofLine_35 : decode cX7_ofLine 35 = .ok (.goto 21, 3) := by decide +kernel
theorem dX7_ofLine_38 : decode cX7_ofLine 38 = .ok (.iload_n 2, 1) := by decide +kernel
theorem dX7_ofLine_39 : decode cX7_ofLine 39 = .ok (.iconst 3, 1) := by decide +kernel
theorem dX7_ofLine_40 : decode cX7_ofLine 40 = .ok (.if_icmp .ne 11, 3) := by decide +kernel
theorem dX7_ofLine_43 : decode cX7_ofLine 43 = .ok (.aload_n 0, 1) := by decide +kernel
theorem dX7_ofLine_44 : decode cX7_ofLine 44 = .ok (.iload_n 1, 1) := by decide +kernel
theorem dX7_ofLine_45 : decode cX7_ofLine 45 = .ok (.invokevirtual 102, 3) := by decide +kernel
theorem dX7_ofLine_48 : decode cX7_ofLine 48 = .ok (.goto 8, 3) := by decide +kernel
theorem dX7_ofLine_51 : decode cX7_ofLine 51 = .ok (.aload_n 0, 1) := by decide +kernel
theorem dX7_ofLine_52 : decode cX7_ofLine 52 = .ok (.iload_n 1, 1) := by decide +kernel
theorem dX7_ofLine_53 : decode cX7_ofLine 53 = .ok (.invokevirtual 105, 3) := by decide +kernel
theorem dX7_ofLine_56 : decode cX7_ofLine 56 = .ok (.ireturn, 1) := by decide +kernel
theorem dX7_of_0 : decode cX7_of 0 = .ok (.aload_n 0, 1) := by decide +kernel
theorem dX7_of_1 : decode cX7_of 1 = .ok (.iload_n 1, 1) := by decide +kernel
theorem dX7_of_2 : decode cX7_of 2 = .ok (.invokevirtual 62, 3) := by decide +kernel
theorem dX7_of_5 : decode cX7_of 5 = .ok (.ifCond .eq 12, 3) := by decide +kernel
theorem dX7_of_8 : decode cX7_of 8 = .ok (.iload_n 2, 1) := by decide +kernel
theorem dX7_of_9 : decode cX7_of 9 = .ok (.iconst 0, 1) := by decide +kernel
theorem dX7_of_10 : decode cX7_of 10 = .ok (.iconst 4, 1) := by decide +kernel
theorem dX7_of_11 : decode cX7_of 11 = .ok (.invokestatic 43, 3) := by decide +kernel
theorem dX7_of_14 : decode cX7_of 14 = .ok (.ifCond .ne 10, 3) := by decide +kernel
theorem dX7_of_17 : decode cX7_of 17 = .ok (.aload_n 0, 1) := by decide +kernel
theorem dX7_of_18 : decode cX7_of 18 = .ok (.bipush (-2), 2) := by decide +kernel
theorem dX7_of_20 : decode cX7_of 20 = .ok (.invokevirtual 51, 3) := by decide +kernel
theorem dX7_of_23 : decode cX7_of 23 = .ok (.ireturn, 1) := by decide +kernel
theorem dX7_of_24 : decode cX7_of 24 = .ok (.aload_n 0, 1) := by decide +kernel
theorem dX7_of_25 : decode cX7_of 25 = .ok (.iconst (-1), 1) := by decide +kernel
theorem dX7_of_26 : decode cX7_of 26 = .ok (.invokevirtual 108, 3) := by decide +kernel
theorem dX7_of_29 : decode cX7_of 29 = .ok (.aload_n 0, 1) := by decide +kernel
theorem dX7_of_30 : decode cX7_of 30 = .ok (.iload_n 1, 1) := by decide +kernel
theorem dX7_of_31 : decode cX7_of 31 = .ok (.iload_n 2, 1) := by decide +kernel
theorem dX7_of_32 : decode cX7_of 32 = .ok (.invokevirtual 111, 3) := by decide +kernel
theorem dX7_of_35 : decode cX7_of 35 = .ok (.ireturn, 1) := by decide +kernel
theorem dX7_clash_0 : decode cX7_clash 0 = .ok (.aload_n 0, 1) := by decide +kernel
theorem dX7_clash_1 : decode cX7_clash 1 = .ok (.iload_n 1, 1) := by decide +kernel
theorem dX7_clash_2 : decode cX7_clash 2 = .ok (.invokevirtual 62, 3) := by decide +kernel
theorem dX7_clash_5 : decode cX7_clash 5 = .ok (.ifCond .eq 16, 3) := by decide +kernel
theorem dX7_clash_8 : decode cX7_clash 8 = .ok (.aload_n 0, 1) := by decide +kernel
theorem dX7_clash_9 : decode cX7_clash 9 = .ok (.iload_n 2, 1) := by decide +kernel
theorem dX7_clash_10 : decode cX7_clash 10 = .ok (.invokevirtual 62, 3) := by decide +kernel
theorem dX7_clash_13 : decode cX7_clash 13 = .ok (.ifCond .eq 8, 3) := by decide +kernel
theorem dX7_clash_16 : decode cX7_clash 16 = .ok (.iload_n 1, 1) := by decide +kernel
theorem dX7_clash_17 : decode cX7_clash 17 = .ok (.iload_n 2, 1) := by decide +kernel
theorem dX7_clash_18 : decode cX7_clash 18 = .ok (.if_icmp .ne 10, 3) := by decide +kernel
theorem dX7_clash_21 : decode cX7_clash 21 = .ok (.aload_n 0, 1) := by decide +kernel
theorem dX7_clash_22 : decode cX7_clash 22 = .ok (.bipush (-2), 2) := by decide +kernel
theorem dX7_clash_24 : decode cX7_clash 24 = .ok (.invokevirtual 51, 3) := by decide +kernel
theorem dX7_clash_27 : decode cX7_clash 27 = .ok (.ireturn, 1) := by decide +kernel
theorem dX7_clash_28 : decode cX7_clash 28 = .ok (.aload_n 0, 1) := by decide +kernel
theorem dX7_clash_29 : decode cX7_clash 29 = .ok (.iconst (-1), 1) := by decide +kernel
theorem dX7_clash_30 : decode cX7_clash 30 = .ok (.invokevirtual 108, 3) := by decide +kernel
theorem dX7_clash_33 : decode cX7_clash 33 = .ok (.aload_n 0, 1) := by decide +kernel
theorem dX7_clash_34 : decode cX7_clash 34 = .ok (.iload_n 1, 1) := by decide +kernel
theorem dX7_clash_35 : decode cX7_clash 35 = .ok (.invokevirtual 102, 3) := by decide +kernel
theorem dX7_clash_38 : decode cX7_clash 38 = .ok (.aload_n 0, 1) := by decide +kernel
theorem dX7_clash_39 : decode cX7_clash 39 = .ok (.iload_n 2, 1) := by decide +kernel
theorem dX7_clash_40 : decode cX7_clash 40 = .ok (.invokevirtual 102, 3) := by decide +kernel
theorem dX7_clash_43 : decode cX7_clash 43 = .ok (.aload_n 0, 1) := by decide +kernel
theorem dX7_clash_44 : decode cX7_clash 44 = .ok (.iload_n 2, 1) := by decide +kernel
theorem dX7_clash_45 : decode cX7_clash 45 = .ok (.invokevirtual 105, 3) := by decide +kernel
theorem dX7_clash_48 : decode cX7_clash 48 = .ok (.ior, 1) := by decide +kernel
theorem dX7_clash_49 : decode cX7_clash 49 = .ok (.iand, 1) := by decide +kernel
theorem dX7_clash_50 : decode cX7_clash 50 = .ok (.ifCond .ne 17, 3) := by decide +kernel
theorem dX7_clash_53 : decode cX7_clash 53 = .ok (.aload_n 0, 1) := by decide +kernel
theorem dX7_clash_54 : decode cX7_clash 54 = .ok (.iload_n 2, 1) := by decide +kernel
theorem dX7_clash_55 : decode cX7_clash 55 = .ok (.invokevirtual 102, 3) := by decide +kernel
theorem dX7_clash_58 : decode cX7_clash 58 = .ok (.aload_n 0, 1) := by decide +kernel
theorem dX7_clash_59 : decode cX7_clash 59 = .ok (.iload_n 1, 1) := by decide +kernel
theorem dX7_clash_60 : decode cX7_clash 60 = .ok (.invokevirtual 105, 3) := by decide +kernel
theorem dX7_clash_63 : decode cX7_clash 63 = .ok (.iand, 1) := by decide +kernel
theorem dX7_clash_64 : decode cX7_clash 64 = .ok (.ifCond .eq 7, 3) := by decide +kernel
theorem dX7_clash_67 : decode cX7_clash 67 = .ok (.iconst 1, 1) := by decide +kernel
theorem dX7_clash_68 : decode cX7_clash 68 = .ok (.goto 4, 3) := by decide +kernel
theorem dX7_clash_71 : decode cX7_clash 71 = .ok (.iconst 0, 1) := by decide +kernel
theorem dX7_clash_72 : decode cX7_clash 72 = .ok (.istore_n 3, 1) := by decide +kernel
theorem dX7_clash_73 : decode cX7_clash 73 = .ok (.iload_n 3, 1) := by decide +kernel
theorem dX7_clash_74 : decode cX7_clash 74 = .ok (.ifCond .eq 7, 3) := by decide +kernel
theorem dX7_clash_77 : decode cX7_clash 77 = .ok (.iconst 1, 1) := by decide +kernel
theorem dX7_clash_78 : decode cX7_clash 78 = .ok (.goto 4, 3) := by decide +kernel
theorem dX7_clash_81 : decode cX7_clash 81 = .ok (.iconst 0, 1) := by decide +kernel
theorem dX7_clash_82 : decode cX7_clash 82 = .ok (.ireturn, 1) := by decide +kernel
theorem dX7_fine_0 : decode cX7_fine 0 = .ok (.iload_n 1, 1) := by decide +kernel
theorem dX7_fine_1 : decode cX7_fine 1 = .ok (.invokestatic 55, 3) := by decide +kernel
theorem dX7_fine_4 : decode cX7_fine 4 = .ok (.ifCond .ne 10, 3) := by decide +kernel
theorem dX7_fine_7 : decode cX7_fine 7 = .ok (.aload_n 0, 1) := by decide +kernel
theorem dX7_fine_8 : decode cX7_fine 8 = .ok (.bipush (-2), 2) := by decide +kernel
theorem dX7_fine_10 : decode cX7_fine 10 = .ok (.invokevirtual 51, 3) := by decide +kernel
theorem dX7_fine_13 : decode cX7_fine 13 = .ok (.ireturn, 1) := by decide +kernel
theorem dX7_fine_14 : decode cX7_fine 14 = .ok (.aload_n 0, 1) := by decide +kernel
theorem dX7_fine_15 : decode cX7_fine 15 = .ok (.iconst (-1), 1) := by decide +kernel
theorem dX7_fine_16 : decode cX7_fine 16 = .ok (.invokevirtual 108, 3) := by decide +kernel
theorem dX7_fine_19 : decode cX7_fine 19 = .ok (.aload_n 0, 1) := by decide +kernel
theorem dX7_fine_20 : decode cX7_fine 20 = .ok (.getfield 25, 3) := by decide +kernel
theorem dX7_fine_23 : decode cX7_fine 23 = .ok (.iload_n 1, 1) := by decide +kernel
theorem dX7_fine_24 : decode cX7_fine 24 = .ok (.iaload, 1) := by decide +kernel
theorem dX7_fine_25 : decode cX7_fine 25 = .ok (.ireturn, 1) := by decide +kernel
theorem dX7_coarse_0 : decode cX7_coarse 0 = .ok (.iload_n 1, 1) := by decide +kernel
theorem dX7_coarse_1 : decode cX7_coarse 1 = .ok (.invokestatic 55, 3) := by decide +kernel
theorem dX7_coarse_4 : decode cX7_coarse 4 = .ok (.ifCond .ne 10, 3) := by decide +kernel
theorem dX7_coarse_7 : decode cX7_coarse 7 = .ok (.aload_n 0, 1) := by decide +kernel
theorem dX7_coarse_8 : decode cX7_coarse 8 = .ok (.bipush (-2), 2) := by decide +kernel
theorem dX7_coarse_10 : decode cX7_coarse 10 = .ok (.invokevirtual 51, 3) := by decide +kernel
theorem dX7_coarse_13 : decode cX7_coarse 13 = .ok (.ireturn, 1) := by decide +kernel
theorem dX7_coarse_14 : decode cX7_coarse 14 = .ok (.aload_n 0, 1) := by decide +kernel
theorem dX7_coarse_15 : decode cX7_coarse 15 = .ok (.iconst (-1), 1) := by decide +kernel
theorem dX7_coarse_16 : decode cX7_coarse 16 = .ok (.invokevirtual 115, 3) := by decide +kernel
theorem dX7_coarse_19 : decode cX7_coarse 19 = .ok (.aload_n 0, 1) := by decide +kernel
theorem dX7_coarse_20 : decode cX7_coarse 20 = .ok (.iload_n 1, 1) := by decide +kernel
theorem dX7_coarse_21 : decode cX7_coarse 21 = .ok (.invokevirtual 118, 3) := by decide +kernel
theorem dX7_coarse_24 : decode cX7_coarse 24 = .ok (.ireturn, 1) := by decide +kernel
theorem dX7_group_0 : decode cX7_group 0 = .ok (.iload_n 1, 1) := by decide +kernel
theorem dX7_group_1 : decode cX7_group 1 = .ok (.invokestatic 55, 3) := by decide +kernel
theorem dX7_group_4 : decode cX7_group 4 = .ok (.ifCond .eq 12, 3) := by decide +kernel
theorem dX7_group_7 : decode cX7_group 7 = .ok (.iload_n 2, 1) := by decide +kernel
theorem dX7_group_8 : decode cX7_group 8 = .ok (.iconst 0, 1) := by decide +kernel
theorem dX7_group_9 : decode cX7_group 9 = .ok (.iconst 2, 1) := by decide +kernel
theorem dX7_group_10 : decode cX7_group 10 = .ok (.invokestatic 43, 3) := by decide +kernel
theorem dX7_group_13 : decode cX7_group 13 = .ok (.ifCond .ne 10, 3) := by decide +kernel
theorem dX7_group_16 : decode cX7_group 16 = .ok (.aload_n 0, 1) := by decide +kernel
theorem dX7_group_17 : decode cX7_group 17 = .ok (.bipush (-2), 2) := by decide +kernel
theorem dX7_group_19 : decode cX7_group 19 = .ok (.invokevirtual 51, 3) := by decide +kernel
theorem dX7_group_22 : decode cX7_group 22 = .ok (.ireturn, 1) := by decide +kernel
theorem dX7_group_23 : decode cX7_group 23 = .ok (.aload_n 0, 1) := by decide +kernel
theorem dX7_group_24 : decode cX7_group 24 = .ok (.iconst (-1), 1) := by decide +kernel
theorem dX7_group_25 : decode cX7_group 25 = .ok (.invokevirtual 115, 3) := by decide +kernel
theorem dX7_group_28 : decode cX7_group 28 = .ok (.iload_n 2, 1) := by decide +kernel
theorem dX7_group_29 : decode cX7_group 29 = .ok (.ifCond .ne 16, 3) := by decide +kernel
theorem dX7_group_32 : decode cX7_group 32 = .ok (.aload_n 0, 1) := by decide +kernel
theorem dX7_group_33 : decode cX7_group 33 = .ok (.aload_n 0, 1) := by decide +kernel
theorem dX7_group_34 : decode cX7_group 34 = .ok (.getfield 28, 3) := by decide +kernel
theorem dX7_group_37 : decode cX7_group 37 = .ok (.iload_n 1, 1) := by decide +kernel
theorem dX7_group_38 : decode cX7_group 38 = .ok (.iaload, 1) := by decide +kernel
theorem dX7_group_39 : decode cX7_group 39 = .ok (.invokevirtual 99, 3) := by decide +kernel
theorem dX7_group_42 : decode cX7_group 42 = .ok (.goto 28, 3) := by decide +kernel
theorem dX7_group_45 : decode cX7_group 45 = .ok (.iload_n 2, 1) := by decide +kernel
theorem dX7_group_46 : decode cX7_group 46 = .ok (.iconst 1, 1) := by decide +kernel
theorem dX7_group_47 : decode cX7_group 47 = .ok (.if_icmp .ne 12, 3) := by decide +kernel
theorem dX7_group_50 : decode cX7_group 50 = .ok (.aload_n 0, 1) := by decide +kernel
theorem dX7_group_51 : decode cX7_group 51 = .ok (.getfield 28, 3) := by decide +kernel
theorem dX7_group_54 : decode cX7_group 54 = .ok (.iload_n 1, 1) := by decide +kernel
theorem dX7_group_55 : decode cX7_group 55 = .ok (.iaload, 1) := by decide +kernel
theorem dX7_group_56 : decode cX7_group 56 = .ok (.goto 14, 3) := by decide +kernel
theorem dX7_group_59 : decode cX7_group 59 = .ok (.aload_n 0, 1) := by decide +kernel
theorem dX7_group_60 : decode cX7_group 60 = .ok (.getfield 31, 3) := by decide +kernel
theorem dX7_group_63 : decode cX7_group 63 = .ok (.aload_n 0, 1) := by decide +kernel
theorem dX7_group_64 : decode cX7_group 64 = .ok (.getfield 28, 3) := by decide +kernel
theorem dX7_group_67 : decode cX7_group 67 = .ok (.iload_n 1, 1) := by decide +kernel
theorem dX7_group_68 : decode cX7_group 68 = .ok (.iaload, 1) := by decide +kernel
theorem dX7_group_69 : decode cX7_group 69 = .ok (.iaload, 1) := by decide +kernel
theorem dX7_group_70 : decode cX7_group 70 = .ok (.ireturn, 1) := by decide +kernel
theorem dX7_countOf_0 : decode cX7_countOf 0 = .ok (.aload_n 0, 1) := by decide +kernel
theorem dX7_countOf_1 : decode cX7_countOf 1 = .ok (.iconst (-1), 1) := by decide +kernel
theorem dX7_countOf_2 : decode cX7_countOf 2 = .ok (.invokevirtual 108, 3) := by decide +kernel
theorem dX7_countOf_5 : decode cX7_countOf 5 = .ok (.aload_n 0, 1) := by decide +kernel
theorem dX7_countOf_6 : decode cX7_countOf 6 = .ok (.iconst (-1), 1) := by decide +kernel
theorem dX7_countOf_7 : decode cX7_countOf 7 = .ok (.invokevirtual 115, 3) := by decide +kernel
theorem dX7_countOf_10 : decode cX7_countOf 10 = .ok (.iconst 0, 1) := by decide +kernel
theorem dX7_countOf_11 : decode cX7_countOf 11 = .ok (.istore_n 2, 1) := by decide +kernel
theorem dX7_countOf_12 : decode cX7_countOf 12 = .ok (.iconst 0, 1) := by decide +kernel
theorem dX7_countOf_13 : decode cX7_countOf 13 = .ok (.istore_n 3, 1) := by decide +kernel
theorem dX7_countOf_14 : decode cX7_countOf 14 = .ok (.iload_n 3, 1) := by decide +kernel
theorem dX7_countOf_15 : decode cX7_countOf 15 = .ok (.bipush 10, 2) := by decide +kernel
theorem dX7_countOf_17 : decode cX7_countOf 17 = .ok (.if_icmp .ge 151, 3) := by decide +kernel
theorem dX7_countOf_20 : decode cX7_countOf 20 = .ok (.aload_n 0, 1) := by decide +kernel
theorem dX7_countOf_21 : decode cX7_countOf 21 = .ok (.getfield 28, 3) := by decide +kernel
theorem dX7_countOf_24 : decode cX7_countOf 24 = .ok (.iload_n 3, 1) := by decide +kernel
theorem dX7_countOf_25 : decode cX7_countOf 25 = .ok (.iaload, 1) := by decide +kernel
theorem dX7_countOf_26 : decode cX7_countOf 26 = .ok (.iload_n 3, 1) := by decide +kernel
theorem dX7_countOf_27 : decode cX7_countOf 27 = .ok (.if_icmp .ne 7, 3) := by decide +kernel
theorem dX7_countOf_30 : decode cX7_countOf 30 = .ok (.iconst 1, 1) := by decide +kernel
theorem dX7_countOf_31 : decode cX7_countOf 31 = .ok (.goto 4, 3) := by decide +kernel
theorem dX7_countOf_34 : decode cX7_countOf 34 = .ok (.iconst 0, 1) := by decide +kernel
theorem dX7_countOf_35 : decode cX7_countOf 35 = .ok (.istore 4, 2) := by decide +kernel
theorem dX7_countOf_37 : decode cX7_countOf 37 = .ok (.iload_n 1, 1) := by decide +kernel
theorem dX7_countOf_38 : decode cX7_countOf 38 = .ok (.tableswitch 113 0 3 #[30, 46, 72, 98], 30) := by decide +kernel
theorem dX7_countOf_68 : decode cX7_countOf 68 = .ok (.iload_n 2, 1) := by decide +kernel
theorem dX7_countOf_69 : decode cX7_countOf 69 = .ok (.iload 4, 2) := by decide +kernel
theorem dX7_countOf_71 : decode cX7_countOf 71 = .ok (.ifCond .eq 7, 3) := by decide +kernel
theorem dX7_countOf_74 : decode cX7_countOf 74 = .ok (.iconst 1, 1) := by decide +kernel
theorem dX7_countOf_75 : decode cX7_countOf 75 = .ok (.goto 4, 3) := by decide +kernel
theorem dX7_countOf_78 : decode cX7_countOf 78 = .ok (.iconst 0, 1) := by decide +kernel
theorem dX7_countOf_79 : decode cX7_countOf 79 = .ok (.iadd, 1) := by decide +kernel
theorem dX7_countOf_80 : decode cX7_countOf 80 = .ok (.istore_n 2, 1) := by decide +kernel
theorem dX7_countOf_81 : decode cX7_countOf 81 = .ok (.goto 81, 3) := by decide +kernel
theorem dX7_countOf_84 : decode cX7_countOf 84 = .ok (.iload_n 2, 1) := by decide +kernel
theorem dX7_countOf_85 : decode cX7_countOf 85 = .ok (.iload 4, 2) := by decide +kernel
theorem dX7_countOf_87 : decode cX7_countOf 87 = .ok (.ifCond .eq 17, 3) := by decide +kernel
theorem dX7_countOf_90 : decode cX7_countOf 90 = .ok (.aload_n 0, 1) := by decide +kernel
theorem dX7_countOf_91 : decode cX7_countOf 91 = .ok (.getfield 31, 3) := by decide +kernel
theorem dX7_countOf_94 : decode cX7_countOf 94 = .ok (.iload_n 3, 1) := by decide +kernel
theorem dX7_countOf_95 : decode cX7_countOf 95 = .ok (.iaload, 1) := by decide +kernel
theorem dX7_countOf_96 : decode cX7_countOf 96 = .ok (.iconst (-1), 1) := by decide +kernel
theorem dX7_countOf_97 : decode cX7_countOf 97 = .ok (.if_icmp .eq 7, 3) := by decide +kernel
theorem dX7_countOf_100 : decode cX7_countOf 100 = .ok (.iconst 1, 1) := by decide +kernel
theorem dX7_countOf_101 : decode cX7_countOf 101 = .ok (.goto 4, 3) := by decide +kernel
theorem dX7_countOf_104 : decode cX7_countOf 104 = .ok (.iconst 0, 1) := by decide +kernel
theorem dX7_countOf_105 : decode cX7_countOf 105 = .ok (.iadd, 1) := by decide +kernel
theorem dX7_countOf_106 : decode cX7_countOf 106 = .ok (.istore_n 2, 1) := by decide +kernel
theorem dX7_countOf_107 : decode cX7_countOf 107 = .ok (.goto 55, 3) := by decide +kernel
theorem dX7_countOf_110 : decode cX7_countOf 110 = .ok (.iload_n 2, 1) := by decide +kernel
theorem dX7_countOf_111 : decode cX7_countOf 111 = .ok (.iload 4, 2) := by decide +kernel
theorem dX7_countOf_113 : decode cX7_countOf 113 = .ok (.ifCond .eq 17, 3) := by decide +kernel
theorem dX7_countOf_116 : decode cX7_countOf 116 = .ok (.aload_n 0, 1) := by decide +kernel
theorem dX7_countOf_117 : decode cX7_countOf 117 = .ok (.getfield 31, 3) := by decide +kernel
theorem dX7_countOf_120 : decode cX7_countOf 120 = .ok (.iload_n 3, 1) := by decide +kernel
theorem dX7_countOf_121 : decode cX7_countOf 121 = .ok (.iaload, 1) := by decide +kernel
theorem dX7_countOf_122 : decode cX7_countOf 122 = .ok (.iload_n 3, 1) := by decide +kernel
theorem dX7_countOf_123 : decode cX7_countOf 123 = .ok (.if_icmp .ne 7, 3) := by decide +kernel
theorem dX7_countOf_126 : decode cX7_countOf 126 = .ok (.iconst 1, 1) := by decide +kernel
theorem dX7_countOf_127 : decode cX7_countOf 127 = .ok (.goto 4, 3) := by decide +kernel
theorem dX7_countOf_130 : decode cX7_countOf 130 = .ok (.iconst 0, 1) := by decide +kernel
theorem dX7_countOf_131 : decode cX7_countOf 131 = .ok (.iadd, 1) := by decide +kernel
theorem dX7_countOf_132 : decode cX7_countOf 132 = .ok (.istore_n 2, 1) := by decide +kernel
theorem dX7_countOf_133 : decode cX7_countOf 133 = .ok (.goto 29, 3) := by decide +kernel
theorem dX7_countOf_136 : decode cX7_countOf 136 = .ok (.iload_n 2, 1) := by decide +kernel
theorem dX7_countOf_137 : decode cX7_countOf 137 = .ok (.aload_n 0, 1) := by decide +kernel
theorem dX7_countOf_138 : decode cX7_countOf 138 = .ok (.getfield 25, 3) := by decide +kernel
theorem dX7_countOf_141 : decode cX7_countOf 141 = .ok (.iload_n 3, 1) := by decide +kernel
theorem dX7_countOf_142 : decode cX7_countOf 142 = .ok (.iaload, 1) := by decide +kernel
theorem dX7_countOf_143 : decode cX7_countOf 143 = .ok (.invokestatic 121, 3) := by decide +kernel
theorem dX7_countOf_146 : decode cX7_countOf 146 = .ok (.iadd, 1) := by decide +kernel
theorem dX7_countOf_147 : decode cX7_countOf 147 = .ok (.istore_n 2, 1) := by decide +kernel
theorem dX7_countOf_148 : decode cX7_countOf 148 = .ok (.goto 14, 3) := by decide +kernel
theorem dX7_countOf_151 : decode cX7_countOf 151 = .ok (.iload_n 2, 1) := by decide +kernel
theorem dX7_countOf_152 : decode cX7_countOf 152 = .ok (.aload_n 0, 1) := by decide +kernel
theorem dX7_countOf_153 : decode cX7_countOf 153 = .ok (.iload_n 3, 1) := by decide +kernel
theorem dX7_countOf_154 : decode cX7_countOf 154 = .ok (.invokevirtual 118, 3) := by decide +kernel
theorem dX7_countOf_157 : decode cX7_countOf 157 = .ok (.invokestatic 121, 3) := by decide +kernel
theorem dX7_countOf_160 : decode cX7_countOf 160 = .ok (.iadd, 1) := by decide +kernel
theorem dX7_countOf_161 : decode cX7_countOf 161 = .ok (.istore_n 2, 1) := by decide +kernel
theorem dX7_countOf_162 : decode cX7_countOf 162 = .ok (.iinc 3 1, 3) := by decide +kernel
theorem dX7_countOf_165 : decode cX7_countOf 165 = .ok (.goto (-151), 3) := by decide +kernel
theorem dX7_countOf_168 : decode cX7_countOf 168 = .ok (.iload_n 2, 1) := by decide +kernel
theorem dX7_countOf_169 : decode cX7_countOf 169 = .ok (.ireturn, 1) := by decide +kernel
theorem dX7_count_0 : decode cX7_count 0 = .ok (.iload_n 1, 1) := by decide +kernel
theorem dX7_count_1 : decode cX7_count 1 = .ok (.iconst 0, 1) := by decide +kernel
theorem dX7_count_2 : decode cX7_count 2 = .ok (.iconst 4, 1) := by decide +kernel
theorem dX7_count_3 : decode cX7_count 3 = .ok (.invokestatic 43, 3) := by decide +kernel
theorem dX7_count_6 : decode cX7_count 6 = .ok (.ifCond .eq 11, 3) := by decide +kernel
theorem dX7_count_9 : decode cX7_count 9 = .ok (.aload_n 0, 1) := by decide +kernel
theorem dX7_count_10 : decode cX7_count 10 = .ok (.iload_n 1, 1) := by decide +kernel
theorem dX7_count_11 : decode cX7_count 11 = .ok (.invokevirtual 124, 3) := by decide +kernel
theorem dX7_count_14 : decode cX7_count 14 = .ok (.goto 9, 3) := by decide +kernel
theorem dX7_count_17 : decode cX7_count 17 = .ok (.aload_n 0, 1) := by decide +kernel
theorem dX7_count_18 : decode cX7_count 18 = .ok (.bipush (-2), 2) := by decide +kernel
theorem dX7_count_20 : decode cX7_count 20 = .ok (.invokevirtual 51, 3) := by decide +kernel
theorem dX7_count_23 : decode cX7_count 23 = .ok (.ireturn, 1) := by decide +kernel
theorem dX7_alias_0 : decode cX7_alias 0 = .ok (.iload_n 1, 1) := by decide +kernel
theorem dX7_alias_1 : decode cX7_alias 1 = .ok (.invokestatic 55, 3) := by decide +kernel
theorem dX7_alias_4 : decode cX7_alias 4 = .ok (.ifCond .eq 19, 3) := by decide +kernel
theorem dX7_alias_7 : decode cX7_alias 7 = .ok (.iload_n 2, 1) := by decide +kernel
theorem dX7_alias_8 : decode cX7_alias 8 = .ok (.invokestatic 55, 3) := by decide +kernel
theorem dX7_alias_11 : decode cX7_alias 11 = .ok (.ifCond .eq 12, 3) := by decide +kernel
theorem dX7_alias_14 : decode cX7_alias 14 = .ok (.iload_n 3, 1) := by decide +kernel
theorem dX7_alias_15 : decode cX7_alias 15 = .ok (.iconst 0, 1) := by decide +kernel
theorem dX7_alias_16 : decode cX7_alias 16 = .ok (.iconst 1, 1) := by decide +kernel
theorem dX7_alias_17 : decode cX7_alias 17 = .ok (.invokestatic 43, 3) := by decide +kernel
theorem dX7_alias_20 : decode cX7_alias 20 = .ok (.ifCond .ne 10, 3) := by decide +kernel
theorem dX7_alias_23 : decode cX7_alias 23 = .ok (.aload_n 0, 1) := by decide +kernel
theorem dX7_alias_24 : decode cX7_alias 24 = .ok (.bipush (-2), 2) := by decide +kernel
theorem dX7_alias_26 : decode cX7_alias 26 = .ok (.invokevirtual 51, 3) := by decide +kernel
theorem dX7_alias_29 : decode cX7_alias 29 = .ok (.ireturn, 1) := by decide +kernel
theorem dX7_alias_30 : decode cX7_alias 30 = .ok (.aload_n 0, 1) := by decide +kernel
theorem dX7_alias_31 : decode cX7_alias 31 = .ok (.iconst (-1), 1) := by decide +kernel
theorem dX7_alias_32 : decode cX7_alias 32 = .ok (.invokevirtual 108, 3) := by decide +kernel
theorem dX7_alias_35 : decode cX7_alias 35 = .ok (.aload_n 0, 1) := by decide +kernel
theorem dX7_alias_36 : decode cX7_alias 36 = .ok (.iconst (-1), 1) := by decide +kernel
theorem dX7_alias_37 : decode cX7_alias 37 = .ok (.invokevirtual 115, 3) := by decide +kernel
theorem dX7_alias_40 : decode cX7_alias 40 = .ok (.iload_n 3, 1) := by decide +kernel
theorem dX7_alias_41 : decode cX7_alias 41 = .ok (.ifCond .ne 19, 3) := by decide +kernel
theorem dX7_alias_44 : decode cX7_alias 44 = .ok (.aload_n 0, 1) := by decide +kernel
theorem dX7_alias_45 : decode cX7_alias 45 = .ok (.getfield 25, 3) := by decide +kernel
theorem dX7_alias_48 : decode cX7_alias 48 = .ok (.iload_n 1, 1) := by decide +kernel
theorem dX7_alias_49 : decode cX7_alias 49 = .ok (.iaload, 1) := by decide +kernel
theorem dX7_alias_50 : decode cX7_alias 50 = .ok (.aload_n 0, 1) := by decide +kernel
theorem dX7_alias_51 : decode cX7_alias 51 = .ok (.getfield 25, 3) := by decide +kernel
theorem dX7_alias_54 : decode cX7_alias 54 = .ok (.iload_n 2, 1) := by decide +kernel
theorem dX7_alias_55 : decode cX7_alias 55 = .ok (.iaload, 1) := by decide +kernel
theorem dX7_alias_56 : decode cX7_alias 56 = .ok (.iand, 1) := by decide +kernel
theorem dX7_alias_57 : decode cX7_alias 57 = .ok (.goto 14, 3) := by decide +kernel
theorem dX7_alias_60 : decode cX7_alias 60 = .ok (.aload_n 0, 1) := by decide +kernel
theorem dX7_alias_61 : decode cX7_alias 61 = .ok (.iload_n 1, 1) := by decide +kernel
theorem dX7_alias_62 : decode cX7_alias 62 = .ok (.invokevirtual 118, 3) := by decide +kernel
theorem dX7_alias_65 : decode cX7_alias 65 = .ok (.aload_n 0, 1) := by decide +kernel
theorem dX7_alias_66 : decode cX7_alias 66 = .ok (.iload_n 2, 1) := by decide +kernel
theorem dX7_alias_67 : decode cX7_alias 67 = .ok (.invokevirtual 118, 3) := by decide +kernel
theorem dX7_alias_70 : decode cX7_alias 70 = .ok (.iand, 1) := by decide +kernel
theorem dX7_alias_71 : decode cX7_alias 71 = .ok (.istore 4, 2) := by decide +kernel
theorem dX7_alias_73 : decode cX7_alias 73 = .ok (.iload 4, 2) := by decide +kernel
theorem dX7_alias_75 : decode cX7_alias 75 = .ok (.ifCond .eq 7, 3) := by decide +kernel
theorem dX7_alias_78 : decode cX7_alias 78 = .ok (.iconst 1, 1) := by decide +kernel
theorem dX7_alias_79 : decode cX7_alias 79 = .ok (.goto 4, 3) := by decide +kernel
theorem dX7_alias_82 : decode cX7_alias 82 = .ok (.iconst 0, 1) := by decide +kernel
theorem dX7_alias_83 : decode cX7_alias 83 = .ok (.ireturn, 1) := by decide +kernel
theorem dX7_without_0 : decode cX7_without 0 = .ok (.aload_n 0, 1) := by decide +kernel
theorem dX7_without_1 : decode cX7_without 1 = .ok (.iload_n 1, 1) := by decide +kernel
theorem dX7_without_2 : decode cX7_without 2 = .ok (.invokevirtual 62, 3) := by decide +kernel
theorem dX7_without_5 : decode cX7_without 5 = .ok (.ifCond .eq 19, 3) := by decide +kernel
theorem dX7_without_8 : decode cX7_without 8 = .ok (.iload_n 2, 1) := by decide +kernel
theorem dX7_without_9 : decode cX7_without 9 = .ok (.invokestatic 55, 3) := by decide +kernel
theorem dX7_without_12 : decode cX7_without 12 = .ok (.ifCond .eq 12, 3) := by decide +kernel
theorem dX7_without_15 : decode cX7_without 15 = .ok (.iload_n 3, 1) := by decide +kernel
theorem dX7_without_16 : decode cX7_without 16 = .ok (.iconst 0, 1) := by decide +kernel
theorem dX7_without_17 : decode cX7_without 17 = .ok (.iconst 1, 1) := by decide +kernel
theorem dX7_without_18 : decode cX7_without 18 = .ok (.invokestatic 43, 3) := by decide +kernel
theorem dX7_without_21 : decode cX7_without 21 = .ok (.ifCond .ne 10, 3) := by decide +kernel
theorem dX7_without_24 : decode cX7_without 24 = .ok (.aload_n 0, 1) := by decide +kernel
theorem dX7_without_25 : decode cX7_without 25 = .ok (.bipush (-2), 2) := by decide +kernel
theorem dX7_without_27 : decode cX7_without 27 = .ok (.invokevirtual 51, 3) := by decide +kernel
theorem dX7_without_30 : decode cX7_without 30 = .ok (.ireturn, 1) := by decide +kernel
theorem dX7_without_31 : decode cX7_without 31 = .ok (.aload_n 0, 1) := by decide +kernel
theorem dX7_without_32 : decode cX7_without 32 = .ok (.iconst (-1), 1) := by decide +kernel
theorem dX7_without_33 : decode cX7_without 33 = .ok (.invokevirtual 108, 3) := by decide +kernel
theorem dX7_without_36 : decode cX7_without 36 = .ok (.aload_n 0, 1) := by decide +kernel
theorem dX7_without_37 : decode cX7_without 37 = .ok (.iconst (-1), 1) := by decide +kernel
theorem dX7_without_38 : decode cX7_without 38 = .ok (.invokevirtual 115, 3) := by decide +kernel
theorem dX7_without_41 : decode cX7_without 41 = .ok (.iload_n 3, 1) := by decide +kernel
theorem dX7_without_42 : decode cX7_without 42 = .ok (.ifCond .ne 15, 3) := by decide +kernel
theorem dX7_without_45 : decode cX7_without 45 = .ok (.aload_n 0, 1) := by decide +kernel
theorem dX7_without_46 : decode cX7_without 46 = .ok (.getfield 25, 3) := by decide +kernel
theorem dX7_without_49 : decode cX7_without 49 = .ok (.iload_n 2, 1) := by decide +kernel
theorem dX7_without_50 : decode cX7_without 50 = .ok (.iaload, 1) := by decide +kernel
theorem dX7_without_51 : decode cX7_without 51 = .ok (.invokestatic 121, 3) := by decide +kernel
theorem dX7_without_54 : decode cX7_without 54 = .ok (.goto 11, 3) := by decide +kernel
theorem dX7_without_57 : decode cX7_without 57 = .ok (.aload_n 0, 1) := by decide +kernel
theorem dX7_without_58 : decode cX7_without 58 = .ok (.iload_n 2, 1) := by decide +kernel
theorem dX7_without_59 : decode cX7_without 59 = .ok (.invokevirtual 118, 3) := by decide +kernel
theorem dX7_without_62 : decode cX7_without 62 = .ok (.invokestatic 121, 3) := by decide +kernel
theorem dX7_without_65 : decode cX7_without 65 = .ok (.istore 4, 2) := by decide +kernel
theorem dX7_without_67 : decode cX7_without 67 = .ok (.aload_n 0, 1) := by decide +kernel
theorem dX7_without_68 : decode cX7_without 68 = .ok (.iload_n 1, 1) := by decide +kernel
theorem dX7_without_69 : decode cX7_without 69 = .ok (.invokevirtual 108, 3) := by decide +kernel
theorem dX7_without_72 : decode cX7_without 72 = .ok (.aload_n 0, 1) := by decide +kernel
theorem dX7_without_73 : decode cX7_without 73 = .ok (.iload_n 1, 1) := by decide +kernel
theorem dX7_without_74 : decode cX7_without 74 = .ok (.invokevirtual 115, 3) := by decide +kernel
theorem dX7_without_77 : decode cX7_without 77 = .ok (.iload 4, 2) := by decide +kernel
theorem dX7_without_79 : decode cX7_without 79 = .ok (.iload_n 3, 1) := by decide +kernel
theorem dX7_without_80 : decode cX7_without 80 = .ok (.ifCond .ne 15, 3) := by decide +kernel
theorem dX7_without_83 : decode cX7_without 83 = .ok (.aload_n 0, 1) := by decide +kernel
theorem dX7_without_84 : decode cX7_without 84 = .ok (.getfield 25, 3) := by decide +kernel
theorem dX7_without_87 : decode cX7_without 87 = .ok (.iload_n 2, 1) := by decide +kernel
theorem dX7_without_88 : decode cX7_without 88 = .ok (.iaload, 1) := by decide +kernel
theorem dX7_without_89 : decode cX7_without 89 = .ok (.invokestatic 121, 3) := by decide +kernel
theorem dX7_without_92 : decode cX7_without 92 = .ok (.goto 11, 3) := by decide +kernel
theorem dX7_without_95 : decode cX7_without 95 = .ok (.aload_n 0, 1) := by decide +kernel
theorem dX7_without_96 : decode cX7_without 96 = .ok (.iload_n 2, 1) := by decide +kernel
theorem dX7_without_97 : decode cX7_without 97 = .ok (.invokevirtual 118, 3) := by decide +kernel
theorem dX7_without_100 : decode cX7_without 100 = .ok (.invokestatic 121, 3) := by decide +kernel
theorem dX7_without_103 : decode cX7_without 103 = .ok (.isub, 1) := by decide +kernel
theorem dX7_without_104 : decode cX7_without 104 = .ok (.ireturn, 1) := by decide +kernel
theorem dX7_does_0 : decode cX7_does 0 = .ok (.aload_n 0, 1) := by decide +kernel
theorem dX7_does_1 : decode cX7_does 1 = .ok (.iload_n 1, 1) := by decide +kernel
theorem dX7_does_2 : decode cX7_does 2 = .ok (.invokevirtual 69, 3) := by decide +kernel
theorem dX7_does_5 : decode cX7_does 5 = .ok (.istore_n 2, 1) := by decide +kernel
theorem dX7_does_6 : decode cX7_does 6 = .ok (.aload_n 0, 1) := by decide +kernel
theorem dX7_does_7 : decode cX7_does 7 = .ok (.iload_n 1, 1) := by decide +kernel
theorem dX7_does_8 : decode cX7_does 8 = .ok (.invokevirtual 72, 3) := by decide +kernel
theorem dX7_does_11 : decode cX7_does 11 = .ok (.istore_n 3, 1) := by decide +kernel
theorem dX7_does_12 : decode cX7_does 12 = .ok (.aload_n 0, 1) := by decide +kernel
theorem dX7_does_13 : decode cX7_does 13 = .ok (.iload_n 1, 1) := by decide +kernel
theorem dX7_does_14 : decode cX7_does 14 = .ok (.invokevirtual 75, 3) := by decide +kernel
theorem dX7_does_17 : decode cX7_does 17 = .ok (.tableswitch 115 0 2 #[27, 37, 52], 27) := by decide +kernel
theorem dX7_does_44 : decode cX7_does 44 = .ok (.aload_n 0, 1) := by decide +kernel
theorem dX7_does_45 : decode cX7_does 45 = .ok (.getfield 34, 3) := by decide +kernel
theorem dX7_does_48 : decode cX7_does 48 = .ok (.iload_n 2, 1) := by decide +kernel
theorem dX7_does_49 : decode cX7_does 49 = .ok (.iload_n 3, 1) := by decide +kernel
theorem dX7_does_50 : decode cX7_does 50 = .ok (.iastore, 1) := by decide +kernel
theorem dX7_does_51 : decode cX7_does 51 = .ok (.goto 121, 3) := by decide +kernel
theorem dX7_does_54 : decode cX7_does 54 = .ok (.aload_n 0, 1) := by decide +kernel
theorem dX7_does_55 : decode cX7_does 55 = .ok (.getfield 34, 3) := by decide +kernel
theorem dX7_does_58 : decode cX7_does 58 = .ok (.iload_n 2, 1) := by decide +kernel
theorem dX7_does_59 : decode cX7_does 59 = .ok (.aload_n 0, 1) := by decide +kernel
theorem dX7_does_60 : decode cX7_does 60 = .ok (.getfield 34, 3) := by decide +kernel
theorem dX7_does_63 : decode cX7_does 63 = .ok (.iload_n 3, 1) := by decide +kernel
theorem dX7_does_64 : decode cX7_does 64 = .ok (.iaload, 1) := by decide +kernel
theorem dX7_does_65 : decode cX7_does 65 = .ok (.iastore, 1) := by decide +kernel
theorem dX7_does_66 : decode cX7_does 66 = .ok (.goto 106, 3) := by decide +kernel
theorem dX7_does_69 : decode cX7_does 69 = .ok (.aload_n 0, 1) := by decide +kernel
theorem dX7_does_70 : decode cX7_does 70 = .ok (.dup, 1) := by decide +kernel
theorem dX7_does_71 : decode cX7_does 71 = .ok (.getfield 127, 3) := by decide +kernel
theorem dX7_does_74 : decode cX7_does 74 = .ok (.aload_n 0, 1) := by decide +kernel
theorem dX7_does_75 : decode cX7_does 75 = .ok (.getfield 34, 3) := by decide +kernel
theorem dX7_does_78 : decode cX7_does 78 = .ok (.iload_n 3, 1) := by decide +kernel
theorem dX7_does_79 : decode cX7_does 79 = .ok (.iaload, 1) := by decide +kernel
theorem dX7_does_80 : decode cX7_does 80 = .ok (.iconst (-1), 1) := by decide +kernel
theorem dX7_does_81 : decode cX7_does 81 = .ok (.if_icmp .ne 7, 3) := by decide +kernel
theorem dX7_does_84 : decode cX7_does 84 = .ok (.iconst 1, 1) := by decide +kernel
theorem dX7_does_85 : decode cX7_does 85 = .ok (.goto 4, 3) := by decide +kernel
theorem dX7_does_88 : decode cX7_does 88 = .ok (.iconst 0, 1) := by decide +kernel
theorem dX7_does_89 : decode cX7_does 89 = .ok (.iadd, 1) := by decide +kernel
theorem dX7_does_90 : decode cX7_does 90 = .ok (.putfield 127, 3) := by decide +kernel
theorem dX7_does_93 : decode cX7_does 93 = .ok (.aload_n 0, 1) := by decide +kernel
theorem dX7_does_94 : decode cX7_does 94 = .ok (.getfield 34, 3) := by decide +kernel
theorem dX7_does_97 : decode cX7_does 97 = .ok (.iload_n 2, 1) := by decide +kernel
theorem dX7_does_98 : decode cX7_does 98 = .ok (.aload_n 0, 1) := by decide +kernel
theorem dX7_does_99 : decode cX7_does 99 = .ok (.getfield 34, 3) := by decide +kernel
theorem dX7_does_102 : decode cX7_does 102 = .ok (.iload_n 3, 1) := by decide +kernel
theorem dX7_does_103 : decode cX7_does 103 = .ok (.iaload, 1) := by decide +kernel
theorem dX7_does_104 : decode cX7_does 104 = .ok (.iconst (-1), 1) := by decide +kernel
theorem dX7_does_105 : decode cX7_does 105 = .ok (.if_icmp .ne 12, 3) := by decide +kernel
theorem dX7_does_108 : decode cX7_does 108 = .ok (.aload_n 0, 1) := by decide +kernel
theorem dX7_does_109 : decode cX7_does 109 = .ok (.getfield 34, 3) := by decide +kernel
theorem dX7_does_112 : decode cX7_does 112 = .ok (.iload_n 2, 1) := by decide +kernel
theorem dX7_does_113 : decode cX7_does 113 = .ok (.iaload, 1) := by decide +kernel
theorem dX7_does_114 : decode cX7_does 114 = .ok (.goto 14, 3) := by decide +kernel
theorem dX7_does_117 : decode cX7_does 117 = .ok (.aload_n 0, 1) := by decide +kernel
theorem dX7_does_118 : decode cX7_does 118 = .ok (.getfield 34, 3) := by decide +kernel
theorem dX7_does_121 : decode cX7_does 121 = .ok (.aload_n 0, 1) := by decide +kernel
theorem dX7_does_122 : decode cX7_does 122 = .ok (.getfield 34, 3) := by decide +kernel
theorem dX7_does_125 : decode cX7_does 125 = .ok (.iload_n 3, 1) := by decide +kernel
theorem dX7_does_126 : decode cX7_does 126 = .ok (.iaload, 1) := by decide +kernel
theorem dX7_does_127 : decode cX7_does 127 = .ok (.iaload, 1) := by decide +kernel
theorem dX7_does_128 : decode cX7_does 128 = .ok (.iastore, 1) := by decide +kernel
theorem dX7_does_129 : decode cX7_does 129 = .ok (.goto 43, 3) := by decide +kernel
theorem dX7_does_132 : decode cX7_does 132 = .ok (.aload_n 0, 1) := by decide +kernel
theorem dX7_does_133 : decode cX7_does 133 = .ok (.getfield 34, 3) := by decide +kernel
theorem dX7_does_136 : decode cX7_does 136 = .ok (.iload_n 2, 1) := by decide +kernel
theorem dX7_does_137 : decode cX7_does 137 = .ok (.iaload, 1) := by decide +kernel
theorem dX7_does_138 : decode cX7_does 138 = .ok (.iconst (-1), 1) := by decide +kernel
theorem dX7_does_139 : decode cX7_does 139 = .ok (.if_icmp .ne 16, 3) := by decide +kernel
theorem dX7_does_142 : decode cX7_does 142 = .ok (.aload_n 0, 1) := by decide +kernel
theorem dX7_does_143 : decode cX7_does 143 = .ok (.dup, 1) := by decide +kernel
theorem dX7_does_144 : decode cX7_does 144 = .ok (.getfield 127, 3) := by decide +kernel
theorem dX7_does_147 : decode cX7_does 147 = .ok (.iconst 1, 1) := by decide +kernel
theorem dX7_does_148 : decode cX7_does 148 = .ok (.iadd, 1) := by decide +kernel
theorem dX7_does_149 : decode cX7_does 149 = .ok (.putfield 127, 3) := by decide +kernel
theorem dX7_does_152 : decode cX7_does 152 = .ok (.goto 20, 3) := by decide +kernel
theorem dX7_does_155 : decode cX7_does 155 = .ok (.aload_n 0, 1) := by decide +kernel
theorem dX7_does_156 : decode cX7_does 156 = .ok (.getfield 34, 3) := by decide +kernel
theorem dX7_does_159 : decode cX7_does 159 = .ok (.aload_n 0, 1) := by decide +kernel
theorem dX7_does_160 : decode cX7_does 160 = .ok (.getfield 34, 3) := by decide +kernel
theorem dX7_does_163 : decode cX7_does 163 = .ok (.iload_n 2, 1) := by decide +kernel
theorem dX7_does_164 : decode cX7_does 164 = .ok (.iaload, 1) := by decide +kernel
theorem dX7_does_165 : decode cX7_does 165 = .ok (.aload_n 0, 1) := by decide +kernel
theorem dX7_does_166 : decode cX7_does 166 = .ok (.getfield 34, 3) := by decide +kernel
theorem dX7_does_169 : decode cX7_does 169 = .ok (.iload_n 3, 1) := by decide +kernel
theorem dX7_does_170 : decode cX7_does 170 = .ok (.iaload, 1) := by decide +kernel
theorem dX7_does_171 : decode cX7_does 171 = .ok (.iastore, 1) := by decide +kernel
theorem dX7_does_172 : decode cX7_does 172 = .ok (.return_, 1) := by decide +kernel
theorem dX7_runs_0 : decode cX7_runs 0 = .ok (.aload_n 0, 1) := by decide +kernel
theorem dX7_runs_1 : decode cX7_runs 1 = .ok (.iconst 0, 1) := by decide +kernel
theorem dX7_runs_2 : decode cX7_runs 2 = .ok (.putfield 127, 3) := by decide +kernel
theorem dX7_runs_5 : decode cX7_runs 5 = .ok (.iconst 0, 1) := by decide +kernel
theorem dX7_runs_6 : decode cX7_runs 6 = .ok (.istore_n 2, 1) := by decide +kernel
theorem dX7_runs_7 : decode cX7_runs 7 = .ok (.iload_n 2, 1) := by decide +kernel
theorem dX7_runs_8 : decode cX7_runs 8 = .ok (.bipush 10, 2) := by decide +kernel
theorem dX7_runs_10 : decode cX7_runs 10 = .ok (.if_icmp .ge 23, 3) := by decide +kernel
theorem dX7_runs_13 : decode cX7_runs 13 = .ok (.aload_n 0, 1) := by decide +kernel
theorem dX7_runs_14 : decode cX7_runs 14 = .ok (.getfield 34, 3) := by decide +kernel
theorem dX7_runs_17 : decode cX7_runs 17 = .ok (.iload_n 2, 1) := by decide +kernel
theorem dX7_runs_18 : decode cX7_runs 18 = .ok (.iconst (-1), 1) := by decide +kernel
theorem dX7_runs_19 : decode cX7_runs 19 = .ok (.iastore, 1) := by decide +kernel
theorem dX7_runs_20 : decode cX7_runs 20 = .ok (.aload_n 0, 1) := by decide +kernel
theorem dX7_runs_21 : decode cX7_runs 21 = .ok (.getfield 37, 3) := by decide +kernel
theorem dX7_runs_24 : decode cX7_runs 24 = .ok (.iload_n 2, 1) := by decide +kernel
theorem dX7_runs_25 : decode cX7_runs 25 = .ok (.iconst 0, 1) := by decide +kernel
theorem dX7_runs_26 : decode cX7_runs 26 = .ok (.iastore, 1) := by decide +kernel
theorem dX7_runs_27 : decode cX7_runs 27 = .ok (.iinc 2 1, 3) := by decide +kernel
theorem dX7_runs_30 : decode cX7_runs 30 = .ok (.goto (-23), 3) := by decide +kernel
theorem dX7_runs_33 : decode cX7_runs 33 = .ok (.iconst 0, 1) := by decide +kernel
theorem dX7_runs_34 : decode cX7_runs 34 = .ok (.istore_n 2, 1) := by decide +kernel
theorem dX7_runs_35 : decode cX7_runs 35 = .ok (.iload_n 2, 1) := by decide +kernel
theorem dX7_runs_36 : decode cX7_runs 36 = .ok (.iload_n 1, 1) := by decide +kernel
theorem dX7_runs_37 : decode cX7_runs 37 = .ok (.aload_n 0, 1) := by decide +kernel
theorem dX7_runs_38 : decode cX7_runs 38 = .ok (.getfield 7, 3) := by decide +kernel
theorem dX7_runs_41 : decode cX7_runs 41 = .ok (.iconst 0, 1) := by decide +kernel
theorem dX7_runs_42 : decode cX7_runs 42 = .ok (.iaload, 1) := by decide +kernel
theorem dX7_runs_43 : decode cX7_runs 43 = .ok (.imul, 1) := by decide +kernel
theorem dX7_runs_44 : decode cX7_runs 44 = .ok (.if_icmp .ge 66, 3) := by decide +kernel
theorem dX7_runs_47 : decode cX7_runs 47 = .ok (.aload_n 0, 1) := by decide +kernel
theorem dX7_runs_48 : decode cX7_runs 48 = .ok (.iload_n 2, 1) := by decide +kernel
theorem dX7_runs_49 : decode cX7_runs 49 = .ok (.aload_n 0, 1) := by decide +kernel
theorem dX7_runs_50 : decode cX7_runs 50 = .ok (.getfield 7, 3) := by decide +kernel
theorem dX7_runs_53 : decode cX7_runs 53 = .ok (.iconst 0, 1) := by decide +kernel
theorem dX7_runs_54 : decode cX7_runs 54 = .ok (.iaload, 1) := by decide +kernel
theorem dX7_runs_55 : decode cX7_runs 55 = .ok (.irem, 1) := by decide +kernel
theorem dX7_runs_56 : decode cX7_runs 56 = .ok (.invokevirtual 130, 3) := by decide +kernel
theorem dX7_runs_59 : decode cX7_runs 59 = .ok (.iconst 0, 1) := by decide +kernel
theorem dX7_runs_60 : decode cX7_runs 60 = .ok (.istore_n 3, 1) := by decide +kernel
theorem dX7_runs_61 : decode cX7_runs 61 = .ok (.iload_n 3, 1) := by decide +kernel
theorem dX7_runs_62 : decode cX7_runs 62 = .ok (.bipush 10, 2) := by decide +kernel
theorem dX7_runs_64 : decode cX7_runs 64 = .ok (.if_icmp .ge 40, 3) := by decide +kernel
theorem dX7_runs_67 : decode cX7_runs 67 = .ok (.aload_n 0, 1) := by decide +kernel
theorem dX7_runs_68 : decode cX7_runs 68 = .ok (.getfield 37, 3) := by decide +kernel
theorem dX7_runs_71 : decode cX7_runs 71 = .ok (.iload_n 3, 1) := by decide +kernel
theorem dX7_runs_72 : decode cX7_runs 72 = .ok (.dup2, 1) := by decide +kernel
theorem dX7_runs_73 : decode cX7_runs 73 = .ok (.iaload, 1) := by decide +kernel
theorem dX7_runs_74 : decode cX7_runs 74 = .ok (.aload_n 0, 1) := by decide +kernel
theorem dX7_runs_75 : decode cX7_runs 75 = .ok (.getfield 34, 3) := by decide +kernel
theorem dX7_runs_78 : decode cX7_runs 78 = .ok (.iload_n 3, 1) := by decide +kernel
theorem dX7_runs_79 : decode cX7_runs 79 = .ok (.iaload, 1) := by decide +kernel
theorem dX7_runs_80 : decode cX7_runs 80 = .ok (.iconst (-1), 1) := by decide +kernel
theorem dX7_runs_81 : decode cX7_runs 81 = .ok (.if_icmp .ne 7, 3) := by decide +kernel
theorem dX7_runs_84 : decode cX7_runs 84 = .ok (.iconst 0, 1) := by decide +kernel
theorem dX7_runs_85 : decode cX7_runs 85 = .ok (.goto 11, 3) := by decide +kernel
theorem dX7_runs_88 : decode cX7_runs 88 = .ok (.iconst 1, 1) := by decide +kernel
theorem dX7_runs_89 : decode cX7_runs 89 = .ok (.aload_n 0, 1) := by decide +kernel
theorem dX7_runs_90 : decode cX7_runs 90 = .ok (.getfield 34, 3) := by decide +kernel
theorem dX7_runs_93 : decode cX7_runs 93 = .ok (.iload_n 3, 1) := by decide +kernel
theorem dX7_runs_94 : decode cX7_runs 94 = .ok (.iaload, 1) := by decide +kernel
theorem dX7_runs_95 : decode cX7_runs 95 = .ok (.ishl, 1) := by decide +kernel
theorem dX7_runs_96 : decode cX7_runs 96 = .ok (.ior, 1) := by decide +kernel
theorem dX7_runs_97 : decode cX7_runs 97 = .ok (.iastore, 1) := by decide +kernel
theorem dX7_runs_98 : decode cX7_runs 98 = .ok (.iinc 3 1, 3) := by decide +kernel
theorem dX7_runs_101 : decode cX7_runs 101 = .ok (.goto (-40), 3) := by decide +kernel
theorem dX7_runs_104 : decode cX7_runs 104 = .ok (.iinc 2 1, 3) := by decide +kernel
theorem dX7_runs_107 : decode cX7_runs 107 = .ok (.goto (-72), 3) := by decide +kernel
theorem dX7_runs_110 : decode cX7_runs 110 = .ok (.return_, 1) := by decide +kernel
theorem dX7_points_0 : decode cX7_points 0 = .ok (.iload_n 1, 1) := by decide +kernel
theorem dX7_points_1 : decode cX7_points 1 = .ok (.iconst 0, 1) := by decide +kernel
theorem dX7_points_2 : decode cX7_points 2 = .ok (.bipush 9, 2) := by decide +kernel
theorem dX7_points_4 : decode cX7_points 4 = .ok (.invokestatic 43, 3) := by decide +kernel
theorem dX7_points_7 : decode cX7_points 7 = .ok (.ifCond .eq 10, 3) := by decide +kernel
theorem dX7_points_10 : decode cX7_points 10 = .ok (.iload_n 2, 1) := by decide +kernel
theorem dX7_points_11 : decode cX7_points 11 = .ok (.invokestatic 55, 3) := by decide +kernel
theorem dX7_points_14 : decode cX7_points 14 = .ok (.ifCond .ne 10, 3) := by decide +kernel
theorem dX7_points_17 : decode cX7_points 17 = .ok (.aload_n 0, 1) := by decide +kernel
theorem dX7_points_18 : decode cX7_points 18 = .ok (.bipush (-2), 2) := by decide +kernel
theorem dX7_points_20 : decode cX7_points 20 = .ok (.invokevirtual 51, 3) := by decide +kernel
theorem dX7_points_23 : decode cX7_points 23 = .ok (.ireturn, 1) := by decide +kernel
theorem dX7_points_24 : decode cX7_points 24 = .ok (.aload_n 0, 1) := by decide +kernel
theorem dX7_points_25 : decode cX7_points 25 = .ok (.iload_n 1, 1) := by decide +kernel
theorem dX7_points_26 : decode cX7_points 26 = .ok (.invokevirtual 133, 3) := by decide +kernel
theorem dX7_points_29 : decode cX7_points 29 = .ok (.aload_n 0, 1) := by decide +kernel
theorem dX7_points_30 : decode cX7_points 30 = .ok (.getfield 34, 3) := by decide +kernel
theorem dX7_points_33 : decode cX7_points 33 = .ok (.iload_n 2, 1) := by decide +kernel
theorem dX7_points_34 : decode cX7_points 34 = .ok (.iaload, 1) := by decide +kernel
theorem dX7_points_35 : decode cX7_points 35 = .ok (.ireturn, 1) := by decide +kernel
theorem dX7_seen_0 : decode cX7_seen 0 = .ok (.iload_n 1, 1) := by decide +kernel
theorem dX7_seen_1 : decode cX7_seen 1 = .ok (.iconst 0, 1) := by decide +kernel
theorem dX7_seen_2 : decode cX7_seen 2 = .ok (.bipush 9, 2) := by decide +kernel
theorem dX7_seen_4 : decode cX7_seen 4 = .ok (.invokestatic 43, 3) := by decide +kernel
theorem dX7_seen_7 : decode cX7_seen 7 = .ok (.ifCond .eq 10, 3) := by decide +kernel
theorem dX7_seen_10 : decode cX7_seen 10 = .ok (.iload_n 2, 1) := by decide +kernel
theorem dX7_seen_11 : decode cX7_seen 11 = .ok (.invokestatic 55, 3) := by decide +kernel
theorem dX7_seen_14 : decode cX7_seen 14 = .ok (.ifCond .ne 10, 3) := by decide +kernel
theorem dX7_seen_17 : decode cX7_seen 17 = .ok (.aload_n 0, 1) := by decide +kernel
theorem dX7_seen_18 : decode cX7_seen 18 = .ok (.bipush (-2), 2) := by decide +kernel
theorem dX7_seen_20 : decode cX7_seen 20 = .ok (.invokevirtual 51, 3) := by decide +kernel
theorem dX7_seen_23 : decode cX7_seen 23 = .ok (.ireturn, 1) := by decide +kernel
theorem dX7_seen_24 : decode cX7_seen 24 = .ok (.aload_n 0, 1) := by decide +kernel
theorem dX7_seen_25 : decode cX7_seen 25 = .ok (.iload_n 1, 1) := by decide +kernel
theorem dX7_seen_26 : decode cX7_seen 26 = .ok (.invokevirtual 133, 3) := by decide +kernel
theorem dX7_seen_29 : decode cX7_seen 29 = .ok (.aload_n 0, 1) := by decide +kernel
theorem dX7_seen_30 : decode cX7_seen 30 = .ok (.getfield 37, 3) := by decide +kernel
theorem dX7_seen_33 : decode cX7_seen 33 = .ok (.iload_n 2, 1) := by decide +kernel
theorem dX7_seen_34 : decode cX7_seen 34 = .ok (.iaload, 1) := by decide +kernel
theorem dX7_seen_35 : decode cX7_seen 35 = .ok (.ireturn, 1) := by decide +kernel
theorem dX7_misses_0 : decode cX7_misses 0 = .ok (.iload_n 1, 1) := by decide +kernel
theorem dX7_misses_1 : decode cX7_misses 1 = .ok (.iconst 0, 1) := by decide +kernel
theorem dX7_misses_2 : decode cX7_misses 2 = .ok (.bipush 9, 2) := by decide +kernel
theorem dX7_misses_4 : decode cX7_misses 4 = .ok (.invokestatic 43, 3) := by decide +kernel
theorem dX7_misses_7 : decode cX7_misses 7 = .ok (.ifCond .ne 10, 3) := by decide +kernel
theorem dX7_misses_10 : decode cX7_misses 10 = .ok (.aload_n 0, 1) := by decide +kernel
theorem dX7_misses_11 : decode cX7_misses 11 = .ok (.bipush (-2), 2) := by decide +kernel
theorem dX7_misses_13 : decode cX7_misses 13 = .ok (.invokevirtual 51, 3) := by decide +kernel
theorem dX7_misses_16 : decode cX7_misses 16 = .ok (.ireturn, 1) := by decide +kernel
theorem dX7_misses_17 : decode cX7_misses 17 = .ok (.aload_n 0, 1) := by decide +kernel
theorem dX7_misses_18 : decode cX7_misses 18 = .ok (.iload_n 1, 1) := by decide +kernel
theorem dX7_misses_19 : decode cX7_misses 19 = .ok (.invokevirtual 133, 3) := by decide +kernel
theorem dX7_misses_22 : decode cX7_misses 22 = .ok (.aload_n 0, 1) := by decide +kernel
theorem dX7_misses_23 : decode cX7_misses 23 = .ok (.getfield 127, 3) := by decide +kernel
theorem dX7_misses_26 : decode cX7_misses 26 = .ok (.ireturn, 1) := by decide +kernel
theorem dX7_type_0 : decode cX7_type 0 = .ok (.iload_n 1, 1) := by decide +kernel
theorem dX7_type_1 : decode cX7_type 1 = .ok (.iconst 0, 1) := by decide +kernel
theorem dX7_type_2 : decode cX7_type 2 = .ok (.bipush 127, 2) := by decide +kernel
theorem dX7_type_4 : decode cX7_type 4 = .ok (.invokestatic 43, 3) := by decide +kernel
theorem dX7_type_7 : decode cX7_type 7 = .ok (.ifCond .ne 10, 3) := by decide +kernel
theorem dX7_type_10 : decode cX7_type 10 = .ok (.aload_n 0, 1) := by decide +kernel
theorem dX7_type_11 : decode cX7_type 11 = .ok (.bipush (-2), 2) := by decide +kernel
theorem dX7_type_13 : decode cX7_type 13 = .ok (.invokevirtual 51, 3) := by decide +kernel
theorem dX7_type_16 : decode cX7_type 16 = .ok (.ireturn, 1) := by decide +kernel
theorem dX7_type_17 : decode cX7_type 17 = .ok (.aload_n 0, 1) := by decide +kernel
theorem dX7_type_18 : decode cX7_type 18 = .ok (.getfield 136, 3) := by decide +kernel
end
section
theorem dX7_type_21 : decode cX7_type 21 = .ok (.bipush 120, 2) := by decide +kernel
theorem dX7_type_23 : decode cX7_type 23 = .ok (.if_icmp .ne 10, 3) := by decide +kernel
theorem dX7_type_26 : decode cX7_type 26 = .ok (.aload_n 0, 1) := by decide +kernel
theorem dX7_type_27 : decode cX7_type 27 = .ok (.bipush (-4), 2) := by decide +kernel
theorem dX7_type_29 : decode cX7_type 29 = .ok (.invokevirtual 51, 3) := by decide +kernel
theorem dX7_type_32 : decode cX7_type 32 = .ok (.ireturn, 1) := by decide +kernel
theorem dX7_type_33 : decode cX7_type 33 = .ok (.aload_n 0, 1) := by decide +kernel
theorem dX7_type_34 : decode cX7_type 34 = .ok (.getfield 22, 3) := by decide +kernel
theorem dX7_type_37 : decode cX7_type 37 = .ok (.aload_n 0, 1) := by decide +kernel
theorem dX7_type_38 : decode cX7_type 38 = .ok (.getfield 136, 3) := by decide +kernel
theorem dX7_type_41 : decode cX7_type 41 = .ok (.iload_n 1, 1) := by decide +kernel
theorem dX7_type_42 : decode cX7_type 42 = .ok (.iastore, 1) := by decide +kernel
theorem dX7_type_43 : decode cX7_type 43 = .ok (.aload_n 0, 1) := by decide +kernel
theorem dX7_type_44 : decode cX7_type 44 = .ok (.dup, 1) := by decide +kernel
theorem dX7_type_45 : decode cX7_type 45 = .ok (.getfield 136, 3) := by decide +kernel
theorem dX7_type_48 : decode cX7_type 48 = .ok (.iconst 1, 1) := by decide +kernel
theorem dX7_type_49 : decode cX7_type 49 = .ok (.iadd, 1) := by decide +kernel
theorem dX7_type_50 : decode cX7_type 50 = .ok (.putfield 136, 3) := by decide +kernel
theorem dX7_type_53 : decode cX7_type 53 = .ok (.aload_n 0, 1) := by decide +kernel
theorem dX7_type_54 : decode cX7_type 54 = .ok (.getfield 136, 3) := by decide +kernel
theorem dX7_type_57 : decode cX7_type 57 = .ok (.ireturn, 1) := by decide +kernel
theorem dX7_clear_0 : decode cX7_clear 0 = .ok (.aload_n 0, 1) := by decide +kernel
theorem dX7_clear_1 : decode cX7_clear 1 = .ok (.getfield 136, 3) := by decide +kernel
theorem dX7_clear_4 : decode cX7_clear 4 = .ok (.istore_n 1, 1) := by decide +kernel
theorem dX7_clear_5 : decode cX7_clear 5 = .ok (.aload_n 0, 1) := by decide +kernel
theorem dX7_clear_6 : decode cX7_clear 6 = .ok (.iconst 0, 1) := by decide +kernel
theorem dX7_clear_7 : decode cX7_clear 7 = .ok (.putfield 136, 3) := by decide +kernel
theorem dX7_clear_10 : decode cX7_clear 10 = .ok (.iload_n 1, 1) := by decide +kernel
theorem dX7_clear_11 : decode cX7_clear 11 = .ok (.ireturn, 1) := by decide +kernel
theorem dX7_next_0 : decode cX7_next 0 = .ok (.aload_n 0, 1) := by decide +kernel
theorem dX7_next_1 : decode cX7_next 1 = .ok (.getfield 139, 3) := by decide +kernel
theorem dX7_next_4 : decode cX7_next 4 = .ok (.aload_n 0, 1) := by decide +kernel
theorem dX7_next_5 : decode cX7_next 5 = .ok (.getfield 136, 3) := by decide +kernel
theorem dX7_next_8 : decode cX7_next 8 = .ok (.if_icmp .ge 30, 3) := by decide +kernel
theorem dX7_next_11 : decode cX7_next 11 = .ok (.aload_n 0, 1) := by decide +kernel
theorem dX7_next_12 : decode cX7_next 12 = .ok (.getfield 22, 3) := by decide +kernel
theorem dX7_next_15 : decode cX7_next 15 = .ok (.aload_n 0, 1) := by decide +kernel
theorem dX7_next_16 : decode cX7_next 16 = .ok (.getfield 139, 3) := by decide +kernel
theorem dX7_next_19 : decode cX7_next 19 = .ok (.iaload, 1) := by decide +kernel
theorem dX7_next_20 : decode cX7_next 20 = .ok (.bipush 32, 2) := by decide +kernel
theorem dX7_next_22 : decode cX7_next 22 = .ok (.if_icmp .ne 16, 3) := by decide +kernel
theorem dX7_next_25 : decode cX7_next 25 = .ok (.aload_n 0, 1) := by decide +kernel
theorem dX7_next_26 : decode cX7_next 26 = .ok (.dup, 1) := by decide +kernel
theorem dX7_next_27 : decode cX7_next 27 = .ok (.getfield 139, 3) := by decide +kernel
theorem dX7_next_30 : decode cX7_next 30 = .ok (.iconst 1, 1) := by decide +kernel
theorem dX7_next_31 : decode cX7_next 31 = .ok (.iadd, 1) := by decide +kernel
theorem dX7_next_32 : decode cX7_next 32 = .ok (.putfield 139, 3) := by decide +kernel
theorem dX7_next_35 : decode cX7_next 35 = .ok (.goto (-35), 3) := by decide +kernel
theorem dX7_next_38 : decode cX7_next 38 = .ok (.aload_n 0, 1) := by decide +kernel
theorem dX7_next_39 : decode cX7_next 39 = .ok (.getfield 139, 3) := by decide +kernel
theorem dX7_next_42 : decode cX7_next 42 = .ok (.aload_n 0, 1) := by decide +kernel
theorem dX7_next_43 : decode cX7_next 43 = .ok (.getfield 136, 3) := by decide +kernel
theorem dX7_next_46 : decode cX7_next 46 = .ok (.if_icmp .ge 15, 3) := by decide +kernel
theorem dX7_next_49 : decode cX7_next 49 = .ok (.aload_n 0, 1) := by decide +kernel
theorem dX7_next_50 : decode cX7_next 50 = .ok (.getfield 22, 3) := by decide +kernel
theorem dX7_next_53 : decode cX7_next 53 = .ok (.aload_n 0, 1) := by decide +kernel
theorem dX7_next_54 : decode cX7_next 54 = .ok (.getfield 139, 3) := by decide +kernel
theorem dX7_next_57 : decode cX7_next 57 = .ok (.iaload, 1) := by decide +kernel
theorem dX7_next_58 : decode cX7_next 58 = .ok (.goto 4, 3) := by decide +kernel
theorem dX7_next_61 : decode cX7_next 61 = .ok (.iconst (-1), 1) := by decide +kernel
theorem dX7_next_62 : decode cX7_next 62 = .ok (.ireturn, 1) := by decide +kernel
theorem dX7_passes_0 : decode cX7_passes 0 = .ok (.aload_n 0, 1) := by decide +kernel
theorem dX7_passes_1 : decode cX7_passes 1 = .ok (.invokevirtual 142, 3) := by decide +kernel
theorem dX7_passes_4 : decode cX7_passes 4 = .ok (.iload_n 1, 1) := by decide +kernel
theorem dX7_passes_5 : decode cX7_passes 5 = .ok (.if_icmp .ne 7, 3) := by decide +kernel
theorem dX7_passes_8 : decode cX7_passes 8 = .ok (.iconst 1, 1) := by decide +kernel
theorem dX7_passes_9 : decode cX7_passes 9 = .ok (.goto 4, 3) := by decide +kernel
theorem dX7_passes_12 : decode cX7_passes 12 = .ok (.iconst 0, 1) := by decide +kernel
theorem dX7_passes_13 : decode cX7_passes 13 = .ok (.istore_n 2, 1) := by decide +kernel
theorem dX7_passes_14 : decode cX7_passes 14 = .ok (.aload_n 0, 1) := by decide +kernel
theorem dX7_passes_15 : decode cX7_passes 15 = .ok (.dup, 1) := by decide +kernel
theorem dX7_passes_16 : decode cX7_passes 16 = .ok (.getfield 139, 3) := by decide +kernel
theorem dX7_passes_19 : decode cX7_passes 19 = .ok (.iload_n 2, 1) := by decide +kernel
theorem dX7_passes_20 : decode cX7_passes 20 = .ok (.ifCond .eq 7, 3) := by decide +kernel
theorem dX7_passes_23 : decode cX7_passes 23 = .ok (.iconst 1, 1) := by decide +kernel
theorem dX7_passes_24 : decode cX7_passes 24 = .ok (.goto 4, 3) := by decide +kernel
theorem dX7_passes_27 : decode cX7_passes 27 = .ok (.iconst 0, 1) := by decide +kernel
theorem dX7_passes_28 : decode cX7_passes 28 = .ok (.iadd, 1) := by decide +kernel
theorem dX7_passes_29 : decode cX7_passes 29 = .ok (.putfield 139, 3) := by decide +kernel
theorem dX7_passes_32 : decode cX7_passes 32 = .ok (.iload_n 2, 1) := by decide +kernel
theorem dX7_passes_33 : decode cX7_passes 33 = .ok (.ireturn, 1) := by decide +kernel
theorem dX7_namePassed_0 : decode cX7_namePassed 0 = .ok (.aload_n 0, 1) := by decide +kernel
theorem dX7_namePassed_1 : decode cX7_namePassed 1 = .ok (.invokevirtual 142, 3) := by decide +kernel
theorem dX7_namePassed_4 : decode cX7_namePassed 4 = .ok (.bipush 97, 2) := by decide +kernel
theorem dX7_namePassed_6 : decode cX7_namePassed 6 = .ok (.isub, 1) := by decide +kernel
theorem dX7_namePassed_7 : decode cX7_namePassed 7 = .ok (.istore_n 1, 1) := by decide +kernel
theorem dX7_namePassed_8 : decode cX7_namePassed 8 = .ok (.aload_n 0, 1) := by decide +kernel
theorem dX7_namePassed_9 : decode cX7_namePassed 9 = .ok (.dup, 1) := by decide +kernel
theorem dX7_namePassed_10 : decode cX7_namePassed 10 = .ok (.getfield 139, 3) := by decide +kernel
theorem dX7_namePassed_13 : decode cX7_namePassed 13 = .ok (.iload_n 1, 1) := by decide +kernel
theorem dX7_namePassed_14 : decode cX7_namePassed 14 = .ok (.invokestatic 55, 3) := by decide +kernel
theorem dX7_namePassed_17 : decode cX7_namePassed 17 = .ok (.ifCond .eq 7, 3) := by decide +kernel
theorem dX7_namePassed_20 : decode cX7_namePassed 20 = .ok (.iconst 1, 1) := by decide +kernel
theorem dX7_namePassed_21 : decode cX7_namePassed 21 = .ok (.goto 4, 3) := by decide +kernel
theorem dX7_namePassed_24 : decode cX7_namePassed 24 = .ok (.iconst 0, 1) := by decide +kernel
theorem dX7_namePassed_25 : decode cX7_namePassed 25 = .ok (.iadd, 1) := by decide +kernel
theorem dX7_namePassed_26 : decode cX7_namePassed 26 = .ok (.putfield 139, 3) := by decide +kernel
theorem dX7_namePassed_29 : decode cX7_namePassed 29 = .ok (.iload_n 1, 1) := by decide +kernel
theorem dX7_namePassed_30 : decode cX7_namePassed 30 = .ok (.invokestatic 55, 3) := by decide +kernel
theorem dX7_namePassed_33 : decode cX7_namePassed 33 = .ok (.ifCond .eq 7, 3) := by decide +kernel
theorem dX7_namePassed_36 : decode cX7_namePassed 36 = .ok (.iload_n 1, 1) := by decide +kernel
theorem dX7_namePassed_37 : decode cX7_namePassed 37 = .ok (.goto 4, 3) := by decide +kernel
theorem dX7_namePassed_40 : decode cX7_namePassed 40 = .ok (.iconst (-1), 1) := by decide +kernel
theorem dX7_namePassed_41 : decode cX7_namePassed 41 = .ok (.ireturn, 1) := by decide +kernel
theorem dX7_readsLine_0 : decode cX7_readsLine 0 = .ok (.aload_n 0, 1) := by decide +kernel
theorem dX7_readsLine_1 : decode cX7_readsLine 1 = .ok (.getfield 13, 3) := by decide +kernel
theorem dX7_readsLine_4 : decode cX7_readsLine 4 = .ok (.iconst 0, 1) := by decide +kernel
theorem dX7_readsLine_5 : decode cX7_readsLine 5 = .ok (.iaload, 1) := by decide +kernel
theorem dX7_readsLine_6 : decode cX7_readsLine 6 = .ok (.bipush 14, 2) := by decide +kernel
theorem dX7_readsLine_8 : decode cX7_readsLine 8 = .ok (.if_icmp .ne 5, 3) := by decide +kernel
theorem dX7_readsLine_11 : decode cX7_readsLine 11 = .ok (.iconst 0, 1) := by decide +kernel
theorem dX7_readsLine_12 : decode cX7_readsLine 12 = .ok (.ireturn, 1) := by decide +kernel
theorem dX7_readsLine_13 : decode cX7_readsLine 13 = .ok (.aload_n 0, 1) := by decide +kernel
theorem dX7_readsLine_14 : decode cX7_readsLine 14 = .ok (.bipush 42, 2) := by decide +kernel
theorem dX7_readsLine_16 : decode cX7_readsLine 16 = .ok (.invokevirtual 146, 3) := by decide +kernel
theorem dX7_readsLine_19 : decode cX7_readsLine 19 = .ok (.ifCond .eq 7, 3) := by decide +kernel
theorem dX7_readsLine_22 : decode cX7_readsLine 22 = .ok (.iconst 3, 1) := by decide +kernel
theorem dX7_readsLine_23 : decode cX7_readsLine 23 = .ok (.goto 4, 3) := by decide +kernel
theorem dX7_readsLine_26 : decode cX7_readsLine 26 = .ok (.iconst 1, 1) := by decide +kernel
theorem dX7_readsLine_27 : decode cX7_readsLine 27 = .ok (.istore_n 1, 1) := by decide +kernel
theorem dX7_readsLine_28 : decode cX7_readsLine 28 = .ok (.aload_n 0, 1) := by decide +kernel
theorem dX7_readsLine_29 : decode cX7_readsLine 29 = .ok (.invokevirtual 149, 3) := by decide +kernel
theorem dX7_readsLine_32 : decode cX7_readsLine 32 = .ok (.istore_n 2, 1) := by decide +kernel
theorem dX7_readsLine_33 : decode cX7_readsLine 33 = .ok (.iload_n 2, 1) := by decide +kernel
theorem dX7_readsLine_34 : decode cX7_readsLine 34 = .ok (.iconst (-1), 1) := by decide +kernel
theorem dX7_readsLine_35 : decode cX7_readsLine 35 = .ok (.if_icmp .eq 12, 3) := by decide +kernel
theorem dX7_readsLine_38 : decode cX7_readsLine 38 = .ok (.aload_n 0, 1) := by decide +kernel
theorem dX7_readsLine_39 : decode cX7_readsLine 39 = .ok (.bipush 61, 2) := by decide +kernel
theorem dX7_readsLine_41 : decode cX7_readsLine 41 = .ok (.invokevirtual 146, 3) := by decide +kernel
theorem dX7_readsLine_44 : decode cX7_readsLine 44 = .ok (.ifCond .ne 5, 3) := by decide +kernel
theorem dX7_readsLine_47 : decode cX7_readsLine 47 = .ok (.iconst 0, 1) := by decide +kernel
theorem dX7_readsLine_48 : decode cX7_readsLine 48 = .ok (.ireturn, 1) := by decide +kernel
theorem dX7_readsLine_49 : decode cX7_readsLine 49 = .ok (.iload_n 1, 1) := by decide +kernel
theorem dX7_readsLine_50 : decode cX7_readsLine 50 = .ok (.iconst 1, 1) := by decide +kernel
theorem dX7_readsLine_51 : decode cX7_readsLine 51 = .ok (.if_icmp .ne 31, 3) := by decide +kernel
theorem dX7_readsLine_54 : decode cX7_readsLine 54 = .ok (.aload_n 0, 1) := by decide +kernel
theorem dX7_readsLine_55 : decode cX7_readsLine 55 = .ok (.bipush 38, 2) := by decide +kernel
theorem dX7_readsLine_57 : decode cX7_readsLine 57 = .ok (.invokevirtual 146, 3) := by decide +kernel
theorem dX7_readsLine_60 : decode cX7_readsLine 60 = .ok (.ifCond .eq 7, 3) := by decide +kernel
theorem dX7_readsLine_63 : decode cX7_readsLine 63 = .ok (.iconst 0, 1) := by decide +kernel
theorem dX7_readsLine_64 : decode cX7_readsLine 64 = .ok (.goto 17, 3) := by decide +kernel
theorem dX7_readsLine_67 : decode cX7_readsLine 67 = .ok (.aload_n 0, 1) := by decide +kernel
theorem dX7_readsLine_68 : decode cX7_readsLine 68 = .ok (.bipush 42, 2) := by decide +kernel
theorem dX7_readsLine_70 : decode cX7_readsLine 70 = .ok (.invokevirtual 146, 3) := by decide +kernel
theorem dX7_readsLine_73 : decode cX7_readsLine 73 = .ok (.ifCond .eq 7, 3) := by decide +kernel
theorem dX7_readsLine_76 : decode cX7_readsLine 76 = .ok (.iconst 2, 1) := by decide +kernel
theorem dX7_readsLine_77 : decode cX7_readsLine 77 = .ok (.goto 4, 3) := by decide +kernel
theorem dX7_readsLine_80 : decode cX7_readsLine 80 = .ok (.iconst 1, 1) := by decide +kernel
theorem dX7_readsLine_81 : decode cX7_readsLine 81 = .ok (.istore_n 1, 1) := by decide +kernel
theorem dX7_readsLine_82 : decode cX7_readsLine 82 = .ok (.aload_n 0, 1) := by decide +kernel
theorem dX7_readsLine_83 : decode cX7_readsLine 83 = .ok (.invokevirtual 149, 3) := by decide +kernel
theorem dX7_readsLine_86 : decode cX7_readsLine 86 = .ok (.istore_n 3, 1) := by decide +kernel
theorem dX7_readsLine_87 : decode cX7_readsLine 87 = .ok (.iload_n 3, 1) := by decide +kernel
theorem dX7_readsLine_88 : decode cX7_readsLine 88 = .ok (.iconst (-1), 1) := by decide +kernel
theorem dX7_readsLine_89 : decode cX7_readsLine 89 = .ok (.if_icmp .eq 12, 3) := by decide +kernel
theorem dX7_readsLine_92 : decode cX7_readsLine 92 = .ok (.aload_n 0, 1) := by decide +kernel
theorem dX7_readsLine_93 : decode cX7_readsLine 93 = .ok (.bipush 59, 2) := by decide +kernel
theorem dX7_readsLine_95 : decode cX7_readsLine 95 = .ok (.invokevirtual 146, 3) := by decide +kernel
theorem dX7_readsLine_98 : decode cX7_readsLine 98 = .ok (.ifCond .ne 5, 3) := by decide +kernel
theorem dX7_readsLine_101 : decode cX7_readsLine 101 = .ok (.iconst 0, 1) := by decide +kernel
theorem dX7_readsLine_102 : decode cX7_readsLine 102 = .ok (.ireturn, 1) := by decide +kernel
theorem dX7_readsLine_103 : decode cX7_readsLine 103 = .ok (.aload_n 0, 1) := by decide +kernel
theorem dX7_readsLine_104 : decode cX7_readsLine 104 = .ok (.getfield 13, 3) := by decide +kernel
theorem dX7_readsLine_107 : decode cX7_readsLine 107 = .ok (.iconst 0, 1) := by decide +kernel
theorem dX7_readsLine_108 : decode cX7_readsLine 108 = .ok (.dup2, 1) := by decide +kernel
theorem dX7_readsLine_109 : decode cX7_readsLine 109 = .ok (.iaload, 1) := by decide +kernel
theorem dX7_readsLine_110 : decode cX7_readsLine 110 = .ok (.iconst 1, 1) := by decide +kernel
theorem dX7_readsLine_111 : decode cX7_readsLine 111 = .ok (.iadd, 1) := by decide +kernel
theorem dX7_readsLine_112 : decode cX7_readsLine 112 = .ok (.iastore, 1) := by decide +kernel
theorem dX7_readsLine_113 : decode cX7_readsLine 113 = .ok (.aload_n 0, 1) := by decide +kernel
theorem dX7_readsLine_114 : decode cX7_readsLine 114 = .ok (.getfield 13, 3) := by decide +kernel
theorem dX7_readsLine_117 : decode cX7_readsLine 117 = .ok (.aload_n 0, 1) := by decide +kernel
theorem dX7_readsLine_118 : decode cX7_readsLine 118 = .ok (.getfield 13, 3) := by decide +kernel
theorem dX7_readsLine_121 : decode cX7_readsLine 121 = .ok (.iconst 0, 1) := by decide +kernel
theorem dX7_readsLine_122 : decode cX7_readsLine 122 = .ok (.iaload, 1) := by decide +kernel
theorem dX7_readsLine_123 : decode cX7_readsLine 123 = .ok (.bipush 100, 2) := by decide +kernel
theorem dX7_readsLine_125 : decode cX7_readsLine 125 = .ok (.iload_n 1, 1) := by decide +kernel
theorem dX7_readsLine_126 : decode cX7_readsLine 126 = .ok (.imul, 1) := by decide +kernel
theorem dX7_readsLine_127 : decode cX7_readsLine 127 = .ok (.bipush 10, 2) := by decide +kernel
theorem dX7_readsLine_129 : decode cX7_readsLine 129 = .ok (.iload_n 2, 1) := by decide +kernel
theorem dX7_readsLine_130 : decode cX7_readsLine 130 = .ok (.imul, 1) := by decide +kernel
theorem dX7_readsLine_131 : decode cX7_readsLine 131 = .ok (.iadd, 1) := by decide +kernel
theorem dX7_readsLine_132 : decode cX7_readsLine 132 = .ok (.iload_n 3, 1) := by decide +kernel
theorem dX7_readsLine_133 : decode cX7_readsLine 133 = .ok (.iadd, 1) := by decide +kernel
theorem dX7_readsLine_134 : decode cX7_readsLine 134 = .ok (.iastore, 1) := by decide +kernel
theorem dX7_readsLine_135 : decode cX7_readsLine 135 = .ok (.iconst 1, 1) := by decide +kernel
theorem dX7_readsLine_136 : decode cX7_readsLine 136 = .ok (.ireturn, 1) := by decide +kernel
theorem dX7_isRead_0 : decode cX7_isRead 0 = .ok (.aload_n 0, 1) := by decide +kernel
theorem dX7_isRead_1 : decode cX7_isRead 1 = .ok (.iconst 0, 1) := by decide +kernel
theorem dX7_isRead_2 : decode cX7_isRead 2 = .ok (.putfield 139, 3) := by decide +kernel
theorem dX7_isRead_5 : decode cX7_isRead 5 = .ok (.aload_n 0, 1) := by decide +kernel
theorem dX7_isRead_6 : decode cX7_isRead 6 = .ok (.getfield 13, 3) := by decide +kernel
theorem dX7_isRead_9 : decode cX7_isRead 9 = .ok (.iconst 0, 1) := by decide +kernel
theorem dX7_isRead_10 : decode cX7_isRead 10 = .ok (.iconst 0, 1) := by decide +kernel
theorem dX7_isRead_11 : decode cX7_isRead 11 = .ok (.iastore, 1) := by decide +kernel
theorem dX7_isRead_12 : decode cX7_isRead 12 = .ok (.aload_n 0, 1) := by decide +kernel
theorem dX7_isRead_13 : decode cX7_isRead 13 = .ok (.invokevirtual 142, 3) := by decide +kernel
theorem dX7_isRead_16 : decode cX7_isRead 16 = .ok (.iconst (-1), 1) := by decide +kernel
theorem dX7_isRead_17 : decode cX7_isRead 17 = .ok (.if_icmp .eq 12, 3) := by decide +kernel
theorem dX7_isRead_20 : decode cX7_isRead 20 = .ok (.aload_n 0, 1) := by decide +kernel
theorem dX7_isRead_21 : decode cX7_isRead 21 = .ok (.invokevirtual 152, 3) := by decide +kernel
theorem dX7_isRead_24 : decode cX7_isRead 24 = .ok (.ifCond .ne (-12), 3) := by decide +kernel
theorem dX7_isRead_27 : decode cX7_isRead 27 = .ok (.iconst 0, 1) := by decide +kernel
theorem dX7_isRead_28 : decode cX7_isRead 28 = .ok (.ireturn, 1) := by decide +kernel
theorem dX7_isRead_29 : decode cX7_isRead 29 = .ok (.iconst 1, 1) := by decide +kernel
theorem dX7_isRead_30 : decode cX7_isRead 30 = .ok (.ireturn, 1) := by decide +kernel
theorem dX7_reads_0 : decode cX7_reads 0 = .ok (.aload_n 0, 1) := by decide +kernel
theorem dX7_reads_1 : decode cX7_reads 1 = .ok (.invokevirtual 156, 3) := by decide +kernel
theorem dX7_reads_4 : decode cX7_reads 4 = .ok (.ifCond .ne 11, 3) := by decide +kernel
theorem dX7_reads_7 : decode cX7_reads 7 = .ok (.bipush (-10), 2) := by decide +kernel
theorem dX7_reads_9 : decode cX7_reads 9 = .ok (.aload_n 0, 1) := by decide +kernel
theorem dX7_reads_10 : decode cX7_reads 10 = .ok (.getfield 139, 3) := by decide +kernel
theorem dX7_reads_13 : decode cX7_reads 13 = .ok (.isub, 1) := by decide +kernel
theorem dX7_reads_14 : decode cX7_reads 14 = .ok (.ireturn, 1) := by decide +kernel
theorem dX7_reads_15 : decode cX7_reads 15 = .ok (.aload_n 0, 1) := by decide +kernel
theorem dX7_reads_16 : decode cX7_reads 16 = .ok (.invokevirtual 59, 3) := by decide +kernel
theorem dX7_reads_19 : decode cX7_reads 19 = .ok (.iconst 0, 1) := by decide +kernel
theorem dX7_reads_20 : decode cX7_reads 20 = .ok (.istore_n 1, 1) := by decide +kernel
theorem dX7_reads_21 : decode cX7_reads 21 = .ok (.iload_n 1, 1) := by decide +kernel
theorem dX7_reads_22 : decode cX7_reads 22 = .ok (.bipush 15, 2) := by decide +kernel
theorem dX7_reads_24 : decode cX7_reads 24 = .ok (.if_icmp .ge 21, 3) := by decide +kernel
theorem dX7_reads_27 : decode cX7_reads 27 = .ok (.aload_n 0, 1) := by decide +kernel
theorem dX7_reads_28 : decode cX7_reads 28 = .ok (.getfield 7, 3) := by decide +kernel
theorem dX7_reads_31 : decode cX7_reads 31 = .ok (.iload_n 1, 1) := by decide +kernel
theorem dX7_reads_32 : decode cX7_reads 32 = .ok (.aload_n 0, 1) := by decide +kernel
theorem dX7_reads_33 : decode cX7_reads 33 = .ok (.getfield 13, 3) := by decide +kernel
theorem dX7_reads_36 : decode cX7_reads 36 = .ok (.iload_n 1, 1) := by decide +kernel
theorem dX7_reads_37 : decode cX7_reads 37 = .ok (.iaload, 1) := by decide +kernel
theorem dX7_reads_38 : decode cX7_reads 38 = .ok (.iastore, 1) := by decide +kernel
theorem dX7_reads_39 : decode cX7_reads 39 = .ok (.iinc 1 1, 3) := by decide +kernel
theorem dX7_reads_42 : decode cX7_reads 42 = .ok (.goto (-21), 3) := by decide +kernel
theorem dX7_reads_45 : decode cX7_reads 45 = .ok (.aload_n 0, 1) := by decide +kernel
theorem dX7_reads_46 : decode cX7_reads 46 = .ok (.getfield 7, 3) := by decide +kernel
theorem dX7_reads_49 : decode cX7_reads 49 = .ok (.iconst 0, 1) := by decide +kernel
theorem dX7_reads_50 : decode cX7_reads 50 = .ok (.iaload, 1) := by decide +kernel
theorem dX7_reads_51 : decode cX7_reads 51 = .ok (.ireturn, 1) := by decide +kernel
theorem dX7_puts_0 : decode cX7_puts 0 = .ok (.aload_n 0, 1) := by decide +kernel
theorem dX7_puts_1 : decode cX7_puts 1 = .ok (.getfield 40, 3) := by decide +kernel
theorem dX7_puts_4 : decode cX7_puts 4 = .ok (.aload_n 0, 1) := by decide +kernel
theorem dX7_puts_5 : decode cX7_puts 5 = .ok (.getfield 159, 3) := by decide +kernel
theorem dX7_puts_8 : decode cX7_puts 8 = .ok (.iload_n 1, 1) := by decide +kernel
theorem dX7_puts_9 : decode cX7_puts 9 = .ok (.iastore, 1) := by decide +kernel
theorem dX7_puts_10 : decode cX7_puts 10 = .ok (.aload_n 0, 1) := by decide +kernel
theorem dX7_puts_11 : decode cX7_puts 11 = .ok (.dup, 1) := by decide +kernel
theorem dX7_puts_12 : decode cX7_puts 12 = .ok (.getfield 159, 3) := by decide +kernel
theorem dX7_puts_15 : decode cX7_puts 15 = .ok (.iconst 1, 1) := by decide +kernel
theorem dX7_puts_16 : decode cX7_puts 16 = .ok (.iadd, 1) := by decide +kernel
theorem dX7_puts_17 : decode cX7_puts 17 = .ok (.putfield 159, 3) := by decide +kernel
theorem dX7_puts_20 : decode cX7_puts 20 = .ok (.return_, 1) := by decide +kernel
theorem dX7_writesOut_0 : decode cX7_writesOut 0 = .ok (.aload_n 0, 1) := by decide +kernel
theorem dX7_writesOut_1 : decode cX7_writesOut 1 = .ok (.iload_n 1, 1) := by decide +kernel
theorem dX7_writesOut_2 : decode cX7_writesOut 2 = .ok (.invokevirtual 75, 3) := by decide +kernel
theorem dX7_writesOut_5 : decode cX7_writesOut 5 = .ok (.iconst 3, 1) := by decide +kernel
theorem dX7_writesOut_6 : decode cX7_writesOut 6 = .ok (.if_icmp .ne 9, 3) := by decide +kernel
theorem dX7_writesOut_9 : decode cX7_writesOut 9 = .ok (.aload_n 0, 1) := by decide +kernel
theorem dX7_writesOut_10 : decode cX7_writesOut 10 = .ok (.bipush 42, 2) := by decide +kernel
theorem dX7_writesOut_12 : decode cX7_writesOut 12 = .ok (.invokevirtual 162, 3) := by decide +kernel
theorem dX7_writesOut_15 : decode cX7_writesOut 15 = .ok (.aload_n 0, 1) := by decide +kernel
theorem dX7_writesOut_16 : decode cX7_writesOut 16 = .ok (.bipush 97, 2) := by decide +kernel
theorem dX7_writesOut_18 : decode cX7_writesOut 18 = .ok (.aload_n 0, 1) := by decide +kernel
theorem dX7_writesOut_19 : decode cX7_writesOut 19 = .ok (.iload_n 1, 1) := by decide +kernel
theorem dX7_writesOut_20 : decode cX7_writesOut 20 = .ok (.invokevirtual 69, 3) := by decide +kernel
theorem dX7_writesOut_23 : decode cX7_writesOut 23 = .ok (.iadd, 1) := by decide +kernel
theorem dX7_writesOut_24 : decode cX7_writesOut 24 = .ok (.invokevirtual 162, 3) := by decide +kernel
theorem dX7_writesOut_27 : decode cX7_writesOut 27 = .ok (.aload_n 0, 1) := by decide +kernel
theorem dX7_writesOut_28 : decode cX7_writesOut 28 = .ok (.bipush 61, 2) := by decide +kernel
theorem dX7_writesOut_30 : decode cX7_writesOut 30 = .ok (.invokevirtual 162, 3) := by decide +kernel
theorem dX7_writesOut_33 : decode cX7_writesOut 33 = .ok (.aload_n 0, 1) := by decide +kernel
theorem dX7_writesOut_34 : decode cX7_writesOut 34 = .ok (.iload_n 1, 1) := by decide +kernel
theorem dX7_writesOut_35 : decode cX7_writesOut 35 = .ok (.invokevirtual 75, 3) := by decide +kernel
theorem dX7_writesOut_38 : decode cX7_writesOut 38 = .ok (.ifCond .eq 12, 3) := by decide +kernel
theorem dX7_writesOut_41 : decode cX7_writesOut 41 = .ok (.aload_n 0, 1) := by decide +kernel
theorem dX7_writesOut_42 : decode cX7_writesOut 42 = .ok (.iload_n 1, 1) := by decide +kernel
theorem dX7_writesOut_43 : decode cX7_writesOut 43 = .ok (.invokevirtual 75, 3) := by decide +kernel
theorem dX7_writesOut_46 : decode cX7_writesOut 46 = .ok (.iconst 2, 1) := by decide +kernel
theorem dX7_writesOut_47 : decode cX7_writesOut 47 = .ok (.if_icmp .ne 22, 3) := by decide +kernel
theorem dX7_writesOut_50 : decode cX7_writesOut 50 = .ok (.aload_n 0, 1) := by decide +kernel
theorem dX7_writesOut_51 : decode cX7_writesOut 51 = .ok (.aload_n 0, 1) := by decide +kernel
theorem dX7_writesOut_52 : decode cX7_writesOut 52 = .ok (.iload_n 1, 1) := by decide +kernel
theorem dX7_writesOut_53 : decode cX7_writesOut 53 = .ok (.invokevirtual 75, 3) := by decide +kernel
theorem dX7_writesOut_56 : decode cX7_writesOut 56 = .ok (.ifCond .ne 8, 3) := by decide +kernel
theorem dX7_writesOut_59 : decode cX7_writesOut 59 = .ok (.bipush 38, 2) := by decide +kernel
theorem dX7_writesOut_61 : decode cX7_writesOut 61 = .ok (.goto 5, 3) := by decide +kernel
theorem dX7_writesOut_64 : decode cX7_writesOut 64 = .ok (.bipush 42, 2) := by decide +kernel
theorem dX7_writesOut_66 : decode cX7_writesOut 66 = .ok (.invokevirtual 162, 3) := by decide +kernel
theorem dX7_writesOut_69 : decode cX7_writesOut 69 = .ok (.aload_n 0, 1) := by decide +kernel
theorem dX7_writesOut_70 : decode cX7_writesOut 70 = .ok (.bipush 97, 2) := by decide +kernel
theorem dX7_writesOut_72 : decode cX7_writesOut 72 = .ok (.aload_n 0, 1) := by decide +kernel
theorem dX7_writesOut_73 : decode cX7_writesOut 73 = .ok (.iload_n 1, 1) := by decide +kernel
theorem dX7_writesOut_74 : decode cX7_writesOut 74 = .ok (.invokevirtual 72, 3) := by decide +kernel
theorem dX7_writesOut_77 : decode cX7_writesOut 77 = .ok (.iadd, 1) := by decide +kernel
theorem dX7_writesOut_78 : decode cX7_writesOut 78 = .ok (.invokevirtual 162, 3) := by decide +kernel
theorem dX7_writesOut_81 : decode cX7_writesOut 81 = .ok (.aload_n 0, 1) := by decide +kernel
theorem dX7_writesOut_82 : decode cX7_writesOut 82 = .ok (.bipush 59, 2) := by decide +kernel
theorem dX7_writesOut_84 : decode cX7_writesOut 84 = .ok (.invokevirtual 162, 3) := by decide +kernel
theorem dX7_writesOut_87 : decode cX7_writesOut 87 = .ok (.return_, 1) := by decide +kernel
theorem dX7_shown_0 : decode cX7_shown 0 = .ok (.iload_n 1, 1) := by decide +kernel
theorem dX7_shown_1 : decode cX7_shown 1 = .ok (.iconst (-1), 1) := by decide +kernel
theorem dX7_shown_2 : decode cX7_shown 2 = .ok (.if_icmp .ge 10, 3) := by decide +kernel
theorem dX7_shown_5 : decode cX7_shown 5 = .ok (.aload_n 0, 1) := by decide +kernel
theorem dX7_shown_6 : decode cX7_shown 6 = .ok (.bipush (-2), 2) := by decide +kernel
theorem dX7_shown_8 : decode cX7_shown 8 = .ok (.invokevirtual 51, 3) := by decide +kernel
theorem dX7_shown_11 : decode cX7_shown 11 = .ok (.ireturn, 1) := by decide +kernel
theorem dX7_shown_12 : decode cX7_shown 12 = .ok (.aload_n 0, 1) := by decide +kernel
theorem dX7_shown_13 : decode cX7_shown 13 = .ok (.iconst 0, 1) := by decide +kernel
theorem dX7_shown_14 : decode cX7_shown 14 = .ok (.putfield 159, 3) := by decide +kernel
theorem dX7_shown_17 : decode cX7_shown 17 = .ok (.iconst 0, 1) := by decide +kernel
theorem dX7_shown_18 : decode cX7_shown 18 = .ok (.istore_n 2, 1) := by decide +kernel
theorem dX7_shown_19 : decode cX7_shown 19 = .ok (.iload_n 2, 1) := by decide +kernel
theorem dX7_shown_20 : decode cX7_shown 20 = .ok (.aload_n 0, 1) := by decide +kernel
theorem dX7_shown_21 : decode cX7_shown 21 = .ok (.getfield 7, 3) := by decide +kernel
theorem dX7_shown_24 : decode cX7_shown 24 = .ok (.iconst 0, 1) := by decide +kernel
theorem dX7_shown_25 : decode cX7_shown 25 = .ok (.iaload, 1) := by decide +kernel
theorem dX7_shown_26 : decode cX7_shown 26 = .ok (.if_icmp .ge 14, 3) := by decide +kernel
theorem dX7_shown_29 : decode cX7_shown 29 = .ok (.aload_n 0, 1) := by decide +kernel
theorem dX7_shown_30 : decode cX7_shown 30 = .ok (.iload_n 2, 1) := by decide +kernel
theorem dX7_shown_31 : decode cX7_shown 31 = .ok (.invokevirtual 165, 3) := by decide +kernel
theorem dX7_shown_34 : decode cX7_shown 34 = .ok (.iinc 2 1, 3) := by decide +kernel
theorem dX7_shown_37 : decode cX7_shown 37 = .ok (.goto (-18), 3) := by decide +kernel
theorem dX7_shown_40 : decode cX7_shown 40 = .ok (.iload_n 1, 1) := by decide +kernel
theorem dX7_shown_41 : decode cX7_shown 41 = .ok (.iconst (-1), 1) := by decide +kernel
theorem dX7_shown_42 : decode cX7_shown 42 = .ok (.if_icmp .ne 10, 3) := by decide +kernel
theorem dX7_shown_45 : decode cX7_shown 45 = .ok (.aload_n 0, 1) := by decide +kernel
theorem dX7_shown_46 : decode cX7_shown 46 = .ok (.getfield 159, 3) := by decide +kernel
theorem dX7_shown_49 : decode cX7_shown 49 = .ok (.goto 22, 3) := by decide +kernel
theorem dX7_shown_52 : decode cX7_shown 52 = .ok (.iload_n 1, 1) := by decide +kernel
theorem dX7_shown_53 : decode cX7_shown 53 = .ok (.aload_n 0, 1) := by decide +kernel
theorem dX7_shown_54 : decode cX7_shown 54 = .ok (.getfield 159, 3) := by decide +kernel
theorem dX7_shown_57 : decode cX7_shown 57 = .ok (.if_icmp .ge 12, 3) := by decide +kernel
theorem dX7_shown_60 : decode cX7_shown 60 = .ok (.aload_n 0, 1) := by decide +kernel
theorem dX7_shown_61 : decode cX7_shown 61 = .ok (.getfield 40, 3) := by decide +kernel
theorem dX7_shown_64 : decode cX7_shown 64 = .ok (.iload_n 1, 1) := by decide +kernel
theorem dX7_shown_65 : decode cX7_shown 65 = .ok (.iaload, 1) := by decide +kernel
theorem dX7_shown_66 : decode cX7_shown 66 = .ok (.goto 5, 3) := by decide +kernel
theorem dX7_shown_69 : decode cX7_shown 69 = .ok (.bipush (-5), 2) := by decide +kernel
theorem dX7_shown_71 : decode cX7_shown 71 = .ok (.ireturn, 1) := by decide +kernel
theorem dX7_toldOf_0 : decode cX7_toldOf 0 = .ok (.iload_n 1, 1) := by decide +kernel
theorem dX7_toldOf_1 : decode cX7_toldOf 1 = .ok (.iconst 3, 1) := by decide +kernel
theorem dX7_toldOf_2 : decode cX7_toldOf 2 = .ok (.if_icmp .ge 12, 3) := by decide +kernel
theorem dX7_toldOf_5 : decode cX7_toldOf 5 = .ok (.aload_n 0, 1) := by decide +kernel
theorem dX7_toldOf_6 : decode cX7_toldOf 6 = .ok (.getfield 19, 3) := by decide +kernel
theorem dX7_toldOf_9 : decode cX7_toldOf 9 = .ok (.iload_n 1, 1) := by decide +kernel
theorem dX7_toldOf_10 : decode cX7_toldOf 10 = .ok (.iaload, 1) := by decide +kernel
theorem dX7_toldOf_11 : decode cX7_toldOf 11 = .ok (.goto 33, 3) := by decide +kernel
theorem dX7_toldOf_14 : decode cX7_toldOf 14 = .ok (.iload_n 1, 1) := by decide +kernel
theorem dX7_toldOf_15 : decode cX7_toldOf 15 = .ok (.iconst 3, 1) := by decide +kernel
theorem dX7_toldOf_16 : decode cX7_toldOf 16 = .ok (.if_icmp .ne 10, 3) := by decide +kernel
theorem dX7_toldOf_19 : decode cX7_toldOf 19 = .ok (.aload_n 0, 1) := by decide +kernel
theorem dX7_toldOf_20 : decode cX7_toldOf 20 = .ok (.getfield 136, 3) := by decide +kernel
theorem dX7_toldOf_23 : decode cX7_toldOf 23 = .ok (.goto 21, 3) := by decide +kernel
theorem dX7_toldOf_26 : decode cX7_toldOf 26 = .ok (.iload_n 1, 1) := by decide +kernel
theorem dX7_toldOf_27 : decode cX7_toldOf 27 = .ok (.iconst 4, 1) := by decide +kernel
theorem dX7_toldOf_28 : decode cX7_toldOf 28 = .ok (.if_icmp .ne 12, 3) := by decide +kernel
theorem dX7_toldOf_31 : decode cX7_toldOf 31 = .ok (.aload_n 0, 1) := by decide +kernel
theorem dX7_toldOf_32 : decode cX7_toldOf 32 = .ok (.getfield 7, 3) := by decide +kernel
theorem dX7_toldOf_35 : decode cX7_toldOf 35 = .ok (.iconst 0, 1) := by decide +kernel
theorem dX7_toldOf_36 : decode cX7_toldOf 36 = .ok (.iaload, 1) := by decide +kernel
theorem dX7_toldOf_37 : decode cX7_toldOf 37 = .ok (.goto 7, 3) := by decide +kernel
theorem dX7_toldOf_40 : decode cX7_toldOf 40 = .ok (.aload_n 0, 1) := by decide +kernel
theorem dX7_toldOf_41 : decode cX7_toldOf 41 = .ok (.getfield 47, 3) := by decide +kernel
theorem dX7_toldOf_44 : decode cX7_toldOf 44 = .ok (.ireturn, 1) := by decide +kernel
theorem dX7_told_0 : decode cX7_told 0 = .ok (.iload_n 1, 1) := by decide +kernel
theorem dX7_told_1 : decode cX7_told 1 = .ok (.iconst 0, 1) := by decide +kernel
theorem dX7_told_2 : decode cX7_told 2 = .ok (.iconst 5, 1) := by decide +kernel
theorem dX7_told_3 : decode cX7_told 3 = .ok (.invokestatic 43, 3) := by decide +kernel
theorem dX7_told_6 : decode cX7_told 6 = .ok (.ifCond .eq 11, 3) := by decide +kernel
theorem dX7_told_9 : decode cX7_told 9 = .ok (.aload_n 0, 1) := by decide +kernel
theorem dX7_told_10 : decode cX7_told 10 = .ok (.iload_n 1, 1) := by decide +kernel
theorem dX7_told_11 : decode cX7_told 11 = .ok (.invokevirtual 168, 3) := by decide +kernel
theorem dX7_told_14 : decode cX7_told 14 = .ok (.goto 9, 3) := by decide +kernel
theorem dX7_told_17 : decode cX7_told 17 = .ok (.aload_n 0, 1) := by decide +kernel
theorem dX7_told_18 : decode cX7_told 18 = .ok (.bipush (-2), 2) := by decide +kernel
theorem dX7_told_20 : decode cX7_told 20 = .ok (.invokevirtual 51, 3) := by decide +kernel
theorem dX7_told_23 : decode cX7_told 23 = .ok (.ireturn, 1) := by decide +kernel
theorem dX7_mix_0 : decode cX7_mix 0 = .ok (.aload_n 0, 1) := by decide +kernel
theorem dX7_mix_1 : decode cX7_mix 1 = .ok (.ldc2_w 171, 3) := by decide +kernel
theorem dX7_mix_4 : decode cX7_mix 4 = .ok (.aload_n 0, 1) := by decide +kernel
theorem dX7_mix_5 : decode cX7_mix 5 = .ok (.getfield 173, 3) := by decide +kernel
theorem dX7_mix_8 : decode cX7_mix 8 = .ok (.lmul, 1) := by decide +kernel
theorem dX7_mix_9 : decode cX7_mix 9 = .ok (.iload_n 1, 1) := by decide +kernel
theorem dX7_mix_10 : decode cX7_mix 10 = .ok (.i2l, 1) := by decide +kernel
theorem dX7_mix_11 : decode cX7_mix 11 = .ok (.ladd, 1) := by decide +kernel
theorem dX7_mix_12 : decode cX7_mix 12 = .ok (.putfield 173, 3) := by decide +kernel
theorem dX7_mix_15 : decode cX7_mix 15 = .ok (.return_, 1) := by decide +kernel
theorem dX7_mixName_0 : decode cX7_mixName 0 = .ok (.aload_n 0, 1) := by decide +kernel
theorem dX7_mixName_1 : decode cX7_mixName 1 = .ok (.aload_n 0, 1) := by decide +kernel
theorem dX7_mixName_2 : decode cX7_mixName 2 = .ok (.getfield 25, 3) := by decide +kernel
theorem dX7_mixName_5 : decode cX7_mixName 5 = .ok (.iload_n 1, 1) := by decide +kernel
theorem dX7_mixName_6 : decode cX7_mixName 6 = .ok (.iaload, 1) := by decide +kernel
theorem dX7_mixName_7 : decode cX7_mixName 7 = .ok (.invokevirtual 177, 3) := by decide +kernel
theorem dX7_mixName_10 : decode cX7_mixName 10 = .ok (.aload_n 0, 1) := by decide +kernel
theorem dX7_mixName_11 : decode cX7_mixName 11 = .ok (.aload_n 0, 1) := by decide +kernel
theorem dX7_mixName_12 : decode cX7_mixName 12 = .ok (.iload_n 1, 1) := by decide +kernel
theorem dX7_mixName_13 : decode cX7_mixName 13 = .ok (.invokevirtual 118, 3) := by decide +kernel
theorem dX7_mixName_16 : decode cX7_mixName 16 = .ok (.invokevirtual 177, 3) := by decide +kernel
theorem dX7_mixName_19 : decode cX7_mixName 19 = .ok (.aload_n 0, 1) := by decide +kernel
theorem dX7_mixName_20 : decode cX7_mixName 20 = .ok (.aload_n 0, 1) := by decide +kernel
theorem dX7_mixName_21 : decode cX7_mixName 21 = .ok (.getfield 28, 3) := by decide +kernel
theorem dX7_mixName_24 : decode cX7_mixName 24 = .ok (.iload_n 1, 1) := by decide +kernel
theorem dX7_mixName_25 : decode cX7_mixName 25 = .ok (.iaload, 1) := by decide +kernel
theorem dX7_mixName_26 : decode cX7_mixName 26 = .ok (.invokevirtual 177, 3) := by decide +kernel
theorem dX7_mixName_29 : decode cX7_mixName 29 = .ok (.aload_n 0, 1) := by decide +kernel
theorem dX7_mixName_30 : decode cX7_mixName 30 = .ok (.aload_n 0, 1) := by decide +kernel
theorem dX7_mixName_31 : decode cX7_mixName 31 = .ok (.getfield 31, 3) := by decide +kernel
theorem dX7_mixName_34 : decode cX7_mixName 34 = .ok (.aload_n 0, 1) := by decide +kernel
theorem dX7_mixName_35 : decode cX7_mixName 35 = .ok (.getfield 28, 3) := by decide +kernel
theorem dX7_mixName_38 : decode cX7_mixName 38 = .ok (.iload_n 1, 1) := by decide +kernel
theorem dX7_mixName_39 : decode cX7_mixName 39 = .ok (.iaload, 1) := by decide +kernel
theorem dX7_mixName_40 : decode cX7_mixName 40 = .ok (.iaload, 1) := by decide +kernel
theorem dX7_mixName_41 : decode cX7_mixName 41 = .ok (.invokevirtual 177, 3) := by decide +kernel
theorem dX7_mixName_44 : decode cX7_mixName 44 = .ok (.aload_n 0, 1) := by decide +kernel
theorem dX7_mixName_45 : decode cX7_mixName 45 = .ok (.aload_n 0, 1) := by decide +kernel
theorem dX7_mixName_46 : decode cX7_mixName 46 = .ok (.getfield 34, 3) := by decide +kernel
theorem dX7_mixName_49 : decode cX7_mixName 49 = .ok (.iload_n 1, 1) := by decide +kernel
theorem dX7_mixName_50 : decode cX7_mixName 50 = .ok (.iaload, 1) := by decide +kernel
theorem dX7_mixName_51 : decode cX7_mixName 51 = .ok (.invokevirtual 177, 3) := by decide +kernel
theorem dX7_mixName_54 : decode cX7_mixName 54 = .ok (.aload_n 0, 1) := by decide +kernel
theorem dX7_mixName_55 : decode cX7_mixName 55 = .ok (.aload_n 0, 1) := by decide +kernel
theorem dX7_mixName_56 : decode cX7_mixName 56 = .ok (.getfield 37, 3) := by decide +kernel
theorem dX7_mixName_59 : decode cX7_mixName 59 = .ok (.iload_n 1, 1) := by decide +kernel
theorem dX7_mixName_60 : decode cX7_mixName 60 = .ok (.iaload, 1) := by decide +kernel
theorem dX7_mixName_61 : decode cX7_mixName 61 = .ok (.invokevirtual 177, 3) := by decide +kernel
theorem dX7_mixName_64 : decode cX7_mixName 64 = .ok (.return_, 1) := by decide +kernel
theorem dX7_digest_0 : decode cX7_digest 0 = .ok (.aload_n 0, 1) := by decide +kernel
theorem dX7_digest_1 : decode cX7_digest 1 = .ok (.ldc2_w 180, 3) := by decide +kernel
theorem dX7_digest_4 : decode cX7_digest 4 = .ok (.putfield 173, 3) := by decide +kernel
theorem dX7_digest_7 : decode cX7_digest 7 = .ok (.iconst 0, 1) := by decide +kernel
theorem dX7_digest_8 : decode cX7_digest 8 = .ok (.istore_n 1, 1) := by decide +kernel
theorem dX7_digest_9 : decode cX7_digest 9 = .ok (.iload_n 1, 1) := by decide +kernel
theorem dX7_digest_10 : decode cX7_digest 10 = .ok (.bipush 6, 2) := by decide +kernel
theorem dX7_digest_12 : decode cX7_digest 12 = .ok (.if_icmp .ge 18, 3) := by decide +kernel
theorem dX7_digest_15 : decode cX7_digest 15 = .ok (.aload_n 0, 1) := by decide +kernel
theorem dX7_digest_16 : decode cX7_digest 16 = .ok (.aload_n 0, 1) := by decide +kernel
theorem dX7_digest_17 : decode cX7_digest 17 = .ok (.iload_n 1, 1) := by decide +kernel
theorem dX7_digest_18 : decode cX7_digest 18 = .ok (.invokevirtual 168, 3) := by decide +kernel
theorem dX7_digest_21 : decode cX7_digest 21 = .ok (.invokevirtual 177, 3) := by decide +kernel
theorem dX7_digest_24 : decode cX7_digest 24 = .ok (.iinc 1 1, 3) := by decide +kernel
theorem dX7_digest_27 : decode cX7_digest 27 = .ok (.goto (-18), 3) := by decide +kernel
theorem dX7_digest_30 : decode cX7_digest 30 = .ok (.aload_n 0, 1) := by decide +kernel
theorem dX7_digest_31 : decode cX7_digest 31 = .ok (.iconst (-1), 1) := by decide +kernel
theorem dX7_digest_32 : decode cX7_digest 32 = .ok (.invokevirtual 108, 3) := by decide +kernel
theorem dX7_digest_35 : decode cX7_digest 35 = .ok (.aload_n 0, 1) := by decide +kernel
theorem dX7_digest_36 : decode cX7_digest 36 = .ok (.iconst (-1), 1) := by decide +kernel
theorem dX7_digest_37 : decode cX7_digest 37 = .ok (.invokevirtual 115, 3) := by decide +kernel
theorem dX7_digest_40 : decode cX7_digest 40 = .ok (.aload_n 0, 1) := by decide +kernel
theorem dX7_digest_41 : decode cX7_digest 41 = .ok (.iconst 2, 1) := by decide +kernel
theorem dX7_digest_42 : decode cX7_digest 42 = .ok (.invokevirtual 133, 3) := by decide +kernel
theorem dX7_digest_45 : decode cX7_digest 45 = .ok (.iconst 0, 1) := by decide +kernel
theorem dX7_digest_46 : decode cX7_digest 46 = .ok (.istore_n 1, 1) := by decide +kernel
theorem dX7_digest_47 : decode cX7_digest 47 = .ok (.iload_n 1, 1) := by decide +kernel
theorem dX7_digest_48 : decode cX7_digest 48 = .ok (.iconst 5, 1) := by decide +kernel
theorem dX7_digest_49 : decode cX7_digest 49 = .ok (.aload_n 0, 1) := by decide +kernel
theorem dX7_digest_50 : decode cX7_digest 50 = .ok (.getfield 7, 3) := by decide +kernel
theorem dX7_digest_53 : decode cX7_digest 53 = .ok (.iconst 0, 1) := by decide +kernel
theorem dX7_digest_54 : decode cX7_digest 54 = .ok (.iaload, 1) := by decide +kernel
theorem dX7_digest_55 : decode cX7_digest 55 = .ok (.imul, 1) := by decide +kernel
theorem dX7_digest_56 : decode cX7_digest 56 = .ok (.if_icmp .ge 23, 3) := by decide +kernel
theorem dX7_digest_59 : decode cX7_digest 59 = .ok (.aload_n 0, 1) := by decide +kernel
theorem dX7_digest_60 : decode cX7_digest 60 = .ok (.aload_n 0, 1) := by decide +kernel
theorem dX7_digest_61 : decode cX7_digest 61 = .ok (.iload_n 1, 1) := by decide +kernel
theorem dX7_digest_62 : decode cX7_digest 62 = .ok (.iconst 5, 1) := by decide +kernel
theorem dX7_digest_63 : decode cX7_digest 63 = .ok (.idiv, 1) := by decide +kernel
theorem dX7_digest_64 : decode cX7_digest 64 = .ok (.iload_n 1, 1) := by decide +kernel
theorem dX7_digest_65 : decode cX7_digest 65 = .ok (.iconst 5, 1) := by decide +kernel
theorem dX7_digest_66 : decode cX7_digest 66 = .ok (.irem, 1) := by decide +kernel
theorem dX7_digest_67 : decode cX7_digest 67 = .ok (.invokevirtual 111, 3) := by decide +kernel
theorem dX7_digest_70 : decode cX7_digest 70 = .ok (.invokevirtual 177, 3) := by decide +kernel
theorem dX7_digest_73 : decode cX7_digest 73 = .ok (.iinc 1 1, 3) := by decide +kernel
theorem dX7_digest_76 : decode cX7_digest 76 = .ok (.goto (-29), 3) := by decide +kernel
theorem dX7_digest_79 : decode cX7_digest 79 = .ok (.iconst 0, 1) := by decide +kernel
theorem dX7_digest_80 : decode cX7_digest 80 = .ok (.istore_n 1, 1) := by decide +kernel
theorem dX7_digest_81 : decode cX7_digest 81 = .ok (.iload_n 1, 1) := by decide +kernel
theorem dX7_digest_82 : decode cX7_digest 82 = .ok (.bipush 10, 2) := by decide +kernel
theorem dX7_digest_84 : decode cX7_digest 84 = .ok (.if_icmp .ge 14, 3) := by decide +kernel
theorem dX7_digest_87 : decode cX7_digest 87 = .ok (.aload_n 0, 1) := by decide +kernel
theorem dX7_digest_88 : decode cX7_digest 88 = .ok (.iload_n 1, 1) := by decide +kernel
theorem dX7_digest_89 : decode cX7_digest 89 = .ok (.invokevirtual 182, 3) := by decide +kernel
theorem dX7_digest_92 : decode cX7_digest 92 = .ok (.iinc 1 1, 3) := by decide +kernel
theorem dX7_digest_95 : decode cX7_digest 95 = .ok (.goto (-14), 3) := by decide +kernel
theorem dX7_digest_98 : decode cX7_digest 98 = .ok (.iconst 0, 1) := by decide +kernel
theorem dX7_digest_99 : decode cX7_digest 99 = .ok (.istore_n 1, 1) := by decide +kernel
theorem dX7_digest_100 : decode cX7_digest 100 = .ok (.iload_n 1, 1) := by decide +kernel
theorem dX7_digest_101 : decode cX7_digest 101 = .ok (.iconst 5, 1) := by decide +kernel
theorem dX7_digest_102 : decode cX7_digest 102 = .ok (.if_icmp .ge 18, 3) := by decide +kernel
theorem dX7_digest_105 : decode cX7_digest 105 = .ok (.aload_n 0, 1) := by decide +kernel
theorem dX7_digest_106 : decode cX7_digest 106 = .ok (.aload_n 0, 1) := by decide +kernel
theorem dX7_digest_107 : decode cX7_digest 107 = .ok (.iload_n 1, 1) := by decide +kernel
theorem dX7_digest_108 : decode cX7_digest 108 = .ok (.invokevirtual 124, 3) := by decide +kernel
theorem dX7_digest_111 : decode cX7_digest 111 = .ok (.invokevirtual 177, 3) := by decide +kernel
theorem dX7_digest_114 : decode cX7_digest 114 = .ok (.iinc 1 1, 3) := by decide +kernel
theorem dX7_digest_117 : decode cX7_digest 117 = .ok (.goto (-17), 3) := by decide +kernel
theorem dX7_digest_120 : decode cX7_digest 120 = .ok (.aload_n 0, 1) := by decide +kernel
theorem dX7_digest_121 : decode cX7_digest 121 = .ok (.aload_n 0, 1) := by decide +kernel
theorem dX7_digest_122 : decode cX7_digest 122 = .ok (.getfield 127, 3) := by decide +kernel
theorem dX7_digest_125 : decode cX7_digest 125 = .ok (.invokevirtual 177, 3) := by decide +kernel
theorem dX7_digest_128 : decode cX7_digest 128 = .ok (.aload_n 0, 1) := by decide +kernel
theorem dX7_digest_129 : decode cX7_digest 129 = .ok (.getfield 173, 3) := by decide +kernel
theorem dX7_digest_132 : decode cX7_digest 132 = .ok (.lreturn, 1) := by decide +kernel
theorem dJ6_bitCount_0f7a4_0 : decode cJ6_bitCount_0f7a4 0 = .ok (.iload_n 0, 1) := by decide +kernel
theorem dJ6_bitCount_0f7a4_1 : decode cJ6_bitCount_0f7a4 1 = .ok (.iload_n 0, 1) := by decide +kernel
theorem dJ6_bitCount_0f7a4_2 : decode cJ6_bitCount_0f7a4 2 = .ok (.iconst 1, 1) := by decide +kernel
theorem dJ6_bitCount_0f7a4_3 : decode cJ6_bitCount_0f7a4 3 = .ok (.iushr, 1) := by decide +kernel
theorem dJ6_bitCount_0f7a4_4 : decode cJ6_bitCount_0f7a4 4 = .ok (.ldc_w 265, 3) := by decide +kernel
theorem dJ6_bitCount_0f7a4_7 : decode cJ6_bitCount_0f7a4 7 = .ok (.iand, 1) := by decide +kernel
theorem dJ6_bitCount_0f7a4_8 : decode cJ6_bitCount_0f7a4 8 = .ok (.isub, 1) := by decide +kernel
theorem dJ6_bitCount_0f7a4_9 : decode cJ6_bitCount_0f7a4 9 = .ok (.istore_n 0, 1) := by decide +kernel
theorem dJ6_bitCount_0f7a4_10 : decode cJ6_bitCount_0f7a4 10 = .ok (.iload_n 0, 1) := by decide +kernel
theorem dJ6_bitCount_0f7a4_11 : decode cJ6_bitCount_0f7a4 11 = .ok (.ldc_w 266, 3) := by decide +kernel
theorem dJ6_bitCount_0f7a4_14 : decode cJ6_bitCount_0f7a4 14 = .ok (.iand, 1) := by decide +kernel
theorem dJ6_bitCount_0f7a4_15 : decode cJ6_bitCount_0f7a4 15 = .ok (.iload_n 0, 1) := by decide +kernel
theorem dJ6_bitCount_0f7a4_16 : decode cJ6_bitCount_0f7a4 16 = .ok (.iconst 2, 1) := by decide +kernel
theorem dJ6_bitCount_0f7a4_17 : decode cJ6_bitCount_0f7a4 17 = .ok (.iushr, 1) := by decide +kernel
theorem dJ6_bitCount_0f7a4_18 : decode cJ6_bitCount_0f7a4 18 = .ok (.ldc_w 266, 3) := by decide +kernel
theorem dJ6_bitCount_0f7a4_21 : decode cJ6_bitCount_0f7a4 21 = .ok (.iand, 1) := by decide +kernel
theorem dJ6_bitCount_0f7a4_22 : decode cJ6_bitCount_0f7a4 22 = .ok (.iadd, 1) := by decide +kernel
theorem dJ6_bitCount_0f7a4_23 : decode cJ6_bitCount_0f7a4 23 = .ok (.istore_n 0, 1) := by decide +kernel
theorem dJ6_bitCount_0f7a4_24 : decode cJ6_bitCount_0f7a4 24 = .ok (.iload_n 0, 1) := by decide +kernel
theorem dJ6_bitCount_0f7a4_25 : decode cJ6_bitCount_0f7a4 25 = .ok (.iload_n 0, 1) := by decide +kernel
theorem dJ6_bitCount_0f7a4_26 : decode cJ6_bitCount_0f7a4 26 = .ok (.iconst 4, 1) := by decide +kernel
theorem dJ6_bitCount_0f7a4_27 : decode cJ6_bitCount_0f7a4 27 = .ok (.iushr, 1) := by decide +kernel
theorem dJ6_bitCount_0f7a4_28 : decode cJ6_bitCount_0f7a4 28 = .ok (.iadd, 1) := by decide +kernel
theorem dJ6_bitCount_0f7a4_29 : decode cJ6_bitCount_0f7a4 29 = .ok (.ldc_w 267, 3) := by decide +kernel
theorem dJ6_bitCount_0f7a4_32 : decode cJ6_bitCount_0f7a4 32 = .ok (.iand, 1) := by decide +kernel
theorem dJ6_bitCount_0f7a4_33 : decode cJ6_bitCount_0f7a4 33 = .ok (.istore_n 0, 1) := by decide +kernel
theorem dJ6_bitCount_0f7a4_34 : decode cJ6_bitCount_0f7a4 34 = .ok (.iload_n 0, 1) := by decide +kernel
theorem dJ6_bitCount_0f7a4_35 : decode cJ6_bitCount_0f7a4 35 = .ok (.iload_n 0, 1) := by decide +kernel
theorem dJ6_bitCount_0f7a4_36 : decode cJ6_bitCount_0f7a4 36 = .ok (.bipush 8, 2) := by decide +kernel
theorem dJ6_bitCount_0f7a4_38 : decode cJ6_bitCount_0f7a4 38 = .ok (.iushr, 1) := by decide +kernel
theorem dJ6_bitCount_0f7a4_39 : decode cJ6_bitCount_0f7a4 39 = .ok (.iadd, 1) := by decide +kernel
theorem dJ6_bitCount_0f7a4_40 : decode cJ6_bitCount_0f7a4 40 = .ok (.istore_n 0, 1) := by decide +kernel
theorem dJ6_bitCount_0f7a4_41 : decode cJ6_bitCount_0f7a4 41 = .ok (.iload_n 0, 1) := by decide +kernel
theorem dJ6_bitCount_0f7a4_42 : decode cJ6_bitCount_0f7a4 42 = .ok (.iload_n 0, 1) := by decide +kernel
theorem dJ6_bitCount_0f7a4_43 : decode cJ6_bitCount_0f7a4 43 = .ok (.bipush 16, 2) := by decide +kernel
theorem dJ6_bitCount_0f7a4_45 : decode cJ6_bitCount_0f7a4 45 = .ok (.iushr, 1) := by decide +kernel
theorem dJ6_bitCount_0f7a4_46 : decode cJ6_bitCount_0f7a4 46 = .ok (.iadd, 1) := by decide +kernel
theorem dJ6_bitCount_0f7a4_47 : decode cJ6_bitCount_0f7a4 47 = .ok (.istore_n 0, 1) := by decide +kernel
theorem dJ6_bitCount_0f7a4_48 : decode cJ6_bitCount_0f7a4 48 = .ok (.iload_n 0, 1) := by decide +kernel
theorem dJ6_bitCount_0f7a4_49 : decode cJ6_bitCount_0f7a4 49 = .ok (.bipush 63, 2) := by decide +kernel
theorem dJ6_bitCount_0f7a4_51 : decode cJ6_bitCount_0f7a4 51 = .ok (.iand, 1) := by decide +kernel
theorem dJ6_bitCount_0f7a4_52 : decode cJ6_bitCount_0f7a4 52 = .ok (.ireturn, 1) := by decide +kernel
theorem dJ9_max_7cf53_0 : decode cJ9_max_7cf53 0 = .ok (.iload_n 0, 1) := by decide +kernel
theorem dJ9_max_7cf53_1 : decode cJ9_max_7cf53 1 = .ok (.iload_n 1, 1) := by decide +kernel
theorem dJ9_max_7cf53_2 : decode cJ9_max_7cf53 2 = .ok (.if_icmp .lt 7, 3) := by decide +kernel
theorem dJ9_max_7cf53_5 : decode cJ9_max_7cf53 5 = .ok (.iload_n 0, 1) := by decide +kernel
theorem dJ9_max_7cf53_6 : decode cJ9_max_7cf53 6 = .ok (.goto 4, 3) := by decide +kernel
theorem dJ9_max_7cf53_9 : decode cJ9_max_7cf53 9 = .ok (.iload_n 1, 1) := by decide +kernel
theorem dJ9_max_7cf53_10 : decode cJ9_max_7cf53 10 = .ok (.ireturn, 1) := by decide +kernel
theorem dJ9_min_7cf53_0 : decode cJ9_min_7cf53 0 = .ok (.iload_n 0, 1) := by decide +kernel
theorem dJ9_min_7cf53_1 : decode cJ9_min_7cf53 1 = .ok (.iload_n 1, 1) := by decide +kernel
theorem dJ9_min_7cf53_2 : decode cJ9_min_7cf53 2 = .ok (.if_icmp .gt 7, 3) := by decide +kernel
theorem dJ9_min_7cf53_5 : decode cJ9_min_7cf53 5 = .ok (.iload_n 0, 1) := by decide +kernel
theorem dJ9_min_7cf53_6 : decode cJ9_min_7cf53 6 = .ok (.goto 4, 3) := by decide +kernel
theorem dJ9_min_7cf53_9 : decode cJ9_min_7cf53 9 = .ok (.iload_n 1, 1) := by decide +kernel
theorem dJ9_min_7cf53_10 : decode cJ9_min_7cf53 10 = .ok (.ireturn, 1) := by decide +kernel
theorem dJ7_fill_53178_0 : decode cJ7_fill_53178 0 = .ok (.iconst 0, 1) := by decide +kernel
theorem dJ7_fill_53178_1 : decode cJ7_fill_53178 1 = .ok (.istore_n 2, 1) := by decide +kernel
theorem dJ7_fill_53178_2 : decode cJ7_fill_53178 2 = .ok (.aload_n 0, 1) := by decide +kernel
theorem dJ7_fill_53178_3 : decode cJ7_fill_53178 3 = .ok (.arraylength, 1) := by decide +kernel
theorem dJ7_fill_53178_4 : decode cJ7_fill_53178 4 = .ok (.istore_n 3, 1) := by decide +kernel
theorem dJ7_fill_53178_5 : decode cJ7_fill_53178 5 = .ok (.iload_n 2, 1) := by decide +kernel
theorem dJ7_fill_53178_6 : decode cJ7_fill_53178 6 = .ok (.iload_n 3, 1) := by decide +kernel
theorem dJ7_fill_53178_7 : decode cJ7_fill_53178 7 = .ok (.if_icmp .ge 13, 3) := by decide +kernel
theorem dJ7_fill_53178_10 : decode cJ7_fill_53178 10 = .ok (.aload_n 0, 1) := by decide +kernel
theorem dJ7_fill_53178_11 : decode cJ7_fill_53178 11 = .ok (.iload_n 2, 1) := by decide +kernel
theorem dJ7_fill_53178_12 : decode cJ7_fill_53178 12 = .ok (.iload_n 1, 1) := by decide +kernel
theorem dJ7_fill_53178_13 : decode cJ7_fill_53178 13 = .ok (.iastore, 1) := by decide +kernel
theorem dJ7_fill_53178_14 : decode cJ7_fill_53178 14 = .ok (.iinc 2 1, 3) := by decide +kernel
theorem dJ7_fill_53178_17 : decode cJ7_fill_53178 17 = .ok (.goto (-12), 3) := by decide +kernel
theorem dJ7_fill_53178_20 : decode cJ7_fill_53178 20 = .ok (.return_, 1) := by decide +kernel
theorem dL_law_0 : decode cL_law 0 = .ok (.new 7, 3) := by decide +kernel
theorem dL_law_3 : decode cL_law 3 = .ok (.dup, 1) := by decide +kernel
theorem dL_law_4 : decode cL_law 4 = .ok (.invokespecial 9, 3) := by decide +kernel
theorem dL_law_7 : decode cL_law 7 = .ok (.astore_n 1, 1) := by decide +kernel
theorem dL_law_8 : decode cL_law 8 = .ok (.new 10, 3) := by decide +kernel
theorem dL_law_11 : decode cL_law 11 = .ok (.dup, 1) := by decide +kernel
theorem dL_law_12 : decode cL_law 12 = .ok (.invokespecial 12, 3) := by decide +kernel
theorem dL_law_15 : decode cL_law 15 = .ok (.astore_n 2, 1) := by decide +kernel
theorem dL_law_16 : decode cL_law 16 = .ok (.iconst 0, 1) := by decide +kernel
theorem dL_law_17 : decode cL_law 17 = .ok (.istore_n 3, 1) := by decide +kernel
theorem dL_law_18 : decode cL_law 18 = .ok (.iload_n 3, 1) := by decide +kernel
theorem dL_law_19 : decode cL_law 19 = .ok (.aload_n 0, 1) := by decide +kernel
theorem dL_law_20 : decode cL_law 20 = .ok (.arraylength, 1) := by decide +kernel
theorem dL_law_21 : decode cL_law 21 = .ok (.iconst 4, 1) := by decide +kernel
theorem dL_law_22 : decode cL_law 22 = .ok (.isub, 1) := by decide +kernel
theorem dL_law_23 : decode cL_law 23 = .ok (.if_icmp .gt 679, 3) := by decide +kernel
theorem dL_law_26 : decode cL_law 26 = .ok (.aload_n 0, 1) := by decide +kernel
theorem dL_law_27 : decode cL_law 27 = .ok (.iload_n 3, 1) := by decide +kernel
theorem dL_law_28 : decode cL_law 28 = .ok (.iaload, 1) := by decide +kernel
theorem dL_law_29 : decode cL_law 29 = .ok (.bipush 31, 2) := by decide +kernel
theorem dL_law_31 : decode cL_law 31 = .ok (.iand, 1) := by decide +kernel
theorem dL_law_32 : decode cL_law 32 = .ok (.tableswitch 664 0 20 #[100, 143, 166, 199, 232, 265, 288, 311, 344, 367, 410, 453, 486, 519, 542, 565, 578, 591, 614, 627, 650], 100) := by decide +kernel
theorem dL_law_132 : decode cL_law 132 = .ok (.aload_n 1, 1) := by decide +kernel
theorem dL_law_133 : decode cL_law 133 = .ok (.aload_n 0, 1) := by decide +kernel
theorem dL_law_134 : decode cL_law 134 = .ok (.iload_n 3, 1) := by decide +kernel
theorem dL_law_135 : decode cL_law 135 = .ok (.iconst 1, 1) := by decide +kernel
theorem dL_law_136 : decode cL_law 136 = .ok (.iadd, 1) := by decide +kernel
theorem dL_law_137 : decode cL_law 137 = .ok (.iaload, 1) := by decide +kernel
theorem dL_law_138 : decode cL_law 138 = .ok (.aload_n 0, 1) := by decide +kernel
theorem dL_law_139 : decode cL_law 139 = .ok (.iload_n 3, 1) := by decide +kernel
theorem dL_law_140 : decode cL_law 140 = .ok (.iconst 2, 1) := by decide +kernel
theorem dL_law_141 : decode cL_law 141 = .ok (.iadd, 1) := by decide +kernel
theorem dL_law_142 : decode cL_law 142 = .ok (.iaload, 1) := by decide +kernel
theorem dL_law_143 : decode cL_law 143 = .ok (.aload_n 0, 1) := by decide +kernel
theorem dL_law_144 : decode cL_law 144 = .ok (.iload_n 3, 1) := by decide +kernel
theorem dL_law_145 : decode cL_law 145 = .ok (.iconst 3, 1) := by decide +kernel
theorem dL_law_146 : decode cL_law 146 = .ok (.iadd, 1) := by decide +kernel
theorem dL_law_147 : decode cL_law 147 = .ok (.iaload, 1) := by decide +kernel
theorem dL_law_148 : decode cL_law 148 = .ok (.invokevirtual 13, 3) := by decide +kernel
theorem dL_law_151 : decode cL_law 151 = .ok (.aload_n 2, 1) := by decide +kernel
theorem dL_law_152 : decode cL_law 152 = .ok (.aload_n 0, 1) := by decide +kernel
theorem dL_law_153 : decode cL_law 153 = .ok (.iload_n 3, 1) := by decide +kernel
theorem dL_law_154 : decode cL_law 154 = .ok (.iconst 1, 1) := by decide +kernel
theorem dL_law_155 : decode cL_law 155 = .ok (.iadd, 1) := by decide +kernel
theorem dL_law_156 : decode cL_law 156 = .ok (.iaload, 1) := by decide +kernel
theorem dL_law_157 : decode cL_law 157 = .ok (.aload_n 0, 1) := by decide +kernel
theorem dL_law_158 : decode cL_law 158 = .ok (.iload_n 3, 1) := by decide +kernel
theorem dL_law_159 : decode cL_law 159 = .ok (.iconst 2, 1) := by decide +kernel
theorem dL_law_160 : decode cL_law 160 = .ok (.iadd, 1) := by decide +kernel
theorem dL_law_161 : decode cL_law 161 = .ok (.iaload, 1) := by decide +kernel
theorem dL_law_162 : decode cL_law 162 = .ok (.aload_n 0, 1) := by decide +kernel
theorem dL_law_163 : decode cL_law 163 = .ok (.iload_n 3, 1) := by decide +kernel
theorem dL_law_164 : decode cL_law 164 = .ok (.iconst 3, 1) := by decide +kernel
theorem dL_law_165 : decode cL_law 165 = .ok (.iadd, 1) := by decide +kernel
theorem dL_law_166 : decode cL_law 166 = .ok (.iaload, 1) := by decide +kernel
theorem dL_law_167 : decode cL_law 167 = .ok (.invokevirtual 17, 3) := by decide +kernel
theorem dL_law_170 : decode cL_law 170 = .ok (.if_icmp .eq 526, 3) := by decide +kernel
theorem dL_law_173 : decode cL_law 173 = .ok (.iconst 0, 1) := by decide +kernel
theorem dL_law_174 : decode cL_law 174 = .ok (.ireturn, 1) := by decide +kernel
theorem dL_law_175 : decode cL_law 175 = .ok (.aload_n 1, 1) := by decide +kernel
theorem dL_law_176 : decode cL_law 176 = .ok (.aload_n 0, 1) := by decide +kernel
theorem dL_law_177 : decode cL_law 177 = .ok (.iload_n 3, 1) := by decide +kernel
theorem dL_law_178 : decode cL_law 178 = .ok (.iconst 1, 1) := by decide +kernel
theorem dL_law_179 : decode cL_law 179 = .ok (.iadd, 1) := by decide +kernel
theorem dL_law_180 : decode cL_law 180 = .ok (.iaload, 1) := by decide +kernel
theorem dL_law_181 : decode cL_law 181 = .ok (.invokevirtual 18, 3) := by decide +kernel
theorem dL_law_184 : decode cL_law 184 = .ok (.aload_n 2, 1) := by decide +kernel
theorem dL_law_185 : decode cL_law 185 = .ok (.aload_n 0, 1) := by decide +kernel
theorem dL_law_186 : decode cL_law 186 = .ok (.iload_n 3, 1) := by decide +kernel
theorem dL_law_187 : decode cL_law 187 = .ok (.iconst 1, 1) := by decide +kernel
theorem dL_law_188 : decode cL_law 188 = .ok (.iadd, 1) := by decide +kernel
theorem dL_law_189 : decode cL_law 189 = .ok (.iaload, 1) := by decide +kernel
theorem dL_law_190 : decode cL_law 190 = .ok (.invokevirtual 22, 3) := by decide +kernel
theorem dL_law_193 : decode cL_law 193 = .ok (.if_icmp .eq 503, 3) := by decide +kernel
theorem dL_law_196 : decode cL_law 196 = .ok (.iconst 0, 1) := by decide +kernel
theorem dL_law_197 : decode cL_law 197 = .ok (.ireturn, 1) := by decide +kernel
theorem dL_law_198 : decode cL_law 198 = .ok (.aload_n 1, 1) := by decide +kernel
theorem dL_law_199 : decode cL_law 199 = .ok (.aload_n 0, 1) := by decide +kernel
theorem dL_law_200 : decode cL_law 200 = .ok (.iload_n 3, 1) := by decide +kernel
theorem dL_law_201 : decode cL_law 201 = .ok (.iconst 1, 1) := by decide +kernel
theorem dL_law_202 : decode cL_law 202 = .ok (.iadd, 1) := by decide +kernel
theorem dL_law_203 : decode cL_law 203 = .ok (.iaload, 1) := by decide +kernel
theorem dL_law_204 : decode cL_law 204 = .ok (.aload_n 0, 1) := by decide +kernel
theorem dL_law_205 : decode cL_law 205 = .ok (.iload_n 3, 1) := by decide +kernel
theorem dL_law_206 : decode cL_law 206 = .ok (.iconst 2, 1) := by decide +kernel
theorem dL_law_207 : decode cL_law 207 = .ok (.iadd, 1) := by decide +kernel
theorem dL_law_208 : decode cL_law 208 = .ok (.iaload, 1) := by decide +kernel
theorem dL_law_209 : decode cL_law 209 = .ok (.invokevirtual 23, 3) := by decide +kernel
theorem dL_law_212 : decode cL_law 212 = .ok (.aload_n 2, 1) := by decide +kernel
theorem dL_law_213 : decode cL_law 213 = .ok (.aload_n 0, 1) := by decide +kernel
theorem dL_law_214 : decode cL_law 214 = .ok (.iload_n 3, 1) := by decide +kernel
theorem dL_law_215 : decode cL_law 215 = .ok (.iconst 1, 1) := by decide +kernel
theorem dL_law_216 : decode cL_law 216 = .ok (.iadd, 1) := by decide +kernel
theorem dL_law_217 : decode cL_law 217 = .ok (.iaload, 1) := by decide +kernel
theorem dL_law_218 : decode cL_law 218 = .ok (.aload_n 0, 1) := by decide +kernel
theorem dL_law_219 : decode cL_law 219 = .ok (.iload_n 3, 1) := by decide +kernel
theorem dL_law_220 : decode cL_law 220 = .ok (.iconst 2, 1) := by decide +kernel
theorem dL_law_221 : decode cL_law 221 = .ok (.iadd, 1) := by decide +kernel
theorem dL_law_222 : decode cL_law 222 = .ok (.iaload, 1) := by decide +kernel
theorem dL_law_223 : decode cL_law 223 = .ok (.invokevirtual 27, 3) := by decide +kernel
theorem dL_law_226 : decode cL_law 226 = .ok (.if_icmp .eq 470, 3) := by decide +kernel
theorem dL_law_229 : decode cL_law 229 = .ok (.iconst 0, 1) := by decide +kernel
theorem dL_law_230 : decode cL_law 230 = .ok (.ireturn, 1) := by decide +kernel
theorem dL_law_231 : decode cL_law 231 = .ok (.aload_n 1, 1) := by decide +kernel
theorem dL_law_232 : decode cL_law 232 = .ok (.aload_n 0, 1) := by decide +kernel
theorem dL_law_233 : decode cL_law 233 = .ok (.iload_n 3, 1) := by decide +kernel
theorem dL_law_234 : decode cL_law 234 = .ok (.iconst 1, 1) := by decide +kernel
theorem dL_law_235 : decode cL_law 235 = .ok (.iadd, 1) := by decide +kernel
theorem dL_law_236 : decode cL_law 236 = .ok (.iaload, 1) := by decide +kernel
theorem dL_law_237 : decode cL_law 237 = .ok (.aload_n 0, 1) := by decide +kernel
theorem dL_law_238 : decode cL_law 238 = .ok (.iload_n 3, 1) := by decide +kernel
theorem dL_law_239 : decode cL_law 239 = .ok (.iconst 2, 1) := by decide +kernel
theorem dL_law_240 : decode cL_law 240 = .ok (.iadd, 1) := by decide +kernel
theorem dL_law_241 : decode cL_law 241 = .ok (.iaload, 1) := by decide +kernel
theorem dL_law_242 : decode cL_law 242 = .ok (.invokevirtual 28, 3) := by decide +kernel
theorem dL_law_245 : decode cL_law 245 = .ok (.aload_n 2, 1) := by decide +kernel
theorem dL_law_246 : decode cL_law 246 = .ok (.aload_n 0, 1) := by decide +kernel
theorem dL_law_247 : decode cL_law 247 = .ok (.iload_n 3, 1) := by decide +kernel
theorem dL_law_248 : decode cL_law 248 = .ok (.iconst 1, 1) := by decide +kernel
theorem dL_law_249 : decode cL_law 249 = .ok (.iadd, 1) := by decide +kernel
theorem dL_law_250 : decode cL_law 250 = .ok (.iaload, 1) := by decide +kernel
theorem dL_law_251 : decode cL_law 251 = .ok (.aload_n 0, 1) := by decide +kernel
theorem dL_law_252 : decode cL_law 252 = .ok (.iload_n 3, 1) := by decide +kernel
theorem dL_law_253 : decode cL_law 253 = .ok (.iconst 2, 1) := by decide +kernel
theorem dL_law_254 : decode cL_law 254 = .ok (.iadd, 1) := by decide +kernel
theorem dL_law_255 : decode cL_law 255 = .ok (.iaload, 1) := by decide +kernel
theorem dL_law_256 : decode cL_law 256 = .ok (.invokevirtual 31, 3) := by decide +kernel
theorem dL_law_259 : decode cL_law 259 = .ok (.if_icmp .eq 437, 3) := by decide +kernel
theorem dL_law_262 : decode cL_law 262 = .ok (.iconst 0, 1) := by decide +kernel
theorem dL_law_263 : decode cL_law 263 = .ok (.ireturn, 1) := by decide +kernel
theorem dL_law_264 : decode cL_law 264 = .ok (.aload_n 1, 1) := by decide +kernel
theorem dL_law_265 : decode cL_law 265 = .ok (.aload_n 0, 1) := by decide +kernel
theorem dL_law_266 : decode cL_law 266 = .ok (.iload_n 3, 1) := by decide +kernel
theorem dL_law_267 : decode cL_law 267 = .ok (.iconst 1, 1) := by decide +kernel
theorem dL_law_268 : decode cL_law 268 = .ok (.iadd, 1) := by decide +kernel
theorem dL_law_269 : decode cL_law 269 = .ok (.iaload, 1) := by decide +kernel
theorem dL_law_270 : decode cL_law 270 = .ok (.aload_n 0, 1) := by decide +kernel
theorem dL_law_271 : decode cL_law 271 = .ok (.iload_n 3, 1) := by decide +kernel
theorem dL_law_272 : decode cL_law 272 = .ok (.iconst 2, 1) := by decide +kernel
theorem dL_law_273 : decode cL_law 273 = .ok (.iadd, 1) := by decide +kernel
theorem dL_law_274 : decode cL_law 274 = .ok (.iaload, 1) := by decide +kernel
theorem dL_law_275 : decode cL_law 275 = .ok (.invokevirtual 32, 3) := by decide +kernel
theorem dL_law_278 : decode cL_law 278 = .ok (.aload_n 2, 1) := by decide +kernel
theorem dL_law_279 : decode cL_law 279 = .ok (.aload_n 0, 1) := by decide +kernel
theorem dL_law_280 : decode cL_law 280 = .ok (.iload_n 3, 1) := by decide +kernel
theorem dL_law_281 : decode cL_law 281 = .ok (.iconst 1, 1) := by decide +kernel
theorem dL_law_282 : decode cL_law 282 = .ok (.iadd, 1) := by decide +kernel
theorem dL_law_283 : decode cL_law 283 = .ok (.iaload, 1) := by decide +kernel
theorem dL_law_284 : decode cL_law 284 = .ok (.aload_n 0, 1) := by decide +kernel
theorem dL_law_285 : decode cL_law 285 = .ok (.iload_n 3, 1) := by decide +kernel
theorem dL_law_286 : decode cL_law 286 = .ok (.iconst 2, 1) := by decide +kernel
theorem dL_law_287 : decode cL_law 287 = .ok (.iadd, 1) := by decide +kernel
theorem dL_law_288 : decode cL_law 288 = .ok (.iaload, 1) := by decide +kernel
theorem dL_law_289 : decode cL_law 289 = .ok (.invokevirtual 35, 3) := by decide +kernel
theorem dL_law_292 : decode cL_law 292 = .ok (.if_icmp .eq 404, 3) := by decide +kernel
theorem dL_law_295 : decode cL_law 295 = .ok (.iconst 0, 1) := by decide +kernel
theorem dL_law_296 : decode cL_law 296 = .ok (.ireturn, 1) := by decide +kernel
theorem dL_law_297 : decode cL_law 297 = .ok (.aload_n 1, 1) := by decide +kernel
theorem dL_law_298 : decode cL_law 298 = .ok (.aload_n 0, 1) := by decide +kernel
theorem dL_law_299 : decode cL_law 299 = .ok (.iload_n 3, 1) := by decide +kernel
theorem dL_law_300 : decode cL_law 300 = .ok (.iconst 1, 1) := by decide +kernel
theorem dL_law_301 : decode cL_law 301 = .ok (.iadd, 1) := by decide +kernel
theorem dL_law_302 : decode cL_law 302 = .ok (.iaload, 1) := by decide +kernel
theorem dL_law_303 : decode cL_law 303 = .ok (.invokevirtual 36, 3) := by decide +kernel
theorem dL_law_306 : decode cL_law 306 = .ok (.aload_n 2, 1) := by decide +kernel
theorem dL_law_307 : decode cL_law 307 = .ok (.aload_n 0, 1) := by decide +kernel
theorem dL_law_308 : decode cL_law 308 = .ok (.iload_n 3, 1) := by decide +kernel
theorem dL_law_309 : decode cL_law 309 = .ok (.iconst 1, 1) := by decide +kernel
theorem dL_law_310 : decode cL_law 310 = .ok (.iadd, 1) := by decide +kernel
theorem dL_law_311 : decode cL_law 311 = .ok (.iaload, 1) := by decide +kernel
theorem dL_law_312 : decode cL_law 312 = .ok (.invokevirtual 39, 3) := by decide +kernel
theorem dL_law_315 : decode cL_law 315 = .ok (.if_icmp .eq 381, 3) := by decide +kernel
theorem dL_law_318 : decode cL_law 318 = .ok (.iconst 0, 1) := by decide +kernel
theorem dL_law_319 : decode cL_law 319 = .ok (.ireturn, 1) := by decide +kernel
theorem dL_law_320 : decode cL_law 320 = .ok (.aload_n 1, 1) := by decide +kernel
theorem dL_law_321 : decode cL_law 321 = .ok (.aload_n 0, 1) := by decide +kernel
theorem dL_law_322 : decode cL_law 322 = .ok (.iload_n 3, 1) := by decide +kernel
theorem dL_law_323 : decode cL_law 323 = .ok (.iconst 1, 1) := by decide +kernel
theorem dL_law_324 : decode cL_law 324 = .ok (.iadd, 1) := by decide +kernel
theorem dL_law_325 : decode cL_law 325 = .ok (.iaload, 1) := by decide +kernel
theorem dL_law_326 : decode cL_law 326 = .ok (.invokevirtual 40, 3) := by decide +kernel
theorem dL_law_329 : decode cL_law 329 = .ok (.aload_n 2, 1) := by decide +kernel
theorem dL_law_330 : decode cL_law 330 = .ok (.aload_n 0, 1) := by decide +kernel
theorem dL_law_331 : decode cL_law 331 = .ok (.iload_n 3, 1) := by decide +kernel
theorem dL_law_332 : decode cL_law 332 = .ok (.iconst 1, 1) := by decide +kernel
theorem dL_law_333 : decode cL_law 333 = .ok (.iadd, 1) := by decide +kernel
theorem dL_law_334 : decode cL_law 334 = .ok (.iaload, 1) := by decide +kernel
theorem dL_law_335 : decode cL_law 335 = .ok (.invokevirtual 43, 3) := by decide +kernel
theorem dL_law_338 : decode cL_law 338 = .ok (.if_icmp .eq 358, 3) := by decide +kernel
theorem dL_law_341 : decode cL_law 341 = .ok (.iconst 0, 1) := by decide +kernel
theorem dL_law_342 : decode cL_law 342 = .ok (.ireturn, 1) := by decide +kernel
theorem dL_law_343 : decode cL_law 343 = .ok (.aload_n 1, 1) := by decide +kernel
theorem dL_law_344 : decode cL_law 344 = .ok (.aload_n 0, 1) := by decide +kernel
theorem dL_law_345 : decode cL_law 345 = .ok (.iload_n 3, 1) := by decide +kernel
theorem dL_law_346 : decode cL_law 346 = .ok (.iconst 1, 1) := by decide +kernel
theorem dL_law_347 : decode cL_law 347 = .ok (.iadd, 1) := by decide +kernel
theorem dL_law_348 : decode cL_law 348 = .ok (.iaload, 1) := by decide +kernel
theorem dL_law_349 : decode cL_law 349 = .ok (.aload_n 0, 1) := by decide +kernel
theorem dL_law_350 : decode cL_law 350 = .ok (.iload_n 3, 1) := by decide +kernel
theorem dL_law_351 : decode cL_law 351 = .ok (.iconst 2, 1) := by decide +kernel
theorem dL_law_352 : decode cL_law 352 = .ok (.iadd, 1) := by decide +kernel
theorem dL_law_353 : decode cL_law 353 = .ok (.iaload, 1) := by decide +kernel
theorem dL_law_354 : decode cL_law 354 = .ok (.invokevirtual 44, 3) := by decide +kernel
theorem dL_law_357 : decode cL_law 357 = .ok (.aload_n 2, 1) := by decide +kernel
theorem dL_law_358 : decode cL_law 358 = .ok (.aload_n 0, 1) := by decide +kernel
theorem dL_law_359 : decode cL_law 359 = .ok (.iload_n 3, 1) := by decide +kernel
theorem dL_law_360 : decode cL_law 360 = .ok (.iconst 1, 1) := by decide +kernel
theorem dL_law_361 : decode cL_law 361 = .ok (.iadd, 1) := by decide +kernel
theorem dL_law_362 : decode cL_law 362 = .ok (.iaload, 1) := by decide +kernel
theorem dL_law_363 : decode cL_law 363 = .ok (.aload_n 0, 1) := by decide +kernel
theorem dL_law_364 : decode cL_law 364 = .ok (.iload_n 3, 1) := by decide +kernel
theorem dL_law_365 : decode cL_law 365 = .ok (.iconst 2, 1) := by decide +kernel
theorem dL_law_366 : decode cL_law 366 = .ok (.iadd, 1) := by decide +kernel
theorem dL_law_367 : decode cL_law 367 = .ok (.iaload, 1) := by decide +kernel
theorem dL_law_368 : decode cL_law 368 = .ok (.invokevirtual 47, 3) := by decide +kernel
theorem dL_law_371 : decode cL_law 371 = .ok (.if_icmp .eq 325, 3) := by decide +kernel
theorem dL_law_374 : decode cL_law 374 = .ok (.iconst 0, 1) := by decide +kernel
theorem dL_law_375 : decode cL_law 375 = .ok (.ireturn, 1) := by decide +kernel
theorem dL_law_376 : decode cL_law 376 = .ok (.aload_n 1, 1) := by decide +kernel
theorem dL_law_377 : decode cL_law 377 = .ok (.aload_n 0, 1) := by decide +kernel
theorem dL_law_378 : decode cL_law 378 = .ok (.iload_n 3, 1) := by decide +kernel
theorem dL_law_379 : decode cL_law 379 = .ok (.iconst 1, 1) := by decide +kernel
theorem dL_law_380 : decode cL_law 380 = .ok (.iadd, 1) := by decide +kernel
theorem dL_law_381 : decode cL_law 381 = .ok (.iaload, 1) := by decide +kernel
theorem dL_law_382 : decode cL_law 382 = .ok (.invokevirtual 48, 3) := by decide +kernel
theorem dL_law_385 : decode cL_law 385 = .ok (.aload_n 2, 1) := by decide +kernel
theorem dL_law_386 : decode cL_law 386 = .ok (.aload_n 0, 1) := by decide +kernel
theorem dL_law_387 : decode cL_law 387 = .ok (.iload_n 3, 1) := by decide +kernel
theorem dL_law_388 : decode cL_law 388 = .ok (.iconst 1, 1) := by decide +kernel
theorem dL_law_389 : decode cL_law 389 = .ok (.iadd, 1) := by decide +kernel
theorem dL_law_390 : decode cL_law 390 = .ok (.iaload, 1) := by decide +kernel
theorem dL_law_391 : decode cL_law 391 = .ok (.invokevirtual 51, 3) := by decide +kernel
theorem dL_law_394 : decode cL_law 394 = .ok (.if_icmp .eq 302, 3) := by decide +kernel
theorem dL_law_397 : decode cL_law 397 = .ok (.iconst 0, 1) := by decide +kernel
theorem dL_law_398 : decode cL_law 398 = .ok (.ireturn, 1) := by decide +kernel
theorem dL_law_399 : decode cL_law 399 = .ok (.aload_n 1, 1) := by decide +kernel
theorem dL_law_400 : decode cL_law 400 = .ok (.aload_n 0, 1) := by decide +kernel
theorem dL_law_401 : decode cL_law 401 = .ok (.iload_n 3, 1) := by decide +kernel
theorem dL_law_402 : decode cL_law 402 = .ok (.iconst 1, 1) := by decide +kernel
theorem dL_law_403 : decode cL_law 403 = .ok (.iadd, 1) := by decide +kernel
theorem dL_law_404 : decode cL_law 404 = .ok (.iaload, 1) := by decide +kernel
theorem dL_law_405 : decode cL_law 405 = .ok (.aload_n 0, 1) := by decide +kernel
theorem dL_law_406 : decode cL_law 406 = .ok (.iload_n 3, 1) := by decide +kernel
theorem dL_law_407 : decode cL_law 407 = .ok (.iconst 2, 1) := by decide +kernel
theorem dL_law_408 : decode cL_law 408 = .ok (.iadd, 1) := by decide +kernel
theorem dL_law_409 : decode cL_law 409 = .ok (.iaload, 1) := by decide +kernel
theorem dL_law_410 : decode cL_law 410 = .ok (.aload_n 0, 1) := by decide +kernel
theorem dL_law_411 : decode cL_law 411 = .ok (.iload_n 3, 1) := by decide +kernel
theorem dL_law_412 : decode cL_law 412 = .ok (.iconst 3, 1) := by decide +kernel
theorem dL_law_413 : decode cL_law 413 = .ok (.iadd, 1) := by decide +kernel
theorem dL_law_414 : decode cL_law 414 = .ok (.iaload, 1) := by decide +kernel
theorem dL_law_415 : decode cL_law 415 = .ok (.invokevirtual 52, 3) := by decide +kernel
theorem dL_law_418 : decode cL_law 418 = .ok (.aload_n 2, 1) := by decide +kernel
theorem dL_law_419 : decode cL_law 419 = .ok (.aload_n 0, 1) := by decide +kernel
theorem dL_law_420 : decode cL_law 420 = .ok (.iload_n 3, 1) := by decide +kernel
theorem dL_law_421 : decode cL_law 421 = .ok (.iconst 1, 1) := by decide +kernel
theorem dL_law_422 : decode cL_law 422 = .ok (.iadd, 1) := by decide +kernel
theorem dL_law_423 : decode cL_law 423 = .ok (.iaload, 1) := by decide +kernel
theorem dL_law_424 : decode cL_law 424 = .ok (.aload_n 0, 1) := by decide +kernel
theorem dL_law_425 : decode cL_law 425 = .ok (.iload_n 3, 1) := by decide +kernel
theorem dL_law_426 : decode cL_law 426 = .ok (.iconst 2, 1) := by decide +kernel
theorem dL_law_427 : decode cL_law 427 = .ok (.iadd, 1) := by decide +kernel
theorem dL_law_428 : decode cL_law 428 = .ok (.iaload, 1) := by decide +kernel
theorem dL_law_429 : decode cL_law 429 = .ok (.aload_n 0, 1) := by decide +kernel
theorem dL_law_430 : decode cL_law 430 = .ok (.iload_n 3, 1) := by decide +kernel
theorem dL_law_431 : decode cL_law 431 = .ok (.iconst 3, 1) := by decide +kernel
theorem dL_law_432 : decode cL_law 432 = .ok (.iadd, 1) := by decide +kernel
theorem dL_law_433 : decode cL_law 433 = .ok (.iaload, 1) := by decide +kernel
theorem dL_law_434 : decode cL_law 434 = .ok (.invokevirtual 55, 3) := by decide +kernel
theorem dL_law_437 : decode cL_law 437 = .ok (.if_icmp .eq 259, 3) := by decide +kernel
theorem dL_law_440 : decode cL_law 440 = .ok (.iconst 0, 1) := by decide +kernel
theorem dL_law_441 : decode cL_law 441 = .ok (.ireturn, 1) := by decide +kernel
theorem dL_law_442 : decode cL_law 442 = .ok (.aload_n 1, 1) := by decide +kernel
theorem dL_law_443 : decode cL_law 443 = .ok (.aload_n 0, 1) := by decide +kernel
theorem dL_law_444 : decode cL_law 444 = .ok (.iload_n 3, 1) := by decide +kernel
theorem dL_law_445 : decode cL_law 445 = .ok (.iconst 1, 1) := by decide +kernel
theorem dL_law_446 : decode cL_law 446 = .ok (.iadd, 1) := by decide +kernel
theorem dL_law_447 : decode cL_law 447 = .ok (.iaload, 1) := by decide +kernel
theorem dL_law_448 : decode cL_law 448 = .ok (.aload_n 0, 1) := by decide +kernel
theorem dL_law_449 : decode cL_law 449 = .ok (.iload_n 3, 1) := by decide +kernel
theorem dL_law_450 : decode cL_law 450 = .ok (.iconst 2, 1) := by decide +kernel
theorem dL_law_451 : decode cL_law 451 = .ok (.iadd, 1) := by decide +kernel
theorem dL_law_452 : decode cL_law 452 = .ok (.iaload, 1) := by decide +kernel
theorem dL_law_453 : decode cL_law 453 = .ok (.aload_n 0, 1) := by decide +kernel
theorem dL_law_454 : decode cL_law 454 = .ok (.iload_n 3, 1) := by decide +kernel
theorem dL_law_455 : decode cL_law 455 = .ok (.iconst 3, 1) := by decide +kernel
theorem dL_law_456 : decode cL_law 456 = .ok (.iadd, 1) := by decide +kernel
theorem dL_law_457 : decode cL_law 457 = .ok (.iaload, 1) := by decide +kernel
theorem dL_law_458 : decode cL_law 458 = .ok (.invokevirtual 56, 3) := by decide +kernel
theorem dL_law_461 : decode cL_law 461 = .ok (.aload_n 2, 1) := by decide +kernel
theorem dL_law_462 : decode cL_law 462 = .ok (.aload_n 0, 1) := by decide +kernel
theorem dL_law_463 : decode cL_law 463 = .ok (.iload_n 3, 1) := by decide +kernel
theorem dL_law_464 : decode cL_law 464 = .ok (.iconst 1, 1) := by decide +kernel
theorem dL_law_465 : decode cL_law 465 = .ok (.iadd, 1) := by decide +kernel
theorem dL_law_466 : decode cL_law 466 = .ok (.iaload, 1) := by decide +kernel
theorem dL_law_467 : decode cL_law 467 = .ok (.aload_n 0, 1) := by decide +kernel
theorem dL_law_468 : decode cL_law 468 = .ok (.iload_n 3, 1) := by decide +kernel
theorem dL_law_469 : decode cL_law 469 = .ok (.iconst 2, 1) := by decide +kernel
theorem dL_law_470 : decode cL_law 470 = .ok (.iadd, 1) := by decide +kernel
theorem dL_law_471 : decode cL_law 471 = .ok (.iaload, 1) := by decide +kernel
theorem dL_law_472 : decode cL_law 472 = .ok (.aload_n 0, 1) := by decide +kernel
theorem dL_law_473 : decode cL_law 473 = .ok (.iload_n 3, 1) := by decide +kernel
theorem dL_law_474 : decode cL_law 474 = .ok (.iconst 3, 1) := by decide +kernel
theorem dL_law_475 : decode cL_law 475 = .ok (.iadd, 1) := by decide +kernel
theorem dL_law_476 : decode cL_law 476 = .ok (.iaload, 1) := by decide +kernel
theorem dL_law_477 : decode cL_law 477 = .ok (.invokevirtual 59, 3) := by decide +kernel
theorem dL_law_480 : decode cL_law 480 = .ok (.if_icmp .eq 216, 3) := by decide +kernel
theorem dL_law_483 : decode cL_law 483 = .ok (.iconst 0, 1) := by decide +kernel
theorem dL_law_484 : decode cL_law 484 = .ok (.ireturn, 1) := by decide +kernel
theorem dL_law_485 : decode cL_law 485 = .ok (.aload_n 1, 1) := by decide +kernel
theorem dL_law_486 : decode cL_law 486 = .ok (.aload_n 0, 1) := by decide +kernel
theorem dL_law_487 : decode cL_law 487 = .ok (.iload_n 3, 1) := by decide +kernel
theorem dL_law_488 : decode cL_law 488 = .ok (.iconst 1, 1) := by decide +kernel
theorem dL_law_489 : decode cL_law 489 = .ok (.iadd, 1) := by decide +kernel
theorem dL_law_490 : decode cL_law 490 = .ok (.iaload, 1) := by decide +kernel
theorem dL_law_491 : decode cL_law 491 = .ok (.aload_n 0, 1) := by decide +kernel
theorem dL_law_492 : decode cL_law 492 = .ok (.iload_n 3, 1) := by decide +kernel
theorem dL_law_493 : decode cL_law 493 = .ok (.iconst 2, 1) := by decide +kernel
theorem dL_law_494 : decode cL_law 494 = .ok (.iadd, 1) := by decide +kernel
theorem dL_law_495 : decode cL_law 495 = .ok (.iaload, 1) := by decide +kernel
theorem dL_law_496 : decode cL_law 496 = .ok (.invokevirtual 60, 3) := by decide +kernel
theorem dL_law_499 : decode cL_law 499 = .ok (.aload_n 2, 1) := by decide +kernel
theorem dL_law_500 : decode cL_law 500 = .ok (.aload_n 0, 1) := by decide +kernel
theorem dL_law_501 : decode cL_law 501 = .ok (.iload_n 3, 1) := by decide +kernel
theorem dL_law_502 : decode cL_law 502 = .ok (.iconst 1, 1) := by decide +kernel
theorem dL_law_503 : decode cL_law 503 = .ok (.iadd, 1) := by decide +kernel
theorem dL_law_504 : decode cL_law 504 = .ok (.iaload, 1) := by decide +kernel
theorem dL_law_505 : decode cL_law 505 = .ok (.aload_n 0, 1) := by decide +kernel
theorem dL_law_506 : decode cL_law 506 = .ok (.iload_n 3, 1) := by decide +kernel
theorem dL_law_507 : decode cL_law 507 = .ok (.iconst 2, 1) := by decide +kernel
theorem dL_law_508 : decode cL_law 508 = .ok (.iadd, 1) := by decide +kernel
theorem dL_law_509 : decode cL_law 509 = .ok (.iaload, 1) := by decide +kernel
theorem dL_law_510 : decode cL_law 510 = .ok (.invokevirtual 63, 3) := by decide +kernel
theorem dL_law_513 : decode cL_law 513 = .ok (.if_icmp .eq 183, 3) := by decide +kernel
theorem dL_law_516 : decode cL_law 516 = .ok (.iconst 0, 1) := by decide +kernel
theorem dL_law_517 : decode cL_law 517 = .ok (.ireturn, 1) := by decide +kernel
theorem dL_law_518 : decode cL_law 518 = .ok (.aload_n 1, 1) := by decide +kernel
theorem dL_law_519 : decode cL_law 519 = .ok (.aload_n 0, 1) := by decide +kernel
theorem dL_law_520 : decode cL_law 520 = .ok (.iload_n 3, 1) := by decide +kernel
theorem dL_law_521 : decode cL_law 521 = .ok (.iconst 1, 1) := by decide +kernel
theorem dL_law_522 : decode cL_law 522 = .ok (.iadd, 1) := by decide +kernel
theorem dL_law_523 : decode cL_law 523 = .ok (.iaload, 1) := by decide +kernel
theorem dL_law_524 : decode cL_law 524 = .ok (.aload_n 0, 1) := by decide +kernel
theorem dL_law_525 : decode cL_law 525 = .ok (.iload_n 3, 1) := by decide +kernel
theorem dL_law_526 : decode cL_law 526 = .ok (.iconst 2, 1) := by decide +kernel
theorem dL_law_527 : decode cL_law 527 = .ok (.iadd, 1) := by decide +kernel
theorem dL_law_528 : decode cL_law 528 = .ok (.iaload, 1) := by decide +kernel
theorem dL_law_529 : decode cL_law 529 = .ok (.invokevirtual 64, 3) := by decide +kernel
theorem dL_law_532 : decode cL_law 532 = .ok (.aload_n 2, 1) := by decide +kernel
theorem dL_law_533 : decode cL_law 533 = .ok (.aload_n 0, 1) := by decide +kernel
theorem dL_law_534 : decode cL_law 534 = .ok (.iload_n 3, 1) := by decide +kernel
theorem dL_law_535 : decode cL_law 535 = .ok (.iconst 1, 1) := by decide +kernel
theorem dL_law_536 : decode cL_law 536 = .ok (.iadd, 1) := by decide +kernel
theorem dL_law_537 : decode cL_law 537 = .ok (.iaload, 1) := by decide +kernel
theorem dL_law_538 : decode cL_law 538 = .ok (.aload_n 0, 1) := by decide +kernel
theorem dL_law_539 : decode cL_law 539 = .ok (.iload_n 3, 1) := by decide +kernel
theorem dL_law_540 : decode cL_law 540 = .ok (.iconst 2, 1) := by decide +kernel
theorem dL_law_541 : decode cL_law 541 = .ok (.iadd, 1) := by decide +kernel
theorem dL_law_542 : decode cL_law 542 = .ok (.iaload, 1) := by decide +kernel
theorem dL_law_543 : decode cL_law 543 = .ok (.invokevirtual 67, 3) := by decide +kernel
theorem dL_law_546 : decode cL_law 546 = .ok (.if_icmp .eq 150, 3) := by decide +kernel
theorem dL_law_549 : decode cL_law 549 = .ok (.iconst 0, 1) := by decide +kernel
theorem dL_law_550 : decode cL_law 550 = .ok (.ireturn, 1) := by decide +kernel
theorem dL_law_551 : decode cL_law 551 = .ok (.aload_n 1, 1) := by decide +kernel
theorem dL_law_552 : decode cL_law 552 = .ok (.aload_n 0, 1) := by decide +kernel
theorem dL_law_553 : decode cL_law 553 = .ok (.iload_n 3, 1) := by decide +kernel
theorem dL_law_554 : decode cL_law 554 = .ok (.iconst 1, 1) := by decide +kernel
theorem dL_law_555 : decode cL_law 555 = .ok (.iadd, 1) := by decide +kernel
theorem dL_law_556 : decode cL_law 556 = .ok (.iaload, 1) := by decide +kernel
theorem dL_law_557 : decode cL_law 557 = .ok (.invokevirtual 68, 3) := by decide +kernel
theorem dL_law_560 : decode cL_law 560 = .ok (.aload_n 2, 1) := by decide +kernel
theorem dL_law_561 : decode cL_law 561 = .ok (.aload_n 0, 1) := by decide +kernel
theorem dL_law_562 : decode cL_law 562 = .ok (.iload_n 3, 1) := by decide +kernel
theorem dL_law_563 : decode cL_law 563 = .ok (.iconst 1, 1) := by decide +kernel
theorem dL_law_564 : decode cL_law 564 = .ok (.iadd, 1) := by decide +kernel
theorem dL_law_565 : decode cL_law 565 = .ok (.iaload, 1) := by decide +kernel
theorem dL_law_566 : decode cL_law 566 = .ok (.invokevirtual 71, 3) := by decide +kernel
theorem dL_law_569 : decode cL_law 569 = .ok (.if_icmp .eq 127, 3) := by decide +kernel
theorem dL_law_572 : decode cL_law 572 = .ok (.iconst 0, 1) := by decide +kernel
theorem dL_law_573 : decode cL_law 573 = .ok (.ireturn, 1) := by decide +kernel
theorem dL_law_574 : decode cL_law 574 = .ok (.aload_n 1, 1) := by decide +kernel
theorem dL_law_575 : decode cL_law 575 = .ok (.aload_n 0, 1) := by decide +kernel
theorem dL_law_576 : decode cL_law 576 = .ok (.iload_n 3, 1) := by decide +kernel
theorem dL_law_577 : decode cL_law 577 = .ok (.iconst 1, 1) := by decide +kernel
theorem dL_law_578 : decode cL_law 578 = .ok (.iadd, 1) := by decide +kernel
theorem dL_law_579 : decode cL_law 579 = .ok (.iaload, 1) := by decide +kernel
theorem dL_law_580 : decode cL_law 580 = .ok (.invokevirtual 72, 3) := by decide +kernel
theorem dL_law_583 : decode cL_law 583 = .ok (.aload_n 2, 1) := by decide +kernel
theorem dL_law_584 : decode cL_law 584 = .ok (.aload_n 0, 1) := by decide +kernel
theorem dL_law_585 : decode cL_law 585 = .ok (.iload_n 3, 1) := by decide +kernel
theorem dL_law_586 : decode cL_law 586 = .ok (.iconst 1, 1) := by decide +kernel
theorem dL_law_587 : decode cL_law 587 = .ok (.iadd, 1) := by decide +kernel
theorem dL_law_588 : decode cL_law 588 = .ok (.iaload, 1) := by decide +kernel
theorem dL_law_589 : decode cL_law 589 = .ok (.invokevirtual 75, 3) := by decide +kernel
theorem dL_law_592 : decode cL_law 592 = .ok (.if_icmp .eq 104, 3) := by decide +kernel
theorem dL_law_595 : decode cL_law 595 = .ok (.iconst 0, 1) := by decide +kernel
theorem dL_law_596 : decode cL_law 596 = .ok (.ireturn, 1) := by decide +kernel
theorem dL_law_597 : decode cL_law 597 = .ok (.aload_n 1, 1) := by decide +kernel
theorem dL_law_598 : decode cL_law 598 = .ok (.invokevirtual 76, 3) := by decide +kernel
theorem dL_law_601 : decode cL_law 601 = .ok (.aload_n 2, 1) := by decide +kernel
theorem dL_law_602 : decode cL_law 602 = .ok (.invokevirtual 80, 3) := by decide +kernel
theorem dL_law_605 : decode cL_law 605 = .ok (.if_icmp .eq 91, 3) := by decide +kernel
theorem dL_law_608 : decode cL_law 608 = .ok (.iconst 0, 1) := by decide +kernel
theorem dL_law_609 : decode cL_law 609 = .ok (.ireturn, 1) := by decide +kernel
theorem dL_law_610 : decode cL_law 610 = .ok (.aload_n 1, 1) := by decide +kernel
theorem dL_law_611 : decode cL_law 611 = .ok (.invokevirtual 81, 3) := by decide +kernel
theorem dL_law_614 : decode cL_law 614 = .ok (.aload_n 2, 1) := by decide +kernel
theorem dL_law_615 : decode cL_law 615 = .ok (.invokevirtual 84, 3) := by decide +kernel
theorem dL_law_618 : decode cL_law 618 = .ok (.if_icmp .eq 78, 3) := by decide +kernel
theorem dL_law_621 : decode cL_law 621 = .ok (.iconst 0, 1) := by decide +kernel
theorem dL_law_622 : decode cL_law 622 = .ok (.ireturn, 1) := by decide +kernel
theorem dL_law_623 : decode cL_law 623 = .ok (.aload_n 1, 1) := by decide +kernel
theorem dL_law_624 : decode cL_law 624 = .ok (.aload_n 0, 1) := by decide +kernel
theorem dL_law_625 : decode cL_law 625 = .ok (.iload_n 3, 1) := by decide +kernel
theorem dL_law_626 : decode cL_law 626 = .ok (.iconst 1, 1) := by decide +kernel
theorem dL_law_627 : decode cL_law 627 = .ok (.iadd, 1) := by decide +kernel
theorem dL_law_628 : decode cL_law 628 = .ok (.iaload, 1) := by decide +kernel
theorem dL_law_629 : decode cL_law 629 = .ok (.invokevirtual 85, 3) := by decide +kernel
theorem dL_law_632 : decode cL_law 632 = .ok (.aload_n 2, 1) := by decide +kernel
theorem dL_law_633 : decode cL_law 633 = .ok (.aload_n 0, 1) := by decide +kernel
theorem dL_law_634 : decode cL_law 634 = .ok (.iload_n 3, 1) := by decide +kernel
theorem dL_law_635 : decode cL_law 635 = .ok (.iconst 1, 1) := by decide +kernel
theorem dL_law_636 : decode cL_law 636 = .ok (.iadd, 1) := by decide +kernel
theorem dL_law_637 : decode cL_law 637 = .ok (.iaload, 1) := by decide +kernel
theorem dL_law_638 : decode cL_law 638 = .ok (.invokevirtual 88, 3) := by decide +kernel
theorem dL_law_641 : decode cL_law 641 = .ok (.if_icmp .eq 55, 3) := by decide +kernel
theorem dL_law_644 : decode cL_law 644 = .ok (.iconst 0, 1) := by decide +kernel
theorem dL_law_645 : decode cL_law 645 = .ok (.ireturn, 1) := by decide +kernel
theorem dL_law_646 : decode cL_law 646 = .ok (.aload_n 1, 1) := by decide +kernel
theorem dL_law_647 : decode cL_law 647 = .ok (.invokevirtual 89, 3) := by decide +kernel
theorem dL_law_650 : decode cL_law 650 = .ok (.aload_n 2, 1) := by decide +kernel
theorem dL_law_651 : decode cL_law 651 = .ok (.invokevirtual 92, 3) := by decide +kernel
theorem dL_law_654 : decode cL_law 654 = .ok (.if_icmp .eq 42, 3) := by decide +kernel
theorem dL_law_657 : decode cL_law 657 = .ok (.iconst 0, 1) := by decide +kernel
theorem dL_law_658 : decode cL_law 658 = .ok (.ireturn, 1) := by decide +kernel
theorem dL_law_659 : decode cL_law 659 = .ok (.aload_n 1, 1) := by decide +kernel
theorem dL_law_660 : decode cL_law 660 = .ok (.aload_n 0, 1) := by decide +kernel
theorem dL_law_661 : decode cL_law 661 = .ok (.iload_n 3, 1) := by decide +kernel
theorem dL_law_662 : decode cL_law 662 = .ok (.iconst 1, 1) := by decide +kernel
theorem dL_law_663 : decode cL_law 663 = .ok (.iadd, 1) := by decide +kernel
theorem dL_law_664 : decode cL_law 664 = .ok (.iaload, 1) := by decide +kernel
theorem dL_law_665 : decode cL_law 665 = .ok (.invokevirtual 93, 3) := by decide +kernel
theorem dL_law_668 : decode cL_law 668 = .ok (.aload_n 2, 1) := by decide +kernel
theorem dL_law_669 : decode cL_law 669 = .ok (.aload_n 0, 1) := by decide +kernel
theorem dL_law_670 : decode cL_law 670 = .ok (.iload_n 3, 1) := by decide +kernel
theorem dL_law_671 : decode cL_law 671 = .ok (.iconst 1, 1) := by decide +kernel
theorem dL_law_672 : decode cL_law 672 = .ok (.iadd, 1) := by decide +kernel
theorem dL_law_673 : decode cL_law 673 = .ok (.iaload, 1) := by decide +kernel
theorem dL_law_674 : decode cL_law 674 = .ok (.invokevirtual 96, 3) := by decide +kernel
theorem dL_law_677 : decode cL_law 677 = .ok (.if_icmp .eq 19, 3) := by decide +kernel
theorem dL_law_680 : decode cL_law 680 = .ok (.iconst 0, 1) := by decide +kernel
theorem dL_law_681 : decode cL_law 681 = .ok (.ireturn, 1) := by decide +kernel
theorem dL_law_682 : decode cL_law 682 = .ok (.aload_n 1, 1) := by decide +kernel
theorem dL_law_683 : decode cL_law 683 = .ok (.invokevirtual 97, 3) := by decide +kernel
theorem dL_law_686 : decode cL_law 686 = .ok (.aload_n 2, 1) := by decide +kernel
theorem dL_law_687 : decode cL_law 687 = .ok (.invokevirtual 101, 3) := by decide +kernel
theorem dL_law_690 : decode cL_law 690 = .ok (.lcmp, 1) := by decide +kernel
theorem dL_law_691 : decode cL_law 691 = .ok (.ifCond .eq 5, 3) := by decide +kernel
theorem dL_law_694 : decode cL_law 694 = .ok (.iconst 0, 1) := by decide +kernel
theorem dL_law_695 : decode cL_law 695 = .ok (.ireturn, 1) := by decide +kernel
theorem dL_law_696 : decode cL_law 696 = .ok (.iinc 3 4, 3) := by decide +kernel
theorem dL_law_699 : decode cL_law 699 = .ok (.goto (-681), 3) := by decide +kernel
theorem dL_law_702 : decode cL_law 702 = .ok (.iconst 1, 1) := by decide +kernel
theorem dL_law_703 : decode cL_law 703 = .ok (.ireturn, 1) := by decide +kernel
end
section
/-- the words of the tables that a call hands on -/
def lw_g : List Cond := lw_tbl.filter goodWord
theorem lw_gi {w : Cond} (i : Nat) (h : lw_tbl[i]? = some w) (hg : goodWord w = true) : w ∈ lw_g := List.mem_filter.mpr ⟨List.mem_of_getElem? h, hg⟩
theorem lw_gg : GoodIn lw_g lw_g := fun w h => ⟨h, good_of_word (List.mem_filter.mp h).2⟩
theorem lw_gc {y : MethodName} {cc : ByteArray} {n : Nat} {r : Option FieldType} (h : Cond.code y cc n r ∈ lw_g) : GoodIn lw_g (.code y cc n r :: lw_g) := fun w hw => (List.mem_cons.mp hw).elim (fun e => by subst e; exact lw_gg _ h) (lw_gg w)
theorem wn_L : (Cond.initialized RL) ∈ lw_g := lw_gi 65 (by decide +kernel) rfl
theorem wn_X6 : (Cond.initialized RX6) ∈ lw_g := lw_gi 66 (by decide +kernel) rfl
theorem wn_X2 : (Cond.initialized RX2) ∈ lw_g := lw_gi 67 (by decide +kernel) rfl
theorem wn_X4 : (Cond.initialized RX4) ∈ lw_g := lw_gi 68 (by decide +kernel) rfl
theorem wn_X5 : (Cond.initialized RX5) ∈ lw_g := lw_gi 69 (by decide +kernel) rfl
theorem wn_X1 : (Cond.initialized RX1) ∈ lw_g := lw_gi 70 (by decide +kernel) rfl
theorem wn_X0 : (Cond.initialized RX0) ∈ lw_g := lw_gi 71 (by decide +kernel) rfl
theorem wn_X3 : (Cond.initialized RX3) ∈ lw_g := lw_gi 72 (by decide +kernel) rfl
theorem wn_X7 : (Cond.initialized RX7) ∈ lw_g := lw_gi 73 (by decide +kernel) rfl
theorem wn_System : (Cond.initialized "java/lang/System") ∈ lw_g := lw_gi 74 (by decide +kernel) rfl
theorem wn_J7 : (Cond.initialized RJ7) ∈ lw_g := lw_gi 75 (by decide +kernel) rfl
theorem wn_Math : (Cond.initialized "java/lang/Math") ∈ lw_g := lw_gi 76 (by decide +kernel) rfl
theorem wn_J6 : (Cond.initialized RJ6) ∈ lw_g := lw_gi 77 (by decide +kernel) rfl
theorem wcl_L_7 : (Cond.classLink RL 7 RX6) ∈ lw_g := lw_gi 78 (by decide +kernel) rfl
theorem wins_X6 : (Cond.instantiable RX6 9) ∈ lw_g := lw_gi 79 (by decide +kernel) rfl
theorem wm_L_9 : (Cond.methodLink RL 9 yX6_init) ∈ lw_g := lw_gi 80 (by decide +kernel) rfl
theorem wi_X6_init : (Cond.instanceMethod yX6_init) ∈ lw_g := lw_gi 81 (by decide +kernel) rfl
set_option maxRecDepth 20000 in
theorem wc_X6_init : (Cond.code yX6_init cX6_init 1 none) ∈ lw_g := lw_gi 82 rfl rfl
theorem wm_X6_1 : (Cond.methodLink RX6 1 objectInit) ∈ lw_g := lw_gi 83 (by decide +kernel) rfl
theorem wi_obj : (Cond.instanceMethod objectInit) ∈ lw_g := lw_gi 84 (by decide +kernel) rfl
set_option maxRecDepth 20000 in
theorem wc_obj : (Cond.code objectInit ⟨#[0xb1]⟩ 1 none) ∈ lw_g := lw_gi 85 rfl rfl
theorem wcl_X6_7 : (Cond.classLink RX6 7 RX2) ∈ lw_g := lw_gi 86 (by decide +kernel) rfl
theorem wins_X2 : (Cond.instantiable RX2 2) ∈ lw_g := lw_gi 87 (by decide +kernel) rfl
theorem wi_X2_init : (Cond.instanceMethod yX2_init) ∈ lw_g := lw_gi 89 (by decide +kernel) rfl
set_option maxRecDepth 20000 in
theorem wc_X2_init : (Cond.code yX2_init cX2_init 1 none) ∈ lw_g := lw_gi 90 rfl rfl
theorem wm_X2_3 : (Cond.methodLink RX2 3 objectInit) ∈ lw_g := lw_gi 91 (by decide +kernel) rfl
theorem wf_X2_9 : (Cond.fieldLink RX2 9 (TX2 0).1 (TX2 0).2.1 (TX2 0).2.2.1) ∈ lw_g := lw_gi 92 (by decide +kernel) rfl
theorem wf_X2_15 : (Cond.fieldLink RX2 15 (TX2 1).1 (TX2 1).2.1 (TX2 1).2.2.1) ∈ lw_g := lw_gi 93 (by decide +kernel) rfl
theorem wa_int : (Cond.arrayClass .int) ∈ lw_g := lw_gi 99 (by decide +kernel) rfl
theorem wcl_X6_16 : (Cond.classLink RX6 16 RX4) ∈ lw_g := lw_gi 100 (by decide +kernel) rfl
theorem wins_X4 : (Cond.instantiable RX4 2) ∈ lw_g := lw_gi 101 (by decide +kernel) rfl
theorem wm_X6_18 : (Cond.methodLink RX6 18 yX4_init) ∈ lw_g := lw_gi 102 (by decide +kernel) rfl
theorem wi_X4_init : (Cond.instanceMethod yX4_init) ∈ lw_g := lw_gi 103 (by decide +kernel) rfl
set_option maxRecDepth 20000 in
theorem wc_X4_init : (Cond.code yX4_init cX4_init 2 none) ∈ lw_g := lw_gi 104 rfl rfl
theorem wm_X4_3 : (Cond.methodLink RX4 3 objectInit) ∈ lw_g := lw_gi 105 (by decide +kernel) rfl
theorem wcl_X4_9 : (Cond.classLink RX4 9 RX2) ∈ lw_g := lw_gi 106 (by decide +kernel) rfl
theorem wf_X4_11 : (Cond.fieldLink RX4 11 (TX4 0).1 (TX4 0).2.1 (TX4 0).2.2.1) ∈ lw_g := lw_gi 109 (by decide +kernel) rfl
theorem wf_X4_18 : (Cond.fieldLink RX4 18 (TX4 1).1 (TX4 1).2.1 (TX4 1).2.2.1) ∈ lw_g := lw_gi 110 (by decide +kernel) rfl
theorem wcl_X6_23 : (Cond.classLink RX6 23 RX5) ∈ lw_g := lw_gi 116 (by decide +kernel) rfl
theorem wins_X5 : (Cond.instantiable RX5 6) ∈ lw_g := lw_gi 117 (by decide +kernel) rfl
theorem wi_X5_init : (Cond.instanceMethod yX5_init) ∈ lw_g := lw_gi 119 (by decide +kernel) rfl
set_option maxRecDepth 20000 in
theorem wc_X5_init : (Cond.code yX5_init cX5_init 1 none) ∈ lw_g := lw_gi 120 rfl rfl
theorem wm_X5_3 : (Cond.methodLink RX5 3 objectInit) ∈ lw_g := lw_gi 121 (by decide +kernel) rfl
theorem wcl_X5_15 : (Cond.classLink RX5 15 RX2) ∈ lw_g := lw_gi 122 (by decide +kernel) rfl
theorem wf_X5_9 : (Cond.fieldLink RX5 9 (TX5 0).1 (TX5 0).2.1 (TX5 0).2.2.1) ∈ lw_g := lw_gi 124 (by decide +kernel) rfl
theorem wf_X5_18 : (Cond.fieldLink RX5 18 (TX5 1).1 (TX5 1).2.1 (TX5 1).2.2.1) ∈ lw_g := lw_gi 125 (by decide +kernel) rfl
theorem wf_X5_22 : (Cond.fieldLink RX5 22 (TX5 2).1 (TX5 2).2.1 (TX5 2).2.2.1) ∈ lw_g := lw_gi 126 (by decide +kernel) rfl
theorem wf_X5_40 : (Cond.fieldLink RX5 40 (TX5 3).1 (TX5 3).2.1 (TX5 3).2.2.1) ∈ lw_g := lw_gi 127 (by decide +kernel) rfl
theorem wf_X5_56 : (Cond.fieldLink RX5 56 (TX5 4).1 (TX5 4).2.1 (TX5 4).2.2.1) ∈ lw_g := lw_gi 128 (by decide +kernel) rfl
theorem wf_X5_63 : (Cond.fieldLink RX5 63 (TX5 5).1 (TX5 5).2.1 (TX5 5).2.2.1) ∈ lw_g := lw_gi 129 (by decide +kernel) rfl
theorem wcl_X6_30 : (Cond.classLink RX6 30 RX1) ∈ lw_g := lw_gi 143 (by decide +kernel) rfl
theorem wins_X1 : (Cond.instantiable RX1 1) ∈ lw_g := lw_gi 144 (by decide +kernel) rfl
theorem wi_X1_init : (Cond.instanceMethod yX1_init) ∈ lw_g := lw_gi 146 (by decide +kernel) rfl
set_option maxRecDepth 20000 in
theorem wc_X1_init : (Cond.code yX1_init cX1_init 1 none) ∈ lw_g := lw_gi 147 rfl rfl
theorem wm_X1_3 : (Cond.methodLink RX1 3 objectInit) ∈ lw_g := lw_gi 148 (by decide +kernel) rfl
theorem wf_X1_9 : (Cond.fieldLink RX1 9 (TX1 0).1 (TX1 0).2.1 (TX1 0).2.2.1) ∈ lw_g := lw_gi 149 (by decide +kernel) rfl
theorem wcl_X6_37 : (Cond.classLink RX6 37 RX0) ∈ lw_g := lw_gi 153 (by decide +kernel) rfl
theorem wins_X0 : (Cond.instantiable RX0 2) ∈ lw_g := lw_gi 154 (by decide +kernel) rfl
theorem wi_X0_init : (Cond.instanceMethod yX0_init) ∈ lw_g := lw_gi 156 (by decide +kernel) rfl
set_option maxRecDepth 20000 in
theorem wc_X0_init : (Cond.code yX0_init cX0_init 1 none) ∈ lw_g := lw_gi 157 rfl rfl
theorem wm_X0_3 : (Cond.methodLink RX0 3 objectInit) ∈ lw_g := lw_gi 158 (by decide +kernel) rfl
theorem wf_X0_9 : (Cond.fieldLink RX0 9 (TX0 0).1 (TX0 0).2.1 (TX0 0).2.2.1) ∈ lw_g := lw_gi 159 (by decide +kernel) rfl
theorem wf_X0_15 : (Cond.fieldLink RX0 15 (TX0 1).1 (TX0 1).2.1 (TX0 1).2.2.1) ∈ lw_g := lw_gi 160 (by decide +kernel) rfl
theorem wcl_X6_44 : (Cond.classLink RX6 44 RX3) ∈ lw_g := lw_gi 166 (by decide +kernel) rfl
theorem wins_X3 : (Cond.instantiable RX3 3) ∈ lw_g := lw_gi 167 (by decide +kernel) rfl
theorem wi_X3_init : (Cond.instanceMethod yX3_init) ∈ lw_g := lw_gi 169 (by decide +kernel) rfl
set_option maxRecDepth 20000 in
theorem wc_X3_init : (Cond.code yX3_init cX3_init 1 none) ∈ lw_g := lw_gi 170 rfl rfl
theorem wm_X3_3 : (Cond.methodLink RX3 3 objectInit) ∈ lw_g := lw_gi 171 (by decide +kernel) rfl
theorem wf_X3_9 : (Cond.fieldLink RX3 9 (TX3 0).1 (TX3 0).2.1 (TX3 0).2.2.1) ∈ lw_g := lw_gi 172 (by decide +kernel) rfl
theorem wf_X3_15 : (Cond.fieldLink RX3 15 (TX3 1).1 (TX3 1).2.1 (TX3 1).2.2.1) ∈ lw_g := lw_gi 173 (by decide +kernel) rfl
theorem wf_X3_18 : (Cond.fieldLink RX3 18 (TX3 2).1 (TX3 2).2.1 (TX3 2).2.2.1) ∈ lw_g := lw_gi 174 (by decide +kernel) rfl
theorem wf_X6_10 : (Cond.fieldLink RX6 10 (TX6 0).1 (TX6 0).2.1 (TX6 0).2.2.1) ∈ lw_g := lw_gi 182 (by decide +kernel) rfl
theorem wf_X6_19 : (Cond.fieldLink RX6 19 (TX6 1).1 (TX6 1).2.1 (TX6 1).2.2.1) ∈ lw_g := lw_gi 183 (by decide +kernel) rfl
theorem wf_X6_26 : (Cond.fieldLink RX6 26 (TX6 2).1 (TX6 2).2.1 (TX6 2).2.2.1) ∈ lw_g := lw_gi 184 (by decide +kernel) rfl
theorem wf_X6_33 : (Cond.fieldLink RX6 33 (TX6 3).1 (TX6 3).2.1 (TX6 3).2.2.1) ∈ lw_g := lw_gi 185 (by decide +kernel) rfl
theorem wf_X6_40 : (Cond.fieldLink RX6 40 (TX6 4).1 (TX6 4).2.1 (TX6 4).2.2.1) ∈ lw_g := lw_gi 186 (by decide +kernel) rfl
theorem wf_X6_47 : (Cond.fieldLink RX6 47 (TX6 5).1 (TX6 5).2.1 (TX6 5).2.2.1) ∈ lw_g := lw_gi 187 (by decide +kernel) rfl
theorem wf_X6_185 : (Cond.fieldLink RX6 185 (TX6 6).1 (TX6 6).2.1 (TX6 6).2.2.1) ∈ lw_g := lw_gi 188 (by decide +kernel) rfl
theorem wf_X6_189 : (Cond.fieldLink RX6 189 (TX6 7).1 (TX6 7).2.1 (TX6 7).2.2.1) ∈ lw_g := lw_gi 189 (by decide +kernel) rfl
theorem wf_X6_192 : (Cond.fieldLink RX6 192 (TX6 8).1 (TX6 8).2.1 (TX6 8).2.2.1) ∈ lw_g := lw_gi 190 (by decide +kernel) rfl
theorem wm_L_13 : (Cond.methodLink RL 13 yX6_line) ∈ lw_g := lw_gi 210 (by decide +kernel) rfl
theorem wi_X6_line : (Cond.instanceMethod yX6_line) ∈ lw_g := lw_gi 211 (by decide +kernel) rfl
theorem wsel_X6_line : (Cond.selects RX6 yX6_line yX6_line) ∈ lw_g := lw_gi 212 (by decide +kernel) rfl
set_option maxRecDepth 20000 in
theorem wc_X6_line : (Cond.code yX6_line cX6_line 4 (some .int)) ∈ lw_g := lw_gi 213 rfl rfl
theorem wm_X6_51 : (Cond.methodLink RX6 51 yX6_below) ∈ lw_g := lw_gi 214 (by decide +kernel) rfl
theorem wt_X6_below : (Cond.static yX6_below) ∈ lw_g := lw_gi 215 (by decide +kernel) rfl
set_option maxRecDepth 20000 in
theorem wc_X6_below : (Cond.code yX6_below cX6_below 2 (some .boolean)) ∈ lw_g := lw_gi 216 rfl rfl
theorem wm_X6_55 : (Cond.methodLink RX6 55 yX6_isName) ∈ lw_g := lw_gi 217 (by decide +kernel) rfl
theorem wt_X6_isName : (Cond.static yX6_isName) ∈ lw_g := lw_gi 218 (by decide +kernel) rfl
set_option maxRecDepth 20000 in
theorem wc_X6_isName : (Cond.code yX6_isName cX6_isName 1 (some .boolean)) ∈ lw_g := lw_gi 219 rfl rfl
theorem wm_X6_59 : (Cond.methodLink RX6 59 yX6_refuseBad) ∈ lw_g := lw_gi 220 (by decide +kernel) rfl
theorem wi_X6_refuseBad : (Cond.instanceMethod yX6_refuseBad) ∈ lw_g := lw_gi 222 (by decide +kernel) rfl
set_option maxRecDepth 20000 in
theorem wc_X6_refuseBad : (Cond.code yX6_refuseBad cX6_refuseBad 1 (some .int)) ∈ lw_g := lw_gi 223 rfl rfl
theorem wm_X6_63 : (Cond.methodLink RX6 63 yX2_size) ∈ lw_g := lw_gi 224 (by decide +kernel) rfl
theorem wi_X2_size : (Cond.instanceMethod yX2_size) ∈ lw_g := lw_gi 225 (by decide +kernel) rfl
theorem wsel_X2_size : (Cond.selects RX2 yX2_size yX2_size) ∈ lw_g := lw_gi 226 (by decide +kernel) rfl
set_option maxRecDepth 20000 in
theorem wc_X2_size : (Cond.code yX2_size cX2_size 1 (some .int)) ∈ lw_g := lw_gi 227 rfl rfl
theorem wm_X6_66 : (Cond.methodLink RX6 66 yX6_refuseFull) ∈ lw_g := lw_gi 228 (by decide +kernel) rfl
theorem wi_X6_refuseFull : (Cond.instanceMethod yX6_refuseFull) ∈ lw_g := lw_gi 230 (by decide +kernel) rfl
set_option maxRecDepth 20000 in
theorem wc_X6_refuseFull : (Cond.code yX6_refuseFull cX6_refuseFull 1 (some .int)) ∈ lw_g := lw_gi 231 rfl rfl
theorem wm_X6_69 : (Cond.methodLink RX6 69 yX4_keep) ∈ lw_g := lw_gi 232 (by decide +kernel) rfl
theorem wi_X4_keep : (Cond.instanceMethod yX4_keep) ∈ lw_g := lw_gi 233 (by decide +kernel) rfl
theorem wsel_X4_keep : (Cond.selects RX4 yX4_keep yX4_keep) ∈ lw_g := lw_gi 234 (by decide +kernel) rfl
set_option maxRecDepth 20000 in
theorem wc_X4_keep : (Cond.code yX4_keep cX4_keep 2 none) ∈ lw_g := lw_gi 235 rfl rfl
theorem wm_X4_22 : (Cond.methodLink RX4 22 yX4_loseOldest) ∈ lw_g := lw_gi 236 (by decide +kernel) rfl
theorem wi_X4_loseOldest : (Cond.instanceMethod yX4_loseOldest) ∈ lw_g := lw_gi 238 (by decide +kernel) rfl
set_option maxRecDepth 20000 in
theorem wc_X4_loseOldest : (Cond.code yX4_loseOldest cX4_loseOldest 3 none) ∈ lw_g := lw_gi 239 rfl rfl
theorem wm_X4_25 : (Cond.methodLink RX4 25 yX2_copyFrom) ∈ lw_g := lw_gi 240 (by decide +kernel) rfl
theorem wi_X2_copyFrom : (Cond.instanceMethod yX2_copyFrom) ∈ lw_g := lw_gi 241 (by decide +kernel) rfl
theorem wsel_X2_copyFrom : (Cond.selects RX2 yX2_copyFrom yX2_copyFrom) ∈ lw_g := lw_gi 242 (by decide +kernel) rfl
set_option maxRecDepth 20000 in
theorem wc_X2_copyFrom : (Cond.code yX2_copyFrom cX2_copyFrom 2 none) ∈ lw_g := lw_gi 243 rfl rfl
theorem wm_X2_23 : (Cond.methodLink RX2 23 arraycopyName) ∈ lw_g := lw_gi 244 (by decide +kernel) rfl
theorem wt_arraycopy : (Cond.static arraycopyName) ∈ lw_g := lw_gi 245 (by decide +kernel) rfl
theorem wnat_arraycopy : (Cond.native arraycopyName) ∈ lw_g := lw_gi 246 (by decide +kernel) rfl
theorem wm_X6_73 : (Cond.methodLink RX6 73 yX2_append) ∈ lw_g := lw_gi 247 (by decide +kernel) rfl
theorem wi_X2_append : (Cond.instanceMethod yX2_append) ∈ lw_g := lw_gi 248 (by decide +kernel) rfl
theorem wsel_X2_append : (Cond.selects RX2 yX2_append yX2_append) ∈ lw_g := lw_gi 249 (by decide +kernel) rfl
set_option maxRecDepth 20000 in
theorem wc_X2_append : (Cond.code yX2_append cX2_append 4 none) ∈ lw_g := lw_gi 250 rfl rfl
theorem wm_L_18 : (Cond.methodLink RL 18 yX6_drops) ∈ lw_g := lw_gi 251 (by decide +kernel) rfl
theorem wi_X6_drops : (Cond.instanceMethod yX6_drops) ∈ lw_g := lw_gi 252 (by decide +kernel) rfl
theorem wsel_X6_drops : (Cond.selects RX6 yX6_drops yX6_drops) ∈ lw_g := lw_gi 253 (by decide +kernel) rfl
set_option maxRecDepth 20000 in
theorem wc_X6_drops : (Cond.code yX6_drops cX6_drops 2 (some .int)) ∈ lw_g := lw_gi 254 rfl rfl
theorem wm_X6_77 : (Cond.methodLink RX6 77 yX6_isLine) ∈ lw_g := lw_gi 255 (by decide +kernel) rfl
theorem wi_X6_isLine : (Cond.instanceMethod yX6_isLine) ∈ lw_g := lw_gi 257 (by decide +kernel) rfl
set_option maxRecDepth 20000 in
theorem wc_X6_isLine : (Cond.code yX6_isLine cX6_isLine 2 (some .boolean)) ∈ lw_g := lw_gi 258 rfl rfl
theorem wm_X6_80 : (Cond.methodLink RX6 80 yX2_removeAt) ∈ lw_g := lw_gi 259 (by decide +kernel) rfl
theorem wi_X2_removeAt : (Cond.instanceMethod yX2_removeAt) ∈ lw_g := lw_gi 260 (by decide +kernel) rfl
theorem wsel_X2_removeAt : (Cond.selects RX2 yX2_removeAt yX2_removeAt) ∈ lw_g := lw_gi 261 (by decide +kernel) rfl
set_option maxRecDepth 20000 in
theorem wc_X2_removeAt : (Cond.code yX2_removeAt cX2_removeAt 2 none) ∈ lw_g := lw_gi 262 rfl rfl
theorem wm_X2_19 : (Cond.methodLink RX2 19 yX2_moveTo) ∈ lw_g := lw_gi 263 (by decide +kernel) rfl
theorem wi_X2_moveTo : (Cond.instanceMethod yX2_moveTo) ∈ lw_g := lw_gi 264 (by decide +kernel) rfl
theorem wsel_X2_moveTo : (Cond.selects RX2 yX2_moveTo yX2_moveTo) ∈ lw_g := lw_gi 265 (by decide +kernel) rfl
set_option maxRecDepth 20000 in
theorem wc_X2_moveTo : (Cond.code yX2_moveTo cX2_moveTo 5 none) ∈ lw_g := lw_gi 266 rfl rfl
theorem wm_L_23 : (Cond.methodLink RL 23 yX6_moves) ∈ lw_g := lw_gi 267 (by decide +kernel) rfl
theorem wi_X6_moves : (Cond.instanceMethod yX6_moves) ∈ lw_g := lw_gi 268 (by decide +kernel) rfl
theorem wsel_X6_moves : (Cond.selects RX6 yX6_moves yX6_moves) ∈ lw_g := lw_gi 269 (by decide +kernel) rfl
set_option maxRecDepth 20000 in
theorem wc_X6_moves : (Cond.code yX6_moves cX6_moves 3 (some .int)) ∈ lw_g := lw_gi 270 rfl rfl
theorem wm_X6_84 : (Cond.methodLink RX6 84 yX2_moveTo) ∈ lw_g := lw_gi 271 (by decide +kernel) rfl
theorem wm_L_28 : (Cond.methodLink RL 28 yX6_of) ∈ lw_g := lw_gi 272 (by decide +kernel) rfl
theorem wi_X6_of : (Cond.instanceMethod yX6_of) ∈ lw_g := lw_gi 273 (by decide +kernel) rfl
theorem wsel_X6_of : (Cond.selects RX6 yX6_of yX6_of) ∈ lw_g := lw_gi 274 (by decide +kernel) rfl
set_option maxRecDepth 20000 in
theorem wc_X6_of : (Cond.code yX6_of cX6_of 3 (some .int)) ∈ lw_g := lw_gi 275 rfl rfl
theorem wm_X6_88 : (Cond.methodLink RX6 88 yX1_solve) ∈ lw_g := lw_gi 276 (by decide +kernel) rfl
theorem wi_X1_solve : (Cond.instanceMethod yX1_solve) ∈ lw_g := lw_gi 277 (by decide +kernel) rfl
theorem wsel_X1_solve : (Cond.selects RX1 yX1_solve yX1_solve) ∈ lw_g := lw_gi 278 (by decide +kernel) rfl
set_option maxRecDepth 20000 in
theorem wc_X1_solve : (Cond.code yX1_solve cX1_solve 6 none) ∈ lw_g := lw_gi 279 rfl rfl
theorem wm_X1_21 : (Cond.methodLink RX1 21 yJ7_fill_53178) ∈ lw_g := lw_gi 280 (by decide +kernel) rfl
theorem wt_J7_fill : (Cond.static yJ7_fill_53178) ∈ lw_g := lw_gi 281 (by decide +kernel) rfl
set_option maxRecDepth 20000 in
theorem wc_J7_fill : (Cond.code yJ7_fill_53178 cJ7_fill_53178 4 none) ∈ lw_g := lw_gi 282 rfl rfl
theorem wm_X1_27 : (Cond.methodLink RX1 27 yX2_size) ∈ lw_g := lw_gi 283 (by decide +kernel) rfl
theorem wm_X1_33 : (Cond.methodLink RX1 33 yX1_apply) ∈ lw_g := lw_gi 284 (by decide +kernel) rfl
theorem wi_X1_apply : (Cond.instanceMethod yX1_apply) ∈ lw_g := lw_gi 286 (by decide +kernel) rfl
set_option maxRecDepth 20000 in
theorem wc_X1_apply : (Cond.code yX1_apply cX1_apply 5 (some .boolean)) ∈ lw_g := lw_gi 287 rfl rfl
theorem wm_X1_37 : (Cond.methodLink RX1 37 yX2_leftAt) ∈ lw_g := lw_gi 288 (by decide +kernel) rfl
theorem wi_X2_leftAt : (Cond.instanceMethod yX2_leftAt) ∈ lw_g := lw_gi 289 (by decide +kernel) rfl
theorem wsel_X2_leftAt : (Cond.selects RX2 yX2_leftAt yX2_leftAt) ∈ lw_g := lw_gi 290 (by decide +kernel) rfl
set_option maxRecDepth 20000 in
theorem wc_X2_leftAt : (Cond.code yX2_leftAt cX2_leftAt 2 (some .int)) ∈ lw_g := lw_gi 291 rfl rfl
theorem wm_X1_40 : (Cond.methodLink RX1 40 yX2_rightAt) ∈ lw_g := lw_gi 292 (by decide +kernel) rfl
theorem wi_X2_rightAt : (Cond.instanceMethod yX2_rightAt) ∈ lw_g := lw_gi 293 (by decide +kernel) rfl
theorem wsel_X2_rightAt : (Cond.selects RX2 yX2_rightAt yX2_rightAt) ∈ lw_g := lw_gi 294 (by decide +kernel) rfl
set_option maxRecDepth 20000 in
theorem wc_X2_rightAt : (Cond.code yX2_rightAt cX2_rightAt 2 (some .int)) ∈ lw_g := lw_gi 295 rfl rfl
theorem wm_X1_43 : (Cond.methodLink RX1 43 yX2_sortAt) ∈ lw_g := lw_gi 296 (by decide +kernel) rfl
theorem wi_X2_sortAt : (Cond.instanceMethod yX2_sortAt) ∈ lw_g := lw_gi 297 (by decide +kernel) rfl
theorem wsel_X2_sortAt : (Cond.selects RX2 yX2_sortAt yX2_sortAt) ∈ lw_g := lw_gi 298 (by decide +kernel) rfl
set_option maxRecDepth 20000 in
theorem wc_X2_sortAt : (Cond.code yX2_sortAt cX2_sortAt 2 (some .int)) ∈ lw_g := lw_gi 299 rfl rfl
theorem wt_X6_bit : (Cond.static yX6_bit) ∈ lw_g := lw_gi 301 (by decide +kernel) rfl
set_option maxRecDepth 20000 in
theorem wc_X6_bit : (Cond.code yX6_bit cX6_bit 1 (some .int)) ∈ lw_g := lw_gi 302 rfl rfl
theorem wm_X1_49 : (Cond.methodLink RX1 49 yX1_grow) ∈ lw_g := lw_gi 303 (by decide +kernel) rfl
theorem wi_X1_grow : (Cond.instanceMethod yX1_grow) ∈ lw_g := lw_gi 305 (by decide +kernel) rfl
set_option maxRecDepth 20000 in
theorem wc_X1_grow : (Cond.code yX1_grow cX1_grow 4 (some .boolean)) ∈ lw_g := lw_gi 306 rfl rfl
theorem wm_X1_53 : (Cond.methodLink RX1 53 yX1_unionOver) ∈ lw_g := lw_gi 307 (by decide +kernel) rfl
theorem wi_X1_unionOver : (Cond.instanceMethod yX1_unionOver) ∈ lw_g := lw_gi 309 (by decide +kernel) rfl
set_option maxRecDepth 20000 in
theorem wc_X1_unionOver : (Cond.code yX1_unionOver cX1_unionOver 4 (some .int)) ∈ lw_g := lw_gi 310 rfl rfl
theorem wt_X6_hasBit : (Cond.static yX6_hasBit) ∈ lw_g := lw_gi 312 (by decide +kernel) rfl
set_option maxRecDepth 20000 in
theorem wc_X6_hasBit : (Cond.code yX6_hasBit cX6_hasBit 2 (some .boolean)) ∈ lw_g := lw_gi 313 rfl rfl
theorem wm_X6_182 : (Cond.methodLink RX6 182 yX6_bit) ∈ lw_g := lw_gi 314 (by decide +kernel) rfl
theorem wm_X1_56 : (Cond.methodLink RX1 56 yX1_growAll) ∈ lw_g := lw_gi 315 (by decide +kernel) rfl
theorem wi_X1_growAll : (Cond.instanceMethod yX1_growAll) ∈ lw_g := lw_gi 317 (by decide +kernel) rfl
set_option maxRecDepth 20000 in
theorem wc_X1_growAll : (Cond.code yX1_growAll cX1_growAll 5 (some .boolean)) ∈ lw_g := lw_gi 318 rfl rfl
theorem wm_X6_92 : (Cond.methodLink RX6 92 yX6_lineDetail) ∈ lw_g := lw_gi 319 (by decide +kernel) rfl
theorem wi_X6_lineDetail : (Cond.instanceMethod yX6_lineDetail) ∈ lw_g := lw_gi 321 (by decide +kernel) rfl
set_option maxRecDepth 20000 in
theorem wc_X6_lineDetail : (Cond.code yX6_lineDetail cX6_lineDetail 3 (some .int)) ∈ lw_g := lw_gi 322 rfl rfl
theorem wm_X6_195 : (Cond.methodLink RX6 195 yX2_sortAt) ∈ lw_g := lw_gi 323 (by decide +kernel) rfl
theorem wm_X6_198 : (Cond.methodLink RX6 198 yX2_leftAt) ∈ lw_g := lw_gi 324 (by decide +kernel) rfl
theorem wm_X6_201 : (Cond.methodLink RX6 201 yX2_rightAt) ∈ lw_g := lw_gi 325 (by decide +kernel) rfl
theorem wm_X6_204 : (Cond.methodLink RX6 204 yX6_writesOf) ∈ lw_g := lw_gi 326 (by decide +kernel) rfl
theorem wi_X6_writesOf : (Cond.instanceMethod yX6_writesOf) ∈ lw_g := lw_gi 328 (by decide +kernel) rfl
set_option maxRecDepth 20000 in
theorem wc_X6_writesOf : (Cond.code yX6_writesOf cX6_writesOf 3 (some .int)) ∈ lw_g := lw_gi 329 rfl rfl
theorem wm_X6_103 : (Cond.methodLink RX6 103 yX1_setOf) ∈ lw_g := lw_gi 330 (by decide +kernel) rfl
theorem wi_X1_setOf : (Cond.instanceMethod yX1_setOf) ∈ lw_g := lw_gi 331 (by decide +kernel) rfl
theorem wsel_X1_setOf : (Cond.selects RX1 yX1_setOf yX1_setOf) ∈ lw_g := lw_gi 332 (by decide +kernel) rfl
set_option maxRecDepth 20000 in
theorem wc_X1_setOf : (Cond.code yX1_setOf cX1_setOf 2 (some .int)) ∈ lw_g := lw_gi 333 rfl rfl
theorem wm_X6_207 : (Cond.methodLink RX6 207 yX6_readsOf) ∈ lw_g := lw_gi 334 (by decide +kernel) rfl
theorem wi_X6_readsOf : (Cond.instanceMethod yX6_readsOf) ∈ lw_g := lw_gi 336 (by decide +kernel) rfl
set_option maxRecDepth 20000 in
theorem wc_X6_readsOf : (Cond.code yX6_readsOf cX6_readsOf 4 (some .int)) ∈ lw_g := lw_gi 337 rfl rfl
theorem wm_L_32 : (Cond.methodLink RL 32 yX6_clash) ∈ lw_g := lw_gi 338 (by decide +kernel) rfl
theorem wi_X6_clash : (Cond.instanceMethod yX6_clash) ∈ lw_g := lw_gi 339 (by decide +kernel) rfl
theorem wsel_X6_clash : (Cond.selects RX6 yX6_clash yX6_clash) ∈ lw_g := lw_gi 340 (by decide +kernel) rfl
set_option maxRecDepth 20000 in
theorem wc_X6_clash : (Cond.code yX6_clash cX6_clash 3 (some .int)) ∈ lw_g := lw_gi 341 rfl rfl
theorem wm_X6_96 : (Cond.methodLink RX6 96 yX6_disturbs) ∈ lw_g := lw_gi 342 (by decide +kernel) rfl
theorem wi_X6_disturbs : (Cond.instanceMethod yX6_disturbs) ∈ lw_g := lw_gi 344 (by decide +kernel) rfl
set_option maxRecDepth 20000 in
theorem wc_X6_disturbs : (Cond.code yX6_disturbs cX6_disturbs 3 (some .boolean)) ∈ lw_g := lw_gi 345 rfl rfl
theorem wm_X6_99 : (Cond.methodLink RX6 99 yX6_asNumber) ∈ lw_g := lw_gi 346 (by decide +kernel) rfl
theorem wt_X6_asNumber : (Cond.static yX6_asNumber) ∈ lw_g := lw_gi 347 (by decide +kernel) rfl
set_option maxRecDepth 20000 in
theorem wc_X6_asNumber : (Cond.code yX6_asNumber cX6_asNumber 1 (some .int)) ∈ lw_g := lw_gi 348 rfl rfl
theorem wm_L_36 : (Cond.methodLink RL 36 yX6_fine) ∈ lw_g := lw_gi 349 (by decide +kernel) rfl
theorem wi_X6_fine : (Cond.instanceMethod yX6_fine) ∈ lw_g := lw_gi 350 (by decide +kernel) rfl
theorem wsel_X6_fine : (Cond.selects RX6 yX6_fine yX6_fine) ∈ lw_g := lw_gi 351 (by decide +kernel) rfl
set_option maxRecDepth 20000 in
theorem wc_X6_fine : (Cond.code yX6_fine cX6_fine 2 (some .int)) ∈ lw_g := lw_gi 352 rfl rfl
theorem wm_L_40 : (Cond.methodLink RL 40 yX6_coarse) ∈ lw_g := lw_gi 353 (by decide +kernel) rfl
theorem wi_X6_coarse : (Cond.instanceMethod yX6_coarse) ∈ lw_g := lw_gi 354 (by decide +kernel) rfl
theorem wsel_X6_coarse : (Cond.selects RX6 yX6_coarse yX6_coarse) ∈ lw_g := lw_gi 355 (by decide +kernel) rfl
set_option maxRecDepth 20000 in
theorem wc_X6_coarse : (Cond.code yX6_coarse cX6_coarse 2 (some .int)) ∈ lw_g := lw_gi 356 rfl rfl
theorem wm_X6_107 : (Cond.methodLink RX6 107 yX0_solve) ∈ lw_g := lw_gi 357 (by decide +kernel) rfl
theorem wi_X0_solve : (Cond.instanceMethod yX0_solve) ∈ lw_g := lw_gi 358 (by decide +kernel) rfl
theorem wsel_X0_solve : (Cond.selects RX0 yX0_solve yX0_solve) ∈ lw_g := lw_gi 359 (by decide +kernel) rfl
set_option maxRecDepth 20000 in
theorem wc_X0_solve : (Cond.code yX0_solve cX0_solve 6 none) ∈ lw_g := lw_gi 360 rfl rfl
theorem wm_X0_37 : (Cond.methodLink RX0 37 yX2_size) ∈ lw_g := lw_gi 361 (by decide +kernel) rfl
theorem wm_X0_43 : (Cond.methodLink RX0 43 yX0_apply) ∈ lw_g := lw_gi 362 (by decide +kernel) rfl
theorem wi_X0_apply : (Cond.instanceMethod yX0_apply) ∈ lw_g := lw_gi 364 (by decide +kernel) rfl
set_option maxRecDepth 20000 in
theorem wc_X0_apply : (Cond.code yX0_apply cX0_apply 5 (some .boolean)) ∈ lw_g := lw_gi 365 rfl rfl
theorem wm_X0_47 : (Cond.methodLink RX0 47 yX2_leftAt) ∈ lw_g := lw_gi 366 (by decide +kernel) rfl
theorem wm_X0_50 : (Cond.methodLink RX0 50 yX2_rightAt) ∈ lw_g := lw_gi 367 (by decide +kernel) rfl
theorem wm_X0_53 : (Cond.methodLink RX0 53 yX2_sortAt) ∈ lw_g := lw_gi 368 (by decide +kernel) rfl
theorem wm_X0_56 : (Cond.methodLink RX0 56 yX0_point) ∈ lw_g := lw_gi 369 (by decide +kernel) rfl
theorem wi_X0_point : (Cond.instanceMethod yX0_point) ∈ lw_g := lw_gi 371 (by decide +kernel) rfl
set_option maxRecDepth 20000 in
theorem wc_X0_point : (Cond.code yX0_point cX0_point 3 (some .boolean)) ∈ lw_g := lw_gi 372 rfl rfl
theorem wm_X0_63 : (Cond.methodLink RX0 63 yX0_join) ∈ lw_g := lw_gi 373 (by decide +kernel) rfl
theorem wi_X0_join : (Cond.instanceMethod yX0_join) ∈ lw_g := lw_gi 375 (by decide +kernel) rfl
set_option maxRecDepth 20000 in
theorem wc_X0_join : (Cond.code yX0_join cX0_join 8 none) ∈ lw_g := lw_gi 376 rfl rfl
theorem wm_X0_67 : (Cond.methodLink RX0 67 Lib.Math.min.name) ∈ lw_g := lw_gi 377 (by decide +kernel) rfl
theorem wt_Math_min : (Cond.static Lib.Math.min.name) ∈ lw_g := lw_gi 378 (by decide +kernel) rfl
set_option maxRecDepth 20000 in
theorem wc_Math_min : (Cond.code Lib.Math.min.name Lib.Math.min.code 2 (some .int)) ∈ lw_g := lw_gi 379 rfl rfl
theorem wm_X0_73 : (Cond.methodLink RX0 73 Lib.Math.max.name) ∈ lw_g := lw_gi 380 (by decide +kernel) rfl
theorem wt_Math_max : (Cond.static Lib.Math.max.name) ∈ lw_g := lw_gi 381 (by decide +kernel) rfl
set_option maxRecDepth 20000 in
theorem wc_Math_max : (Cond.code Lib.Math.max.name Lib.Math.max.code 2 (some .int)) ∈ lw_g := lw_gi 382 rfl rfl
theorem wm_X0_76 : (Cond.methodLink RX0 76 yX0_rename) ∈ lw_g := lw_gi 383 (by decide +kernel) rfl
theorem wi_X0_rename : (Cond.instanceMethod yX0_rename) ∈ lw_g := lw_gi 385 (by decide +kernel) rfl
set_option maxRecDepth 20000 in
theorem wc_X0_rename : (Cond.code yX0_rename cX0_rename 4 none) ∈ lw_g := lw_gi 386 rfl rfl
theorem wm_X0_60 : (Cond.methodLink RX0 60 yX0_targetOf) ∈ lw_g := lw_gi 387 (by decide +kernel) rfl
theorem wi_X0_targetOf : (Cond.instanceMethod yX0_targetOf) ∈ lw_g := lw_gi 388 (by decide +kernel) rfl
theorem wsel_X0_targetOf : (Cond.selects RX0 yX0_targetOf yX0_targetOf) ∈ lw_g := lw_gi 389 (by decide +kernel) rfl
set_option maxRecDepth 20000 in
theorem wc_X0_targetOf : (Cond.code yX0_targetOf cX0_targetOf 2 (some .int)) ∈ lw_g := lw_gi 390 rfl rfl
theorem wm_X6_108 : (Cond.methodLink RX6 108 yX0_setOf) ∈ lw_g := lw_gi 391 (by decide +kernel) rfl
theorem wi_X0_setOf : (Cond.instanceMethod yX0_setOf) ∈ lw_g := lw_gi 392 (by decide +kernel) rfl
theorem wsel_X0_setOf : (Cond.selects RX0 yX0_setOf yX0_setOf) ∈ lw_g := lw_gi 393 (by decide +kernel) rfl
set_option maxRecDepth 20000 in
theorem wc_X0_setOf : (Cond.code yX0_setOf cX0_setOf 2 (some .int)) ∈ lw_g := lw_gi 394 rfl rfl
theorem wm_X0_18 : (Cond.methodLink RX0 18 yX0_membersOf) ∈ lw_g := lw_gi 395 (by decide +kernel) rfl
theorem wi_X0_membersOf : (Cond.instanceMethod yX0_membersOf) ∈ lw_g := lw_gi 396 (by decide +kernel) rfl
theorem wsel_X0_membersOf : (Cond.selects RX0 yX0_membersOf yX0_membersOf) ∈ lw_g := lw_gi 397 (by decide +kernel) rfl
set_option maxRecDepth 20000 in
theorem wc_X0_membersOf : (Cond.code yX0_membersOf cX0_membersOf 4 (some .int)) ∈ lw_g := lw_gi 398 rfl rfl
theorem wm_L_44 : (Cond.methodLink RL 44 yX6_group) ∈ lw_g := lw_gi 400 (by decide +kernel) rfl
theorem wi_X6_group : (Cond.instanceMethod yX6_group) ∈ lw_g := lw_gi 401 (by decide +kernel) rfl
theorem wsel_X6_group : (Cond.selects RX6 yX6_group yX6_group) ∈ lw_g := lw_gi 402 (by decide +kernel) rfl
set_option maxRecDepth 20000 in
theorem wc_X6_group : (Cond.code yX6_group cX6_group 3 (some .int)) ∈ lw_g := lw_gi 403 rfl rfl
theorem wm_X6_109 : (Cond.methodLink RX6 109 yX6_groupDetail) ∈ lw_g := lw_gi 404 (by decide +kernel) rfl
theorem wi_X6_groupDetail : (Cond.instanceMethod yX6_groupDetail) ∈ lw_g := lw_gi 406 (by decide +kernel) rfl
set_option maxRecDepth 20000 in
theorem wc_X6_groupDetail : (Cond.code yX6_groupDetail cX6_groupDetail 3 (some .int)) ∈ lw_g := lw_gi 407 rfl rfl
theorem wm_X6_210 : (Cond.methodLink RX6 210 yX0_groupOf) ∈ lw_g := lw_gi 408 (by decide +kernel) rfl
theorem wi_X0_groupOf : (Cond.instanceMethod yX0_groupOf) ∈ lw_g := lw_gi 409 (by decide +kernel) rfl
theorem wsel_X0_groupOf : (Cond.selects RX0 yX0_groupOf yX0_groupOf) ∈ lw_g := lw_gi 410 (by decide +kernel) rfl
set_option maxRecDepth 20000 in
theorem wc_X0_groupOf : (Cond.code yX0_groupOf cX0_groupOf 2 (some .int)) ∈ lw_g := lw_gi 411 rfl rfl
theorem wm_X6_213 : (Cond.methodLink RX6 213 yX0_membersOf) ∈ lw_g := lw_gi 412 (by decide +kernel) rfl
theorem wm_X6_216 : (Cond.methodLink RX6 216 yX0_targetOf) ∈ lw_g := lw_gi 413 (by decide +kernel) rfl
theorem wm_L_48 : (Cond.methodLink RL 48 yX6_count) ∈ lw_g := lw_gi 414 (by decide +kernel) rfl
theorem wi_X6_count : (Cond.instanceMethod yX6_count) ∈ lw_g := lw_gi 415 (by decide +kernel) rfl
theorem wsel_X6_count : (Cond.selects RX6 yX6_count yX6_count) ∈ lw_g := lw_gi 416 (by decide +kernel) rfl
set_option maxRecDepth 20000 in
theorem wc_X6_count : (Cond.code yX6_count cX6_count 2 (some .int)) ∈ lw_g := lw_gi 417 rfl rfl
theorem wm_X6_112 : (Cond.methodLink RX6 112 yX6_counted) ∈ lw_g := lw_gi 418 (by decide +kernel) rfl
theorem wi_X6_counted : (Cond.instanceMethod yX6_counted) ∈ lw_g := lw_gi 420 (by decide +kernel) rfl
set_option maxRecDepth 20000 in
theorem wc_X6_counted : (Cond.code yX6_counted cX6_counted 2 (some .int)) ∈ lw_g := lw_gi 421 rfl rfl
theorem wm_X6_219 : (Cond.methodLink RX6 219 yX0_groupCount) ∈ lw_g := lw_gi 422 (by decide +kernel) rfl
theorem wi_X0_groupCount : (Cond.instanceMethod yX0_groupCount) ∈ lw_g := lw_gi 423 (by decide +kernel) rfl
theorem wsel_X0_groupCount : (Cond.selects RX0 yX0_groupCount yX0_groupCount) ∈ lw_g := lw_gi 424 (by decide +kernel) rfl
set_option maxRecDepth 20000 in
theorem wc_X0_groupCount : (Cond.code yX0_groupCount cX0_groupCount 3 (some .int)) ∈ lw_g := lw_gi 425 rfl rfl
theorem wm_X6_222 : (Cond.methodLink RX6 222 yX0_pointingCount) ∈ lw_g := lw_gi 427 (by decide +kernel) rfl
theorem wi_X0_pointingCount : (Cond.instanceMethod yX0_pointingCount) ∈ lw_g := lw_gi 428 (by decide +kernel) rfl
theorem wsel_X0_pointingCount : (Cond.selects RX0 yX0_pointingCount yX0_pointingCount) ∈ lw_g := lw_gi 429 (by decide +kernel) rfl
set_option maxRecDepth 20000 in
theorem wc_X0_pointingCount : (Cond.code yX0_pointingCount cX0_pointingCount 3 (some .int)) ∈ lw_g := lw_gi 430 rfl rfl
theorem wm_X6_225 : (Cond.methodLink RX6 225 yX0_selfPointingCount) ∈ lw_g := lw_gi 431 (by decide +kernel) rfl
theorem wi_X0_selfPointingCount : (Cond.instanceMethod yX0_selfPointingCount) ∈ lw_g := lw_gi 432 (by decide +kernel) rfl
theorem wsel_X0_selfPointingCount : (Cond.selects RX0 yX0_selfPointingCount yX0_selfPointingCount) ∈ lw_g := lw_gi 433 (by decide +kernel) rfl
set_option maxRecDepth 20000 in
theorem wc_X0_selfPointingCount : (Cond.code yX0_selfPointingCount cX0_selfPointingCount 3 (some .int)) ∈ lw_g := lw_gi 434 rfl rfl
theorem wm_X6_228 : (Cond.methodLink RX6 228 yX1_total) ∈ lw_g := lw_gi 435 (by decide +kernel) rfl
theorem wi_X1_total : (Cond.instanceMethod yX1_total) ∈ lw_g := lw_gi 436 (by decide +kernel) rfl
theorem wsel_X1_total : (Cond.selects RX1 yX1_total yX1_total) ∈ lw_g := lw_gi 437 (by decide +kernel) rfl
set_option maxRecDepth 20000 in
theorem wc_X1_total : (Cond.code yX1_total cX1_total 3 (some .int)) ∈ lw_g := lw_gi 438 rfl rfl
theorem wm_X1_15 : (Cond.methodLink RX1 15 yJ6_bitCount_0f7a4) ∈ lw_g := lw_gi 439 (by decide +kernel) rfl
theorem wt_J6_bitCount : (Cond.static yJ6_bitCount_0f7a4) ∈ lw_g := lw_gi 440 (by decide +kernel) rfl
set_option maxRecDepth 20000 in
theorem wc_J6_bitCount : (Cond.code yJ6_bitCount_0f7a4 cJ6_bitCount_0f7a4 1 (some .int)) ∈ lw_g := lw_gi 441 rfl rfl
theorem wk_J6_265 : (Cond.constant RJ6 265 (1431655765)) ∈ lw_g := lw_gi 442 (by decide +kernel) rfl
theorem wk_J6_266 : (Cond.constant RJ6 266 (858993459)) ∈ lw_g := lw_gi 443 (by decide +kernel) rfl
theorem wk_J6_267 : (Cond.constant RJ6 267 (252645135)) ∈ lw_g := lw_gi 444 (by decide +kernel) rfl
theorem wm_X6_231 : (Cond.methodLink RX6 231 yX0_total) ∈ lw_g := lw_gi 445 (by decide +kernel) rfl
theorem wi_X0_total : (Cond.instanceMethod yX0_total) ∈ lw_g := lw_gi 446 (by decide +kernel) rfl
theorem wsel_X0_total : (Cond.selects RX0 yX0_total yX0_total) ∈ lw_g := lw_gi 447 (by decide +kernel) rfl
set_option maxRecDepth 20000 in
theorem wc_X0_total : (Cond.code yX0_total cX0_total 3 (some .int)) ∈ lw_g := lw_gi 448 rfl rfl
theorem wm_X0_29 : (Cond.methodLink RX0 29 yX0_setOf) ∈ lw_g := lw_gi 449 (by decide +kernel) rfl
theorem wm_X0_32 : (Cond.methodLink RX0 32 yJ6_bitCount_0f7a4) ∈ lw_g := lw_gi 450 (by decide +kernel) rfl
theorem wm_L_52 : (Cond.methodLink RL 52 yX6_alias) ∈ lw_g := lw_gi 451 (by decide +kernel) rfl
theorem wi_X6_alias : (Cond.instanceMethod yX6_alias) ∈ lw_g := lw_gi 452 (by decide +kernel) rfl
theorem wsel_X6_alias : (Cond.selects RX6 yX6_alias yX6_alias) ∈ lw_g := lw_gi 453 (by decide +kernel) rfl
set_option maxRecDepth 20000 in
theorem wc_X6_alias : (Cond.code yX6_alias cX6_alias 4 (some .int)) ∈ lw_g := lw_gi 454 rfl rfl
theorem wm_X6_115 : (Cond.methodLink RX6 115 yX6_mayPointTo) ∈ lw_g := lw_gi 455 (by decide +kernel) rfl
theorem wi_X6_mayPointTo : (Cond.instanceMethod yX6_mayPointTo) ∈ lw_g := lw_gi 457 (by decide +kernel) rfl
set_option maxRecDepth 20000 in
theorem wc_X6_mayPointTo : (Cond.code yX6_mayPointTo cX6_mayPointTo 4 (some .int)) ∈ lw_g := lw_gi 458 rfl rfl
theorem wm_L_56 : (Cond.methodLink RL 56 yX6_without) ∈ lw_g := lw_gi 459 (by decide +kernel) rfl
theorem wi_X6_without : (Cond.instanceMethod yX6_without) ∈ lw_g := lw_gi 460 (by decide +kernel) rfl
theorem wsel_X6_without : (Cond.selects RX6 yX6_without yX6_without) ∈ lw_g := lw_gi 461 (by decide +kernel) rfl
set_option maxRecDepth 20000 in
theorem wc_X6_without : (Cond.code yX6_without cX6_without 5 (some .int)) ∈ lw_g := lw_gi 462 rfl rfl
theorem wm_X6_119 : (Cond.methodLink RX6 119 yJ6_bitCount_0f7a4) ∈ lw_g := lw_gi 463 (by decide +kernel) rfl
theorem wm_L_60 : (Cond.methodLink RL 60 yX6_points) ∈ lw_g := lw_gi 464 (by decide +kernel) rfl
theorem wi_X6_points : (Cond.instanceMethod yX6_points) ∈ lw_g := lw_gi 465 (by decide +kernel) rfl
theorem wsel_X6_points : (Cond.selects RX6 yX6_points yX6_points) ∈ lw_g := lw_gi 466 (by decide +kernel) rfl
set_option maxRecDepth 20000 in
theorem wc_X6_points : (Cond.code yX6_points cX6_points 3 (some .int)) ∈ lw_g := lw_gi 467 rfl rfl
theorem wm_X6_124 : (Cond.methodLink RX6 124 yX6_isRounds) ∈ lw_g := lw_gi 468 (by decide +kernel) rfl
theorem wt_X6_isRounds : (Cond.static yX6_isRounds) ∈ lw_g := lw_gi 469 (by decide +kernel) rfl
set_option maxRecDepth 20000 in
theorem wc_X6_isRounds : (Cond.code yX6_isRounds cX6_isRounds 1 (some .boolean)) ∈ lw_g := lw_gi 470 rfl rfl
theorem wm_X6_127 : (Cond.methodLink RX6 127 yX3_play) ∈ lw_g := lw_gi 471 (by decide +kernel) rfl
theorem wi_X3_play : (Cond.instanceMethod yX3_play) ∈ lw_g := lw_gi 472 (by decide +kernel) rfl
theorem wsel_X3_play : (Cond.selects RX3 yX3_play yX3_play) ∈ lw_g := lw_gi 473 (by decide +kernel) rfl
set_option maxRecDepth 20000 in
theorem wc_X3_play : (Cond.code yX3_play cX3_play 5 none) ∈ lw_g := lw_gi 474 rfl rfl
theorem wm_X3_22 : (Cond.methodLink RX3 22 yJ7_fill_53178) ∈ lw_g := lw_gi 475 (by decide +kernel) rfl
theorem wm_X3_28 : (Cond.methodLink RX3 28 yX2_size) ∈ lw_g := lw_gi 476 (by decide +kernel) rfl
theorem wm_X3_34 : (Cond.methodLink RX3 34 yX3_carryOut) ∈ lw_g := lw_gi 477 (by decide +kernel) rfl
theorem wi_X3_carryOut : (Cond.instanceMethod yX3_carryOut) ∈ lw_g := lw_gi 479 (by decide +kernel) rfl
set_option maxRecDepth 20000 in
theorem wc_X3_carryOut : (Cond.code yX3_carryOut cX3_carryOut 5 none) ∈ lw_g := lw_gi 480 rfl rfl
theorem wm_X3_38 : (Cond.methodLink RX3 38 yX2_leftAt) ∈ lw_g := lw_gi 481 (by decide +kernel) rfl
theorem wm_X3_42 : (Cond.methodLink RX3 42 yX2_rightAt) ∈ lw_g := lw_gi 482 (by decide +kernel) rfl
theorem wm_X3_45 : (Cond.methodLink RX3 45 yX2_sortAt) ∈ lw_g := lw_gi 483 (by decide +kernel) rfl
theorem wm_X3_48 : (Cond.methodLink RX3 48 yX3_point) ∈ lw_g := lw_gi 484 (by decide +kernel) rfl
theorem wi_X3_point : (Cond.instanceMethod yX3_point) ∈ lw_g := lw_gi 486 (by decide +kernel) rfl
set_option maxRecDepth 20000 in
theorem wc_X3_point : (Cond.code yX3_point cX3_point 3 none) ∈ lw_g := lw_gi 487 rfl rfl
theorem wm_X3_52 : (Cond.methodLink RX3 52 yX3_load) ∈ lw_g := lw_gi 489 (by decide +kernel) rfl
theorem wi_X3_load : (Cond.instanceMethod yX3_load) ∈ lw_g := lw_gi 491 (by decide +kernel) rfl
set_option maxRecDepth 20000 in
theorem wc_X3_load : (Cond.code yX3_load cX3_load 3 none) ∈ lw_g := lw_gi 492 rfl rfl
theorem wm_X3_55 : (Cond.methodLink RX3 55 yX3_store) ∈ lw_g := lw_gi 493 (by decide +kernel) rfl
theorem wi_X3_store : (Cond.instanceMethod yX3_store) ∈ lw_g := lw_gi 495 (by decide +kernel) rfl
set_option maxRecDepth 20000 in
theorem wc_X3_store : (Cond.code yX3_store cX3_store 3 none) ∈ lw_g := lw_gi 496 rfl rfl
theorem wm_X6_130 : (Cond.methodLink RX6 130 yX3_endOf) ∈ lw_g := lw_gi 497 (by decide +kernel) rfl
theorem wi_X3_endOf : (Cond.instanceMethod yX3_endOf) ∈ lw_g := lw_gi 498 (by decide +kernel) rfl
theorem wsel_X3_endOf : (Cond.selects RX3 yX3_endOf yX3_endOf) ∈ lw_g := lw_gi 499 (by decide +kernel) rfl
set_option maxRecDepth 20000 in
theorem wc_X3_endOf : (Cond.code yX3_endOf cX3_endOf 2 (some .int)) ∈ lw_g := lw_gi 500 rfl rfl
theorem wm_L_64 : (Cond.methodLink RL 64 yX6_seen) ∈ lw_g := lw_gi 501 (by decide +kernel) rfl
theorem wi_X6_seen : (Cond.instanceMethod yX6_seen) ∈ lw_g := lw_gi 502 (by decide +kernel) rfl
theorem wsel_X6_seen : (Cond.selects RX6 yX6_seen yX6_seen) ∈ lw_g := lw_gi 503 (by decide +kernel) rfl
set_option maxRecDepth 20000 in
theorem wc_X6_seen : (Cond.code yX6_seen cX6_seen 3 (some .int)) ∈ lw_g := lw_gi 504 rfl rfl
theorem wm_X6_133 : (Cond.methodLink RX6 133 yX3_everOf) ∈ lw_g := lw_gi 505 (by decide +kernel) rfl
theorem wi_X3_everOf : (Cond.instanceMethod yX3_everOf) ∈ lw_g := lw_gi 506 (by decide +kernel) rfl
theorem wsel_X3_everOf : (Cond.selects RX3 yX3_everOf yX3_everOf) ∈ lw_g := lw_gi 507 (by decide +kernel) rfl
set_option maxRecDepth 20000 in
theorem wc_X3_everOf : (Cond.code yX3_everOf cX3_everOf 2 (some .int)) ∈ lw_g := lw_gi 508 rfl rfl
theorem wm_L_68 : (Cond.methodLink RL 68 yX6_misses) ∈ lw_g := lw_gi 509 (by decide +kernel) rfl
theorem wi_X6_misses : (Cond.instanceMethod yX6_misses) ∈ lw_g := lw_gi 510 (by decide +kernel) rfl
theorem wsel_X6_misses : (Cond.selects RX6 yX6_misses yX6_misses) ∈ lw_g := lw_gi 511 (by decide +kernel) rfl
set_option maxRecDepth 20000 in
theorem wc_X6_misses : (Cond.code yX6_misses cX6_misses 2 (some .int)) ∈ lw_g := lw_gi 512 rfl rfl
theorem wm_X6_136 : (Cond.methodLink RX6 136 yX3_missed) ∈ lw_g := lw_gi 513 (by decide +kernel) rfl
theorem wi_X3_missed : (Cond.instanceMethod yX3_missed) ∈ lw_g := lw_gi 514 (by decide +kernel) rfl
theorem wsel_X3_missed : (Cond.selects RX3 yX3_missed yX3_missed) ∈ lw_g := lw_gi 515 (by decide +kernel) rfl
set_option maxRecDepth 20000 in
theorem wc_X3_missed : (Cond.code yX3_missed cX3_missed 1 (some .int)) ∈ lw_g := lw_gi 516 rfl rfl
theorem wm_L_72 : (Cond.methodLink RL 72 yX6_type) ∈ lw_g := lw_gi 517 (by decide +kernel) rfl
theorem wi_X6_type : (Cond.instanceMethod yX6_type) ∈ lw_g := lw_gi 518 (by decide +kernel) rfl
theorem wsel_X6_type : (Cond.selects RX6 yX6_type yX6_type) ∈ lw_g := lw_gi 519 (by decide +kernel) rfl
set_option maxRecDepth 20000 in
theorem wc_X6_type : (Cond.code yX6_type cX6_type 2 (some .int)) ∈ lw_g := lw_gi 520 rfl rfl
theorem wm_X6_139 : (Cond.methodLink RX6 139 yX5_length) ∈ lw_g := lw_gi 521 (by decide +kernel) rfl
theorem wi_X5_length : (Cond.instanceMethod yX5_length) ∈ lw_g := lw_gi 522 (by decide +kernel) rfl
theorem wsel_X5_length : (Cond.selects RX5 yX5_length yX5_length) ∈ lw_g := lw_gi 523 (by decide +kernel) rfl
set_option maxRecDepth 20000 in
theorem wc_X5_length : (Cond.code yX5_length cX5_length 1 (some .int)) ∈ lw_g := lw_gi 524 rfl rfl
theorem wm_X6_142 : (Cond.methodLink RX6 142 yX5_append) ∈ lw_g := lw_gi 525 (by decide +kernel) rfl
theorem wi_X5_append : (Cond.instanceMethod yX5_append) ∈ lw_g := lw_gi 526 (by decide +kernel) rfl
theorem wsel_X5_append : (Cond.selects RX5 yX5_append yX5_append) ∈ lw_g := lw_gi 527 (by decide +kernel) rfl
set_option maxRecDepth 20000 in
theorem wc_X5_append : (Cond.code yX5_append cX5_append 2 none) ∈ lw_g := lw_gi 528 rfl rfl
theorem wm_L_76 : (Cond.methodLink RL 76 yX6_clear) ∈ lw_g := lw_gi 529 (by decide +kernel) rfl
theorem wi_X6_clear : (Cond.instanceMethod yX6_clear) ∈ lw_g := lw_gi 530 (by decide +kernel) rfl
theorem wsel_X6_clear : (Cond.selects RX6 yX6_clear yX6_clear) ∈ lw_g := lw_gi 531 (by decide +kernel) rfl
set_option maxRecDepth 20000 in
theorem wc_X6_clear : (Cond.code yX6_clear cX6_clear 2 (some .int)) ∈ lw_g := lw_gi 532 rfl rfl
theorem wm_X6_144 : (Cond.methodLink RX6 144 yX5_empty) ∈ lw_g := lw_gi 533 (by decide +kernel) rfl
theorem wi_X5_empty : (Cond.instanceMethod yX5_empty) ∈ lw_g := lw_gi 534 (by decide +kernel) rfl
theorem wsel_X5_empty : (Cond.selects RX5 yX5_empty yX5_empty) ∈ lw_g := lw_gi 535 (by decide +kernel) rfl
set_option maxRecDepth 20000 in
theorem wc_X5_empty : (Cond.code yX5_empty cX5_empty 1 none) ∈ lw_g := lw_gi 536 rfl rfl
theorem wm_L_81 : (Cond.methodLink RL 81 yX6_reads) ∈ lw_g := lw_gi 537 (by decide +kernel) rfl
theorem wi_X6_reads : (Cond.instanceMethod yX6_reads) ∈ lw_g := lw_gi 538 (by decide +kernel) rfl
theorem wsel_X6_reads : (Cond.selects RX6 yX6_reads yX6_reads) ∈ lw_g := lw_gi 539 (by decide +kernel) rfl
set_option maxRecDepth 20000 in
theorem wc_X6_reads : (Cond.code yX6_reads cX6_reads 2 (some .int)) ∈ lw_g := lw_gi 540 rfl rfl
theorem wm_X6_147 : (Cond.methodLink RX6 147 yX5_parse) ∈ lw_g := lw_gi 541 (by decide +kernel) rfl
theorem wi_X5_parse : (Cond.instanceMethod yX5_parse) ∈ lw_g := lw_gi 542 (by decide +kernel) rfl
theorem wsel_X5_parse : (Cond.selects RX5 yX5_parse yX5_parse) ∈ lw_g := lw_gi 543 (by decide +kernel) rfl
set_option maxRecDepth 20000 in
theorem wc_X5_parse : (Cond.code yX5_parse cX5_parse 3 (some .int)) ∈ lw_g := lw_gi 544 rfl rfl
theorem wm_X5_26 : (Cond.methodLink RX5 26 yX2_removeAll) ∈ lw_g := lw_gi 545 (by decide +kernel) rfl
theorem wi_X2_removeAll : (Cond.instanceMethod yX2_removeAll) ∈ lw_g := lw_gi 546 (by decide +kernel) rfl
theorem wsel_X2_removeAll : (Cond.selects RX2 yX2_removeAll yX2_removeAll) ∈ lw_g := lw_gi 547 (by decide +kernel) rfl
set_option maxRecDepth 20000 in
theorem wc_X2_removeAll : (Cond.code yX2_removeAll cX2_removeAll 1 none) ∈ lw_g := lw_gi 548 rfl rfl
theorem wm_X5_29 : (Cond.methodLink RX5 29 yX5_stepBehind) ∈ lw_g := lw_gi 549 (by decide +kernel) rfl
theorem wi_X5_stepBehind : (Cond.instanceMethod yX5_stepBehind) ∈ lw_g := lw_gi 551 (by decide +kernel) rfl
set_option maxRecDepth 20000 in
theorem wc_X5_stepBehind : (Cond.code yX5_stepBehind cX5_stepBehind 3 (some .int)) ∈ lw_g := lw_gi 552 rfl rfl
theorem wm_X5_33 : (Cond.methodLink RX5 33 yX5_behindStart) ∈ lw_g := lw_gi 553 (by decide +kernel) rfl
theorem wi_X5_behindStart : (Cond.instanceMethod yX5_behindStart) ∈ lw_g := lw_gi 555 (by decide +kernel) rfl
set_option maxRecDepth 20000 in
theorem wc_X5_behindStart : (Cond.code yX5_behindStart cX5_behindStart 2 (some .int)) ∈ lw_g := lw_gi 556 rfl rfl
theorem wm_X5_52 : (Cond.methodLink RX5 52 yX2_size) ∈ lw_g := lw_gi 557 (by decide +kernel) rfl
theorem wm_X5_37 : (Cond.methodLink RX5 37 yX5_behindLeftName) ∈ lw_g := lw_gi 558 (by decide +kernel) rfl
theorem wi_X5_behindLeftName : (Cond.instanceMethod yX5_behindLeftName) ∈ lw_g := lw_gi 560 (by decide +kernel) rfl
set_option maxRecDepth 20000 in
theorem wc_X5_behindLeftName : (Cond.code yX5_behindLeftName cX5_behindLeftName 2 (some .int)) ∈ lw_g := lw_gi 561 rfl rfl
theorem wm_X5_43 : (Cond.methodLink RX5 43 yX5_behindRightSide) ∈ lw_g := lw_gi 563 (by decide +kernel) rfl
theorem wi_X5_behindRightSide : (Cond.instanceMethod yX5_behindRightSide) ∈ lw_g := lw_gi 565 (by decide +kernel) rfl
set_option maxRecDepth 20000 in
theorem wc_X5_behindRightSide : (Cond.code yX5_behindRightSide cX5_behindRightSide 2 (some .int)) ∈ lw_g := lw_gi 566 rfl rfl
theorem wm_X5_46 : (Cond.methodLink RX5 46 yX5_behindRightName) ∈ lw_g := lw_gi 567 (by decide +kernel) rfl
theorem wi_X5_behindRightName : (Cond.instanceMethod yX5_behindRightName) ∈ lw_g := lw_gi 569 (by decide +kernel) rfl
set_option maxRecDepth 20000 in
theorem wc_X5_behindRightName : (Cond.code yX5_behindRightName cX5_behindRightName 2 (some .int)) ∈ lw_g := lw_gi 570 rfl rfl
theorem wm_X5_49 : (Cond.methodLink RX5 49 yX5_behindEnd) ∈ lw_g := lw_gi 571 (by decide +kernel) rfl
theorem wi_X5_behindEnd : (Cond.instanceMethod yX5_behindEnd) ∈ lw_g := lw_gi 573 (by decide +kernel) rfl
set_option maxRecDepth 20000 in
theorem wc_X5_behindEnd : (Cond.code yX5_behindEnd cX5_behindEnd 2 (some .int)) ∈ lw_g := lw_gi 574 rfl rfl
theorem wm_X5_66 : (Cond.methodLink RX5 66 yX2_append) ∈ lw_g := lw_gi 575 (by decide +kernel) rfl
theorem wm_X6_150 : (Cond.methodLink RX6 150 yX5_parsed) ∈ lw_g := lw_gi 576 (by decide +kernel) rfl
theorem wi_X5_parsed : (Cond.instanceMethod yX5_parsed) ∈ lw_g := lw_gi 577 (by decide +kernel) rfl
theorem wsel_X5_parsed : (Cond.selects RX5 yX5_parsed yX5_parsed) ∈ lw_g := lw_gi 578 (by decide +kernel) rfl
set_option maxRecDepth 20000 in
theorem wc_X5_parsed : (Cond.code yX5_parsed cX5_parsed 1 (some (.object "JoinedNames$Lines"))) ∈ lw_g := lw_gi 579 rfl rfl
theorem wm_X6_154 : (Cond.methodLink RX6 154 yX2_copyFrom) ∈ lw_g := lw_gi 580 (by decide +kernel) rfl
theorem wm_L_85 : (Cond.methodLink RL 85 yX6_shown) ∈ lw_g := lw_gi 581 (by decide +kernel) rfl
theorem wi_X6_shown : (Cond.instanceMethod yX6_shown) ∈ lw_g := lw_gi 582 (by decide +kernel) rfl
theorem wsel_X6_shown : (Cond.selects RX6 yX6_shown yX6_shown) ∈ lw_g := lw_gi 583 (by decide +kernel) rfl
set_option maxRecDepth 20000 in
theorem wc_X6_shown : (Cond.code yX6_shown cX6_shown 2 (some .int)) ∈ lw_g := lw_gi 584 rfl rfl
theorem wm_X6_157 : (Cond.methodLink RX6 157 yX2_writtenLength) ∈ lw_g := lw_gi 585 (by decide +kernel) rfl
theorem wi_X2_writtenLength : (Cond.instanceMethod yX2_writtenLength) ∈ lw_g := lw_gi 586 (by decide +kernel) rfl
theorem wsel_X2_writtenLength : (Cond.selects RX2 yX2_writtenLength yX2_writtenLength) ∈ lw_g := lw_gi 587 (by decide +kernel) rfl
set_option maxRecDepth 20000 in
theorem wc_X2_writtenLength : (Cond.code yX2_writtenLength cX2_writtenLength 3 (some .int)) ∈ lw_g := lw_gi 588 rfl rfl
theorem wm_X2_29 : (Cond.methodLink RX2 29 yX2_lengthAt) ∈ lw_g := lw_gi 589 (by decide +kernel) rfl
theorem wi_X2_lengthAt : (Cond.instanceMethod yX2_lengthAt) ∈ lw_g := lw_gi 591 (by decide +kernel) rfl
set_option maxRecDepth 20000 in
theorem wc_X2_lengthAt : (Cond.code yX2_lengthAt cX2_lengthAt 2 (some .int)) ∈ lw_g := lw_gi 592 rfl rfl
theorem wm_X2_37 : (Cond.methodLink RX2 37 yX2_sortAt) ∈ lw_g := lw_gi 593 (by decide +kernel) rfl
theorem wm_X6_160 : (Cond.methodLink RX6 160 yX2_writtenByte) ∈ lw_g := lw_gi 594 (by decide +kernel) rfl
theorem wi_X2_writtenByte : (Cond.instanceMethod yX2_writtenByte) ∈ lw_g := lw_gi 595 (by decide +kernel) rfl
theorem wsel_X2_writtenByte : (Cond.selects RX2 yX2_writtenByte yX2_writtenByte) ∈ lw_g := lw_gi 596 (by decide +kernel) rfl
set_option maxRecDepth 20000 in
theorem wc_X2_writtenByte : (Cond.code yX2_writtenByte cX2_writtenByte 4 (some .int)) ∈ lw_g := lw_gi 597 rfl rfl
theorem wm_X2_33 : (Cond.methodLink RX2 33 yX2_byteAt) ∈ lw_g := lw_gi 598 (by decide +kernel) rfl
theorem wi_X2_byteAt : (Cond.instanceMethod yX2_byteAt) ∈ lw_g := lw_gi 600 (by decide +kernel) rfl
set_option maxRecDepth 20000 in
theorem wc_X2_byteAt : (Cond.code yX2_byteAt cX2_byteAt 5 (some .int)) ∈ lw_g := lw_gi 601 rfl rfl
theorem wm_X2_40 : (Cond.methodLink RX2 40 yX2_leftAt) ∈ lw_g := lw_gi 602 (by decide +kernel) rfl
theorem wm_X2_43 : (Cond.methodLink RX2 43 yX2_rightAt) ∈ lw_g := lw_gi 603 (by decide +kernel) rfl
theorem wm_L_89 : (Cond.methodLink RL 89 yX6_back) ∈ lw_g := lw_gi 604 (by decide +kernel) rfl
theorem wi_X6_back : (Cond.instanceMethod yX6_back) ∈ lw_g := lw_gi 605 (by decide +kernel) rfl
theorem wsel_X6_back : (Cond.selects RX6 yX6_back yX6_back) ∈ lw_g := lw_gi 606 (by decide +kernel) rfl
set_option maxRecDepth 20000 in
theorem wc_X6_back : (Cond.code yX6_back cX6_back 1 (some .int)) ∈ lw_g := lw_gi 607 rfl rfl
theorem wm_X6_163 : (Cond.methodLink RX6 163 yX4_size) ∈ lw_g := lw_gi 608 (by decide +kernel) rfl
theorem wi_X4_size : (Cond.instanceMethod yX4_size) ∈ lw_g := lw_gi 609 (by decide +kernel) rfl
theorem wsel_X4_size : (Cond.selects RX4 yX4_size yX4_size) ∈ lw_g := lw_gi 610 (by decide +kernel) rfl
set_option maxRecDepth 20000 in
theorem wc_X4_size : (Cond.code yX4_size cX4_size 1 (some .int)) ∈ lw_g := lw_gi 611 rfl rfl
theorem wm_X6_164 : (Cond.methodLink RX6 164 yX6_refuseNo) ∈ lw_g := lw_gi 612 (by decide +kernel) rfl
theorem wi_X6_refuseNo : (Cond.instanceMethod yX6_refuseNo) ∈ lw_g := lw_gi 614 (by decide +kernel) rfl
set_option maxRecDepth 20000 in
theorem wc_X6_refuseNo : (Cond.code yX6_refuseNo cX6_refuseNo 1 (some .int)) ∈ lw_g := lw_gi 615 rfl rfl
theorem wm_X6_167 : (Cond.methodLink RX6 167 yX4_restore) ∈ lw_g := lw_gi 616 (by decide +kernel) rfl
theorem wi_X4_restore : (Cond.instanceMethod yX4_restore) ∈ lw_g := lw_gi 617 (by decide +kernel) rfl
theorem wsel_X4_restore : (Cond.selects RX4 yX4_restore yX4_restore) ∈ lw_g := lw_gi 618 (by decide +kernel) rfl
set_option maxRecDepth 20000 in
theorem wc_X4_restore : (Cond.code yX4_restore cX4_restore 2 none) ∈ lw_g := lw_gi 619 rfl rfl
theorem wm_L_93 : (Cond.methodLink RL 93 yX6_told) ∈ lw_g := lw_gi 620 (by decide +kernel) rfl
theorem wi_X6_told : (Cond.instanceMethod yX6_told) ∈ lw_g := lw_gi 621 (by decide +kernel) rfl
theorem wsel_X6_told : (Cond.selects RX6 yX6_told yX6_told) ∈ lw_g := lw_gi 622 (by decide +kernel) rfl
set_option maxRecDepth 20000 in
theorem wc_X6_told : (Cond.code yX6_told cX6_told 2 (some .int)) ∈ lw_g := lw_gi 623 rfl rfl
theorem wm_X6_170 : (Cond.methodLink RX6 170 yX6_tally) ∈ lw_g := lw_gi 624 (by decide +kernel) rfl
theorem wi_X6_tally : (Cond.instanceMethod yX6_tally) ∈ lw_g := lw_gi 626 (by decide +kernel) rfl
set_option maxRecDepth 20000 in
theorem wc_X6_tally : (Cond.code yX6_tally cX6_tally 2 (some .int)) ∈ lw_g := lw_gi 627 rfl rfl
theorem wm_L_97 : (Cond.methodLink RL 97 yX6_digest) ∈ lw_g := lw_gi 628 (by decide +kernel) rfl
theorem wi_X6_digest : (Cond.instanceMethod yX6_digest) ∈ lw_g := lw_gi 629 (by decide +kernel) rfl
theorem wsel_X6_digest : (Cond.selects RX6 yX6_digest yX6_digest) ∈ lw_g := lw_gi 630 (by decide +kernel) rfl
set_option maxRecDepth 20000 in
theorem wc_X6_digest : (Cond.code yX6_digest cX6_digest 5 (some .long)) ∈ lw_g := lw_gi 631 rfl rfl
theorem wk_X6_173 : (Cond.constantLong RX6 173 (2531)) ∈ lw_g := lw_gi 632 (by decide +kernel) rfl
theorem wm_X6_175 : (Cond.methodLink RX6 175 yX6_mixed) ∈ lw_g := lw_gi 633 (by decide +kernel) rfl
theorem wt_X6_mixed : (Cond.static yX6_mixed) ∈ lw_g := lw_gi 634 (by decide +kernel) rfl
set_option maxRecDepth 20000 in
theorem wc_X6_mixed : (Cond.code yX6_mixed cX6_mixed 3 (some .long)) ∈ lw_g := lw_gi 635 rfl rfl
theorem wk_X6_232 : (Cond.constantLong RX6 232 (31)) ∈ lw_g := lw_gi 636 (by decide +kernel) rfl
theorem wm_X6_179 : (Cond.methodLink RX6 179 yX6_mixedName) ∈ lw_g := lw_gi 637 (by decide +kernel) rfl
theorem wi_X6_mixedName : (Cond.instanceMethod yX6_mixedName) ∈ lw_g := lw_gi 639 (by decide +kernel) rfl
set_option maxRecDepth 20000 in
theorem wc_X6_mixedName : (Cond.code yX6_mixedName cX6_mixedName 6 (some .long)) ∈ lw_g := lw_gi 640 rfl rfl
theorem wcl_L_10 : (Cond.classLink RL 10 RX7) ∈ lw_g := lw_gi 641 (by decide +kernel) rfl
theorem wins_X7 : (Cond.instantiable RX7 18) ∈ lw_g := lw_gi 642 (by decide +kernel) rfl
theorem wm_L_12 : (Cond.methodLink RL 12 yX7_init) ∈ lw_g := lw_gi 643 (by decide +kernel) rfl
theorem wi_X7_init : (Cond.instanceMethod yX7_init) ∈ lw_g := lw_gi 644 (by decide +kernel) rfl
set_option maxRecDepth 20000 in
theorem wc_X7_init : (Cond.code yX7_init cX7_init 1 none) ∈ lw_g := lw_gi 645 rfl rfl
theorem wm_X7_1 : (Cond.methodLink RX7 1 objectInit) ∈ lw_g := lw_gi 646 (by decide +kernel) rfl
theorem wf_X7_7 : (Cond.fieldLink RX7 7 (TX7 0).1 (TX7 0).2.1 (TX7 0).2.2.1) ∈ lw_g := lw_gi 647 (by decide +kernel) rfl
theorem wf_X7_13 : (Cond.fieldLink RX7 13 (TX7 1).1 (TX7 1).2.1 (TX7 1).2.2.1) ∈ lw_g := lw_gi 648 (by decide +kernel) rfl
theorem wf_X7_16 : (Cond.fieldLink RX7 16 (TX7 2).1 (TX7 2).2.1 (TX7 2).2.2.1) ∈ lw_g := lw_gi 649 (by decide +kernel) rfl
theorem wf_X7_47 : (Cond.fieldLink RX7 47 (TX7 3).1 (TX7 3).2.1 (TX7 3).2.2.1) ∈ lw_g := lw_gi 650 (by decide +kernel) rfl
theorem wf_X7_19 : (Cond.fieldLink RX7 19 (TX7 4).1 (TX7 4).2.1 (TX7 4).2.2.1) ∈ lw_g := lw_gi 651 (by decide +kernel) rfl
theorem wf_X7_22 : (Cond.fieldLink RX7 22 (TX7 5).1 (TX7 5).2.1 (TX7 5).2.2.1) ∈ lw_g := lw_gi 652 (by decide +kernel) rfl
theorem wf_X7_136 : (Cond.fieldLink RX7 136 (TX7 6).1 (TX7 6).2.1 (TX7 6).2.2.1) ∈ lw_g := lw_gi 653 (by decide +kernel) rfl
theorem wf_X7_25 : (Cond.fieldLink RX7 25 (TX7 7).1 (TX7 7).2.1 (TX7 7).2.2.1) ∈ lw_g := lw_gi 654 (by decide +kernel) rfl
theorem wf_X7_65 : (Cond.fieldLink RX7 65 (TX7 8).1 (TX7 8).2.1 (TX7 8).2.2.1) ∈ lw_g := lw_gi 655 (by decide +kernel) rfl
theorem wf_X7_28 : (Cond.fieldLink RX7 28 (TX7 9).1 (TX7 9).2.1 (TX7 9).2.2.1) ∈ lw_g := lw_gi 656 (by decide +kernel) rfl
theorem wf_X7_31 : (Cond.fieldLink RX7 31 (TX7 10).1 (TX7 10).2.1 (TX7 10).2.2.1) ∈ lw_g := lw_gi 657 (by decide +kernel) rfl
theorem wf_X7_34 : (Cond.fieldLink RX7 34 (TX7 11).1 (TX7 11).2.1 (TX7 11).2.2.1) ∈ lw_g := lw_gi 658 (by decide +kernel) rfl
theorem wf_X7_37 : (Cond.fieldLink RX7 37 (TX7 12).1 (TX7 12).2.1 (TX7 12).2.2.1) ∈ lw_g := lw_gi 659 (by decide +kernel) rfl
theorem wf_X7_127 : (Cond.fieldLink RX7 127 (TX7 13).1 (TX7 13).2.1 (TX7 13).2.2.1) ∈ lw_g := lw_gi 660 (by decide +kernel) rfl
theorem wf_X7_139 : (Cond.fieldLink RX7 139 (TX7 14).1 (TX7 14).2.1 (TX7 14).2.2.1) ∈ lw_g := lw_gi 661 (by decide +kernel) rfl
theorem wf_X7_40 : (Cond.fieldLink RX7 40 (TX7 15).1 (TX7 15).2.1 (TX7 15).2.2.1) ∈ lw_g := lw_gi 662 (by decide +kernel) rfl
theorem wf_X7_159 : (Cond.fieldLink RX7 159 (TX7 16).1 (TX7 16).2.1 (TX7 16).2.2.1) ∈ lw_g := lw_gi 663 (by decide +kernel) rfl
theorem wf_X7_173 : (Cond.fieldLink RX7 173 (TX7 17).1 (TX7 17).2.1 (TX7 17).2.2.1) ∈ lw_g := lw_gi 664 (by decide +kernel) rfl
theorem wm_L_92 : (Cond.methodLink RL 92 yX7_back) ∈ lw_g := lw_gi 702 (by decide +kernel) rfl
theorem wi_X7_back : (Cond.instanceMethod yX7_back) ∈ lw_g := lw_gi 703 (by decide +kernel) rfl
theorem wsel_X7_back : (Cond.selects RX7 yX7_back yX7_back) ∈ lw_g := lw_gi 704 (by decide +kernel) rfl
set_option maxRecDepth 20000 in
theorem wc_X7_back : (Cond.code yX7_back cX7_back 2 (some .int)) ∈ lw_g := lw_gi 705 rfl rfl
theorem wm_X7_51 : (Cond.methodLink RX7 51 yX7_counts) ∈ lw_g := lw_gi 706 (by decide +kernel) rfl
theorem wi_X7_counts : (Cond.instanceMethod yX7_counts) ∈ lw_g := lw_gi 708 (by decide +kernel) rfl
set_option maxRecDepth 20000 in
theorem wc_X7_counts : (Cond.code yX7_counts cX7_counts 2 (some .int)) ∈ lw_g := lw_gi 709 rfl rfl
theorem wm_L_17 : (Cond.methodLink RL 17 yX7_line) ∈ lw_g := lw_gi 710 (by decide +kernel) rfl
theorem wi_X7_line : (Cond.instanceMethod yX7_line) ∈ lw_g := lw_gi 711 (by decide +kernel) rfl
theorem wsel_X7_line : (Cond.selects RX7 yX7_line yX7_line) ∈ lw_g := lw_gi 712 (by decide +kernel) rfl
set_option maxRecDepth 20000 in
theorem wc_X7_line : (Cond.code yX7_line cX7_line 4 (some .int)) ∈ lw_g := lw_gi 713 rfl rfl
theorem wm_X7_43 : (Cond.methodLink RX7 43 yX7_within) ∈ lw_g := lw_gi 714 (by decide +kernel) rfl
theorem wt_X7_within : (Cond.static yX7_within) ∈ lw_g := lw_gi 715 (by decide +kernel) rfl
set_option maxRecDepth 20000 in
theorem wc_X7_within : (Cond.code yX7_within cX7_within 3 (some .boolean)) ∈ lw_g := lw_gi 716 rfl rfl
theorem wm_X7_55 : (Cond.methodLink RX7 55 yX7_isName) ∈ lw_g := lw_gi 717 (by decide +kernel) rfl
theorem wt_X7_isName : (Cond.static yX7_isName) ∈ lw_g := lw_gi 718 (by decide +kernel) rfl
set_option maxRecDepth 20000 in
theorem wc_X7_isName : (Cond.code yX7_isName cX7_isName 1 (some .boolean)) ∈ lw_g := lw_gi 719 rfl rfl
theorem wm_X7_59 : (Cond.methodLink RX7 59 yX7_leaves) ∈ lw_g := lw_gi 720 (by decide +kernel) rfl
theorem wi_X7_leaves : (Cond.instanceMethod yX7_leaves) ∈ lw_g := lw_gi 722 (by decide +kernel) rfl
set_option maxRecDepth 20000 in
theorem wc_X7_leaves : (Cond.code yX7_leaves cX7_leaves 2 none) ∈ lw_g := lw_gi 723 rfl rfl
theorem wm_L_22 : (Cond.methodLink RL 22 yX7_drops) ∈ lw_g := lw_gi 724 (by decide +kernel) rfl
theorem wi_X7_drops : (Cond.instanceMethod yX7_drops) ∈ lw_g := lw_gi 725 (by decide +kernel) rfl
theorem wsel_X7_drops : (Cond.selects RX7 yX7_drops yX7_drops) ∈ lw_g := lw_gi 726 (by decide +kernel) rfl
set_option maxRecDepth 20000 in
theorem wc_X7_drops : (Cond.code yX7_drops cX7_drops 3 (some .int)) ∈ lw_g := lw_gi 727 rfl rfl
theorem wm_X7_62 : (Cond.methodLink RX7 62 yX7_isLine) ∈ lw_g := lw_gi 728 (by decide +kernel) rfl
theorem wi_X7_isLine : (Cond.instanceMethod yX7_isLine) ∈ lw_g := lw_gi 730 (by decide +kernel) rfl
set_option maxRecDepth 20000 in
theorem wc_X7_isLine : (Cond.code yX7_isLine cX7_isLine 2 (some .boolean)) ∈ lw_g := lw_gi 731 rfl rfl
theorem wm_L_27 : (Cond.methodLink RL 27 yX7_moves) ∈ lw_g := lw_gi 732 (by decide +kernel) rfl
theorem wi_X7_moves : (Cond.instanceMethod yX7_moves) ∈ lw_g := lw_gi 733 (by decide +kernel) rfl
theorem wsel_X7_moves : (Cond.selects RX7 yX7_moves yX7_moves) ∈ lw_g := lw_gi 734 (by decide +kernel) rfl
set_option maxRecDepth 20000 in
theorem wc_X7_moves : (Cond.code yX7_moves cX7_moves 5 (some .int)) ∈ lw_g := lw_gi 735 rfl rfl
theorem wm_L_31 : (Cond.methodLink RL 31 yX7_of) ∈ lw_g := lw_gi 736 (by decide +kernel) rfl
theorem wi_X7_of : (Cond.instanceMethod yX7_of) ∈ lw_g := lw_gi 737 (by decide +kernel) rfl
theorem wsel_X7_of : (Cond.selects RX7 yX7_of yX7_of) ∈ lw_g := lw_gi 738 (by decide +kernel) rfl
set_option maxRecDepth 20000 in
theorem wc_X7_of : (Cond.code yX7_of cX7_of 3 (some .int)) ∈ lw_g := lw_gi 739 rfl rfl
theorem wm_X7_108 : (Cond.methodLink RX7 108 yX7_laysFine) ∈ lw_g := lw_gi 740 (by decide +kernel) rfl
theorem wi_X7_laysFine : (Cond.instanceMethod yX7_laysFine) ∈ lw_g := lw_gi 742 (by decide +kernel) rfl
set_option maxRecDepth 20000 in
theorem wc_X7_laysFine : (Cond.code yX7_laysFine cX7_laysFine 3 none) ∈ lw_g := lw_gi 743 rfl rfl
theorem wm_X7_86 : (Cond.methodLink RX7 86 yX7_growsBy) ∈ lw_g := lw_gi 744 (by decide +kernel) rfl
theorem wi_X7_growsBy : (Cond.instanceMethod yX7_growsBy) ∈ lw_g := lw_gi 746 (by decide +kernel) rfl
set_option maxRecDepth 20000 in
theorem wc_X7_growsBy : (Cond.code yX7_growsBy cX7_growsBy 5 none) ∈ lw_g := lw_gi 747 rfl rfl
theorem wm_X7_69 : (Cond.methodLink RX7 69 yX7_xOf) ∈ lw_g := lw_gi 748 (by decide +kernel) rfl
theorem wi_X7_xOf : (Cond.instanceMethod yX7_xOf) ∈ lw_g := lw_gi 750 (by decide +kernel) rfl
set_option maxRecDepth 20000 in
theorem wc_X7_xOf : (Cond.code yX7_xOf cX7_xOf 2 (some .int)) ∈ lw_g := lw_gi 751 rfl rfl
theorem wm_X7_72 : (Cond.methodLink RX7 72 yX7_yOf) ∈ lw_g := lw_gi 752 (by decide +kernel) rfl
theorem wi_X7_yOf : (Cond.instanceMethod yX7_yOf) ∈ lw_g := lw_gi 754 (by decide +kernel) rfl
set_option maxRecDepth 20000 in
theorem wc_X7_yOf : (Cond.code yX7_yOf cX7_yOf 2 (some .int)) ∈ lw_g := lw_gi 755 rfl rfl
theorem wm_X7_75 : (Cond.methodLink RX7 75 yX7_sortOf) ∈ lw_g := lw_gi 756 (by decide +kernel) rfl
theorem wi_X7_sortOf : (Cond.instanceMethod yX7_sortOf) ∈ lw_g := lw_gi 758 (by decide +kernel) rfl
set_option maxRecDepth 20000 in
theorem wc_X7_sortOf : (Cond.code yX7_sortOf cX7_sortOf 2 (some .int)) ∈ lw_g := lw_gi 759 rfl rfl
theorem wm_X7_78 : (Cond.methodLink RX7 78 yX7_has) ∈ lw_g := lw_gi 760 (by decide +kernel) rfl
theorem wt_X7_has : (Cond.static yX7_has) ∈ lw_g := lw_gi 761 (by decide +kernel) rfl
set_option maxRecDepth 20000 in
theorem wc_X7_has : (Cond.code yX7_has cX7_has 2 (some .boolean)) ∈ lw_g := lw_gi 762 rfl rfl
theorem wm_X7_82 : (Cond.methodLink RX7 82 yX7_gets) ∈ lw_g := lw_gi 763 (by decide +kernel) rfl
theorem wi_X7_gets : (Cond.instanceMethod yX7_gets) ∈ lw_g := lw_gi 765 (by decide +kernel) rfl
set_option maxRecDepth 20000 in
theorem wc_X7_gets : (Cond.code yX7_gets cX7_gets 3 none) ∈ lw_g := lw_gi 766 rfl rfl
theorem wm_X7_111 : (Cond.methodLink RX7 111 yX7_ofLine) ∈ lw_g := lw_gi 767 (by decide +kernel) rfl
theorem wi_X7_ofLine : (Cond.instanceMethod yX7_ofLine) ∈ lw_g := lw_gi 769 (by decide +kernel) rfl
set_option maxRecDepth 20000 in
theorem wc_X7_ofLine : (Cond.code yX7_ofLine cX7_ofLine 3 (some .int)) ∈ lw_g := lw_gi 770 rfl rfl
theorem wm_X7_102 : (Cond.methodLink RX7 102 yX7_writes) ∈ lw_g := lw_gi 771 (by decide +kernel) rfl
theorem wi_X7_writes : (Cond.instanceMethod yX7_writes) ∈ lw_g := lw_gi 773 (by decide +kernel) rfl
set_option maxRecDepth 20000 in
theorem wc_X7_writes : (Cond.code yX7_writes cX7_writes 2 (some .int)) ∈ lw_g := lw_gi 774 rfl rfl
theorem wm_X7_105 : (Cond.methodLink RX7 105 yX7_readBy) ∈ lw_g := lw_gi 775 (by decide +kernel) rfl
theorem wi_X7_readBy : (Cond.instanceMethod yX7_readBy) ∈ lw_g := lw_gi 777 (by decide +kernel) rfl
set_option maxRecDepth 20000 in
theorem wc_X7_readBy : (Cond.code yX7_readBy cX7_readBy 3 (some .int)) ∈ lw_g := lw_gi 778 rfl rfl
theorem wm_L_35 : (Cond.methodLink RL 35 yX7_clash) ∈ lw_g := lw_gi 779 (by decide +kernel) rfl
theorem wi_X7_clash : (Cond.instanceMethod yX7_clash) ∈ lw_g := lw_gi 780 (by decide +kernel) rfl
theorem wsel_X7_clash : (Cond.selects RX7 yX7_clash yX7_clash) ∈ lw_g := lw_gi 781 (by decide +kernel) rfl
set_option maxRecDepth 20000 in
theorem wc_X7_clash : (Cond.code yX7_clash cX7_clash 4 (some .int)) ∈ lw_g := lw_gi 782 rfl rfl
theorem wm_L_39 : (Cond.methodLink RL 39 yX7_fine) ∈ lw_g := lw_gi 783 (by decide +kernel) rfl
theorem wi_X7_fine : (Cond.instanceMethod yX7_fine) ∈ lw_g := lw_gi 784 (by decide +kernel) rfl
theorem wsel_X7_fine : (Cond.selects RX7 yX7_fine yX7_fine) ∈ lw_g := lw_gi 785 (by decide +kernel) rfl
set_option maxRecDepth 20000 in
theorem wc_X7_fine : (Cond.code yX7_fine cX7_fine 2 (some .int)) ∈ lw_g := lw_gi 786 rfl rfl
theorem wm_L_43 : (Cond.methodLink RL 43 yX7_coarse) ∈ lw_g := lw_gi 787 (by decide +kernel) rfl
theorem wi_X7_coarse : (Cond.instanceMethod yX7_coarse) ∈ lw_g := lw_gi 788 (by decide +kernel) rfl
theorem wsel_X7_coarse : (Cond.selects RX7 yX7_coarse yX7_coarse) ∈ lw_g := lw_gi 789 (by decide +kernel) rfl
set_option maxRecDepth 20000 in
theorem wc_X7_coarse : (Cond.code yX7_coarse cX7_coarse 2 (some .int)) ∈ lw_g := lw_gi 790 rfl rfl
theorem wm_X7_115 : (Cond.methodLink RX7 115 yX7_laysCoarse) ∈ lw_g := lw_gi 791 (by decide +kernel) rfl
theorem wi_X7_laysCoarse : (Cond.instanceMethod yX7_laysCoarse) ∈ lw_g := lw_gi 793 (by decide +kernel) rfl
set_option maxRecDepth 20000 in
theorem wc_X7_laysCoarse : (Cond.code yX7_laysCoarse cX7_laysCoarse 3 none) ∈ lw_g := lw_gi 794 rfl rfl
theorem wm_X7_96 : (Cond.methodLink RX7 96 yX7_joinsBy) ∈ lw_g := lw_gi 795 (by decide +kernel) rfl
theorem wi_X7_joinsBy : (Cond.instanceMethod yX7_joinsBy) ∈ lw_g := lw_gi 797 (by decide +kernel) rfl
set_option maxRecDepth 20000 in
theorem wc_X7_joinsBy : (Cond.code yX7_joinsBy cX7_joinsBy 4 none) ∈ lw_g := lw_gi 798 rfl rfl
theorem wm_X7_93 : (Cond.methodLink RX7 93 yX7_pointsTo) ∈ lw_g := lw_gi 799 (by decide +kernel) rfl
theorem wi_X7_pointsTo : (Cond.instanceMethod yX7_pointsTo) ∈ lw_g := lw_gi 801 (by decide +kernel) rfl
set_option maxRecDepth 20000 in
theorem wc_X7_pointsTo : (Cond.code yX7_pointsTo cX7_pointsTo 3 none) ∈ lw_g := lw_gi 802 rfl rfl
theorem wm_X7_90 : (Cond.methodLink RX7 90 yX7_joins) ∈ lw_g := lw_gi 803 (by decide +kernel) rfl
theorem wi_X7_joins : (Cond.instanceMethod yX7_joins) ∈ lw_g := lw_gi 805 (by decide +kernel) rfl
set_option maxRecDepth 20000 in
theorem wc_X7_joins : (Cond.code yX7_joins cX7_joins 10 none) ∈ lw_g := lw_gi 806 rfl rfl
theorem wm_X7_118 : (Cond.methodLink RX7 118 yX7_coarseOf) ∈ lw_g := lw_gi 807 (by decide +kernel) rfl
theorem wi_X7_coarseOf : (Cond.instanceMethod yX7_coarseOf) ∈ lw_g := lw_gi 809 (by decide +kernel) rfl
set_option maxRecDepth 20000 in
theorem wc_X7_coarseOf : (Cond.code yX7_coarseOf cX7_coarseOf 3 (some .int)) ∈ lw_g := lw_gi 810 rfl rfl
theorem wm_X7_99 : (Cond.methodLink RX7 99 yX7_groupSet) ∈ lw_g := lw_gi 811 (by decide +kernel) rfl
theorem wi_X7_groupSet : (Cond.instanceMethod yX7_groupSet) ∈ lw_g := lw_gi 813 (by decide +kernel) rfl
set_option maxRecDepth 20000 in
theorem wc_X7_groupSet : (Cond.code yX7_groupSet cX7_groupSet 4 (some .int)) ∈ lw_g := lw_gi 814 rfl rfl
theorem wm_L_47 : (Cond.methodLink RL 47 yX7_group) ∈ lw_g := lw_gi 815 (by decide +kernel) rfl
theorem wi_X7_group : (Cond.instanceMethod yX7_group) ∈ lw_g := lw_gi 816 (by decide +kernel) rfl
theorem wsel_X7_group : (Cond.selects RX7 yX7_group yX7_group) ∈ lw_g := lw_gi 817 (by decide +kernel) rfl
set_option maxRecDepth 20000 in
theorem wc_X7_group : (Cond.code yX7_group cX7_group 3 (some .int)) ∈ lw_g := lw_gi 818 rfl rfl
theorem wm_L_51 : (Cond.methodLink RL 51 yX7_count) ∈ lw_g := lw_gi 819 (by decide +kernel) rfl
theorem wi_X7_count : (Cond.instanceMethod yX7_count) ∈ lw_g := lw_gi 820 (by decide +kernel) rfl
theorem wsel_X7_count : (Cond.selects RX7 yX7_count yX7_count) ∈ lw_g := lw_gi 821 (by decide +kernel) rfl
set_option maxRecDepth 20000 in
theorem wc_X7_count : (Cond.code yX7_count cX7_count 2 (some .int)) ∈ lw_g := lw_gi 822 rfl rfl
theorem wm_X7_124 : (Cond.methodLink RX7 124 yX7_countOf) ∈ lw_g := lw_gi 823 (by decide +kernel) rfl
theorem wi_X7_countOf : (Cond.instanceMethod yX7_countOf) ∈ lw_g := lw_gi 825 (by decide +kernel) rfl
set_option maxRecDepth 20000 in
theorem wc_X7_countOf : (Cond.code yX7_countOf cX7_countOf 5 (some .int)) ∈ lw_g := lw_gi 826 rfl rfl
theorem wm_X7_121 : (Cond.methodLink RX7 121 yX7_ones) ∈ lw_g := lw_gi 827 (by decide +kernel) rfl
theorem wt_X7_ones : (Cond.static yX7_ones) ∈ lw_g := lw_gi 828 (by decide +kernel) rfl
set_option maxRecDepth 20000 in
theorem wc_X7_ones : (Cond.code yX7_ones cX7_ones 3 (some .int)) ∈ lw_g := lw_gi 829 rfl rfl
theorem wm_L_55 : (Cond.methodLink RL 55 yX7_alias) ∈ lw_g := lw_gi 830 (by decide +kernel) rfl
theorem wi_X7_alias : (Cond.instanceMethod yX7_alias) ∈ lw_g := lw_gi 831 (by decide +kernel) rfl
theorem wsel_X7_alias : (Cond.selects RX7 yX7_alias yX7_alias) ∈ lw_g := lw_gi 832 (by decide +kernel) rfl
set_option maxRecDepth 20000 in
theorem wc_X7_alias : (Cond.code yX7_alias cX7_alias 5 (some .int)) ∈ lw_g := lw_gi 833 rfl rfl
theorem wm_L_59 : (Cond.methodLink RL 59 yX7_without) ∈ lw_g := lw_gi 834 (by decide +kernel) rfl
theorem wi_X7_without : (Cond.instanceMethod yX7_without) ∈ lw_g := lw_gi 835 (by decide +kernel) rfl
theorem wsel_X7_without : (Cond.selects RX7 yX7_without yX7_without) ∈ lw_g := lw_gi 836 (by decide +kernel) rfl
set_option maxRecDepth 20000 in
theorem wc_X7_without : (Cond.code yX7_without cX7_without 5 (some .int)) ∈ lw_g := lw_gi 837 rfl rfl
theorem wm_L_63 : (Cond.methodLink RL 63 yX7_points) ∈ lw_g := lw_gi 838 (by decide +kernel) rfl
theorem wi_X7_points : (Cond.instanceMethod yX7_points) ∈ lw_g := lw_gi 839 (by decide +kernel) rfl
theorem wsel_X7_points : (Cond.selects RX7 yX7_points yX7_points) ∈ lw_g := lw_gi 840 (by decide +kernel) rfl
set_option maxRecDepth 20000 in
theorem wc_X7_points : (Cond.code yX7_points cX7_points 3 (some .int)) ∈ lw_g := lw_gi 841 rfl rfl
theorem wm_X7_133 : (Cond.methodLink RX7 133 yX7_runs) ∈ lw_g := lw_gi 842 (by decide +kernel) rfl
theorem wi_X7_runs : (Cond.instanceMethod yX7_runs) ∈ lw_g := lw_gi 844 (by decide +kernel) rfl
set_option maxRecDepth 20000 in
theorem wc_X7_runs : (Cond.code yX7_runs cX7_runs 4 none) ∈ lw_g := lw_gi 845 rfl rfl
theorem wm_X7_130 : (Cond.methodLink RX7 130 yX7_does) ∈ lw_g := lw_gi 846 (by decide +kernel) rfl
theorem wi_X7_does : (Cond.instanceMethod yX7_does) ∈ lw_g := lw_gi 848 (by decide +kernel) rfl
set_option maxRecDepth 20000 in
theorem wc_X7_does : (Cond.code yX7_does cX7_does 4 none) ∈ lw_g := lw_gi 849 rfl rfl
theorem wm_L_67 : (Cond.methodLink RL 67 yX7_seen) ∈ lw_g := lw_gi 850 (by decide +kernel) rfl
theorem wi_X7_seen : (Cond.instanceMethod yX7_seen) ∈ lw_g := lw_gi 851 (by decide +kernel) rfl
theorem wsel_X7_seen : (Cond.selects RX7 yX7_seen yX7_seen) ∈ lw_g := lw_gi 852 (by decide +kernel) rfl
set_option maxRecDepth 20000 in
theorem wc_X7_seen : (Cond.code yX7_seen cX7_seen 3 (some .int)) ∈ lw_g := lw_gi 853 rfl rfl
theorem wm_L_71 : (Cond.methodLink RL 71 yX7_misses) ∈ lw_g := lw_gi 854 (by decide +kernel) rfl
theorem wi_X7_misses : (Cond.instanceMethod yX7_misses) ∈ lw_g := lw_gi 855 (by decide +kernel) rfl
theorem wsel_X7_misses : (Cond.selects RX7 yX7_misses yX7_misses) ∈ lw_g := lw_gi 856 (by decide +kernel) rfl
set_option maxRecDepth 20000 in
theorem wc_X7_misses : (Cond.code yX7_misses cX7_misses 2 (some .int)) ∈ lw_g := lw_gi 857 rfl rfl
theorem wm_L_75 : (Cond.methodLink RL 75 yX7_type) ∈ lw_g := lw_gi 858 (by decide +kernel) rfl
theorem wi_X7_type : (Cond.instanceMethod yX7_type) ∈ lw_g := lw_gi 859 (by decide +kernel) rfl
theorem wsel_X7_type : (Cond.selects RX7 yX7_type yX7_type) ∈ lw_g := lw_gi 860 (by decide +kernel) rfl
set_option maxRecDepth 20000 in
theorem wc_X7_type : (Cond.code yX7_type cX7_type 2 (some .int)) ∈ lw_g := lw_gi 861 rfl rfl
theorem wm_L_80 : (Cond.methodLink RL 80 yX7_clear) ∈ lw_g := lw_gi 862 (by decide +kernel) rfl
theorem wi_X7_clear : (Cond.instanceMethod yX7_clear) ∈ lw_g := lw_gi 863 (by decide +kernel) rfl
theorem wsel_X7_clear : (Cond.selects RX7 yX7_clear yX7_clear) ∈ lw_g := lw_gi 864 (by decide +kernel) rfl
set_option maxRecDepth 20000 in
theorem wc_X7_clear : (Cond.code yX7_clear cX7_clear 2 (some .int)) ∈ lw_g := lw_gi 865 rfl rfl
theorem wm_L_84 : (Cond.methodLink RL 84 yX7_reads) ∈ lw_g := lw_gi 866 (by decide +kernel) rfl
theorem wi_X7_reads : (Cond.instanceMethod yX7_reads) ∈ lw_g := lw_gi 867 (by decide +kernel) rfl
theorem wsel_X7_reads : (Cond.selects RX7 yX7_reads yX7_reads) ∈ lw_g := lw_gi 868 (by decide +kernel) rfl
set_option maxRecDepth 20000 in
theorem wc_X7_reads : (Cond.code yX7_reads cX7_reads 2 (some .int)) ∈ lw_g := lw_gi 869 rfl rfl
theorem wm_X7_156 : (Cond.methodLink RX7 156 yX7_isRead) ∈ lw_g := lw_gi 870 (by decide +kernel) rfl
theorem wi_X7_isRead : (Cond.instanceMethod yX7_isRead) ∈ lw_g := lw_gi 872 (by decide +kernel) rfl
set_option maxRecDepth 20000 in
theorem wc_X7_isRead : (Cond.code yX7_isRead cX7_isRead 1 (some .boolean)) ∈ lw_g := lw_gi 873 rfl rfl
theorem wm_X7_142 : (Cond.methodLink RX7 142 yX7_next) ∈ lw_g := lw_gi 874 (by decide +kernel) rfl
theorem wi_X7_next : (Cond.instanceMethod yX7_next) ∈ lw_g := lw_gi 876 (by decide +kernel) rfl
set_option maxRecDepth 20000 in
theorem wc_X7_next : (Cond.code yX7_next cX7_next 1 (some .int)) ∈ lw_g := lw_gi 877 rfl rfl
theorem wm_X7_152 : (Cond.methodLink RX7 152 yX7_readsLine) ∈ lw_g := lw_gi 878 (by decide +kernel) rfl
theorem wi_X7_readsLine : (Cond.instanceMethod yX7_readsLine) ∈ lw_g := lw_gi 880 (by decide +kernel) rfl
set_option maxRecDepth 20000 in
theorem wc_X7_readsLine : (Cond.code yX7_readsLine cX7_readsLine 4 (some .boolean)) ∈ lw_g := lw_gi 881 rfl rfl
theorem wm_X7_146 : (Cond.methodLink RX7 146 yX7_passes) ∈ lw_g := lw_gi 882 (by decide +kernel) rfl
theorem wi_X7_passes : (Cond.instanceMethod yX7_passes) ∈ lw_g := lw_gi 884 (by decide +kernel) rfl
set_option maxRecDepth 20000 in
theorem wc_X7_passes : (Cond.code yX7_passes cX7_passes 3 (some .boolean)) ∈ lw_g := lw_gi 885 rfl rfl
theorem wm_X7_149 : (Cond.methodLink RX7 149 yX7_namePassed) ∈ lw_g := lw_gi 886 (by decide +kernel) rfl
theorem wi_X7_namePassed : (Cond.instanceMethod yX7_namePassed) ∈ lw_g := lw_gi 888 (by decide +kernel) rfl
set_option maxRecDepth 20000 in
theorem wc_X7_namePassed : (Cond.code yX7_namePassed cX7_namePassed 2 (some .int)) ∈ lw_g := lw_gi 889 rfl rfl
theorem wm_L_88 : (Cond.methodLink RL 88 yX7_shown) ∈ lw_g := lw_gi 890 (by decide +kernel) rfl
theorem wi_X7_shown : (Cond.instanceMethod yX7_shown) ∈ lw_g := lw_gi 891 (by decide +kernel) rfl
theorem wsel_X7_shown : (Cond.selects RX7 yX7_shown yX7_shown) ∈ lw_g := lw_gi 892 (by decide +kernel) rfl
set_option maxRecDepth 20000 in
theorem wc_X7_shown : (Cond.code yX7_shown cX7_shown 3 (some .int)) ∈ lw_g := lw_gi 893 rfl rfl
theorem wm_X7_165 : (Cond.methodLink RX7 165 yX7_writesOut) ∈ lw_g := lw_gi 894 (by decide +kernel) rfl
theorem wi_X7_writesOut : (Cond.instanceMethod yX7_writesOut) ∈ lw_g := lw_gi 896 (by decide +kernel) rfl
set_option maxRecDepth 20000 in
theorem wc_X7_writesOut : (Cond.code yX7_writesOut cX7_writesOut 2 none) ∈ lw_g := lw_gi 897 rfl rfl
theorem wm_X7_162 : (Cond.methodLink RX7 162 yX7_puts) ∈ lw_g := lw_gi 898 (by decide +kernel) rfl
theorem wi_X7_puts : (Cond.instanceMethod yX7_puts) ∈ lw_g := lw_gi 900 (by decide +kernel) rfl
set_option maxRecDepth 20000 in
theorem wc_X7_puts : (Cond.code yX7_puts cX7_puts 2 none) ∈ lw_g := lw_gi 901 rfl rfl
theorem wm_L_96 : (Cond.methodLink RL 96 yX7_told) ∈ lw_g := lw_gi 902 (by decide +kernel) rfl
theorem wi_X7_told : (Cond.instanceMethod yX7_told) ∈ lw_g := lw_gi 903 (by decide +kernel) rfl
theorem wsel_X7_told : (Cond.selects RX7 yX7_told yX7_told) ∈ lw_g := lw_gi 904 (by decide +kernel) rfl
set_option maxRecDepth 20000 in
theorem wc_X7_told : (Cond.code yX7_told cX7_told 2 (some .int)) ∈ lw_g := lw_gi 905 rfl rfl
theorem wm_X7_168 : (Cond.methodLink RX7 168 yX7_toldOf) ∈ lw_g := lw_gi 906 (by decide +kernel) rfl
theorem wi_X7_toldOf : (Cond.instanceMethod yX7_toldOf) ∈ lw_g := lw_gi 908 (by decide +kernel) rfl
set_option maxRecDepth 20000 in
theorem wc_X7_toldOf : (Cond.code yX7_toldOf cX7_toldOf 2 (some .int)) ∈ lw_g := lw_gi 909 rfl rfl
theorem wm_L_101 : (Cond.methodLink RL 101 yX7_digest) ∈ lw_g := lw_gi 910 (by decide +kernel) rfl
theorem wi_X7_digest : (Cond.instanceMethod yX7_digest) ∈ lw_g := lw_gi 911 (by decide +kernel) rfl
theorem wsel_X7_digest : (Cond.selects RX7 yX7_digest yX7_digest) ∈ lw_g := lw_gi 912 (by decide +kernel) rfl
set_option maxRecDepth 20000 in
theorem wc_X7_digest : (Cond.code yX7_digest cX7_digest 2 (some .long)) ∈ lw_g := lw_gi 913 rfl rfl
theorem wk_X7_180 : (Cond.constantLong RX7 180 (2531)) ∈ lw_g := lw_gi 914 (by decide +kernel) rfl
theorem wm_X7_177 : (Cond.methodLink RX7 177 yX7_mix) ∈ lw_g := lw_gi 915 (by decide +kernel) rfl
theorem wi_X7_mix : (Cond.instanceMethod yX7_mix) ∈ lw_g := lw_gi 917 (by decide +kernel) rfl
set_option maxRecDepth 20000 in
theorem wc_X7_mix : (Cond.code yX7_mix cX7_mix 2 none) ∈ lw_g := lw_gi 918 rfl rfl
theorem wk_X7_171 : (Cond.constantLong RX7 171 (31)) ∈ lw_g := lw_gi 919 (by decide +kernel) rfl
theorem wm_X7_182 : (Cond.methodLink RX7 182 yX7_mixName) ∈ lw_g := lw_gi 920 (by decide +kernel) rfl
theorem wi_X7_mixName : (Cond.instanceMethod yX7_mixName) ∈ lw_g := lw_gi 922 (by decide +kernel) rfl
set_option maxRecDepth 20000 in
theorem wc_X7_mixName : (Cond.code yX7_mixName cX7_mixName 2 none) ∈ lw_g := lw_gi 923 rfl rfl
theorem wsel_X6_refuseBad : (Cond.selects RX6 yX6_refuseBad yX6_refuseBad) ∈ lw_g := lw_gi 0 (by decide +kernel) rfl
theorem wsel_X6_refuseFull : (Cond.selects RX6 yX6_refuseFull yX6_refuseFull) ∈ lw_g := lw_gi 1 (by decide +kernel) rfl
theorem wsel_X4_loseOldest : (Cond.selects RX4 yX4_loseOldest yX4_loseOldest) ∈ lw_g := lw_gi 2 (by decide +kernel) rfl
theorem wsel_X6_isLine : (Cond.selects RX6 yX6_isLine yX6_isLine) ∈ lw_g := lw_gi 3 (by decide +kernel) rfl
theorem wsel_X1_apply : (Cond.selects RX1 yX1_apply yX1_apply) ∈ lw_g := lw_gi 4 (by decide +kernel) rfl
theorem wsel_X1_grow : (Cond.selects RX1 yX1_grow yX1_grow) ∈ lw_g := lw_gi 5 (by decide +kernel) rfl
theorem wsel_X1_unionOver : (Cond.selects RX1 yX1_unionOver yX1_unionOver) ∈ lw_g := lw_gi 6 (by decide +kernel) rfl
theorem wsel_X1_growAll : (Cond.selects RX1 yX1_growAll yX1_growAll) ∈ lw_g := lw_gi 7 (by decide +kernel) rfl
theorem wsel_X6_lineDetail : (Cond.selects RX6 yX6_lineDetail yX6_lineDetail) ∈ lw_g := lw_gi 8 (by decide +kernel) rfl
theorem wsel_X6_writesOf : (Cond.selects RX6 yX6_writesOf yX6_writesOf) ∈ lw_g := lw_gi 9 (by decide +kernel) rfl
theorem wsel_X6_readsOf : (Cond.selects RX6 yX6_readsOf yX6_readsOf) ∈ lw_g := lw_gi 10 (by decide +kernel) rfl
theorem wsel_X6_disturbs : (Cond.selects RX6 yX6_disturbs yX6_disturbs) ∈ lw_g := lw_gi 11 (by decide +kernel) rfl
theorem wsel_X0_apply : (Cond.selects RX0 yX0_apply yX0_apply) ∈ lw_g := lw_gi 12 (by decide +kernel) rfl
theorem wsel_X0_point : (Cond.selects RX0 yX0_point yX0_point) ∈ lw_g := lw_gi 13 (by decide +kernel) rfl
theorem wsel_X0_join : (Cond.selects RX0 yX0_join yX0_join) ∈ lw_g := lw_gi 14 (by decide +kernel) rfl
theorem wsel_X0_rename : (Cond.selects RX0 yX0_rename yX0_rename) ∈ lw_g := lw_gi 15 (by decide +kernel) rfl
theorem wsel_X6_groupDetail : (Cond.selects RX6 yX6_groupDetail yX6_groupDetail) ∈ lw_g := lw_gi 16 (by decide +kernel) rfl
theorem wsel_X6_counted : (Cond.selects RX6 yX6_counted yX6_counted) ∈ lw_g := lw_gi 17 (by decide +kernel) rfl
theorem wsel_X6_mayPointTo : (Cond.selects RX6 yX6_mayPointTo yX6_mayPointTo) ∈ lw_g := lw_gi 18 (by decide +kernel) rfl
theorem wsel_X3_carryOut : (Cond.selects RX3 yX3_carryOut yX3_carryOut) ∈ lw_g := lw_gi 19 (by decide +kernel) rfl
theorem wsel_X3_point : (Cond.selects RX3 yX3_point yX3_point) ∈ lw_g := lw_gi 20 (by decide +kernel) rfl
theorem wsel_X3_load : (Cond.selects RX3 yX3_load yX3_load) ∈ lw_g := lw_gi 21 (by decide +kernel) rfl
theorem wsel_X3_store : (Cond.selects RX3 yX3_store yX3_store) ∈ lw_g := lw_gi 22 (by decide +kernel) rfl
theorem wsel_X5_stepBehind : (Cond.selects RX5 yX5_stepBehind yX5_stepBehind) ∈ lw_g := lw_gi 23 (by decide +kernel) rfl
theorem wsel_X5_behindStart : (Cond.selects RX5 yX5_behindStart yX5_behindStart) ∈ lw_g := lw_gi 24 (by decide +kernel) rfl
theorem wsel_X5_behindLeftName : (Cond.selects RX5 yX5_behindLeftName yX5_behindLeftName) ∈ lw_g := lw_gi 25 (by decide +kernel) rfl
theorem wsel_X5_behindRightSide : (Cond.selects RX5 yX5_behindRightSide yX5_behindRightSide) ∈ lw_g := lw_gi 26 (by decide +kernel) rfl
theorem wsel_X5_behindRightName : (Cond.selects RX5 yX5_behindRightName yX5_behindRightName) ∈ lw_g := lw_gi 27 (by decide +kernel) rfl
theorem wsel_X5_behindEnd : (Cond.selects RX5 yX5_behindEnd yX5_behindEnd) ∈ lw_g := lw_gi 28 (by decide +kernel) rfl
theorem wsel_X2_lengthAt : (Cond.selects RX2 yX2_lengthAt yX2_lengthAt) ∈ lw_g := lw_gi 29 (by decide +kernel) rfl
theorem wsel_X2_byteAt : (Cond.selects RX2 yX2_byteAt yX2_byteAt) ∈ lw_g := lw_gi 30 (by decide +kernel) rfl
theorem wsel_X6_refuseNo : (Cond.selects RX6 yX6_refuseNo yX6_refuseNo) ∈ lw_g := lw_gi 31 (by decide +kernel) rfl
theorem wsel_X6_tally : (Cond.selects RX6 yX6_tally yX6_tally) ∈ lw_g := lw_gi 32 (by decide +kernel) rfl
theorem wsel_X6_mixedName : (Cond.selects RX6 yX6_mixedName yX6_mixedName) ∈ lw_g := lw_gi 33 (by decide +kernel) rfl
theorem wsel_X7_counts : (Cond.selects RX7 yX7_counts yX7_counts) ∈ lw_g := lw_gi 34 (by decide +kernel) rfl
theorem wsel_X7_leaves : (Cond.selects RX7 yX7_leaves yX7_leaves) ∈ lw_g := lw_gi 35 (by decide +kernel) rfl
theorem wsel_X7_isLine : (Cond.selects RX7 yX7_isLine yX7_isLine) ∈ lw_g := lw_gi 36 (by decide +kernel) rfl
theorem wsel_X7_laysFine : (Cond.selects RX7 yX7_laysFine yX7_laysFine) ∈ lw_g := lw_gi 37 (by decide +kernel) rfl
theorem wsel_X7_growsBy : (Cond.selects RX7 yX7_growsBy yX7_growsBy) ∈ lw_g := lw_gi 38 (by decide +kernel) rfl
theorem wsel_X7_xOf : (Cond.selects RX7 yX7_xOf yX7_xOf) ∈ lw_g := lw_gi 39 (by decide +kernel) rfl
theorem wsel_X7_yOf : (Cond.selects RX7 yX7_yOf yX7_yOf) ∈ lw_g := lw_gi 40 (by decide +kernel) rfl
theorem wsel_X7_sortOf : (Cond.selects RX7 yX7_sortOf yX7_sortOf) ∈ lw_g := lw_gi 41 (by decide +kernel) rfl
theorem wsel_X7_gets : (Cond.selects RX7 yX7_gets yX7_gets) ∈ lw_g := lw_gi 42 (by decide +kernel) rfl
theorem wsel_X7_ofLine : (Cond.selects RX7 yX7_ofLine yX7_ofLine) ∈ lw_g := lw_gi 43 (by decide +kernel) rfl
theorem wsel_X7_writes : (Cond.selects RX7 yX7_writes yX7_writes) ∈ lw_g := lw_gi 44 (by decide +kernel) rfl
theorem wsel_X7_readBy : (Cond.selects RX7 yX7_readBy yX7_readBy) ∈ lw_g := lw_gi 45 (by decide +kernel) rfl
theorem wsel_X7_laysCoarse : (Cond.selects RX7 yX7_laysCoarse yX7_laysCoarse) ∈ lw_g := lw_gi 46 (by decide +kernel) rfl
theorem wsel_X7_joinsBy : (Cond.selects RX7 yX7_joinsBy yX7_joinsBy) ∈ lw_g := lw_gi 47 (by decide +kernel) rfl
theorem wsel_X7_pointsTo : (Cond.selects RX7 yX7_pointsTo yX7_pointsTo) ∈ lw_g := lw_gi 48 (by decide +kernel) rfl
theorem wsel_X7_joins : (Cond.selects RX7 yX7_joins yX7_joins) ∈ lw_g := lw_gi 49 (by decide +kernel) rfl
theorem wsel_X7_coarseOf : (Cond.selects RX7 yX7_coarseOf yX7_coarseOf) ∈ lw_g := lw_gi 50 (by decide +kernel) rfl
theorem wsel_X7_groupSet : (Cond.selects RX7 yX7_groupSet yX7_groupSet) ∈ lw_g := lw_gi 51 (by decide +kernel) rfl
theorem wsel_X7_countOf : (Cond.selects RX7 yX7_countOf yX7_countOf) ∈ lw_g := lw_gi 52 (by decide +kernel) rfl
theorem wsel_X7_runs : (Cond.selects RX7 yX7_runs yX7_runs) ∈ lw_g := lw_gi 53 (by decide +kernel) rfl
theorem wsel_X7_does : (Cond.selects RX7 yX7_does yX7_does) ∈ lw_g := lw_gi 54 (by decide +kernel) rfl
theorem wsel_X7_isRead : (Cond.selects RX7 yX7_isRead yX7_isRead) ∈ lw_g := lw_gi 55 (by decide +kernel) rfl
theorem wsel_X7_next : (Cond.selects RX7 yX7_next yX7_next) ∈ lw_g := lw_gi 56 (by decide +kernel) rfl
theorem wsel_X7_readsLine : (Cond.selects RX7 yX7_readsLine yX7_readsLine) ∈ lw_g := lw_gi 57 (by decide +kernel) rfl
theorem wsel_X7_passes : (Cond.selects RX7 yX7_passes yX7_passes) ∈ lw_g := lw_gi 58 (by decide +kernel) rfl
theorem wsel_X7_namePassed : (Cond.selects RX7 yX7_namePassed yX7_namePassed) ∈ lw_g := lw_gi 59 (by decide +kernel) rfl
theorem wsel_X7_writesOut : (Cond.selects RX7 yX7_writesOut yX7_writesOut) ∈ lw_g := lw_gi 60 (by decide +kernel) rfl
theorem wsel_X7_puts : (Cond.selects RX7 yX7_puts yX7_puts) ∈ lw_g := lw_gi 61 (by decide +kernel) rfl
theorem wsel_X7_toldOf : (Cond.selects RX7 yX7_toldOf yX7_toldOf) ∈ lw_g := lw_gi 62 (by decide +kernel) rfl
theorem wsel_X7_mix : (Cond.selects RX7 yX7_mix yX7_mix) ∈ lw_g := lw_gi 63 (by decide +kernel) rfl
theorem wsel_X7_mixName : (Cond.selects RX7 yX7_mixName yX7_mixName) ∈ lw_g := lw_gi 64 (by decide +kernel) rfl
theorem lw_ao : Cond.arrayOver (.object RX2) ∈ lw_tbl := List.mem_of_getElem? (i := 107) (by decide +kernel)
def lw_nest : List (String × Nat × MethodName × String) := [(RX6, 9, yX2_init, RX6), (RX4, 17, yX2_init, RX6), (RX6, 25, yX5_init, RX6), (RX5, 17, yX2_init, RX6), (RX6, 32, yX1_init, RX6), (RX6, 39, yX0_init, RX6), (RX6, 46, yX3_init, RX6), (RX1, 46, yX6_bit, RX6), (RX1, 59, yX6_hasBit, RX6), (RX0, 22, yX6_bit, RX6), (RX0, 25, yX6_asNumber, RX6), (RX3, 58, yX6_bit, RX6), (RX5, 59, yX6_isName, RX6)]
theorem lw_nest_in0 : (Cond.methodLinkNest RX6 9 yX2_init RX6) ∈ lw_tbl := List.mem_of_getElem? (i := 88) (by decide +kernel)
theorem lw_nest_in1 : (Cond.methodLinkNest RX4 17 yX2_init RX6) ∈ lw_tbl := List.mem_of_getElem? (i := 108) (by decide +kernel)
theorem lw_nest_in2 : (Cond.methodLinkNest RX6 25 yX5_init RX6) ∈ lw_tbl := List.mem_of_getElem? (i := 118) (by decide +kernel)
theorem lw_nest_in3 : (Cond.methodLinkNest RX5 17 yX2_init RX6) ∈ lw_tbl := List.mem_of_getElem? (i := 123) (by decide +kernel)
theorem lw_nest_in4 : (Cond.methodLinkNest RX6 32 yX1_init RX6) ∈ lw_tbl := List.mem_of_getElem? (i := 145) (by decide +kernel)
theorem lw_nest_in5 : (Cond.methodLinkNest RX6 39 yX0_init RX6) ∈ lw_tbl := List.mem_of_getElem? (i := 155) (by decide +kernel)
theorem lw_nest_in6 : (Cond.methodLinkNest RX6 46 yX3_init RX6) ∈ lw_tbl := List.mem_of_getElem? (i := 168) (by decide +kernel)
theorem lw_nest_in7 : (Cond.methodLinkNest RX1 46 yX6_bit RX6) ∈ lw_tbl := List.mem_of_getElem? (i := 300) (by decide +kernel)
theorem lw_nest_in8 : (Cond.methodLinkNest RX1 59 yX6_hasBit RX6) ∈ lw_tbl := List.mem_of_getElem? (i := 311) (by decide +kernel)
theorem lw_nest_in9 : (Cond.methodLinkNest RX0 22 yX6_bit RX6) ∈ lw_tbl := List.mem_of_getElem? (i := 399) (by decide +kernel)
theorem lw_nest_in10 : (Cond.methodLinkNest RX0 25 yX6_asNumber RX6) ∈ lw_tbl := List.mem_of_getElem? (i := 426) (by decide +kernel)
theorem lw_nest_in11 : (Cond.methodLinkNest RX3 58 yX6_bit RX6) ∈ lw_tbl := List.mem_of_getElem? (i := 488) (by decide +kernel)
theorem lw_nest_in12 : (Cond.methodLinkNest RX5 59 yX6_isName RX6) ∈ lw_tbl := List.mem_of_getElem? (i := 562) (by decide +kernel)
theorem lw_nest_ok : ∀ q ∈ lw_nest, Cond.methodLinkNest q.1 q.2.1 q.2.2.1 q.2.2.2 ∈ lw_tbl := List.forall_mem_cons.mpr ⟨lw_nest_in0, List.forall_mem_cons.mpr ⟨lw_nest_in1, List.forall_mem_cons.mpr ⟨lw_nest_in2, List.forall_mem_cons.mpr ⟨lw_nest_in3, List.forall_mem_cons.mpr ⟨lw_nest_in4, List.forall_mem_cons.mpr ⟨lw_nest_in5, List.forall_mem_cons.mpr ⟨lw_nest_in6, List.forall_mem_cons.mpr ⟨lw_nest_in7, List.forall_mem_cons.mpr ⟨lw_nest_in8, List.forall_mem_cons.mpr ⟨lw_nest_in9, List.forall_mem_cons.mpr ⟨lw_nest_in10, List.forall_mem_cons.mpr ⟨lw_nest_in11, List.forall_mem_cons.mpr ⟨lw_nest_in12, fun _ h => absurd h List.not_mem_nil⟩⟩⟩⟩⟩⟩⟩⟩⟩⟩⟩⟩⟩
theorem wq_X6_9 : (RX6, 9, yX2_init, RX6) ∈ lw_nest := List.mem_of_getElem? (i := 0) rfl
theorem wq_X4_17 : (RX4, 17, yX2_init, RX6) ∈ lw_nest := List.mem_of_getElem? (i := 1) rfl
theorem wq_X6_25 : (RX6, 25, yX5_init, RX6) ∈ lw_nest := List.mem_of_getElem? (i := 2) rfl
theorem wq_X5_17 : (RX5, 17, yX2_init, RX6) ∈ lw_nest := List.mem_of_getElem? (i := 3) rfl
theorem wq_X6_32 : (RX6, 32, yX1_init, RX6) ∈ lw_nest := List.mem_of_getElem? (i := 4) rfl
theorem wq_X6_39 : (RX6, 39, yX0_init, RX6) ∈ lw_nest := List.mem_of_getElem? (i := 5) rfl
theorem wq_X6_46 : (RX6, 46, yX3_init, RX6) ∈ lw_nest := List.mem_of_getElem? (i := 6) rfl
theorem wq_X1_46 : (RX1, 46, yX6_bit, RX6) ∈ lw_nest := List.mem_of_getElem? (i := 7) rfl
theorem wq_X1_59 : (RX1, 59, yX6_hasBit, RX6) ∈ lw_nest := List.mem_of_getElem? (i := 8) rfl
theorem wq_X0_22 : (RX0, 22, yX6_bit, RX6) ∈ lw_nest := List.mem_of_getElem? (i := 9) rfl
theorem wq_X0_25 : (RX0, 25, yX6_asNumber, RX6) ∈ lw_nest := List.mem_of_getElem? (i := 10) rfl
theorem wq_X3_58 : (RX3, 58, yX6_bit, RX6) ∈ lw_nest := List.mem_of_getElem? (i := 11) rfl
theorem wq_X5_59 : (RX5, 59, yX6_isName, RX6) ∈ lw_nest := List.mem_of_getElem? (i := 12) rfl
theorem wF_X0 : ∀ w ∈ u_ws RX0 TX0 2, w ∈ lw_g := fun w h => List.mem_filter.mpr ⟨(show ∀ w ∈ u_ws RX0 TX0 2, w ∈ lw_tbl by decide +kernel) w h, (show ∀ w ∈ u_ws RX0 TX0 2, goodWord w = true by decide +kernel) w h⟩
theorem wF_X1 : ∀ w ∈ u_ws RX1 TX1 1, w ∈ lw_g := fun w h => List.mem_filter.mpr ⟨(show ∀ w ∈ u_ws RX1 TX1 1, w ∈ lw_tbl by decide +kernel) w h, (show ∀ w ∈ u_ws RX1 TX1 1, goodWord w = true by decide +kernel) w h⟩
theorem wF_X2 : ∀ w ∈ u_ws RX2 TX2 2, w ∈ lw_g := fun w h => List.mem_filter.mpr ⟨(show ∀ w ∈ u_ws RX2 TX2 2, w ∈ lw_tbl by decide +kernel) w h, (show ∀ w ∈ u_ws RX2 TX2 2, goodWord w = true by decide +kernel) w h⟩
theorem wF_X3 : ∀ w ∈ u_ws RX3 TX3 3, w ∈ lw_g := fun w h => List.mem_filter.mpr ⟨(show ∀ w ∈ u_ws RX3 TX3 3, w ∈ lw_tbl by decide +kernel) w h, (show ∀ w ∈ u_ws RX3 TX3 3, goodWord w = true by decide +kernel) w h⟩
theorem wF_X4 : ∀ w ∈ u_ws RX4 TX4 2, w ∈ lw_g := fun w h => List.mem_filter.mpr ⟨(show ∀ w ∈ u_ws RX4 TX4 2, w ∈ lw_tbl by decide +kernel) w h, (show ∀ w ∈ u_ws RX4 TX4 2, goodWord w = true by decide +kernel) w h⟩
theorem wF_X5 : ∀ w ∈ u_ws RX5 TX5 6, w ∈ lw_g := fun w h => List.mem_filter.mpr ⟨(show ∀ w ∈ u_ws RX5 TX5 6, w ∈ lw_tbl by decide +kernel) w h, (show ∀ w ∈ u_ws RX5 TX5 6, goodWord w = true by decide +kernel) w h⟩
theorem wF_X6 : ∀ w ∈ u_ws RX6 TX6 9, w ∈ lw_g := fun w h => List.mem_filter.mpr ⟨(show ∀ w ∈ u_ws RX6 TX6 9, w ∈ lw_tbl by decide +kernel) w h, (show ∀ w ∈ u_ws RX6 TX6 9, goodWord w = true by decide +kernel) w h⟩
theorem wF_X7 : ∀ w ∈ u_ws RX7 TX7 18, w ∈ lw_g := fun w h => List.mem_filter.mpr ⟨(show ∀ w ∈ u_ws RX7 TX7 18, w ∈ lw_tbl by decide +kernel) w h, (show ∀ w ∈ u_ws RX7 TX7 18, goodWord w = true by decide +kernel) w h⟩
end
section
abbrev gcls : List vw_C := [(RX0, TX0, 2), (RX1, TX1, 1), (RX2, TX2, 2), (RX3, TX3, 3), (RX4, TX4, 2), (RX5, TX5, 6), (RX6, TX6, 9), (RX7, TX7, 18)]
abbrev gE : Type := va_G × ClassId × ClassId
abbrev gty (E : gE) : List (ClassId × FieldType) := [(E.2.1, .int), (E.2.2, .object RX2)]
def gN (U : State) : Prop := (∀ q ∈ lw_nest, va_Nw (.methodLinkNest q.1 q.2.1 q.2.2.1 q.2.2.2) U) ∧ va_AO RX2 U
def gK (E : gE) (U : State) : Prop := va_K E.1 gcls (gty E) U ∧ gN U
theorem gN.warm {s U : State} (hW : s.WarmedH U.vm) (h : gN s) : gN U := ⟨fun q hq => va_Nw.warmM hW (h.1 q hq), va_AO.moved hW.alike h.2⟩
theorem gN.same {u U : State} (e : u.vm = U.vm) (h : gN u) : gN U := ⟨fun q hq => va_Nw.same rfl e (h.1 q hq), va_AO.moved (e ▸ Vm.Alike.refl u.vm) h.2⟩
theorem gK.warm {E : gE} {s U : State} (hW : s.WarmedH U.vm) (h : gK E s) : gK E U := ⟨va_K.moved hW.alike h.1, gN.warm hW h.2⟩
theorem gK.same {E : gE} {u U : State} (e : u.vm = U.vm) (h : gK E u) : gK E U := ⟨va_K.moved (e ▸ Vm.Alike.refl u.vm) h.1, gN.same e h.2⟩
def lg : List (Nat × Value) → Nat → Option Value
  | [], _ => none
  | (j, v) :: t, i => if j = i then some v else lg t i
theorem lg_mem : ∀ {L : List (Nat × Value)} {i : Nat} {v : Value}, lg L i = some v → (i, v) ∈ L
  | [], i, v, h => by simp [lg] at h
  | (j, w) :: t, i, v, h => by
    unfold lg at h
    by_cases hj : j = i
    · rw [if_pos hj] at h; cases h; subst hj; exact List.mem_cons_self
    · rw [if_neg hj] at h; exact List.mem_cons_of_mem _ (lg_mem h)
theorem P_map {D : va_G} {cl : List vw_C} {ws ws' : va_W} {H : Heap} (h : va_P D cl ws H) (is : List Nat) (hs : is.map (fun i => ws[i]?) = ws'.map some) : va_P D cl ws' H := by
  intro k q hk
  have h1 : (is.map (fun i => ws[i]?))[k]? = some (some q) := by rw [hs, List.getElem?_map, hk]; rfl
  rw [List.getElem?_map] at h1
  obtain ⟨i, -, hi⟩ := Option.map_eq_some_iff.mp h1
  exact h i q hi
section GR
variable {E : gE} {p : Program} {l : Launch} {e : Env} {R : Room} {s : State} {m : MethodId} {args : Array Value} {below : List Frame} {meth : Method} {c : Code} {cc : ByteArray} {nL : Nat} {own : String} {A : Nat → Prop} {k n : Nat} {Q : State → Prop} {ws : va_W} {pc : Nat} {L : List (Nat × Value)} {st : List Value}
def gC (E : gE) (p : Program) (R : Room) (s : State) (m : MethodId) (args : Array Value) (meth : Method) (c : Code) (cc : ByteArray) (nL : Nat) (own : String) (A : Nat → Prop) : Prop :=
  p.tables.exec = Jvm.exec ∧ c.code = cc ∧ c.maxLocals = nL ∧ s.vm.findClass own = some m.cls ∧ (∀ w ∈ lw_g, w.before args s = true) ∧ gK E s ∧ (∀ q, s.heap.size ≤ q → A q) ∧ meth.locks = false
def G (E : gE) (p : Program) (l : Launch) (e : Env) (R : Room) (s : State) (m : MethodId) (args : Array Value) (below : List Frame) (meth : Method) (c : Code) (nL : Nat) (A : Nat → Prop) (k n : Nat) (Q : State → Prop) (ws : va_W) (pc : Nat) (L : List (Nat × Value)) (st : List Value) : Prop :=
  ∀ (H : Heap) (locs : List Loc), va_P E.1 gcls ws H → va_D A ws → va_S A s.heap H locs → ∀ ls : Array Slot, lv_has ls nL L → W p l e R s m args below meth c H locs k n Q (F0 m pc ls st)
theorem gC.hx (C : gC E p R s m args meth c cc nL own A) : p.tables.exec = Jvm.exec := C.1
theorem gC.hb (C : gC E p R s m args meth c cc nL own A) : c.code = cc := C.2.1
theorem gC.hml (C : gC E p R s m args meth c cc nL own A) : c.maxLocals = nL := C.2.2.1
theorem gC.hown (C : gC E p R s m args meth c cc nL own A) : s.vm.findClass own = some m.cls := C.2.2.2.1
theorem gC.hts (C : gC E p R s m args meth c cc nL own A) : ∀ w ∈ lw_g, w.before args s = true := C.2.2.2.2.1
theorem gC.hK (C : gC E p R s m args meth c cc nL own A) : gK E s := C.2.2.2.2.2.1
theorem gC.hA (C : gC E p R s m args meth c cc nL own A) : ∀ q, s.heap.size ≤ q → A q := C.2.2.2.2.2.2.1
theorem gC.hlk (C : gC E p R s m args meth c cc nL own A) : meth.locks = false := C.2.2.2.2.2.2.2
theorem G_eq {ws' : va_W} {L' : List (Nat × Value)} {st' : List Value} (hw : ws = ws') (hL : L = L') (hs : st = st') (kk : G E p l e R s m args below meth c nL A k n Q ws' pc L' st') : G E p l e R s m args below meth c nL A k n Q ws pc L st := by subst hw; subst hL; subst hs; exact kk
theorem G_top {v v' : Value} (h : v = v') (kk : G E p l e R s m args below meth c nL A k n Q ws pc L (v' :: st)) : G E p l e R s m args below meth c nL A k n Q ws pc L (v :: st) := by subst h; exact kk
theorem G_sub {L' : List (Nat × Value)} (h : ∀ q ∈ L', q ∈ L) (kk : G E p l e R s m args below meth c nL A k n Q ws pc L' st) : G E p l e R s m args below meth c nL A k n Q ws pc L st := fun H locs hP hD hS ls hl => kk H locs hP hD hS ls ⟨hl.1, hl.2.1, fun q hq => hl.2.2 q (h q hq)⟩
theorem G_wid {k' n' : Nat} (h1 : k ≤ k') (h2 : n ≤ n') (kk : G E p l e R s m args below meth c nL A k' n' Q ws pc L st) : G E p l e R s m args below meth c nL A k n Q ws pc L st := fun H locs hP hD hS ls hl => W.widen h1 h2 (kk H locs hP hD hS ls hl)
-- constants
theorem G_iconst (C : gC E p R s m args meth c cc nL own A) {j : Int} (d : decode cc pc = .ok (.iconst j, 1)) {v : Int32} (hv : Int32.ofInt j = v) (q : Nat) (hq : pc + 1 = q) (kk : G E p l e R s m args below meth c nL A k n Q ws q L (.int v :: st)) : G E p l e R s m args below meth c nL A k n Q ws pc L st := by
  subst hq; exact fun H locs hP hD hS ls hl => lv_iconst C.hx C.hb d hv (kk H locs hP hD hS ls hl)
theorem G_bipush (C : gC E p R s m args meth c cc nL own A) {j : Int} (d : decode cc pc = .ok (.bipush j, 2)) {v : Int32} (hv : (Int8.ofInt j).toInt32 = v) (q : Nat) (hq : pc + 2 = q) (kk : G E p l e R s m args below meth c nL A k n Q ws q L (.int v :: st)) : G E p l e R s m args below meth c nL A k n Q ws pc L st := by
  subst hq; exact fun H locs hP hD hS ls hl => lv_bipush C.hx C.hb d hv (kk H locs hP hD hS ls hl)
theorem G_sipush (C : gC E p R s m args meth c cc nL own A) {j : Int} (d : decode cc pc = .ok (.sipush j, 3)) {v : Int32} (hv : (Int16.ofInt j).toInt32 = v) (q : Nat) (hq : pc + 3 = q) (kk : G E p l e R s m args below meth c nL A k n Q ws q L (.int v :: st)) : G E p l e R s m args below meth c nL A k n Q ws pc L st := by
  subst hq; exact fun H locs hP hD hS ls hl => lv_sipush C.hx C.hb d hv (kk H locs hP hD hS ls hl)
theorem G_ldcw (C : gC E p R s m args meth c cc nL own A) {j : Nat} (d : decode cc pc = .ok (.ldc_w j, 3)) {v : Int32} (hv : Cond.constant own j v ∈ lw_g) (q : Nat) (hq : pc + 3 = q) (kk : G E p l e R s m args below meth c nL A k n Q ws q L (.int v :: st)) : G E p l e R s m args below meth c nL A k n Q ws pc L st := by
  subst hq; exact fun H locs hP hD hS ls hl => lv_ldcw C.hx C.hb C.hown (C.hts _ hv) d (kk H locs hP hD hS ls hl)
theorem G_ldc2 (C : gC E p R s m args meth c cc nL own A) {j : Nat} (d : decode cc pc = .ok (.ldc2_w j, 3)) {v : Int64} (hv : Cond.constantLong own j v ∈ lw_g) (q : Nat) (hq : pc + 3 = q) (kk : G E p l e R s m args below meth c nL A k n Q ws q L (.long v :: st)) : G E p l e R s m args below meth c nL A k n Q ws pc L st := by
  subst hq; exact fun H locs hP hD hS ls hl => lv_ldc2 C.hx C.hb C.hown (C.hts _ hv) d (kk H locs hP hD hS ls hl)
-- locals
theorem G_iload_n (C : gC E p R s m args meth c cc nL own A) {j : Fin 4} {x : Int32} (d : decode cc pc = .ok (.iload_n j, 1)) (h : lg L j.val = some (.int x)) (q : Nat) (hq : pc + 1 = q) (kk : G E p l e R s m args below meth c nL A k n Q ws q L (.int x :: st)) : G E p l e R s m args below meth c nL A k n Q ws pc L st := by
  subst hq; exact fun H locs hP hD hS ls hl => lv_iload_n C.hx C.hb d rfl (hl.2.2 _ (lg_mem h)) (kk H locs hP hD hS ls hl)
theorem G_iload (C : gC E p R s m args meth c cc nL own A) {j : Nat} {x : Int32} (d : decode cc pc = .ok (.iload j, 2)) (h : lg L j = some (.int x)) (q : Nat) (hq : pc + 2 = q) (kk : G E p l e R s m args below meth c nL A k n Q ws q L (.int x :: st)) : G E p l e R s m args below meth c nL A k n Q ws pc L st := by
  subst hq; exact fun H locs hP hD hS ls hl => lv_iload C.hx C.hb d (hl.2.2 _ (lg_mem h)) (kk H locs hP hD hS ls hl)
theorem G_aload_n (C : gC E p R s m args meth c cc nL own A) {j : Fin 4} {x : Nat} (d : decode cc pc = .ok (.aload_n j, 1)) (h : lg L j.val = some (.ref x)) (q : Nat) (hq : pc + 1 = q) (kk : G E p l e R s m args below meth c nL A k n Q ws q L (.ref x :: st)) : G E p l e R s m args below meth c nL A k n Q ws pc L st := by
  subst hq; exact fun H locs hP hD hS ls hl => lv_aload_n C.hx C.hb d rfl (hl.2.2 _ (lg_mem h)) (kk H locs hP hD hS ls hl)
theorem G_aload (C : gC E p R s m args meth c cc nL own A) {j : Nat} {x : Nat} (d : decode cc pc = .ok (.aload j, 2)) (h : lg L j = some (.ref x)) (q : Nat) (hq : pc + 2 = q) (kk : G E p l e R s m args below meth c nL A k n Q ws q L (.ref x :: st)) : G E p l e R s m args below meth c nL A k n Q ws pc L st := by
  subst hq; exact fun H locs hP hD hS ls hl => lv_aload C.hx C.hb d (hl.2.2 _ (lg_mem h)) (kk H locs hP hD hS ls hl)
theorem G_lload_n (C : gC E p R s m args meth c cc nL own A) {j : Fin 4} {x : Int64} (d : decode cc pc = .ok (.lload_n j, 1)) (h : lg L j.val = some (.long x)) (q : Nat) (hq : pc + 1 = q) (kk : G E p l e R s m args below meth c nL A k n Q ws q L (.long x :: st)) : G E p l e R s m args below meth c nL A k n Q ws pc L st := by
  subst hq; exact fun H locs hP hD hS ls hl => lv_lload_n C.hx C.hb d rfl (hl.2.2 _ (lg_mem h)) (kk H locs hP hD hS ls hl)
theorem G_lload (C : gC E p R s m args meth c cc nL own A) {j : Nat} {x : Int64} (d : decode cc pc = .ok (.lload j, 2)) (h : lg L j = some (.long x)) (q : Nat) (hq : pc + 2 = q) (kk : G E p l e R s m args below meth c nL A k n Q ws q L (.long x :: st)) : G E p l e R s m args below meth c nL A k n Q ws pc L st := by
  subst hq; exact fun H locs hP hD hS ls hl => lv_lload C.hx C.hb d (hl.2.2 _ (lg_mem h)) (kk H locs hP hD hS ls hl)
theorem G_istore_n (C : gC E p R s m args meth c cc nL own A) {j : Fin 4} {x : Int32} (d : decode cc pc = .ok (.istore_n j, 1)) (hn : j.val < nL) (L' : List (Nat × Value)) (hL : (j.val, Value.int x) :: L.filter (fun q => !(q.1 == j.val) && !(q.1 + 1 == j.val && q.2.category == 2)) = L') (q : Nat) (hq : pc + 1 = q) (kk : G E p l e R s m args below meth c nL A k n Q ws q L' st) : G E p l e R s m args below meth c nL A k n Q ws pc L (.int x :: st) := by
  subst hq; exact fun H locs hP hD hS ls hl => lv_istore_n C.hx C.hb d rfl hl hn hL (fun ls' hl' => kk H locs hP hD hS ls' hl')
theorem G_istore (C : gC E p R s m args meth c cc nL own A) {j : Nat} {x : Int32} (d : decode cc pc = .ok (.istore j, 2)) (hn : j < nL) (L' : List (Nat × Value)) (hL : (j, Value.int x) :: L.filter (fun q => !(q.1 == j) && !(q.1 + 1 == j && q.2.category == 2)) = L') (q : Nat) (hq : pc + 2 = q) (kk : G E p l e R s m args below meth c nL A k n Q ws q L' st) : G E p l e R s m args below meth c nL A k n Q ws pc L (.int x :: st) := by
  subst hq; exact fun H locs hP hD hS ls hl => lv_istore C.hx C.hb d hl hn hL (fun ls' hl' => kk H locs hP hD hS ls' hl')
theorem G_astore_n (C : gC E p R s m args meth c cc nL own A) {j : Fin 4} {x : Nat} (d : decode cc pc = .ok (.astore_n j, 1)) (hn : j.val < nL) (L' : List (Nat × Value)) (hL : (j.val, Value.ref x) :: L.filter (fun q => !(q.1 == j.val) && !(q.1 + 1 == j.val && q.2.category == 2)) = L') (q : Nat) (hq : pc + 1 = q) (kk : G E p l e R s m args below meth c nL A k n Q ws q L' st) : G E p l e R s m args below meth c nL A k n Q ws pc L (.ref x :: st) := by
  subst hq; exact fun H locs hP hD hS ls hl => lv_astore_n C.hx C.hb d rfl hl hn hL (fun ls' hl' => kk H locs hP hD hS ls' hl')
theorem G_astore (C : gC E p R s m args meth c cc nL own A) {j : Nat} {x : Nat} (d : decode cc pc = .ok (.astore j, 2)) (hn : j < nL) (L' : List (Nat × Value)) (hL : (j, Value.ref x) :: L.filter (fun q => !(q.1 == j) && !(q.1 + 1 == j && q.2.category == 2)) = L') (q : Nat) (hq : pc + 2 = q) (kk : G E p l e R s m args below meth c nL A k n Q ws q L' st) : G E p l e R s m args below meth c nL A k n Q ws pc L (.ref x :: st) := by
  subst hq; exact fun H locs hP hD hS ls hl => lv_astore C.hx C.hb d hl hn hL (fun ls' hl' => kk H locs hP hD hS ls' hl')
theorem G_lstore_n (C : gC E p R s m args meth c cc nL own A) {j : Fin 4} {x : Int64} (d : decode cc pc = .ok (.lstore_n j, 1)) (hn : j.val + 1 < nL) (L' : List (Nat × Value)) (hL : (j.val, Value.long x) :: L.filter (fun q => !(q.1 == j.val) && (!(q.1 == j.val + 1) && !(q.1 + 1 == j.val && q.2.category == 2))) = L') (q : Nat) (hq : pc + 1 = q) (kk : G E p l e R s m args below meth c nL A k n Q ws q L' st) : G E p l e R s m args below meth c nL A k n Q ws pc L (.long x :: st) := by
  subst hq; exact fun H locs hP hD hS ls hl => lv_lstore_n C.hx C.hb d rfl hl hn hL (fun ls' hl' => kk H locs hP hD hS ls' hl')
theorem G_lstore (C : gC E p R s m args meth c cc nL own A) {j : Nat} {x : Int64} (d : decode cc pc = .ok (.lstore j, 2)) (hn : j + 1 < nL) (L' : List (Nat × Value)) (hL : (j, Value.long x) :: L.filter (fun q => !(q.1 == j) && (!(q.1 == j + 1) && !(q.1 + 1 == j && q.2.category == 2))) = L') (q : Nat) (hq : pc + 2 = q) (kk : G E p l e R s m args below meth c nL A k n Q ws q L' st) : G E p l e R s m args below meth c nL A k n Q ws pc L (.long x :: st) := by
  subst hq; exact fun H locs hP hD hS ls hl => lv_lstore C.hx C.hb d hl hn hL (fun ls' hl' => kk H locs hP hD hS ls' hl')
theorem G_iinc (C : gC E p R s m args meth c cc nL own A) {i : Nat} {j : Int} (d : decode cc pc = .ok (.iinc i j, 3)) (r : Nat) {x v : Int32} (hr : L[r]? = some (i, .int x)) (hv : x + Int32.ofInt j = v) (hn : i < nL) (L' : List (Nat × Value)) (hL : (i, Value.int v) :: L.filter (fun q => !(q.1 == i) && !(q.1 + 1 == i && q.2.category == 2)) = L') (q : Nat) (hq : pc + 3 = q) (kk : G E p l e R s m args below meth c nL A k n Q ws q L' st) : G E p l e R s m args below meth c nL A k n Q ws pc L st := by
  subst hq; exact fun H locs hP hD hS ls hl => lv_iinc C.hx C.hb d hl hr hv hn hL (fun ls' hl' => kk H locs hP hD hS ls' hl')
-- arithmetic
theorem G_iadd (C : gC E p R s m args meth c cc nL own A) (d : decode cc pc = .ok (.iadd, 1)) {x y v : Int32} (hv : x + y = v) (q : Nat) (hq : pc + 1 = q) (kk : G E p l e R s m args below meth c nL A k n Q ws q L (.int v :: st)) : G E p l e R s m args below meth c nL A k n Q ws pc L (.int y :: .int x :: st) := by
  subst hq; subst hv; exact fun H locs hP hD hS ls hl => lv_iadd C.hx C.hb d (kk H locs hP hD hS ls hl)
theorem G_isub (C : gC E p R s m args meth c cc nL own A) (d : decode cc pc = .ok (.isub, 1)) {x y v : Int32} (hv : x - y = v) (q : Nat) (hq : pc + 1 = q) (kk : G E p l e R s m args below meth c nL A k n Q ws q L (.int v :: st)) : G E p l e R s m args below meth c nL A k n Q ws pc L (.int y :: .int x :: st) := by
  subst hq; subst hv; exact fun H locs hP hD hS ls hl => lv_isub C.hx C.hb d (kk H locs hP hD hS ls hl)
theorem G_imul (C : gC E p R s m args meth c cc nL own A) (d : decode cc pc = .ok (.imul, 1)) {x y v : Int32} (hv : x * y = v) (q : Nat) (hq : pc + 1 = q) (kk : G E p l e R s m args below meth c nL A k n Q ws q L (.int v :: st)) : G E p l e R s m args below meth c nL A k n Q ws pc L (.int y :: .int x :: st) := by
  subst hq; subst hv; exact fun H locs hP hD hS ls hl => lv_imul C.hx C.hb d (kk H locs hP hD hS ls hl)
theorem G_iand (C : gC E p R s m args meth c cc nL own A) (d : decode cc pc = .ok (.iand, 1)) {x y v : Int32} (hv : x &&& y = v) (q : Nat) (hq : pc + 1 = q) (kk : G E p l e R s m args below meth c nL A k n Q ws q L (.int v :: st)) : G E p l e R s m args below meth c nL A k n Q ws pc L (.int y :: .int x :: st) := by
  subst hq; subst hv; exact fun H locs hP hD hS ls hl => lv_iand C.hx C.hb d (kk H locs hP hD hS ls hl)
theorem G_ior (C : gC E p R s m args meth c cc nL own A) (d : decode cc pc = .ok (.ior, 1)) {x y v : Int32} (hv : x ||| y = v) (q : Nat) (hq : pc + 1 = q) (kk : G E p l e R s m args below meth c nL A k n Q ws q L (.int v :: st)) : G E p l e R s m args below meth c nL A k n Q ws pc L (.int y :: .int x :: st) := by
  subst hq; subst hv; exact fun H locs hP hD hS ls hl => lv_ior C.hx C.hb d (kk H locs hP hD hS ls hl)
theorem G_ixor (C : gC E p R s m args meth c cc nL own A) (d : decode cc pc = .ok (.ixor, 1)) {x y v : Int32} (hv : x ^^^ y = v) (q : Nat) (hq : pc + 1 = q) (kk : G E p l e R s m args below meth c nL A k n Q ws q L (.int v :: st)) : G E p l e R s m args below meth c nL A k n Q ws pc L (.int y :: .int x :: st) := by
  subst hq; subst hv; exact fun H locs hP hD hS ls hl => lv_ixor C.hx C.hb d (kk H locs hP hD hS ls hl)
theorem G_ishl (C : gC E p R s m args meth c cc nL own A) (d : decode cc pc = .ok (.ishl, 1)) {x y v : Int32} (hv : x <<< (y &&& 31) = v) (q : Nat) (hq : pc + 1 = q) (kk : G E p l e R s m args below meth c nL A k n Q ws q L (.int v :: st)) : G E p l e R s m args below meth c nL A k n Q ws pc L (.int y :: .int x :: st) := by
  subst hq; subst hv; exact fun H locs hP hD hS ls hl => lv_ishl C.hx C.hb d (kk H locs hP hD hS ls hl)
theorem G_ishr (C : gC E p R s m args meth c cc nL own A) (d : decode cc pc = .ok (.ishr, 1)) {x y v : Int32} (hv : x >>> (y &&& 31) = v) (q : Nat) (hq : pc + 1 = q) (kk : G E p l e R s m args below meth c nL A k n Q ws q L (.int v :: st)) : G E p l e R s m args below meth c nL A k n Q ws pc L (.int y :: .int x :: st) := by
  subst hq; subst hv; exact fun H locs hP hD hS ls hl => lv_ishr C.hx C.hb d (kk H locs hP hD hS ls hl)
theorem G_idiv (C : gC E p R s m args meth c cc nL own A) (d : decode cc pc = .ok (.idiv, 1)) {x y v : Int32} (hne : ¬ y = 0) (hv : x / y = v) (q : Nat) (hq : pc + 1 = q) (kk : G E p l e R s m args below meth c nL A k n Q ws q L (.int v :: st)) : G E p l e R s m args below meth c nL A k n Q ws pc L (.int y :: .int x :: st) := by
  subst hq; subst hv; exact fun H locs hP hD hS ls hl => lv_idiv C.hx C.hb d hne (kk H locs hP hD hS ls hl)
theorem G_irem (C : gC E p R s m args meth c cc nL own A) (d : decode cc pc = .ok (.irem, 1)) {x y v : Int32} (hne : ¬ y = 0) (hv : x - x / y * y = v) (q : Nat) (hq : pc + 1 = q) (kk : G E p l e R s m args below meth c nL A k n Q ws q L (.int v :: st)) : G E p l e R s m args below meth c nL A k n Q ws pc L (.int y :: .int x :: st) := by
  subst hq; subst hv; exact fun H locs hP hD hS ls hl => lv_irem C.hx C.hb d hne (kk H locs hP hD hS ls hl)
theorem G_iushr (C : gC E p R s m args meth c cc nL own A) (d : decode cc pc = .ok (.iushr, 1)) {x y v : Int32} (hv : (x.toUInt32 >>> (y.toUInt32 &&& Int32.toUInt32 31)).toInt32 = v) (q : Nat) (hq : pc + 1 = q) (kk : G E p l e R s m args below meth c nL A k n Q ws q L (.int v :: st)) : G E p l e R s m args below meth c nL A k n Q ws pc L (.int y :: .int x :: st) := by
  subst hq; exact fun H locs hP hD hS ls hl => lv_iushr C.hx C.hb d hv (kk H locs hP hD hS ls hl)
theorem G_ladd (C : gC E p R s m args meth c cc nL own A) (d : decode cc pc = .ok (.ladd, 1)) {x y v : Int64} (hv : x + y = v) (q : Nat) (hq : pc + 1 = q) (kk : G E p l e R s m args below meth c nL A k n Q ws q L (.long v :: st)) : G E p l e R s m args below meth c nL A k n Q ws pc L (.long y :: .long x :: st) := by
  subst hq; subst hv; exact fun H locs hP hD hS ls hl => lv_ladd C.hx C.hb d (kk H locs hP hD hS ls hl)
theorem G_lmul (C : gC E p R s m args meth c cc nL own A) (d : decode cc pc = .ok (.lmul, 1)) {x y v : Int64} (hv : x * y = v) (q : Nat) (hq : pc + 1 = q) (kk : G E p l e R s m args below meth c nL A k n Q ws q L (.long v :: st)) : G E p l e R s m args below meth c nL A k n Q ws pc L (.long y :: .long x :: st) := by
  subst hq; subst hv; exact fun H locs hP hD hS ls hl => lv_lmul C.hx C.hb d (kk H locs hP hD hS ls hl)
theorem G_i2l (C : gC E p R s m args meth c cc nL own A) (d : decode cc pc = .ok (.i2l, 1)) {x : Int32} {v : Int64} (hv : x.toInt64 = v) (q : Nat) (hq : pc + 1 = q) (kk : G E p l e R s m args below meth c nL A k n Q ws q L (.long v :: st)) : G E p l e R s m args below meth c nL A k n Q ws pc L (.int x :: st) := by
  subst hq; exact fun H locs hP hD hS ls hl => lv_i2l C.hx C.hb d hv (kk H locs hP hD hS ls hl)
theorem G_lcmp (C : gC E p R s m args meth c cc nL own A) (d : decode cc pc = .ok (.lcmp, 1)) {x y : Int64} (q : Nat) (hq : pc + 1 = q) (kk : G E p l e R s m args below meth c nL A k n Q ws q L (.int (lg_cmp x y) :: st)) : G E p l e R s m args below meth c nL A k n Q ws pc L (.long y :: .long x :: st) := by
  subst hq; exact fun H locs hP hD hS ls hl => W.lcmp C.hx C.hb d (kk H locs hP hD hS ls hl)
theorem G_dup (C : gC E p R s m args meth c cc nL own A) {v : Value} (d : decode cc pc = .ok (.dup, 1)) (hv : v.category = 1) (q : Nat) (hq : pc + 1 = q) (kk : G E p l e R s m args below meth c nL A k n Q ws q L (v :: v :: st)) : G E p l e R s m args below meth c nL A k n Q ws pc L (v :: st) := by
  subst hq; exact fun H locs hP hD hS ls hl => lv_dup C.hx C.hb d hv (kk H locs hP hD hS ls hl)
theorem G_dup2 (C : gC E p R s m args meth c cc nL own A) {v w : Value} (d : decode cc pc = .ok (.dup2, 1)) (hv : v.category = 1) (hw : w.category = 1) (q : Nat) (hq : pc + 1 = q) (kk : G E p l e R s m args below meth c nL A k n Q ws q L (v :: w :: v :: w :: st)) : G E p l e R s m args below meth c nL A k n Q ws pc L (v :: w :: st) := by
  subst hq; exact fun H locs hP hD hS ls hl => lv_dup2_11 C.hx C.hb d hv hw (kk H locs hP hD hS ls hl)
theorem G_goto (C : gC E p R s m args meth c cc nL own A) {off : Int} (d : decode cc pc = .ok (.goto off, 3)) (q : Nat) (hq : (pc : Int) + off = (q : Int)) (kk : G E p l e R s m args below meth c nL A k n Q ws q L st) : G E p l e R s m args below meth c nL A k n Q ws pc L st :=
  fun H locs hP hD hS ls hl => lv_goto C.hx C.hb d hq (kk H locs hP hD hS ls hl)
-- branches: P is the condition in the prover's words
theorem G_if_eq (C : gC E p R s m args meth c cc nL own A) {off : Int} (d : decode cc pc = .ok (.ifCond .eq off, 3)) (q : Nat) (hq : (pc : Int) + off = (q : Int)) (q2 : Nat) (hq2 : pc + 3 = q2) {x : Int32} {P : Prop} (hP : (x = 0) ↔ P) (kt : P → G E p l e R s m args below meth c nL A k n Q ws q L st) (kf : ¬ P → G E p l e R s m args below meth c nL A k n Q ws q2 L st) : G E p l e R s m args below meth c nL A k n Q ws pc L (.int x :: st) := by
  subst hq2; exact fun H locs hP1 hD hS ls hl => lv_if_eq C.hx C.hb d hq (fun h => kt (hP.mp h) H locs hP1 hD hS ls hl) (fun h => kf (fun hh => h (hP.mpr hh)) H locs hP1 hD hS ls hl)
theorem G_if_eq_t (C : gC E p R s m args meth c cc nL own A) {off : Int} (d : decode cc pc = .ok (.ifCond .eq off, 3)) (q : Nat) (hq : (pc : Int) + off = (q : Int)) {x : Int32} (hP : x = 0) (kt : G E p l e R s m args below meth c nL A k n Q ws q L st) : G E p l e R s m args below meth c nL A k n Q ws pc L (.int x :: st) :=
  G_if_eq C d q hq (pc + 3) rfl Iff.rfl (fun _ => kt) (fun h => absurd hP h)
theorem G_if_eq_f (C : gC E p R s m args meth c cc nL own A) {off : Int} (d : decode cc pc = .ok (.ifCond .eq off, 3)) (tgt : Nat) (ht : (pc : Int) + off = (tgt : Int)) (q : Nat) (hq : pc + 3 = q) {x : Int32} (hP : ¬ (x = 0)) (kf : G E p l e R s m args below meth c nL A k n Q ws q L st) : G E p l e R s m args below meth c nL A k n Q ws pc L (.int x :: st) :=
  G_if_eq C d tgt ht q hq Iff.rfl (fun h => absurd h hP) (fun _ => kf)
theorem G_icmp_eq (C : gC E p R s m args meth c cc nL own A) {off : Int} (d : decode cc pc = .ok (.if_icmp .eq off, 3)) (q : Nat) (hq : (pc : Int) + off = (q : Int)) (q2 : Nat) (hq2 : pc + 3 = q2) {x y : Int32} {P : Prop} (hP : (x = y) ↔ P) (kt : P → G E p l e R s m args below meth c nL A k n Q ws q L st) (kf : ¬ P → G E p l e R s m args below meth c nL A k n Q ws q2 L st) : G E p l e R s m args below meth c nL A k n Q ws pc L (.int y :: .int x :: st) := by
  subst hq2; exact fun H locs hP1 hD hS ls hl => lv_icmp_eq C.hx C.hb d hq (fun h => kt (hP.mp h) H locs hP1 hD hS ls hl) (fun h => kf (fun hh => h (hP.mpr hh)) H locs hP1 hD hS ls hl)
theorem G_icmp_eq_t (C : gC E p R s m args meth c cc nL own A) {off : Int} (d : decode cc pc = .ok (.if_icmp .eq off, 3)) (q : Nat) (hq : (pc : Int) + off = (q : Int)) {x y : Int32} (hP : x = y) (kt : G E p l e R s m args below meth c nL A k n Q ws q L st) : G E p l e R s m args below meth c nL A k n Q ws pc L (.int y :: .int x :: st) :=
  G_icmp_eq C d q hq (pc + 3) rfl Iff.rfl (fun _ => kt) (fun h => absurd hP h)
theorem G_icmp_eq_f (C : gC E p R s m args meth c cc nL own A) {off : Int} (d : decode cc pc = .ok (.if_icmp .eq off, 3)) (tgt : Nat) (ht : (pc : Int) + off = (tgt : Int)) (q : Nat) (hq : pc + 3 = q) {x y : Int32} (hP : ¬ (x = y)) (kf : G E p l e R s m args below meth c nL A k n Q ws q L st) : G E p l e R s m args below meth c nL A k n Q ws pc L (.int y :: .int x :: st) :=
  G_icmp_eq C d tgt ht q hq Iff.rfl (fun h => absurd h hP) (fun _ => kf)
theorem G_if_ne (C : gC E p R s m args meth c cc nL own A) {off : Int} (d : decode cc pc = .ok (.ifCond .ne off, 3)) (q : Nat) (hq : (pc : Int) + off = (q : Int)) (q2 : Nat) (hq2 : pc + 3 = q2) {x : Int32} {P : Prop} (hP : (x = 0) ↔ P) (kt : ¬ P → G E p l e R s m args below meth c nL A k n Q ws q L st) (kf : P → G E p l e R s m args below meth c nL A k n Q ws q2 L st) : G E p l e R s m args below meth c nL A k n Q ws pc L (.int x :: st) := by
  subst hq2; exact fun H locs hP1 hD hS ls hl => lv_if_ne C.hx C.hb d hq (fun h => kt (fun hh => h (hP.mpr hh)) H locs hP1 hD hS ls hl) (fun h => kf (hP.mp h) H locs hP1 hD hS ls hl)
theorem G_if_ne_t (C : gC E p R s m args meth c cc nL own A) {off : Int} (d : decode cc pc = .ok (.ifCond .ne off, 3)) (q : Nat) (hq : (pc : Int) + off = (q : Int)) {x : Int32} (hP : ¬ (x = 0)) (kt : G E p l e R s m args below meth c nL A k n Q ws q L st) : G E p l e R s m args below meth c nL A k n Q ws pc L (.int x :: st) :=
  G_if_ne C d q hq (pc + 3) rfl Iff.rfl (fun _ => kt) (fun h => absurd h hP)
theorem G_if_ne_f (C : gC E p R s m args meth c cc nL own A) {off : Int} (d : decode cc pc = .ok (.ifCond .ne off, 3)) (tgt : Nat) (ht : (pc : Int) + off = (tgt : Int)) (q : Nat) (hq : pc + 3 = q) {x : Int32} (hP : x = 0) (kf : G E p l e R s m args below meth c nL A k n Q ws q L st) : G E p l e R s m args below meth c nL A k n Q ws pc L (.int x :: st) :=
  G_if_ne C d tgt ht q hq Iff.rfl (fun h => absurd hP h) (fun _ => kf)
theorem G_icmp_ne (C : gC E p R s m args meth c cc nL own A) {off : Int} (d : decode cc pc = .ok (.if_icmp .ne off, 3)) (q : Nat) (hq : (pc : Int) + off = (q : Int)) (q2 : Nat) (hq2 : pc + 3 = q2) {x y : Int32} {P : Prop} (hP : (x = y) ↔ P) (kt : ¬ P → G E p l e R s m args below meth c nL A k n Q ws q L st) (kf : P → G E p l e R s m args below meth c nL A k n Q ws q2 L st) : G E p l e R s m args below meth c nL A k n Q ws pc L (.int y :: .int x :: st) := by
  subst hq2; exact fun H locs hP1 hD hS ls hl => lv_icmp_ne C.hx C.hb d hq (fun h => kt (fun hh => h (hP.mpr hh)) H locs hP1 hD hS ls hl) (fun h => kf (hP.mp h) H locs hP1 hD hS ls hl)
theorem G_icmp_ne_t (C : gC E p R s m args meth c cc nL own A) {off : Int} (d : decode cc pc = .ok (.if_icmp .ne off, 3)) (q : Nat) (hq : (pc : Int) + off = (q : Int)) {x y : Int32} (hP : ¬ (x = y)) (kt : G E p l e R s m args below meth c nL A k n Q ws q L st) : G E p l e R s m args below meth c nL A k n Q ws pc L (.int y :: .int x :: st) :=
  G_icmp_ne C d q hq (pc + 3) rfl Iff.rfl (fun _ => kt) (fun h => absurd h hP)
theorem G_icmp_ne_f (C : gC E p R s m args meth c cc nL own A) {off : Int} (d : decode cc pc = .ok (.if_icmp .ne off, 3)) (tgt : Nat) (ht : (pc : Int) + off = (tgt : Int)) (q : Nat) (hq : pc + 3 = q) {x y : Int32} (hP : x = y) (kf : G E p l e R s m args below meth c nL A k n Q ws q L st) : G E p l e R s m args below meth c nL A k n Q ws pc L (.int y :: .int x :: st) :=
  G_icmp_ne C d tgt ht q hq Iff.rfl (fun h => absurd hP h) (fun _ => kf)
theorem G_if_lt (C : gC E p R s m args meth c cc nL own A) {off : Int} (d : decode cc pc = .ok (.ifCond .lt off, 3)) (q : Nat) (hq : (pc : Int) + off = (q : Int)) (q2 : Nat) (hq2 : pc + 3 = q2) {x : Int32} {P : Prop} (hP : (x < 0) ↔ P) (kt : P → G E p l e R s m args below meth c nL A k n Q ws q L st) (kf : ¬ P → G E p l e R s m args below meth c nL A k n Q ws q2 L st) : G E p l e R s m args below meth c nL A k n Q ws pc L (.int x :: st) := by
  subst hq2; exact fun H locs hP1 hD hS ls hl => lv_if_lt C.hx C.hb d hq (fun h => kt (hP.mp h) H locs hP1 hD hS ls hl) (fun h => kf (fun hh => h (hP.mpr hh)) H locs hP1 hD hS ls hl)
theorem G_if_lt_t (C : gC E p R s m args meth c cc nL own A) {off : Int} (d : decode cc pc = .ok (.ifCond .lt off, 3)) (q : Nat) (hq : (pc : Int) + off = (q : Int)) {x : Int32} (hP : x < 0) (kt : G E p l e R s m args below meth c nL A k n Q ws q L st) : G E p l e R s m args below meth c nL A k n Q ws pc L (.int x :: st) :=
  G_if_lt C d q hq (pc + 3) rfl Iff.rfl (fun _ => kt) (fun h => absurd hP h)
theorem G_if_lt_f (C : gC E p R s m args meth c cc nL own A) {off : Int} (d : decode cc pc = .ok (.ifCond .lt off, 3)) (tgt : Nat) (ht : (pc : Int) + off = (tgt : Int)) (q : Nat) (hq : pc + 3 = q) {x : Int32} (hP : ¬ (x < 0)) (kf : G E p l e R s m args below meth c nL A k n Q ws q L st) : G E p l e R s m args below meth c nL A k n Q ws pc L (.int x :: st) :=
  G_if_lt C d tgt ht q hq Iff.rfl (fun h => absurd h hP) (fun _ => kf)
theorem G_icmp_lt (C : gC E p R s m args meth c cc nL own A) {off : Int} (d : decode cc pc = .ok (.if_icmp .lt off, 3)) (q : Nat) (hq : (pc : Int) + off = (q : Int)) (q2 : Nat) (hq2 : pc + 3 = q2) {x y : Int32} {P : Prop} (hP : (x < y) ↔ P) (kt : P → G E p l e R s m args below meth c nL A k n Q ws q L st) (kf : ¬ P → G E p l e R s m args below meth c nL A k n Q ws q2 L st) : G E p l e R s m args below meth c nL A k n Q ws pc L (.int y :: .int x :: st) := by
  subst hq2; exact fun H locs hP1 hD hS ls hl => lv_icmp_lt C.hx C.hb d hq (fun h => kt (hP.mp h) H locs hP1 hD hS ls hl) (fun h => kf (fun hh => h (hP.mpr hh)) H locs hP1 hD hS ls hl)
theorem G_icmp_lt_t (C : gC E p R s m args meth c cc nL own A) {off : Int} (d : decode cc pc = .ok (.if_icmp .lt off, 3)) (q : Nat) (hq : (pc : Int) + off = (q : Int)) {x y : Int32} (hP : x < y) (kt : G E p l e R s m args below meth c nL A k n Q ws q L st) : G E p l e R s m args below meth c nL A k n Q ws pc L (.int y :: .int x :: st) :=
  G_icmp_lt C d q hq (pc + 3) rfl Iff.rfl (fun _ => kt) (fun h => absurd hP h)
theorem G_icmp_lt_f (C : gC E p R s m args meth c cc nL own A) {off : Int} (d : decode cc pc = .ok (.if_icmp .lt off, 3)) (tgt : Nat) (ht : (pc : Int) + off = (tgt : Int)) (q : Nat) (hq : pc + 3 = q) {x y : Int32} (hP : ¬ (x < y)) (kf : G E p l e R s m args below meth c nL A k n Q ws q L st) : G E p l e R s m args below meth c nL A k n Q ws pc L (.int y :: .int x :: st) :=
  G_icmp_lt C d tgt ht q hq Iff.rfl (fun h => absurd h hP) (fun _ => kf)
theorem G_if_ge (C : gC E p R s m args meth c cc nL own A) {off : Int} (d : decode cc pc = .ok (.ifCond .ge off, 3)) (q : Nat) (hq : (pc : Int) + off = (q : Int)) (q2 : Nat) (hq2 : pc + 3 = q2) {x : Int32} {P : Prop} (hP : (0 ≤ x) ↔ P) (kt : P → G E p l e R s m args below meth c nL A k n Q ws q L st) (kf : ¬ P → G E p l e R s m args below meth c nL A k n Q ws q2 L st) : G E p l e R s m args below meth c nL A k n Q ws pc L (.int x :: st) := by
  subst hq2; exact fun H locs hP1 hD hS ls hl => lv_if_ge C.hx C.hb d hq (fun h => kt (hP.mp h) H locs hP1 hD hS ls hl) (fun h => kf (fun hh => h (hP.mpr hh)) H locs hP1 hD hS ls hl)
theorem G_if_ge_t (C : gC E p R s m args meth c cc nL own A) {off : Int} (d : decode cc pc = .ok (.ifCond .ge off, 3)) (q : Nat) (hq : (pc : Int) + off = (q : Int)) {x : Int32} (hP : 0 ≤ x) (kt : G E p l e R s m args below meth c nL A k n Q ws q L st) : G E p l e R s m args below meth c nL A k n Q ws pc L (.int x :: st) :=
  G_if_ge C d q hq (pc + 3) rfl Iff.rfl (fun _ => kt) (fun h => absurd hP h)
theorem G_if_ge_f (C : gC E p R s m args meth c cc nL own A) {off : Int} (d : decode cc pc = .ok (.ifCond .ge off, 3)) (tgt : Nat) (ht : (pc : Int) + off = (tgt : Int)) (q : Nat) (hq : pc + 3 = q) {x : Int32} (hP : ¬ (0 ≤ x)) (kf : G E p l e R s m args below meth c nL A k n Q ws q L st) : G E p l e R s m args below meth c nL A k n Q ws pc L (.int x :: st) :=
  G_if_ge C d tgt ht q hq Iff.rfl (fun h => absurd h hP) (fun _ => kf)
theorem G_icmp_ge (C : gC E p R s m args meth c cc nL own A) {off : Int} (d : decode cc pc = .ok (.if_icmp .ge off, 3)) (q : Nat) (hq : (pc : Int) + off = (q : Int)) (q2 : Nat) (hq2 : pc + 3 = q2) {x y : Int32} {P : Prop} (hP : (y ≤ x) ↔ P) (kt : P → G E p l e R s m args below meth c nL A k n Q ws q L st) (kf : ¬ P → G E p l e R s m args below meth c nL A k n Q ws q2 L st) : G E p l e R s m args below meth c nL A k n Q ws pc L (.int y :: .int x :: st) := by
  subst hq2; exact fun H locs hP1 hD hS ls hl => lv_icmp_ge C.hx C.hb d hq (fun h => kt (hP.mp h) H locs hP1 hD hS ls hl) (fun h => kf (fun hh => h (hP.mpr hh)) H locs hP1 hD hS ls hl)
theorem G_icmp_ge_t (C : gC E p R s m args meth c cc nL own A) {off : Int} (d : decode cc pc = .ok (.if_icmp .ge off, 3)) (q : Nat) (hq : (pc : Int) + off = (q : Int)) {x y : Int32} (hP : y ≤ x) (kt : G E p l e R s m args below meth c nL A k n Q ws q L st) : G E p l e R s m args below meth c nL A k n Q ws pc L (.int y :: .int x :: st) :=
  G_icmp_ge C d q hq (pc + 3) rfl Iff.rfl (fun _ => kt) (fun h => absurd hP h)
theorem G_icmp_ge_f (C : gC E p R s m args meth c cc nL own A) {off : Int} (d : decode cc pc = .ok (.if_icmp .ge off, 3)) (tgt : Nat) (ht : (pc : Int) + off = (tgt : Int)) (q : Nat) (hq : pc + 3 = q) {x y : Int32} (hP : ¬ (y ≤ x)) (kf : G E p l e R s m args below meth c nL A k n Q ws q L st) : G E p l e R s m args below meth c nL A k n Q ws pc L (.int y :: .int x :: st) :=
  G_icmp_ge C d tgt ht q hq Iff.rfl (fun h => absurd h hP) (fun _ => kf)
theorem G_if_gt (C : gC E p R s m args meth c cc nL own A) {off : Int} (d : decode cc pc = .ok (.ifCond .gt off, 3)) (q : Nat) (hq : (pc : Int) + off = (q : Int)) (q2 : Nat) (hq2 : pc + 3 = q2) {x : Int32} {P : Prop} (hP : (0 < x) ↔ P) (kt : P → G E p l e R s m args below meth c nL A k n Q ws q L st) (kf : ¬ P → G E p l e R s m args below meth c nL A k n Q ws q2 L st) : G E p l e R s m args below meth c nL A k n Q ws pc L (.int x :: st) := by
  subst hq2; exact fun H locs hP1 hD hS ls hl => lv_if_gt C.hx C.hb d hq (fun h => kt (hP.mp h) H locs hP1 hD hS ls hl) (fun h => kf (fun hh => h (hP.mpr hh)) H locs hP1 hD hS ls hl)
theorem G_if_gt_t (C : gC E p R s m args meth c cc nL own A) {off : Int} (d : decode cc pc = .ok (.ifCond .gt off, 3)) (q : Nat) (hq : (pc : Int) + off = (q : Int)) {x : Int32} (hP : 0 < x) (kt : G E p l e R s m args below meth c nL A k n Q ws q L st) : G E p l e R s m args below meth c nL A k n Q ws pc L (.int x :: st) :=
  G_if_gt C d q hq (pc + 3) rfl Iff.rfl (fun _ => kt) (fun h => absurd hP h)
theorem G_if_gt_f (C : gC E p R s m args meth c cc nL own A) {off : Int} (d : decode cc pc = .ok (.ifCond .gt off, 3)) (tgt : Nat) (ht : (pc : Int) + off = (tgt : Int)) (q : Nat) (hq : pc + 3 = q) {x : Int32} (hP : ¬ (0 < x)) (kf : G E p l e R s m args below meth c nL A k n Q ws q L st) : G E p l e R s m args below meth c nL A k n Q ws pc L (.int x :: st) :=
  G_if_gt C d tgt ht q hq Iff.rfl (fun h => absurd h hP) (fun _ => kf)
theorem G_icmp_gt (C : gC E p R s m args meth c cc nL own A) {off : Int} (d : decode cc pc = .ok (.if_icmp .gt off, 3)) (q : Nat) (hq : (pc : Int) + off = (q : Int)) (q2 : Nat) (hq2 : pc + 3 = q2) {x y : Int32} {P : Prop} (hP : (y < x) ↔ P) (kt : P → G E p l e R s m args below meth c nL A k n Q ws q L st) (kf : ¬ P → G E p l e R s m args below meth c nL A k n Q ws q2 L st) : G E p l e R s m args below meth c nL A k n Q ws pc L (.int y :: .int x :: st) := by
  subst hq2; exact fun H locs hP1 hD hS ls hl => lv_icmp_gt C.hx C.hb d hq (fun h => kt (hP.mp h) H locs hP1 hD hS ls hl) (fun h => kf (fun hh => h (hP.mpr hh)) H locs hP1 hD hS ls hl)
theorem G_icmp_gt_t (C : gC E p R s m args meth c cc nL own A) {off : Int} (d : decode cc pc = .ok (.if_icmp .gt off, 3)) (q : Nat) (hq : (pc : Int) + off = (q : Int)) {x y : Int32} (hP : y < x) (kt : G E p l e R s m args below meth c nL A k n Q ws q L st) : G E p l e R s m args below meth c nL A k n Q ws pc L (.int y :: .int x :: st) :=
  G_icmp_gt C d q hq (pc + 3) rfl Iff.rfl (fun _ => kt) (fun h => absurd hP h)
theorem G_icmp_gt_f (C : gC E p R s m args meth c cc nL own A) {off : Int} (d : decode cc pc = .ok (.if_icmp .gt off, 3)) (tgt : Nat) (ht : (pc : Int) + off = (tgt : Int)) (q : Nat) (hq : pc + 3 = q) {x y : Int32} (hP : ¬ (y < x)) (kf : G E p l e R s m args below meth c nL A k n Q ws q L st) : G E p l e R s m args below meth c nL A k n Q ws pc L (.int y :: .int x :: st) :=
  G_icmp_gt C d tgt ht q hq Iff.rfl (fun h => absurd h hP) (fun _ => kf)
theorem G_if_le (C : gC E p R s m args meth c cc nL own A) {off : Int} (d : decode cc pc = .ok (.ifCond .le off, 3)) (q : Nat) (hq : (pc : Int) + off = (q : Int)) (q2 : Nat) (hq2 : pc + 3 = q2) {x : Int32} {P : Prop} (hP : (x ≤ 0) ↔ P) (kt : P → G E p l e R s m args below meth c nL A k n Q ws q L st) (kf : ¬ P → G E p l e R s m args below meth c nL A k n Q ws q2 L st) : G E p l e R s m args below meth c nL A k n Q ws pc L (.int x :: st) := by
  subst hq2; exact fun H locs hP1 hD hS ls hl => lv_if_le C.hx C.hb d hq (fun h => kt (hP.mp h) H locs hP1 hD hS ls hl) (fun h => kf (fun hh => h (hP.mpr hh)) H locs hP1 hD hS ls hl)
theorem G_if_le_t (C : gC E p R s m args meth c cc nL own A) {off : Int} (d : decode cc pc = .ok (.ifCond .le off, 3)) (q : Nat) (hq : (pc : Int) + off = (q : Int)) {x : Int32} (hP : x ≤ 0) (kt : G E p l e R s m args below meth c nL A k n Q ws q L st) : G E p l e R s m args below meth c nL A k n Q ws pc L (.int x :: st) :=
  G_if_le C d q hq (pc + 3) rfl Iff.rfl (fun _ => kt) (fun h => absurd hP h)
theorem G_if_le_f (C : gC E p R s m args meth c cc nL own A) {off : Int} (d : decode cc pc = .ok (.ifCond .le off, 3)) (tgt : Nat) (ht : (pc : Int) + off = (tgt : Int)) (q : Nat) (hq : pc + 3 = q) {x : Int32} (hP : ¬ (x ≤ 0)) (kf : G E p l e R s m args below meth c nL A k n Q ws q L st) : G E p l e R s m args below meth c nL A k n Q ws pc L (.int x :: st) :=
  G_if_le C d tgt ht q hq Iff.rfl (fun h => absurd h hP) (fun _ => kf)
theorem G_icmp_le (C : gC E p R s m args meth c cc nL own A) {off : Int} (d : decode cc pc = .ok (.if_icmp .le off, 3)) (q : Nat) (hq : (pc : Int) + off = (q : Int)) (q2 : Nat) (hq2 : pc + 3 = q2) {x y : Int32} {P : Prop} (hP : (x ≤ y) ↔ P) (kt : P → G E p l e R s m args below meth c nL A k n Q ws q L st) (kf : ¬ P → G E p l e R s m args below meth c nL A k n Q ws q2 L st) : G E p l e R s m args below meth c nL A k n Q ws pc L (.int y :: .int x :: st) := by
  subst hq2; exact fun H locs hP1 hD hS ls hl => lv_icmp_le C.hx C.hb d hq (fun h => kt (hP.mp h) H locs hP1 hD hS ls hl) (fun h => kf (fun hh => h (hP.mpr hh)) H locs hP1 hD hS ls hl)
theorem G_icmp_le_t (C : gC E p R s m args meth c cc nL own A) {off : Int} (d : decode cc pc = .ok (.if_icmp .le off, 3)) (q : Nat) (hq : (pc : Int) + off = (q : Int)) {x y : Int32} (hP : x ≤ y) (kt : G E p l e R s m args below meth c nL A k n Q ws q L st) : G E p l e R s m args below meth c nL A k n Q ws pc L (.int y :: .int x :: st) :=
  G_icmp_le C d q hq (pc + 3) rfl Iff.rfl (fun _ => kt) (fun h => absurd hP h)
theorem G_icmp_le_f (C : gC E p R s m args meth c cc nL own A) {off : Int} (d : decode cc pc = .ok (.if_icmp .le off, 3)) (tgt : Nat) (ht : (pc : Int) + off = (tgt : Int)) (q : Nat) (hq : pc + 3 = q) {x y : Int32} (hP : ¬ (x ≤ y)) (kf : G E p l e R s m args below meth c nL A k n Q ws q L st) : G E p l e R s m args below meth c nL A k n Q ws pc L (.int y :: .int x :: st) :=
  G_icmp_le C d tgt ht q hq Iff.rfl (fun h => absurd h hP) (fun _ => kf)
theorem G_tabIn (C : gC E p R s m args meth c cc nL own A) {dflt lo hi : Int} {offs : Array Int} {len : Nat} {x : Int32} (d : decode cc pc = .ok (.tableswitch dflt lo hi offs, len)) (off : Int) (h1 : ¬ x.toInt < lo) (h2 : ¬ hi < x.toInt) (ho : offs[(x.toInt - lo).toNat]? = some off) (q : Nat) (hq : (pc : Int) + off = (q : Int)) (kk : G E p l e R s m args below meth c nL A k n Q ws q L st) : G E p l e R s m args below meth c nL A k n Q ws pc L (.int x :: st) :=
  fun H locs hP hD hS ls hl => lv_tableIn C.hx C.hb d h1 h2 ho hq (kk H locs hP hD hS ls hl)
theorem G_tabOut (C : gC E p R s m args meth c cc nL own A) {dflt lo hi : Int} {offs : Array Int} {len : Nat} {x : Int32} (d : decode cc pc = .ok (.tableswitch dflt lo hi offs, len)) (h : x.toInt < lo ∨ hi < x.toInt) (q : Nat) (hq : (pc : Int) + dflt = (q : Int)) (kk : G E p l e R s m args below meth c nL A k n Q ws q L st) : G E p l e R s m args below meth c nL A k n Q ws pc L (.int x :: st) :=
  fun H locs hP hD hS ls hl => lv_tableOut C.hx C.hb d h hq (kk H locs hP hD hS ls hl)
theorem G_lookup (C : gC E p R s m args meth c cc nL own A) {dflt : Int} {ps : Array (Int × Int)} {len : Nat} {x : Int32} (d : decode cc pc = .ok (.lookupswitch dflt ps, len)) (off : Int) (hp : (ps.toList.zip (ps.toList.drop 1)).all (fun (a, next) => a.1 < next.1) = true) (ho : Op.lookupswitch.offset ps.toList dflt x.toInt = off) (q : Nat) (hq : (pc : Int) + off = (q : Int)) (kk : G E p l e R s m args below meth c nL A k n Q ws q L st) : G E p l e R s m args below meth c nL A k n Q ws pc L (.int x :: st) :=
  fun H locs hP hD hS ls hl => lv_lookup C.hx C.hb d hp ho hq (kk H locs hP hD hS ls hl)
-- fields
theorem G_getf (C : gC E p R s m args meth c cc nL own A) {j : Nat} (d : decode cc pc = .ok (.getfield j, 3)) {K : String} {T : u_T} {N : Nat} (hT : ∀ w ∈ u_ws K T N, w ∈ lw_g) {f : Nat} (hl : Cond.fieldLink own j (T f).1 (T f).2.1 (T f).2.2.1 ∈ lw_g) (hf : f < N) {ci : Nat} (hc : gcls[ci]? = some (K, T, N)) (q0 : Nat) {a : Nat} {fs : List Value} (he : ws[q0]? = some (a, .inr (ci, fs))) {v : Value} (hv : fs[f]? = some v) (q : Nat) (hq : pc + 3 = q) (kk : G E p l e R s m args below meth c nL A k n Q ws q L (v :: st)) : G E p l e R s m args below meth c nL A k n Q ws pc L (.ref a :: st) := by
  subst hq; exact fun H locs hP hD hS ls h => va_get C.hx C.hb C.hts hT C.hown C.hK.1 hP q0 he hc f hf (C.hts _ hl) (fun _ h9 => h9) hv d (kk H locs hP hD hS ls h)
theorem G_putf (C : gC E p R s m args meth c cc nL own A) {j : Nat} (d : decode cc pc = .ok (.putfield j, 3)) {K : String} {T : u_T} {N : Nat} (hT : ∀ w ∈ u_ws K T N, w ∈ lw_g) {f : Nat} (hl : Cond.fieldLink own j (T f).1 (T f).2.1 (T f).2.2.1 ∈ lw_g) (hf : f < N) {ci : Nat} (hc : gcls[ci]? = some (K, T, N)) {ty0 : Nat → FieldType} (hty : ∀ k, k < N → parseFieldDescriptor (T k).2.2.1 = some (ty0 k)) (hnm : ∀ a, a < N → ∀ b, b < N → a ≠ b → (T a).2.1 ≠ (T b).2.1) (hfin : (T f).2.2.2 = false) (q0 : Nat) {a : Nat} {fs : List Value} (he : ws[q0]? = some (a, .inr (ci, fs))) {v : Value} (hn : narrow (ty0 f) v = v) (hfit : fits (ty0 f) v = true) (hlen : f < fs.length) (ws' : va_W) (hw : ws.set q0 (a, .inr (ci, fs.set f v)) = ws') (q : Nat) (hq : pc + 3 = q) (kk : G E p l e R s m args below meth c nL A k n Q ws' q L st) : G E p l e R s m args below meth c nL A k n Q ws pc L (v :: .ref a :: st) := by
  subst hq; subst hw; exact fun H locs hP hD hS ls h => va_put C.hx C.hb C.hts hT ty0 hty hnm C.hown C.hK.1 hP hD hS q0 he hc f hf (C.hts _ hl) (fun _ h9 => h9) hfin (hty f hf) hn hfit hlen d (fun H1 locs1 hP1 hD1 hS1 => kk H1 locs1 hP1 hD1 hS1 ls h)
theorem G_putF (C : gC E p R s m args meth c cc nL own A) {j : Nat} (d : decode cc pc = .ok (.putfield j, 3)) {K : String} {T : u_T} {N : Nat} (hT : ∀ w ∈ u_ws K T N, w ∈ lw_g) {f : Nat} (hl : Cond.fieldLink own j (T f).1 (T f).2.1 (T f).2.2.1 ∈ lw_g) (hf : f < N) {ci : Nat} (hc : gcls[ci]? = some (K, T, N)) {ty0 : Nat → FieldType} (hty : ∀ k, k < N → parseFieldDescriptor (T k).2.2.1 = some (ty0 k)) (hnm : ∀ a, a < N → ∀ b, b < N → a ≠ b → (T a).2.1 ≠ (T b).2.1) (hfin : (T f).2.2.2 = true) (hin : meth.name = "<init>") (hdc : (T f).1 = own) (q0 : Nat) {a : Nat} {fs : List Value} (he : ws[q0]? = some (a, .inr (ci, fs))) {v : Value} (hn : narrow (ty0 f) v = v) (hfit : fits (ty0 f) v = true) (hlen : f < fs.length) (ws' : va_W) (hw : ws.set q0 (a, .inr (ci, fs.set f v)) = ws') (q : Nat) (hq : pc + 3 = q) (kk : G E p l e R s m args below meth c nL A k n Q ws' q L st) : G E p l e R s m args below meth c nL A k n Q ws pc L (v :: .ref a :: st) := by
  subst hq; subst hw; exact fun H locs hP hD hS ls h => va_putF C.hx C.hb C.hts hT ty0 hty hnm C.hown C.hK.1 hP hD hS q0 he hc f hf (C.hts _ hl) (fun _ h9 => h9) hfin hin hdc (hty f hf) hn hfit hlen d (fun H1 locs1 hP1 hD1 hS1 => kk H1 locs1 hP1 hD1 hS1 ls h)
-- arrays
theorem G_iald (C : gC E p R s m args meth c cc nL own A) (d : decode cc pc = .ok (.iaload, 1)) (q0 : Nat) {a len : Nat} {f : Nat → Int32} (ha : ws[q0]? = some (a, .inl (E.2.1, len, .inl f))) {i v : Int32} (hin : vp_in i len) (hv : f i.toNatClampNeg = v) (q : Nat) (hq : pc + 1 = q) (kk : G E p l e R s m args below meth c nL A k n Q ws q L (.int v :: st)) : G E p l e R s m args below meth c nL A k n Q ws pc L (.int i :: .ref a :: st) := by
  subst hq; subst hv; exact fun H locs hP hD hS ls h => va_iald C.hx C.hb C.hK.1 hP q0 0 ha rfl hin d (kk H locs hP hD hS ls h)
theorem G_iast (C : gC E p R s m args meth c cc nL own A) (d : decode cc pc = .ok (.iastore, 1)) (q0 : Nat) {a len : Nat} {f f' : Nat → Int32} (ha : ws[q0]? = some (a, .inl (E.2.1, len, .inl f))) {i x : Int32} (hin : vp_in i len) (hf : upd f i.toNatClampNeg x = f') (ws' : va_W) (hw : ws.set q0 (a, .inl (E.2.1, len, .inl f')) = ws') (q : Nat) (hq : pc + 1 = q) (kk : G E p l e R s m args below meth c nL A k n Q ws' q L st) : G E p l e R s m args below meth c nL A k n Q ws pc L (.int x :: .int i :: .ref a :: st) := by
  subst hq; subst hf; subst hw; exact fun H locs hP hD hS ls h => va_iast C.hx C.hb C.hK.1 hP hD hS q0 0 ha rfl hin d (fun H1 locs1 hP1 hD1 hS1 => kk H1 locs1 hP1 hD1 hS1 ls h)
theorem G_aald (C : gC E p R s m args meth c cc nL own A) (d : decode cc pc = .ok (.aaload, 1)) (q0 : Nat) {a len : Nat} {f : Nat → Option Nat} (ha : ws[q0]? = some (a, .inl (E.2.2, len, .inr (.inr (.inr (.inr f)))))) {i : Int32} {v : Value} (hin : vp_in i len) (hv : va_rf (f i.toNatClampNeg) = v) (q : Nat) (hq : pc + 1 = q) (kk : G E p l e R s m args below meth c nL A k n Q ws q L (v :: st)) : G E p l e R s m args below meth c nL A k n Q ws pc L (.int i :: .ref a :: st) := by
  subst hq; subst hv; exact fun H locs hP hD hS ls h => va_aldq C.hx C.hb C.hK.1 hP q0 1 ha rfl hin d (kk H locs hP hD hS ls h)
theorem G_aast (C : gC E p R s m args meth c cc nL own A) (d : decode cc pc = .ok (.aastore, 1)) (q0 qk : Nat) {a len : Nat} {f f' : Nat → Option Nat} (ha : ws[q0]? = some (a, .inl (E.2.2, len, .inr (.inr (.inr (.inr f)))))) {v : Nat} {vs : List Value} (hv : ws[qk]? = some (v, .inr (2, vs))) {i : Int32} (hin : vp_in i len) (hf : va_up f i.toNatClampNeg (some v) = f') (ws' : va_W) (hw : ws.set q0 (a, .inl (E.2.2, len, .inr (.inr (.inr (.inr f'))))) = ws') (q : Nat) (hq : pc + 1 = q) (kk : G E p l e R s m args below meth c nL A k n Q ws' q L st) : G E p l e R s m args below meth c nL A k n Q ws pc L (.ref v :: .int i :: .ref a :: st) := by
  subst hq; subst hf; subst hw; exact fun H locs hP hD hS ls h => va_astq C.hx C.hb C.hK.1 hP hD hS q0 1 qk 2 ha rfl hv rfl hin d (fun H1 locs1 hP1 hD1 hS1 => kk H1 locs1 hP1 hD1 hS1 ls h)
theorem G_alen (C : gC E p R s m args meth c cc nL own A) (d : decode cc pc = .ok (.arraylength, 1)) (q0 : Nat) {a len : Nat} {f : Nat → Int32} (ha : ws[q0]? = some (a, .inl (E.2.1, len, .inl f))) (q : Nat) (hq : pc + 1 = q) (kk : G E p l e R s m args below meth c nL A k n Q ws q L (.int (nI len) :: st)) : G E p l e R s m args below meth c nL A k n Q ws pc L (.ref a :: st) := by
  subst hq; exact fun H locs hP hD hS ls h => va_alen C.hx C.hb C.hK.1 hP q0 0 ha rfl rfl d (kk H locs hP hD hS ls h)
-- contracts
def gQ (E : gE) {S : Type} (post : S → Prop) (rv : S → Option Value) (wo : S → va_W) (A : Nat → Prop) : Array Value → State → Outcome → State → Prop := fun _ st oc t => (∃ u : S, oc = .returned (rv u) ∧ post u ∧ va_P E.1 gcls (wo u) t.heap ∧ va_D A (wo u)) ∧ va_F A st t
def gP (E : gE) (as : List Value) (wi : va_W) (sz : Nat) : Array Value → State → Prop := va_Pc as (fun U => U.heap.size = sz ∧ va_P E.1 gcls wi U.heap ∧ gK E U ∧ va_D (fun _ => True) wi)
def Fn (l : Launch) (E : gE) (y : MethodName) (cc : ByteArray) (mL : Nat) (ret : Option FieldType) (rm : Room) (as : List Value) (wi : va_W) {S : Type} (post : S → Prop) (rv : S → Option Value) (wo : S → va_W) (mc ms : Nat) : Prop :=
  ∀ sz : Nat, Met l y (.code y cc mL ret :: lw_g) rm (gP E as wi sz) (gQ E post rv wo (va_A wi sz)) mc ms (va_A wi sz)
abbrev FD (l : Launch) (E : gE) (y : MethodName) (cc : ByteArray) (mL : Nat) (ret : Option FieldType) (rm : Room) (as : List Value) (wi : va_W) (r : Option Value) (wo : va_W) : Prop := Fn l E y cc mL ret rm as wi (S := Unit) (fun _ => True) (fun _ => r) (fun _ => wo) 0 0
theorem gP.blind {as : List Value} {wi : va_W} {sz : Nat} : FrameBlind (gP E as wi sz) := fun a U g mk h => by
  obtain ⟨h1, h2, h3, h4, h5⟩ := h
  exact ⟨h1, h2, h3, gK.same (u := U) (U := U.calling g mk a) rfl h4, h5⟩
theorem Fn_of {y : MethodName} {ret : Option FieldType} {rm : Room} {as : List Value} {wi : va_W} {S : Type} {post : S → Prop} {rv : S → Option Value} {wo : S → va_W} {mc ms : Nat} (hy : plainName y.cls = true) (ho : y.cls = own) (hlen : Nat.ble (lg_sl as).length nL = true)
    (body : ∀ (p : Program) (e : Env) (s : State) (m : MethodId) (below : List Frame) (meth : Method) (c : Code) (A : Nat → Prop), gC E p rm s m as.toArray meth c cc nL own A → meth.sig.returnType = ret → meth.name = y.name →
      G E p l e rm s m as.toArray below meth c nL A 0 0 (MQ below (gQ E post rv wo A) as.toArray s mc ms A) wi 0 (lv_args 0 as) []) : Fn l E y cc nL ret rm as wi post rv wo mc ms := by
  intro sz
  refine Met.ofW (cc := cc) (maxL := nL) (ret := ret) hy rfl ?_
  intro p e s m args below meth c s₁ B hml hv
  obtain ⟨rfl, hsz, hP, hK, hD0⟩ := hv
  have hts := atoms_spec (ws := .code y cc nL ret :: lw_g) B.pre
  have hown : s.vm.findClass own = some m.cls := by rw [← ho]; exact findClass_of_methodNamed B.named
  subst hsz
  have hD := hD0.self (sz := s.heap.size)
  generalize hAe : va_A wi s.heap.size = A at hD ⊢
  have hA : ∀ q : Nat, s.heap.size ≤ q → A q := fun q h => by rw [← hAe]; exact Or.inr h
  have hl := lv_entry as (n := nL) (Nat.le_of_ble_eq_true hlen)
  rw [lg_entry_eq]
  generalize (lg_sl as ++ List.replicate (nL - (lg_sl as).length) Slot.unset).toArray = ls at hl ⊢
  exact body p e s m below meth c A ⟨B.exec, B.bytes, hml, hown, fun w hw => hts w (List.mem_cons_of_mem _ hw), hK, hA, B.notSynchronized⟩ B.returns (name_of_methodNamed B.named B.method).1 s.heap [] hP hD va_S.rf ls hl
-- returns
theorem G_iret (C : gC E p R s m args meth c cc nL own A) {ty : FieldType} (hr : meth.sig.returnType = some ty) (d : decode cc pc = .ok (.ireturn, 1)) {v : Int32} (hn : narrow ty (.int v) = .int v) {S : Type} {post : S → Prop} {rv : S → Option Value} {wo : S → va_W} (u : S) (hp : post u) (hv : rv u = some (.int v)) (hw : wo u = ws) : G E p l e R s m args below meth c nL A k n (MQ below (gQ E post rv wo A) args s k n A) ws pc L [.int v] := by
  subst hw
  exact fun H locs hP hD hS ls h => W.zret C.hx C.hb hr hn (fun t ht hW => ⟨⟨u, by rw [hv], hp, by rw [ht]; exact hP, hD⟩, hS.F ht⟩) hS.2.2 d C.hlk
theorem G_vret (C : gC E p R s m args meth c cc nL own A) (hr : meth.sig.returnType = none) (d : decode cc pc = .ok (.return_, 1)) {S : Type} {post : S → Prop} {rv : S → Option Value} {wo : S → va_W} (u : S) (hp : post u) (hv : rv u = none) (hw : wo u = ws) : G E p l e R s m args below meth c nL A k n (MQ below (gQ E post rv wo A) args s k n A) ws pc L [] := by
  subst hw
  exact fun H locs hP hD hS ls h => W.vret C.hx C.hb hr (fun t ht hW => ⟨⟨u, by rw [hv], hp, by rw [ht]; exact hP, hD⟩, hS.F ht⟩) hS.2.2 d C.hlk
theorem G_lret (C : gC E p R s m args meth c cc nL own A) (hr : meth.sig.returnType = some .long) (d : decode cc pc = .ok (.lreturn, 1)) {v : Int64} {S : Type} {post : S → Prop} {rv : S → Option Value} {wo : S → va_W} (u : S) (hp : post u) (hv : rv u = some (.long v)) (hw : wo u = ws) : G E p l e R s m args below meth c nL A k n (MQ below (gQ E post rv wo A) args s k n A) ws pc L [.long v] := by
  subst hw
  exact fun H locs hP hD hS ls h => W.lret C.hx C.hb hr (fun t ht hW => ⟨⟨u, by rw [hv], hp, by rw [ht]; exact hP, hD⟩, hS.F ht⟩) hS.2.2 d C.hlk
theorem G_aret (C : gC E p R s m args meth c cc nL own A) {rt : String} (hr : meth.sig.returnType = some (.object rt)) (d : decode cc pc = .ok (.areturn, 1)) {a : Nat} {S : Type} {post : S → Prop} {rv : S → Option Value} {wo : S → va_W} (u : S) (hp : post u) (hv : rv u = some (.ref a)) (hw : wo u = ws) : G E p l e R s m args below meth c nL A k n (MQ below (gQ E post rv wo A) args s k n A) ws pc L [.ref a] := by
  subst hw
  exact fun H locs hP hD hS ls h => W.aret C.hx C.hb hr (Or.inl ⟨_, rfl⟩) (Or.inr ⟨_, rfl⟩) (fun t ht hW => ⟨⟨u, by rw [hv], hp, by rw [ht]; exact hP, hD⟩, hS.F ht⟩) hS.2.2 d C.hlk
-- calls
theorem va_callg {ls : Array Slot} {st0 rest : List Value} {H H0 : Heap} {locs : List Loc} {A0 A1 : Nat → Prop} {mc ms : Nat} {free : Addr → Prop} {S : Type} {post : S → Prop} {rv : S → Option Value} {wo : S → va_W} {a : Array Value} (hr : va_Run p l e R s m args below meth c H locs k n mc ms (F0 m pc ls st0) rest (gQ E post rv wo A1 a) free) (hS : va_S A0 H0 H locs) (hA : ∀ q, q < H.size → A1 q → A0 q) (hf : ∀ q, free q → A0 q)
    (kk : ∀ (u : S) (H1 : Heap) (locs1 : List Loc), post u → va_P E.1 gcls (wo u) H1 → va_D A1 (wo u) → (∀ q : Nat, q < H.size → ¬ A1 q → H1[q]? = H[q]?) → va_S A0 H0 H1 locs1 → W p l e R s m args below meth c H1 locs1 (k + mc) (n + ms) Q (F0 m (pc + 3) ls ((rv u).toList ++ rest))) : W p l e R s m args below meth c H locs k n Q (F0 m pc ls st0) := by
  intro T hT X
  obtain ⟨v, st₀, t, T', L, h0, X', hL, e1, e2, ⟨⟨u, hv, hp, hb, hd⟩, hz, hk⟩, st⟩ := hr T hT X
  have hv2 := Outcome.returned.inj hv
  subst hv2
  rw [h0] at hz hk
  obtain ⟨t2, a1, b1⟩ := kk u T'.heap (locs ++ L) hp (by rw [e1]; exact hb) hd (fun q h1 h2 => by rw [e1]; exact hk q h1 h2)
    ⟨Nat.le_trans hS.1 (by rw [e1]; exact hz), fun q h1 h2 => by rw [e1, hk q (Nat.lt_of_lt_of_le h1 hS.1) (fun z => h2 (hA q (Nat.lt_of_lt_of_le h1 hS.1) z))]; exact hS.2.1 q h1 h2, fun q hq => by
      rcases List.mem_append.mp hq with h | h
      · exact hS.2.2 q h
      · exact hf _ (hL q h)⟩ T' rfl X'
  exact ⟨t2, st t2 a1, b1⟩
/-- a call's cells cut out of the world and put back into their places -/
theorem G_core {mc ms : Nat} {S : Type} {post : S → Prop} {rv : S → Option Value} {wo : S → va_W} {as : List Value} {wc : va_W} {st0 rest : List Value} {y : MethodName} (C : gC E p R s m args meth c cc nL own A)
    (run : ∀ (H : Heap) (locs : List Loc) (ls : Array Slot), va_P E.1 gcls wc H → va_D (fun _ => True) wc → lv_has ls nL L → va_Run p l e R s m args below meth c H locs k n mc ms (F0 m pc ls st0) rest (gQ E post rv wo (va_A wc H.size) as.toArray) (va_A wc H.size))
    (isC isR : List Nat) {wr : va_W} (hC : isC.map (fun i => ws[i]?) = wc.map some) (hR : isR.map (fun i => ws[i]?) = wr.map some) (hnC : va_nd isC = true) (hnR : va_nd isR = true) (hdis : isR.all (fun i => !isC.contains i) = true) (pm : List Nat) (hpm : va_nd pm = true) (ws' : S → va_W) (hw : ∀ u, pm.map (fun i => (wr ++ wo u)[i]?) = (ws' u).map some)
    (q : Nat) (hq : pc + 3 = q) (kk : ∀ u : S, post u → G E p l e R s m args below meth c nL A (k + mc) (n + ms) Q (ws' u) q L ((rv u).toList ++ rest)) : G E p l e R s m args below meth c nL A k n Q ws pc L st0 := by
  subst hq
  intro H locs hP hD hS ls hl
  have hFc := va_free (wc := wc) hD hS C.hA isC hC
  refine va_callg (run H locs ls (P_map hP isC hC) ((hD.sub isC hnC hC).weaken (fun _ _ _ _ => trivial)) hl) hS (fun q _ h => hFc q h) hFc (fun u H1 locs1 hp hP1 hD1 hk1 hS1 => ?_)
  have hdis' : ∀ i ∈ isR, i ∉ isC := fun i hi hj => by
    have h1 := List.all_eq_true.mp hdis i hi
    simp only [Bool.not_eq_true', List.contains_iff_mem, Bool.eq_false_iff, ne_eq] at h1
    exact h1 hj
  obtain ⟨hP2, hD2⟩ := va_join (wr := wr) (w1 := wo u) hP hD isC isR hC hR hnR hdis' hk1 hFc hP1 hD1
  exact kk u hp H1 locs1 (P_map hP2 pm (hw u)) (hD2.sub pm hpm (hw u)) hS1 ls hl
theorem G_callV {mc ms : Nat} {S : Type} {post : S → Prop} {rv : S → Option Value} {wo : S → va_W} {b : Nat} {As : List Value} {wc : va_W} {rest : List Value} {y : MethodName} {yc : ByteArray} {mL : Nat} {ret : Option FieldType} {rm : Room} (C : gC E p R s m args meth c cc nL own A) {j : Nat} (d : decode cc pc = .ok (.invokevirtual j, 3))
    (hF : Fn l E y yc mL ret rm (.ref b :: As) wc post rv wo mc ms) (w1 : Cond.methodLink own j y ∈ lw_g) (w2 : Cond.instanceMethod y ∈ lw_g) (w3 : Cond.selects y.cls y y ∈ lw_g) (w4 : Cond.initialized y.cls ∈ lw_g) (w5 : Cond.code y yc mL ret ∈ lw_g)
    (hrc : rm.cells = mc) (hrs : rm.slots = ms) (hd : y.cls ≠ "java/lang/invoke/MethodHandle" ∧ y.cls ≠ "java/lang/invoke/VarHandle" ∧ (parseMethodDescriptor y.desc).map (fun d => d.parameters.length) = some As.length) (hR0 : (Nat.ble (rm.frames + 1) R.frames && Nat.ble (8 + (mL + 11) + rm.locals) R.locals && Nat.ble (k + mc) R.cells && Nat.ble (n + ms) R.slots) = true) (hst : (rest.map fun v => v.category).sum ≤ 8)
    (ci : Nat) {fs : List Value} {rr : vw_C} (hci : gcls[ci]? = some rr) (hrr : rr.1 = y.cls) (qr : Nat) (hrcv : wc[qr]? = some (b, .inr (ci, fs)))
    (isC isR : List Nat) {wr : va_W} (hC : isC.map (fun i => ws[i]?) = wc.map some) (hR : isR.map (fun i => ws[i]?) = wr.map some) (hnC : va_nd isC = true) (hnR : va_nd isR = true) (hdis : isR.all (fun i => !isC.contains i) = true) (pm : List Nat) (hpm : va_nd pm = true) (ws' : S → va_W) (hw : ∀ u, pm.map (fun i => (wr ++ wo u)[i]?) = (ws' u).map some)
    {st0 : List Value} (hst0 : st0 = As.reverse ++ .ref b :: rest) (q : Nat) (hq : pc + 3 = q) (kk : ∀ u : S, post u → G E p l e R s m args below meth c nL A (k + mc) (n + ms) Q (ws' u) q L ((rv u).toList ++ rest)) : G E p l e R s m args below meth c nL A k n Q ws pc L st0 := by
  subst hst0
  simp only [Bool.and_eq_true] at hR0
  obtain ⟨⟨⟨r1, r2⟩, r3⟩, r4⟩ := hR0
  refine G_core (y := y) (as := .ref b :: As) C (fun H locs ls hP hD hl => ?_) isC isR hC hR hnC hnR hdis pm hpm ws' hw q hq kk
  have hG : GoodIn lw_g (wsV own j y.cls y (.code y yc mL ret :: lw_g)) := by
    intro w hw
    simp only [wsV, List.mem_append, List.mem_cons, List.not_mem_nil, or_false] at hw
    rcases hw with (rfl | rfl | rfl | rfl) | hw
    · exact lw_gg _ w1
    · exact lw_gg _ w2
    · exact lw_gg _ w3
    · exact lw_gg _ w4
    · exact lw_gc w5 w (List.mem_cons.mpr hw)
  exact va_runV (As := As) (rest := rest) (b := b) (C := y.cls) ⟨C.hx, C.hb, C.hml, C.hown, C.hts⟩ (hF H.size) (cwV As.length C.hts hG rfl hrc hrs ⟨rfl, hd⟩ ⟨Nat.le_of_ble_eq_true r1, Nat.le_of_ble_eq_true r2⟩) ⟨gP.blind, by rw [← hrr]; exact va_recv C.hK.1 hP hci hrcv, fun U hU hW => ⟨rfl, by rw [hU], by rw [hU]; exact hP, gK.warm hW C.hK, hD⟩⟩ rfl rfl hl.1 rfl (lv_room hst) d ⟨Nat.le_of_ble_eq_true r3, Nat.le_of_ble_eq_true r4⟩
theorem G_callS {mc ms : Nat} {S : Type} {post : S → Prop} {rv : S → Option Value} {wo : S → va_W} {As : List Value} {wc : va_W} {rest : List Value} {y : MethodName} {yc : ByteArray} {mL : Nat} {ret : Option FieldType} {rm : Room} (C : gC E p R s m args meth c cc nL own A) {j : Nat} (d : decode cc pc = .ok (.invokestatic j, 3))
    (hF : Fn l E y yc mL ret rm As wc post rv wo mc ms) (w1 : Cond.methodLink own j y ∈ lw_g) (w2 : Cond.static y ∈ lw_g) (w4 : Cond.initialized y.cls ∈ lw_g) (w5 : Cond.code y yc mL ret ∈ lw_g)
    (hrc : rm.cells = mc) (hrs : rm.slots = ms) (hd : y.cls ≠ "java/lang/invoke/MethodHandle" ∧ y.cls ≠ "java/lang/invoke/VarHandle" ∧ (parseMethodDescriptor y.desc).map (fun d => d.parameters.length) = some As.length) (hR0 : (Nat.ble (rm.frames + 1) R.frames && Nat.ble (8 + (mL + 11) + rm.locals) R.locals && Nat.ble (k + mc) R.cells && Nat.ble (n + ms) R.slots) = true) (hst : (rest.map fun v => v.category).sum ≤ 8)
    (isC isR : List Nat) {wr : va_W} (hC : isC.map (fun i => ws[i]?) = wc.map some) (hR : isR.map (fun i => ws[i]?) = wr.map some) (hnC : va_nd isC = true) (hnR : va_nd isR = true) (hdis : isR.all (fun i => !isC.contains i) = true) (pm : List Nat) (hpm : va_nd pm = true) (ws' : S → va_W) (hw : ∀ u, pm.map (fun i => (wr ++ wo u)[i]?) = (ws' u).map some)
    {st0 : List Value} (hst0 : st0 = As.reverse ++ rest) (q : Nat) (hq : pc + 3 = q) (kk : ∀ u : S, post u → G E p l e R s m args below meth c nL A (k + mc) (n + ms) Q (ws' u) q L ((rv u).toList ++ rest)) : G E p l e R s m args below meth c nL A k n Q ws pc L st0 := by
  subst hst0
  simp only [Bool.and_eq_true] at hR0
  obtain ⟨⟨⟨r1, r2⟩, r3⟩, r4⟩ := hR0
  refine G_core (y := y) (as := As) C (fun H locs ls hP hD hl => ?_) isC isR hC hR hnC hnR hdis pm hpm ws' hw q hq kk
  exact va_runS (As := As) (rest := rest) ⟨C.hx, C.hb, C.hml, C.hown, C.hts⟩ (hF H.size) ⟨callB_of As.length C.hts (lw_gc w5) rfl hrc hrs (C.hts _ w4) (C.hts _ w1) hd ⟨Nat.le_of_ble_eq_true r1, Nat.le_of_ble_eq_true r2⟩, C.hts _ w2⟩ ⟨gP.blind, fun U hU hW => ⟨rfl, by rw [hU], by rw [hU]; exact hP, gK.warm hW C.hK, hD⟩⟩ rfl rfl hl.1 rfl (lv_room hst) d ⟨Nat.le_of_ble_eq_true r3, Nat.le_of_ble_eq_true r4⟩
theorem G_callSN {mc ms : Nat} {S : Type} {post : S → Prop} {rv : S → Option Value} {wo : S → va_W} {As : List Value} {wc : va_W} {rest : List Value} {y : MethodName} {host : String} {yc : ByteArray} {mL : Nat} {ret : Option FieldType} {rm : Room} (C : gC E p R s m args meth c cc nL own A) {j : Nat} (d : decode cc pc = .ok (.invokestatic j, 3))
    (hF : Fn l E y yc mL ret rm As wc post rv wo mc ms) (w1 : (own, j, y, host) ∈ lw_nest) (w2 : Cond.static y ∈ lw_g) (w4 : Cond.initialized y.cls ∈ lw_g) (w5 : Cond.code y yc mL ret ∈ lw_g)
    (hrc : rm.cells = mc) (hrs : rm.slots = ms) (hd : y.cls ≠ "java/lang/invoke/MethodHandle" ∧ y.cls ≠ "java/lang/invoke/VarHandle" ∧ (parseMethodDescriptor y.desc).map (fun d => d.parameters.length) = some As.length) (hR0 : (Nat.ble (rm.frames + 1) R.frames && Nat.ble (8 + (mL + 11) + rm.locals) R.locals && Nat.ble (k + mc) R.cells && Nat.ble (n + ms) R.slots) = true) (hst : (rest.map fun v => v.category).sum ≤ 8)
    (isC isR : List Nat) {wr : va_W} (hC : isC.map (fun i => ws[i]?) = wc.map some) (hR : isR.map (fun i => ws[i]?) = wr.map some) (hnC : va_nd isC = true) (hnR : va_nd isR = true) (hdis : isR.all (fun i => !isC.contains i) = true) (pm : List Nat) (hpm : va_nd pm = true) (ws' : S → va_W) (hw : ∀ u, pm.map (fun i => (wr ++ wo u)[i]?) = (ws' u).map some)
    {st0 : List Value} (hst0 : st0 = As.reverse ++ rest) (q : Nat) (hq : pc + 3 = q) (kk : ∀ u : S, post u → G E p l e R s m args below meth c nL A (k + mc) (n + ms) Q (ws' u) q L ((rv u).toList ++ rest)) : G E p l e R s m args below meth c nL A k n Q ws pc L st0 := by
  subst hst0
  simp only [Bool.and_eq_true] at hR0
  obtain ⟨⟨⟨r1, r2⟩, r3⟩, r4⟩ := hR0
  refine G_core (y := y) (as := As) C (fun H locs ls hP hD hl => ?_) isC isR hC hR hnC hnR hdis pm hpm ws' hw q hq kk
  exact va_runSN (As := As) (rest := rest) (host := host) ⟨C.hx, C.hb, C.hml, C.hown, C.hts⟩ (hF H.size) ⟨va_cnB As.length C.hts (lw_gc w5) rfl hrc hrs (C.hK.2.1 _ w1) (C.hts _ w4) hd ⟨Nat.le_of_ble_eq_true r1, Nat.le_of_ble_eq_true r2⟩, C.hts _ w2, trivial⟩ ⟨gP.blind, fun U hU hW => ⟨rfl, by rw [hU], by rw [hU]; exact hP, gK.warm hW C.hK, hD⟩⟩ rfl rfl hl.1 rfl (lv_room hst) d ⟨Nat.le_of_ble_eq_true r3, Nat.le_of_ble_eq_true r4⟩
end GR
end
section
def oI : Option Nat → Int32
  | none => -1
  | some g => nI g
def bI (b : Bool) : Int32 := if b then nI 1 else nI 0
def aN (S : Nat → Nat) : Nat → Int32 := fun k => nI (S k)
def aO (T : Nat → Option Nat) : Nat → Int32 := fun k => oI (T k)
def inb (x : Int32) (n : Nat) : Bool := decide (0 ≤ x.toInt ∧ x.toInt < n)
theorem aN_at {S : Nat → Nat} {i : Nat} (h : i < 2 ^ 31) : aN S (nI i).toNatClampNeg = nI (S i) := by rw [nI_clamp h]; rfl
theorem aO_at {S : Nat → Option Nat} {i : Nat} (h : i < 2 ^ 31) : aO S (nI i).toNatClampNeg = oI (S i) := by rw [nI_clamp h]; rfl
theorem aN_up {S : Nat → Nat} {i v : Nat} (h : i < 2 ^ 31) : upd (aN S) (nI i).toNatClampNeg (nI v) = aN (va_up S i v) := by
  rw [nI_clamp h]; funext j; unfold upd aN va_up; by_cases hj : j = i <;> simp [hj]
theorem aO_up {S : Nat → Option Nat} {i : Nat} {v : Option Nat} (h : i < 2 ^ 31) : upd (aO S) (nI i).toNatClampNeg (oI v) = aO (va_up S i v) := by
  rw [nI_clamp h]; funext j; unfold upd aO va_up; by_cases hj : j = i <;> simp [hj]
theorem up_s {α : Type} {f : Nat → α} {k : Nat} {v : α} : va_up f k v k = v := by simp [va_up]
theorem up_n {α : Type} {f : Nat → α} {k j : Nat} {v : α} (h : j ≠ k) : va_up f k v j = f j := by simp [va_up, h]
theorem i_lt (a b : Int32) : a < b ↔ a.toInt < b.toInt := Int32.lt_iff_toInt_lt
theorem i_le (a b : Int32) : a ≤ b ↔ a.toInt ≤ b.toInt := Int32.le_iff_toInt_le
theorem i_eq (a b : Int32) : a = b ↔ a.toInt = b.toInt := ⟨fun h => by rw [h], fun h => Int32.toInt_inj.mp h⟩
theorem i_ltN (a : Int32) {b : Nat} (h : b < 2 ^ 31) : a < nI b ↔ a.toInt < b := by rw [i_lt, nI_toInt h]
theorem i_leN (a : Int32) {b : Nat} (h : b < 2 ^ 31) : a ≤ nI b ↔ a.toInt ≤ b := by rw [i_le, nI_toInt h]
theorem i_Nle (a : Int32) {b : Nat} (h : b < 2 ^ 31) : nI b ≤ a ↔ (b : Int) ≤ a.toInt := by rw [i_le, nI_toInt h]
theorem i_Nlt (a : Int32) {b : Nat} (h : b < 2 ^ 31) : nI b < a ↔ (b : Int) < a.toInt := by rw [i_lt, nI_toInt h]
theorem i_eqN (a : Int32) {b : Nat} (h : b < 2 ^ 31) : a = nI b ↔ a.toInt = b := by rw [i_eq, nI_toInt h]
theorem i_lt0 (a : Int32) : a < 0 ↔ a.toInt < 0 := by rw [i_lt]; rfl
theorem i_ge0 (a : Int32) : 0 ≤ a ↔ 0 ≤ a.toInt := by rw [i_le]; rfl
theorem i_le0 (a : Int32) : a ≤ 0 ↔ a.toInt ≤ 0 := by rw [i_le]; rfl
theorem nI0 : (0 : Int32) = nI 0 := nI_0.symm
theorem n_eq0 {a : Nat} (h : a < 2 ^ 31) : nI a = 0 ↔ a = 0 := by rw [nI0]; exact nI_eq h (by decide)
theorem inb_iff (x : Int32) (n : Nat) : inb x n = true ↔ (0 ≤ x.toInt ∧ x.toInt < n) := by simp [inb]
theorem inb_of {x : Int32} {n : Nat} (h : inb x n = true) (hn : n < 2 ^ 31) : ∃ j : Nat, j < n ∧ x = nI j := by
  rw [inb_iff] at h
  refine ⟨x.toInt.toNat, by omega, ?_⟩
  rw [i_eq, nI_toInt (by omega)]; omega
theorem inb_nI {j n : Nat} (h : j < 2 ^ 31) : inb (nI j) n = decide (j < n) := by
  unfold inb; rw [nI_toInt h]; congr 1; simp
theorem oI_ne {g : Nat} (h : g < 2 ^ 31) : ¬ nI g = -1 := by
  have h1 : ((-1 : Int32)).toInt = -1 := by decide
  rw [i_eq, nI_toInt h, h1]
  omega
theorem oI_none {t : Option Nat} (h : ∀ g, t = some g → g < 2 ^ 31) : oI t = -1 ↔ t = none := by
  cases t with
  | none => exact ⟨fun _ => rfl, fun _ => rfl⟩
  | some g => exact ⟨fun h2 => absurd h2 (oI_ne (h g rfl)), fun h2 => by cases h2⟩
theorem oI_eq {t u : Option Nat} (h : ∀ g, t = some g → g < 2 ^ 31) (hu : ∀ g, u = some g → g < 2 ^ 31) : oI t = oI u ↔ t = u := by
  cases t with
  | none =>
    cases u with
    | none => exact ⟨fun _ => rfl, fun _ => rfl⟩
    | some g => exact ⟨fun h2 => absurd h2.symm (oI_ne (hu g rfl)), fun h2 => by cases h2⟩
  | some f =>
    cases u with
    | none => exact ⟨fun h2 => absurd h2 (oI_ne (h f rfl)), fun h2 => by cases h2⟩
    | some g =>
      show nI f = nI g ↔ _
      rw [nI_eq (h f rfl) (hu g rfl)]; simp
theorem bI_0 (b : Bool) : bI b = 0 ↔ b = false := by cases b <;> decide
theorem bI_1 (b : Bool) : bI b = nI 1 ↔ b = true := by cases b <;> decide
theorem bI_nar (b : Bool) : narrow .boolean (.int (bI b)) = .int (bI b) := by cases b <;> decide
theorem bI_fit (b : Bool) : fits .boolean (.int (bI b)) = true := by cases b <;> decide
theorem bI_r1 {P : Prop} [Decidable P] (h : P) : some (Value.int (bI (decide P))) = some (.int (nI 1)) := by rw [decide_eq_true h]; rfl
theorem bI_r0 {P : Prop} [Decidable P] (h : ¬ P) : some (Value.int (bI (decide P))) = some (.int (nI 0)) := by rw [decide_eq_false h]; rfl
theorem bI_rt {b : Bool} (h : b = true) : some (Value.int (bI b)) = some (.int (nI 1)) := by rw [h]; rfl
theorem bI_rf {b : Bool} (h : b = false) : some (Value.int (bI b)) = some (.int (nI 0)) := by rw [h]; rfl
theorem fa_and (a b : Nat) : nI a &&& nI b = nI (a &&& b) := by
  unfold nI
  apply Int32.toBitVec_inj.mp
  simp [Int32.toBitVec_and, BitVec.ofNat_and]
theorem fa_or (a b : Nat) : nI a ||| nI b = nI (a ||| b) := by
  unfold nI
  apply Int32.toBitVec_inj.mp
  simp [Int32.toBitVec_or, BitVec.ofNat_or]
theorem nI_bit : ∀ x, x < 31 → nI 1 <<< (nI x &&& 31) = nI (2 ^ x) := by decide +kernel
section GR2
variable {E : gE} {p : Program} {l : Launch} {e : Env} {R : Room} {s : State} {m : MethodId} {args : Array Value} {below : List Frame} {meth : Method} {c : Code} {cc : ByteArray} {nL : Nat} {own : String} {A : Nat → Prop} {k n : Nat} {Q : State → Prop} {ws : va_W} {pc : Nat} {L : List (Nat × Value)} {st : List Value}
theorem G_ialdN (C : gC E p R s m args meth c cc nL own A) (d : decode cc pc = .ok (.iaload, 1)) (q0 : Nat) {a len : Nat} {S : Nat → Nat} (ha : ws[q0]? = some (a, .inl (E.2.1, len, .inl (aN S)))) (hlen : Nat.ble len 1000 = true) {i : Nat} (hi : i < len) (q : Nat) (hq : pc + 1 = q) (kk : G E p l e R s m args below meth c nL A k n Q ws q L (.int (nI (S i)) :: st)) : G E p l e R s m args below meth c nL A k n Q ws pc L (.int (nI i) :: .ref a :: st) :=
  have h1 : len ≤ 1000 := Nat.le_of_ble_eq_true hlen
  G_iald C d q0 ha (vp_in_nI hi (by omega)) (aN_at (by omega)) q hq kk
theorem G_ialdO (C : gC E p R s m args meth c cc nL own A) (d : decode cc pc = .ok (.iaload, 1)) (q0 : Nat) {a len : Nat} {S : Nat → Option Nat} (ha : ws[q0]? = some (a, .inl (E.2.1, len, .inl (aO S)))) (hlen : Nat.ble len 1000 = true) {i : Nat} (hi : i < len) (q : Nat) (hq : pc + 1 = q) (kk : G E p l e R s m args below meth c nL A k n Q ws q L (.int (oI (S i)) :: st)) : G E p l e R s m args below meth c nL A k n Q ws pc L (.int (nI i) :: .ref a :: st) :=
  have h1 : len ≤ 1000 := Nat.le_of_ble_eq_true hlen
  G_iald C d q0 ha (vp_in_nI hi (by omega)) (aO_at (by omega)) q hq kk
theorem G_iastN (C : gC E p R s m args meth c cc nL own A) (d : decode cc pc = .ok (.iastore, 1)) (q0 : Nat) {a len : Nat} {S : Nat → Nat} (ha : ws[q0]? = some (a, .inl (E.2.1, len, .inl (aN S)))) (hlen : Nat.ble len 1000 = true) {i x : Nat} (hi : i < len) (ws' : va_W) (hw : ws.set q0 (a, .inl (E.2.1, len, .inl (aN (va_up S i x)))) = ws') (q : Nat) (hq : pc + 1 = q) (kk : G E p l e R s m args below meth c nL A k n Q ws' q L st) : G E p l e R s m args below meth c nL A k n Q ws pc L (.int (nI x) :: .int (nI i) :: .ref a :: st) :=
  have h1 : len ≤ 1000 := Nat.le_of_ble_eq_true hlen
  G_iast C d q0 ha (vp_in_nI hi (by omega)) (aN_up (by omega)) ws' hw q hq kk
theorem G_iastO (C : gC E p R s m args meth c cc nL own A) (d : decode cc pc = .ok (.iastore, 1)) (q0 : Nat) {a len : Nat} {S : Nat → Option Nat} (ha : ws[q0]? = some (a, .inl (E.2.1, len, .inl (aO S)))) (hlen : Nat.ble len 1000 = true) {i : Nat} {x : Option Nat} (hi : i < len) (ws' : va_W) (hw : ws.set q0 (a, .inl (E.2.1, len, .inl (aO (va_up S i x)))) = ws') (q : Nat) (hq : pc + 1 = q) (kk : G E p l e R s m args below meth c nL A k n Q ws' q L st) : G E p l e R s m args below meth c nL A k n Q ws pc L (.int (oI x) :: .int (nI i) :: .ref a :: st) :=
  have h1 : len ≤ 1000 := Nat.le_of_ble_eq_true hlen
  G_iast C d q0 ha (vp_in_nI hi (by omega)) (aO_up (by omega)) ws' hw q hq kk
theorem G_cV {r : Option Value} {wo : va_W} {b : Nat} {As : List Value} {wc : va_W} {rest : List Value} {y : MethodName} {yc : ByteArray} {mL : Nat} {ret : Option FieldType} {rm : Room} (C : gC E p R s m args meth c cc nL own A) {j : Nat} (d : decode cc pc = .ok (.invokevirtual j, 3))
    (hF : FD l E y yc mL ret rm (.ref b :: As) wc r wo) (w1 : Cond.methodLink own j y ∈ lw_g) (w2 : Cond.instanceMethod y ∈ lw_g) (w3 : Cond.selects y.cls y y ∈ lw_g) (w4 : Cond.initialized y.cls ∈ lw_g) (w5 : Cond.code y yc mL ret ∈ lw_g)
    (hrc : rm.cells = 0) (hrs : rm.slots = 0) (hd : y.cls ≠ "java/lang/invoke/MethodHandle" ∧ y.cls ≠ "java/lang/invoke/VarHandle" ∧ (parseMethodDescriptor y.desc).map (fun d => d.parameters.length) = some As.length) (hR0 : (Nat.ble (rm.frames + 1) R.frames && Nat.ble (8 + (mL + 11) + rm.locals) R.locals && Nat.ble k R.cells && Nat.ble n R.slots) = true) (hst : (rest.map fun v => v.category).sum ≤ 8)
    (ci : Nat) {fs : List Value} {rr : vw_C} (hci : gcls[ci]? = some rr) (hrr : rr.1 = y.cls) (qr : Nat) (hrcv : wc[qr]? = some (b, .inr (ci, fs)))
    (isC isR : List Nat) {wr : va_W} (hC : isC.map (fun i => ws[i]?) = wc.map some) (hR : isR.map (fun i => ws[i]?) = wr.map some) (hnC : va_nd isC = true) (hnR : va_nd isR = true) (hdis : isR.all (fun i => !isC.contains i) = true) (pm : List Nat) (hpm : va_nd pm = true) (ws' : va_W) (hw : pm.map (fun i => (wr ++ wo)[i]?) = ws'.map some)
    {st0 : List Value} (hst0 : st0 = As.reverse ++ .ref b :: rest) (st' : List Value) (hst' : r.toList ++ rest = st') (q : Nat) (hq : pc + 3 = q) (kk : G E p l e R s m args below meth c nL A k n Q ws' q L st') : G E p l e R s m args below meth c nL A k n Q ws pc L st0 := by
  subst hst'
  exact G_callV C d hF w1 w2 w3 w4 w5 hrc hrs hd hR0 hst ci hci hrr qr hrcv isC isR hC hR hnC hnR hdis pm hpm (fun _ => ws') (fun _ => hw) hst0 q hq (fun _ _ => kk)
theorem G_cS {r : Option Value} {wo : va_W} {As : List Value} {wc : va_W} {rest : List Value} {y : MethodName} {yc : ByteArray} {mL : Nat} {ret : Option FieldType} {rm : Room} (C : gC E p R s m args meth c cc nL own A) {j : Nat} (d : decode cc pc = .ok (.invokestatic j, 3))
    (hF : FD l E y yc mL ret rm As wc r wo) (w1 : Cond.methodLink own j y ∈ lw_g) (w2 : Cond.static y ∈ lw_g) (w4 : Cond.initialized y.cls ∈ lw_g) (w5 : Cond.code y yc mL ret ∈ lw_g)
    (hrc : rm.cells = 0) (hrs : rm.slots = 0) (hd : y.cls ≠ "java/lang/invoke/MethodHandle" ∧ y.cls ≠ "java/lang/invoke/VarHandle" ∧ (parseMethodDescriptor y.desc).map (fun d => d.parameters.length) = some As.length) (hR0 : (Nat.ble (rm.frames + 1) R.frames && Nat.ble (8 + (mL + 11) + rm.locals) R.locals && Nat.ble k R.cells && Nat.ble n R.slots) = true) (hst : (rest.map fun v => v.category).sum ≤ 8)
    (isC isR : List Nat) {wr : va_W} (hC : isC.map (fun i => ws[i]?) = wc.map some) (hR : isR.map (fun i => ws[i]?) = wr.map some) (hnC : va_nd isC = true) (hnR : va_nd isR = true) (hdis : isR.all (fun i => !isC.contains i) = true) (pm : List Nat) (hpm : va_nd pm = true) (ws' : va_W) (hw : pm.map (fun i => (wr ++ wo)[i]?) = ws'.map some)
    {st0 : List Value} (hst0 : st0 = As.reverse ++ rest) (st' : List Value) (hst' : r.toList ++ rest = st') (q : Nat) (hq : pc + 3 = q) (kk : G E p l e R s m args below meth c nL A k n Q ws' q L st') : G E p l e R s m args below meth c nL A k n Q ws pc L st0 := by
  subst hst'
  exact G_callS C d hF w1 w2 w4 w5 hrc hrs hd hR0 hst isC isR hC hR hnC hnR hdis pm hpm (fun _ => ws') (fun _ => hw) hst0 q hq (fun _ _ => kk)
theorem G_cSN {r : Option Value} {wo : va_W} {As : List Value} {wc : va_W} {rest : List Value} {y : MethodName} {host : String} {yc : ByteArray} {mL : Nat} {ret : Option FieldType} {rm : Room} (C : gC E p R s m args meth c cc nL own A) {j : Nat} (d : decode cc pc = .ok (.invokestatic j, 3))
    (hF : FD l E y yc mL ret rm As wc r wo) (w1 : (own, j, y, host) ∈ lw_nest) (w2 : Cond.static y ∈ lw_g) (w4 : Cond.initialized y.cls ∈ lw_g) (w5 : Cond.code y yc mL ret ∈ lw_g)
    (hrc : rm.cells = 0) (hrs : rm.slots = 0) (hd : y.cls ≠ "java/lang/invoke/MethodHandle" ∧ y.cls ≠ "java/lang/invoke/VarHandle" ∧ (parseMethodDescriptor y.desc).map (fun d => d.parameters.length) = some As.length) (hR0 : (Nat.ble (rm.frames + 1) R.frames && Nat.ble (8 + (mL + 11) + rm.locals) R.locals && Nat.ble k R.cells && Nat.ble n R.slots) = true) (hst : (rest.map fun v => v.category).sum ≤ 8)
    (isC isR : List Nat) {wr : va_W} (hC : isC.map (fun i => ws[i]?) = wc.map some) (hR : isR.map (fun i => ws[i]?) = wr.map some) (hnC : va_nd isC = true) (hnR : va_nd isR = true) (hdis : isR.all (fun i => !isC.contains i) = true) (pm : List Nat) (hpm : va_nd pm = true) (ws' : va_W) (hw : pm.map (fun i => (wr ++ wo)[i]?) = ws'.map some)
    {st0 : List Value} (hst0 : st0 = As.reverse ++ rest) (st' : List Value) (hst' : r.toList ++ rest = st') (q : Nat) (hq : pc + 3 = q) (kk : G E p l e R s m args below meth c nL A k n Q ws' q L st') : G E p l e R s m args below meth c nL A k n Q ws pc L st0 := by
  subst hst'
  exact G_callSN C d hF w1 w2 w4 w5 hrc hrs hd hR0 hst isC isR hC hR hnC hnR hdis pm hpm (fun _ => ws') (fun _ => hw) hst0 q hq (fun _ _ => kk)
theorem G_sel (is : List Nat) (L' : List (Nat × Value)) (hs : is.map (fun i => L[i]?) = L'.map some) (kk : G E p l e R s m args below meth c nL A k n Q ws pc L' st) : G E p l e R s m args below meth c nL A k n Q ws pc L st := G_sub (fun q hq => by
  obtain ⟨j, hj⟩ := List.getElem?_of_mem hq
  have h1 : (is.map (fun i => L[i]?))[j]? = some (some q) := by rw [hs, List.getElem?_map, hj]; rfl
  rw [List.getElem?_map] at h1
  obtain ⟨i, -, hi⟩ := Option.map_eq_some_iff.mp h1
  exact List.mem_of_getElem? hi) kk
theorem G_while {X : Type} {Wf : X → va_W} {Lf : X → List (Nat × Value)} {Sf : X → List Value} (inv : X → Prop) (μ : X → Nat) (step : ∀ x, inv x → (∀ y, inv y → μ y < μ x → G E p l e R s m args below meth c nL A k n Q (Wf y) pc (Lf y) (Sf y)) → G E p l e R s m args below meth c nL A k n Q (Wf x) pc (Lf x) (Sf x)) (x0 : X) (h0 : inv x0) : G E p l e R s m args below meth c nL A k n Q (Wf x0) pc (Lf x0) (Sf x0) := by
  have key : ∀ (d : Nat) (x : X), μ x < d → inv x → G E p l e R s m args below meth c nL A k n Q (Wf x) pc (Lf x) (Sf x) := by
    intro d
    induction d with
    | zero => intro x h; exact absurd h (Nat.not_lt_zero _)
    | succ d ih => intro x h hi; exact step x hi (fun y hy hm => ih y (by omega) hy)
  exact key (μ x0 + 1) x0 (Nat.lt_succ_self _) h0
theorem G_join {X : Type} {pcj : Nat} {Wf : X → va_W} {Lf : X → List (Nat × Value)} {Sf : X → List Value} (inv : X → Prop) (kk : ∀ x, inv x → G E p l e R s m args below meth c nL A k n Q (Wf x) pcj (Lf x) (Sf x)) (main : (∀ x, inv x → G E p l e R s m args below meth c nL A k n Q (Wf x) pcj (Lf x) (Sf x)) → G E p l e R s m args below meth c nL A k n Q ws pc L st) : G E p l e R s m args below meth c nL A k n Q ws pc L st := main kk
theorem Fn_ofL {y : MethodName} {ret : Option FieldType} {rm : Room} {as : List Value} {wi : va_W} {S : Type} {post : S → Prop} {rv : S → Option Value} {wo : S → va_W} {mc ms : Nat} (hy : plainName y.cls = true) (ho : y.cls = own) (hlen : Nat.ble (lg_sl as).length nL = true) (L0 : List (Nat × Value)) (hL0 : lv_args 0 as = L0)
    (body : ∀ (p : Program) (e : Env) (s : State) (m : MethodId) (below : List Frame) (meth : Method) (c : Code) (A : Nat → Prop), gC E p rm s m as.toArray meth c cc nL own A → meth.sig.returnType = ret → meth.name = y.name →
      G E p l e rm s m as.toArray below meth c nL A 0 0 (MQ below (gQ E post rv wo A) as.toArray s mc ms A) wi 0 L0 []) : Fn l E y cc nL ret rm as wi post rv wo mc ms := by
  subst hL0
  exact Fn_of hy ho hlen body
end GR2
end
section
/-- a line as the reference has it (100 sort + 10 x + y), in the class's own number -/
def ce (v : Nat) : Nat := 256 * (v / 100) + 16 * (v / 10 % 10) + v % 10
theorem ce_sort {d v : Nat} (h : d = ce v) (hv : v < 400) : nI d >>> (nI 8 &&& 31) = nI (v / 100) := by
  subst h; revert v; decide +kernel
theorem ce_left {d v : Nat} (h : d = ce v) (hv : v < 400) : (nI d >>> (nI 4 &&& 31)) &&& nI 15 = nI (v / 10 % 10) := by
  subst h; revert v; decide +kernel
theorem ce_right {d v : Nat} (h : d = ce v) (hv : v < 400) : nI d &&& nI 15 = nI (v % 10) := by
  subst h; revert v; decide +kernel
theorem ce_mk : ∀ s, s < 4 → ∀ x, x < 10 → ∀ y, y < 10 → (nI s <<< (nI 8 &&& 31) ||| nI x <<< (nI 4 &&& 31)) ||| nI y = nI (ce (100 * s + 10 * x + y)) := by decide +kernel
end
section
theorem arrV_cong (cI : ClassId) {N : Nat} {f g : Nat → Value} (h : ∀ k, k < N → f k = g k) : arrV cI N f = arrV cI N g := by
  unfold arrV
  congr 2
  funext j
  exact h j.val j.isLt
theorem P_cong {D : va_G} {cl : List vw_C} {ws : va_W} {H : Heap} {A : Nat → Prop} (hP : va_P D cl ws H) (hD : va_D A ws) {q0 a n : Nat} {cA : ClassId} {f g : Nat → Int32} (ha : ws[q0]? = some (a, .inl (cA, n, .inl f))) (h : ∀ k, k < n → f k = g k) : va_P D cl (ws.set q0 (a, .inl (cA, n, .inl g))) H ∧ va_D A (ws.set q0 (a, .inl (cA, n, .inl g))) := by
  refine ⟨va_P.set hP hD ha ?_ (fun _ _ => rfl), va_D.set hD ha⟩
  have h1 : va_at D cl (a, .inl (cA, n, .inl f)) H := hP q0 _ ha
  show H[a]? = some (vp_cell cA (n, .inl g))
  have h2 : H[a]? = some (vp_cell cA (n, .inl f)) := h1
  rw [h2, vp_cell_i, vp_cell_i, arrV_cong cA (fun k hk => by rw [h k hk])]
section GR3
variable {E : gE} {p : Program} {l : Launch} {e : Env} {R : Room} {s : State} {m : MethodId} {args : Array Value} {below : List Frame} {meth : Method} {c : Code} {cc : ByteArray} {nL : Nat} {own : String} {A : Nat → Prop} {k n : Nat} {Q : State → Prop} {ws : va_W} {pc : Nat} {L : List (Nat × Value)} {st : List Value}
theorem G_cong (q0 : Nat) {a len : Nat} {f : Nat → Int32} (g : Nat → Int32) (ha : ws[q0]? = some (a, .inl (E.2.1, len, .inl f))) (h : ∀ j, j < len → f j = g j) (ws' : va_W) (hw : ws.set q0 (a, .inl (E.2.1, len, .inl g)) = ws') (kk : G E p l e R s m args below meth c nL A k n Q ws' pc L st) : G E p l e R s m args below meth c nL A k n Q ws pc L st := by
  subst hw
  exact fun H locs hP hD hS ls hl => kk H locs (P_cong hP hD ha h).1 (P_cong hP hD ha h).2 hS ls hl
theorem G_acopy (C : gC E p R s m args meth c cc nL own A) {j : Nat} (d : decode cc pc = .ok (.invokestatic j, 3)) (w1 : Cond.methodLink own j arraycopyName ∈ lw_g) (q0 q1 : Nat) {a0 a1 n0 n1 : Nat} {f g g' : Nat → Int32} (ha0 : ws[q0]? = some (a0, .inl (E.2.1, n0, .inl f))) (ha1 : ws[q1]? = some (a1, .inl (E.2.1, n1, .inl g))) {cn : Nat} (hb : cn < 2 ^ 31) (h4 : cn ≤ n0) (h5 : cn ≤ n1) (hg : va_cpy f g 0 0 cn = g') (hR : (Nat.ble 1 R.frames && Nat.ble 26 R.locals) = true) (hst : (st.map fun v => v.category).sum ≤ 8) (ws' : va_W) (hw : ws.set q1 (a1, .inl (E.2.1, n1, .inl g')) = ws') (q : Nat) (hq : pc + 3 = q) (kk : G E p l e R s m args below meth c nL A k n Q ws' q L st) : G E p l e R s m args below meth c nL A k n Q ws pc L (.int (nI cn) :: .int (nI 0) :: .ref a1 :: .int (nI 0) :: .ref a0 :: st) := by
  subst hq; subst hg; subst hw
  simp only [Bool.and_eq_true] at hR
  have r1 := Nat.le_of_ble_eq_true hR.1
  have r2 := Nat.le_of_ble_eq_true hR.2
  have hz : (nI 0).toNatClampNeg = 0 := nI_clamp (by decide)
  have hc : (nI cn).toNatClampNeg = cn := nI_clamp hb
  have hw : nativeFrameWords "java/lang/System" "arraycopy" 5 + 11 = 18 := by decide
  intro H locs hP hD hS ls hl
  refine va_copyi C.hx C.hb (C.hml.trans hl.1.symm) C.hown (C.hts _ w1) (C.hts _ wnat_arraycopy) (C.hts _ wt_arraycopy) (C.hts _ wn_System) C.hK.1 hP hD hS q0 q1 0 0 ha0 ha1 rfl rfl rfl (nI_pos (by decide)) (nI_pos (by decide)) (nI_pos hb) (by rw [hz, hc]; omega) (by rw [hz, hc]; omega) (fun _ _ => rfl) r1 (by rw [hw]; omega) d ?_
  intro H1 locs1 hP1 hD1 hS1
  rw [hz, hc] at hP1 hD1
  exact kk H1 locs1 hP1 hD1 hS1 ls hl
theorem G_mmin (C : gC E p R s m args meth c cc nL own A) {j : Nat} (d : decode cc pc = .ok (.invokestatic j, 3)) (w1 : Cond.methodLink own j Lib.Math.min.name ∈ lw_g) {x y : Nat} (hx : x < 2 ^ 31) (hy : y < 2 ^ 31) (hR : (Nat.ble 1 R.frames && Nat.ble 21 R.locals && Nat.ble k R.cells && Nat.ble n R.slots) = true) (hst : (st.map fun v => v.category).sum ≤ 8) (q : Nat) (hq : pc + 3 = q) (kk : G E p l e R s m args below meth c nL A k n Q ws q L (.int (nI (min x y)) :: st)) : G E p l e R s m args below meth c nL A k n Q ws pc L (.int (nI y) :: .int (nI x) :: st) := by
  subst hq
  simp only [Bool.and_eq_true] at hR
  obtain ⟨⟨⟨r1, r2⟩, r3⟩, r4⟩ := hR
  have r1 := Nat.le_of_ble_eq_true r1
  have r2 := Nat.le_of_ble_eq_true r2
  have he : (if nI y < nI x then nI y else nI x) = nI (min x y) := by
    by_cases h : y < x
    · rw [if_pos ((nI_ltI hy hx).mpr h), Nat.min_eq_right (by omega)]
    · rw [if_neg (fun h2 => h ((nI_ltI hy hx).mp h2)), Nat.min_eq_left (by omega)]
  intro H locs hP hD hS ls hl
  refine va_mmin C.hx C.hb (C.hml.trans hl.1.symm) C.hown (C.hts _ w1) (C.hts _ wt_Math_min) (C.hts _ wn_Math) (C.hts _ wc_Math_min) r1 (by omega) (Nat.le_of_ble_eq_true r3) (Nat.le_of_ble_eq_true r4) d ?_
  rw [he]
  exact kk H locs hP hD hS ls hl
theorem G_mmax (C : gC E p R s m args meth c cc nL own A) {j : Nat} (d : decode cc pc = .ok (.invokestatic j, 3)) (w1 : Cond.methodLink own j Lib.Math.max.name ∈ lw_g) {x y : Nat} (hx : x < 2 ^ 31) (hy : y < 2 ^ 31) (hR : (Nat.ble 1 R.frames && Nat.ble 21 R.locals && Nat.ble k R.cells && Nat.ble n R.slots) = true) (hst : (st.map fun v => v.category).sum ≤ 8) (q : Nat) (hq : pc + 3 = q) (kk : G E p l e R s m args below meth c nL A k n Q ws q L (.int (nI (max x y)) :: st)) : G E p l e R s m args below meth c nL A k n Q ws pc L (.int (nI y) :: .int (nI x) :: st) := by
  subst hq
  simp only [Bool.and_eq_true] at hR
  obtain ⟨⟨⟨r1, r2⟩, r3⟩, r4⟩ := hR
  have r1 := Nat.le_of_ble_eq_true r1
  have r2 := Nat.le_of_ble_eq_true r2
  have he : (if nI x < nI y then nI y else nI x) = nI (max x y) := by
    by_cases h : x < y
    · rw [if_pos ((nI_ltI hx hy).mpr h), Nat.max_eq_right (by omega)]
    · rw [if_neg (fun h2 => h ((nI_ltI hx hy).mp h2)), Nat.max_eq_left (by omega)]
  intro H locs hP hD hS ls hl
  refine va_mmax C.hx C.hb (C.hml.trans hl.1.symm) C.hown (C.hts _ w1) (C.hts _ wt_Math_max) (C.hts _ wn_Math) (C.hts _ wc_Math_max) r1 (by omega) (Nat.le_of_ble_eq_true r3) (Nat.le_of_ble_eq_true r4) d ?_
  rw [he]
  exact kk H locs hP hD hS ls hl
-- making
theorem G_objI (C : gC E p R s m args meth c cc nL own A) {j : Nat} (d : decode cc pc = .ok (.invokespecial j, 3)) (w1 : Cond.methodLink own j objectInit ∈ lw_g) {a : Nat} (hR : (Nat.ble 1 R.frames && Nat.ble 20 R.locals) = true) (hst : (st.map fun v => v.category).sum ≤ 8) (q : Nat) (hq : pc + 3 = q) (kk : G E p l e R s m args below meth c nL A k n Q ws q L st) : G E p l e R s m args below meth c nL A k n Q ws pc L (.ref a :: st) := by
  subst hq
  simp only [Bool.and_eq_true] at hR
  have r1 := Nat.le_of_ble_eq_true hR.1
  have r2 := Nat.le_of_ble_eq_true hR.2
  intro H locs hP hD hS ls hl
  refine W.objInit C.hx C.hb C.hown (C.hts _ w1) (C.hts _ wi_obj) (C.hts _ wc_obj) rfl (hl.1.trans C.hml.symm) rfl d r1 (by
    have h := lv_room (m := m) (pc := pc) (ls := ls) (rest := .ref a :: st) hst
    have e2 : (8 : Nat) + 12 ≤ R.locals := r2
    exact Nat.le_trans (Nat.add_le_add_right h 12) e2) ?_
  exact W.eq (g2 := F0 m (pc + 3) ls st) rfl (kk H locs hP hD hS ls hl)
theorem G_new (C : gC E p R s m args meth c cc nL own A) {j : Nat} (d : decode cc pc = .ok (.new j, 3)) {K : String} {T : u_T} {N : Nat} (hT : ∀ w ∈ u_ws K T N, w ∈ lw_g) {ty0 : Nat → FieldType} (hty : ∀ k, k < N → parseFieldDescriptor (T k).2.2.1 = some (ty0 k)) (w1 : Cond.classLink own j K ∈ lw_g) (w2 : Cond.instantiable K N ∈ lw_g) (w3 : Cond.initialized K ∈ lw_g) {ci : Nat} (hc : gcls[ci]? = some (K, T, N)) {fs : List Value} (hfs : ∀ j, j < N → defaultValue (ty0 j) = vp_V fs j) (hR : (Nat.ble (k + 1) R.cells && Nat.ble (n + N) R.slots) = true) (q : Nat) (hq : pc + 3 = q) (kk : ∀ a : Nat, G E p l e R s m args below meth c nL A (k + 1) (n + N) Q (ws ++ [(a, .inr (ci, fs))]) q L (.ref a :: st)) : G E p l e R s m args below meth c nL A k n Q ws pc L st := by
  subst hq
  simp only [Bool.and_eq_true] at hR
  intro H locs hP hD hS ls hl
  exact va_new C.hx C.hb C.hts hT ty0 hty C.hown (C.hts _ w1) (C.hts _ w2) (C.hts _ w3) C.hK.1 hP hD hS C.hA hc hfs (Nat.le_of_ble_eq_true hR.1) (Nat.le_of_ble_eq_true hR.2) d (fun q0 H1 hP1 hD1 hS1 => kk q0 H1 locs hP1 hD1 hS1 ls hl)
theorem G_newa (C : gC E p R s m args meth c cc nL own A) (d : decode cc pc = .ok (.newarray .int, 2)) {N : Nat} (hN : N < 1000) (hR : (Nat.ble (k + 1) R.cells && Nat.ble (n + N) R.slots) = true) (q : Nat) (hq : pc + 2 = q) (kk : ∀ a : Nat, G E p l e R s m args below meth c nL A (k + 1) (n + N) Q (ws ++ [(a, .inl (E.2.1, N, .inl (aN (fun _ => 0))))]) q L (.ref a :: st)) : G E p l e R s m args below meth c nL A k n Q ws pc L (.int (nI N) :: st) := by
  subst hq
  simp only [Bool.and_eq_true] at hR
  intro H locs hP hD hS ls hl
  refine va_newa (atype := .int) (ty := .int) (a0 := (N, .inl (aN (fun _ => 0)))) (N' := N) C.hx C.hb (C.hts _ wa_int) rfl C.hK.1 hP hD hS C.hA (fun cA => rfl) (nI_pos (by omega)) (nI_clamp (by omega)) (by show N * 4 ≤ 536870912; omega) (Nat.le_of_ble_eq_true hR.1) (Nat.le_of_ble_eq_true hR.2) d ?_
  intro q0 cA H1 hK1 hP1 hD1 hS1
  have e1 : s.vm.findClass ("[" ++ FieldType.int.toString) = some cA := (hK1.2 2 (cA, .int) rfl).2
  have e2 : s.vm.findClass ("[" ++ FieldType.int.toString) = some E.2.1 := (C.hK.1.2 0 (E.2.1, .int) rfl).2
  have e3 : cA = E.2.1 := Option.some.inj (e1.symm.trans e2)
  subst e3
  exact kk q0 H1 locs hP1 hD1 hS1 ls hl
theorem G_newq (C : gC E p R s m args meth c cc nL own A) {j : Nat} (d : decode cc pc = .ok (.anewarray j, 3)) (w1 : Cond.classLink own j RX2 ∈ lw_g) {N : Nat} (hN : N < 1000) (hR : (Nat.ble (k + 1) R.cells && Nat.ble (n + N) R.slots) = true) (q : Nat) (hq : pc + 3 = q) (kk : ∀ a : Nat, G E p l e R s m args below meth c nL A (k + 1) (n + N) Q (ws ++ [(a, .inl (E.2.2, N, .inr (.inr (.inr (.inr (fun _ => none))))))]) q L (.ref a :: st)) : G E p l e R s m args below meth c nL A k n Q ws pc L (.int (nI N) :: st) := by
  subst hq
  simp only [Bool.and_eq_true] at hR
  intro H locs hP hD hS ls hl
  refine va_newq (N' := N) C.hx C.hb C.hown (C.hts _ w1) C.hK.2.2 C.hK.1 hP hD hS C.hA (nI_pos (by omega)) (nI_clamp (by omega)) (by omega) (Nat.le_of_ble_eq_true hR.1) (Nat.le_of_ble_eq_true hR.2) d ?_
  intro q0 cA H1 hK1 hP1 hD1 hS1
  obtain ⟨_, _, -, -, -, e1⟩ := (hK1.2 2 (cA, .object RX2) rfl).2
  obtain ⟨_, _, -, -, -, e2⟩ := (C.hK.1.2 1 (E.2.2, .object RX2) rfl).2
  have e3 : cA = E.2.2 := Option.some.inj (e1.symm.trans e2)
  subst e3
  exact kk q0 H1 locs hP1 hD1 hS1 ls hl
theorem G_callI {mc ms : Nat} {S : Type} {post : S → Prop} {wo : S → va_W} {b : Nat} {wc : va_W} {rest : List Value} {y : MethodName} {yc : ByteArray} {mL : Nat} {rm : Room} (C : gC E p R s m args meth c cc nL own A) {j : Nat} (d : decode cc pc = .ok (.invokespecial j, 3))
    (hF : Fn l E y yc mL none rm [.ref b] wc post (fun _ => none) wo mc ms) (w1 : Cond.methodLink own j y ∈ lw_g) (w2 : Cond.instanceMethod y ∈ lw_g) (w4 : Cond.initialized y.cls ∈ lw_g) (w5 : Cond.code y yc mL none ∈ lw_g) (hin : y.name = "<init>")
    (hrc : rm.cells = mc) (hrs : rm.slots = ms) (hd : y.cls ≠ "java/lang/invoke/MethodHandle" ∧ y.cls ≠ "java/lang/invoke/VarHandle" ∧ (parseMethodDescriptor y.desc).map (fun d => d.parameters.length) = some 0) (hR0 : (Nat.ble (rm.frames + 1) R.frames && Nat.ble (8 + (mL + 11) + rm.locals) R.locals && Nat.ble (k + mc) R.cells && Nat.ble (n + ms) R.slots) = true) (hst : (rest.map fun v => v.category).sum ≤ 8)
    (isC isR : List Nat) {wr : va_W} (hC : isC.map (fun i => ws[i]?) = wc.map some) (hR : isR.map (fun i => ws[i]?) = wr.map some) (hnC : va_nd isC = true) (hnR : va_nd isR = true) (hdis : isR.all (fun i => !isC.contains i) = true) (pm : List Nat) (hpm : va_nd pm = true) (ws' : S → va_W) (hw : ∀ u, pm.map (fun i => (wr ++ wo u)[i]?) = (ws' u).map some)
    (q : Nat) (hq : pc + 3 = q) (kk : ∀ u : S, post u → G E p l e R s m args below meth c nL A (k + mc) (n + ms) Q (ws' u) q L rest) : G E p l e R s m args below meth c nL A k n Q ws pc L (.ref b :: rest) := by
  simp only [Bool.and_eq_true] at hR0
  obtain ⟨⟨⟨r1, r2⟩, r3⟩, r4⟩ := hR0
  refine G_core (y := y) (as := [.ref b]) (rv := fun _ => none) (rest := rest) (mc := mc) (ms := ms) (post := post) C (fun H locs ls hP hD hl => ?_) isC isR hC hR hnC hnR hdis pm hpm ws' hw q hq kk
  exact va_runI (As := []) (rest := rest) (b := b) ⟨C.hx, C.hb, C.hml, C.hown, C.hts⟩ (hF H.size) ⟨callB_of 0 C.hts (lw_gc w5) rfl hrc hrs (C.hts _ w4) (C.hts _ w1) hd ⟨Nat.le_of_ble_eq_true r1, Nat.le_of_ble_eq_true r2⟩, hin, C.hts _ w2⟩ ⟨gP.blind, fun U hU hW => ⟨rfl, by rw [hU], by rw [hU]; exact hP, gK.warm hW C.hK, hD⟩⟩ rfl rfl hl.1 rfl (lv_room hst) d ⟨Nat.le_of_ble_eq_true r3, Nat.le_of_ble_eq_true r4⟩
theorem G_callIN {mc ms : Nat} {S : Type} {post : S → Prop} {wo : S → va_W} {b : Nat} {wc : va_W} {rest : List Value} {y : MethodName} {host : String} {yc : ByteArray} {mL : Nat} {rm : Room} (C : gC E p R s m args meth c cc nL own A) {j : Nat} (d : decode cc pc = .ok (.invokespecial j, 3))
    (hF : Fn l E y yc mL none rm [.ref b] wc post (fun _ => none) wo mc ms) (w1 : (own, j, y, host) ∈ lw_nest) (w2 : Cond.instanceMethod y ∈ lw_g) (w4 : Cond.initialized y.cls ∈ lw_g) (w5 : Cond.code y yc mL none ∈ lw_g) (hin : y.name = "<init>")
    (hrc : rm.cells = mc) (hrs : rm.slots = ms) (hd : y.cls ≠ "java/lang/invoke/MethodHandle" ∧ y.cls ≠ "java/lang/invoke/VarHandle" ∧ (parseMethodDescriptor y.desc).map (fun d => d.parameters.length) = some 0) (hR0 : (Nat.ble (rm.frames + 1) R.frames && Nat.ble (8 + (mL + 11) + rm.locals) R.locals && Nat.ble (k + mc) R.cells && Nat.ble (n + ms) R.slots) = true) (hst : (rest.map fun v => v.category).sum ≤ 8)
    (isC isR : List Nat) {wr : va_W} (hC : isC.map (fun i => ws[i]?) = wc.map some) (hR : isR.map (fun i => ws[i]?) = wr.map some) (hnC : va_nd isC = true) (hnR : va_nd isR = true) (hdis : isR.all (fun i => !isC.contains i) = true) (pm : List Nat) (hpm : va_nd pm = true) (ws' : S → va_W) (hw : ∀ u, pm.map (fun i => (wr ++ wo u)[i]?) = (ws' u).map some)
    (q : Nat) (hq : pc + 3 = q) (kk : ∀ u : S, post u → G E p l e R s m args below meth c nL A (k + mc) (n + ms) Q (ws' u) q L rest) : G E p l e R s m args below meth c nL A k n Q ws pc L (.ref b :: rest) := by
  simp only [Bool.and_eq_true] at hR0
  obtain ⟨⟨⟨r1, r2⟩, r3⟩, r4⟩ := hR0
  refine G_core (y := y) (as := [.ref b]) (rv := fun _ => none) (rest := rest) (mc := mc) (ms := ms) (post := post) C (fun H locs ls hP hD hl => ?_) isC isR hC hR hnC hnR hdis pm hpm ws' hw q hq kk
  exact va_runIN (As := []) (rest := rest) (b := b) (host := host) ⟨C.hx, C.hb, C.hml, C.hown, C.hts⟩ (hF H.size) ⟨va_cnB 0 C.hts (lw_gc w5) rfl hrc hrs (C.hK.2.1 _ w1) (C.hts _ w4) hd ⟨Nat.le_of_ble_eq_true r1, Nat.le_of_ble_eq_true r2⟩, hin, C.hts _ w2⟩ ⟨gP.blind, fun U hU hW => ⟨rfl, by rw [hU], by rw [hU]; exact hP, gK.warm hW C.hK, hD⟩⟩ rfl rfl hl.1 rfl (lv_room hst) d ⟨Nat.le_of_ble_eq_true r3, Nat.le_of_ble_eq_true r4⟩
end GR3
end
section
-- rows moved inside a row
def sh1 {α : Type} (f : Nat → α) (i k : Nat) : Nat → α := fun j => if i ≤ j ∧ j < k then f (j + 1) else f j
def sh2 {α : Type} (f : Nat → α) (i k : Nat) : Nat → α := fun j => if k < j ∧ j ≤ i then f (j - 1) else f j
/-- place i comes to place p -/
def mvT {α : Type} (f : Nat → α) (i p : Nat) : Nat → α := fun j => if j = p then f i else if i ≤ j ∧ j < p then f (j + 1) else if p < j ∧ j ≤ i then f (j - 1) else f j
theorem sh1_0 {α : Type} (f : Nat → α) (i k : Nat) (h : k ≤ i) : sh1 f i k = f := by
  funext j; unfold sh1; rw [if_neg (by omega)]
theorem sh2_0 {α : Type} (f : Nat → α) (i k : Nat) (h : i ≤ k) : sh2 f i k = f := by
  funext j; unfold sh2; rw [if_neg (by omega)]
theorem sh1_at {α : Type} (f : Nat → α) (i k : Nat) : sh1 f i k (k + 1) = f (k + 1) := by unfold sh1; rw [if_neg (by omega)]
theorem sh2_at {α : Type} (f : Nat → α) (i k : Nat) (h : 0 < k) : sh2 f i k (k - 1) = f (k - 1) := by unfold sh2; rw [if_neg (by omega)]
theorem sh1_s {α : Type} (f : Nat → α) (i k : Nat) (h : i ≤ k) : va_up (sh1 f i k) k (sh1 f i k (k + 1)) = sh1 f i (k + 1) := by
  funext j; rw [sh1_at]; unfold va_up sh1
  by_cases hj : j = k
  · subst hj; rw [if_pos rfl, if_pos (by omega)]
  · rw [if_neg hj]
    by_cases h2 : i ≤ j ∧ j < k
    · rw [if_pos h2, if_pos (by omega)]
    · rw [if_neg h2, if_neg (by omega)]
theorem sh2_s {α : Type} (f : Nat → α) (i k : Nat) (h : k ≤ i) (h0 : 0 < k) : va_up (sh2 f i k) k (sh2 f i k (k - 1)) = sh2 f i (k - 1) := by
  funext j; rw [sh2_at f i k h0]; unfold va_up sh2
  by_cases hj : j = k
  · subst hj; rw [if_pos rfl, if_pos (by omega)]
  · rw [if_neg hj]
    by_cases h2 : k < j ∧ j ≤ i
    · rw [if_pos h2, if_pos (by omega)]
    · rw [if_neg h2, if_neg (by omega)]
theorem mvT_1 {α : Type} (f : Nat → α) (i p : Nat) (h : i ≤ p) : va_up (sh1 f i p) p (f i) = mvT f i p := by
  funext j; unfold va_up sh1 mvT
  by_cases hj : j = p
  · rw [if_pos hj, if_pos hj]
  · rw [if_neg hj, if_neg hj]
    by_cases h2 : i ≤ j ∧ j < p
    · rw [if_pos h2, if_pos h2]
    · rw [if_neg h2, if_neg h2, if_neg (by omega)]
theorem mvT_2 {α : Type} (f : Nat → α) (i p : Nat) (h : p ≤ i) : va_up (sh2 f i p) p (f i) = mvT f i p := by
  funext j; unfold va_up sh2 mvT
  by_cases hj : j = p
  · rw [if_pos hj, if_pos hj]
  · rw [if_neg hj, if_neg hj, if_neg (show ¬ (i ≤ j ∧ j < p) by omega)]
def cpN (f g : Nat → Nat) (n : Nat) : Nat → Nat := fun k => if k < n then f k else g k
theorem cpN_cpy (f g : Nat → Nat) (n : Nat) : va_cpy (aN f) (aN g) 0 0 n = aN (cpN f g n) := by
  funext k; unfold va_cpy aN cpN
  by_cases h : k < n
  · rw [if_pos ⟨Nat.zero_le _, by omega⟩, if_pos h]; simp
  · rw [if_neg (by omega), if_neg h]
theorem aN_c (v : Nat) : aN (fun _ => v) = fun _ => nI v := rfl
-- lines as texts
def ll (v : Nat) : Nat := if v / 100 = 1 then 4 else 5
def lb (v k : Nat) : Nat :=
  if v / 100 = 0 then [97 + v / 10 % 10, 61, 38, 97 + v % 10, 59].getD k 0
  else if v / 100 = 1 then [97 + v / 10 % 10, 61, 97 + v % 10, 59].getD k 0
  else if v / 100 = 2 then [97 + v / 10 % 10, 61, 42, 97 + v % 10, 59].getD k 0
  else [42, 97 + v / 10 % 10, 61, 97 + v % 10, 59].getD k 0
def wlen (ln : Nat → Nat) : Nat → Nat
  | 0 => 0
  | i + 1 => wlen ln i + ll (ln i)
def tb (ln : Nat → Nat) : Nat → Nat → Option Nat
  | 0, _ => none
  | i + 1, k => if k < wlen ln i then tb ln i k else if k < wlen ln (i + 1) then some (lb (ln i) (k - wlen ln i)) else none
theorem ll_le (v : Nat) : 4 ≤ ll v ∧ ll v ≤ 5 := by unfold ll; by_cases h : v / 100 = 1 <;> simp [h]
theorem wlen_le (ln : Nat → Nat) : ∀ i, wlen ln i ≤ 5 * i
  | 0 => Nat.le_refl _
  | i + 1 => by have h := wlen_le ln i; have h2 := ll_le (ln i); simp only [wlen]; omega
theorem wlen_mono (ln : Nat → Nat) (i : Nat) : ∀ j, wlen ln i ≤ wlen ln (i + j)
  | 0 => Nat.le_refl _
  | j + 1 => by have h := wlen_mono ln i j; show _ ≤ wlen ln (i + j) + _; omega
theorem tb_found (ln : Nat → Nat) (i k : Nat) (h1 : wlen ln i ≤ k) (h2 : k < wlen ln (i + 1)) : ∀ j, tb ln (i + 1 + j) k = some (lb (ln i) (k - wlen ln i))
  | 0 => by simp only [Nat.add_zero, tb]; rw [if_neg (by omega), if_pos h2]
  | j + 1 => by
    have h := tb_found ln i k h1 h2 j
    have h3 := wlen_mono ln (i + 1) j
    show tb ln (i + 1 + j + 1) k = _
    simp only [tb]
    rw [if_pos (by omega), h]
theorem tb_none (ln : Nat → Nat) (k : Nat) : ∀ i, wlen ln i ≤ k → tb ln i k = none
  | 0, _ => rfl
  | i + 1, h => by
    have h2 : wlen ln i ≤ wlen ln (i + 1) := wlen_mono ln i 1
    simp only [tb]
    rw [if_neg (by omega), if_neg (by omega)]
/-- the lines: n of them, in the class's numbers -/
def lok (n : Nat) (ln Cd : Nat → Nat) : Prop := n ≤ 14 ∧ ∀ i, i < n → Cd i = ce (ln i) ∧ ln i < 400
theorem lok.c {n : Nat} {ln Cd : Nat → Nat} (h : lok n ln Cd) {i : Nat} (hi : i < n) : Cd i = ce (ln i) := (h.2 i hi).1
theorem lok.v {n : Nat} {ln Cd : Nat → Nat} (h : lok n ln Cd) {i : Nat} (hi : i < n) : ln i < 400 := (h.2 i hi).2
theorem lok.n {n : Nat} {ln Cd : Nat → Nat} (h : lok n ln Cd) : n ≤ 14 := h.1
end
section
set_option maxHeartbeats 4000000 in
set_option maxRecDepth 100000 in
theorem c_X7_within (l : Launch) (E : gE) (v lo hi : Int32)  : FD l E yX7_within cX7_within 3 (some .boolean) { frames := 0, cells := 0, slots := 0, locals := 0 } [.int v, .int lo, .int hi] [] (some (.int (bI (decide (lo.toInt ≤ v.toInt ∧ v.toInt ≤ hi.toInt))))) [] := by
  refine Fn_ofL (own := RX7) (by decide) rfl rfl [(0, .int v), (1, .int lo), (2, .int hi)] rfl ?_
  intro p e s m below meth c A C hr hnm
  refine G_iload_n C dX7_within_0 rfl 1 rfl ?_
  refine G_iload_n C dX7_within_1 rfl 2 rfl ?_
  refine G_icmp_lt C dX7_within_2 14 rfl 5 rfl (i_lt _ _) (fun h_1 => ?_) (fun h_1 => ?_)
  · refine G_iconst C dX7_within_14 (v := nI 0) rfl 15 rfl ?_
    exact G_iret C hr dX7_within_15 (by decide) () trivial (bI_r0 (by omega)) rfl
  · refine G_iload_n C dX7_within_5 rfl 6 rfl ?_
    refine G_iload_n C dX7_within_6 rfl 7 rfl ?_
    refine G_icmp_gt C dX7_within_7 14 rfl 10 rfl (i_lt _ _) (fun h_2 => ?_) (fun h_2 => ?_)
    · refine G_iconst C dX7_within_14 (v := nI 0) rfl 15 rfl ?_
      exact G_iret C hr dX7_within_15 (by decide) () trivial (bI_r0 (by omega)) rfl
    · refine G_iconst C dX7_within_10 (v := nI 1) rfl 11 rfl ?_
      refine G_goto C dX7_within_11 15 rfl ?_
      exact G_iret C hr dX7_within_15 (by decide) () trivial (bI_r1 (by omega)) rfl

set_option maxHeartbeats 4000000 in
set_option maxRecDepth 100000 in
theorem c_X6_below (l : Launch) (E : gE) (v : Int32) (b : Nat) (hb : b < 2 ^ 31) : FD l E yX6_below cX6_below 2 (some .boolean) { frames := 0, cells := 0, slots := 0, locals := 0 } [.int v, .int (nI b)] [] (some (.int (bI (decide (0 ≤ v.toInt ∧ v.toInt < b))))) [] := by
  refine Fn_ofL (own := RX6) (by decide) rfl rfl [(0, .int v), (1, .int (nI b))] rfl ?_
  intro p e s m below meth c A C hr hnm
  refine G_iload_n C dX6_below_0 rfl 1 rfl ?_
  refine G_if_lt C dX6_below_1 13 rfl 4 rfl (i_lt0 _) (fun h_1 => ?_) (fun h_1 => ?_)
  · refine G_iconst C dX6_below_13 (v := nI 0) rfl 14 rfl ?_
    exact G_iret C hr dX6_below_14 (by decide) () trivial (bI_r0 (by omega)) rfl
  · refine G_iload_n C dX6_below_4 rfl 5 rfl ?_
    refine G_iload_n C dX6_below_5 rfl 6 rfl ?_
    refine G_icmp_ge C dX6_below_6 13 rfl 9 rfl (i_Nle _ (by omega)) (fun h_2 => ?_) (fun h_2 => ?_)
    · refine G_iconst C dX6_below_13 (v := nI 0) rfl 14 rfl ?_
      exact G_iret C hr dX6_below_14 (by decide) () trivial (bI_r0 (by omega)) rfl
    · refine G_iconst C dX6_below_9 (v := nI 1) rfl 10 rfl ?_
      refine G_goto C dX6_below_10 14 rfl ?_
      exact G_iret C hr dX6_below_14 (by decide) () trivial (bI_r1 (by omega)) rfl

set_option maxHeartbeats 4000000 in
set_option maxRecDepth 100000 in
theorem c_X6_isName (l : Launch) (E : gE) (v : Int32)  : FD l E yX6_isName cX6_isName 1 (some .boolean) { frames := 1, cells := 0, slots := 0, locals := 21 } [.int v] [] (some (.int (bI (inb v 10)))) [] := by
  refine Fn_ofL (own := RX6) (by decide) rfl rfl [(0, .int v)] rfl ?_
  intro p e s m below meth c A C hr hnm
  refine G_iload_n C dX6_isName_0 rfl 1 rfl ?_
  refine G_bipush C dX6_isName_1 (v := nI 10) (by decide) 3 rfl ?_
  refine G_cS C dX6_isName_3 (c_X6_below l E v 10 (by first | assumption | omega)) wm_X6_51 wt_X6_below wn_X6 wc_X6_below rfl rfl ⟨by decide, by decide, rfl⟩ rfl (Nat.le_of_ble_eq_true rfl) [] [] (wr := []) rfl rfl rfl rfl rfl [] rfl [] rfl rfl [.int (bI (decide (0 ≤ v.toInt ∧ v.toInt < 10)))] rfl 6 rfl ?_
  exact G_iret C hr dX6_isName_6 (bI_nar _) () trivial rfl rfl

set_option maxHeartbeats 4000000 in
set_option maxRecDepth 100000 in
theorem c_X6_isRounds (l : Launch) (E : gE) (v : Int32)  : FD l E yX6_isRounds cX6_isRounds 1 (some .boolean) { frames := 1, cells := 0, slots := 0, locals := 21 } [.int v] [] (some (.int (bI (inb v 10)))) [] := by
  refine Fn_ofL (own := RX6) (by decide) rfl rfl [(0, .int v)] rfl ?_
  intro p e s m below meth c A C hr hnm
  refine G_iload_n C dX6_isRounds_0 rfl 1 rfl ?_
  refine G_bipush C dX6_isRounds_1 (v := nI 10) (by decide) 3 rfl ?_
  refine G_cS C dX6_isRounds_3 (c_X6_below l E v 10 (by first | assumption | omega)) wm_X6_51 wt_X6_below wn_X6 wc_X6_below rfl rfl ⟨by decide, by decide, rfl⟩ rfl (Nat.le_of_ble_eq_true rfl) [] [] (wr := []) rfl rfl rfl rfl rfl [] rfl [] rfl rfl [.int (bI (decide (0 ≤ v.toInt ∧ v.toInt < 10)))] rfl 6 rfl ?_
  exact G_iret C hr dX6_isRounds_6 (bI_nar _) () trivial rfl rfl

set_option maxHeartbeats 4000000 in
set_option maxRecDepth 100000 in
theorem c_X6_asNumber (l : Launch) (E : gE) (b : Bool)  : FD l E yX6_asNumber cX6_asNumber 1 (some .int) { frames := 0, cells := 0, slots := 0, locals := 0 } [.int (bI b)] [] (some (.int (bI b))) [] := by
  refine Fn_ofL (own := RX6) (by decide) rfl rfl [(0, .int (bI b))] rfl ?_
  intro p e s m below meth c A C hr hnm
  refine G_iload_n C dX6_asNumber_0 rfl 1 rfl ?_
  refine G_if_eq C dX6_asNumber_1 8 rfl 4 rfl (bI_0 _) (fun h_1 => ?_) (fun h_1 => ?_)
  · refine G_iconst C dX6_asNumber_8 (v := nI 0) rfl 9 rfl ?_
    exact G_iret C hr dX6_asNumber_9 rfl () trivial (bI_rf (by simp [*])) rfl
  · refine G_iconst C dX6_asNumber_4 (v := nI 1) rfl 5 rfl ?_
    refine G_goto C dX6_asNumber_5 9 rfl ?_
    exact G_iret C hr dX6_asNumber_9 rfl () trivial (bI_rt (by simp [*])) rfl

set_option maxHeartbeats 4000000 in
set_option maxRecDepth 100000 in
theorem c_X6_bit (l : Launch) (E : gE) (x : Nat) (hx : x < 31) : FD l E yX6_bit cX6_bit 1 (some .int) { frames := 0, cells := 0, slots := 0, locals := 0 } [.int (nI x)] [] (some (.int (nI (2 ^ x)))) [] := by
  refine Fn_ofL (own := RX6) (by decide) rfl rfl [(0, .int (nI x))] rfl ?_
  intro p e s m below meth c A C hr hnm
  refine G_iconst C dX6_bit_0 (v := nI 1) rfl 1 rfl ?_
  refine G_iload_n C dX6_bit_1 rfl 2 rfl ?_
  refine G_ishl C dX6_bit_2 (v := nI (2 ^ x)) (nI_bit _ (by omega)) 3 rfl ?_
  exact G_iret C hr dX6_bit_3 rfl () trivial rfl rfl

set_option maxHeartbeats 4000000 in
set_option maxRecDepth 100000 in
theorem c_X2_size (l : Launch) (E : gE) (o a n : Nat) (Cd : Nat → Nat)  : FD l E yX2_size cX2_size 1 (some .int) { frames := 0, cells := 0, slots := 0, locals := 0 } [.ref o] [(o, .inr (2, [.ref a, .int (nI n)])), (a, .inl (E.2.1, 14, .inl (aN Cd)))] (some (.int (nI n))) [(o, .inr (2, [.ref a, .int (nI n)])), (a, .inl (E.2.1, 14, .inl (aN Cd)))] := by
  refine Fn_ofL (own := RX2) (by decide) rfl rfl [(0, .ref o)] rfl ?_
  intro p e s m below meth c A C hr hnm
  refine G_aload_n C dX2_size_0 rfl 1 rfl ?_
  refine G_getf C dX2_size_1 wF_X2 wf_X2_15 (f := 1) (by decide) (ci := 2) rfl 0 rfl rfl 4 rfl ?_
  exact G_iret C hr dX2_size_4 rfl () trivial rfl rfl

set_option maxHeartbeats 4000000 in
set_option maxRecDepth 100000 in
theorem c_X2_sortAt (l : Launch) (E : gE) (o a n : Nat) (Cd : Nat → Nat) (i v : Nat) (hi : i < 14) (hc : Cd i = ce v) (hv : v < 400) : FD l E yX2_sortAt cX2_sortAt 2 (some .int) { frames := 0, cells := 0, slots := 0, locals := 0 } [.ref o, .int (nI i)] [(o, .inr (2, [.ref a, .int (nI n)])), (a, .inl (E.2.1, 14, .inl (aN Cd)))] (some (.int (nI (v / 100)))) [(o, .inr (2, [.ref a, .int (nI n)])), (a, .inl (E.2.1, 14, .inl (aN Cd)))] := by
  refine Fn_ofL (own := RX2) (by decide) rfl rfl [(0, .ref o), (1, .int (nI i))] rfl ?_
  intro p e s m below meth c A C hr hnm
  refine G_aload_n C dX2_sortAt_0 rfl 1 rfl ?_
  refine G_getf C dX2_sortAt_1 wF_X2 wf_X2_9 (f := 0) (by decide) (ci := 2) rfl 0 rfl rfl 4 rfl ?_
  refine G_iload_n C dX2_sortAt_4 rfl 5 rfl ?_
  refine G_ialdN C dX2_sortAt_5 1 rfl rfl (by omega) 6 rfl ?_
  refine G_bipush C dX2_sortAt_6 (v := nI 8) (by decide) 8 rfl ?_
  refine G_ishr C dX2_sortAt_8 (v := nI (v / 100)) (ce_sort hc hv) 9 rfl ?_
  exact G_iret C hr dX2_sortAt_9 rfl () trivial rfl rfl

set_option maxHeartbeats 4000000 in
set_option maxRecDepth 100000 in
theorem c_X2_leftAt (l : Launch) (E : gE) (o a n : Nat) (Cd : Nat → Nat) (i v : Nat) (hi : i < 14) (hc : Cd i = ce v) (hv : v < 400) : FD l E yX2_leftAt cX2_leftAt 2 (some .int) { frames := 0, cells := 0, slots := 0, locals := 0 } [.ref o, .int (nI i)] [(o, .inr (2, [.ref a, .int (nI n)])), (a, .inl (E.2.1, 14, .inl (aN Cd)))] (some (.int (nI (v / 10 % 10)))) [(o, .inr (2, [.ref a, .int (nI n)])), (a, .inl (E.2.1, 14, .inl (aN Cd)))] := by
  refine Fn_ofL (own := RX2) (by decide) rfl rfl [(0, .ref o), (1, .int (nI i))] rfl ?_
  intro p e s m below meth c A C hr hnm
  refine G_aload_n C dX2_leftAt_0 rfl 1 rfl ?_
  refine G_getf C dX2_leftAt_1 wF_X2 wf_X2_9 (f := 0) (by decide) (ci := 2) rfl 0 rfl rfl 4 rfl ?_
  refine G_iload_n C dX2_leftAt_4 rfl 5 rfl ?_
  refine G_ialdN C dX2_leftAt_5 1 rfl rfl (by omega) 6 rfl ?_
  refine G_iconst C dX2_leftAt_6 (v := nI 4) rfl 7 rfl ?_
  refine G_ishr C dX2_leftAt_7 (v := (nI (Cd i)) >>> ((nI 4) &&& 31)) rfl 8 rfl ?_
  refine G_bipush C dX2_leftAt_8 (v := nI 15) (by decide) 10 rfl ?_
  refine G_iand C dX2_leftAt_10 (v := nI (v / 10 % 10)) (ce_left hc hv) 11 rfl ?_
  exact G_iret C hr dX2_leftAt_11 rfl () trivial rfl rfl

set_option maxHeartbeats 4000000 in
set_option maxRecDepth 100000 in
theorem c_X2_rightAt (l : Launch) (E : gE) (o a n : Nat) (Cd : Nat → Nat) (i v : Nat) (hi : i < 14) (hc : Cd i = ce v) (hv : v < 400) : FD l E yX2_rightAt cX2_rightAt 2 (some .int) { frames := 0, cells := 0, slots := 0, locals := 0 } [.ref o, .int (nI i)] [(o, .inr (2, [.ref a, .int (nI n)])), (a, .inl (E.2.1, 14, .inl (aN Cd)))] (some (.int (nI (v % 10)))) [(o, .inr (2, [.ref a, .int (nI n)])), (a, .inl (E.2.1, 14, .inl (aN Cd)))] := by
  refine Fn_ofL (own := RX2) (by decide) rfl rfl [(0, .ref o), (1, .int (nI i))] rfl ?_
  intro p e s m below meth c A C hr hnm
  refine G_aload_n C dX2_rightAt_0 rfl 1 rfl ?_
  refine G_getf C dX2_rightAt_1 wF_X2 wf_X2_9 (f := 0) (by decide) (ci := 2) rfl 0 rfl rfl 4 rfl ?_
  refine G_iload_n C dX2_rightAt_4 rfl 5 rfl ?_
  refine G_ialdN C dX2_rightAt_5 1 rfl rfl (by omega) 6 rfl ?_
  refine G_bipush C dX2_rightAt_6 (v := nI 15) (by decide) 8 rfl ?_
  refine G_iand C dX2_rightAt_8 (v := nI (v % 10)) (ce_right hc hv) 9 rfl ?_
  exact G_iret C hr dX2_rightAt_9 rfl () trivial rfl rfl
end
section
def tI : Option Nat → Int32
  | none => -5
  | some b => nI b
set_option maxHeartbeats 4000000 in
set_option maxRecDepth 100000 in
theorem c_X2_append (l : Launch) (E : gE) (o a n : Nat) (Cd : Nat → Nat) (sr x y : Nat) (hn : n < 14) (hs : sr < 4) (hx : x < 10) (hy : y < 10) : FD l E yX2_append cX2_append 4 none { frames := 0, cells := 0, slots := 0, locals := 0 } [.ref o, .int (nI sr), .int (nI x), .int (nI y)] [(o, .inr (2, [.ref a, .int (nI n)])), (a, .inl (E.2.1, 14, .inl (aN Cd)))] none [(o, .inr (2, [.ref a, .int (nI (n + 1))])), (a, .inl (E.2.1, 14, .inl (aN (va_up Cd n (ce (100 * sr + 10 * x + y))))))] := by
  refine Fn_ofL (own := RX2) (by decide) rfl rfl [(0, .ref o), (1, .int (nI sr)), (2, .int (nI x)), (3, .int (nI y))] rfl ?_
  intro p e s m below meth c A C hr hnm
  refine G_aload_n C dX2_append_0 rfl 1 rfl ?_
  refine G_getf C dX2_append_1 wF_X2 wf_X2_15 (f := 1) (by decide) (ci := 2) rfl 0 rfl rfl 4 rfl ?_
  refine G_bipush C dX2_append_4 (v := nI 14) (by decide) 6 rfl ?_
  refine G_icmp_ge_f C dX2_append_6 38 rfl 9 rfl (by rw [nI_leI (by omega) (by omega)]; omega) ?_
  refine G_aload_n C dX2_append_9 rfl 10 rfl ?_
  refine G_getf C dX2_append_10 wF_X2 wf_X2_9 (f := 0) (by decide) (ci := 2) rfl 0 rfl rfl 13 rfl ?_
  refine G_aload_n C dX2_append_13 rfl 14 rfl ?_
  refine G_getf C dX2_append_14 wF_X2 wf_X2_15 (f := 1) (by decide) (ci := 2) rfl 0 rfl rfl 17 rfl ?_
  refine G_iload_n C dX2_append_17 rfl 18 rfl ?_
  refine G_bipush C dX2_append_18 (v := nI 8) (by decide) 20 rfl ?_
  refine G_ishl C dX2_append_20 (v := (nI sr) <<< ((nI 8) &&& 31)) rfl 21 rfl ?_
  refine G_iload_n C dX2_append_21 rfl 22 rfl ?_
  refine G_iconst C dX2_append_22 (v := nI 4) rfl 23 rfl ?_
  refine G_ishl C dX2_append_23 (v := (nI x) <<< ((nI 4) &&& 31)) rfl 24 rfl ?_
  refine G_ior C dX2_append_24 (v := ((nI sr) <<< ((nI 8) &&& 31)) ||| ((nI x) <<< ((nI 4) &&& 31))) rfl 25 rfl ?_
  refine G_iload_n C dX2_append_25 rfl 26 rfl ?_
  refine G_ior C dX2_append_26 (v := nI (ce (100 * sr + 10 * x + y))) (ce_mk _ hs _ hx _ hy) 27 rfl ?_
  refine G_iastN C dX2_append_27 1 rfl rfl (x := ce (100 * sr + 10 * x + y)) (by omega) [(o, .inr (2, [.ref a, .int (nI n)])), (a, .inl (E.2.1, 14, .inl (aN (va_up Cd n (ce (100 * sr + 10 * x + y))))))] rfl 28 rfl ?_
  refine G_aload_n C dX2_append_28 rfl 29 rfl ?_
  refine G_dup C dX2_append_29 rfl 30 rfl ?_
  refine G_getf C dX2_append_30 wF_X2 wf_X2_15 (f := 1) (by decide) (ci := 2) rfl 0 rfl rfl 33 rfl ?_
  refine G_iconst C dX2_append_33 (v := nI 1) rfl 34 rfl ?_
  refine G_iadd C dX2_append_34 (v := nI (n + 1)) (nI_add _ _) 35 rfl ?_
  refine G_putf C dX2_append_35 wF_X2 wf_X2_15 (f := 1) (by decide) (ci := 2) rfl tyX2_ok nmX2 rfl 0 rfl rfl rfl (Nat.le_of_ble_eq_true rfl) [(o, .inr (2, [.ref a, .int (nI (n + 1))])), (a, .inl (E.2.1, 14, .inl (aN (va_up Cd n (ce (100 * sr + 10 * x + y))))))] rfl 38 rfl ?_
  exact G_vret C hr dX2_append_38 () trivial rfl rfl

set_option maxHeartbeats 4000000 in
set_option maxRecDepth 100000 in
theorem c_X2_moveTo (l : Launch) (E : gE) (o a n : Nat) (Cd : Nat → Nat) (i tp : Nat) (hi : i < 14) (hp : tp < 14) : FD l E yX2_moveTo cX2_moveTo 5 none { frames := 0, cells := 0, slots := 0, locals := 0 } [.ref o, .int (nI i), .int (nI tp)] [(o, .inr (2, [.ref a, .int (nI n)])), (a, .inl (E.2.1, 14, .inl (aN Cd)))] none [(o, .inr (2, [.ref a, .int (nI n)])), (a, .inl (E.2.1, 14, .inl (aN (mvT Cd i tp))))] := by
  refine Fn_ofL (own := RX2) (by decide) rfl rfl [(0, .ref o), (1, .int (nI i)), (2, .int (nI tp))] rfl ?_
  intro p e s m below meth c A C hr hnm
  refine G_aload_n C dX2_moveTo_0 rfl 1 rfl ?_
  refine G_getf C dX2_moveTo_1 wF_X2 wf_X2_9 (f := 0) (by decide) (ci := 2) rfl 0 rfl rfl 4 rfl ?_
  refine G_iload_n C dX2_moveTo_4 rfl 5 rfl ?_
  refine G_ialdN C dX2_moveTo_5 1 rfl rfl (by omega) 6 rfl ?_
  refine G_istore_n C dX2_moveTo_6 (by decide) [(3, .int (nI (Cd i))), (0, .ref o), (1, .int (nI i)), (2, .int (nI tp))] rfl 7 rfl ?_
  refine G_iload_n C dX2_moveTo_7 rfl 8 rfl ?_
  refine G_istore C dX2_moveTo_8 (by decide) [(4, .int (nI i)), (3, .int (nI (Cd i))), (0, .ref o), (1, .int (nI i)), (2, .int (nI tp))] rfl 10 rfl ?_
  refine G_eq (ws' := [(o, .inr (2, [.ref a, .int (nI n)])), (a, .inl (E.2.1, 14, .inl (aN (sh1 Cd i i))))]) (by rw [sh1_0 _ _ _ (Nat.le_refl _)]) rfl rfl ?_
  refine G_while (X := Nat) (Wf := fun k => [(o, .inr (2, [.ref a, .int (nI n)])), (a, .inl (E.2.1, 14, .inl (aN (sh1 Cd i k))))]) (Lf := fun k => [(4, .int (nI k)), (3, .int (nI (Cd i))), (0, .ref o), (1, .int (nI i)), (2, .int (nI tp))]) (Sf := fun _ => []) (fun k => i ≤ k ∧ (k ≤ tp ∨ k = i)) (fun k => tp - k) (fun k hi ih => ?_) i ⟨Nat.le_refl _, Or.inr rfl⟩
  refine G_iload C dX2_moveTo_10 rfl 12 rfl ?_
  refine G_iload_n C dX2_moveTo_12 rfl 13 rfl ?_
  refine G_icmp_ge C dX2_moveTo_13 38 rfl 16 rfl (nI_leI (by omega) (by omega)) (fun h_1 => ?_) (fun h_1 => ?_)
  · rcases Nat.lt_or_ge i tp with hlt | hge
    · refine G_eq (ws' := [(o, .inr (2, [.ref a, .int (nI n)])), (a, .inl (E.2.1, 14, .inl (aN (sh1 Cd i tp))))]) (by rw [show k = tp by omega]) rfl rfl ?_
      refine G_iload_n C dX2_moveTo_38 rfl 39 rfl ?_
      refine G_istore C dX2_moveTo_39 (by decide) [(4, .int (nI i)), (3, .int (nI (Cd i))), (0, .ref o), (1, .int (nI i)), (2, .int (nI tp))] rfl 41 rfl ?_
      refine G_iload C dX2_moveTo_41 rfl 43 rfl ?_
      refine G_iload_n C dX2_moveTo_43 rfl 44 rfl ?_
      refine G_icmp_le_t C dX2_moveTo_44 69 rfl (by rw [nI_leI (by omega) (by omega)]; omega) ?_
      refine G_aload_n C dX2_moveTo_69 rfl 70 rfl ?_
      refine G_getf C dX2_moveTo_70 wF_X2 wf_X2_9 (f := 0) (by decide) (ci := 2) rfl 0 rfl rfl 73 rfl ?_
      refine G_iload_n C dX2_moveTo_73 rfl 74 rfl ?_
      refine G_iload_n C dX2_moveTo_74 rfl 75 rfl ?_
      refine G_iastN C dX2_moveTo_75 1 rfl rfl (x := Cd i) (by omega) [(o, .inr (2, [.ref a, .int (nI n)])), (a, .inl (E.2.1, 14, .inl (aN (va_up (sh1 Cd i tp) tp (Cd i)))))] rfl 76 rfl ?_
      exact G_vret C hr dX2_moveTo_76 () trivial rfl (by rw [mvT_1 _ _ _ (by omega)])
    · refine G_eq (ws' := [(o, .inr (2, [.ref a, .int (nI n)])), (a, .inl (E.2.1, 14, .inl (aN Cd)))]) (by rw [show k = i by omega, sh1_0 _ _ _ (Nat.le_refl _)]) rfl rfl ?_
      refine G_iload_n C dX2_moveTo_38 rfl 39 rfl ?_
      refine G_istore C dX2_moveTo_39 (by decide) [(4, .int (nI i)), (3, .int (nI (Cd i))), (0, .ref o), (1, .int (nI i)), (2, .int (nI tp))] rfl 41 rfl ?_
      refine G_eq (ws' := [(o, .inr (2, [.ref a, .int (nI n)])), (a, .inl (E.2.1, 14, .inl (aN (sh2 Cd i i))))]) (by rw [sh2_0 _ _ _ (Nat.le_refl _)]) rfl rfl ?_
      refine G_while (X := Nat) (Wf := fun k2 => [(o, .inr (2, [.ref a, .int (nI n)])), (a, .inl (E.2.1, 14, .inl (aN (sh2 Cd i k2))))]) (Lf := fun k2 => [(4, .int (nI k2)), (3, .int (nI (Cd i))), (0, .ref o), (1, .int (nI i)), (2, .int (nI tp))]) (Sf := fun _ => []) (fun k2 => tp ≤ k2 ∧ k2 ≤ i) (fun k2 => k2) (fun k2 hi ih => ?_) i ⟨by omega, Nat.le_refl _⟩
      refine G_iload C dX2_moveTo_41 rfl 43 rfl ?_
      refine G_iload_n C dX2_moveTo_43 rfl 44 rfl ?_
      refine G_icmp_le C dX2_moveTo_44 69 rfl 47 rfl (nI_leI (by omega) (by omega)) (fun h_2 => ?_) (fun h_2 => ?_)
      · refine G_aload_n C dX2_moveTo_69 rfl 70 rfl ?_
        refine G_getf C dX2_moveTo_70 wF_X2 wf_X2_9 (f := 0) (by decide) (ci := 2) rfl 0 rfl rfl 73 rfl ?_
        refine G_iload_n C dX2_moveTo_73 rfl 74 rfl ?_
        refine G_iload_n C dX2_moveTo_74 rfl 75 rfl ?_
        refine G_iastN C dX2_moveTo_75 1 rfl rfl (x := Cd i) (by omega) [(o, .inr (2, [.ref a, .int (nI n)])), (a, .inl (E.2.1, 14, .inl (aN (va_up (sh2 Cd i k2) tp (Cd i)))))] rfl 76 rfl ?_
        exact G_vret C hr dX2_moveTo_76 () trivial rfl (by rw [show k2 = tp by omega, mvT_2 _ _ _ (by omega)])
      · refine G_aload_n C dX2_moveTo_47 rfl 48 rfl ?_
        refine G_getf C dX2_moveTo_48 wF_X2 wf_X2_9 (f := 0) (by decide) (ci := 2) rfl 0 rfl rfl 51 rfl ?_
        refine G_iload C dX2_moveTo_51 rfl 53 rfl ?_
        refine G_aload_n C dX2_moveTo_53 rfl 54 rfl ?_
        refine G_getf C dX2_moveTo_54 wF_X2 wf_X2_9 (f := 0) (by decide) (ci := 2) rfl 0 rfl rfl 57 rfl ?_
        refine G_iload C dX2_moveTo_57 rfl 59 rfl ?_
        refine G_iconst C dX2_moveTo_59 (v := nI 1) rfl 60 rfl ?_
        refine G_isub C dX2_moveTo_60 (v := nI (k2 - 1)) (pk_sub (by omega)) 61 rfl ?_
        refine G_ialdN C dX2_moveTo_61 1 rfl rfl (by omega) 62 rfl ?_
        refine G_iastN C dX2_moveTo_62 1 rfl rfl (x := (sh2 Cd i k2) (k2 - 1)) (by omega) [(o, .inr (2, [.ref a, .int (nI n)])), (a, .inl (E.2.1, 14, .inl (aN (va_up (sh2 Cd i k2) k2 ((sh2 Cd i k2) (k2 - 1))))))] rfl 63 rfl ?_
        refine G_iinc C dX2_moveTo_63 0 rfl (sb_m1 (by omega)) (by decide) [(4, .int (nI (k2 - 1))), (3, .int (nI (Cd i))), (0, .ref o), (1, .int (nI i)), (2, .int (nI tp))] rfl 66 rfl ?_
        refine G_goto C dX2_moveTo_66 41 rfl ?_
        refine G_eq (ws' := [(o, .inr (2, [.ref a, .int (nI n)])), (a, .inl (E.2.1, 14, .inl (aN (sh2 Cd i (k2 - 1)))))]) (by rw [sh2_s _ _ _ (by omega) (by omega)]) rfl rfl ?_
        exact ih (k2 - 1) (by omega) (by omega)
  · refine G_aload_n C dX2_moveTo_16 rfl 17 rfl ?_
    refine G_getf C dX2_moveTo_17 wF_X2 wf_X2_9 (f := 0) (by decide) (ci := 2) rfl 0 rfl rfl 20 rfl ?_
    refine G_iload C dX2_moveTo_20 rfl 22 rfl ?_
    refine G_aload_n C dX2_moveTo_22 rfl 23 rfl ?_
    refine G_getf C dX2_moveTo_23 wF_X2 wf_X2_9 (f := 0) (by decide) (ci := 2) rfl 0 rfl rfl 26 rfl ?_
    refine G_iload C dX2_moveTo_26 rfl 28 rfl ?_
    refine G_iconst C dX2_moveTo_28 (v := nI 1) rfl 29 rfl ?_
    refine G_iadd C dX2_moveTo_29 (v := nI (k + 1)) (nI_add _ _) 30 rfl ?_
    refine G_ialdN C dX2_moveTo_30 1 rfl rfl (by omega) 31 rfl ?_
    refine G_iastN C dX2_moveTo_31 1 rfl rfl (x := (sh1 Cd i k) (k + 1)) (by omega) [(o, .inr (2, [.ref a, .int (nI n)])), (a, .inl (E.2.1, 14, .inl (aN (va_up (sh1 Cd i k) k ((sh1 Cd i k) (k + 1))))))] rfl 32 rfl ?_
    refine G_iinc C dX2_moveTo_32 0 rfl (nI_1 _) (by decide) [(4, .int (nI (k + 1))), (3, .int (nI (Cd i))), (0, .ref o), (1, .int (nI i)), (2, .int (nI tp))] rfl 35 rfl ?_
    refine G_goto C dX2_moveTo_35 10 rfl ?_
    refine G_eq (ws' := [(o, .inr (2, [.ref a, .int (nI n)])), (a, .inl (E.2.1, 14, .inl (aN (sh1 Cd i (k + 1)))))]) (by rw [sh1_s _ _ _ (by omega)]) rfl rfl ?_
    exact ih (k + 1) (by omega) (by omega)

set_option maxHeartbeats 4000000 in
set_option maxRecDepth 100000 in
theorem c_X2_removeAt (l : Launch) (E : gE) (o a n : Nat) (Cd : Nat → Nat) (i : Nat) (hi : i < n) (hn : n ≤ 14) : FD l E yX2_removeAt cX2_removeAt 2 none { frames := 1, cells := 0, slots := 0, locals := 24 } [.ref o, .int (nI i)] [(o, .inr (2, [.ref a, .int (nI n)])), (a, .inl (E.2.1, 14, .inl (aN Cd)))] none [(o, .inr (2, [.ref a, .int (nI (n - 1))])), (a, .inl (E.2.1, 14, .inl (aN (mvT Cd i (n - 1)))))] := by
  refine Fn_ofL (own := RX2) (by decide) rfl rfl [(0, .ref o), (1, .int (nI i))] rfl ?_
  intro p e s m below meth c A C hr hnm
  refine G_aload_n C dX2_removeAt_0 rfl 1 rfl ?_
  refine G_iload_n C dX2_removeAt_1 rfl 2 rfl ?_
  refine G_aload_n C dX2_removeAt_2 rfl 3 rfl ?_
  refine G_getf C dX2_removeAt_3 wF_X2 wf_X2_15 (f := 1) (by decide) (ci := 2) rfl 0 rfl rfl 6 rfl ?_
  refine G_iconst C dX2_removeAt_6 (v := nI 1) rfl 7 rfl ?_
  refine G_isub C dX2_removeAt_7 (v := nI (n - 1)) (pk_sub (by omega)) 8 rfl ?_
  refine G_cV C dX2_removeAt_8 (c_X2_moveTo l E o a n Cd i (n - 1) (by first | assumption | omega) (by first | assumption | omega)) wm_X2_19 wi_X2_moveTo wsel_X2_moveTo wn_X2 wc_X2_moveTo rfl rfl ⟨by decide, by decide, rfl⟩ rfl (Nat.le_of_ble_eq_true rfl) 2 rfl rfl 0 rfl [0, 1] [] (wr := []) rfl rfl rfl rfl rfl [0, 1] rfl [(o, .inr (2, [.ref a, .int (nI n)])), (a, .inl (E.2.1, 14, .inl (aN (mvT Cd i (n - 1)))))] rfl rfl [] rfl 11 rfl ?_
  refine G_aload_n C dX2_removeAt_11 rfl 12 rfl ?_
  refine G_dup C dX2_removeAt_12 rfl 13 rfl ?_
  refine G_getf C dX2_removeAt_13 wF_X2 wf_X2_15 (f := 1) (by decide) (ci := 2) rfl 0 rfl rfl 16 rfl ?_
  refine G_iconst C dX2_removeAt_16 (v := nI 1) rfl 17 rfl ?_
  refine G_isub C dX2_removeAt_17 (v := nI (n - 1)) (pk_sub (by omega)) 18 rfl ?_
  refine G_putf C dX2_removeAt_18 wF_X2 wf_X2_15 (f := 1) (by decide) (ci := 2) rfl tyX2_ok nmX2 rfl 0 rfl rfl rfl (Nat.le_of_ble_eq_true rfl) [(o, .inr (2, [.ref a, .int (nI (n - 1))])), (a, .inl (E.2.1, 14, .inl (aN (mvT Cd i (n - 1)))))] rfl 21 rfl ?_
  exact G_vret C hr dX2_removeAt_21 () trivial rfl rfl

set_option maxHeartbeats 4000000 in
set_option maxRecDepth 100000 in
theorem c_X2_removeAll (l : Launch) (E : gE) (o a n : Nat) (Cd : Nat → Nat)  : FD l E yX2_removeAll cX2_removeAll 1 none { frames := 0, cells := 0, slots := 0, locals := 0 } [.ref o] [(o, .inr (2, [.ref a, .int (nI n)])), (a, .inl (E.2.1, 14, .inl (aN Cd)))] none [(o, .inr (2, [.ref a, .int (nI 0)])), (a, .inl (E.2.1, 14, .inl (aN Cd)))] := by
  refine Fn_ofL (own := RX2) (by decide) rfl rfl [(0, .ref o)] rfl ?_
  intro p e s m below meth c A C hr hnm
  refine G_aload_n C dX2_removeAll_0 rfl 1 rfl ?_
  refine G_iconst C dX2_removeAll_1 (v := nI 0) rfl 2 rfl ?_
  refine G_putf C dX2_removeAll_2 wF_X2 wf_X2_15 (f := 1) (by decide) (ci := 2) rfl tyX2_ok nmX2 rfl 0 rfl rfl rfl (Nat.le_of_ble_eq_true rfl) [(o, .inr (2, [.ref a, .int (nI 0)])), (a, .inl (E.2.1, 14, .inl (aN Cd)))] rfl 5 rfl ?_
  exact G_vret C hr dX2_removeAll_5 () trivial rfl rfl

set_option maxHeartbeats 4000000 in
set_option maxRecDepth 100000 in
theorem c_X2_copyFrom (l : Launch) (E : gE) (o a n : Nat) (Cd : Nat → Nat) (o2 a2 n2 : Nat) (Cd2 : Nat → Nat) (hn : n2 ≤ 14) : FD l E yX2_copyFrom cX2_copyFrom 2 none { frames := 1, cells := 0, slots := 0, locals := 40 } [.ref o, .ref o2] [(o, .inr (2, [.ref a, .int (nI n)])), (a, .inl (E.2.1, 14, .inl (aN Cd))), (o2, .inr (2, [.ref a2, .int (nI n2)])), (a2, .inl (E.2.1, 14, .inl (aN Cd2)))] none [(o, .inr (2, [.ref a, .int (nI n2)])), (a, .inl (E.2.1, 14, .inl (aN (cpN Cd2 Cd n2)))), (o2, .inr (2, [.ref a2, .int (nI n2)])), (a2, .inl (E.2.1, 14, .inl (aN Cd2)))] := by
  refine Fn_ofL (own := RX2) (by decide) rfl rfl [(0, .ref o), (1, .ref o2)] rfl ?_
  intro p e s m below meth c A C hr hnm
  refine G_aload_n C dX2_copyFrom_0 rfl 1 rfl ?_
  refine G_getf C dX2_copyFrom_1 wF_X2 wf_X2_9 (f := 0) (by decide) (ci := 2) rfl 2 rfl rfl 4 rfl ?_
  refine G_iconst C dX2_copyFrom_4 (v := nI 0) rfl 5 rfl ?_
  refine G_aload_n C dX2_copyFrom_5 rfl 6 rfl ?_
  refine G_getf C dX2_copyFrom_6 wF_X2 wf_X2_9 (f := 0) (by decide) (ci := 2) rfl 0 rfl rfl 9 rfl ?_
  refine G_iconst C dX2_copyFrom_9 (v := nI 0) rfl 10 rfl ?_
  refine G_aload_n C dX2_copyFrom_10 rfl 11 rfl ?_
  refine G_getf C dX2_copyFrom_11 wF_X2 wf_X2_15 (f := 1) (by decide) (ci := 2) rfl 2 rfl rfl 14 rfl ?_
  refine G_acopy C dX2_copyFrom_14 wm_X2_23 3 1 rfl rfl (by omega) (by omega) (by omega) (cpN_cpy _ _ _) rfl (Nat.le_of_ble_eq_true rfl) [(o, .inr (2, [.ref a, .int (nI n)])), (a, .inl (E.2.1, 14, .inl (aN (cpN Cd2 Cd n2)))), (o2, .inr (2, [.ref a2, .int (nI n2)])), (a2, .inl (E.2.1, 14, .inl (aN Cd2)))] rfl 17 rfl ?_
  refine G_aload_n C dX2_copyFrom_17 rfl 18 rfl ?_
  refine G_aload_n C dX2_copyFrom_18 rfl 19 rfl ?_
  refine G_getf C dX2_copyFrom_19 wF_X2 wf_X2_15 (f := 1) (by decide) (ci := 2) rfl 2 rfl rfl 22 rfl ?_
  refine G_putf C dX2_copyFrom_22 wF_X2 wf_X2_15 (f := 1) (by decide) (ci := 2) rfl tyX2_ok nmX2 rfl 0 rfl rfl rfl (Nat.le_of_ble_eq_true rfl) [(o, .inr (2, [.ref a, .int (nI n2)])), (a, .inl (E.2.1, 14, .inl (aN (cpN Cd2 Cd n2)))), (o2, .inr (2, [.ref a2, .int (nI n2)])), (a2, .inl (E.2.1, 14, .inl (aN Cd2)))] rfl 25 rfl ?_
  exact G_vret C hr dX2_copyFrom_25 () trivial rfl rfl

set_option maxHeartbeats 4000000 in
set_option maxRecDepth 100000 in
theorem c_X2_lengthAt (l : Launch) (E : gE) (o a n : Nat) (Cd : Nat → Nat) (i v : Nat) (hi : i < 14) (hc : Cd i = ce v) (hv : v < 400) : FD l E yX2_lengthAt cX2_lengthAt 2 (some .int) { frames := 1, cells := 0, slots := 0, locals := 21 } [.ref o, .int (nI i)] [(o, .inr (2, [.ref a, .int (nI n)])), (a, .inl (E.2.1, 14, .inl (aN Cd)))] (some (.int (nI (ll v)))) [(o, .inr (2, [.ref a, .int (nI n)])), (a, .inl (E.2.1, 14, .inl (aN Cd)))] := by
  refine Fn_ofL (own := RX2) (by decide) rfl rfl [(0, .ref o), (1, .int (nI i))] rfl ?_
  intro p e s m below meth c A C hr hnm
  refine G_aload_n C dX2_lengthAt_0 rfl 1 rfl ?_
  refine G_iload_n C dX2_lengthAt_1 rfl 2 rfl ?_
  refine G_cV C dX2_lengthAt_2 (c_X2_sortAt l E o a n Cd i v (by first | assumption | omega) (by first | assumption | omega) (by first | assumption | omega)) wm_X2_37 wi_X2_sortAt wsel_X2_sortAt wn_X2 wc_X2_sortAt rfl rfl ⟨by decide, by decide, rfl⟩ rfl (Nat.le_of_ble_eq_true rfl) 2 rfl rfl 0 rfl [0, 1] [] (wr := []) rfl rfl rfl rfl rfl [0, 1] rfl [(o, .inr (2, [.ref a, .int (nI n)])), (a, .inl (E.2.1, 14, .inl (aN Cd)))] rfl rfl [.int (nI (v / 100))] rfl 5 rfl ?_
  refine G_iconst C dX2_lengthAt_5 (v := nI 1) rfl 6 rfl ?_
  refine G_icmp_ne C dX2_lengthAt_6 13 rfl 9 rfl (nI_eq (by omega) (by omega)) (fun h_1 => ?_) (fun h_1 => ?_)
  · refine G_iconst C dX2_lengthAt_13 (v := nI 5) rfl 14 rfl ?_
    exact G_iret C hr dX2_lengthAt_14 rfl () trivial (by simp [ll, h_1]) rfl
  · refine G_iconst C dX2_lengthAt_9 (v := nI 4) rfl 10 rfl ?_
    refine G_goto C dX2_lengthAt_10 14 rfl ?_
    exact G_iret C hr dX2_lengthAt_14 rfl () trivial (by simp [ll, h_1]) rfl

set_option maxHeartbeats 4000000 in
set_option maxRecDepth 100000 in
theorem c_X2_writtenLength (l : Launch) (E : gE) (o a n : Nat) (Cd : Nat → Nat) (ln : Nat → Nat) (hok : lok n ln Cd) : FD l E yX2_writtenLength cX2_writtenLength 3 (some .int) { frames := 2, cells := 0, slots := 0, locals := 42 } [.ref o] [(o, .inr (2, [.ref a, .int (nI n)])), (a, .inl (E.2.1, 14, .inl (aN Cd)))] (some (.int (nI (wlen ln n)))) [(o, .inr (2, [.ref a, .int (nI n)])), (a, .inl (E.2.1, 14, .inl (aN Cd)))] := by
  refine Fn_ofL (own := RX2) (by decide) rfl rfl [(0, .ref o)] rfl ?_
  intro p e s m below meth c A C hr hnm
  have h14 : n ≤ 14 := hok.n
  refine G_iconst C dX2_writtenLength_0 (v := nI 0) rfl 1 rfl ?_
  refine G_istore_n C dX2_writtenLength_1 (by decide) [(1, .int (nI 0)), (0, .ref o)] rfl 2 rfl ?_
  refine G_iconst C dX2_writtenLength_2 (v := nI 0) rfl 3 rfl ?_
  refine G_istore_n C dX2_writtenLength_3 (by decide) [(2, .int (nI 0)), (1, .int (nI 0)), (0, .ref o)] rfl 4 rfl ?_
  refine G_sel [1, 0, 2] [(1, .int (nI 0)), (2, .int (nI 0)), (0, .ref o)] rfl ?_
  refine G_while (X := Nat) (Wf := fun i => [(o, .inr (2, [.ref a, .int (nI n)])), (a, .inl (E.2.1, 14, .inl (aN Cd)))]) (Lf := fun i => [(1, .int (nI (wlen ln i))), (2, .int (nI i)), (0, .ref o)]) (Sf := fun _ => []) (fun i => i ≤ n) (fun i => n - i) (fun i hi ih => ?_) 0 (by omega)
  refine G_iload_n C dX2_writtenLength_4 rfl 5 rfl ?_
  refine G_aload_n C dX2_writtenLength_5 rfl 6 rfl ?_
  refine G_getf C dX2_writtenLength_6 wF_X2 wf_X2_15 (f := 1) (by decide) (ci := 2) rfl 0 rfl rfl 9 rfl ?_
  refine G_icmp_ge C dX2_writtenLength_9 26 rfl 12 rfl (nI_leI (by omega) (by omega)) (fun h_1 => ?_) (fun h_1 => ?_)
  · refine G_iload_n C dX2_writtenLength_26 rfl 27 rfl ?_
    exact G_iret C hr dX2_writtenLength_27 rfl () trivial (by rw [show i = n by omega]) rfl
  · refine G_iload_n C dX2_writtenLength_12 rfl 13 rfl ?_
    refine G_aload_n C dX2_writtenLength_13 rfl 14 rfl ?_
    refine G_iload_n C dX2_writtenLength_14 rfl 15 rfl ?_
    refine G_cV C dX2_writtenLength_15 (c_X2_lengthAt l E o a n Cd i (ln i) (by omega) (hok.c (by omega)) (hok.v (by omega))) wm_X2_29 wi_X2_lengthAt wsel_X2_lengthAt wn_X2 wc_X2_lengthAt rfl rfl ⟨by decide, by decide, rfl⟩ rfl (Nat.le_of_ble_eq_true rfl) 2 rfl rfl 0 rfl [0, 1] [] (wr := []) rfl rfl rfl rfl rfl [0, 1] rfl [(o, .inr (2, [.ref a, .int (nI n)])), (a, .inl (E.2.1, 14, .inl (aN Cd)))] rfl rfl [.int (nI (ll (ln i))), .int (nI (wlen ln i))] rfl 18 rfl ?_
    refine G_iadd C dX2_writtenLength_18 (v := nI (wlen ln i + (ll (ln i)))) (nI_add _ _) 19 rfl ?_
    refine G_istore_n C dX2_writtenLength_19 (by decide) [(1, .int (nI (wlen ln i + (ll (ln i))))), (2, .int (nI i)), (0, .ref o)] rfl 20 rfl ?_
    refine G_iinc C dX2_writtenLength_20 1 rfl (nI_1 _) (by decide) [(2, .int (nI (i + 1))), (1, .int (nI (wlen ln i + (ll (ln i))))), (0, .ref o)] rfl 23 rfl ?_
    refine G_goto C dX2_writtenLength_23 4 rfl ?_
    refine G_sel [1, 0, 2] [(1, .int (nI (wlen ln i + (ll (ln i))))), (2, .int (nI (i + 1))), (0, .ref o)] rfl ?_
    exact ih (i + 1) (by omega) (by omega)

set_option maxHeartbeats 4000000 in
set_option maxRecDepth 100000 in
theorem c_X2_byteAt (l : Launch) (E : gE) (o a n : Nat) (Cd : Nat → Nat) (i v k : Nat) (hi : i < 14) (hc : Cd i = ce v) (hv : v < 400) (hk : k < ll v) : FD l E yX2_byteAt cX2_byteAt 5 (some .int) { frames := 1, cells := 0, slots := 0, locals := 21 } [.ref o, .int (nI i), .int (nI k)] [(o, .inr (2, [.ref a, .int (nI n)])), (a, .inl (E.2.1, 14, .inl (aN Cd)))] (some (.int (nI (lb v k)))) [(o, .inr (2, [.ref a, .int (nI n)])), (a, .inl (E.2.1, 14, .inl (aN Cd)))] := by
  refine Fn_ofL (own := RX2) (by decide) rfl rfl [(0, .ref o), (1, .int (nI i)), (2, .int (nI k))] rfl ?_
  intro p e s m below meth c A C hr hnm
  rcases (show v / 100 = 0 ∨ v / 100 = 1 ∨ v / 100 = 2 ∨ v / 100 = 3 by omega) with hs | hs | hs | hs
  · have hk2 : k < 5 := by simp only [ll, hs] at hk; simpa using hk
    rcases (show k = 0 ∨ k = 1 ∨ k = 2 ∨ k = 3 ∨ k = 4 by omega) with rfl | rfl | rfl | rfl | rfl
    · refine G_aload_n C dX2_byteAt_0 rfl 1 rfl ?_
      refine G_iload_n C dX2_byteAt_1 rfl 2 rfl ?_
      refine G_cV C dX2_byteAt_2 (c_X2_sortAt l E o a n Cd i v (by first | assumption | omega) (by first | assumption | omega) (by first | assumption | omega)) wm_X2_37 wi_X2_sortAt wsel_X2_sortAt wn_X2 wc_X2_sortAt rfl rfl ⟨by decide, by decide, rfl⟩ rfl (Nat.le_of_ble_eq_true rfl) 2 rfl rfl 0 rfl [0, 1] [] (wr := []) rfl rfl rfl rfl rfl [0, 1] rfl [(o, .inr (2, [.ref a, .int (nI n)])), (a, .inl (E.2.1, 14, .inl (aN Cd)))] rfl rfl [.int (nI (v / 100))] rfl 5 rfl ?_
      refine G_top (v' := .int (nI 0)) (by rw [hs]) ?_
      refine G_istore_n C dX2_byteAt_5 (by decide) [(3, .int (nI 0)), (0, .ref o), (1, .int (nI i)), (2, .int (nI 0))] rfl 6 rfl ?_
      refine G_iload_n C dX2_byteAt_6 rfl 7 rfl ?_
      refine G_iconst C dX2_byteAt_7 (v := nI 3) rfl 8 rfl ?_
      refine G_icmp_ne_t C dX2_byteAt_8 17 rfl (by decide) ?_
      refine G_iload_n C dX2_byteAt_17 rfl 18 rfl ?_
      refine G_istore C dX2_byteAt_18 (by decide) [(4, .int (nI 0)), (3, .int (nI 0)), (0, .ref o), (1, .int (nI i)), (2, .int (nI 0))] rfl 20 rfl ?_
      refine G_iload C dX2_byteAt_20 rfl 22 rfl ?_
      refine G_iconst C dX2_byteAt_22 (v := nI 2) rfl 23 rfl ?_
      refine G_icmp_lt_t C dX2_byteAt_23 39 rfl (by decide) ?_
      refine G_iload C dX2_byteAt_39 rfl 41 rfl ?_
      refine G_tabIn C dX2_byteAt_41 (38) (by decide) (by decide) rfl 79 rfl ?_
      refine G_bipush C dX2_byteAt_79 (v := nI 97) (by decide) 81 rfl ?_
      refine G_aload_n C dX2_byteAt_81 rfl 82 rfl ?_
      refine G_iload_n C dX2_byteAt_82 rfl 83 rfl ?_
      refine G_cV C dX2_byteAt_83 (c_X2_leftAt l E o a n Cd i v (by first | assumption | omega) (by first | assumption | omega) (by first | assumption | omega)) wm_X2_40 wi_X2_leftAt wsel_X2_leftAt wn_X2 wc_X2_leftAt rfl rfl ⟨by decide, by decide, rfl⟩ rfl (Nat.le_of_ble_eq_true rfl) 2 rfl rfl 0 rfl [0, 1] [] (wr := []) rfl rfl rfl rfl rfl [0, 1] rfl [(o, .inr (2, [.ref a, .int (nI n)])), (a, .inl (E.2.1, 14, .inl (aN Cd)))] rfl rfl [.int (nI (v / 10 % 10)), .int (nI 97)] rfl 86 rfl ?_
      refine G_iadd C dX2_byteAt_86 (v := nI (97 + (v / 10 % 10))) (nI_add _ _) 87 rfl ?_
      exact G_iret C hr dX2_byteAt_87 rfl () trivial (by simp [lb, hs]) rfl
    · refine G_aload_n C dX2_byteAt_0 rfl 1 rfl ?_
      refine G_iload_n C dX2_byteAt_1 rfl 2 rfl ?_
      refine G_cV C dX2_byteAt_2 (c_X2_sortAt l E o a n Cd i v (by first | assumption | omega) (by first | assumption | omega) (by first | assumption | omega)) wm_X2_37 wi_X2_sortAt wsel_X2_sortAt wn_X2 wc_X2_sortAt rfl rfl ⟨by decide, by decide, rfl⟩ rfl (Nat.le_of_ble_eq_true rfl) 2 rfl rfl 0 rfl [0, 1] [] (wr := []) rfl rfl rfl rfl rfl [0, 1] rfl [(o, .inr (2, [.ref a, .int (nI n)])), (a, .inl (E.2.1, 14, .inl (aN Cd)))] rfl rfl [.int (nI (v / 100))] rfl 5 rfl ?_
      refine G_top (v' := .int (nI 0)) (by rw [hs]) ?_
      refine G_istore_n C dX2_byteAt_5 (by decide) [(3, .int (nI 0)), (0, .ref o), (1, .int (nI i)), (2, .int (nI 1))] rfl 6 rfl ?_
      refine G_iload_n C dX2_byteAt_6 rfl 7 rfl ?_
      refine G_iconst C dX2_byteAt_7 (v := nI 3) rfl 8 rfl ?_
      refine G_icmp_ne_t C dX2_byteAt_8 17 rfl (by decide) ?_
      refine G_iload_n C dX2_byteAt_17 rfl 18 rfl ?_
      refine G_istore C dX2_byteAt_18 (by decide) [(4, .int (nI 1)), (3, .int (nI 0)), (0, .ref o), (1, .int (nI i)), (2, .int (nI 1))] rfl 20 rfl ?_
      refine G_iload C dX2_byteAt_20 rfl 22 rfl ?_
      refine G_iconst C dX2_byteAt_22 (v := nI 2) rfl 23 rfl ?_
      refine G_icmp_lt_t C dX2_byteAt_23 39 rfl (by decide) ?_
      refine G_iload C dX2_byteAt_39 rfl 41 rfl ?_
      refine G_tabIn C dX2_byteAt_41 (47) (by decide) (by decide) rfl 88 rfl ?_
      refine G_bipush C dX2_byteAt_88 (v := nI 61) (by decide) 90 rfl ?_
      exact G_iret C hr dX2_byteAt_90 rfl () trivial (by simp [lb, hs]) rfl
    · refine G_aload_n C dX2_byteAt_0 rfl 1 rfl ?_
      refine G_iload_n C dX2_byteAt_1 rfl 2 rfl ?_
      refine G_cV C dX2_byteAt_2 (c_X2_sortAt l E o a n Cd i v (by first | assumption | omega) (by first | assumption | omega) (by first | assumption | omega)) wm_X2_37 wi_X2_sortAt wsel_X2_sortAt wn_X2 wc_X2_sortAt rfl rfl ⟨by decide, by decide, rfl⟩ rfl (Nat.le_of_ble_eq_true rfl) 2 rfl rfl 0 rfl [0, 1] [] (wr := []) rfl rfl rfl rfl rfl [0, 1] rfl [(o, .inr (2, [.ref a, .int (nI n)])), (a, .inl (E.2.1, 14, .inl (aN Cd)))] rfl rfl [.int (nI (v / 100))] rfl 5 rfl ?_
      refine G_top (v' := .int (nI 0)) (by rw [hs]) ?_
      refine G_istore_n C dX2_byteAt_5 (by decide) [(3, .int (nI 0)), (0, .ref o), (1, .int (nI i)), (2, .int (nI 2))] rfl 6 rfl ?_
      refine G_iload_n C dX2_byteAt_6 rfl 7 rfl ?_
      refine G_iconst C dX2_byteAt_7 (v := nI 3) rfl 8 rfl ?_
      refine G_icmp_ne_t C dX2_byteAt_8 17 rfl (by decide) ?_
      refine G_iload_n C dX2_byteAt_17 rfl 18 rfl ?_
      refine G_istore C dX2_byteAt_18 (by decide) [(4, .int (nI 2)), (3, .int (nI 0)), (0, .ref o), (1, .int (nI i)), (2, .int (nI 2))] rfl 20 rfl ?_
      refine G_iload C dX2_byteAt_20 rfl 22 rfl ?_
      refine G_iconst C dX2_byteAt_22 (v := nI 2) rfl 23 rfl ?_
      refine G_icmp_lt_f C dX2_byteAt_23 39 rfl 26 rfl (by decide) ?_
      refine G_iload_n C dX2_byteAt_26 rfl 27 rfl ?_
      refine G_iconst C dX2_byteAt_27 (v := nI 1) rfl 28 rfl ?_
      refine G_icmp_eq_f C dX2_byteAt_28 36 rfl 31 rfl (by decide) ?_
      refine G_iload_n C dX2_byteAt_31 rfl 32 rfl ?_
      refine G_iconst C dX2_byteAt_32 (v := nI 3) rfl 33 rfl ?_
      refine G_icmp_ne_t C dX2_byteAt_33 39 rfl (by decide) ?_
      refine G_iload C dX2_byteAt_39 rfl 41 rfl ?_
      refine G_tabIn C dX2_byteAt_41 (50) (by decide) (by decide) rfl 91 rfl ?_
      refine G_iload_n C dX2_byteAt_91 rfl 92 rfl ?_
      refine G_if_ne_f C dX2_byteAt_92 100 rfl 95 rfl (by decide) ?_
      refine G_bipush C dX2_byteAt_95 (v := nI 38) (by decide) 97 rfl ?_
      refine G_goto C dX2_byteAt_97 102 rfl ?_
      exact G_iret C hr dX2_byteAt_102 rfl () trivial (by simp [lb, hs]) rfl
    · refine G_aload_n C dX2_byteAt_0 rfl 1 rfl ?_
      refine G_iload_n C dX2_byteAt_1 rfl 2 rfl ?_
      refine G_cV C dX2_byteAt_2 (c_X2_sortAt l E o a n Cd i v (by first | assumption | omega) (by first | assumption | omega) (by first | assumption | omega)) wm_X2_37 wi_X2_sortAt wsel_X2_sortAt wn_X2 wc_X2_sortAt rfl rfl ⟨by decide, by decide, rfl⟩ rfl (Nat.le_of_ble_eq_true rfl) 2 rfl rfl 0 rfl [0, 1] [] (wr := []) rfl rfl rfl rfl rfl [0, 1] rfl [(o, .inr (2, [.ref a, .int (nI n)])), (a, .inl (E.2.1, 14, .inl (aN Cd)))] rfl rfl [.int (nI (v / 100))] rfl 5 rfl ?_
      refine G_top (v' := .int (nI 0)) (by rw [hs]) ?_
      refine G_istore_n C dX2_byteAt_5 (by decide) [(3, .int (nI 0)), (0, .ref o), (1, .int (nI i)), (2, .int (nI 3))] rfl 6 rfl ?_
      refine G_iload_n C dX2_byteAt_6 rfl 7 rfl ?_
      refine G_iconst C dX2_byteAt_7 (v := nI 3) rfl 8 rfl ?_
      refine G_icmp_ne_t C dX2_byteAt_8 17 rfl (by decide) ?_
      refine G_iload_n C dX2_byteAt_17 rfl 18 rfl ?_
      refine G_istore C dX2_byteAt_18 (by decide) [(4, .int (nI 3)), (3, .int (nI 0)), (0, .ref o), (1, .int (nI i)), (2, .int (nI 3))] rfl 20 rfl ?_
      refine G_iload C dX2_byteAt_20 rfl 22 rfl ?_
      refine G_iconst C dX2_byteAt_22 (v := nI 2) rfl 23 rfl ?_
      refine G_icmp_lt_f C dX2_byteAt_23 39 rfl 26 rfl (by decide) ?_
      refine G_iload_n C dX2_byteAt_26 rfl 27 rfl ?_
      refine G_iconst C dX2_byteAt_27 (v := nI 1) rfl 28 rfl ?_
      refine G_icmp_eq_f C dX2_byteAt_28 36 rfl 31 rfl (by decide) ?_
      refine G_iload_n C dX2_byteAt_31 rfl 32 rfl ?_
      refine G_iconst C dX2_byteAt_32 (v := nI 3) rfl 33 rfl ?_
      refine G_icmp_ne_t C dX2_byteAt_33 39 rfl (by decide) ?_
      refine G_iload C dX2_byteAt_39 rfl 41 rfl ?_
      refine G_tabIn C dX2_byteAt_41 (62) (by decide) (by decide) rfl 103 rfl ?_
      refine G_bipush C dX2_byteAt_103 (v := nI 97) (by decide) 105 rfl ?_
      refine G_aload_n C dX2_byteAt_105 rfl 106 rfl ?_
      refine G_iload_n C dX2_byteAt_106 rfl 107 rfl ?_
      refine G_cV C dX2_byteAt_107 (c_X2_rightAt l E o a n Cd i v (by first | assumption | omega) (by first | assumption | omega) (by first | assumption | omega)) wm_X2_43 wi_X2_rightAt wsel_X2_rightAt wn_X2 wc_X2_rightAt rfl rfl ⟨by decide, by decide, rfl⟩ rfl (Nat.le_of_ble_eq_true rfl) 2 rfl rfl 0 rfl [0, 1] [] (wr := []) rfl rfl rfl rfl rfl [0, 1] rfl [(o, .inr (2, [.ref a, .int (nI n)])), (a, .inl (E.2.1, 14, .inl (aN Cd)))] rfl rfl [.int (nI (v % 10)), .int (nI 97)] rfl 110 rfl ?_
      refine G_iadd C dX2_byteAt_110 (v := nI (97 + (v % 10))) (nI_add _ _) 111 rfl ?_
      exact G_iret C hr dX2_byteAt_111 rfl () trivial (by simp [lb, hs]) rfl
    · refine G_aload_n C dX2_byteAt_0 rfl 1 rfl ?_
      refine G_iload_n C dX2_byteAt_1 rfl 2 rfl ?_
      refine G_cV C dX2_byteAt_2 (c_X2_sortAt l E o a n Cd i v (by first | assumption | omega) (by first | assumption | omega) (by first | assumption | omega)) wm_X2_37 wi_X2_sortAt wsel_X2_sortAt wn_X2 wc_X2_sortAt rfl rfl ⟨by decide, by decide, rfl⟩ rfl (Nat.le_of_ble_eq_true rfl) 2 rfl rfl 0 rfl [0, 1] [] (wr := []) rfl rfl rfl rfl rfl [0, 1] rfl [(o, .inr (2, [.ref a, .int (nI n)])), (a, .inl (E.2.1, 14, .inl (aN Cd)))] rfl rfl [.int (nI (v / 100))] rfl 5 rfl ?_
      refine G_top (v' := .int (nI 0)) (by rw [hs]) ?_
      refine G_istore_n C dX2_byteAt_5 (by decide) [(3, .int (nI 0)), (0, .ref o), (1, .int (nI i)), (2, .int (nI 4))] rfl 6 rfl ?_
      refine G_iload_n C dX2_byteAt_6 rfl 7 rfl ?_
      refine G_iconst C dX2_byteAt_7 (v := nI 3) rfl 8 rfl ?_
      refine G_icmp_ne_t C dX2_byteAt_8 17 rfl (by decide) ?_
      refine G_iload_n C dX2_byteAt_17 rfl 18 rfl ?_
      refine G_istore C dX2_byteAt_18 (by decide) [(4, .int (nI 4)), (3, .int (nI 0)), (0, .ref o), (1, .int (nI i)), (2, .int (nI 4))] rfl 20 rfl ?_
      refine G_iload C dX2_byteAt_20 rfl 22 rfl ?_
      refine G_iconst C dX2_byteAt_22 (v := nI 2) rfl 23 rfl ?_
      refine G_icmp_lt_f C dX2_byteAt_23 39 rfl 26 rfl (by decide) ?_
      refine G_iload_n C dX2_byteAt_26 rfl 27 rfl ?_
      refine G_iconst C dX2_byteAt_27 (v := nI 1) rfl 28 rfl ?_
      refine G_icmp_eq_f C dX2_byteAt_28 36 rfl 31 rfl (by decide) ?_
      refine G_iload_n C dX2_byteAt_31 rfl 32 rfl ?_
      refine G_iconst C dX2_byteAt_32 (v := nI 3) rfl 33 rfl ?_
      refine G_icmp_ne_t C dX2_byteAt_33 39 rfl (by decide) ?_
      refine G_iload C dX2_byteAt_39 rfl 41 rfl ?_
      refine G_tabOut C dX2_byteAt_41 (by decide) 112 rfl ?_
      refine G_bipush C dX2_byteAt_112 (v := nI 59) (by decide) 114 rfl ?_
      exact G_iret C hr dX2_byteAt_114 rfl () trivial (by simp [lb, hs]) rfl
  · have hk2 : k < 4 := by simp only [ll, hs] at hk; simpa using hk
    rcases (show k = 0 ∨ k = 1 ∨ k = 2 ∨ k = 3 by omega) with rfl | rfl | rfl | rfl
    · refine G_aload_n C dX2_byteAt_0 rfl 1 rfl ?_
      refine G_iload_n C dX2_byteAt_1 rfl 2 rfl ?_
      refine G_cV C dX2_byteAt_2 (c_X2_sortAt l E o a n Cd i v (by first | assumption | omega) (by first | assumption | omega) (by first | assumption | omega)) wm_X2_37 wi_X2_sortAt wsel_X2_sortAt wn_X2 wc_X2_sortAt rfl rfl ⟨by decide, by decide, rfl⟩ rfl (Nat.le_of_ble_eq_true rfl) 2 rfl rfl 0 rfl [0, 1] [] (wr := []) rfl rfl rfl rfl rfl [0, 1] rfl [(o, .inr (2, [.ref a, .int (nI n)])), (a, .inl (E.2.1, 14, .inl (aN Cd)))] rfl rfl [.int (nI (v / 100))] rfl 5 rfl ?_
      refine G_top (v' := .int (nI 1)) (by rw [hs]) ?_
      refine G_istore_n C dX2_byteAt_5 (by decide) [(3, .int (nI 1)), (0, .ref o), (1, .int (nI i)), (2, .int (nI 0))] rfl 6 rfl ?_
      refine G_iload_n C dX2_byteAt_6 rfl 7 rfl ?_
      refine G_iconst C dX2_byteAt_7 (v := nI 3) rfl 8 rfl ?_
      refine G_icmp_ne_t C dX2_byteAt_8 17 rfl (by decide) ?_
      refine G_iload_n C dX2_byteAt_17 rfl 18 rfl ?_
      refine G_istore C dX2_byteAt_18 (by decide) [(4, .int (nI 0)), (3, .int (nI 1)), (0, .ref o), (1, .int (nI i)), (2, .int (nI 0))] rfl 20 rfl ?_
      refine G_iload C dX2_byteAt_20 rfl 22 rfl ?_
      refine G_iconst C dX2_byteAt_22 (v := nI 2) rfl 23 rfl ?_
      refine G_icmp_lt_t C dX2_byteAt_23 39 rfl (by decide) ?_
      refine G_iload C dX2_byteAt_39 rfl 41 rfl ?_
      refine G_tabIn C dX2_byteAt_41 (38) (by decide) (by decide) rfl 79 rfl ?_
      refine G_bipush C dX2_byteAt_79 (v := nI 97) (by decide) 81 rfl ?_
      refine G_aload_n C dX2_byteAt_81 rfl 82 rfl ?_
      refine G_iload_n C dX2_byteAt_82 rfl 83 rfl ?_
      refine G_cV C dX2_byteAt_83 (c_X2_leftAt l E o a n Cd i v (by first | assumption | omega) (by first | assumption | omega) (by first | assumption | omega)) wm_X2_40 wi_X2_leftAt wsel_X2_leftAt wn_X2 wc_X2_leftAt rfl rfl ⟨by decide, by decide, rfl⟩ rfl (Nat.le_of_ble_eq_true rfl) 2 rfl rfl 0 rfl [0, 1] [] (wr := []) rfl rfl rfl rfl rfl [0, 1] rfl [(o, .inr (2, [.ref a, .int (nI n)])), (a, .inl (E.2.1, 14, .inl (aN Cd)))] rfl rfl [.int (nI (v / 10 % 10)), .int (nI 97)] rfl 86 rfl ?_
      refine G_iadd C dX2_byteAt_86 (v := nI (97 + (v / 10 % 10))) (nI_add _ _) 87 rfl ?_
      exact G_iret C hr dX2_byteAt_87 rfl () trivial (by simp [lb, hs]) rfl
    · refine G_aload_n C dX2_byteAt_0 rfl 1 rfl ?_
      refine G_iload_n C dX2_byteAt_1 rfl 2 rfl ?_
      refine G_cV C dX2_byteAt_2 (c_X2_sortAt l E o a n Cd i v (by first | assumption | omega) (by first | assumption | omega) (by first | assumption | omega)) wm_X2_37 wi_X2_sortAt wsel_X2_sortAt wn_X2 wc_X2_sortAt rfl rfl ⟨by decide, by decide, rfl⟩ rfl (Nat.le_of_ble_eq_true rfl) 2 rfl rfl 0 rfl [0, 1] [] (wr := []) rfl rfl rfl rfl rfl [0, 1] rfl [(o, .inr (2, [.ref a, .int (nI n)])), (a, .inl (E.2.1, 14, .inl (aN Cd)))] rfl rfl [.int (nI (v / 100))] rfl 5 rfl ?_
      refine G_top (v' := .int (nI 1)) (by rw [hs]) ?_
      refine G_istore_n C dX2_byteAt_5 (by decide) [(3, .int (nI 1)), (0, .ref o), (1, .int (nI i)), (2, .int (nI 1))] rfl 6 rfl ?_
      refine G_iload_n C dX2_byteAt_6 rfl 7 rfl ?_
      refine G_iconst C dX2_byteAt_7 (v := nI 3) rfl 8 rfl ?_
      refine G_icmp_ne_t C dX2_byteAt_8 17 rfl (by decide) ?_
      refine G_iload_n C dX2_byteAt_17 rfl 18 rfl ?_
      refine G_istore C dX2_byteAt_18 (by decide) [(4, .int (nI 1)), (3, .int (nI 1)), (0, .ref o), (1, .int (nI i)), (2, .int (nI 1))] rfl 20 rfl ?_
      refine G_iload C dX2_byteAt_20 rfl 22 rfl ?_
      refine G_iconst C dX2_byteAt_22 (v := nI 2) rfl 23 rfl ?_
      refine G_icmp_lt_t C dX2_byteAt_23 39 rfl (by decide) ?_
      refine G_iload C dX2_byteAt_39 rfl 41 rfl ?_
      refine G_tabIn C dX2_byteAt_41 (47) (by decide) (by decide) rfl 88 rfl ?_
      refine G_bipush C dX2_byteAt_88 (v := nI 61) (by decide) 90 rfl ?_
      exact G_iret C hr dX2_byteAt_90 rfl () trivial (by simp [lb, hs]) rfl
    · refine G_aload_n C dX2_byteAt_0 rfl 1 rfl ?_
      refine G_iload_n C dX2_byteAt_1 rfl 2 rfl ?_
      refine G_cV C dX2_byteAt_2 (c_X2_sortAt l E o a n Cd i v (by first | assumption | omega) (by first | assumption | omega) (by first | assumption | omega)) wm_X2_37 wi_X2_sortAt wsel_X2_sortAt wn_X2 wc_X2_sortAt rfl rfl ⟨by decide, by decide, rfl⟩ rfl (Nat.le_of_ble_eq_true rfl) 2 rfl rfl 0 rfl [0, 1] [] (wr := []) rfl rfl rfl rfl rfl [0, 1] rfl [(o, .inr (2, [.ref a, .int (nI n)])), (a, .inl (E.2.1, 14, .inl (aN Cd)))] rfl rfl [.int (nI (v / 100))] rfl 5 rfl ?_
      refine G_top (v' := .int (nI 1)) (by rw [hs]) ?_
      refine G_istore_n C dX2_byteAt_5 (by decide) [(3, .int (nI 1)), (0, .ref o), (1, .int (nI i)), (2, .int (nI 2))] rfl 6 rfl ?_
      refine G_iload_n C dX2_byteAt_6 rfl 7 rfl ?_
      refine G_iconst C dX2_byteAt_7 (v := nI 3) rfl 8 rfl ?_
      refine G_icmp_ne_t C dX2_byteAt_8 17 rfl (by decide) ?_
      refine G_iload_n C dX2_byteAt_17 rfl 18 rfl ?_
      refine G_istore C dX2_byteAt_18 (by decide) [(4, .int (nI 2)), (3, .int (nI 1)), (0, .ref o), (1, .int (nI i)), (2, .int (nI 2))] rfl 20 rfl ?_
      refine G_iload C dX2_byteAt_20 rfl 22 rfl ?_
      refine G_iconst C dX2_byteAt_22 (v := nI 2) rfl 23 rfl ?_
      refine G_icmp_lt_f C dX2_byteAt_23 39 rfl 26 rfl (by decide) ?_
      refine G_iload_n C dX2_byteAt_26 rfl 27 rfl ?_
      refine G_iconst C dX2_byteAt_27 (v := nI 1) rfl 28 rfl ?_
      refine G_icmp_eq_t C dX2_byteAt_28 36 rfl (by decide) ?_
      refine G_iinc C dX2_byteAt_36 0 rfl (by decide) (by decide) [(4, .int (nI 3)), (3, .int (nI 1)), (0, .ref o), (1, .int (nI i)), (2, .int (nI 2))] rfl 39 rfl ?_
      refine G_iload C dX2_byteAt_39 rfl 41 rfl ?_
      refine G_tabIn C dX2_byteAt_41 (62) (by decide) (by decide) rfl 103 rfl ?_
      refine G_bipush C dX2_byteAt_103 (v := nI 97) (by decide) 105 rfl ?_
      refine G_aload_n C dX2_byteAt_105 rfl 106 rfl ?_
      refine G_iload_n C dX2_byteAt_106 rfl 107 rfl ?_
      refine G_cV C dX2_byteAt_107 (c_X2_rightAt l E o a n Cd i v (by first | assumption | omega) (by first | assumption | omega) (by first | assumption | omega)) wm_X2_43 wi_X2_rightAt wsel_X2_rightAt wn_X2 wc_X2_rightAt rfl rfl ⟨by decide, by decide, rfl⟩ rfl (Nat.le_of_ble_eq_true rfl) 2 rfl rfl 0 rfl [0, 1] [] (wr := []) rfl rfl rfl rfl rfl [0, 1] rfl [(o, .inr (2, [.ref a, .int (nI n)])), (a, .inl (E.2.1, 14, .inl (aN Cd)))] rfl rfl [.int (nI (v % 10)), .int (nI 97)] rfl 110 rfl ?_
      refine G_iadd C dX2_byteAt_110 (v := nI (97 + (v % 10))) (nI_add _ _) 111 rfl ?_
      exact G_iret C hr dX2_byteAt_111 rfl () trivial (by simp [lb, hs]) rfl
    · refine G_aload_n C dX2_byteAt_0 rfl 1 rfl ?_
      refine G_iload_n C dX2_byteAt_1 rfl 2 rfl ?_
      refine G_cV C dX2_byteAt_2 (c_X2_sortAt l E o a n Cd i v (by first | assumption | omega) (by first | assumption | omega) (by first | assumption | omega)) wm_X2_37 wi_X2_sortAt wsel_X2_sortAt wn_X2 wc_X2_sortAt rfl rfl ⟨by decide, by decide, rfl⟩ rfl (Nat.le_of_ble_eq_true rfl) 2 rfl rfl 0 rfl [0, 1] [] (wr := []) rfl rfl rfl rfl rfl [0, 1] rfl [(o, .inr (2, [.ref a, .int (nI n)])), (a, .inl (E.2.1, 14, .inl (aN Cd)))] rfl rfl [.int (nI (v / 100))] rfl 5 rfl ?_
      refine G_top (v' := .int (nI 1)) (by rw [hs]) ?_
      refine G_istore_n C dX2_byteAt_5 (by decide) [(3, .int (nI 1)), (0, .ref o), (1, .int (nI i)), (2, .int (nI 3))] rfl 6 rfl ?_
      refine G_iload_n C dX2_byteAt_6 rfl 7 rfl ?_
      refine G_iconst C dX2_byteAt_7 (v := nI 3) rfl 8 rfl ?_
      refine G_icmp_ne_t C dX2_byteAt_8 17 rfl (by decide) ?_
      refine G_iload_n C dX2_byteAt_17 rfl 18 rfl ?_
      refine G_istore C dX2_byteAt_18 (by decide) [(4, .int (nI 3)), (3, .int (nI 1)), (0, .ref o), (1, .int (nI i)), (2, .int (nI 3))] rfl 20 rfl ?_
      refine G_iload C dX2_byteAt_20 rfl 22 rfl ?_
      refine G_iconst C dX2_byteAt_22 (v := nI 2) rfl 23 rfl ?_
      refine G_icmp_lt_f C dX2_byteAt_23 39 rfl 26 rfl (by decide) ?_
      refine G_iload_n C dX2_byteAt_26 rfl 27 rfl ?_
      refine G_iconst C dX2_byteAt_27 (v := nI 1) rfl 28 rfl ?_
      refine G_icmp_eq_t C dX2_byteAt_28 36 rfl (by decide) ?_
      refine G_iinc C dX2_byteAt_36 0 rfl (by decide) (by decide) [(4, .int (nI 4)), (3, .int (nI 1)), (0, .ref o), (1, .int (nI i)), (2, .int (nI 3))] rfl 39 rfl ?_
      refine G_iload C dX2_byteAt_39 rfl 41 rfl ?_
      refine G_tabOut C dX2_byteAt_41 (by decide) 112 rfl ?_
      refine G_bipush C dX2_byteAt_112 (v := nI 59) (by decide) 114 rfl ?_
      exact G_iret C hr dX2_byteAt_114 rfl () trivial (by simp [lb, hs]) rfl
  · have hk2 : k < 5 := by simp only [ll, hs] at hk; simpa using hk
    rcases (show k = 0 ∨ k = 1 ∨ k = 2 ∨ k = 3 ∨ k = 4 by omega) with rfl | rfl | rfl | rfl | rfl
    · refine G_aload_n C dX2_byteAt_0 rfl 1 rfl ?_
      refine G_iload_n C dX2_byteAt_1 rfl 2 rfl ?_
      refine G_cV C dX2_byteAt_2 (c_X2_sortAt l E o a n Cd i v (by first | assumption | omega) (by first | assumption | omega) (by first | assumption | omega)) wm_X2_37 wi_X2_sortAt wsel_X2_sortAt wn_X2 wc_X2_sortAt rfl rfl ⟨by decide, by decide, rfl⟩ rfl (Nat.le_of_ble_eq_true rfl) 2 rfl rfl 0 rfl [0, 1] [] (wr := []) rfl rfl rfl rfl rfl [0, 1] rfl [(o, .inr (2, [.ref a, .int (nI n)])), (a, .inl (E.2.1, 14, .inl (aN Cd)))] rfl rfl [.int (nI (v / 100))] rfl 5 rfl ?_
      refine G_top (v' := .int (nI 2)) (by rw [hs]) ?_
      refine G_istore_n C dX2_byteAt_5 (by decide) [(3, .int (nI 2)), (0, .ref o), (1, .int (nI i)), (2, .int (nI 0))] rfl 6 rfl ?_
      refine G_iload_n C dX2_byteAt_6 rfl 7 rfl ?_
      refine G_iconst C dX2_byteAt_7 (v := nI 3) rfl 8 rfl ?_
      refine G_icmp_ne_t C dX2_byteAt_8 17 rfl (by decide) ?_
      refine G_iload_n C dX2_byteAt_17 rfl 18 rfl ?_
      refine G_istore C dX2_byteAt_18 (by decide) [(4, .int (nI 0)), (3, .int (nI 2)), (0, .ref o), (1, .int (nI i)), (2, .int (nI 0))] rfl 20 rfl ?_
      refine G_iload C dX2_byteAt_20 rfl 22 rfl ?_
      refine G_iconst C dX2_byteAt_22 (v := nI 2) rfl 23 rfl ?_
      refine G_icmp_lt_t C dX2_byteAt_23 39 rfl (by decide) ?_
      refine G_iload C dX2_byteAt_39 rfl 41 rfl ?_
      refine G_tabIn C dX2_byteAt_41 (38) (by decide) (by decide) rfl 79 rfl ?_
      refine G_bipush C dX2_byteAt_79 (v := nI 97) (by decide) 81 rfl ?_
      refine G_aload_n C dX2_byteAt_81 rfl 82 rfl ?_
      refine G_iload_n C dX2_byteAt_82 rfl 83 rfl ?_
      refine G_cV C dX2_byteAt_83 (c_X2_leftAt l E o a n Cd i v (by first | assumption | omega) (by first | assumption | omega) (by first | assumption | omega)) wm_X2_40 wi_X2_leftAt wsel_X2_leftAt wn_X2 wc_X2_leftAt rfl rfl ⟨by decide, by decide, rfl⟩ rfl (Nat.le_of_ble_eq_true rfl) 2 rfl rfl 0 rfl [0, 1] [] (wr := []) rfl rfl rfl rfl rfl [0, 1] rfl [(o, .inr (2, [.ref a, .int (nI n)])), (a, .inl (E.2.1, 14, .inl (aN Cd)))] rfl rfl [.int (nI (v / 10 % 10)), .int (nI 97)] rfl 86 rfl ?_
      refine G_iadd C dX2_byteAt_86 (v := nI (97 + (v / 10 % 10))) (nI_add _ _) 87 rfl ?_
      exact G_iret C hr dX2_byteAt_87 rfl () trivial (by simp [lb, hs]) rfl
    · refine G_aload_n C dX2_byteAt_0 rfl 1 rfl ?_
      refine G_iload_n C dX2_byteAt_1 rfl 2 rfl ?_
      refine G_cV C dX2_byteAt_2 (c_X2_sortAt l E o a n Cd i v (by first | assumption | omega) (by first | assumption | omega) (by first | assumption | omega)) wm_X2_37 wi_X2_sortAt wsel_X2_sortAt wn_X2 wc_X2_sortAt rfl rfl ⟨by decide, by decide, rfl⟩ rfl (Nat.le_of_ble_eq_true rfl) 2 rfl rfl 0 rfl [0, 1] [] (wr := []) rfl rfl rfl rfl rfl [0, 1] rfl [(o, .inr (2, [.ref a, .int (nI n)])), (a, .inl (E.2.1, 14, .inl (aN Cd)))] rfl rfl [.int (nI (v / 100))] rfl 5 rfl ?_
      refine G_top (v' := .int (nI 2)) (by rw [hs]) ?_
      refine G_istore_n C dX2_byteAt_5 (by decide) [(3, .int (nI 2)), (0, .ref o), (1, .int (nI i)), (2, .int (nI 1))] rfl 6 rfl ?_
      refine G_iload_n C dX2_byteAt_6 rfl 7 rfl ?_
      refine G_iconst C dX2_byteAt_7 (v := nI 3) rfl 8 rfl ?_
      refine G_icmp_ne_t C dX2_byteAt_8 17 rfl (by decide) ?_
      refine G_iload_n C dX2_byteAt_17 rfl 18 rfl ?_
      refine G_istore C dX2_byteAt_18 (by decide) [(4, .int (nI 1)), (3, .int (nI 2)), (0, .ref o), (1, .int (nI i)), (2, .int (nI 1))] rfl 20 rfl ?_
      refine G_iload C dX2_byteAt_20 rfl 22 rfl ?_
      refine G_iconst C dX2_byteAt_22 (v := nI 2) rfl 23 rfl ?_
      refine G_icmp_lt_t C dX2_byteAt_23 39 rfl (by decide) ?_
      refine G_iload C dX2_byteAt_39 rfl 41 rfl ?_
      refine G_tabIn C dX2_byteAt_41 (47) (by decide) (by decide) rfl 88 rfl ?_
      refine G_bipush C dX2_byteAt_88 (v := nI 61) (by decide) 90 rfl ?_
      exact G_iret C hr dX2_byteAt_90 rfl () trivial (by simp [lb, hs]) rfl
    · refine G_aload_n C dX2_byteAt_0 rfl 1 rfl ?_
      refine G_iload_n C dX2_byteAt_1 rfl 2 rfl ?_
      refine G_cV C dX2_byteAt_2 (c_X2_sortAt l E o a n Cd i v (by first | assumption | omega) (by first | assumption | omega) (by first | assumption | omega)) wm_X2_37 wi_X2_sortAt wsel_X2_sortAt wn_X2 wc_X2_sortAt rfl rfl ⟨by decide, by decide, rfl⟩ rfl (Nat.le_of_ble_eq_true rfl) 2 rfl rfl 0 rfl [0, 1] [] (wr := []) rfl rfl rfl rfl rfl [0, 1] rfl [(o, .inr (2, [.ref a, .int (nI n)])), (a, .inl (E.2.1, 14, .inl (aN Cd)))] rfl rfl [.int (nI (v / 100))] rfl 5 rfl ?_
      refine G_top (v' := .int (nI 2)) (by rw [hs]) ?_
      refine G_istore_n C dX2_byteAt_5 (by decide) [(3, .int (nI 2)), (0, .ref o), (1, .int (nI i)), (2, .int (nI 2))] rfl 6 rfl ?_
      refine G_iload_n C dX2_byteAt_6 rfl 7 rfl ?_
      refine G_iconst C dX2_byteAt_7 (v := nI 3) rfl 8 rfl ?_
      refine G_icmp_ne_t C dX2_byteAt_8 17 rfl (by decide) ?_
      refine G_iload_n C dX2_byteAt_17 rfl 18 rfl ?_
      refine G_istore C dX2_byteAt_18 (by decide) [(4, .int (nI 2)), (3, .int (nI 2)), (0, .ref o), (1, .int (nI i)), (2, .int (nI 2))] rfl 20 rfl ?_
      refine G_iload C dX2_byteAt_20 rfl 22 rfl ?_
      refine G_iconst C dX2_byteAt_22 (v := nI 2) rfl 23 rfl ?_
      refine G_icmp_lt_f C dX2_byteAt_23 39 rfl 26 rfl (by decide) ?_
      refine G_iload_n C dX2_byteAt_26 rfl 27 rfl ?_
      refine G_iconst C dX2_byteAt_27 (v := nI 1) rfl 28 rfl ?_
      refine G_icmp_eq_f C dX2_byteAt_28 36 rfl 31 rfl (by decide) ?_
      refine G_iload_n C dX2_byteAt_31 rfl 32 rfl ?_
      refine G_iconst C dX2_byteAt_32 (v := nI 3) rfl 33 rfl ?_
      refine G_icmp_ne_t C dX2_byteAt_33 39 rfl (by decide) ?_
      refine G_iload C dX2_byteAt_39 rfl 41 rfl ?_
      refine G_tabIn C dX2_byteAt_41 (50) (by decide) (by decide) rfl 91 rfl ?_
      refine G_iload_n C dX2_byteAt_91 rfl 92 rfl ?_
      refine G_if_ne_t C dX2_byteAt_92 100 rfl (by decide) ?_
      refine G_bipush C dX2_byteAt_100 (v := nI 42) (by decide) 102 rfl ?_
      exact G_iret C hr dX2_byteAt_102 rfl () trivial (by simp [lb, hs]) rfl
    · refine G_aload_n C dX2_byteAt_0 rfl 1 rfl ?_
      refine G_iload_n C dX2_byteAt_1 rfl 2 rfl ?_
      refine G_cV C dX2_byteAt_2 (c_X2_sortAt l E o a n Cd i v (by first | assumption | omega) (by first | assumption | omega) (by first | assumption | omega)) wm_X2_37 wi_X2_sortAt wsel_X2_sortAt wn_X2 wc_X2_sortAt rfl rfl ⟨by decide, by decide, rfl⟩ rfl (Nat.le_of_ble_eq_true rfl) 2 rfl rfl 0 rfl [0, 1] [] (wr := []) rfl rfl rfl rfl rfl [0, 1] rfl [(o, .inr (2, [.ref a, .int (nI n)])), (a, .inl (E.2.1, 14, .inl (aN Cd)))] rfl rfl [.int (nI (v / 100))] rfl 5 rfl ?_
      refine G_top (v' := .int (nI 2)) (by rw [hs]) ?_
      refine G_istore_n C dX2_byteAt_5 (by decide) [(3, .int (nI 2)), (0, .ref o), (1, .int (nI i)), (2, .int (nI 3))] rfl 6 rfl ?_
      refine G_iload_n C dX2_byteAt_6 rfl 7 rfl ?_
      refine G_iconst C dX2_byteAt_7 (v := nI 3) rfl 8 rfl ?_
      refine G_icmp_ne_t C dX2_byteAt_8 17 rfl (by decide) ?_
      refine G_iload_n C dX2_byteAt_17 rfl 18 rfl ?_
      refine G_istore C dX2_byteAt_18 (by decide) [(4, .int (nI 3)), (3, .int (nI 2)), (0, .ref o), (1, .int (nI i)), (2, .int (nI 3))] rfl 20 rfl ?_
      refine G_iload C dX2_byteAt_20 rfl 22 rfl ?_
      refine G_iconst C dX2_byteAt_22 (v := nI 2) rfl 23 rfl ?_
      refine G_icmp_lt_f C dX2_byteAt_23 39 rfl 26 rfl (by decide) ?_
      refine G_iload_n C dX2_byteAt_26 rfl 27 rfl ?_
      refine G_iconst C dX2_byteAt_27 (v := nI 1) rfl 28 rfl ?_
      refine G_icmp_eq_f C dX2_byteAt_28 36 rfl 31 rfl (by decide) ?_
      refine G_iload_n C dX2_byteAt_31 rfl 32 rfl ?_
      refine G_iconst C dX2_byteAt_32 (v := nI 3) rfl 33 rfl ?_
      refine G_icmp_ne_t C dX2_byteAt_33 39 rfl (by decide) ?_
      refine G_iload C dX2_byteAt_39 rfl 41 rfl ?_
      refine G_tabIn C dX2_byteAt_41 (62) (by decide) (by decide) rfl 103 rfl ?_
      refine G_bipush C dX2_byteAt_103 (v := nI 97) (by decide) 105 rfl ?_
      refine G_aload_n C dX2_byteAt_105 rfl 106 rfl ?_
      refine G_iload_n C dX2_byteAt_106 rfl 107 rfl ?_
      refine G_cV C dX2_byteAt_107 (c_X2_rightAt l E o a n Cd i v (by first | assumption | omega) (by first | assumption | omega) (by first | assumption | omega)) wm_X2_43 wi_X2_rightAt wsel_X2_rightAt wn_X2 wc_X2_rightAt rfl rfl ⟨by decide, by decide, rfl⟩ rfl (Nat.le_of_ble_eq_true rfl) 2 rfl rfl 0 rfl [0, 1] [] (wr := []) rfl rfl rfl rfl rfl [0, 1] rfl [(o, .inr (2, [.ref a, .int (nI n)])), (a, .inl (E.2.1, 14, .inl (aN Cd)))] rfl rfl [.int (nI (v % 10)), .int (nI 97)] rfl 110 rfl ?_
      refine G_iadd C dX2_byteAt_110 (v := nI (97 + (v % 10))) (nI_add _ _) 111 rfl ?_
      exact G_iret C hr dX2_byteAt_111 rfl () trivial (by simp [lb, hs]) rfl
    · refine G_aload_n C dX2_byteAt_0 rfl 1 rfl ?_
      refine G_iload_n C dX2_byteAt_1 rfl 2 rfl ?_
      refine G_cV C dX2_byteAt_2 (c_X2_sortAt l E o a n Cd i v (by first | assumption | omega) (by first | assumption | omega) (by first | assumption | omega)) wm_X2_37 wi_X2_sortAt wsel_X2_sortAt wn_X2 wc_X2_sortAt rfl rfl ⟨by decide, by decide, rfl⟩ rfl (Nat.le_of_ble_eq_true rfl) 2 rfl rfl 0 rfl [0, 1] [] (wr := []) rfl rfl rfl rfl rfl [0, 1] rfl [(o, .inr (2, [.ref a, .int (nI n)])), (a, .inl (E.2.1, 14, .inl (aN Cd)))] rfl rfl [.int (nI (v / 100))] rfl 5 rfl ?_
      refine G_top (v' := .int (nI 2)) (by rw [hs]) ?_
      refine G_istore_n C dX2_byteAt_5 (by decide) [(3, .int (nI 2)), (0, .ref o), (1, .int (nI i)), (2, .int (nI 4))] rfl 6 rfl ?_
      refine G_iload_n C dX2_byteAt_6 rfl 7 rfl ?_
      refine G_iconst C dX2_byteAt_7 (v := nI 3) rfl 8 rfl ?_
      refine G_icmp_ne_t C dX2_byteAt_8 17 rfl (by decide) ?_
      refine G_iload_n C dX2_byteAt_17 rfl 18 rfl ?_
      refine G_istore C dX2_byteAt_18 (by decide) [(4, .int (nI 4)), (3, .int (nI 2)), (0, .ref o), (1, .int (nI i)), (2, .int (nI 4))] rfl 20 rfl ?_
      refine G_iload C dX2_byteAt_20 rfl 22 rfl ?_
      refine G_iconst C dX2_byteAt_22 (v := nI 2) rfl 23 rfl ?_
      refine G_icmp_lt_f C dX2_byteAt_23 39 rfl 26 rfl (by decide) ?_
      refine G_iload_n C dX2_byteAt_26 rfl 27 rfl ?_
      refine G_iconst C dX2_byteAt_27 (v := nI 1) rfl 28 rfl ?_
      refine G_icmp_eq_f C dX2_byteAt_28 36 rfl 31 rfl (by decide) ?_
      refine G_iload_n C dX2_byteAt_31 rfl 32 rfl ?_
      refine G_iconst C dX2_byteAt_32 (v := nI 3) rfl 33 rfl ?_
      refine G_icmp_ne_t C dX2_byteAt_33 39 rfl (by decide) ?_
      refine G_iload C dX2_byteAt_39 rfl 41 rfl ?_
      refine G_tabOut C dX2_byteAt_41 (by decide) 112 rfl ?_
      refine G_bipush C dX2_byteAt_112 (v := nI 59) (by decide) 114 rfl ?_
      exact G_iret C hr dX2_byteAt_114 rfl () trivial (by simp [lb, hs]) rfl
  · have hk2 : k < 5 := by simp only [ll, hs] at hk; simpa using hk
    rcases (show k = 0 ∨ k = 1 ∨ k = 2 ∨ k = 3 ∨ k = 4 by omega) with rfl | rfl | rfl | rfl | rfl
    · refine G_aload_n C dX2_byteAt_0 rfl 1 rfl ?_
      refine G_iload_n C dX2_byteAt_1 rfl 2 rfl ?_
      refine G_cV C dX2_byteAt_2 (c_X2_sortAt l E o a n Cd i v (by first | assumption | omega) (by first | assumption | omega) (by first | assumption | omega)) wm_X2_37 wi_X2_sortAt wsel_X2_sortAt wn_X2 wc_X2_sortAt rfl rfl ⟨by decide, by decide, rfl⟩ rfl (Nat.le_of_ble_eq_true rfl) 2 rfl rfl 0 rfl [0, 1] [] (wr := []) rfl rfl rfl rfl rfl [0, 1] rfl [(o, .inr (2, [.ref a, .int (nI n)])), (a, .inl (E.2.1, 14, .inl (aN Cd)))] rfl rfl [.int (nI (v / 100))] rfl 5 rfl ?_
      refine G_top (v' := .int (nI 3)) (by rw [hs]) ?_
      refine G_istore_n C dX2_byteAt_5 (by decide) [(3, .int (nI 3)), (0, .ref o), (1, .int (nI i)), (2, .int (nI 0))] rfl 6 rfl ?_
      refine G_iload_n C dX2_byteAt_6 rfl 7 rfl ?_
      refine G_iconst C dX2_byteAt_7 (v := nI 3) rfl 8 rfl ?_
      refine G_icmp_ne_f C dX2_byteAt_8 17 rfl 11 rfl (by decide) ?_
      refine G_iload_n C dX2_byteAt_11 rfl 12 rfl ?_
      refine G_iconst C dX2_byteAt_12 (v := nI 1) rfl 13 rfl ?_
      refine G_isub C dX2_byteAt_13 (v := (-1 : Int32)) (by decide) 14 rfl ?_
      refine G_goto C dX2_byteAt_14 18 rfl ?_
      refine G_istore C dX2_byteAt_18 (by decide) [(4, .int (-1 : Int32)), (3, .int (nI 3)), (0, .ref o), (1, .int (nI i)), (2, .int (nI 0))] rfl 20 rfl ?_
      refine G_iload C dX2_byteAt_20 rfl 22 rfl ?_
      refine G_iconst C dX2_byteAt_22 (v := nI 2) rfl 23 rfl ?_
      refine G_icmp_lt_t C dX2_byteAt_23 39 rfl (by decide) ?_
      refine G_iload C dX2_byteAt_39 rfl 41 rfl ?_
      refine G_tabIn C dX2_byteAt_41 (35) (by decide) (by decide) rfl 76 rfl ?_
      refine G_bipush C dX2_byteAt_76 (v := nI 42) (by decide) 78 rfl ?_
      exact G_iret C hr dX2_byteAt_78 rfl () trivial (by simp [lb, hs]) rfl
    · refine G_aload_n C dX2_byteAt_0 rfl 1 rfl ?_
      refine G_iload_n C dX2_byteAt_1 rfl 2 rfl ?_
      refine G_cV C dX2_byteAt_2 (c_X2_sortAt l E o a n Cd i v (by first | assumption | omega) (by first | assumption | omega) (by first | assumption | omega)) wm_X2_37 wi_X2_sortAt wsel_X2_sortAt wn_X2 wc_X2_sortAt rfl rfl ⟨by decide, by decide, rfl⟩ rfl (Nat.le_of_ble_eq_true rfl) 2 rfl rfl 0 rfl [0, 1] [] (wr := []) rfl rfl rfl rfl rfl [0, 1] rfl [(o, .inr (2, [.ref a, .int (nI n)])), (a, .inl (E.2.1, 14, .inl (aN Cd)))] rfl rfl [.int (nI (v / 100))] rfl 5 rfl ?_
      refine G_top (v' := .int (nI 3)) (by rw [hs]) ?_
      refine G_istore_n C dX2_byteAt_5 (by decide) [(3, .int (nI 3)), (0, .ref o), (1, .int (nI i)), (2, .int (nI 1))] rfl 6 rfl ?_
      refine G_iload_n C dX2_byteAt_6 rfl 7 rfl ?_
      refine G_iconst C dX2_byteAt_7 (v := nI 3) rfl 8 rfl ?_
      refine G_icmp_ne_f C dX2_byteAt_8 17 rfl 11 rfl (by decide) ?_
      refine G_iload_n C dX2_byteAt_11 rfl 12 rfl ?_
      refine G_iconst C dX2_byteAt_12 (v := nI 1) rfl 13 rfl ?_
      refine G_isub C dX2_byteAt_13 (v := nI 0) (by decide) 14 rfl ?_
      refine G_goto C dX2_byteAt_14 18 rfl ?_
      refine G_istore C dX2_byteAt_18 (by decide) [(4, .int (nI 0)), (3, .int (nI 3)), (0, .ref o), (1, .int (nI i)), (2, .int (nI 1))] rfl 20 rfl ?_
      refine G_iload C dX2_byteAt_20 rfl 22 rfl ?_
      refine G_iconst C dX2_byteAt_22 (v := nI 2) rfl 23 rfl ?_
      refine G_icmp_lt_t C dX2_byteAt_23 39 rfl (by decide) ?_
      refine G_iload C dX2_byteAt_39 rfl 41 rfl ?_
      refine G_tabIn C dX2_byteAt_41 (38) (by decide) (by decide) rfl 79 rfl ?_
      refine G_bipush C dX2_byteAt_79 (v := nI 97) (by decide) 81 rfl ?_
      refine G_aload_n C dX2_byteAt_81 rfl 82 rfl ?_
      refine G_iload_n C dX2_byteAt_82 rfl 83 rfl ?_
      refine G_cV C dX2_byteAt_83 (c_X2_leftAt l E o a n Cd i v (by first | assumption | omega) (by first | assumption | omega) (by first | assumption | omega)) wm_X2_40 wi_X2_leftAt wsel_X2_leftAt wn_X2 wc_X2_leftAt rfl rfl ⟨by decide, by decide, rfl⟩ rfl (Nat.le_of_ble_eq_true rfl) 2 rfl rfl 0 rfl [0, 1] [] (wr := []) rfl rfl rfl rfl rfl [0, 1] rfl [(o, .inr (2, [.ref a, .int (nI n)])), (a, .inl (E.2.1, 14, .inl (aN Cd)))] rfl rfl [.int (nI (v / 10 % 10)), .int (nI 97)] rfl 86 rfl ?_
      refine G_iadd C dX2_byteAt_86 (v := nI (97 + (v / 10 % 10))) (nI_add _ _) 87 rfl ?_
      exact G_iret C hr dX2_byteAt_87 rfl () trivial (by simp [lb, hs]) rfl
    · refine G_aload_n C dX2_byteAt_0 rfl 1 rfl ?_
      refine G_iload_n C dX2_byteAt_1 rfl 2 rfl ?_
      refine G_cV C dX2_byteAt_2 (c_X2_sortAt l E o a n Cd i v (by first | assumption | omega) (by first | assumption | omega) (by first | assumption | omega)) wm_X2_37 wi_X2_sortAt wsel_X2_sortAt wn_X2 wc_X2_sortAt rfl rfl ⟨by decide, by decide, rfl⟩ rfl (Nat.le_of_ble_eq_true rfl) 2 rfl rfl 0 rfl [0, 1] [] (wr := []) rfl rfl rfl rfl rfl [0, 1] rfl [(o, .inr (2, [.ref a, .int (nI n)])), (a, .inl (E.2.1, 14, .inl (aN Cd)))] rfl rfl [.int (nI (v / 100))] rfl 5 rfl ?_
      refine G_top (v' := .int (nI 3)) (by rw [hs]) ?_
      refine G_istore_n C dX2_byteAt_5 (by decide) [(3, .int (nI 3)), (0, .ref o), (1, .int (nI i)), (2, .int (nI 2))] rfl 6 rfl ?_
      refine G_iload_n C dX2_byteAt_6 rfl 7 rfl ?_
      refine G_iconst C dX2_byteAt_7 (v := nI 3) rfl 8 rfl ?_
      refine G_icmp_ne_f C dX2_byteAt_8 17 rfl 11 rfl (by decide) ?_
      refine G_iload_n C dX2_byteAt_11 rfl 12 rfl ?_
      refine G_iconst C dX2_byteAt_12 (v := nI 1) rfl 13 rfl ?_
      refine G_isub C dX2_byteAt_13 (v := nI 1) (by decide) 14 rfl ?_
      refine G_goto C dX2_byteAt_14 18 rfl ?_
      refine G_istore C dX2_byteAt_18 (by decide) [(4, .int (nI 1)), (3, .int (nI 3)), (0, .ref o), (1, .int (nI i)), (2, .int (nI 2))] rfl 20 rfl ?_
      refine G_iload C dX2_byteAt_20 rfl 22 rfl ?_
      refine G_iconst C dX2_byteAt_22 (v := nI 2) rfl 23 rfl ?_
      refine G_icmp_lt_t C dX2_byteAt_23 39 rfl (by decide) ?_
      refine G_iload C dX2_byteAt_39 rfl 41 rfl ?_
      refine G_tabIn C dX2_byteAt_41 (47) (by decide) (by decide) rfl 88 rfl ?_
      refine G_bipush C dX2_byteAt_88 (v := nI 61) (by decide) 90 rfl ?_
      exact G_iret C hr dX2_byteAt_90 rfl () trivial (by simp [lb, hs]) rfl
    · refine G_aload_n C dX2_byteAt_0 rfl 1 rfl ?_
      refine G_iload_n C dX2_byteAt_1 rfl 2 rfl ?_
      refine G_cV C dX2_byteAt_2 (c_X2_sortAt l E o a n Cd i v (by first | assumption | omega) (by first | assumption | omega) (by first | assumption | omega)) wm_X2_37 wi_X2_sortAt wsel_X2_sortAt wn_X2 wc_X2_sortAt rfl rfl ⟨by decide, by decide, rfl⟩ rfl (Nat.le_of_ble_eq_true rfl) 2 rfl rfl 0 rfl [0, 1] [] (wr := []) rfl rfl rfl rfl rfl [0, 1] rfl [(o, .inr (2, [.ref a, .int (nI n)])), (a, .inl (E.2.1, 14, .inl (aN Cd)))] rfl rfl [.int (nI (v / 100))] rfl 5 rfl ?_
      refine G_top (v' := .int (nI 3)) (by rw [hs]) ?_
      refine G_istore_n C dX2_byteAt_5 (by decide) [(3, .int (nI 3)), (0, .ref o), (1, .int (nI i)), (2, .int (nI 3))] rfl 6 rfl ?_
      refine G_iload_n C dX2_byteAt_6 rfl 7 rfl ?_
      refine G_iconst C dX2_byteAt_7 (v := nI 3) rfl 8 rfl ?_
      refine G_icmp_ne_f C dX2_byteAt_8 17 rfl 11 rfl (by decide) ?_
      refine G_iload_n C dX2_byteAt_11 rfl 12 rfl ?_
      refine G_iconst C dX2_byteAt_12 (v := nI 1) rfl 13 rfl ?_
      refine G_isub C dX2_byteAt_13 (v := nI 2) (by decide) 14 rfl ?_
      refine G_goto C dX2_byteAt_14 18 rfl ?_
      refine G_istore C dX2_byteAt_18 (by decide) [(4, .int (nI 2)), (3, .int (nI 3)), (0, .ref o), (1, .int (nI i)), (2, .int (nI 3))] rfl 20 rfl ?_
      refine G_iload C dX2_byteAt_20 rfl 22 rfl ?_
      refine G_iconst C dX2_byteAt_22 (v := nI 2) rfl 23 rfl ?_
      refine G_icmp_lt_f C dX2_byteAt_23 39 rfl 26 rfl (by decide) ?_
      refine G_iload_n C dX2_byteAt_26 rfl 27 rfl ?_
      refine G_iconst C dX2_byteAt_27 (v := nI 1) rfl 28 rfl ?_
      refine G_icmp_eq_f C dX2_byteAt_28 36 rfl 31 rfl (by decide) ?_
      refine G_iload_n C dX2_byteAt_31 rfl 32 rfl ?_
      refine G_iconst C dX2_byteAt_32 (v := nI 3) rfl 33 rfl ?_
      refine G_icmp_ne_f C dX2_byteAt_33 39 rfl 36 rfl (by decide) ?_
      refine G_iinc C dX2_byteAt_36 0 rfl (by decide) (by decide) [(4, .int (nI 3)), (3, .int (nI 3)), (0, .ref o), (1, .int (nI i)), (2, .int (nI 3))] rfl 39 rfl ?_
      refine G_iload C dX2_byteAt_39 rfl 41 rfl ?_
      refine G_tabIn C dX2_byteAt_41 (62) (by decide) (by decide) rfl 103 rfl ?_
      refine G_bipush C dX2_byteAt_103 (v := nI 97) (by decide) 105 rfl ?_
      refine G_aload_n C dX2_byteAt_105 rfl 106 rfl ?_
      refine G_iload_n C dX2_byteAt_106 rfl 107 rfl ?_
      refine G_cV C dX2_byteAt_107 (c_X2_rightAt l E o a n Cd i v (by first | assumption | omega) (by first | assumption | omega) (by first | assumption | omega)) wm_X2_43 wi_X2_rightAt wsel_X2_rightAt wn_X2 wc_X2_rightAt rfl rfl ⟨by decide, by decide, rfl⟩ rfl (Nat.le_of_ble_eq_true rfl) 2 rfl rfl 0 rfl [0, 1] [] (wr := []) rfl rfl rfl rfl rfl [0, 1] rfl [(o, .inr (2, [.ref a, .int (nI n)])), (a, .inl (E.2.1, 14, .inl (aN Cd)))] rfl rfl [.int (nI (v % 10)), .int (nI 97)] rfl 110 rfl ?_
      refine G_iadd C dX2_byteAt_110 (v := nI (97 + (v % 10))) (nI_add _ _) 111 rfl ?_
      exact G_iret C hr dX2_byteAt_111 rfl () trivial (by simp [lb, hs]) rfl
    · refine G_aload_n C dX2_byteAt_0 rfl 1 rfl ?_
      refine G_iload_n C dX2_byteAt_1 rfl 2 rfl ?_
      refine G_cV C dX2_byteAt_2 (c_X2_sortAt l E o a n Cd i v (by first | assumption | omega) (by first | assumption | omega) (by first | assumption | omega)) wm_X2_37 wi_X2_sortAt wsel_X2_sortAt wn_X2 wc_X2_sortAt rfl rfl ⟨by decide, by decide, rfl⟩ rfl (Nat.le_of_ble_eq_true rfl) 2 rfl rfl 0 rfl [0, 1] [] (wr := []) rfl rfl rfl rfl rfl [0, 1] rfl [(o, .inr (2, [.ref a, .int (nI n)])), (a, .inl (E.2.1, 14, .inl (aN Cd)))] rfl rfl [.int (nI (v / 100))] rfl 5 rfl ?_
      refine G_top (v' := .int (nI 3)) (by rw [hs]) ?_
      refine G_istore_n C dX2_byteAt_5 (by decide) [(3, .int (nI 3)), (0, .ref o), (1, .int (nI i)), (2, .int (nI 4))] rfl 6 rfl ?_
      refine G_iload_n C dX2_byteAt_6 rfl 7 rfl ?_
      refine G_iconst C dX2_byteAt_7 (v := nI 3) rfl 8 rfl ?_
      refine G_icmp_ne_f C dX2_byteAt_8 17 rfl 11 rfl (by decide) ?_
      refine G_iload_n C dX2_byteAt_11 rfl 12 rfl ?_
      refine G_iconst C dX2_byteAt_12 (v := nI 1) rfl 13 rfl ?_
      refine G_isub C dX2_byteAt_13 (v := nI 3) (by decide) 14 rfl ?_
      refine G_goto C dX2_byteAt_14 18 rfl ?_
      refine G_istore C dX2_byteAt_18 (by decide) [(4, .int (nI 3)), (3, .int (nI 3)), (0, .ref o), (1, .int (nI i)), (2, .int (nI 4))] rfl 20 rfl ?_
      refine G_iload C dX2_byteAt_20 rfl 22 rfl ?_
      refine G_iconst C dX2_byteAt_22 (v := nI 2) rfl 23 rfl ?_
      refine G_icmp_lt_f C dX2_byteAt_23 39 rfl 26 rfl (by decide) ?_
      refine G_iload_n C dX2_byteAt_26 rfl 27 rfl ?_
      refine G_iconst C dX2_byteAt_27 (v := nI 1) rfl 28 rfl ?_
      refine G_icmp_eq_f C dX2_byteAt_28 36 rfl 31 rfl (by decide) ?_
      refine G_iload_n C dX2_byteAt_31 rfl 32 rfl ?_
      refine G_iconst C dX2_byteAt_32 (v := nI 3) rfl 33 rfl ?_
      refine G_icmp_ne_f C dX2_byteAt_33 39 rfl 36 rfl (by decide) ?_
      refine G_iinc C dX2_byteAt_36 0 rfl (by decide) (by decide) [(4, .int (nI 4)), (3, .int (nI 3)), (0, .ref o), (1, .int (nI i)), (2, .int (nI 4))] rfl 39 rfl ?_
      refine G_iload C dX2_byteAt_39 rfl 41 rfl ?_
      refine G_tabOut C dX2_byteAt_41 (by decide) 112 rfl ?_
      refine G_bipush C dX2_byteAt_112 (v := nI 59) (by decide) 114 rfl ?_
      exact G_iret C hr dX2_byteAt_114 rfl () trivial (by simp [lb, hs]) rfl

set_option maxHeartbeats 4000000 in
set_option maxRecDepth 100000 in
theorem c_X2_writtenByte (l : Launch) (E : gE) (o a n : Nat) (Cd : Nat → Nat) (ln : Nat → Nat) (k : Nat) (hok : lok n ln Cd) (hkb : k < 2 ^ 31) : FD l E yX2_writtenByte cX2_writtenByte 4 (some .int) { frames := 2, cells := 0, slots := 0, locals := 45 } [.ref o, .int (nI k)] [(o, .inr (2, [.ref a, .int (nI n)])), (a, .inl (E.2.1, 14, .inl (aN Cd)))] (some (.int (tI (tb ln n k)))) [(o, .inr (2, [.ref a, .int (nI n)])), (a, .inl (E.2.1, 14, .inl (aN Cd)))] := by
  refine Fn_ofL (own := RX2) (by decide) rfl rfl [(0, .ref o), (1, .int (nI k))] rfl ?_
  intro p e s m below meth c A C hr hnm
  have h14 : n ≤ 14 := hok.n
  refine G_iload_n C dX2_writtenByte_0 rfl 1 rfl ?_
  refine G_istore_n C dX2_writtenByte_1 (by decide) [(2, .int (nI k)), (0, .ref o), (1, .int (nI k))] rfl 2 rfl ?_
  refine G_iconst C dX2_writtenByte_2 (v := nI 0) rfl 3 rfl ?_
  refine G_istore_n C dX2_writtenByte_3 (by decide) [(3, .int (nI 0)), (2, .int (nI k)), (0, .ref o), (1, .int (nI k))] rfl 4 rfl ?_
  refine G_sel [1, 0, 2, 3] [(2, .int (nI k)), (3, .int (nI 0)), (0, .ref o), (1, .int (nI k))] rfl ?_
  refine G_while (X := Nat) (Wf := fun i => [(o, .inr (2, [.ref a, .int (nI n)])), (a, .inl (E.2.1, 14, .inl (aN Cd)))]) (Lf := fun i => [(2, .int (nI (k - wlen ln i))), (3, .int (nI i)), (0, .ref o), (1, .int (nI k))]) (Sf := fun _ => []) (fun i => i ≤ n ∧ wlen ln i ≤ k) (fun i => n - i) (fun i hi ih => ?_) 0 ⟨Nat.zero_le _, Nat.zero_le _⟩
  refine G_iload_n C dX2_writtenByte_4 rfl 5 rfl ?_
  refine G_aload_n C dX2_writtenByte_5 rfl 6 rfl ?_
  refine G_getf C dX2_writtenByte_6 wF_X2 wf_X2_15 (f := 1) (by decide) (ci := 2) rfl 0 rfl rfl 9 rfl ?_
  refine G_icmp_ge C dX2_writtenByte_9 42 rfl 12 rfl (nI_leI (by omega) (by omega)) (fun h_1 => ?_) (fun h_1 => ?_)
  · refine G_bipush C dX2_writtenByte_42 (v := (-5 : Int32)) (by decide) 44 rfl ?_
    exact G_iret C hr dX2_writtenByte_44 rfl () trivial (by rw [tb_none ln k n (by rw [show n = i by omega]; omega)]; rfl) rfl
  · refine G_iload_n C dX2_writtenByte_12 rfl 13 rfl ?_
    refine G_aload_n C dX2_writtenByte_13 rfl 14 rfl ?_
    refine G_iload_n C dX2_writtenByte_14 rfl 15 rfl ?_
    refine G_cV C dX2_writtenByte_15 (c_X2_lengthAt l E o a n Cd i (ln i) (by omega) (hok.c (by omega)) (hok.v (by omega))) wm_X2_29 wi_X2_lengthAt wsel_X2_lengthAt wn_X2 wc_X2_lengthAt rfl rfl ⟨by decide, by decide, rfl⟩ rfl (Nat.le_of_ble_eq_true rfl) 2 rfl rfl 0 rfl [0, 1] [] (wr := []) rfl rfl rfl rfl rfl [0, 1] rfl [(o, .inr (2, [.ref a, .int (nI n)])), (a, .inl (E.2.1, 14, .inl (aN Cd)))] rfl rfl [.int (nI (ll (ln i))), .int (nI (k - wlen ln i))] rfl 18 rfl ?_
    have hll := ll_le (ln i)
    refine G_icmp_ge C dX2_writtenByte_18 28 rfl 21 rfl (nI_leI (by omega) (by omega)) (fun h_2 => ?_) (fun h_2 => ?_)
    · refine G_iload_n C dX2_writtenByte_28 rfl 29 rfl ?_
      refine G_aload_n C dX2_writtenByte_29 rfl 30 rfl ?_
      refine G_iload_n C dX2_writtenByte_30 rfl 31 rfl ?_
      refine G_cV C dX2_writtenByte_31 (c_X2_lengthAt l E o a n Cd i (ln i) (by omega) (hok.c (by omega)) (hok.v (by omega))) wm_X2_29 wi_X2_lengthAt wsel_X2_lengthAt wn_X2 wc_X2_lengthAt rfl rfl ⟨by decide, by decide, rfl⟩ rfl (Nat.le_of_ble_eq_true rfl) 2 rfl rfl 0 rfl [0, 1] [] (wr := []) rfl rfl rfl rfl rfl [0, 1] rfl [(o, .inr (2, [.ref a, .int (nI n)])), (a, .inl (E.2.1, 14, .inl (aN Cd)))] rfl rfl [.int (nI (ll (ln i))), .int (nI (k - wlen ln i))] rfl 34 rfl ?_
      refine G_isub C dX2_writtenByte_34 (v := nI ((k - wlen ln i) - (ll (ln i)))) (pk_sub (by omega)) 35 rfl ?_
      refine G_istore_n C dX2_writtenByte_35 (by decide) [(2, .int (nI ((k - wlen ln i) - (ll (ln i))))), (3, .int (nI i)), (0, .ref o), (1, .int (nI k))] rfl 36 rfl ?_
      refine G_iinc C dX2_writtenByte_36 1 rfl (nI_1 _) (by decide) [(3, .int (nI (i + 1))), (2, .int (nI ((k - wlen ln i) - (ll (ln i))))), (0, .ref o), (1, .int (nI k))] rfl 39 rfl ?_
      refine G_goto C dX2_writtenByte_39 4 rfl ?_
      refine G_sel [1, 0, 2, 3] [(2, .int (nI ((k - wlen ln i) - (ll (ln i))))), (3, .int (nI (i + 1))), (0, .ref o), (1, .int (nI k))] rfl ?_
      refine G_eq (L' := [(2, .int (nI (k - wlen ln (i + 1)))), (3, .int (nI (i + 1))), (0, .ref o), (1, .int (nI k))]) rfl (by rw [show wlen ln (i + 1) = wlen ln i + ll (ln i) from rfl, Nat.sub_sub]) rfl ?_
      exact ih (i + 1) ⟨by omega, by simp only [wlen]; omega⟩ (by omega)
    · refine G_aload_n C dX2_writtenByte_21 rfl 22 rfl ?_
      refine G_iload_n C dX2_writtenByte_22 rfl 23 rfl ?_
      refine G_iload_n C dX2_writtenByte_23 rfl 24 rfl ?_
      refine G_cV C dX2_writtenByte_24 (c_X2_byteAt l E o a n Cd i (ln i) (k - wlen ln i) (by omega) (hok.c (by omega)) (hok.v (by omega)) (by omega)) wm_X2_33 wi_X2_byteAt wsel_X2_byteAt wn_X2 wc_X2_byteAt rfl rfl ⟨by decide, by decide, rfl⟩ rfl (Nat.le_of_ble_eq_true rfl) 2 rfl rfl 0 rfl [0, 1] [] (wr := []) rfl rfl rfl rfl rfl [0, 1] rfl [(o, .inr (2, [.ref a, .int (nI n)])), (a, .inl (E.2.1, 14, .inl (aN Cd)))] rfl rfl [.int (nI (lb (ln i) (k - wlen ln i)))] rfl 27 rfl ?_
      exact G_iret C hr dX2_writtenByte_27 rfl () trivial (by rw [show n = i + 1 + (n - i - 1) by omega, tb_found ln i k (by omega) (by simp only [wlen]; omega)]; rfl) rfl
end
section
-- a row filled
def flI (f : Nat → Int32) (v : Int32) (i : Nat) : Nat → Int32 := fun k => if k < i then v else f k
theorem flI_0 (f : Nat → Int32) (v : Int32) : flI f v 0 = f := by funext k; simp [flI]
theorem flI_s (f : Nat → Int32) (v : Int32) (i : Nat) (h : i < 2 ^ 31) : upd (flI f v i) (nI i).toNatClampNeg v = flI f v (i + 1) := by
  rw [nI_clamp h]; funext k; unfold upd flI
  by_cases hk : k = i
  · subst hk; simp
  · rw [if_neg hk]
    by_cases h2 : k < i
    · rw [if_pos h2, if_pos (by omega)]
    · rw [if_neg h2, if_neg (by omega)]
-- bits counted
def pcu (x : Nat) : Nat → Nat
  | 0 => 0
  | k + 1 => pcu x k + x / 2 ^ k % 2
def pcn (x : Nat) : Nat := pcu x 10
def bc1 (x : Int32) : Int32 := x - ((x.toUInt32 >>> ((nI 1).toUInt32 &&& Int32.toUInt32 31)).toInt32 &&& (1431655765 : Int32))
def bc2 (x : Int32) : Int32 := (x &&& (858993459 : Int32)) + ((x.toUInt32 >>> ((nI 2).toUInt32 &&& Int32.toUInt32 31)).toInt32 &&& (858993459 : Int32))
def bc3 (x : Int32) : Int32 := (x + (x.toUInt32 >>> ((nI 4).toUInt32 &&& Int32.toUInt32 31)).toInt32) &&& (252645135 : Int32)
def bc4 (x : Int32) : Int32 := x + (x.toUInt32 >>> ((nI 8).toUInt32 &&& Int32.toUInt32 31)).toInt32
def bc5 (x : Int32) : Int32 := x + (x.toUInt32 >>> ((nI 16).toUInt32 &&& Int32.toUInt32 31)).toInt32
def bc6 (x : Int32) : Int32 := x &&& nI 63
theorem bc_pcn : ∀ x, x < 1024 → bc6 (bc5 (bc4 (bc3 (bc2 (bc1 (nI x)))))) = nI (pcn x) := by decide +kernel
theorem pcu_le (x : Nat) : ∀ k, pcu x k ≤ k
  | 0 => Nat.le_refl _
  | k + 1 => by have h := pcu_le x k; simp only [pcu]; omega
theorem pcn_le (x : Nat) : pcn x ≤ 10 := pcu_le x 10
-- sets
def sok (S : Nat → Nat) : Prop := ∀ k, k < 10 → S k < 1024
def grw (a b : Nat) : Bool := decide (a ||| b ≠ a)
def uni (S : Nat → Nat) (nm : Nat) : Nat → Nat
  | 0 => 0
  | i + 1 => if nm.testBit i = true then uni S nm i ||| S i else uni S nm i
def gaS (S : Nat → Nat) (nm more i : Nat) : Nat → Nat := fun k => if k < i ∧ nm.testBit k = true then S k ||| more else S k
def gaF (S : Nat → Nat) (nm more : Nat) : Nat → Bool
  | 0 => false
  | i + 1 => gaF S nm more i || (nm.testBit i && grw (S i) more)
def fS (v : Nat) (S : Nat → Nat) : Nat → Nat :=
  if v / 100 = 0 then va_up S (v / 10 % 10) (S (v / 10 % 10) ||| 2 ^ (v % 10))
  else if v / 100 = 1 then va_up S (v / 10 % 10) (S (v / 10 % 10) ||| S (v % 10))
  else if v / 100 = 2 then va_up S (v / 10 % 10) (S (v / 10 % 10) ||| uni S (S (v % 10)) 10)
  else gaS S (S (v / 10 % 10)) (S (v % 10)) 10
def fF (v : Nat) (S : Nat → Nat) : Bool :=
  if v / 100 = 0 then grw (S (v / 10 % 10)) (2 ^ (v % 10))
  else if v / 100 = 1 then grw (S (v / 10 % 10)) (S (v % 10))
  else if v / 100 = 2 then grw (S (v / 10 % 10)) (uni S (S (v % 10)) 10)
  else gaF S (S (v / 10 % 10)) (S (v % 10)) 10
def fp (ln : Nat → Nat) (lo : Option Nat) (S : Nat → Nat) : Nat → (Nat → Nat) × Bool
  | 0 => (S, false)
  | i + 1 => if some i = lo then fp ln lo S i else (fS (ln i) (fp ln lo S i).1, (fp ln lo S i).2 || fF (ln i) (fp ln lo S i).1)
def fit (ln : Nat → Nat) (n : Nat) (lo : Option Nat) : Nat → (Nat → Nat) × Bool
  | 0 => (fun _ => 0, true)
  | j + 1 => if (fit ln n lo j).2 = true then fp ln lo (fit ln n lo j).1 n else fit ln n lo j
def fineC (ln : Nat → Nat) (n : Nat) (lo : Option Nat) : Nat → Nat := (fit ln n lo 101).1
theorem or_lt {a b k : Nat} (ha : a < 2 ^ k) (hb : b < 2 ^ k) : a ||| b < 2 ^ k := Nat.or_lt_two_pow ha hb
theorem or_lt10 {a b : Nat} (ha : a < 1024) (hb : b < 1024) : a ||| b < 1024 := or_lt (k := 10) ha hb
theorem pow_lt10 {y : Nat} (h : y < 10) : 2 ^ y < 1024 := Nat.pow_lt_pow_right (a := 2) (n := 10) (by omega) h
theorem uni_lt {S : Nat → Nat} (h : sok S) (nm : Nat) : ∀ i, i ≤ 10 → uni S nm i < 1024
  | 0, _ => by simp [uni]
  | i + 1, hi => by
    have h1 := uni_lt h nm i (by omega)
    simp only [uni]
    by_cases hb : nm.testBit i = true
    · rw [if_pos hb]; exact or_lt10 h1 (h i (by omega))
    · rw [if_neg hb]; exact h1
theorem sok_up {S : Nat → Nat} (h : sok S) {x b : Nat} (hb : b < 1024) : sok (va_up S x b) := by
  intro k hk
  by_cases e : k = x
  · subst e; rw [up_s]; exact hb
  · rw [up_n e]; exact h k hk
theorem sok_ga {S : Nat → Nat} (h : sok S) {nm more : Nat} (hm : more < 1024) (i : Nat) : sok (gaS S nm more i) := by
  intro k hk; unfold gaS
  by_cases e : k < i ∧ nm.testBit k = true
  · rw [if_pos e]; exact or_lt10 (h k hk) hm
  · rw [if_neg e]; exact h k hk
theorem sok_f {S : Nat → Nat} (h : sok S) (v : Nat) : sok (fS v S) := by
  have hx : v / 10 % 10 < 10 := by omega
  have hy : v % 10 < 10 := by omega
  unfold fS
  by_cases h0 : v / 100 = 0
  · rw [if_pos h0]; exact sok_up h (or_lt10 (h _ hx) (pow_lt10 hy))
  · rw [if_neg h0]
    by_cases h1 : v / 100 = 1
    · rw [if_pos h1]; exact sok_up h (or_lt10 (h _ hx) (h _ hy))
    · rw [if_neg h1]
      by_cases h2 : v / 100 = 2
      · rw [if_pos h2]; exact sok_up h (or_lt10 (h _ hx) (uni_lt h _ 10 (by omega)))
      · rw [if_neg h2]; exact sok_ga h (h _ hy) 10
theorem sok_fp {ln : Nat → Nat} {lo : Option Nat} {S : Nat → Nat} (h : sok S) : ∀ i, sok (fp ln lo S i).1
  | 0 => h
  | i + 1 => by
    have h1 := sok_fp (ln := ln) (lo := lo) h i
    simp only [fp]
    by_cases e : some i = lo
    · rw [if_pos e]; exact h1
    · rw [if_neg e]; exact sok_f h1 _
theorem sok_0 : sok (fun _ => 0) := fun _ _ => by show (0 : Nat) < 1024; omega
theorem sok_fit {ln : Nat → Nat} {n : Nat} {lo : Option Nat} : ∀ j, sok (fit ln n lo j).1
  | 0 => sok_0
  | j + 1 => by
    have h1 := sok_fit (ln := ln) (n := n) (lo := lo) j
    simp only [fit]
    by_cases e : (fit ln n lo j).2 = true
    · rw [if_pos e]; exact sok_fp h1 n
    · rw [if_neg e]; exact h1
theorem sok_fineC {ln : Nat → Nat} {n : Nat} {lo : Option Nat} : sok (fineC ln n lo) := sok_fit 101
theorem fit_stay {ln : Nat → Nat} {n : Nat} {lo : Option Nat} {j : Nat} (h : (fit ln n lo j).2 = false) : ∀ d, fit ln n lo (j + d) = fit ln n lo j
  | 0 => rfl
  | d + 1 => by
    have h1 := fit_stay h d
    show fit ln n lo (j + d + 1) = _
    simp only [fit]
    rw [h1, h]; simp
theorem gaS_0 (S : Nat → Nat) (nm more : Nat) : gaS S nm more 0 = S := by funext k; simp [gaS]
theorem gaS_at (S : Nat → Nat) (nm more i : Nat) : gaS S nm more i i = S i := by simp [gaS]
theorem gaS_s1 (S : Nat → Nat) (nm more i : Nat) (h : nm.testBit i = true) : va_up (gaS S nm more i) i (gaS S nm more i i ||| more) = gaS S nm more (i + 1) := by
  rw [gaS_at]; funext k; unfold va_up gaS
  by_cases hk : k = i
  · subst hk; simp [h]
  · rw [if_neg hk]
    by_cases h2 : k < i ∧ nm.testBit k = true
    · rw [if_pos h2, if_pos ⟨by omega, h2.2⟩]
    · rw [if_neg h2, if_neg (fun h3 => h2 ⟨by omega, h3.2⟩)]
theorem gaS_s0 (S : Nat → Nat) (nm more i : Nat) (h : nm.testBit i = false) : gaS S nm more i = gaS S nm more (i + 1) := by
  funext k; unfold gaS
  by_cases hk : k = i
  · subst hk; simp [h]
  · by_cases h2 : k < i ∧ nm.testBit k = true
    · rw [if_pos h2, if_pos ⟨by omega, h2.2⟩]
    · rw [if_neg h2, if_neg (fun h3 => h2 ⟨by omega, h3.2⟩)]
theorem bit_nat (n j : Nat) : n &&& 2 ^ j = 0 ↔ n.testBit j = false := by
  constructor
  · intro h
    have h1 : (n &&& 2 ^ j).testBit j = false := by rw [h]; simp
    rw [Nat.testBit_and, Nat.testBit_two_pow_self] at h1
    simpa using h1
  · intro h
    apply Nat.eq_of_testBit_eq
    intro i
    rw [Nat.testBit_and, Nat.testBit_two_pow]
    by_cases hij : j = i
    · subst hij; simp [h]
    · simp [hij]
theorem tb_hi {b i : Nat} (hb : b < 1024) (h : 10 ≤ i) : b.testBit i = false := Nat.testBit_lt_two_pow (Nat.lt_of_lt_of_le hb (Nat.pow_le_pow_right (n := 2) (i := 10) (j := i) (by omega) h))
/-- the growing bits of more: none -/
theorem grw_iff {a b : Nat} (ha : a < 1024) (hb : b < 1024) : nI b &&& (nI a ^^^ oI none) = 0 ↔ a ||| b = a := by
  have e : nI b &&& (nI a ^^^ oI none) = nI (b &&& (1023 ^^^ a)) := by
    unfold nI oI
    apply Int32.toBitVec_inj.mp
    apply BitVec.eq_of_getLsbD_eq
    intro i hi
    have h1 : (1023 : Nat) = 2 ^ 10 - 1 := rfl
    simp only [Int32.toBitVec_and, Int32.toBitVec_xor, BitVec.getLsbD_and, BitVec.getLsbD_xor, Int32.toBitVec_ofNat', BitVec.getLsbD_ofNat, Nat.testBit_and, Nat.testBit_xor]
    have h2 : ((-1 : Int32).toBitVec).getLsbD i = true := by
      revert i; decide
    rw [h2]
    by_cases h10 : i < 10
    · have h3 : (1023 : Nat).testBit i = true := by rw [h1, Nat.testBit_two_pow_sub_one]; simpa using h10
      rw [h3]
      simp [hi, Bool.xor_comm]
    · have h4 : b.testBit i = false := tb_hi hb (by omega)
      simp [h4]
  have hlt : b &&& (1023 ^^^ a) < 2 ^ 31 := Nat.lt_of_le_of_lt Nat.and_le_left (by omega)
  rw [e, n_eq0 hlt]
  constructor
  · intro h
    apply Nat.eq_of_testBit_eq
    intro i
    rw [Nat.testBit_or]
    by_cases h10 : i < 10
    · have h1 : (b &&& (1023 ^^^ a)).testBit i = false := by rw [h]; simp
      have h3 : (1023 : Nat).testBit i = true := by rw [show (1023 : Nat) = 2 ^ 10 - 1 from rfl, Nat.testBit_two_pow_sub_one]; simpa using h10
      rw [Nat.testBit_and, Nat.testBit_xor, h3] at h1
      cases hb2 : b.testBit i <;> cases ha2 : a.testBit i <;> simp_all
    · have h4 : b.testBit i = false := tb_hi hb (by omega)
      simp [h4]
  · intro h
    apply Nat.eq_of_testBit_eq
    intro i
    rw [Nat.testBit_and, Nat.testBit_xor]
    have h1 : (a ||| b).testBit i = a.testBit i := by rw [h]
    rw [Nat.testBit_or] at h1
    by_cases h10 : i < 10
    · have h3 : (1023 : Nat).testBit i = true := by rw [show (1023 : Nat) = 2 ^ 10 - 1 from rfl, Nat.testBit_two_pow_sub_one]; simpa using h10
      rw [h3]
      cases hb2 : b.testBit i <;> cases ha2 : a.testBit i <;> simp_all
    · have h4 : b.testBit i = false := tb_hi hb (by omega)
      simp [h4]
def ftot (S : Nat → Nat) : Nat → Nat
  | 0 => 0
  | i + 1 => ftot S i + pcn (S i)
theorem ftot_le (S : Nat → Nat) : ∀ i, ftot S i ≤ 10 * i
  | 0 => Nat.le_refl _
  | i + 1 => by have h := ftot_le S i; have h2 := pcn_le (S i); simp only [ftot]; omega
end
section
set_option maxHeartbeats 4000000 in
set_option maxRecDepth 100000 in
theorem c_J7_fill (l : Launch) (E : gE) (ar len : Nat) (f : Nat → Int32) (v : Int32) (hlen : len < 1000) : FD l E yJ7_fill_53178 cJ7_fill_53178 4 none { frames := 0, cells := 0, slots := 0, locals := 0 } [.ref ar, .int v] [(ar, .inl (E.2.1, len, .inl f))] none [(ar, .inl (E.2.1, len, .inl (fun _ => v)))] := by
  refine Fn_ofL (own := RJ7) (by decide) rfl rfl [(0, .ref ar), (1, .int v)] rfl ?_
  intro p e s m below meth c A C hr hnm
  refine G_iconst C dJ7_fill_53178_0 (v := nI 0) rfl 1 rfl ?_
  refine G_istore_n C dJ7_fill_53178_1 (by decide) [(2, .int (nI 0)), (0, .ref ar), (1, .int v)] rfl 2 rfl ?_
  refine G_aload_n C dJ7_fill_53178_2 rfl 3 rfl ?_
  refine G_alen C dJ7_fill_53178_3 0 rfl 4 rfl ?_
  refine G_istore_n C dJ7_fill_53178_4 (by decide) [(3, .int (nI len)), (2, .int (nI 0)), (0, .ref ar), (1, .int v)] rfl 5 rfl ?_
  refine G_eq (ws' := [(ar, .inl (E.2.1, len, .inl (flI f v 0)))]) (by rw [flI_0]) rfl rfl ?_
  refine G_sel [1, 0, 2, 3] [(2, .int (nI 0)), (3, .int (nI len)), (0, .ref ar), (1, .int v)] rfl ?_
  refine G_while (X := Nat) (Wf := fun i => [(ar, .inl (E.2.1, len, .inl (flI f v i)))]) (Lf := fun i => [(2, .int (nI i)), (3, .int (nI len)), (0, .ref ar), (1, .int v)]) (Sf := fun _ => []) (fun i => i ≤ len) (fun i => len - i) (fun i hi ih => ?_) 0 (by omega)
  refine G_iload_n C dJ7_fill_53178_5 rfl 6 rfl ?_
  refine G_iload_n C dJ7_fill_53178_6 rfl 7 rfl ?_
  refine G_icmp_ge C dJ7_fill_53178_7 20 rfl 10 rfl (nI_leI (by omega) (by omega)) (fun h_1 => ?_) (fun h_1 => ?_)
  · refine G_cong 0 (fun _ => v) rfl (fun j hj => by simp only [flI]; rw [if_pos (by omega)]) [(ar, .inl (E.2.1, len, .inl (fun _ => v)))] rfl ?_
    exact G_vret C hr dJ7_fill_53178_20 () trivial rfl rfl
  · refine G_aload_n C dJ7_fill_53178_10 rfl 11 rfl ?_
    refine G_iload_n C dJ7_fill_53178_11 rfl 12 rfl ?_
    refine G_iload_n C dJ7_fill_53178_12 rfl 13 rfl ?_
    refine G_iast C dJ7_fill_53178_13 0 rfl (vp_in_nI (by omega) (by omega)) (flI_s f v i (by omega)) [(ar, .inl (E.2.1, len, .inl (flI f v (i + 1))))] rfl 14 rfl ?_
    refine G_iinc C dJ7_fill_53178_14 0 rfl (nI_1 _) (by decide) [(2, .int (nI (i + 1))), (3, .int (nI len)), (0, .ref ar), (1, .int v)] rfl 17 rfl ?_
    refine G_goto C dJ7_fill_53178_17 5 rfl ?_
    exact ih (i + 1) (by omega) (by omega)

set_option maxHeartbeats 4000000 in
set_option maxRecDepth 100000 in
theorem c_J6_bitCount (l : Launch) (E : gE) (x : Nat) (hx : x < 1024) : FD l E yJ6_bitCount_0f7a4 cJ6_bitCount_0f7a4 1 (some .int) { frames := 0, cells := 0, slots := 0, locals := 0 } [.int (nI x)] [] (some (.int (nI (pcn x)))) [] := by
  refine Fn_ofL (own := RJ6) (by decide) rfl rfl [(0, .int (nI x))] rfl ?_
  intro p e s m below meth c A C hr hnm
  refine G_iload_n C dJ6_bitCount_0f7a4_0 rfl 1 rfl ?_
  refine G_iload_n C dJ6_bitCount_0f7a4_1 rfl 2 rfl ?_
  refine G_iconst C dJ6_bitCount_0f7a4_2 (v := nI 1) rfl 3 rfl ?_
  refine G_iushr C dJ6_bitCount_0f7a4_3 (v := ((nI x).toUInt32 >>> ((nI 1).toUInt32 &&& Int32.toUInt32 31)).toInt32) rfl 4 rfl ?_
  refine G_ldcw C dJ6_bitCount_0f7a4_4 wk_J6_265 7 rfl ?_
  refine G_iand C dJ6_bitCount_0f7a4_7 (v := (((nI x).toUInt32 >>> ((nI 1).toUInt32 &&& Int32.toUInt32 31)).toInt32) &&& (1431655765 : Int32)) rfl 8 rfl ?_
  refine G_isub C dJ6_bitCount_0f7a4_8 (v := bc1 (nI x)) rfl 9 rfl ?_
  refine G_istore_n C dJ6_bitCount_0f7a4_9 (by decide) [(0, .int (bc1 (nI x)))] rfl 10 rfl ?_
  refine G_iload_n C dJ6_bitCount_0f7a4_10 rfl 11 rfl ?_
  refine G_ldcw C dJ6_bitCount_0f7a4_11 wk_J6_266 14 rfl ?_
  refine G_iand C dJ6_bitCount_0f7a4_14 (v := (bc1 (nI x)) &&& (858993459 : Int32)) rfl 15 rfl ?_
  refine G_iload_n C dJ6_bitCount_0f7a4_15 rfl 16 rfl ?_
  refine G_iconst C dJ6_bitCount_0f7a4_16 (v := nI 2) rfl 17 rfl ?_
  refine G_iushr C dJ6_bitCount_0f7a4_17 (v := ((bc1 (nI x)).toUInt32 >>> ((nI 2).toUInt32 &&& Int32.toUInt32 31)).toInt32) rfl 18 rfl ?_
  refine G_ldcw C dJ6_bitCount_0f7a4_18 wk_J6_266 21 rfl ?_
  refine G_iand C dJ6_bitCount_0f7a4_21 (v := (((bc1 (nI x)).toUInt32 >>> ((nI 2).toUInt32 &&& Int32.toUInt32 31)).toInt32) &&& (858993459 : Int32)) rfl 22 rfl ?_
  refine G_iadd C dJ6_bitCount_0f7a4_22 (v := bc2 (bc1 (nI x))) rfl 23 rfl ?_
  refine G_istore_n C dJ6_bitCount_0f7a4_23 (by decide) [(0, .int (bc2 (bc1 (nI x))))] rfl 24 rfl ?_
  refine G_iload_n C dJ6_bitCount_0f7a4_24 rfl 25 rfl ?_
  refine G_iload_n C dJ6_bitCount_0f7a4_25 rfl 26 rfl ?_
  refine G_iconst C dJ6_bitCount_0f7a4_26 (v := nI 4) rfl 27 rfl ?_
  refine G_iushr C dJ6_bitCount_0f7a4_27 (v := ((bc2 (bc1 (nI x))).toUInt32 >>> ((nI 4).toUInt32 &&& Int32.toUInt32 31)).toInt32) rfl 28 rfl ?_
  refine G_iadd C dJ6_bitCount_0f7a4_28 (v := (bc2 (bc1 (nI x))) + (((bc2 (bc1 (nI x))).toUInt32 >>> ((nI 4).toUInt32 &&& Int32.toUInt32 31)).toInt32)) rfl 29 rfl ?_
  refine G_ldcw C dJ6_bitCount_0f7a4_29 wk_J6_267 32 rfl ?_
  refine G_iand C dJ6_bitCount_0f7a4_32 (v := bc3 (bc2 (bc1 (nI x)))) rfl 33 rfl ?_
  refine G_istore_n C dJ6_bitCount_0f7a4_33 (by decide) [(0, .int (bc3 (bc2 (bc1 (nI x)))))] rfl 34 rfl ?_
  refine G_iload_n C dJ6_bitCount_0f7a4_34 rfl 35 rfl ?_
  refine G_iload_n C dJ6_bitCount_0f7a4_35 rfl 36 rfl ?_
  refine G_bipush C dJ6_bitCount_0f7a4_36 (v := nI 8) (by decide) 38 rfl ?_
  refine G_iushr C dJ6_bitCount_0f7a4_38 (v := ((bc3 (bc2 (bc1 (nI x)))).toUInt32 >>> ((nI 8).toUInt32 &&& Int32.toUInt32 31)).toInt32) rfl 39 rfl ?_
  refine G_iadd C dJ6_bitCount_0f7a4_39 (v := bc4 (bc3 (bc2 (bc1 (nI x))))) rfl 40 rfl ?_
  refine G_istore_n C dJ6_bitCount_0f7a4_40 (by decide) [(0, .int (bc4 (bc3 (bc2 (bc1 (nI x))))))] rfl 41 rfl ?_
  refine G_iload_n C dJ6_bitCount_0f7a4_41 rfl 42 rfl ?_
  refine G_iload_n C dJ6_bitCount_0f7a4_42 rfl 43 rfl ?_
  refine G_bipush C dJ6_bitCount_0f7a4_43 (v := nI 16) (by decide) 45 rfl ?_
  refine G_iushr C dJ6_bitCount_0f7a4_45 (v := ((bc4 (bc3 (bc2 (bc1 (nI x))))).toUInt32 >>> ((nI 16).toUInt32 &&& Int32.toUInt32 31)).toInt32) rfl 46 rfl ?_
  refine G_iadd C dJ6_bitCount_0f7a4_46 (v := bc5 (bc4 (bc3 (bc2 (bc1 (nI x)))))) rfl 47 rfl ?_
  refine G_istore_n C dJ6_bitCount_0f7a4_47 (by decide) [(0, .int (bc5 (bc4 (bc3 (bc2 (bc1 (nI x)))))))] rfl 48 rfl ?_
  refine G_iload_n C dJ6_bitCount_0f7a4_48 rfl 49 rfl ?_
  refine G_bipush C dJ6_bitCount_0f7a4_49 (v := nI 63) (by decide) 51 rfl ?_
  refine G_iand C dJ6_bitCount_0f7a4_51 (v := bc6 (bc5 (bc4 (bc3 (bc2 (bc1 (nI x))))))) rfl 52 rfl ?_
  exact G_iret C hr dJ6_bitCount_0f7a4_52 rfl () trivial (by rw [bc_pcn x hx]) rfl

set_option maxHeartbeats 4000000 in
set_option maxRecDepth 100000 in
theorem c_X6_hasBit (l : Launch) (E : gE) (st x : Nat) (hst : st < 1024) (hx : x < 10) : FD l E yX6_hasBit cX6_hasBit 2 (some .boolean) { frames := 1, cells := 0, slots := 0, locals := 20 } [.int (nI st), .int (nI x)] [] (some (.int (bI (st.testBit x)))) [] := by
  refine Fn_ofL (own := RX6) (by decide) rfl rfl [(0, .int (nI st)), (1, .int (nI x))] rfl ?_
  intro p e s m below meth c A C hr hnm
  refine G_iload_n C dX6_hasBit_0 rfl 1 rfl ?_
  refine G_iload_n C dX6_hasBit_1 rfl 2 rfl ?_
  refine G_cS C dX6_hasBit_2 (c_X6_bit l E x (by first | assumption | omega)) wm_X6_182 wt_X6_bit wn_X6 wc_X6_bit rfl rfl ⟨by decide, by decide, rfl⟩ rfl (Nat.le_of_ble_eq_true rfl) [] [] (wr := []) rfl rfl rfl rfl rfl [] rfl [] rfl rfl [.int (nI (2 ^ x)), .int (nI st)] rfl 5 rfl ?_
  refine G_iand C dX6_hasBit_5 (v := nI (st &&& (2 ^ x))) (fa_and _ _) 6 rfl ?_
  refine G_if_eq C dX6_hasBit_6 13 rfl 9 rfl (n_eq0 (Nat.lt_of_le_of_lt Nat.and_le_left (by omega))) (fun h_1 => ?_) (fun h_1 => ?_)
  · refine G_iconst C dX6_hasBit_13 (v := nI 0) rfl 14 rfl ?_
    exact G_iret C hr dX6_hasBit_14 (by decide) () trivial (bI_rf ((bit_nat _ _).mp h_1)) rfl
  · refine G_iconst C dX6_hasBit_9 (v := nI 1) rfl 10 rfl ?_
    refine G_goto C dX6_hasBit_10 14 rfl ?_
    exact G_iret C hr dX6_hasBit_14 (by decide) () trivial (bI_rt (by rw [← Bool.not_eq_false, ← bit_nat]; exact h_1)) rfl

set_option maxHeartbeats 4000000 in
set_option maxRecDepth 100000 in
theorem c_X1_setOf (l : Launch) (E : gE) (fo fa : Nat) (S : Nat → Nat) (x : Nat) (hx : x < 10) : FD l E yX1_setOf cX1_setOf 2 (some .int) { frames := 0, cells := 0, slots := 0, locals := 0 } [.ref fo, .int (nI x)] [(fo, .inr (1, [.ref fa])), (fa, .inl (E.2.1, 10, .inl (aN S)))] (some (.int (nI (S x)))) [(fo, .inr (1, [.ref fa])), (fa, .inl (E.2.1, 10, .inl (aN S)))] := by
  refine Fn_ofL (own := RX1) (by decide) rfl rfl [(0, .ref fo), (1, .int (nI x))] rfl ?_
  intro p e s m below meth c A C hr hnm
  refine G_aload_n C dX1_setOf_0 rfl 1 rfl ?_
  refine G_getf C dX1_setOf_1 wF_X1 wf_X1_9 (f := 0) (by decide) (ci := 1) rfl 0 rfl rfl 4 rfl ?_
  refine G_iload_n C dX1_setOf_4 rfl 5 rfl ?_
  refine G_ialdN C dX1_setOf_5 1 rfl rfl (by omega) 6 rfl ?_
  exact G_iret C hr dX1_setOf_6 rfl () trivial rfl rfl

set_option maxHeartbeats 4000000 in
set_option maxRecDepth 100000 in
theorem c_X1_total (l : Launch) (E : gE) (fo fa : Nat) (S : Nat → Nat) (hS : sok S) : FD l E yX1_total cX1_total 3 (some .int) { frames := 1, cells := 0, slots := 0, locals := 20 } [.ref fo] [(fo, .inr (1, [.ref fa])), (fa, .inl (E.2.1, 10, .inl (aN S)))] (some (.int (nI (ftot S 10)))) [(fo, .inr (1, [.ref fa])), (fa, .inl (E.2.1, 10, .inl (aN S)))] := by
  refine Fn_ofL (own := RX1) (by decide) rfl rfl [(0, .ref fo)] rfl ?_
  intro p e s m below meth c A C hr hnm
  refine G_iconst C dX1_total_0 (v := nI 0) rfl 1 rfl ?_
  refine G_istore_n C dX1_total_1 (by decide) [(1, .int (nI 0)), (0, .ref fo)] rfl 2 rfl ?_
  refine G_iconst C dX1_total_2 (v := nI 0) rfl 3 rfl ?_
  refine G_istore_n C dX1_total_3 (by decide) [(2, .int (nI 0)), (1, .int (nI 0)), (0, .ref fo)] rfl 4 rfl ?_
  refine G_sel [1, 0, 2] [(1, .int (nI 0)), (2, .int (nI 0)), (0, .ref fo)] rfl ?_
  refine G_while (X := Nat) (Wf := fun i => [(fo, .inr (1, [.ref fa])), (fa, .inl (E.2.1, 10, .inl (aN S)))]) (Lf := fun i => [(1, .int (nI (ftot S i))), (2, .int (nI i)), (0, .ref fo)]) (Sf := fun _ => []) (fun i => i ≤ 10) (fun i => 10 - i) (fun i hi ih => ?_) 0 (by omega)
  refine G_iload_n C dX1_total_4 rfl 5 rfl ?_
  refine G_bipush C dX1_total_5 (v := nI 10) (by decide) 7 rfl ?_
  refine G_icmp_ge C dX1_total_7 28 rfl 10 rfl (nI_leI (by omega) (by omega)) (fun h_1 => ?_) (fun h_1 => ?_)
  · refine G_iload_n C dX1_total_28 rfl 29 rfl ?_
    exact G_iret C hr dX1_total_29 rfl () trivial (by rw [show i = 10 by omega]) rfl
  · refine G_iload_n C dX1_total_10 rfl 11 rfl ?_
    refine G_aload_n C dX1_total_11 rfl 12 rfl ?_
    refine G_getf C dX1_total_12 wF_X1 wf_X1_9 (f := 0) (by decide) (ci := 1) rfl 0 rfl rfl 15 rfl ?_
    refine G_iload_n C dX1_total_15 rfl 16 rfl ?_
    refine G_ialdN C dX1_total_16 1 rfl rfl (by omega) 17 rfl ?_
    refine G_cS C dX1_total_17 (c_J6_bitCount l E (S i) (hS i (by omega))) wm_X1_15 wt_J6_bitCount wn_J6 wc_J6_bitCount rfl rfl ⟨by decide, by decide, rfl⟩ rfl (Nat.le_of_ble_eq_true rfl) [] [0, 1] (wr := [(fo, .inr (1, [.ref fa])), (fa, .inl (E.2.1, 10, .inl (aN S)))]) rfl rfl rfl rfl rfl [0, 1] rfl [(fo, .inr (1, [.ref fa])), (fa, .inl (E.2.1, 10, .inl (aN S)))] rfl rfl [.int (nI (pcn (S i))), .int (nI (ftot S i))] rfl 20 rfl ?_
    refine G_iadd C dX1_total_20 (v := nI (ftot S i + (pcn (S i)))) (nI_add _ _) 21 rfl ?_
    refine G_istore_n C dX1_total_21 (by decide) [(1, .int (nI (ftot S i + (pcn (S i))))), (2, .int (nI i)), (0, .ref fo)] rfl 22 rfl ?_
    refine G_iinc C dX1_total_22 1 rfl (nI_1 _) (by decide) [(2, .int (nI (i + 1))), (1, .int (nI (ftot S i + (pcn (S i))))), (0, .ref fo)] rfl 25 rfl ?_
    refine G_goto C dX1_total_25 4 rfl ?_
    refine G_sel [1, 0, 2] [(1, .int (nI (ftot S i + (pcn (S i))))), (2, .int (nI (i + 1))), (0, .ref fo)] rfl ?_
    exact ih (i + 1) (by omega) (by omega)

set_option maxHeartbeats 4000000 in
set_option maxRecDepth 100000 in
theorem c_X1_grow (l : Launch) (E : gE) (fo fa : Nat) (S : Nat → Nat) (x b : Nat) (hx : x < 10) (hb : b < 1024) (hS : S x < 1024) : FD l E yX1_grow cX1_grow 4 (some .boolean) { frames := 0, cells := 0, slots := 0, locals := 0 } [.ref fo, .int (nI x), .int (nI b)] [(fo, .inr (1, [.ref fa])), (fa, .inl (E.2.1, 10, .inl (aN S)))] (some (.int (bI (grw (S x) b)))) [(fo, .inr (1, [.ref fa])), (fa, .inl (E.2.1, 10, .inl (aN (va_up S x (S x ||| b)))))] := by
  refine Fn_ofL (own := RX1) (by decide) rfl rfl [(0, .ref fo), (1, .int (nI x)), (2, .int (nI b))] rfl ?_
  intro p e s m below meth c A C hr hnm
  refine G_iload_n C dX1_grow_0 rfl 1 rfl ?_
  refine G_aload_n C dX1_grow_1 rfl 2 rfl ?_
  refine G_getf C dX1_grow_2 wF_X1 wf_X1_9 (f := 0) (by decide) (ci := 1) rfl 0 rfl rfl 5 rfl ?_
  refine G_iload_n C dX1_grow_5 rfl 6 rfl ?_
  refine G_ialdN C dX1_grow_6 1 rfl rfl (by omega) 7 rfl ?_
  refine G_iconst C dX1_grow_7 (v := oI none) rfl 8 rfl ?_
  refine G_ixor C dX1_grow_8 (v := (nI (S x)) ^^^ (oI none)) rfl 9 rfl ?_
  refine G_iand C dX1_grow_9 (v := (nI b) &&& ((nI (S x)) ^^^ (oI none))) rfl 10 rfl ?_
  refine G_if_eq C dX1_grow_10 17 rfl 13 rfl (grw_iff hS hb) (fun h_1 => ?_) (fun h_1 => ?_)
  · refine G_iconst C dX1_grow_17 (v := nI 0) rfl 18 rfl ?_
    refine G_istore_n C dX1_grow_18 (by decide) [(3, .int (nI 0)), (0, .ref fo), (1, .int (nI x)), (2, .int (nI b))] rfl 19 rfl ?_
    refine G_aload_n C dX1_grow_19 rfl 20 rfl ?_
    refine G_getf C dX1_grow_20 wF_X1 wf_X1_9 (f := 0) (by decide) (ci := 1) rfl 0 rfl rfl 23 rfl ?_
    refine G_iload_n C dX1_grow_23 rfl 24 rfl ?_
    refine G_dup2 C dX1_grow_24 rfl rfl 25 rfl ?_
    refine G_ialdN C dX1_grow_25 1 rfl rfl (by omega) 26 rfl ?_
    refine G_iload_n C dX1_grow_26 rfl 27 rfl ?_
    refine G_ior C dX1_grow_27 (v := nI ((S x) ||| b)) (fa_or _ _) 28 rfl ?_
    refine G_iastN C dX1_grow_28 1 rfl rfl (x := (S x) ||| b) (by omega) [(fo, .inr (1, [.ref fa])), (fa, .inl (E.2.1, 10, .inl (aN (va_up S x ((S x) ||| b)))))] rfl 29 rfl ?_
    refine G_iload_n C dX1_grow_29 rfl 30 rfl ?_
    exact G_iret C hr dX1_grow_30 (by decide) () trivial (bI_rf (by simp [grw, h_1])) rfl
  · refine G_iconst C dX1_grow_13 (v := nI 1) rfl 14 rfl ?_
    refine G_goto C dX1_grow_14 18 rfl ?_
    refine G_istore_n C dX1_grow_18 (by decide) [(3, .int (nI 1)), (0, .ref fo), (1, .int (nI x)), (2, .int (nI b))] rfl 19 rfl ?_
    refine G_aload_n C dX1_grow_19 rfl 20 rfl ?_
    refine G_getf C dX1_grow_20 wF_X1 wf_X1_9 (f := 0) (by decide) (ci := 1) rfl 0 rfl rfl 23 rfl ?_
    refine G_iload_n C dX1_grow_23 rfl 24 rfl ?_
    refine G_dup2 C dX1_grow_24 rfl rfl 25 rfl ?_
    refine G_ialdN C dX1_grow_25 1 rfl rfl (by omega) 26 rfl ?_
    refine G_iload_n C dX1_grow_26 rfl 27 rfl ?_
    refine G_ior C dX1_grow_27 (v := nI ((S x) ||| b)) (fa_or _ _) 28 rfl ?_
    refine G_iastN C dX1_grow_28 1 rfl rfl (x := (S x) ||| b) (by omega) [(fo, .inr (1, [.ref fa])), (fa, .inl (E.2.1, 10, .inl (aN (va_up S x ((S x) ||| b)))))] rfl 29 rfl ?_
    refine G_iload_n C dX1_grow_29 rfl 30 rfl ?_
    exact G_iret C hr dX1_grow_30 (by decide) () trivial (bI_rt (by simp [grw, h_1])) rfl

set_option maxHeartbeats 4000000 in
set_option maxRecDepth 100000 in
theorem c_X1_unionOver (l : Launch) (E : gE) (fo fa : Nat) (S : Nat → Nat) (nm : Nat) (hS : sok S) (hnm : nm < 1024) : FD l E yX1_unionOver cX1_unionOver 4 (some .int) { frames := 2, cells := 0, slots := 0, locals := 41 } [.ref fo, .int (nI nm)] [(fo, .inr (1, [.ref fa])), (fa, .inl (E.2.1, 10, .inl (aN S)))] (some (.int (nI (uni S nm 10)))) [(fo, .inr (1, [.ref fa])), (fa, .inl (E.2.1, 10, .inl (aN S)))] := by
  refine Fn_ofL (own := RX1) (by decide) rfl rfl [(0, .ref fo), (1, .int (nI nm))] rfl ?_
  intro p e s m below meth c A C hr hnm
  refine G_iconst C dX1_unionOver_0 (v := nI 0) rfl 1 rfl ?_
  refine G_istore_n C dX1_unionOver_1 (by decide) [(2, .int (nI 0)), (0, .ref fo), (1, .int (nI nm))] rfl 2 rfl ?_
  refine G_iconst C dX1_unionOver_2 (v := nI 0) rfl 3 rfl ?_
  refine G_istore_n C dX1_unionOver_3 (by decide) [(3, .int (nI 0)), (2, .int (nI 0)), (0, .ref fo), (1, .int (nI nm))] rfl 4 rfl ?_
  refine G_sel [1, 0, 2, 3] [(2, .int (nI 0)), (3, .int (nI 0)), (0, .ref fo), (1, .int (nI nm))] rfl ?_
  refine G_while (X := Nat) (Wf := fun i => [(fo, .inr (1, [.ref fa])), (fa, .inl (E.2.1, 10, .inl (aN S)))]) (Lf := fun i => [(2, .int (nI (uni S nm i))), (3, .int (nI i)), (0, .ref fo), (1, .int (nI nm))]) (Sf := fun _ => []) (fun i => i ≤ 10) (fun i => 10 - i) (fun i hi ih => ?_) 0 (by omega)
  refine G_iload_n C dX1_unionOver_4 rfl 5 rfl ?_
  refine G_bipush C dX1_unionOver_5 (v := nI 10) (by decide) 7 rfl ?_
  refine G_icmp_ge C dX1_unionOver_7 33 rfl 10 rfl (nI_leI (by omega) (by omega)) (fun h_1 => ?_) (fun h_1 => ?_)
  · refine G_iload_n C dX1_unionOver_33 rfl 34 rfl ?_
    exact G_iret C hr dX1_unionOver_34 rfl () trivial (by rw [show i = 10 by omega]) rfl
  · refine G_iload_n C dX1_unionOver_10 rfl 11 rfl ?_
    refine G_iload_n C dX1_unionOver_11 rfl 12 rfl ?_
    refine G_cSN C dX1_unionOver_12 (c_X6_hasBit l E nm i (by first | assumption | omega) (by first | assumption | omega)) wq_X1_59 wt_X6_hasBit wn_X6 wc_X6_hasBit rfl rfl ⟨by decide, by decide, rfl⟩ rfl (Nat.le_of_ble_eq_true rfl) [] [0, 1] (wr := [(fo, .inr (1, [.ref fa])), (fa, .inl (E.2.1, 10, .inl (aN S)))]) rfl rfl rfl rfl rfl [0, 1] rfl [(fo, .inr (1, [.ref fa])), (fa, .inl (E.2.1, 10, .inl (aN S)))] rfl rfl [.int (bI (nm.testBit i))] rfl 15 rfl ?_
    refine G_if_eq C dX1_unionOver_15 27 rfl 18 rfl (bI_0 _) (fun h_2 => ?_) (fun h_2 => ?_)
    · refine G_iinc C dX1_unionOver_27 1 rfl (nI_1 _) (by decide) [(3, .int (nI (i + 1))), (2, .int (nI (uni S nm i))), (0, .ref fo), (1, .int (nI nm))] rfl 30 rfl ?_
      refine G_goto C dX1_unionOver_30 4 rfl ?_
      refine G_sel [1, 0, 2, 3] [(2, .int (nI (uni S nm i))), (3, .int (nI (i + 1))), (0, .ref fo), (1, .int (nI nm))] rfl ?_
      refine G_eq (ws' := [(fo, .inr (1, [.ref fa])), (fa, .inl (E.2.1, 10, .inl (aN S)))]) (L' := [(2, .int (nI (uni S nm (i + 1)))), (3, .int (nI (i + 1))), (0, .ref fo), (1, .int (nI nm))]) rfl (by simp [uni, h_2]) rfl ?_
      exact ih (i + 1) (by omega) (by omega)
    · refine G_iload_n C dX1_unionOver_18 rfl 19 rfl ?_
      refine G_aload_n C dX1_unionOver_19 rfl 20 rfl ?_
      refine G_getf C dX1_unionOver_20 wF_X1 wf_X1_9 (f := 0) (by decide) (ci := 1) rfl 0 rfl rfl 23 rfl ?_
      refine G_iload_n C dX1_unionOver_23 rfl 24 rfl ?_
      refine G_ialdN C dX1_unionOver_24 1 rfl rfl (by omega) 25 rfl ?_
      refine G_ior C dX1_unionOver_25 (v := nI ((uni S nm i) ||| (S i))) (fa_or _ _) 26 rfl ?_
      refine G_istore_n C dX1_unionOver_26 (by decide) [(2, .int (nI ((uni S nm i) ||| (S i)))), (3, .int (nI i)), (0, .ref fo), (1, .int (nI nm))] rfl 27 rfl ?_
      refine G_iinc C dX1_unionOver_27 1 rfl (nI_1 _) (by decide) [(3, .int (nI (i + 1))), (2, .int (nI ((uni S nm i) ||| (S i)))), (0, .ref fo), (1, .int (nI nm))] rfl 30 rfl ?_
      refine G_goto C dX1_unionOver_30 4 rfl ?_
      refine G_sel [1, 0, 2, 3] [(2, .int (nI ((uni S nm i) ||| (S i)))), (3, .int (nI (i + 1))), (0, .ref fo), (1, .int (nI nm))] rfl ?_
      refine G_eq (ws' := [(fo, .inr (1, [.ref fa])), (fa, .inl (E.2.1, 10, .inl (aN S)))]) (L' := [(2, .int (nI (uni S nm (i + 1)))), (3, .int (nI (i + 1))), (0, .ref fo), (1, .int (nI nm))]) rfl (by simp [uni, h_2]) rfl ?_
      exact ih (i + 1) (by omega) (by omega)

set_option maxHeartbeats 4000000 in
set_option maxRecDepth 100000 in
theorem c_X1_growAll (l : Launch) (E : gE) (fo fa : Nat) (S : Nat → Nat) (nm b : Nat) (hS : sok S) (hnm : nm < 1024) (hb : b < 1024) : FD l E yX1_growAll cX1_growAll 5 (some .boolean) { frames := 2, cells := 0, slots := 0, locals := 41 } [.ref fo, .int (nI nm), .int (nI b)] [(fo, .inr (1, [.ref fa])), (fa, .inl (E.2.1, 10, .inl (aN S)))] (some (.int (bI (gaF S nm b 10)))) [(fo, .inr (1, [.ref fa])), (fa, .inl (E.2.1, 10, .inl (aN (gaS S nm b 10))))] := by
  refine Fn_ofL (own := RX1) (by decide) rfl rfl [(0, .ref fo), (1, .int (nI nm)), (2, .int (nI b))] rfl ?_
  intro p e s m below meth c A C hr hnm
  refine G_iconst C dX1_growAll_0 (v := nI 0) rfl 1 rfl ?_
  refine G_istore_n C dX1_growAll_1 (by decide) [(3, .int (nI 0)), (0, .ref fo), (1, .int (nI nm)), (2, .int (nI b))] rfl 2 rfl ?_
  refine G_iconst C dX1_growAll_2 (v := nI 0) rfl 3 rfl ?_
  refine G_istore C dX1_growAll_3 (by decide) [(4, .int (nI 0)), (3, .int (nI 0)), (0, .ref fo), (1, .int (nI nm)), (2, .int (nI b))] rfl 5 rfl ?_
  refine G_eq (ws' := [(fo, .inr (1, [.ref fa])), (fa, .inl (E.2.1, 10, .inl (aN (gaS S nm b 0))))]) (L' := [(4, .int (nI 0)), (3, .int (bI (gaF S nm b 0))), (0, .ref fo), (1, .int (nI nm)), (2, .int (nI b))]) (by rw [gaS_0]) rfl rfl ?_
  refine G_sel [1, 0, 2, 3, 4] [(3, .int (nI 0)), (4, .int (nI 0)), (0, .ref fo), (1, .int (nI nm)), (2, .int (nI b))] rfl ?_
  refine G_while (X := Nat) (Wf := fun i => [(fo, .inr (1, [.ref fa])), (fa, .inl (E.2.1, 10, .inl (aN (gaS S nm b i))))]) (Lf := fun i => [(3, .int (bI (gaF S nm b i))), (4, .int (nI i)), (0, .ref fo), (1, .int (nI nm)), (2, .int (nI b))]) (Sf := fun _ => []) (fun i => i ≤ 10) (fun i => 10 - i) (fun i hi ih => ?_) 0 (by omega)
  refine G_iload C dX1_growAll_5 rfl 7 rfl ?_
  refine G_bipush C dX1_growAll_7 (v := nI 10) (by decide) 9 rfl ?_
  refine G_icmp_ge C dX1_growAll_9 39 rfl 12 rfl (nI_leI (by omega) (by omega)) (fun h_1 => ?_) (fun h_1 => ?_)
  · refine G_iload_n C dX1_growAll_39 rfl 40 rfl ?_
    exact G_iret C hr dX1_growAll_40 (bI_nar _) () trivial (by rw [show i = 10 by omega]) (by rw [show i = 10 by omega])
  · refine G_iload_n C dX1_growAll_12 rfl 13 rfl ?_
    refine G_iload C dX1_growAll_13 rfl 15 rfl ?_
    refine G_cSN C dX1_growAll_15 (c_X6_hasBit l E nm i (by first | assumption | omega) (by first | assumption | omega)) wq_X1_59 wt_X6_hasBit wn_X6 wc_X6_hasBit rfl rfl ⟨by decide, by decide, rfl⟩ rfl (Nat.le_of_ble_eq_true rfl) [] [0, 1] (wr := [(fo, .inr (1, [.ref fa])), (fa, .inl (E.2.1, 10, .inl (aN (gaS S nm b i))))]) rfl rfl rfl rfl rfl [0, 1] rfl [(fo, .inr (1, [.ref fa])), (fa, .inl (E.2.1, 10, .inl (aN (gaS S nm b i))))] rfl rfl [.int (bI (nm.testBit i))] rfl 18 rfl ?_
    refine G_if_eq C dX1_growAll_18 33 rfl 21 rfl (bI_0 _) (fun h_2 => ?_) (fun h_2 => ?_)
    · refine G_iinc C dX1_growAll_33 1 rfl (nI_1 _) (by decide) [(4, .int (nI (i + 1))), (3, .int (bI (gaF S nm b i))), (0, .ref fo), (1, .int (nI nm)), (2, .int (nI b))] rfl 36 rfl ?_
      refine G_goto C dX1_growAll_36 5 rfl ?_
      refine G_sel [1, 0, 2, 3, 4] [(3, .int (bI (gaF S nm b i))), (4, .int (nI (i + 1))), (0, .ref fo), (1, .int (nI nm)), (2, .int (nI b))] rfl ?_
      refine G_eq (ws' := [(fo, .inr (1, [.ref fa])), (fa, .inl (E.2.1, 10, .inl (aN (gaS S nm b (i + 1)))))]) (L' := [(3, .int (bI (gaF S nm b (i + 1)))), (4, .int (nI (i + 1))), (0, .ref fo), (1, .int (nI nm)), (2, .int (nI b))]) (by rw [← gaS_s0 _ _ _ _ h_2]) (by simp [gaF, h_2, bI]) rfl ?_
      exact ih (i + 1) (by omega) (by omega)
    · refine G_aload_n C dX1_growAll_21 rfl 22 rfl ?_
      refine G_iload C dX1_growAll_22 rfl 24 rfl ?_
      refine G_iload_n C dX1_growAll_24 rfl 25 rfl ?_
      refine G_cV C dX1_growAll_25 (c_X1_grow l E fo fa (gaS S nm b i) i b (by first | assumption | omega) (by first | assumption | omega) (by rw [gaS_at]; exact hS i (by omega))) wm_X1_49 wi_X1_grow wsel_X1_grow wn_X1 wc_X1_grow rfl rfl ⟨by decide, by decide, rfl⟩ rfl (Nat.le_of_ble_eq_true rfl) 1 rfl rfl 0 rfl [0, 1] [] (wr := []) rfl rfl rfl rfl rfl [0, 1] rfl [(fo, .inr (1, [.ref fa])), (fa, .inl (E.2.1, 10, .inl (aN (va_up (gaS S nm b i) i ((gaS S nm b i) i ||| b)))))] rfl rfl [.int (bI (grw ((gaS S nm b i) i) b))] rfl 28 rfl ?_
      refine G_if_eq C dX1_growAll_28 33 rfl 31 rfl (show bI (grw (gaS S nm b i i) b) = 0 ↔ grw (S i) b = false by rw [gaS_at]; exact bI_0 _) (fun h_3 => ?_) (fun h_3 => ?_)
      · refine G_iinc C dX1_growAll_33 1 rfl (nI_1 _) (by decide) [(4, .int (nI (i + 1))), (3, .int (bI (gaF S nm b i))), (0, .ref fo), (1, .int (nI nm)), (2, .int (nI b))] rfl 36 rfl ?_
        refine G_goto C dX1_growAll_36 5 rfl ?_
        refine G_sel [1, 0, 2, 3, 4] [(3, .int (bI (gaF S nm b i))), (4, .int (nI (i + 1))), (0, .ref fo), (1, .int (nI nm)), (2, .int (nI b))] rfl ?_
        refine G_eq (ws' := [(fo, .inr (1, [.ref fa])), (fa, .inl (E.2.1, 10, .inl (aN (gaS S nm b (i + 1)))))]) (L' := [(3, .int (bI (gaF S nm b (i + 1)))), (4, .int (nI (i + 1))), (0, .ref fo), (1, .int (nI nm)), (2, .int (nI b))]) (by rw [gaS_s1 _ _ _ _ (by simpa using h_2)]) (by simp [gaF, h_2, h_3, bI]) rfl ?_
        exact ih (i + 1) (by omega) (by omega)
      · refine G_iconst C dX1_growAll_31 (v := nI 1) rfl 32 rfl ?_
        refine G_istore_n C dX1_growAll_32 (by decide) [(3, .int (nI 1)), (4, .int (nI i)), (0, .ref fo), (1, .int (nI nm)), (2, .int (nI b))] rfl 33 rfl ?_
        refine G_iinc C dX1_growAll_33 1 rfl (nI_1 _) (by decide) [(4, .int (nI (i + 1))), (3, .int (nI 1)), (0, .ref fo), (1, .int (nI nm)), (2, .int (nI b))] rfl 36 rfl ?_
        refine G_goto C dX1_growAll_36 5 rfl ?_
        refine G_sel [1, 0, 2, 3, 4] [(3, .int (nI 1)), (4, .int (nI (i + 1))), (0, .ref fo), (1, .int (nI nm)), (2, .int (nI b))] rfl ?_
        refine G_eq (ws' := [(fo, .inr (1, [.ref fa])), (fa, .inl (E.2.1, 10, .inl (aN (gaS S nm b (i + 1)))))]) (L' := [(3, .int (bI (gaF S nm b (i + 1)))), (4, .int (nI (i + 1))), (0, .ref fo), (1, .int (nI nm)), (2, .int (nI b))]) (by rw [gaS_s1 _ _ _ _ (by simpa using h_2)]) (by simp [gaF, h_2, h_3, bI]) rfl ?_
        exact ih (i + 1) (by omega) (by omega)

set_option maxHeartbeats 4000000 in
set_option maxRecDepth 100000 in
theorem c_X1_apply (l : Launch) (E : gE) (fo fa : Nat) (S : Nat → Nat) (o a n : Nat) (Cd : Nat → Nat) (i v : Nat) (hS : sok S) (hi : i < 14) (hc : Cd i = ce v) (hv : v < 400) : FD l E yX1_apply cX1_apply 5 (some .boolean) { frames := 3, cells := 0, slots := 0, locals := 65 } [.ref fo, .ref o, .int (nI i)] [(fo, .inr (1, [.ref fa])), (fa, .inl (E.2.1, 10, .inl (aN S))), (o, .inr (2, [.ref a, .int (nI n)])), (a, .inl (E.2.1, 14, .inl (aN Cd)))] (some (.int (bI (fF v S)))) [(fo, .inr (1, [.ref fa])), (fa, .inl (E.2.1, 10, .inl (aN (fS v S)))), (o, .inr (2, [.ref a, .int (nI n)])), (a, .inl (E.2.1, 14, .inl (aN Cd)))] := by
  refine Fn_ofL (own := RX1) (by decide) rfl rfl [(0, .ref fo), (1, .ref o), (2, .int (nI i))] rfl ?_
  intro p e s m below meth c A C hr hnm
  refine G_aload_n C dX1_apply_0 rfl 1 rfl ?_
  refine G_iload_n C dX1_apply_1 rfl 2 rfl ?_
  refine G_cV C dX1_apply_2 (c_X2_leftAt l E o a n Cd i v (by first | assumption | omega) (by first | assumption | omega) (by first | assumption | omega)) wm_X1_37 wi_X2_leftAt wsel_X2_leftAt wn_X2 wc_X2_leftAt rfl rfl ⟨by decide, by decide, rfl⟩ rfl (Nat.le_of_ble_eq_true rfl) 2 rfl rfl 0 rfl [2, 3] [0, 1] (wr := [(fo, .inr (1, [.ref fa])), (fa, .inl (E.2.1, 10, .inl (aN S)))]) rfl rfl rfl rfl rfl [0, 1, 2, 3] rfl [(fo, .inr (1, [.ref fa])), (fa, .inl (E.2.1, 10, .inl (aN S))), (o, .inr (2, [.ref a, .int (nI n)])), (a, .inl (E.2.1, 14, .inl (aN Cd)))] rfl rfl [.int (nI (v / 10 % 10))] rfl 5 rfl ?_
  refine G_istore_n C dX1_apply_5 (by decide) [(3, .int (nI (v / 10 % 10))), (0, .ref fo), (1, .ref o), (2, .int (nI i))] rfl 6 rfl ?_
  refine G_aload_n C dX1_apply_6 rfl 7 rfl ?_
  refine G_iload_n C dX1_apply_7 rfl 8 rfl ?_
  refine G_cV C dX1_apply_8 (c_X2_rightAt l E o a n Cd i v (by first | assumption | omega) (by first | assumption | omega) (by first | assumption | omega)) wm_X1_40 wi_X2_rightAt wsel_X2_rightAt wn_X2 wc_X2_rightAt rfl rfl ⟨by decide, by decide, rfl⟩ rfl (Nat.le_of_ble_eq_true rfl) 2 rfl rfl 0 rfl [2, 3] [0, 1] (wr := [(fo, .inr (1, [.ref fa])), (fa, .inl (E.2.1, 10, .inl (aN S)))]) rfl rfl rfl rfl rfl [0, 1, 2, 3] rfl [(fo, .inr (1, [.ref fa])), (fa, .inl (E.2.1, 10, .inl (aN S))), (o, .inr (2, [.ref a, .int (nI n)])), (a, .inl (E.2.1, 14, .inl (aN Cd)))] rfl rfl [.int (nI (v % 10))] rfl 11 rfl ?_
  refine G_istore C dX1_apply_11 (by decide) [(4, .int (nI (v % 10))), (3, .int (nI (v / 10 % 10))), (0, .ref fo), (1, .ref o), (2, .int (nI i))] rfl 13 rfl ?_
  refine G_aload_n C dX1_apply_13 rfl 14 rfl ?_
  refine G_iload_n C dX1_apply_14 rfl 15 rfl ?_
  refine G_cV C dX1_apply_15 (c_X2_sortAt l E o a n Cd i v (by first | assumption | omega) (by first | assumption | omega) (by first | assumption | omega)) wm_X1_43 wi_X2_sortAt wsel_X2_sortAt wn_X2 wc_X2_sortAt rfl rfl ⟨by decide, by decide, rfl⟩ rfl (Nat.le_of_ble_eq_true rfl) 2 rfl rfl 0 rfl [2, 3] [0, 1] (wr := [(fo, .inr (1, [.ref fa])), (fa, .inl (E.2.1, 10, .inl (aN S)))]) rfl rfl rfl rfl rfl [0, 1, 2, 3] rfl [(fo, .inr (1, [.ref fa])), (fa, .inl (E.2.1, 10, .inl (aN S))), (o, .inr (2, [.ref a, .int (nI n)])), (a, .inl (E.2.1, 14, .inl (aN Cd)))] rfl rfl [.int (nI (v / 100))] rfl 18 rfl ?_
  rcases (show v / 100 = 0 ∨ v / 100 = 1 ∨ v / 100 = 2 ∨ v / 100 = 3 by omega) with hs_1 | hs_1 | hs_1 | hs_1
  · refine G_top (v' := .int (nI 0)) (by rw [hs_1]) ?_
    refine G_tabIn C dX1_apply_18 (26) (by decide) (by decide) rfl 44 rfl ?_
    refine G_aload_n C dX1_apply_44 rfl 45 rfl ?_
    refine G_iload_n C dX1_apply_45 rfl 46 rfl ?_
    refine G_iload C dX1_apply_46 rfl 48 rfl ?_
    refine G_cSN C dX1_apply_48 (c_X6_bit l E (v % 10) (by first | assumption | omega)) wq_X1_46 wt_X6_bit wn_X6 wc_X6_bit rfl rfl ⟨by decide, by decide, rfl⟩ rfl (Nat.le_of_ble_eq_true rfl) [] [0, 1, 2, 3] (wr := [(fo, .inr (1, [.ref fa])), (fa, .inl (E.2.1, 10, .inl (aN S))), (o, .inr (2, [.ref a, .int (nI n)])), (a, .inl (E.2.1, 14, .inl (aN Cd)))]) rfl rfl rfl rfl rfl [0, 1, 2, 3] rfl [(fo, .inr (1, [.ref fa])), (fa, .inl (E.2.1, 10, .inl (aN S))), (o, .inr (2, [.ref a, .int (nI n)])), (a, .inl (E.2.1, 14, .inl (aN Cd)))] rfl rfl [.int (nI (2 ^ (v % 10))), .int (nI (v / 10 % 10)), .ref fo] rfl 51 rfl ?_
    refine G_cV C dX1_apply_51 (c_X1_grow l E fo fa S (v / 10 % 10) (2 ^ (v % 10)) (by first | assumption | omega) (pow_lt10 (by omega)) (hS _ (by omega))) wm_X1_49 wi_X1_grow wsel_X1_grow wn_X1 wc_X1_grow rfl rfl ⟨by decide, by decide, rfl⟩ rfl (Nat.le_of_ble_eq_true rfl) 1 rfl rfl 0 rfl [0, 1] [2, 3] (wr := [(o, .inr (2, [.ref a, .int (nI n)])), (a, .inl (E.2.1, 14, .inl (aN Cd)))]) rfl rfl rfl rfl rfl [2, 3, 0, 1] rfl [(fo, .inr (1, [.ref fa])), (fa, .inl (E.2.1, 10, .inl (aN (va_up S (v / 10 % 10) (S (v / 10 % 10) ||| (2 ^ (v % 10))))))), (o, .inr (2, [.ref a, .int (nI n)])), (a, .inl (E.2.1, 14, .inl (aN Cd)))] rfl rfl [.int (bI (grw (S (v / 10 % 10)) (2 ^ (v % 10))))] rfl 54 rfl ?_
    exact G_iret C hr dX1_apply_54 (bI_nar _) () trivial (by simp [fF, hs_1]) (by simp [fS, hs_1])
  · refine G_top (v' := .int (nI 1)) (by rw [hs_1]) ?_
    refine G_tabIn C dX1_apply_18 (37) (by decide) (by decide) rfl 55 rfl ?_
    refine G_aload_n C dX1_apply_55 rfl 56 rfl ?_
    refine G_iload_n C dX1_apply_56 rfl 57 rfl ?_
    refine G_aload_n C dX1_apply_57 rfl 58 rfl ?_
    refine G_getf C dX1_apply_58 wF_X1 wf_X1_9 (f := 0) (by decide) (ci := 1) rfl 0 rfl rfl 61 rfl ?_
    refine G_iload C dX1_apply_61 rfl 63 rfl ?_
    refine G_ialdN C dX1_apply_63 1 rfl rfl (by omega) 64 rfl ?_
    refine G_cV C dX1_apply_64 (c_X1_grow l E fo fa S (v / 10 % 10) (S (v % 10)) (by first | assumption | omega) (hS _ (by omega)) (hS _ (by omega))) wm_X1_49 wi_X1_grow wsel_X1_grow wn_X1 wc_X1_grow rfl rfl ⟨by decide, by decide, rfl⟩ rfl (Nat.le_of_ble_eq_true rfl) 1 rfl rfl 0 rfl [0, 1] [2, 3] (wr := [(o, .inr (2, [.ref a, .int (nI n)])), (a, .inl (E.2.1, 14, .inl (aN Cd)))]) rfl rfl rfl rfl rfl [2, 3, 0, 1] rfl [(fo, .inr (1, [.ref fa])), (fa, .inl (E.2.1, 10, .inl (aN (va_up S (v / 10 % 10) (S (v / 10 % 10) ||| (S (v % 10))))))), (o, .inr (2, [.ref a, .int (nI n)])), (a, .inl (E.2.1, 14, .inl (aN Cd)))] rfl rfl [.int (bI (grw (S (v / 10 % 10)) (S (v % 10))))] rfl 67 rfl ?_
    exact G_iret C hr dX1_apply_67 (bI_nar _) () trivial (by simp [fF, hs_1]) (by simp [fS, hs_1])
  · refine G_top (v' := .int (nI 2)) (by rw [hs_1]) ?_
    refine G_tabIn C dX1_apply_18 (50) (by decide) (by decide) rfl 68 rfl ?_
    refine G_aload_n C dX1_apply_68 rfl 69 rfl ?_
    refine G_iload_n C dX1_apply_69 rfl 70 rfl ?_
    refine G_aload_n C dX1_apply_70 rfl 71 rfl ?_
    refine G_aload_n C dX1_apply_71 rfl 72 rfl ?_
    refine G_getf C dX1_apply_72 wF_X1 wf_X1_9 (f := 0) (by decide) (ci := 1) rfl 0 rfl rfl 75 rfl ?_
    refine G_iload C dX1_apply_75 rfl 77 rfl ?_
    refine G_ialdN C dX1_apply_77 1 rfl rfl (by omega) 78 rfl ?_
    refine G_cV C dX1_apply_78 (c_X1_unionOver l E fo fa S (S (v % 10)) (by first | assumption | omega) (hS _ (by omega))) wm_X1_53 wi_X1_unionOver wsel_X1_unionOver wn_X1 wc_X1_unionOver rfl rfl ⟨by decide, by decide, rfl⟩ rfl (Nat.le_of_ble_eq_true rfl) 1 rfl rfl 0 rfl [0, 1] [2, 3] (wr := [(o, .inr (2, [.ref a, .int (nI n)])), (a, .inl (E.2.1, 14, .inl (aN Cd)))]) rfl rfl rfl rfl rfl [2, 3, 0, 1] rfl [(fo, .inr (1, [.ref fa])), (fa, .inl (E.2.1, 10, .inl (aN S))), (o, .inr (2, [.ref a, .int (nI n)])), (a, .inl (E.2.1, 14, .inl (aN Cd)))] rfl rfl [.int (nI (uni S (S (v % 10)) 10)), .int (nI (v / 10 % 10)), .ref fo] rfl 81 rfl ?_
    refine G_cV C dX1_apply_81 (c_X1_grow l E fo fa S (v / 10 % 10) (uni S (S (v % 10)) 10) (by first | assumption | omega) (uni_lt hS _ 10 (by omega)) (hS _ (by omega))) wm_X1_49 wi_X1_grow wsel_X1_grow wn_X1 wc_X1_grow rfl rfl ⟨by decide, by decide, rfl⟩ rfl (Nat.le_of_ble_eq_true rfl) 1 rfl rfl 0 rfl [0, 1] [2, 3] (wr := [(o, .inr (2, [.ref a, .int (nI n)])), (a, .inl (E.2.1, 14, .inl (aN Cd)))]) rfl rfl rfl rfl rfl [2, 3, 0, 1] rfl [(fo, .inr (1, [.ref fa])), (fa, .inl (E.2.1, 10, .inl (aN (va_up S (v / 10 % 10) (S (v / 10 % 10) ||| (uni S (S (v % 10)) 10)))))), (o, .inr (2, [.ref a, .int (nI n)])), (a, .inl (E.2.1, 14, .inl (aN Cd)))] rfl rfl [.int (bI (grw (S (v / 10 % 10)) (uni S (S (v % 10)) 10)))] rfl 84 rfl ?_
    exact G_iret C hr dX1_apply_84 (bI_nar _) () trivial (by simp [fF, hs_1]) (by simp [fS, hs_1])
  · refine G_top (v' := .int (nI 3)) (by rw [hs_1]) ?_
    refine G_tabOut C dX1_apply_18 (by decide) 85 rfl ?_
    refine G_aload_n C dX1_apply_85 rfl 86 rfl ?_
    refine G_aload_n C dX1_apply_86 rfl 87 rfl ?_
    refine G_getf C dX1_apply_87 wF_X1 wf_X1_9 (f := 0) (by decide) (ci := 1) rfl 0 rfl rfl 90 rfl ?_
    refine G_iload_n C dX1_apply_90 rfl 91 rfl ?_
    refine G_ialdN C dX1_apply_91 1 rfl rfl (by omega) 92 rfl ?_
    refine G_aload_n C dX1_apply_92 rfl 93 rfl ?_
    refine G_getf C dX1_apply_93 wF_X1 wf_X1_9 (f := 0) (by decide) (ci := 1) rfl 0 rfl rfl 96 rfl ?_
    refine G_iload C dX1_apply_96 rfl 98 rfl ?_
    refine G_ialdN C dX1_apply_98 1 rfl rfl (by omega) 99 rfl ?_
    refine G_cV C dX1_apply_99 (c_X1_growAll l E fo fa S (S (v / 10 % 10)) (S (v % 10)) (by first | assumption | omega) (hS _ (by omega)) (hS _ (by omega))) wm_X1_56 wi_X1_growAll wsel_X1_growAll wn_X1 wc_X1_growAll rfl rfl ⟨by decide, by decide, rfl⟩ rfl (Nat.le_of_ble_eq_true rfl) 1 rfl rfl 0 rfl [0, 1] [2, 3] (wr := [(o, .inr (2, [.ref a, .int (nI n)])), (a, .inl (E.2.1, 14, .inl (aN Cd)))]) rfl rfl rfl rfl rfl [2, 3, 0, 1] rfl [(fo, .inr (1, [.ref fa])), (fa, .inl (E.2.1, 10, .inl (aN (gaS S (S (v / 10 % 10)) (S (v % 10)) 10)))), (o, .inr (2, [.ref a, .int (nI n)])), (a, .inl (E.2.1, 14, .inl (aN Cd)))] rfl rfl [.int (bI (gaF S (S (v / 10 % 10)) (S (v % 10)) 10))] rfl 102 rfl ?_
    exact G_iret C hr dX1_apply_102 (bI_nar _) () trivial (by simp [fF, hs_1]) (by simp [fS, hs_1])

set_option maxHeartbeats 4000000 in
set_option maxRecDepth 100000 in
theorem c_X1_solve (l : Launch) (E : gE) (fo fa : Nat) (S : Nat → Nat) (o a n : Nat) (Cd : Nat → Nat) (ln : Nat → Nat) (lo : Option Nat) (hok : lok n ln Cd) (hlo : ∀ g, lo = some g → g < 2 ^ 31) : FD l E yX1_solve cX1_solve 6 none { frames := 4, cells := 0, slots := 0, locals := 89 } [.ref fo, .ref o, .int (oI lo)] [(fo, .inr (1, [.ref fa])), (fa, .inl (E.2.1, 10, .inl (aN S))), (o, .inr (2, [.ref a, .int (nI n)])), (a, .inl (E.2.1, 14, .inl (aN Cd)))] none [(fo, .inr (1, [.ref fa])), (fa, .inl (E.2.1, 10, .inl (aN (fineC ln n lo)))), (o, .inr (2, [.ref a, .int (nI n)])), (a, .inl (E.2.1, 14, .inl (aN Cd)))] := by
  refine Fn_ofL (own := RX1) (by decide) rfl rfl [(0, .ref fo), (1, .ref o), (2, .int (oI lo))] rfl ?_
  intro p e s m below meth c A C hr hnm
  have h14 : n ≤ 14 := hok.n
  refine G_aload_n C dX1_solve_0 rfl 1 rfl ?_
  refine G_getf C dX1_solve_1 wF_X1 wf_X1_9 (f := 0) (by decide) (ci := 1) rfl 0 rfl rfl 4 rfl ?_
  refine G_iconst C dX1_solve_4 (v := nI 0) rfl 5 rfl ?_
  refine G_cS C dX1_solve_5 (c_J7_fill l E fa 10 (aN S) (nI 0) (by decide)) wm_X1_21 wt_J7_fill wn_J7 wc_J7_fill rfl rfl ⟨by decide, by decide, rfl⟩ rfl (Nat.le_of_ble_eq_true rfl) [1] [0, 2, 3] (wr := [(fo, .inr (1, [.ref fa])), (o, .inr (2, [.ref a, .int (nI n)])), (a, .inl (E.2.1, 14, .inl (aN Cd)))]) rfl rfl rfl rfl rfl [0, 3, 1, 2] rfl [(fo, .inr (1, [.ref fa])), (fa, .inl (E.2.1, 10, .inl (fun _ => (nI 0)))), (o, .inr (2, [.ref a, .int (nI n)])), (a, .inl (E.2.1, 14, .inl (aN Cd)))] rfl rfl [] rfl 8 rfl ?_
  refine G_eq (ws' := [(fo, .inr (1, [.ref fa])), (fa, .inl (E.2.1, 10, .inl (aN (fun _ => 0)))), (o, .inr (2, [.ref a, .int (nI n)])), (a, .inl (E.2.1, 14, .inl (aN Cd)))]) rfl rfl rfl ?_
  refine G_iconst C dX1_solve_8 (v := nI 1) rfl 9 rfl ?_
  refine G_istore_n C dX1_solve_9 (by decide) [(3, .int (nI 1)), (0, .ref fo), (1, .ref o), (2, .int (oI lo))] rfl 10 rfl ?_
  refine G_iconst C dX1_solve_10 (v := nI 0) rfl 11 rfl ?_
  refine G_istore C dX1_solve_11 (by decide) [(4, .int (nI 0)), (3, .int (nI 1)), (0, .ref fo), (1, .ref o), (2, .int (oI lo))] rfl 13 rfl ?_
  refine G_eq (ws' := [(fo, .inr (1, [.ref fa])), (fa, .inl (E.2.1, 10, .inl (aN ((fit ln n lo 0).1)))), (o, .inr (2, [.ref a, .int (nI n)])), (a, .inl (E.2.1, 14, .inl (aN Cd)))]) (L' := [(4, .int (nI 0)), (3, .int (bI ((fit ln n lo 0).2))), (0, .ref fo), (1, .ref o), (2, .int (oI lo))]) rfl rfl rfl ?_
  refine G_sel [1, 0, 2, 3, 4] [(3, .int (nI 1)), (4, .int (nI 0)), (0, .ref fo), (1, .ref o), (2, .int (oI lo))] rfl ?_
  refine G_while (X := Nat) (Wf := fun j => [(fo, .inr (1, [.ref fa])), (fa, .inl (E.2.1, 10, .inl (aN ((fit ln n lo j).1)))), (o, .inr (2, [.ref a, .int (nI n)])), (a, .inl (E.2.1, 14, .inl (aN Cd)))]) (Lf := fun j => [(3, .int (bI ((fit ln n lo j).2))), (4, .int (nI j)), (0, .ref fo), (1, .ref o), (2, .int (oI lo))]) (Sf := fun _ => []) (fun j => j ≤ 101) (fun j => 101 - j) (fun j hj ihj => ?_) 0 (by omega)
  refine G_iload C dX1_solve_13 rfl 15 rfl ?_
  refine G_bipush C dX1_solve_15 (v := nI 100) (by decide) 17 rfl ?_
  refine G_icmp_gt C dX1_solve_17 68 rfl 20 rfl (nI_ltI (by omega) (by omega)) (fun h_1 => ?_) (fun h_1 => ?_)
  · exact G_vret C hr dX1_solve_68 () trivial rfl (by first | (rw [show j = 101 by omega]; rfl) | (have e := fit_stay h_2 (101 - j); rw [show j + (101 - j) = 101 by omega] at e; simp only [fineC, e]))
  · refine G_iload_n C dX1_solve_20 rfl 21 rfl ?_
    refine G_if_eq C dX1_solve_21 68 rfl 24 rfl (bI_0 _) (fun h_2 => ?_) (fun h_2 => ?_)
    · exact G_vret C hr dX1_solve_68 () trivial rfl (by first | (rw [show j = 101 by omega]; rfl) | (have e := fit_stay h_2 (101 - j); rw [show j + (101 - j) = 101 by omega] at e; simp only [fineC, e]))
    · refine G_iconst C dX1_solve_24 (v := nI 0) rfl 25 rfl ?_
      refine G_istore_n C dX1_solve_25 (by decide) [(3, .int (nI 0)), (4, .int (nI j)), (0, .ref fo), (1, .ref o), (2, .int (oI lo))] rfl 26 rfl ?_
      refine G_iconst C dX1_solve_26 (v := nI 0) rfl 27 rfl ?_
      refine G_istore C dX1_solve_27 (by decide) [(5, .int (nI 0)), (3, .int (nI 0)), (4, .int (nI j)), (0, .ref fo), (1, .ref o), (2, .int (oI lo))] rfl 29 rfl ?_
      refine G_eq (ws' := [(fo, .inr (1, [.ref fa])), (fa, .inl (E.2.1, 10, .inl (aN ((fp ln lo (fit ln n lo j).1 0).1)))), (o, .inr (2, [.ref a, .int (nI n)])), (a, .inl (E.2.1, 14, .inl (aN Cd)))]) (L' := [(5, .int (nI 0)), (3, .int (bI ((fp ln lo (fit ln n lo j).1 0).2))), (4, .int (nI j)), (0, .ref fo), (1, .ref o), (2, .int (oI lo))]) rfl rfl rfl ?_
      refine G_sel [1, 0, 2, 3, 4, 5] [(3, .int (nI 0)), (5, .int (nI 0)), (4, .int (nI j)), (0, .ref fo), (1, .ref o), (2, .int (oI lo))] rfl ?_
      refine G_while (X := Nat) (Wf := fun i => [(fo, .inr (1, [.ref fa])), (fa, .inl (E.2.1, 10, .inl (aN ((fp ln lo (fit ln n lo j).1 i).1)))), (o, .inr (2, [.ref a, .int (nI n)])), (a, .inl (E.2.1, 14, .inl (aN Cd)))]) (Lf := fun i => [(3, .int (bI ((fp ln lo (fit ln n lo j).1 i).2))), (5, .int (nI i)), (4, .int (nI j)), (0, .ref fo), (1, .ref o), (2, .int (oI lo))]) (Sf := fun _ => []) (fun i => i ≤ n) (fun i => n - i) (fun i hi ih => ?_) 0 (by omega)
      refine G_iload C dX1_solve_29 rfl 31 rfl ?_
      refine G_aload_n C dX1_solve_31 rfl 32 rfl ?_
      refine G_cV C dX1_solve_32 (c_X2_size l E o a n Cd ) wm_X1_27 wi_X2_size wsel_X2_size wn_X2 wc_X2_size rfl rfl ⟨by decide, by decide, rfl⟩ rfl (Nat.le_of_ble_eq_true rfl) 2 rfl rfl 0 rfl [2, 3] [0, 1] (wr := [(fo, .inr (1, [.ref fa])), (fa, .inl (E.2.1, 10, .inl (aN ((fp ln lo (fit ln n lo j).1 i).1))))]) rfl rfl rfl rfl rfl [0, 1, 2, 3] rfl [(fo, .inr (1, [.ref fa])), (fa, .inl (E.2.1, 10, .inl (aN ((fp ln lo (fit ln n lo j).1 i).1)))), (o, .inr (2, [.ref a, .int (nI n)])), (a, .inl (E.2.1, 14, .inl (aN Cd)))] rfl rfl [.int (nI n), .int (nI i)] rfl 35 rfl ?_
      refine G_icmp_ge C dX1_solve_35 62 rfl 38 rfl (nI_leI (by omega) (by omega)) (fun h_3 => ?_) (fun h_3 => ?_)
      · refine G_iinc C dX1_solve_62 2 rfl (nI_1 _) (by decide) [(4, .int (nI (j + 1))), (3, .int (bI ((fp ln lo (fit ln n lo j).1 i).2))), (5, .int (nI i)), (0, .ref fo), (1, .ref o), (2, .int (oI lo))] rfl 65 rfl ?_
        refine G_goto C dX1_solve_65 13 rfl ?_
        refine G_sel [1, 0, 3, 4, 5] [(3, .int (bI ((fp ln lo (fit ln n lo j).1 i).2))), (4, .int (nI (j + 1))), (0, .ref fo), (1, .ref o), (2, .int (oI lo))] rfl ?_
        refine G_eq (ws' := [(fo, .inr (1, [.ref fa])), (fa, .inl (E.2.1, 10, .inl (aN ((fit ln n lo (j + 1)).1)))), (o, .inr (2, [.ref a, .int (nI n)])), (a, .inl (E.2.1, 14, .inl (aN Cd)))]) (L' := [(3, .int (bI ((fit ln n lo (j + 1)).2))), (4, .int (nI (j + 1))), (0, .ref fo), (1, .ref o), (2, .int (oI lo))]) (by simp only [fit]; rw [if_pos (by simpa using h_2), show i = n by omega]) (by simp only [fit]; rw [if_pos (by simpa using h_2), show i = n by omega]) rfl ?_
        exact ihj (j + 1) (by omega) (by omega)
      · refine G_iload C dX1_solve_38 rfl 40 rfl ?_
        refine G_iload_n C dX1_solve_40 rfl 41 rfl ?_
        refine G_icmp_eq C dX1_solve_41 56 rfl 44 rfl (oI_eq (t := some i) (u := lo) (fun _ h => (by cases h; omega)) hlo) (fun h_4 => ?_) (fun h_4 => ?_)
        · refine G_iinc C dX1_solve_56 1 rfl (nI_1 _) (by decide) [(5, .int (nI (i + 1))), (3, .int (bI ((fp ln lo (fit ln n lo j).1 i).2))), (4, .int (nI j)), (0, .ref fo), (1, .ref o), (2, .int (oI lo))] rfl 59 rfl ?_
          refine G_goto C dX1_solve_59 29 rfl ?_
          refine G_sel [1, 0, 2, 3, 4, 5] [(3, .int (bI ((fp ln lo (fit ln n lo j).1 i).2))), (5, .int (nI (i + 1))), (4, .int (nI j)), (0, .ref fo), (1, .ref o), (2, .int (oI lo))] rfl ?_
          refine G_eq (ws' := [(fo, .inr (1, [.ref fa])), (fa, .inl (E.2.1, 10, .inl (aN ((fp ln lo (fit ln n lo j).1 (i + 1)).1)))), (o, .inr (2, [.ref a, .int (nI n)])), (a, .inl (E.2.1, 14, .inl (aN Cd)))]) (L' := [(3, .int (bI ((fp ln lo (fit ln n lo j).1 (i + 1)).2))), (5, .int (nI (i + 1))), (4, .int (nI j)), (0, .ref fo), (1, .ref o), (2, .int (oI lo))]) (by simp [fp, h_4]) (by simp [fp, h_4]) rfl ?_
          exact ih (i + 1) (by omega) (by omega)
        · refine G_aload_n C dX1_solve_44 rfl 45 rfl ?_
          refine G_aload_n C dX1_solve_45 rfl 46 rfl ?_
          refine G_iload C dX1_solve_46 rfl 48 rfl ?_
          refine G_cV C dX1_solve_48 (c_X1_apply l E fo fa ((fp ln lo (fit ln n lo j).1 i).1) o a n Cd i (ln i) (sok_fp (sok_fit j) i) (by omega) (hok.c (by omega)) (hok.v (by omega))) wm_X1_33 wi_X1_apply wsel_X1_apply wn_X1 wc_X1_apply rfl rfl ⟨by decide, by decide, rfl⟩ rfl (Nat.le_of_ble_eq_true rfl) 1 rfl rfl 0 rfl [0, 1, 2, 3] [] (wr := []) rfl rfl rfl rfl rfl [0, 1, 2, 3] rfl [(fo, .inr (1, [.ref fa])), (fa, .inl (E.2.1, 10, .inl (aN (fS (ln i) ((fp ln lo (fit ln n lo j).1 i).1))))), (o, .inr (2, [.ref a, .int (nI n)])), (a, .inl (E.2.1, 14, .inl (aN Cd)))] rfl rfl [.int (bI (fF (ln i) ((fp ln lo (fit ln n lo j).1 i).1)))] rfl 51 rfl ?_
          refine G_if_eq C dX1_solve_51 56 rfl 54 rfl (bI_0 _) (fun h_5 => ?_) (fun h_5 => ?_)
          · refine G_iinc C dX1_solve_56 1 rfl (nI_1 _) (by decide) [(5, .int (nI (i + 1))), (3, .int (bI ((fp ln lo (fit ln n lo j).1 i).2))), (4, .int (nI j)), (0, .ref fo), (1, .ref o), (2, .int (oI lo))] rfl 59 rfl ?_
            refine G_goto C dX1_solve_59 29 rfl ?_
            refine G_sel [1, 0, 2, 3, 4, 5] [(3, .int (bI ((fp ln lo (fit ln n lo j).1 i).2))), (5, .int (nI (i + 1))), (4, .int (nI j)), (0, .ref fo), (1, .ref o), (2, .int (oI lo))] rfl ?_
            refine G_eq (ws' := [(fo, .inr (1, [.ref fa])), (fa, .inl (E.2.1, 10, .inl (aN ((fp ln lo (fit ln n lo j).1 (i + 1)).1)))), (o, .inr (2, [.ref a, .int (nI n)])), (a, .inl (E.2.1, 14, .inl (aN Cd)))]) (L' := [(3, .int (bI ((fp ln lo (fit ln n lo j).1 (i + 1)).2))), (5, .int (nI (i + 1))), (4, .int (nI j)), (0, .ref fo), (1, .ref o), (2, .int (oI lo))]) (by simp [fp, h_4]) (by simp [fp, h_4, h_5, bI]) rfl ?_
            exact ih (i + 1) (by omega) (by omega)
          · refine G_iconst C dX1_solve_54 (v := nI 1) rfl 55 rfl ?_
            refine G_istore_n C dX1_solve_55 (by decide) [(3, .int (nI 1)), (5, .int (nI i)), (4, .int (nI j)), (0, .ref fo), (1, .ref o), (2, .int (oI lo))] rfl 56 rfl ?_
            refine G_iinc C dX1_solve_56 1 rfl (nI_1 _) (by decide) [(5, .int (nI (i + 1))), (3, .int (nI 1)), (4, .int (nI j)), (0, .ref fo), (1, .ref o), (2, .int (oI lo))] rfl 59 rfl ?_
            refine G_goto C dX1_solve_59 29 rfl ?_
            refine G_sel [1, 0, 2, 3, 4, 5] [(3, .int (nI 1)), (5, .int (nI (i + 1))), (4, .int (nI j)), (0, .ref fo), (1, .ref o), (2, .int (oI lo))] rfl ?_
            refine G_eq (ws' := [(fo, .inr (1, [.ref fa])), (fa, .inl (E.2.1, 10, .inl (aN ((fp ln lo (fit ln n lo j).1 (i + 1)).1)))), (o, .inr (2, [.ref a, .int (nI n)])), (a, .inl (E.2.1, 14, .inl (aN Cd)))]) (L' := [(3, .int (bI ((fp ln lo (fit ln n lo j).1 (i + 1)).2))), (5, .int (nI (i + 1))), (4, .int (nI j)), (0, .ref fo), (1, .ref o), (2, .int (oI lo))]) (by simp [fp, h_4]) (by simp [fp, h_4, h_5, bI]) rfl ?_
            exact ih (i + 1) (by omega) (by omega)
end
section
-- groups
def flG {α : Type} (f g : Nat → α) (i : Nat) : Nat → α := fun k => if k < i then f k else g k
theorem flG_0 {α : Type} (f g : Nat → α) : flG f g 0 = g := by funext k; simp [flG]
theorem flG_s {α : Type} (f g : Nat → α) (i : Nat) : va_up (flG f g i) i (f i) = flG f g (i + 1) := by
  funext k; unfold va_up flG
  by_cases hk : k = i
  · subst hk; simp
  · rw [if_neg hk]
    by_cases h2 : k < i
    · rw [if_pos h2, if_pos (by omega)]
    · rw [if_neg h2, if_neg (by omega)]
theorem flG_in {α : Type} (f g : Nat → α) {i k : Nat} (h : k < i) : flG f g i k = f k := by simp [flG, h]
def gok (Gp : Nat → Nat) : Prop := ∀ k, k < 10 → Gp k < 10
def ook (t : Option Nat) : Prop := ∀ g, t = some g → g < 10
def tok (Tt : Nat → Option Nat) : Prop := ∀ k, k < 10 → ook (Tt k)
theorem ook.b {t : Option Nat} (h : ook t) : ∀ g, t = some g → g < 2 ^ 31 := fun g hg => Nat.lt_of_lt_of_le (h g hg) (by omega)
theorem ook_n : ook none := fun g h => by cases h
theorem ook_s {g : Nat} (h : g < 10) : ook (some g) := fun a ha => by cases ha; exact h
def renN (Gp : Nat → Nat) (hi lo i : Nat) : Nat → Nat := fun k => if k < i ∧ Gp k = hi then lo else Gp k
def renO (Tt : Nat → Option Nat) (hi lo i : Nat) : Nat → Option Nat := fun k => if k < i ∧ Tt k = some hi then some lo else Tt k
theorem renN_0 (Gp : Nat → Nat) (hi lo : Nat) : renN Gp hi lo 0 = Gp := by funext k; simp [renN]
theorem renO_0 (Tt : Nat → Option Nat) (hi lo : Nat) : renO Tt hi lo 0 = Tt := by funext k; simp [renO]
theorem renN_at (Gp : Nat → Nat) (hi lo i : Nat) : renN Gp hi lo i i = Gp i := by simp [renN]
theorem renO_at (Tt : Nat → Option Nat) (hi lo i : Nat) : renO Tt hi lo i i = Tt i := by simp [renO]
theorem renN_s1 {Gp : Nat → Nat} {hi lo i : Nat} (h : Gp i = hi) : va_up (renN Gp hi lo i) i lo = renN Gp hi lo (i + 1) := by
  funext k; unfold va_up renN
  by_cases hk : k = i
  · subst hk; simp [h]
  · rw [if_neg hk]
    by_cases h2 : k < i ∧ Gp k = hi
    · rw [if_pos h2, if_pos ⟨by omega, h2.2⟩]
    · rw [if_neg h2, if_neg (fun h3 => h2 ⟨by omega, h3.2⟩)]
theorem renN_s0 {Gp : Nat → Nat} {hi lo i : Nat} (h : ¬ Gp i = hi) : renN Gp hi lo i = renN Gp hi lo (i + 1) := by
  funext k; unfold renN
  by_cases hk : k = i
  · subst hk; simp [h]
  · by_cases h2 : k < i ∧ Gp k = hi
    · rw [if_pos h2, if_pos ⟨by omega, h2.2⟩]
    · rw [if_neg h2, if_neg (fun h3 => h2 ⟨by omega, h3.2⟩)]
theorem renO_s1 {Tt : Nat → Option Nat} {hi lo i : Nat} (h : Tt i = some hi) : va_up (renO Tt hi lo i) i (some lo) = renO Tt hi lo (i + 1) := by
  funext k; unfold va_up renO
  by_cases hk : k = i
  · subst hk; simp [h]
  · rw [if_neg hk]
    by_cases h2 : k < i ∧ Tt k = some hi
    · rw [if_pos h2, if_pos ⟨by omega, h2.2⟩]
    · rw [if_neg h2, if_neg (fun h3 => h2 ⟨by omega, h3.2⟩)]
theorem renO_s0 {Tt : Nat → Option Nat} {hi lo i : Nat} (h : ¬ Tt i = some hi) : renO Tt hi lo i = renO Tt hi lo (i + 1) := by
  funext k; unfold renO
  by_cases hk : k = i
  · subst hk; simp [h]
  · by_cases h2 : k < i ∧ Tt k = some hi
    · rw [if_pos h2, if_pos ⟨by omega, h2.2⟩]
    · rw [if_neg h2, if_neg (fun h3 => h2 ⟨by omega, h3.2⟩)]
theorem gok_ren {Gp : Nat → Nat} (h : gok Gp) {hi lo : Nat} (hl : lo < 10) (i : Nat) : gok (renN Gp hi lo i) := by
  intro k hk; unfold renN
  by_cases h2 : k < i ∧ Gp k = hi
  · rw [if_pos h2]; exact hl
  · rw [if_neg h2]; exact h k hk
theorem tok_ren {Tt : Nat → Option Nat} (h : tok Tt) {hi lo : Nat} (hl : lo < 10) (i : Nat) : tok (renO Tt hi lo i) := by
  intro k hk; unfold renO
  by_cases h2 : k < i ∧ Tt k = some hi
  · rw [if_pos h2]; exact ook_s hl
  · rw [if_neg h2]; exact h k hk
theorem tok_up {Tt : Nat → Option Nat} (h : tok Tt) {x : Nat} {t : Option Nat} (ht : ook t) : tok (va_up Tt x t) := by
  intro k hk
  by_cases e : k = x
  · subst e; rw [up_s]; exact ht
  · rw [up_n e]; exact h k hk
abbrev jQ : Type := (Nat → Nat) × (Nat → Option Nat) × Option Nat × Option Nat
/-- two different groups become one; what they point to comes next -/
def jone (Gp : Nat → Nat) (Tt : Nat → Option Nat) (lo hi : Nat) : jQ :=
  (renN Gp hi lo 10, (if renO Tt hi lo 10 lo = none then va_up (va_up (renO Tt hi lo 10) hi none) lo (renO Tt hi lo 10 hi) else va_up (renO Tt hi lo 10) hi none), renO Tt hi lo 10 lo, renO Tt hi lo 10 hi)
def jstep : jQ → jQ
  | (Gp, Tt, some x, some y) => if x = y then (Gp, Tt, some x, some y) else jone Gp Tt (min x y) (max x y)
  | q => q
def jit (q : jQ) : Nat → jQ
  | 0 => q
  | j + 1 => jstep (jit q j)
theorem jit_stay {q : jQ} {j : Nat} (h : jstep (jit q j) = jit q j) : ∀ d, jit q (j + d) = jit q j
  | 0 => rfl
  | d + 1 => by
    show jstep (jit q (j + d)) = _
    rw [jit_stay h d, h]
def jn (Gp : Nat → Nat) (Tt : Nat → Option Nat) (a b : Option Nat) : jQ := jit (Gp, Tt, a, b) 10
theorem jstep_eq {Gp : Nat → Nat} {Tt : Nat → Option Nat} {a b : Option Nat} (h : a = b ∨ a = none ∨ b = none) : jstep (Gp, Tt, a, b) = (Gp, Tt, a, b) := by
  cases a with
  | none => rfl
  | some x =>
    cases b with
    | none => rfl
    | some y =>
      rcases h with h | h | h
      · cases h; simp [jstep]
      · cases h
      · cases h
def jok (q : jQ) : Prop := gok q.1 ∧ tok q.2.1 ∧ ook q.2.2.1 ∧ ook q.2.2.2
theorem jok_one {Gp : Nat → Nat} {Tt : Nat → Option Nat} {lo hi : Nat} (hg : gok Gp) (ht : tok Tt) (hl : lo < 10) (hh : hi < 10) : jok (jone Gp Tt lo hi) := by
  have h1 := tok_ren (hi := hi) ht hl 10
  refine ⟨gok_ren hg hl 10, ?_, h1 lo hl, h1 hi hh⟩
  show tok (if _ then _ else _)
  by_cases e : renO Tt hi lo 10 lo = none
  · rw [if_pos e]; exact tok_up (tok_up h1 ook_n) (h1 hi hh)
  · rw [if_neg e]; exact tok_up h1 ook_n
theorem jok_step {q : jQ} (h : jok q) : jok (jstep q) := by
  obtain ⟨Gp, Tt, a, b⟩ := q
  cases a with
  | none => exact h
  | some x =>
    cases b with
    | none => exact h
    | some y =>
      have hx : x < 10 := h.2.2.1 x rfl
      have hy : y < 10 := h.2.2.2 y rfl
      show jok (if x = y then (Gp, Tt, some x, some y) else jone Gp Tt (min x y) (max x y))
      by_cases e : x = y
      · rw [if_pos e]; exact h
      · rw [if_neg e]; exact jok_one h.1 h.2.1 (by omega) (by omega)
theorem jok_it {q : jQ} (h : jok q) : ∀ j, jok (jit q j)
  | 0 => h
  | j + 1 => jok_step (jok_it h j)
theorem jok_n {Gp : Nat → Nat} {Tt : Nat → Option Nat} {a b : Option Nat} (hg : gok Gp) (ht : tok Tt) (ha : ook a) (hb : ook b) : jok (jn Gp Tt a b) := jok_it ⟨hg, ht, ha, hb⟩ 10
/-- one group comes to point to another -/
def pt (Gp : Nat → Nat) (Tt : Nat → Option Nat) (f t : Option Nat) : (Nat → Nat) × (Nat → Option Nat) × Bool :=
  match f, t with
  | some x, some y => if Tt x = some y then (Gp, Tt, false) else if Tt x = none then (Gp, va_up Tt x (some y), true) else ((jn Gp Tt (Tt x) (some y)).1, (jn Gp Tt (Tt x) (some y)).2.1, true)
  | _, _ => (Gp, Tt, false)
def cst (v : Nat) (Gp : Nat → Nat) (Tt : Nat → Option Nat) : (Nat → Nat) × (Nat → Option Nat) × Bool :=
  if v / 100 = 0 then pt Gp Tt (some (Gp (v / 10 % 10))) (some (Gp (v % 10)))
  else if v / 100 = 1 then pt Gp Tt (some (Gp (v / 10 % 10))) (Tt (Gp (v % 10)))
  else if v / 100 = 2 then pt Gp Tt (some (Gp (v / 10 % 10))) ((Tt (Gp (v % 10))).bind Tt)
  else pt Gp Tt (Tt (Gp (v / 10 % 10))) (Tt (Gp (v % 10)))
abbrev cQ : Type := (Nat → Nat) × (Nat → Option Nat) × Bool
def cp (ln : Nat → Nat) (lo : Option Nat) (Gp : Nat → Nat) (Tt : Nat → Option Nat) : Nat → cQ
  | 0 => (Gp, Tt, false)
  | i + 1 => if some i = lo then cp ln lo Gp Tt i else ((cst (ln i) (cp ln lo Gp Tt i).1 (cp ln lo Gp Tt i).2.1).1, (cst (ln i) (cp ln lo Gp Tt i).1 (cp ln lo Gp Tt i).2.1).2.1, (cp ln lo Gp Tt i).2.2 || (cst (ln i) (cp ln lo Gp Tt i).1 (cp ln lo Gp Tt i).2.1).2.2)
def cit (ln : Nat → Nat) (n : Nat) (lo : Option Nat) : Nat → cQ
  | 0 => (fun k => k, fun _ => none, true)
  | j + 1 => if (cit ln n lo j).2.2 = true then cp ln lo (cit ln n lo j).1 (cit ln n lo j).2.1 n else cit ln n lo j
def coarG (ln : Nat → Nat) (n : Nat) (lo : Option Nat) : Nat → Nat := (cit ln n lo 21).1
def coarT (ln : Nat → Nat) (n : Nat) (lo : Option Nat) : Nat → Option Nat := (cit ln n lo 21).2.1
def cok (q : cQ) : Prop := gok q.1 ∧ tok q.2.1
theorem cok_pt {Gp : Nat → Nat} {Tt : Nat → Option Nat} (hg : gok Gp) (ht : tok Tt) {f t : Option Nat} (hf : ook f) (h2 : ook t) : cok (pt Gp Tt f t) := by
  cases f with
  | none => exact ⟨hg, ht⟩
  | some x =>
    cases t with
    | none => exact ⟨hg, ht⟩
    | some y =>
      have hx := hf x rfl
      have hy := h2 y rfl
      unfold pt
      by_cases e : Tt x = some y
      · simp only [e, if_true]; exact ⟨hg, ht⟩
      · simp only [if_neg e]
        by_cases e2 : Tt x = none
        · simp only [if_pos e2]; exact ⟨hg, tok_up ht h2⟩
        · simp only [if_neg e2]
          have h := jok_n hg ht (ht x hx) h2
          generalize jn Gp Tt (Tt x) (some y) = Q at h ⊢
          exact ⟨h.1, h.2.1⟩
theorem ook_bind {Tt : Nat → Option Nat} (ht : tok Tt) {t : Option Nat} (h : ook t) : ook (t.bind Tt) := by
  cases t with
  | none => exact ook_n
  | some g => exact ht g (h g rfl)
theorem cok_st {Gp : Nat → Nat} {Tt : Nat → Option Nat} (hg : gok Gp) (ht : tok Tt) (v : Nat) : cok (cst v Gp Tt) := by
  have hx : v / 10 % 10 < 10 := by omega
  have hy : v % 10 < 10 := by omega
  unfold cst
  by_cases h0 : v / 100 = 0
  · rw [if_pos h0]; exact cok_pt hg ht (ook_s (hg _ hx)) (ook_s (hg _ hy))
  · rw [if_neg h0]
    by_cases h1 : v / 100 = 1
    · rw [if_pos h1]; exact cok_pt hg ht (ook_s (hg _ hx)) (ht _ (hg _ hy))
    · rw [if_neg h1]
      by_cases h2 : v / 100 = 2
      · rw [if_pos h2]; exact cok_pt hg ht (ook_s (hg _ hx)) (ook_bind ht (ht _ (hg _ hy)))
      · rw [if_neg h2]; exact cok_pt hg ht (ht _ (hg _ hx)) (ht _ (hg _ hy))
theorem cok_cp {ln : Nat → Nat} {lo : Option Nat} {Gp : Nat → Nat} {Tt : Nat → Option Nat} (hg : gok Gp) (ht : tok Tt) : ∀ i, cok (cp ln lo Gp Tt i)
  | 0 => ⟨hg, ht⟩
  | i + 1 => by
    have h1 := cok_cp (ln := ln) (lo := lo) hg ht i
    simp only [cp]
    by_cases e : some i = lo
    · rw [if_pos e]; exact h1
    · rw [if_neg e]; exact ⟨(cok_st h1.1 h1.2 _).1, (cok_st h1.1 h1.2 _).2⟩
theorem cok_cit {ln : Nat → Nat} {n : Nat} {lo : Option Nat} : ∀ j, cok (cit ln n lo j)
  | 0 => ⟨fun _ h => h, fun _ _ => ook_n⟩
  | j + 1 => by
    have h1 := cok_cit (ln := ln) (n := n) (lo := lo) j
    simp only [cit]
    by_cases e : (cit ln n lo j).2.2 = true
    · rw [if_pos e]; exact cok_cp h1.1 h1.2 n
    · rw [if_neg e]; exact h1
theorem cit_stay {ln : Nat → Nat} {n : Nat} {lo : Option Nat} {j : Nat} (h : (cit ln n lo j).2.2 = false) : ∀ d, cit ln n lo (j + d) = cit ln n lo j
  | 0 => rfl
  | d + 1 => by
    have h1 := cit_stay h d
    show cit ln n lo (j + d + 1) = _
    simp only [cit]
    rw [h1, h]; simp
def mem (Gp : Nat → Nat) (t : Option Nat) : Nat → Nat
  | 0 => 0
  | i + 1 => if some (Gp i) = t then mem Gp t i ||| 2 ^ i else mem Gp t i
theorem mem_lt (Gp : Nat → Nat) (t : Option Nat) : ∀ i, i ≤ 10 → mem Gp t i < 1024
  | 0, _ => by simp [mem]
  | i + 1, h => by
    have h1 := mem_lt Gp t i (by omega)
    simp only [mem]
    by_cases e : some (Gp i) = t
    · rw [if_pos e]; exact or_lt10 h1 (pow_lt10 (by omega))
    · rw [if_neg e]; exact h1
def gcn (Gp : Nat → Nat) : Nat → Nat
  | 0 => 0
  | i + 1 => gcn Gp i + (if Gp i = i then 1 else 0)
def pnc (Tt : Nat → Option Nat) : Nat → Nat
  | 0 => 0
  | i + 1 => pnc Tt i + (if Tt i = none then 0 else 1)
def snc (Tt : Nat → Option Nat) : Nat → Nat
  | 0 => 0
  | i + 1 => snc Tt i + (if Tt i = some i then 1 else 0)
def ctot (Gp : Nat → Nat) (Tt : Nat → Option Nat) : Nat → Nat
  | 0 => 0
  | i + 1 => ctot Gp Tt i + pcn (mem Gp (Tt (Gp i)) 10)
end
section
set_option maxHeartbeats 4000000 in
set_option maxRecDepth 100000 in
theorem c_X6_as1 (l : Launch) (E : gE)   : FD l E yX6_asNumber cX6_asNumber 1 (some .int) { frames := 0, cells := 0, slots := 0, locals := 0 } [.int (nI 1)] [] (some (.int (nI 1))) [] := by
  refine Fn_ofL (own := RX6) (by decide) rfl rfl [(0, .int (nI 1))] rfl ?_
  intro p e s m below meth c A C hr hnm
  refine G_iload_n C dX6_asNumber_0 rfl 1 rfl ?_
  refine G_if_eq_f C dX6_asNumber_1 8 rfl 4 rfl (by decide) ?_
  refine G_iconst C dX6_asNumber_4 (v := nI 1) rfl 5 rfl ?_
  refine G_goto C dX6_asNumber_5 9 rfl ?_
  exact G_iret C hr dX6_asNumber_9 rfl () trivial rfl rfl

set_option maxHeartbeats 4000000 in
set_option maxRecDepth 100000 in
theorem c_X6_as0 (l : Launch) (E : gE)   : FD l E yX6_asNumber cX6_asNumber 1 (some .int) { frames := 0, cells := 0, slots := 0, locals := 0 } [.int (nI 0)] [] (some (.int (nI 0))) [] := by
  refine Fn_ofL (own := RX6) (by decide) rfl rfl [(0, .int (nI 0))] rfl ?_
  intro p e s m below meth c A C hr hnm
  refine G_iload_n C dX6_asNumber_0 rfl 1 rfl ?_
  refine G_if_eq_t C dX6_asNumber_1 8 rfl (by decide) ?_
  refine G_iconst C dX6_asNumber_8 (v := nI 0) rfl 9 rfl ?_
  exact G_iret C hr dX6_asNumber_9 rfl () trivial rfl rfl

set_option maxHeartbeats 4000000 in
set_option maxRecDepth 100000 in
theorem c_X0_groupOf (l : Launch) (E : gE) (co cg ct : Nat) (Gp : Nat → Nat) (Tt : Nat → Option Nat) (x : Nat) (hx : x < 10) : FD l E yX0_groupOf cX0_groupOf 2 (some .int) { frames := 0, cells := 0, slots := 0, locals := 0 } [.ref co, .int (nI x)] [(co, .inr (0, [.ref cg, .ref ct])), (cg, .inl (E.2.1, 10, .inl (aN Gp))), (ct, .inl (E.2.1, 10, .inl (aO Tt)))] (some (.int (nI (Gp x)))) [(co, .inr (0, [.ref cg, .ref ct])), (cg, .inl (E.2.1, 10, .inl (aN Gp))), (ct, .inl (E.2.1, 10, .inl (aO Tt)))] := by
  refine Fn_ofL (own := RX0) (by decide) rfl rfl [(0, .ref co), (1, .int (nI x))] rfl ?_
  intro p e s m below meth c A C hr hnm
  refine G_aload_n C dX0_groupOf_0 rfl 1 rfl ?_
  refine G_getf C dX0_groupOf_1 wF_X0 wf_X0_9 (f := 0) (by decide) (ci := 0) rfl 0 rfl rfl 4 rfl ?_
  refine G_iload_n C dX0_groupOf_4 rfl 5 rfl ?_
  refine G_ialdN C dX0_groupOf_5 1 rfl rfl (by omega) 6 rfl ?_
  exact G_iret C hr dX0_groupOf_6 rfl () trivial rfl rfl

set_option maxHeartbeats 4000000 in
set_option maxRecDepth 100000 in
theorem c_X0_targetOf (l : Launch) (E : gE) (co cg ct : Nat) (Gp : Nat → Nat) (Tt : Nat → Option Nat) (t : Option Nat) (ht : ook t) : FD l E yX0_targetOf cX0_targetOf 2 (some .int) { frames := 0, cells := 0, slots := 0, locals := 0 } [.ref co, .int (oI t)] [(co, .inr (0, [.ref cg, .ref ct])), (cg, .inl (E.2.1, 10, .inl (aN Gp))), (ct, .inl (E.2.1, 10, .inl (aO Tt)))] (some (.int (oI (t.bind Tt)))) [(co, .inr (0, [.ref cg, .ref ct])), (cg, .inl (E.2.1, 10, .inl (aN Gp))), (ct, .inl (E.2.1, 10, .inl (aO Tt)))] := by
  refine Fn_ofL (own := RX0) (by decide) rfl rfl [(0, .ref co), (1, .int (oI t))] rfl ?_
  intro p e s m below meth c A C hr hnm
  cases t with
  | none =>
    refine G_iload_n C dX0_targetOf_0 rfl 1 rfl ?_
    refine G_iconst C dX0_targetOf_1 (v := oI none) rfl 2 rfl ?_
    refine G_icmp_ne_f C dX0_targetOf_2 9 rfl 5 rfl (by decide) ?_
    refine G_iconst C dX0_targetOf_5 (v := oI none) rfl 6 rfl ?_
    refine G_goto C dX0_targetOf_6 15 rfl ?_
    exact G_iret C hr dX0_targetOf_15 rfl () trivial rfl rfl
  | some g =>
    have hg : g < 10 := ht g rfl
    refine G_eq (L' := [(0, .ref co), (1, .int (nI g))]) rfl rfl rfl ?_
    refine G_iload_n C dX0_targetOf_0 rfl 1 rfl ?_
    refine G_iconst C dX0_targetOf_1 (v := oI none) rfl 2 rfl ?_
    refine G_icmp_ne_t C dX0_targetOf_2 9 rfl (oI_ne (by omega)) ?_
    refine G_aload_n C dX0_targetOf_9 rfl 10 rfl ?_
    refine G_getf C dX0_targetOf_10 wF_X0 wf_X0_15 (f := 1) (by decide) (ci := 0) rfl 0 rfl rfl 13 rfl ?_
    refine G_iload_n C dX0_targetOf_13 rfl 14 rfl ?_
    refine G_ialdO C dX0_targetOf_14 2 rfl rfl (by omega) 15 rfl ?_
    exact G_iret C hr dX0_targetOf_15 rfl () trivial rfl rfl

set_option maxHeartbeats 4000000 in
set_option maxRecDepth 100000 in
theorem c_X0_membersOf (l : Launch) (E : gE) (co cg ct : Nat) (Gp : Nat → Nat) (Tt : Nat → Option Nat) (t : Option Nat) (hG : gok Gp) (ht : ook t) : FD l E yX0_membersOf cX0_membersOf 4 (some .int) { frames := 1, cells := 0, slots := 0, locals := 20 } [.ref co, .int (oI t)] [(co, .inr (0, [.ref cg, .ref ct])), (cg, .inl (E.2.1, 10, .inl (aN Gp))), (ct, .inl (E.2.1, 10, .inl (aO Tt)))] (some (.int (nI (mem Gp t 10)))) [(co, .inr (0, [.ref cg, .ref ct])), (cg, .inl (E.2.1, 10, .inl (aN Gp))), (ct, .inl (E.2.1, 10, .inl (aO Tt)))] := by
  refine Fn_ofL (own := RX0) (by decide) rfl rfl [(0, .ref co), (1, .int (oI t))] rfl ?_
  intro p e s m below meth c A C hr hnm
  refine G_iconst C dX0_membersOf_0 (v := nI 0) rfl 1 rfl ?_
  refine G_istore_n C dX0_membersOf_1 (by decide) [(2, .int (nI 0)), (0, .ref co), (1, .int (oI t))] rfl 2 rfl ?_
  refine G_iconst C dX0_membersOf_2 (v := nI 0) rfl 3 rfl ?_
  refine G_istore_n C dX0_membersOf_3 (by decide) [(3, .int (nI 0)), (2, .int (nI 0)), (0, .ref co), (1, .int (oI t))] rfl 4 rfl ?_
  refine G_sel [1, 0, 2, 3] [(2, .int (nI 0)), (3, .int (nI 0)), (0, .ref co), (1, .int (oI t))] rfl ?_
  refine G_while (X := Nat) (Wf := fun i => [(co, .inr (0, [.ref cg, .ref ct])), (cg, .inl (E.2.1, 10, .inl (aN Gp))), (ct, .inl (E.2.1, 10, .inl (aO Tt)))]) (Lf := fun i => [(2, .int (nI (mem Gp t i))), (3, .int (nI i)), (0, .ref co), (1, .int (oI t))]) (Sf := fun _ => []) (fun i => i ≤ 10) (fun i => 10 - i) (fun i hi ih => ?_) 0 (by omega)
  refine G_iload_n C dX0_membersOf_4 rfl 5 rfl ?_
  refine G_bipush C dX0_membersOf_5 (v := nI 10) (by decide) 7 rfl ?_
  refine G_icmp_ge C dX0_membersOf_7 33 rfl 10 rfl (nI_leI (by omega) (by omega)) (fun h_1 => ?_) (fun h_1 => ?_)
  · refine G_iload_n C dX0_membersOf_33 rfl 34 rfl ?_
    exact G_iret C hr dX0_membersOf_34 rfl () trivial (by rw [show i = 10 by omega]) rfl
  · refine G_aload_n C dX0_membersOf_10 rfl 11 rfl ?_
    refine G_getf C dX0_membersOf_11 wF_X0 wf_X0_9 (f := 0) (by decide) (ci := 0) rfl 0 rfl rfl 14 rfl ?_
    refine G_iload_n C dX0_membersOf_14 rfl 15 rfl ?_
    refine G_ialdN C dX0_membersOf_15 1 rfl rfl (by omega) 16 rfl ?_
    refine G_iload_n C dX0_membersOf_16 rfl 17 rfl ?_
    refine G_icmp_ne C dX0_membersOf_17 27 rfl 20 rfl (oI_eq (t := some (Gp i)) (u := t) (ook.b (ook_s (hG i (by omega)))) ht.b) (fun h_2 => ?_) (fun h_2 => ?_)
    · refine G_iinc C dX0_membersOf_27 1 rfl (nI_1 _) (by decide) [(3, .int (nI (i + 1))), (2, .int (nI (mem Gp t i))), (0, .ref co), (1, .int (oI t))] rfl 30 rfl ?_
      refine G_goto C dX0_membersOf_30 4 rfl ?_
      refine G_sel [1, 0, 2, 3] [(2, .int (nI (mem Gp t i))), (3, .int (nI (i + 1))), (0, .ref co), (1, .int (oI t))] rfl ?_
      refine G_eq (ws' := [(co, .inr (0, [.ref cg, .ref ct])), (cg, .inl (E.2.1, 10, .inl (aN Gp))), (ct, .inl (E.2.1, 10, .inl (aO Tt)))]) (L' := [(2, .int (nI (mem Gp t (i + 1)))), (3, .int (nI (i + 1))), (0, .ref co), (1, .int (oI t))]) rfl (by simp [mem, h_2]) rfl ?_
      exact ih (i + 1) (by omega) (by omega)
    · refine G_iload_n C dX0_membersOf_20 rfl 21 rfl ?_
      refine G_iload_n C dX0_membersOf_21 rfl 22 rfl ?_
      refine G_cSN C dX0_membersOf_22 (c_X6_bit l E i (by first | assumption | omega)) wq_X0_22 wt_X6_bit wn_X6 wc_X6_bit rfl rfl ⟨by decide, by decide, rfl⟩ rfl (Nat.le_of_ble_eq_true rfl) [] [0, 1, 2] (wr := [(co, .inr (0, [.ref cg, .ref ct])), (cg, .inl (E.2.1, 10, .inl (aN Gp))), (ct, .inl (E.2.1, 10, .inl (aO Tt)))]) rfl rfl rfl rfl rfl [0, 1, 2] rfl [(co, .inr (0, [.ref cg, .ref ct])), (cg, .inl (E.2.1, 10, .inl (aN Gp))), (ct, .inl (E.2.1, 10, .inl (aO Tt)))] rfl rfl [.int (nI (2 ^ i)), .int (nI (mem Gp t i))] rfl 25 rfl ?_
      refine G_ior C dX0_membersOf_25 (v := nI ((mem Gp t i) ||| (2 ^ i))) (fa_or _ _) 26 rfl ?_
      refine G_istore_n C dX0_membersOf_26 (by decide) [(2, .int (nI ((mem Gp t i) ||| (2 ^ i)))), (3, .int (nI i)), (0, .ref co), (1, .int (oI t))] rfl 27 rfl ?_
      refine G_iinc C dX0_membersOf_27 1 rfl (nI_1 _) (by decide) [(3, .int (nI (i + 1))), (2, .int (nI ((mem Gp t i) ||| (2 ^ i)))), (0, .ref co), (1, .int (oI t))] rfl 30 rfl ?_
      refine G_goto C dX0_membersOf_30 4 rfl ?_
      refine G_sel [1, 0, 2, 3] [(2, .int (nI ((mem Gp t i) ||| (2 ^ i)))), (3, .int (nI (i + 1))), (0, .ref co), (1, .int (oI t))] rfl ?_
      refine G_eq (ws' := [(co, .inr (0, [.ref cg, .ref ct])), (cg, .inl (E.2.1, 10, .inl (aN Gp))), (ct, .inl (E.2.1, 10, .inl (aO Tt)))]) (L' := [(2, .int (nI (mem Gp t (i + 1)))), (3, .int (nI (i + 1))), (0, .ref co), (1, .int (oI t))]) rfl (by simp [mem, h_2]) rfl ?_
      exact ih (i + 1) (by omega) (by omega)

set_option maxHeartbeats 4000000 in
set_option maxRecDepth 100000 in
theorem c_X0_setOf (l : Launch) (E : gE) (co cg ct : Nat) (Gp : Nat → Nat) (Tt : Nat → Option Nat) (x : Nat) (hG : gok Gp) (hT : tok Tt) (hx : x < 10) : FD l E yX0_setOf cX0_setOf 2 (some .int) { frames := 2, cells := 0, slots := 0, locals := 43 } [.ref co, .int (nI x)] [(co, .inr (0, [.ref cg, .ref ct])), (cg, .inl (E.2.1, 10, .inl (aN Gp))), (ct, .inl (E.2.1, 10, .inl (aO Tt)))] (some (.int (nI (mem Gp (Tt (Gp x)) 10)))) [(co, .inr (0, [.ref cg, .ref ct])), (cg, .inl (E.2.1, 10, .inl (aN Gp))), (ct, .inl (E.2.1, 10, .inl (aO Tt)))] := by
  refine Fn_ofL (own := RX0) (by decide) rfl rfl [(0, .ref co), (1, .int (nI x))] rfl ?_
  intro p e s m below meth c A C hr hnm
  refine G_aload_n C dX0_setOf_0 rfl 1 rfl ?_
  refine G_aload_n C dX0_setOf_1 rfl 2 rfl ?_
  refine G_getf C dX0_setOf_2 wF_X0 wf_X0_15 (f := 1) (by decide) (ci := 0) rfl 0 rfl rfl 5 rfl ?_
  refine G_aload_n C dX0_setOf_5 rfl 6 rfl ?_
  refine G_getf C dX0_setOf_6 wF_X0 wf_X0_9 (f := 0) (by decide) (ci := 0) rfl 0 rfl rfl 9 rfl ?_
  refine G_iload_n C dX0_setOf_9 rfl 10 rfl ?_
  refine G_ialdN C dX0_setOf_10 1 rfl rfl (by omega) 11 rfl ?_
  refine G_ialdO C dX0_setOf_11 2 rfl rfl (hG _ hx) 12 rfl ?_
  refine G_cV C dX0_setOf_12 (c_X0_membersOf l E co cg ct Gp Tt (Tt (Gp x)) (by first | assumption | omega) (hT _ (hG _ hx))) wm_X0_18 wi_X0_membersOf wsel_X0_membersOf wn_X0 wc_X0_membersOf rfl rfl ⟨by decide, by decide, rfl⟩ rfl (Nat.le_of_ble_eq_true rfl) 0 rfl rfl 0 rfl [0, 1, 2] [] (wr := []) rfl rfl rfl rfl rfl [0, 1, 2] rfl [(co, .inr (0, [.ref cg, .ref ct])), (cg, .inl (E.2.1, 10, .inl (aN Gp))), (ct, .inl (E.2.1, 10, .inl (aO Tt)))] rfl rfl [.int (nI (mem Gp (Tt (Gp x)) 10))] rfl 15 rfl ?_
  exact G_iret C hr dX0_setOf_15 rfl () trivial rfl rfl

set_option maxHeartbeats 4000000 in
set_option maxRecDepth 100000 in
theorem c_X0_groupCount (l : Launch) (E : gE) (co cg ct : Nat) (Gp : Nat → Nat) (Tt : Nat → Option Nat) (hG : gok Gp) (hT : tok Tt) : FD l E yX0_groupCount cX0_groupCount 3 (some .int) { frames := 1, cells := 0, slots := 0, locals := 20 } [.ref co] [(co, .inr (0, [.ref cg, .ref ct])), (cg, .inl (E.2.1, 10, .inl (aN Gp))), (ct, .inl (E.2.1, 10, .inl (aO Tt)))] (some (.int (nI (gcn Gp 10)))) [(co, .inr (0, [.ref cg, .ref ct])), (cg, .inl (E.2.1, 10, .inl (aN Gp))), (ct, .inl (E.2.1, 10, .inl (aO Tt)))] := by
  refine Fn_ofL (own := RX0) (by decide) rfl rfl [(0, .ref co)] rfl ?_
  intro p e s m below meth c A C hr hnm
  refine G_iconst C dX0_groupCount_0 (v := nI 0) rfl 1 rfl ?_
  refine G_istore_n C dX0_groupCount_1 (by decide) [(1, .int (nI 0)), (0, .ref co)] rfl 2 rfl ?_
  refine G_iconst C dX0_groupCount_2 (v := nI 0) rfl 3 rfl ?_
  refine G_istore_n C dX0_groupCount_3 (by decide) [(2, .int (nI 0)), (1, .int (nI 0)), (0, .ref co)] rfl 4 rfl ?_
  refine G_sel [1, 0, 2] [(1, .int (nI 0)), (2, .int (nI 0)), (0, .ref co)] rfl ?_
  refine G_while (X := Nat) (Wf := fun i => [(co, .inr (0, [.ref cg, .ref ct])), (cg, .inl (E.2.1, 10, .inl (aN Gp))), (ct, .inl (E.2.1, 10, .inl (aO Tt)))]) (Lf := fun i => [(1, .int (nI (gcn Gp i))), (2, .int (nI i)), (0, .ref co)]) (Sf := fun _ => []) (fun i => i ≤ 10) (fun i => 10 - i) (fun i hi ih => ?_) 0 (by omega)
  refine G_iload_n C dX0_groupCount_4 rfl 5 rfl ?_
  refine G_bipush C dX0_groupCount_5 (v := nI 10) (by decide) 7 rfl ?_
  refine G_icmp_ge C dX0_groupCount_7 37 rfl 10 rfl (nI_leI (by omega) (by omega)) (fun h_1 => ?_) (fun h_1 => ?_)
  · refine G_iload_n C dX0_groupCount_37 rfl 38 rfl ?_
    exact G_iret C hr dX0_groupCount_38 rfl () trivial (by rw [show i = 10 by omega]) rfl
  · refine G_iload_n C dX0_groupCount_10 rfl 11 rfl ?_
    refine G_aload_n C dX0_groupCount_11 rfl 12 rfl ?_
    refine G_getf C dX0_groupCount_12 wF_X0 wf_X0_9 (f := 0) (by decide) (ci := 0) rfl 0 rfl rfl 15 rfl ?_
    refine G_iload_n C dX0_groupCount_15 rfl 16 rfl ?_
    refine G_ialdN C dX0_groupCount_16 1 rfl rfl (by omega) 17 rfl ?_
    refine G_iload_n C dX0_groupCount_17 rfl 18 rfl ?_
    refine G_icmp_ne C dX0_groupCount_18 25 rfl 21 rfl (nI_eq (Nat.lt_trans (hG i (by omega)) (by decide)) (by omega)) (fun h_2 => ?_) (fun h_2 => ?_)
    · refine G_iconst C dX0_groupCount_25 (v := nI 0) rfl 26 rfl ?_
      refine G_cSN C dX0_groupCount_26 (c_X6_as0 l E  ) wq_X0_25 wt_X6_asNumber wn_X6 wc_X6_asNumber rfl rfl ⟨by decide, by decide, rfl⟩ rfl (Nat.le_of_ble_eq_true rfl) [] [0, 1, 2] (wr := [(co, .inr (0, [.ref cg, .ref ct])), (cg, .inl (E.2.1, 10, .inl (aN Gp))), (ct, .inl (E.2.1, 10, .inl (aO Tt)))]) rfl rfl rfl rfl rfl [0, 1, 2] rfl [(co, .inr (0, [.ref cg, .ref ct])), (cg, .inl (E.2.1, 10, .inl (aN Gp))), (ct, .inl (E.2.1, 10, .inl (aO Tt)))] rfl rfl [.int (nI 0), .int (nI (gcn Gp i))] rfl 29 rfl ?_
      refine G_iadd C dX0_groupCount_29 (v := nI (gcn Gp i + 0)) (nI_add _ _) 30 rfl ?_
      refine G_istore_n C dX0_groupCount_30 (by decide) [(1, .int (nI (gcn Gp i + 0))), (2, .int (nI i)), (0, .ref co)] rfl 31 rfl ?_
      refine G_iinc C dX0_groupCount_31 1 rfl (nI_1 _) (by decide) [(2, .int (nI (i + 1))), (1, .int (nI (gcn Gp i + 0))), (0, .ref co)] rfl 34 rfl ?_
      refine G_goto C dX0_groupCount_34 4 rfl ?_
      refine G_sel [1, 0, 2] [(1, .int (nI (gcn Gp i + 0))), (2, .int (nI (i + 1))), (0, .ref co)] rfl ?_
      refine G_eq (ws' := [(co, .inr (0, [.ref cg, .ref ct])), (cg, .inl (E.2.1, 10, .inl (aN Gp))), (ct, .inl (E.2.1, 10, .inl (aO Tt)))]) (L' := [(1, .int (nI (gcn Gp (i + 1)))), (2, .int (nI (i + 1))), (0, .ref co)]) rfl (by simp [gcn, h_2]) rfl ?_
      exact ih (i + 1) (by omega) (by omega)
    · refine G_iconst C dX0_groupCount_21 (v := nI 1) rfl 22 rfl ?_
      refine G_goto C dX0_groupCount_22 26 rfl ?_
      refine G_cSN C dX0_groupCount_26 (c_X6_as1 l E  ) wq_X0_25 wt_X6_asNumber wn_X6 wc_X6_asNumber rfl rfl ⟨by decide, by decide, rfl⟩ rfl (Nat.le_of_ble_eq_true rfl) [] [0, 1, 2] (wr := [(co, .inr (0, [.ref cg, .ref ct])), (cg, .inl (E.2.1, 10, .inl (aN Gp))), (ct, .inl (E.2.1, 10, .inl (aO Tt)))]) rfl rfl rfl rfl rfl [0, 1, 2] rfl [(co, .inr (0, [.ref cg, .ref ct])), (cg, .inl (E.2.1, 10, .inl (aN Gp))), (ct, .inl (E.2.1, 10, .inl (aO Tt)))] rfl rfl [.int (nI 1), .int (nI (gcn Gp i))] rfl 29 rfl ?_
      refine G_iadd C dX0_groupCount_29 (v := nI (gcn Gp i + 1)) (nI_add _ _) 30 rfl ?_
      refine G_istore_n C dX0_groupCount_30 (by decide) [(1, .int (nI (gcn Gp i + 1))), (2, .int (nI i)), (0, .ref co)] rfl 31 rfl ?_
      refine G_iinc C dX0_groupCount_31 1 rfl (nI_1 _) (by decide) [(2, .int (nI (i + 1))), (1, .int (nI (gcn Gp i + 1))), (0, .ref co)] rfl 34 rfl ?_
      refine G_goto C dX0_groupCount_34 4 rfl ?_
      refine G_sel [1, 0, 2] [(1, .int (nI (gcn Gp i + 1))), (2, .int (nI (i + 1))), (0, .ref co)] rfl ?_
      refine G_eq (ws' := [(co, .inr (0, [.ref cg, .ref ct])), (cg, .inl (E.2.1, 10, .inl (aN Gp))), (ct, .inl (E.2.1, 10, .inl (aO Tt)))]) (L' := [(1, .int (nI (gcn Gp (i + 1)))), (2, .int (nI (i + 1))), (0, .ref co)]) rfl (by simp [gcn, h_2]) rfl ?_
      exact ih (i + 1) (by omega) (by omega)

set_option maxHeartbeats 4000000 in
set_option maxRecDepth 100000 in
theorem c_X0_pointingCount (l : Launch) (E : gE) (co cg ct : Nat) (Gp : Nat → Nat) (Tt : Nat → Option Nat) (hG : gok Gp) (hT : tok Tt) : FD l E yX0_pointingCount cX0_pointingCount 3 (some .int) { frames := 1, cells := 0, slots := 0, locals := 20 } [.ref co] [(co, .inr (0, [.ref cg, .ref ct])), (cg, .inl (E.2.1, 10, .inl (aN Gp))), (ct, .inl (E.2.1, 10, .inl (aO Tt)))] (some (.int (nI (pnc Tt 10)))) [(co, .inr (0, [.ref cg, .ref ct])), (cg, .inl (E.2.1, 10, .inl (aN Gp))), (ct, .inl (E.2.1, 10, .inl (aO Tt)))] := by
  refine Fn_ofL (own := RX0) (by decide) rfl rfl [(0, .ref co)] rfl ?_
  intro p e s m below meth c A C hr hnm
  refine G_iconst C dX0_pointingCount_0 (v := nI 0) rfl 1 rfl ?_
  refine G_istore_n C dX0_pointingCount_1 (by decide) [(1, .int (nI 0)), (0, .ref co)] rfl 2 rfl ?_
  refine G_iconst C dX0_pointingCount_2 (v := nI 0) rfl 3 rfl ?_
  refine G_istore_n C dX0_pointingCount_3 (by decide) [(2, .int (nI 0)), (1, .int (nI 0)), (0, .ref co)] rfl 4 rfl ?_
  refine G_sel [1, 0, 2] [(1, .int (nI 0)), (2, .int (nI 0)), (0, .ref co)] rfl ?_
  refine G_while (X := Nat) (Wf := fun i => [(co, .inr (0, [.ref cg, .ref ct])), (cg, .inl (E.2.1, 10, .inl (aN Gp))), (ct, .inl (E.2.1, 10, .inl (aO Tt)))]) (Lf := fun i => [(1, .int (nI (pnc Tt i))), (2, .int (nI i)), (0, .ref co)]) (Sf := fun _ => []) (fun i => i ≤ 10) (fun i => 10 - i) (fun i hi ih => ?_) 0 (by omega)
  refine G_iload_n C dX0_pointingCount_4 rfl 5 rfl ?_
  refine G_bipush C dX0_pointingCount_5 (v := nI 10) (by decide) 7 rfl ?_
  refine G_icmp_ge C dX0_pointingCount_7 37 rfl 10 rfl (nI_leI (by omega) (by omega)) (fun h_1 => ?_) (fun h_1 => ?_)
  · refine G_iload_n C dX0_pointingCount_37 rfl 38 rfl ?_
    exact G_iret C hr dX0_pointingCount_38 rfl () trivial (by rw [show i = 10 by omega]) rfl
  · refine G_iload_n C dX0_pointingCount_10 rfl 11 rfl ?_
    refine G_aload_n C dX0_pointingCount_11 rfl 12 rfl ?_
    refine G_getf C dX0_pointingCount_12 wF_X0 wf_X0_15 (f := 1) (by decide) (ci := 0) rfl 0 rfl rfl 15 rfl ?_
    refine G_iload_n C dX0_pointingCount_15 rfl 16 rfl ?_
    refine G_ialdO C dX0_pointingCount_16 2 rfl rfl (by omega) 17 rfl ?_
    refine G_iconst C dX0_pointingCount_17 (v := oI none) rfl 18 rfl ?_
    refine G_icmp_eq C dX0_pointingCount_18 25 rfl 21 rfl (oI_none (hT i (by omega)).b) (fun h_2 => ?_) (fun h_2 => ?_)
    · refine G_iconst C dX0_pointingCount_25 (v := nI 0) rfl 26 rfl ?_
      refine G_cSN C dX0_pointingCount_26 (c_X6_as0 l E  ) wq_X0_25 wt_X6_asNumber wn_X6 wc_X6_asNumber rfl rfl ⟨by decide, by decide, rfl⟩ rfl (Nat.le_of_ble_eq_true rfl) [] [0, 1, 2] (wr := [(co, .inr (0, [.ref cg, .ref ct])), (cg, .inl (E.2.1, 10, .inl (aN Gp))), (ct, .inl (E.2.1, 10, .inl (aO Tt)))]) rfl rfl rfl rfl rfl [0, 1, 2] rfl [(co, .inr (0, [.ref cg, .ref ct])), (cg, .inl (E.2.1, 10, .inl (aN Gp))), (ct, .inl (E.2.1, 10, .inl (aO Tt)))] rfl rfl [.int (nI 0), .int (nI (pnc Tt i))] rfl 29 rfl ?_
      refine G_iadd C dX0_pointingCount_29 (v := nI (pnc Tt i + 0)) (nI_add _ _) 30 rfl ?_
      refine G_istore_n C dX0_pointingCount_30 (by decide) [(1, .int (nI (pnc Tt i + 0))), (2, .int (nI i)), (0, .ref co)] rfl 31 rfl ?_
      refine G_iinc C dX0_pointingCount_31 1 rfl (nI_1 _) (by decide) [(2, .int (nI (i + 1))), (1, .int (nI (pnc Tt i + 0))), (0, .ref co)] rfl 34 rfl ?_
      refine G_goto C dX0_pointingCount_34 4 rfl ?_
      refine G_sel [1, 0, 2] [(1, .int (nI (pnc Tt i + 0))), (2, .int (nI (i + 1))), (0, .ref co)] rfl ?_
      refine G_eq (ws' := [(co, .inr (0, [.ref cg, .ref ct])), (cg, .inl (E.2.1, 10, .inl (aN Gp))), (ct, .inl (E.2.1, 10, .inl (aO Tt)))]) (L' := [(1, .int (nI (pnc Tt (i + 1)))), (2, .int (nI (i + 1))), (0, .ref co)]) rfl (by simp [pnc, h_2]) rfl ?_
      exact ih (i + 1) (by omega) (by omega)
    · refine G_iconst C dX0_pointingCount_21 (v := nI 1) rfl 22 rfl ?_
      refine G_goto C dX0_pointingCount_22 26 rfl ?_
      refine G_cSN C dX0_pointingCount_26 (c_X6_as1 l E  ) wq_X0_25 wt_X6_asNumber wn_X6 wc_X6_asNumber rfl rfl ⟨by decide, by decide, rfl⟩ rfl (Nat.le_of_ble_eq_true rfl) [] [0, 1, 2] (wr := [(co, .inr (0, [.ref cg, .ref ct])), (cg, .inl (E.2.1, 10, .inl (aN Gp))), (ct, .inl (E.2.1, 10, .inl (aO Tt)))]) rfl rfl rfl rfl rfl [0, 1, 2] rfl [(co, .inr (0, [.ref cg, .ref ct])), (cg, .inl (E.2.1, 10, .inl (aN Gp))), (ct, .inl (E.2.1, 10, .inl (aO Tt)))] rfl rfl [.int (nI 1), .int (nI (pnc Tt i))] rfl 29 rfl ?_
      refine G_iadd C dX0_pointingCount_29 (v := nI (pnc Tt i + 1)) (nI_add _ _) 30 rfl ?_
      refine G_istore_n C dX0_pointingCount_30 (by decide) [(1, .int (nI (pnc Tt i + 1))), (2, .int (nI i)), (0, .ref co)] rfl 31 rfl ?_
      refine G_iinc C dX0_pointingCount_31 1 rfl (nI_1 _) (by decide) [(2, .int (nI (i + 1))), (1, .int (nI (pnc Tt i + 1))), (0, .ref co)] rfl 34 rfl ?_
      refine G_goto C dX0_pointingCount_34 4 rfl ?_
      refine G_sel [1, 0, 2] [(1, .int (nI (pnc Tt i + 1))), (2, .int (nI (i + 1))), (0, .ref co)] rfl ?_
      refine G_eq (ws' := [(co, .inr (0, [.ref cg, .ref ct])), (cg, .inl (E.2.1, 10, .inl (aN Gp))), (ct, .inl (E.2.1, 10, .inl (aO Tt)))]) (L' := [(1, .int (nI (pnc Tt (i + 1)))), (2, .int (nI (i + 1))), (0, .ref co)]) rfl (by simp [pnc, h_2]) rfl ?_
      exact ih (i + 1) (by omega) (by omega)

set_option maxHeartbeats 4000000 in
set_option maxRecDepth 100000 in
theorem c_X0_selfPointingCount (l : Launch) (E : gE) (co cg ct : Nat) (Gp : Nat → Nat) (Tt : Nat → Option Nat) (hG : gok Gp) (hT : tok Tt) : FD l E yX0_selfPointingCount cX0_selfPointingCount 3 (some .int) { frames := 1, cells := 0, slots := 0, locals := 20 } [.ref co] [(co, .inr (0, [.ref cg, .ref ct])), (cg, .inl (E.2.1, 10, .inl (aN Gp))), (ct, .inl (E.2.1, 10, .inl (aO Tt)))] (some (.int (nI (snc Tt 10)))) [(co, .inr (0, [.ref cg, .ref ct])), (cg, .inl (E.2.1, 10, .inl (aN Gp))), (ct, .inl (E.2.1, 10, .inl (aO Tt)))] := by
  refine Fn_ofL (own := RX0) (by decide) rfl rfl [(0, .ref co)] rfl ?_
  intro p e s m below meth c A C hr hnm
  refine G_iconst C dX0_selfPointingCount_0 (v := nI 0) rfl 1 rfl ?_
  refine G_istore_n C dX0_selfPointingCount_1 (by decide) [(1, .int (nI 0)), (0, .ref co)] rfl 2 rfl ?_
  refine G_iconst C dX0_selfPointingCount_2 (v := nI 0) rfl 3 rfl ?_
  refine G_istore_n C dX0_selfPointingCount_3 (by decide) [(2, .int (nI 0)), (1, .int (nI 0)), (0, .ref co)] rfl 4 rfl ?_
  refine G_sel [1, 0, 2] [(1, .int (nI 0)), (2, .int (nI 0)), (0, .ref co)] rfl ?_
  refine G_while (X := Nat) (Wf := fun i => [(co, .inr (0, [.ref cg, .ref ct])), (cg, .inl (E.2.1, 10, .inl (aN Gp))), (ct, .inl (E.2.1, 10, .inl (aO Tt)))]) (Lf := fun i => [(1, .int (nI (snc Tt i))), (2, .int (nI i)), (0, .ref co)]) (Sf := fun _ => []) (fun i => i ≤ 10) (fun i => 10 - i) (fun i hi ih => ?_) 0 (by omega)
  refine G_iload_n C dX0_selfPointingCount_4 rfl 5 rfl ?_
  refine G_bipush C dX0_selfPointingCount_5 (v := nI 10) (by decide) 7 rfl ?_
  refine G_icmp_ge C dX0_selfPointingCount_7 37 rfl 10 rfl (nI_leI (by omega) (by omega)) (fun h_1 => ?_) (fun h_1 => ?_)
  · refine G_iload_n C dX0_selfPointingCount_37 rfl 38 rfl ?_
    exact G_iret C hr dX0_selfPointingCount_38 rfl () trivial (by rw [show i = 10 by omega]) rfl
  · refine G_iload_n C dX0_selfPointingCount_10 rfl 11 rfl ?_
    refine G_aload_n C dX0_selfPointingCount_11 rfl 12 rfl ?_
    refine G_getf C dX0_selfPointingCount_12 wF_X0 wf_X0_15 (f := 1) (by decide) (ci := 0) rfl 0 rfl rfl 15 rfl ?_
    refine G_iload_n C dX0_selfPointingCount_15 rfl 16 rfl ?_
    refine G_ialdO C dX0_selfPointingCount_16 2 rfl rfl (by omega) 17 rfl ?_
    refine G_iload_n C dX0_selfPointingCount_17 rfl 18 rfl ?_
    refine G_icmp_ne C dX0_selfPointingCount_18 25 rfl 21 rfl (oI_eq (t := Tt i) (u := some i) (hT i (by omega)).b (ook.b (ook_s (by omega)))) (fun h_2 => ?_) (fun h_2 => ?_)
    · refine G_iconst C dX0_selfPointingCount_25 (v := nI 0) rfl 26 rfl ?_
      refine G_cSN C dX0_selfPointingCount_26 (c_X6_as0 l E  ) wq_X0_25 wt_X6_asNumber wn_X6 wc_X6_asNumber rfl rfl ⟨by decide, by decide, rfl⟩ rfl (Nat.le_of_ble_eq_true rfl) [] [0, 1, 2] (wr := [(co, .inr (0, [.ref cg, .ref ct])), (cg, .inl (E.2.1, 10, .inl (aN Gp))), (ct, .inl (E.2.1, 10, .inl (aO Tt)))]) rfl rfl rfl rfl rfl [0, 1, 2] rfl [(co, .inr (0, [.ref cg, .ref ct])), (cg, .inl (E.2.1, 10, .inl (aN Gp))), (ct, .inl (E.2.1, 10, .inl (aO Tt)))] rfl rfl [.int (nI 0), .int (nI (snc Tt i))] rfl 29 rfl ?_
      refine G_iadd C dX0_selfPointingCount_29 (v := nI (snc Tt i + 0)) (nI_add _ _) 30 rfl ?_
      refine G_istore_n C dX0_selfPointingCount_30 (by decide) [(1, .int (nI (snc Tt i + 0))), (2, .int (nI i)), (0, .ref co)] rfl 31 rfl ?_
      refine G_iinc C dX0_selfPointingCount_31 1 rfl (nI_1 _) (by decide) [(2, .int (nI (i + 1))), (1, .int (nI (snc Tt i + 0))), (0, .ref co)] rfl 34 rfl ?_
      refine G_goto C dX0_selfPointingCount_34 4 rfl ?_
      refine G_sel [1, 0, 2] [(1, .int (nI (snc Tt i + 0))), (2, .int (nI (i + 1))), (0, .ref co)] rfl ?_
      refine G_eq (ws' := [(co, .inr (0, [.ref cg, .ref ct])), (cg, .inl (E.2.1, 10, .inl (aN Gp))), (ct, .inl (E.2.1, 10, .inl (aO Tt)))]) (L' := [(1, .int (nI (snc Tt (i + 1)))), (2, .int (nI (i + 1))), (0, .ref co)]) rfl (by simp [snc, h_2]) rfl ?_
      exact ih (i + 1) (by omega) (by omega)
    · refine G_iconst C dX0_selfPointingCount_21 (v := nI 1) rfl 22 rfl ?_
      refine G_goto C dX0_selfPointingCount_22 26 rfl ?_
      refine G_cSN C dX0_selfPointingCount_26 (c_X6_as1 l E  ) wq_X0_25 wt_X6_asNumber wn_X6 wc_X6_asNumber rfl rfl ⟨by decide, by decide, rfl⟩ rfl (Nat.le_of_ble_eq_true rfl) [] [0, 1, 2] (wr := [(co, .inr (0, [.ref cg, .ref ct])), (cg, .inl (E.2.1, 10, .inl (aN Gp))), (ct, .inl (E.2.1, 10, .inl (aO Tt)))]) rfl rfl rfl rfl rfl [0, 1, 2] rfl [(co, .inr (0, [.ref cg, .ref ct])), (cg, .inl (E.2.1, 10, .inl (aN Gp))), (ct, .inl (E.2.1, 10, .inl (aO Tt)))] rfl rfl [.int (nI 1), .int (nI (snc Tt i))] rfl 29 rfl ?_
      refine G_iadd C dX0_selfPointingCount_29 (v := nI (snc Tt i + 1)) (nI_add _ _) 30 rfl ?_
      refine G_istore_n C dX0_selfPointingCount_30 (by decide) [(1, .int (nI (snc Tt i + 1))), (2, .int (nI i)), (0, .ref co)] rfl 31 rfl ?_
      refine G_iinc C dX0_selfPointingCount_31 1 rfl (nI_1 _) (by decide) [(2, .int (nI (i + 1))), (1, .int (nI (snc Tt i + 1))), (0, .ref co)] rfl 34 rfl ?_
      refine G_goto C dX0_selfPointingCount_34 4 rfl ?_
      refine G_sel [1, 0, 2] [(1, .int (nI (snc Tt i + 1))), (2, .int (nI (i + 1))), (0, .ref co)] rfl ?_
      refine G_eq (ws' := [(co, .inr (0, [.ref cg, .ref ct])), (cg, .inl (E.2.1, 10, .inl (aN Gp))), (ct, .inl (E.2.1, 10, .inl (aO Tt)))]) (L' := [(1, .int (nI (snc Tt (i + 1)))), (2, .int (nI (i + 1))), (0, .ref co)]) rfl (by simp [snc, h_2]) rfl ?_
      exact ih (i + 1) (by omega) (by omega)

set_option maxHeartbeats 4000000 in
set_option maxRecDepth 100000 in
theorem c_X0_total (l : Launch) (E : gE) (co cg ct : Nat) (Gp : Nat → Nat) (Tt : Nat → Option Nat) (hG : gok Gp) (hT : tok Tt) : FD l E yX0_total cX0_total 3 (some .int) { frames := 3, cells := 0, slots := 0, locals := 64 } [.ref co] [(co, .inr (0, [.ref cg, .ref ct])), (cg, .inl (E.2.1, 10, .inl (aN Gp))), (ct, .inl (E.2.1, 10, .inl (aO Tt)))] (some (.int (nI (ctot Gp Tt 10)))) [(co, .inr (0, [.ref cg, .ref ct])), (cg, .inl (E.2.1, 10, .inl (aN Gp))), (ct, .inl (E.2.1, 10, .inl (aO Tt)))] := by
  refine Fn_ofL (own := RX0) (by decide) rfl rfl [(0, .ref co)] rfl ?_
  intro p e s m below meth c A C hr hnm
  refine G_iconst C dX0_total_0 (v := nI 0) rfl 1 rfl ?_
  refine G_istore_n C dX0_total_1 (by decide) [(1, .int (nI 0)), (0, .ref co)] rfl 2 rfl ?_
  refine G_iconst C dX0_total_2 (v := nI 0) rfl 3 rfl ?_
  refine G_istore_n C dX0_total_3 (by decide) [(2, .int (nI 0)), (1, .int (nI 0)), (0, .ref co)] rfl 4 rfl ?_
  refine G_sel [1, 0, 2] [(1, .int (nI 0)), (2, .int (nI 0)), (0, .ref co)] rfl ?_
  refine G_while (X := Nat) (Wf := fun i => [(co, .inr (0, [.ref cg, .ref ct])), (cg, .inl (E.2.1, 10, .inl (aN Gp))), (ct, .inl (E.2.1, 10, .inl (aO Tt)))]) (Lf := fun i => [(1, .int (nI (ctot Gp Tt i))), (2, .int (nI i)), (0, .ref co)]) (Sf := fun _ => []) (fun i => i ≤ 10) (fun i => 10 - i) (fun i hi ih => ?_) 0 (by omega)
  refine G_iload_n C dX0_total_4 rfl 5 rfl ?_
  refine G_bipush C dX0_total_5 (v := nI 10) (by decide) 7 rfl ?_
  refine G_icmp_ge C dX0_total_7 27 rfl 10 rfl (nI_leI (by omega) (by omega)) (fun h_1 => ?_) (fun h_1 => ?_)
  · refine G_iload_n C dX0_total_27 rfl 28 rfl ?_
    exact G_iret C hr dX0_total_28 rfl () trivial (by rw [show i = 10 by omega]) rfl
  · refine G_iload_n C dX0_total_10 rfl 11 rfl ?_
    refine G_aload_n C dX0_total_11 rfl 12 rfl ?_
    refine G_iload_n C dX0_total_12 rfl 13 rfl ?_
    refine G_cV C dX0_total_13 (c_X0_setOf l E co cg ct Gp Tt i (by first | assumption | omega) (by first | assumption | omega) (by first | assumption | omega)) wm_X0_29 wi_X0_setOf wsel_X0_setOf wn_X0 wc_X0_setOf rfl rfl ⟨by decide, by decide, rfl⟩ rfl (Nat.le_of_ble_eq_true rfl) 0 rfl rfl 0 rfl [0, 1, 2] [] (wr := []) rfl rfl rfl rfl rfl [0, 1, 2] rfl [(co, .inr (0, [.ref cg, .ref ct])), (cg, .inl (E.2.1, 10, .inl (aN Gp))), (ct, .inl (E.2.1, 10, .inl (aO Tt)))] rfl rfl [.int (nI (mem Gp (Tt (Gp i)) 10)), .int (nI (ctot Gp Tt i))] rfl 16 rfl ?_
    refine G_cS C dX0_total_16 (c_J6_bitCount l E (mem Gp (Tt (Gp i)) 10) (mem_lt _ _ 10 (by omega))) wm_X0_32 wt_J6_bitCount wn_J6 wc_J6_bitCount rfl rfl ⟨by decide, by decide, rfl⟩ rfl (Nat.le_of_ble_eq_true rfl) [] [0, 1, 2] (wr := [(co, .inr (0, [.ref cg, .ref ct])), (cg, .inl (E.2.1, 10, .inl (aN Gp))), (ct, .inl (E.2.1, 10, .inl (aO Tt)))]) rfl rfl rfl rfl rfl [0, 1, 2] rfl [(co, .inr (0, [.ref cg, .ref ct])), (cg, .inl (E.2.1, 10, .inl (aN Gp))), (ct, .inl (E.2.1, 10, .inl (aO Tt)))] rfl rfl [.int (nI (pcn (mem Gp (Tt (Gp i)) 10))), .int (nI (ctot Gp Tt i))] rfl 19 rfl ?_
    refine G_iadd C dX0_total_19 (v := nI (ctot Gp Tt i + (pcn (mem Gp (Tt (Gp i)) 10)))) (nI_add _ _) 20 rfl ?_
    refine G_istore_n C dX0_total_20 (by decide) [(1, .int (nI (ctot Gp Tt i + (pcn (mem Gp (Tt (Gp i)) 10))))), (2, .int (nI i)), (0, .ref co)] rfl 21 rfl ?_
    refine G_iinc C dX0_total_21 1 rfl (nI_1 _) (by decide) [(2, .int (nI (i + 1))), (1, .int (nI (ctot Gp Tt i + (pcn (mem Gp (Tt (Gp i)) 10))))), (0, .ref co)] rfl 24 rfl ?_
    refine G_goto C dX0_total_24 4 rfl ?_
    refine G_sel [1, 0, 2] [(1, .int (nI (ctot Gp Tt i + (pcn (mem Gp (Tt (Gp i)) 10))))), (2, .int (nI (i + 1))), (0, .ref co)] rfl ?_
    exact ih (i + 1) (by omega) (by omega)

set_option maxHeartbeats 4000000 in
set_option maxRecDepth 100000 in
theorem c_X0_rename (l : Launch) (E : gE) (co cg ct : Nat) (Gp : Nat → Nat) (Tt : Nat → Option Nat) (hi lo : Nat) (hG : gok Gp) (hT : tok Tt) (hh : hi < 10) (hl : lo < 10) : FD l E yX0_rename cX0_rename 4 none { frames := 0, cells := 0, slots := 0, locals := 0 } [.ref co, .int (nI hi), .int (nI lo)] [(co, .inr (0, [.ref cg, .ref ct])), (cg, .inl (E.2.1, 10, .inl (aN Gp))), (ct, .inl (E.2.1, 10, .inl (aO Tt)))] none [(co, .inr (0, [.ref cg, .ref ct])), (cg, .inl (E.2.1, 10, .inl (aN (renN Gp hi lo 10)))), (ct, .inl (E.2.1, 10, .inl (aO (renO Tt hi lo 10))))] := by
  refine Fn_ofL (own := RX0) (by decide) rfl rfl [(0, .ref co), (1, .int (nI hi)), (2, .int (nI lo))] rfl ?_
  intro p e s m below meth c A C hr hnm
  refine G_iconst C dX0_rename_0 (v := nI 0) rfl 1 rfl ?_
  refine G_istore_n C dX0_rename_1 (by decide) [(3, .int (nI 0)), (0, .ref co), (1, .int (nI hi)), (2, .int (nI lo))] rfl 2 rfl ?_
  refine G_eq (ws' := [(co, .inr (0, [.ref cg, .ref ct])), (cg, .inl (E.2.1, 10, .inl (aN (renN Gp hi lo 0)))), (ct, .inl (E.2.1, 10, .inl (aO (renO Tt hi lo 0))))]) (by rw [renN_0, renO_0]) rfl rfl ?_
  refine G_while (X := Nat) (Wf := fun i => [(co, .inr (0, [.ref cg, .ref ct])), (cg, .inl (E.2.1, 10, .inl (aN (renN Gp hi lo i)))), (ct, .inl (E.2.1, 10, .inl (aO (renO Tt hi lo i))))]) (Lf := fun i => [(3, .int (nI i)), (0, .ref co), (1, .int (nI hi)), (2, .int (nI lo))]) (Sf := fun _ => []) (fun i => i ≤ 10) (fun i => 10 - i) (fun i hi9 ih => ?_) 0 (by omega)
  refine G_iload_n C dX0_rename_2 rfl 3 rfl ?_
  refine G_bipush C dX0_rename_3 (v := nI 10) (by decide) 5 rfl ?_
  refine G_icmp_ge C dX0_rename_5 48 rfl 8 rfl (nI_leI (by omega) (by omega)) (fun h_1 => ?_) (fun h_1 => ?_)
  · exact G_vret C hr dX0_rename_48 () trivial rfl (by rw [show i = 10 by omega])
  · refine G_aload_n C dX0_rename_8 rfl 9 rfl ?_
    refine G_getf C dX0_rename_9 wF_X0 wf_X0_9 (f := 0) (by decide) (ci := 0) rfl 0 rfl rfl 12 rfl ?_
    refine G_iload_n C dX0_rename_12 rfl 13 rfl ?_
    refine G_ialdN C dX0_rename_13 1 rfl rfl (by omega) 14 rfl ?_
    refine G_iload_n C dX0_rename_14 rfl 15 rfl ?_
    refine G_icmp_ne C dX0_rename_15 25 rfl 18 rfl (show nI (renN Gp hi lo i i) = nI hi ↔ Gp i = hi by rw [renN_at]; exact nI_eq (Nat.lt_trans (hG i (by omega)) (by decide)) (by omega)) (fun h_2 => ?_) (fun h_2 => ?_)
    · refine G_aload_n C dX0_rename_25 rfl 26 rfl ?_
      refine G_getf C dX0_rename_26 wF_X0 wf_X0_15 (f := 1) (by decide) (ci := 0) rfl 0 rfl rfl 29 rfl ?_
      refine G_iload_n C dX0_rename_29 rfl 30 rfl ?_
      refine G_ialdO C dX0_rename_30 2 rfl rfl (by omega) 31 rfl ?_
      refine G_iload_n C dX0_rename_31 rfl 32 rfl ?_
      refine G_icmp_ne C dX0_rename_32 42 rfl 35 rfl (show oI (renO Tt hi lo i i) = nI hi ↔ Tt i = some hi by rw [renO_at]; exact oI_eq (t := Tt i) (u := some hi) (hT i (by omega)).b (ook.b (ook_s hh))) (fun h_3 => ?_) (fun h_3 => ?_)
      · refine G_iinc C dX0_rename_42 0 rfl (nI_1 _) (by decide) [(3, .int (nI (i + 1))), (0, .ref co), (1, .int (nI hi)), (2, .int (nI lo))] rfl 45 rfl ?_
        refine G_goto C dX0_rename_45 2 rfl ?_
        refine G_eq (ws' := [(co, .inr (0, [.ref cg, .ref ct])), (cg, .inl (E.2.1, 10, .inl (aN (renN Gp hi lo (i + 1))))), (ct, .inl (E.2.1, 10, .inl (aO (renO Tt hi lo (i + 1)))))]) (L' := [(3, .int (nI (i + 1))), (0, .ref co), (1, .int (nI hi)), (2, .int (nI lo))]) (by rw [renN_s0 h_2, renO_s0 h_3]) rfl rfl ?_
        exact ih (i + 1) (by omega) (by omega)
      · refine G_aload_n C dX0_rename_35 rfl 36 rfl ?_
        refine G_getf C dX0_rename_36 wF_X0 wf_X0_15 (f := 1) (by decide) (ci := 0) rfl 0 rfl rfl 39 rfl ?_
        refine G_iload_n C dX0_rename_39 rfl 40 rfl ?_
        refine G_iload_n C dX0_rename_40 rfl 41 rfl ?_
        refine G_iastO C dX0_rename_41 2 rfl rfl (x := some lo) (by omega) [(co, .inr (0, [.ref cg, .ref ct])), (cg, .inl (E.2.1, 10, .inl (aN (renN Gp hi lo i)))), (ct, .inl (E.2.1, 10, .inl (aO (va_up (renO Tt hi lo i) i (some lo)))))] rfl 42 rfl ?_
        refine G_iinc C dX0_rename_42 0 rfl (nI_1 _) (by decide) [(3, .int (nI (i + 1))), (0, .ref co), (1, .int (nI hi)), (2, .int (nI lo))] rfl 45 rfl ?_
        refine G_goto C dX0_rename_45 2 rfl ?_
        refine G_eq (ws' := [(co, .inr (0, [.ref cg, .ref ct])), (cg, .inl (E.2.1, 10, .inl (aN (renN Gp hi lo (i + 1))))), (ct, .inl (E.2.1, 10, .inl (aO (renO Tt hi lo (i + 1)))))]) (L' := [(3, .int (nI (i + 1))), (0, .ref co), (1, .int (nI hi)), (2, .int (nI lo))]) (by rw [renN_s0 h_2, renO_s1 h_3]) rfl rfl ?_
        exact ih (i + 1) (by omega) (by omega)
    · refine G_aload_n C dX0_rename_18 rfl 19 rfl ?_
      refine G_getf C dX0_rename_19 wF_X0 wf_X0_9 (f := 0) (by decide) (ci := 0) rfl 0 rfl rfl 22 rfl ?_
      refine G_iload_n C dX0_rename_22 rfl 23 rfl ?_
      refine G_iload_n C dX0_rename_23 rfl 24 rfl ?_
      refine G_iastN C dX0_rename_24 1 rfl rfl (x := lo) (by omega) [(co, .inr (0, [.ref cg, .ref ct])), (cg, .inl (E.2.1, 10, .inl (aN (va_up (renN Gp hi lo i) i lo)))), (ct, .inl (E.2.1, 10, .inl (aO (renO Tt hi lo i))))] rfl 25 rfl ?_
      refine G_aload_n C dX0_rename_25 rfl 26 rfl ?_
      refine G_getf C dX0_rename_26 wF_X0 wf_X0_15 (f := 1) (by decide) (ci := 0) rfl 0 rfl rfl 29 rfl ?_
      refine G_iload_n C dX0_rename_29 rfl 30 rfl ?_
      refine G_ialdO C dX0_rename_30 2 rfl rfl (by omega) 31 rfl ?_
      refine G_iload_n C dX0_rename_31 rfl 32 rfl ?_
      refine G_icmp_ne C dX0_rename_32 42 rfl 35 rfl (show oI (renO Tt hi lo i i) = nI hi ↔ Tt i = some hi by rw [renO_at]; exact oI_eq (t := Tt i) (u := some hi) (hT i (by omega)).b (ook.b (ook_s hh))) (fun h_3 => ?_) (fun h_3 => ?_)
      · refine G_iinc C dX0_rename_42 0 rfl (nI_1 _) (by decide) [(3, .int (nI (i + 1))), (0, .ref co), (1, .int (nI hi)), (2, .int (nI lo))] rfl 45 rfl ?_
        refine G_goto C dX0_rename_45 2 rfl ?_
        refine G_eq (ws' := [(co, .inr (0, [.ref cg, .ref ct])), (cg, .inl (E.2.1, 10, .inl (aN (renN Gp hi lo (i + 1))))), (ct, .inl (E.2.1, 10, .inl (aO (renO Tt hi lo (i + 1)))))]) (L' := [(3, .int (nI (i + 1))), (0, .ref co), (1, .int (nI hi)), (2, .int (nI lo))]) (by rw [renN_s1 h_2, renO_s0 h_3]) rfl rfl ?_
        exact ih (i + 1) (by omega) (by omega)
      · refine G_aload_n C dX0_rename_35 rfl 36 rfl ?_
        refine G_getf C dX0_rename_36 wF_X0 wf_X0_15 (f := 1) (by decide) (ci := 0) rfl 0 rfl rfl 39 rfl ?_
        refine G_iload_n C dX0_rename_39 rfl 40 rfl ?_
        refine G_iload_n C dX0_rename_40 rfl 41 rfl ?_
        refine G_iastO C dX0_rename_41 2 rfl rfl (x := some lo) (by omega) [(co, .inr (0, [.ref cg, .ref ct])), (cg, .inl (E.2.1, 10, .inl (aN (va_up (renN Gp hi lo i) i lo)))), (ct, .inl (E.2.1, 10, .inl (aO (va_up (renO Tt hi lo i) i (some lo)))))] rfl 42 rfl ?_
        refine G_iinc C dX0_rename_42 0 rfl (nI_1 _) (by decide) [(3, .int (nI (i + 1))), (0, .ref co), (1, .int (nI hi)), (2, .int (nI lo))] rfl 45 rfl ?_
        refine G_goto C dX0_rename_45 2 rfl ?_
        refine G_eq (ws' := [(co, .inr (0, [.ref cg, .ref ct])), (cg, .inl (E.2.1, 10, .inl (aN (renN Gp hi lo (i + 1))))), (ct, .inl (E.2.1, 10, .inl (aO (renO Tt hi lo (i + 1)))))]) (L' := [(3, .int (nI (i + 1))), (0, .ref co), (1, .int (nI hi)), (2, .int (nI lo))]) (by rw [renN_s1 h_2, renO_s1 h_3]) rfl rfl ?_
        exact ih (i + 1) (by omega) (by omega)

set_option maxHeartbeats 4000000 in
set_option maxRecDepth 100000 in
theorem c_X0_join (l : Launch) (E : gE) (co cg ct : Nat) (Gp : Nat → Nat) (Tt : Nat → Option Nat) (oa ob : Option Nat) (hG : gok Gp) (hT : tok Tt) (ha : ook oa) (hb : ook ob) : FD l E yX0_join cX0_join 8 none { frames := 1, cells := 0, slots := 0, locals := 23 } [.ref co, .int (oI oa), .int (oI ob)] [(co, .inr (0, [.ref cg, .ref ct])), (cg, .inl (E.2.1, 10, .inl (aN Gp))), (ct, .inl (E.2.1, 10, .inl (aO Tt)))] none [(co, .inr (0, [.ref cg, .ref ct])), (cg, .inl (E.2.1, 10, .inl (aN ((jn Gp Tt oa ob).1)))), (ct, .inl (E.2.1, 10, .inl (aO ((jn Gp Tt oa ob).2.1))))] := by
  refine Fn_ofL (own := RX0) (by decide) rfl rfl [(0, .ref co), (1, .int (oI oa)), (2, .int (oI ob))] rfl ?_
  intro p e s m below meth c A C hr hnm
  refine G_iload_n C dX0_join_0 rfl 1 rfl ?_
  refine G_istore_n C dX0_join_1 (by decide) [(3, .int (oI oa)), (0, .ref co), (1, .int (oI oa)), (2, .int (oI ob))] rfl 2 rfl ?_
  refine G_iload_n C dX0_join_2 rfl 3 rfl ?_
  refine G_istore C dX0_join_3 (by decide) [(4, .int (oI ob)), (3, .int (oI oa)), (0, .ref co), (1, .int (oI oa)), (2, .int (oI ob))] rfl 5 rfl ?_
  refine G_iconst C dX0_join_5 (v := nI 0) rfl 6 rfl ?_
  refine G_istore C dX0_join_6 (by decide) [(5, .int (nI 0)), (4, .int (oI ob)), (3, .int (oI oa)), (0, .ref co), (1, .int (oI oa)), (2, .int (oI ob))] rfl 8 rfl ?_
  refine G_eq (ws' := [(co, .inr (0, [.ref cg, .ref ct])), (cg, .inl (E.2.1, 10, .inl (aN ((jit (Gp, Tt, oa, ob) 0).1)))), (ct, .inl (E.2.1, 10, .inl (aO ((jit (Gp, Tt, oa, ob) 0).2.1))))]) (L' := [(5, .int (nI 0)), (4, .int (oI ((jit (Gp, Tt, oa, ob) 0).2.2.2))), (3, .int (oI ((jit (Gp, Tt, oa, ob) 0).2.2.1))), (0, .ref co), (1, .int (oI oa)), (2, .int (oI ob))]) rfl rfl rfl ?_
  refine G_sel [2, 1, 0, 3] [(3, .int (oI oa)), (4, .int (oI ob)), (5, .int (nI 0)), (0, .ref co)] rfl ?_
  refine G_while (X := Nat) (Wf := fun j => [(co, .inr (0, [.ref cg, .ref ct])), (cg, .inl (E.2.1, 10, .inl (aN ((jit (Gp, Tt, oa, ob) j).1)))), (ct, .inl (E.2.1, 10, .inl (aO ((jit (Gp, Tt, oa, ob) j).2.1))))]) (Lf := fun j => [(3, .int (oI ((jit (Gp, Tt, oa, ob) j).2.2.1))), (4, .int (oI ((jit (Gp, Tt, oa, ob) j).2.2.2))), (5, .int (nI j)), (0, .ref co)]) (Sf := fun _ => []) (fun j => j ≤ 10) (fun j => 10 - j) (fun j hj ihj => ?_) 0 (by omega)
  have hok := jok_it (q := (Gp, Tt, oa, ob)) ⟨hG, hT, ha, hb⟩ j
  generalize hQ : jit (Gp, Tt, oa, ob) j = Q at hok ⊢
  obtain ⟨G1, T1, a1, b1⟩ := Q
  obtain ⟨hG1, hT1, ha1, hb1⟩ := hok
  have hG1 : gok G1 := hG1
  have hT1 : tok T1 := hT1
  have ha1 : ook a1 := ha1
  have hb1 : ook b1 := hb1
  refine G_eq (ws' := [(co, .inr (0, [.ref cg, .ref ct])), (cg, .inl (E.2.1, 10, .inl (aN G1))), (ct, .inl (E.2.1, 10, .inl (aO T1)))]) (L' := [(3, .int (oI a1)), (4, .int (oI b1)), (5, .int (nI j)), (0, .ref co)]) rfl rfl rfl ?_
  refine G_iload C dX0_join_8 rfl 10 rfl ?_
  refine G_bipush C dX0_join_10 (v := nI 10) (by decide) 12 rfl ?_
  refine G_icmp_ge C dX0_join_12 101 rfl 15 rfl (nI_leI (by omega) (by omega)) (fun h_1 => ?_) (fun h_1 => ?_)
  · exact G_vret C hr dX0_join_101 () trivial rfl (by first | (rw [show jn Gp Tt oa ob = (G1, T1, a1, b1) by unfold jn; rw [← hQ, show j = 10 by omega]]) | (rw [show jn Gp Tt oa ob = (G1, T1, a1, b1) by have e := jit_stay (q := (Gp, Tt, oa, ob)) (j := j) (by rw [hQ]; exact jstep_eq (by simp [*])) (10 - j); rw [show j + (10 - j) = 10 by omega] at e; rw [← hQ, ← e]; rfl]))
  · refine G_iload_n C dX0_join_15 rfl 16 rfl ?_
    refine G_iload C dX0_join_16 rfl 18 rfl ?_
    refine G_icmp_eq C dX0_join_18 101 rfl 21 rfl (oI_eq (t := a1) (u := b1) ha1.b hb1.b) (fun h_2 => ?_) (fun h_2 => ?_)
    · exact G_vret C hr dX0_join_101 () trivial rfl (by first | (rw [show jn Gp Tt oa ob = (G1, T1, a1, b1) by unfold jn; rw [← hQ, show j = 10 by omega]]) | (rw [show jn Gp Tt oa ob = (G1, T1, a1, b1) by have e := jit_stay (q := (Gp, Tt, oa, ob)) (j := j) (by rw [hQ]; exact jstep_eq (by simp [*])) (10 - j); rw [show j + (10 - j) = 10 by omega] at e; rw [← hQ, ← e]; rfl]))
    · refine G_iload_n C dX0_join_21 rfl 22 rfl ?_
      refine G_iconst C dX0_join_22 (v := oI none) rfl 23 rfl ?_
      refine G_icmp_eq C dX0_join_23 101 rfl 26 rfl (oI_none ha1.b) (fun h_3 => ?_) (fun h_3 => ?_)
      · exact G_vret C hr dX0_join_101 () trivial rfl (by first | (rw [show jn Gp Tt oa ob = (G1, T1, a1, b1) by unfold jn; rw [← hQ, show j = 10 by omega]]) | (rw [show jn Gp Tt oa ob = (G1, T1, a1, b1) by have e := jit_stay (q := (Gp, Tt, oa, ob)) (j := j) (by rw [hQ]; exact jstep_eq (by simp [*])) (10 - j); rw [show j + (10 - j) = 10 by omega] at e; rw [← hQ, ← e]; rfl]))
      · refine G_iload C dX0_join_26 rfl 28 rfl ?_
        refine G_iconst C dX0_join_28 (v := oI none) rfl 29 rfl ?_
        refine G_icmp_eq C dX0_join_29 101 rfl 32 rfl (oI_none hb1.b) (fun h_4 => ?_) (fun h_4 => ?_)
        · exact G_vret C hr dX0_join_101 () trivial rfl (by first | (rw [show jn Gp Tt oa ob = (G1, T1, a1, b1) by unfold jn; rw [← hQ, show j = 10 by omega]]) | (rw [show jn Gp Tt oa ob = (G1, T1, a1, b1) by have e := jit_stay (q := (Gp, Tt, oa, ob)) (j := j) (by rw [hQ]; exact jstep_eq (by simp [*])) (10 - j); rw [show j + (10 - j) = 10 by omega] at e; rw [← hQ, ← e]; rfl]))
        · obtain ⟨x, rfl⟩ : ∃ x, a1 = some x := Option.ne_none_iff_exists'.mp h_3
          obtain ⟨y, rfl⟩ : ∃ y, b1 = some y := Option.ne_none_iff_exists'.mp h_4
          have hx : x < 10 := ha1 x rfl
          have hy : y < 10 := hb1 y rfl
          have hxy : ¬ x = y := fun e => h_2 (by rw [e])
          refine G_eq (ws' := [(co, .inr (0, [.ref cg, .ref ct])), (cg, .inl (E.2.1, 10, .inl (aN G1))), (ct, .inl (E.2.1, 10, .inl (aO T1)))]) (L' := [(3, .int (nI x)), (4, .int (nI y)), (5, .int (nI j)), (0, .ref co)]) rfl rfl rfl ?_
          refine G_iload_n C dX0_join_32 rfl 33 rfl ?_
          refine G_iload C dX0_join_33 rfl 35 rfl ?_
          refine G_mmin C dX0_join_35 wm_X0_67 (by omega) (by omega) rfl (Nat.le_of_ble_eq_true rfl) 38 rfl ?_
          refine G_istore C dX0_join_38 (by decide) [(6, .int (nI (min x y))), (3, .int (nI x)), (4, .int (nI y)), (5, .int (nI j)), (0, .ref co)] rfl 40 rfl ?_
          refine G_iload_n C dX0_join_40 rfl 41 rfl ?_
          refine G_iload C dX0_join_41 rfl 43 rfl ?_
          refine G_mmax C dX0_join_43 wm_X0_73 (by omega) (by omega) rfl (Nat.le_of_ble_eq_true rfl) 46 rfl ?_
          refine G_istore C dX0_join_46 (by decide) [(7, .int (nI (max x y))), (6, .int (nI (min x y))), (3, .int (nI x)), (4, .int (nI y)), (5, .int (nI j)), (0, .ref co)] rfl 48 rfl ?_
          refine G_aload_n C dX0_join_48 rfl 49 rfl ?_
          refine G_iload C dX0_join_49 rfl 51 rfl ?_
          refine G_iload C dX0_join_51 rfl 53 rfl ?_
          refine G_cV C dX0_join_53 (c_X0_rename l E co cg ct G1 T1 (max x y) (min x y) (by first | assumption | omega) (by first | assumption | omega) (by omega) (by omega)) wm_X0_76 wi_X0_rename wsel_X0_rename wn_X0 wc_X0_rename rfl rfl ⟨by decide, by decide, rfl⟩ rfl (Nat.le_of_ble_eq_true rfl) 0 rfl rfl 0 rfl [0, 1, 2] [] (wr := []) rfl rfl rfl rfl rfl [0, 1, 2] rfl [(co, .inr (0, [.ref cg, .ref ct])), (cg, .inl (E.2.1, 10, .inl (aN (renN G1 (max x y) (min x y) 10)))), (ct, .inl (E.2.1, 10, .inl (aO (renO T1 (max x y) (min x y) 10))))] rfl rfl [] rfl 56 rfl ?_
          refine G_aload_n C dX0_join_56 rfl 57 rfl ?_
          refine G_getf C dX0_join_57 wF_X0 wf_X0_15 (f := 1) (by decide) (ci := 0) rfl 0 rfl rfl 60 rfl ?_
          refine G_iload C dX0_join_60 rfl 62 rfl ?_
          refine G_ialdO C dX0_join_62 2 rfl rfl (by omega) 63 rfl ?_
          refine G_istore_n C dX0_join_63 (by decide) [(3, .int (oI ((renO T1 (max x y) (min x y) 10) (min x y)))), (7, .int (nI (max x y))), (6, .int (nI (min x y))), (4, .int (nI y)), (5, .int (nI j)), (0, .ref co)] rfl 64 rfl ?_
          refine G_aload_n C dX0_join_64 rfl 65 rfl ?_
          refine G_getf C dX0_join_65 wF_X0 wf_X0_15 (f := 1) (by decide) (ci := 0) rfl 0 rfl rfl 68 rfl ?_
          refine G_iload C dX0_join_68 rfl 70 rfl ?_
          refine G_ialdO C dX0_join_70 2 rfl rfl (by omega) 71 rfl ?_
          refine G_istore C dX0_join_71 (by decide) [(4, .int (oI ((renO T1 (max x y) (min x y) 10) (max x y)))), (3, .int (oI ((renO T1 (max x y) (min x y) 10) (min x y)))), (7, .int (nI (max x y))), (6, .int (nI (min x y))), (5, .int (nI j)), (0, .ref co)] rfl 73 rfl ?_
          refine G_aload_n C dX0_join_73 rfl 74 rfl ?_
          refine G_getf C dX0_join_74 wF_X0 wf_X0_15 (f := 1) (by decide) (ci := 0) rfl 0 rfl rfl 77 rfl ?_
          refine G_iload C dX0_join_77 rfl 79 rfl ?_
          refine G_iconst C dX0_join_79 (v := oI none) rfl 80 rfl ?_
          refine G_iastO C dX0_join_80 2 rfl rfl (x := none) (by omega) [(co, .inr (0, [.ref cg, .ref ct])), (cg, .inl (E.2.1, 10, .inl (aN (renN G1 (max x y) (min x y) 10)))), (ct, .inl (E.2.1, 10, .inl (aO (va_up (renO T1 (max x y) (min x y) 10) (max x y) none))))] rfl 81 rfl ?_
          refine G_iload_n C dX0_join_81 rfl 82 rfl ?_
          refine G_iconst C dX0_join_82 (v := oI none) rfl 83 rfl ?_
          refine G_icmp_ne C dX0_join_83 95 rfl 86 rfl (oI_none (tok_ren hT1 (by omega) 10 _ (by omega)).b) (fun h_5 => ?_) (fun h_5 => ?_)
          · refine G_iinc C dX0_join_95 4 rfl (nI_1 _) (by decide) [(5, .int (nI (j + 1))), (4, .int (oI ((renO T1 (max x y) (min x y) 10) (max x y)))), (3, .int (oI ((renO T1 (max x y) (min x y) 10) (min x y)))), (7, .int (nI (max x y))), (6, .int (nI (min x y))), (0, .ref co)] rfl 98 rfl ?_
            refine G_goto C dX0_join_98 8 rfl ?_
            refine G_sel [2, 1, 0, 5] [(3, .int (oI ((renO T1 (max x y) (min x y) 10) (min x y)))), (4, .int (oI ((renO T1 (max x y) (min x y) 10) (max x y)))), (5, .int (nI (j + 1))), (0, .ref co)] rfl ?_
            have e : jit (Gp, Tt, oa, ob) (j + 1) = jone G1 T1 (min x y) (max x y) := by show jstep (jit (Gp, Tt, oa, ob) j) = _; rw [hQ]; show (if x = y then _ else _) = _; rw [if_neg hxy]
            refine G_eq (ws' := [(co, .inr (0, [.ref cg, .ref ct])), (cg, .inl (E.2.1, 10, .inl (aN ((jit (Gp, Tt, oa, ob) (j + 1)).1)))), (ct, .inl (E.2.1, 10, .inl (aO ((jit (Gp, Tt, oa, ob) (j + 1)).2.1))))]) (L' := [(3, .int (oI ((jit (Gp, Tt, oa, ob) (j + 1)).2.2.1))), (4, .int (oI ((jit (Gp, Tt, oa, ob) (j + 1)).2.2.2))), (5, .int (nI (j + 1))), (0, .ref co)]) (by rw [e]; simp only [jone]; rw [if_neg h_5]) (by rw [e]; rfl) rfl ?_
            exact ihj (j + 1) (by omega) (by omega)
          · refine G_aload_n C dX0_join_86 rfl 87 rfl ?_
            refine G_getf C dX0_join_87 wF_X0 wf_X0_15 (f := 1) (by decide) (ci := 0) rfl 0 rfl rfl 90 rfl ?_
            refine G_iload C dX0_join_90 rfl 92 rfl ?_
            refine G_iload C dX0_join_92 rfl 94 rfl ?_
            refine G_iastO C dX0_join_94 2 rfl rfl (x := (renO T1 (max x y) (min x y) 10) (max x y)) (by omega) [(co, .inr (0, [.ref cg, .ref ct])), (cg, .inl (E.2.1, 10, .inl (aN (renN G1 (max x y) (min x y) 10)))), (ct, .inl (E.2.1, 10, .inl (aO (va_up (va_up (renO T1 (max x y) (min x y) 10) (max x y) none) (min x y) ((renO T1 (max x y) (min x y) 10) (max x y))))))] rfl 95 rfl ?_
            refine G_iinc C dX0_join_95 4 rfl (nI_1 _) (by decide) [(5, .int (nI (j + 1))), (4, .int (oI ((renO T1 (max x y) (min x y) 10) (max x y)))), (3, .int (oI ((renO T1 (max x y) (min x y) 10) (min x y)))), (7, .int (nI (max x y))), (6, .int (nI (min x y))), (0, .ref co)] rfl 98 rfl ?_
            refine G_goto C dX0_join_98 8 rfl ?_
            refine G_sel [2, 1, 0, 5] [(3, .int (oI ((renO T1 (max x y) (min x y) 10) (min x y)))), (4, .int (oI ((renO T1 (max x y) (min x y) 10) (max x y)))), (5, .int (nI (j + 1))), (0, .ref co)] rfl ?_
            have e : jit (Gp, Tt, oa, ob) (j + 1) = jone G1 T1 (min x y) (max x y) := by show jstep (jit (Gp, Tt, oa, ob) j) = _; rw [hQ]; show (if x = y then _ else _) = _; rw [if_neg hxy]
            refine G_eq (ws' := [(co, .inr (0, [.ref cg, .ref ct])), (cg, .inl (E.2.1, 10, .inl (aN ((jit (Gp, Tt, oa, ob) (j + 1)).1)))), (ct, .inl (E.2.1, 10, .inl (aO ((jit (Gp, Tt, oa, ob) (j + 1)).2.1))))]) (L' := [(3, .int (oI ((jit (Gp, Tt, oa, ob) (j + 1)).2.2.1))), (4, .int (oI ((jit (Gp, Tt, oa, ob) (j + 1)).2.2.2))), (5, .int (nI (j + 1))), (0, .ref co)]) (by rw [e]; simp only [jone]; rw [if_pos h_5]) (by rw [e]; rfl) rfl ?_
            exact ihj (j + 1) (by omega) (by omega)
end
section
set_option maxHeartbeats 4000000 in
set_option maxRecDepth 100000 in
theorem c_X0_point (l : Launch) (E : gE) (co cg ct : Nat) (Gp : Nat → Nat) (Tt : Nat → Option Nat) (f t : Option Nat) (hG : gok Gp) (hT : tok Tt) (hf : ook f) (ht : ook t) : FD l E yX0_point cX0_point 3 (some .boolean) { frames := 2, cells := 0, slots := 0, locals := 50 } [.ref co, .int (oI f), .int (oI t)] [(co, .inr (0, [.ref cg, .ref ct])), (cg, .inl (E.2.1, 10, .inl (aN Gp))), (ct, .inl (E.2.1, 10, .inl (aO Tt)))] (some (.int (bI ((pt Gp Tt f t).2.2)))) [(co, .inr (0, [.ref cg, .ref ct])), (cg, .inl (E.2.1, 10, .inl (aN ((pt Gp Tt f t).1)))), (ct, .inl (E.2.1, 10, .inl (aO ((pt Gp Tt f t).2.1))))] := by
  refine Fn_ofL (own := RX0) (by decide) rfl rfl [(0, .ref co), (1, .int (oI f)), (2, .int (oI t))] rfl ?_
  intro p e s m below meth c A C hr hnm
  cases f with
  | none =>
    refine G_iload_n C dX0_point_0 rfl 1 rfl ?_
    refine G_iconst C dX0_point_1 (v := oI none) rfl 2 rfl ?_
    refine G_icmp_eq_t C dX0_point_2 20 rfl rfl ?_
    refine G_iconst C dX0_point_20 (v := nI 0) rfl 21 rfl ?_
    exact G_iret C hr dX0_point_21 (by decide) () trivial (by first | rfl | (simp [pt, h_1]; rfl)) (by first | rfl | simp [pt, h_1])
  | some x =>
    have hx : x < 10 := hf x rfl
    cases t with
    | none =>
      refine G_eq (ws' := [(co, .inr (0, [.ref cg, .ref ct])), (cg, .inl (E.2.1, 10, .inl (aN Gp))), (ct, .inl (E.2.1, 10, .inl (aO Tt)))]) (L' := [(0, .ref co), (1, .int (nI x)), (2, .int (oI none))]) rfl rfl rfl ?_
      refine G_iload_n C dX0_point_0 rfl 1 rfl ?_
      refine G_iconst C dX0_point_1 (v := oI none) rfl 2 rfl ?_
      refine G_icmp_eq_f C dX0_point_2 20 rfl 5 rfl (oI_ne (by omega)) ?_
      refine G_iload_n C dX0_point_5 rfl 6 rfl ?_
      refine G_iconst C dX0_point_6 (v := oI none) rfl 7 rfl ?_
      refine G_icmp_eq_t C dX0_point_7 20 rfl rfl ?_
      refine G_iconst C dX0_point_20 (v := nI 0) rfl 21 rfl ?_
      exact G_iret C hr dX0_point_21 (by decide) () trivial (by first | rfl | (simp [pt, h_1]; rfl)) (by first | rfl | simp [pt, h_1])
    | some y =>
      have hy : y < 10 := ht y rfl
      refine G_eq (ws' := [(co, .inr (0, [.ref cg, .ref ct])), (cg, .inl (E.2.1, 10, .inl (aN Gp))), (ct, .inl (E.2.1, 10, .inl (aO Tt)))]) (L' := [(0, .ref co), (1, .int (nI x)), (2, .int (nI y))]) rfl rfl rfl ?_
      refine G_iload_n C dX0_point_0 rfl 1 rfl ?_
      refine G_iconst C dX0_point_1 (v := oI none) rfl 2 rfl ?_
      refine G_icmp_eq_f C dX0_point_2 20 rfl 5 rfl (oI_ne (by omega)) ?_
      refine G_iload_n C dX0_point_5 rfl 6 rfl ?_
      refine G_iconst C dX0_point_6 (v := oI none) rfl 7 rfl ?_
      refine G_icmp_eq_f C dX0_point_7 20 rfl 10 rfl (oI_ne (by omega)) ?_
      refine G_aload_n C dX0_point_10 rfl 11 rfl ?_
      refine G_getf C dX0_point_11 wF_X0 wf_X0_15 (f := 1) (by decide) (ci := 0) rfl 0 rfl rfl 14 rfl ?_
      refine G_iload_n C dX0_point_14 rfl 15 rfl ?_
      refine G_ialdO C dX0_point_15 2 rfl rfl (by omega) 16 rfl ?_
      refine G_iload_n C dX0_point_16 rfl 17 rfl ?_
      refine G_icmp_ne C dX0_point_17 22 rfl 20 rfl (oI_eq (t := Tt x) (u := some y) (hT x hx).b (ook.b (ook_s hy))) (fun h_1 => ?_) (fun h_1 => ?_)
      · refine G_aload_n C dX0_point_22 rfl 23 rfl ?_
        refine G_getf C dX0_point_23 wF_X0 wf_X0_15 (f := 1) (by decide) (ci := 0) rfl 0 rfl rfl 26 rfl ?_
        refine G_iload_n C dX0_point_26 rfl 27 rfl ?_
        refine G_ialdO C dX0_point_27 2 rfl rfl (by omega) 28 rfl ?_
        refine G_iconst C dX0_point_28 (v := oI none) rfl 29 rfl ?_
        refine G_icmp_ne C dX0_point_29 42 rfl 32 rfl (oI_none (hT x hx).b) (fun h_2 => ?_) (fun h_2 => ?_)
        · refine G_aload_n C dX0_point_42 rfl 43 rfl ?_
          refine G_aload_n C dX0_point_43 rfl 44 rfl ?_
          refine G_getf C dX0_point_44 wF_X0 wf_X0_15 (f := 1) (by decide) (ci := 0) rfl 0 rfl rfl 47 rfl ?_
          refine G_iload_n C dX0_point_47 rfl 48 rfl ?_
          refine G_ialdO C dX0_point_48 2 rfl rfl (by omega) 49 rfl ?_
          refine G_iload_n C dX0_point_49 rfl 50 rfl ?_
          refine G_cV C dX0_point_50 (c_X0_join l E co cg ct Gp Tt (Tt x) (some y) (by first | assumption | omega) (by first | assumption | omega) (hT x hx) (ook_s hy)) wm_X0_63 wi_X0_join wsel_X0_join wn_X0 wc_X0_join rfl rfl ⟨by decide, by decide, rfl⟩ rfl (Nat.le_of_ble_eq_true rfl) 0 rfl rfl 0 rfl [0, 1, 2] [] (wr := []) rfl rfl rfl rfl rfl [0, 1, 2] rfl [(co, .inr (0, [.ref cg, .ref ct])), (cg, .inl (E.2.1, 10, .inl (aN ((jn Gp Tt (Tt x) (some y)).1)))), (ct, .inl (E.2.1, 10, .inl (aO ((jn Gp Tt (Tt x) (some y)).2.1))))] rfl rfl [] rfl 53 rfl ?_
          refine G_iconst C dX0_point_53 (v := nI 1) rfl 54 rfl ?_
          exact G_iret C hr dX0_point_54 (by decide) () trivial (by simp [pt, h_1, h_2]; rfl) (by simp [pt, h_1, h_2])
        · refine G_aload_n C dX0_point_32 rfl 33 rfl ?_
          refine G_getf C dX0_point_33 wF_X0 wf_X0_15 (f := 1) (by decide) (ci := 0) rfl 0 rfl rfl 36 rfl ?_
          refine G_iload_n C dX0_point_36 rfl 37 rfl ?_
          refine G_iload_n C dX0_point_37 rfl 38 rfl ?_
          refine G_iastO C dX0_point_38 2 rfl rfl (x := some y) (by omega) [(co, .inr (0, [.ref cg, .ref ct])), (cg, .inl (E.2.1, 10, .inl (aN Gp))), (ct, .inl (E.2.1, 10, .inl (aO (va_up Tt x (some y)))))] rfl 39 rfl ?_
          refine G_goto C dX0_point_39 53 rfl ?_
          refine G_iconst C dX0_point_53 (v := nI 1) rfl 54 rfl ?_
          exact G_iret C hr dX0_point_54 (by decide) () trivial (by simp [pt, h_1, h_2]; rfl) (by simp [pt, h_1, h_2])
      · refine G_iconst C dX0_point_20 (v := nI 0) rfl 21 rfl ?_
        exact G_iret C hr dX0_point_21 (by decide) () trivial (by first | rfl | (simp [pt, h_1]; rfl)) (by first | rfl | simp [pt, h_1])

set_option maxHeartbeats 4000000 in
set_option maxRecDepth 100000 in
theorem c_X0_apply (l : Launch) (E : gE) (co cg ct : Nat) (Gp : Nat → Nat) (Tt : Nat → Option Nat) (o a n : Nat) (Cd : Nat → Nat) (i v : Nat) (hG : gok Gp) (hT : tok Tt) (hi : i < 14) (hc : Cd i = ce v) (hv : v < 400) : FD l E yX0_apply cX0_apply 5 (some .boolean) { frames := 3, cells := 0, slots := 0, locals := 72 } [.ref co, .ref o, .int (nI i)] [(co, .inr (0, [.ref cg, .ref ct])), (cg, .inl (E.2.1, 10, .inl (aN Gp))), (ct, .inl (E.2.1, 10, .inl (aO Tt))), (o, .inr (2, [.ref a, .int (nI n)])), (a, .inl (E.2.1, 14, .inl (aN Cd)))] (some (.int (bI ((cst v Gp Tt).2.2)))) [(co, .inr (0, [.ref cg, .ref ct])), (cg, .inl (E.2.1, 10, .inl (aN ((cst v Gp Tt).1)))), (ct, .inl (E.2.1, 10, .inl (aO ((cst v Gp Tt).2.1)))), (o, .inr (2, [.ref a, .int (nI n)])), (a, .inl (E.2.1, 14, .inl (aN Cd)))] := by
  refine Fn_ofL (own := RX0) (by decide) rfl rfl [(0, .ref co), (1, .ref o), (2, .int (nI i))] rfl ?_
  intro p e s m below meth c A C hr hnm
  refine G_aload_n C dX0_apply_0 rfl 1 rfl ?_
  refine G_getf C dX0_apply_1 wF_X0 wf_X0_9 (f := 0) (by decide) (ci := 0) rfl 0 rfl rfl 4 rfl ?_
  refine G_aload_n C dX0_apply_4 rfl 5 rfl ?_
  refine G_iload_n C dX0_apply_5 rfl 6 rfl ?_
  refine G_cV C dX0_apply_6 (c_X2_leftAt l E o a n Cd i v (by first | assumption | omega) (by first | assumption | omega) (by first | assumption | omega)) wm_X0_47 wi_X2_leftAt wsel_X2_leftAt wn_X2 wc_X2_leftAt rfl rfl ⟨by decide, by decide, rfl⟩ rfl (Nat.le_of_ble_eq_true rfl) 2 rfl rfl 0 rfl [3, 4] [0, 1, 2] (wr := [(co, .inr (0, [.ref cg, .ref ct])), (cg, .inl (E.2.1, 10, .inl (aN Gp))), (ct, .inl (E.2.1, 10, .inl (aO Tt)))]) rfl rfl rfl rfl rfl [0, 1, 2, 3, 4] rfl [(co, .inr (0, [.ref cg, .ref ct])), (cg, .inl (E.2.1, 10, .inl (aN Gp))), (ct, .inl (E.2.1, 10, .inl (aO Tt))), (o, .inr (2, [.ref a, .int (nI n)])), (a, .inl (E.2.1, 14, .inl (aN Cd)))] rfl rfl [.int (nI (v / 10 % 10)), .ref cg] rfl 9 rfl ?_
  refine G_ialdN C dX0_apply_9 1 rfl rfl (by omega) 10 rfl ?_
  refine G_istore_n C dX0_apply_10 (by decide) [(3, .int (nI (Gp (v / 10 % 10)))), (0, .ref co), (1, .ref o), (2, .int (nI i))] rfl 11 rfl ?_
  refine G_aload_n C dX0_apply_11 rfl 12 rfl ?_
  refine G_getf C dX0_apply_12 wF_X0 wf_X0_9 (f := 0) (by decide) (ci := 0) rfl 0 rfl rfl 15 rfl ?_
  refine G_aload_n C dX0_apply_15 rfl 16 rfl ?_
  refine G_iload_n C dX0_apply_16 rfl 17 rfl ?_
  refine G_cV C dX0_apply_17 (c_X2_rightAt l E o a n Cd i v (by first | assumption | omega) (by first | assumption | omega) (by first | assumption | omega)) wm_X0_50 wi_X2_rightAt wsel_X2_rightAt wn_X2 wc_X2_rightAt rfl rfl ⟨by decide, by decide, rfl⟩ rfl (Nat.le_of_ble_eq_true rfl) 2 rfl rfl 0 rfl [3, 4] [0, 1, 2] (wr := [(co, .inr (0, [.ref cg, .ref ct])), (cg, .inl (E.2.1, 10, .inl (aN Gp))), (ct, .inl (E.2.1, 10, .inl (aO Tt)))]) rfl rfl rfl rfl rfl [0, 1, 2, 3, 4] rfl [(co, .inr (0, [.ref cg, .ref ct])), (cg, .inl (E.2.1, 10, .inl (aN Gp))), (ct, .inl (E.2.1, 10, .inl (aO Tt))), (o, .inr (2, [.ref a, .int (nI n)])), (a, .inl (E.2.1, 14, .inl (aN Cd)))] rfl rfl [.int (nI (v % 10)), .ref cg] rfl 20 rfl ?_
  refine G_ialdN C dX0_apply_20 1 rfl rfl (by omega) 21 rfl ?_
  refine G_istore C dX0_apply_21 (by decide) [(4, .int (nI (Gp (v % 10)))), (3, .int (nI (Gp (v / 10 % 10)))), (0, .ref co), (1, .ref o), (2, .int (nI i))] rfl 23 rfl ?_
  refine G_aload_n C dX0_apply_23 rfl 24 rfl ?_
  refine G_iload_n C dX0_apply_24 rfl 25 rfl ?_
  refine G_cV C dX0_apply_25 (c_X2_sortAt l E o a n Cd i v (by first | assumption | omega) (by first | assumption | omega) (by first | assumption | omega)) wm_X0_53 wi_X2_sortAt wsel_X2_sortAt wn_X2 wc_X2_sortAt rfl rfl ⟨by decide, by decide, rfl⟩ rfl (Nat.le_of_ble_eq_true rfl) 2 rfl rfl 0 rfl [3, 4] [0, 1, 2] (wr := [(co, .inr (0, [.ref cg, .ref ct])), (cg, .inl (E.2.1, 10, .inl (aN Gp))), (ct, .inl (E.2.1, 10, .inl (aO Tt)))]) rfl rfl rfl rfl rfl [0, 1, 2, 3, 4] rfl [(co, .inr (0, [.ref cg, .ref ct])), (cg, .inl (E.2.1, 10, .inl (aN Gp))), (ct, .inl (E.2.1, 10, .inl (aO Tt))), (o, .inr (2, [.ref a, .int (nI n)])), (a, .inl (E.2.1, 14, .inl (aN Cd)))] rfl rfl [.int (nI (v / 100))] rfl 28 rfl ?_
  rcases (show v / 100 = 0 ∨ v / 100 = 1 ∨ v / 100 = 2 ∨ v / 100 = 3 by omega) with hs_1 | hs_1 | hs_1 | hs_1
  · refine G_top (v' := .int (nI 0)) (by rw [hs_1]) ?_
    refine G_tabIn C dX0_apply_28 (28) (by decide) (by decide) rfl 56 rfl ?_
    refine G_aload_n C dX0_apply_56 rfl 57 rfl ?_
    refine G_iload_n C dX0_apply_57 rfl 58 rfl ?_
    refine G_iload C dX0_apply_58 rfl 60 rfl ?_
    refine G_cV C dX0_apply_60 (c_X0_point l E co cg ct Gp Tt (some (Gp (v / 10 % 10))) (some (Gp (v % 10))) (by first | assumption | omega) (by first | assumption | omega) (ook_s (hG _ (by omega))) (ook_s (hG _ (by omega)))) wm_X0_56 wi_X0_point wsel_X0_point wn_X0 wc_X0_point rfl rfl ⟨by decide, by decide, rfl⟩ rfl (Nat.le_of_ble_eq_true rfl) 0 rfl rfl 0 rfl [0, 1, 2] [3, 4] (wr := [(o, .inr (2, [.ref a, .int (nI n)])), (a, .inl (E.2.1, 14, .inl (aN Cd)))]) rfl rfl rfl rfl rfl [2, 3, 4, 0, 1] rfl [(co, .inr (0, [.ref cg, .ref ct])), (cg, .inl (E.2.1, 10, .inl (aN ((pt Gp Tt (some (Gp (v / 10 % 10))) (some (Gp (v % 10)))).1)))), (ct, .inl (E.2.1, 10, .inl (aO ((pt Gp Tt (some (Gp (v / 10 % 10))) (some (Gp (v % 10)))).2.1)))), (o, .inr (2, [.ref a, .int (nI n)])), (a, .inl (E.2.1, 14, .inl (aN Cd)))] rfl rfl [.int (bI ((pt Gp Tt (some (Gp (v / 10 % 10))) (some (Gp (v % 10)))).2.2))] rfl 63 rfl ?_
    exact G_iret C hr dX0_apply_63 (bI_nar _) () trivial (by simp [cst, hs_1]) (by simp [cst, hs_1])
  · refine G_top (v' := .int (nI 1)) (by rw [hs_1]) ?_
    refine G_tabIn C dX0_apply_28 (36) (by decide) (by decide) rfl 64 rfl ?_
    refine G_aload_n C dX0_apply_64 rfl 65 rfl ?_
    refine G_iload_n C dX0_apply_65 rfl 66 rfl ?_
    refine G_aload_n C dX0_apply_66 rfl 67 rfl ?_
    refine G_getf C dX0_apply_67 wF_X0 wf_X0_15 (f := 1) (by decide) (ci := 0) rfl 0 rfl rfl 70 rfl ?_
    refine G_iload C dX0_apply_70 rfl 72 rfl ?_
    refine G_ialdO C dX0_apply_72 2 rfl rfl (hG _ (by omega)) 73 rfl ?_
    refine G_cV C dX0_apply_73 (c_X0_point l E co cg ct Gp Tt (some (Gp (v / 10 % 10))) (Tt (Gp (v % 10))) (by first | assumption | omega) (by first | assumption | omega) (ook_s (hG _ (by omega))) (hT _ (hG _ (by omega)))) wm_X0_56 wi_X0_point wsel_X0_point wn_X0 wc_X0_point rfl rfl ⟨by decide, by decide, rfl⟩ rfl (Nat.le_of_ble_eq_true rfl) 0 rfl rfl 0 rfl [0, 1, 2] [3, 4] (wr := [(o, .inr (2, [.ref a, .int (nI n)])), (a, .inl (E.2.1, 14, .inl (aN Cd)))]) rfl rfl rfl rfl rfl [2, 3, 4, 0, 1] rfl [(co, .inr (0, [.ref cg, .ref ct])), (cg, .inl (E.2.1, 10, .inl (aN ((pt Gp Tt (some (Gp (v / 10 % 10))) (Tt (Gp (v % 10)))).1)))), (ct, .inl (E.2.1, 10, .inl (aO ((pt Gp Tt (some (Gp (v / 10 % 10))) (Tt (Gp (v % 10)))).2.1)))), (o, .inr (2, [.ref a, .int (nI n)])), (a, .inl (E.2.1, 14, .inl (aN Cd)))] rfl rfl [.int (bI ((pt Gp Tt (some (Gp (v / 10 % 10))) (Tt (Gp (v % 10)))).2.2))] rfl 76 rfl ?_
    exact G_iret C hr dX0_apply_76 (bI_nar _) () trivial (by simp [cst, hs_1]) (by simp [cst, hs_1])
  · refine G_top (v' := .int (nI 2)) (by rw [hs_1]) ?_
    refine G_tabIn C dX0_apply_28 (49) (by decide) (by decide) rfl 77 rfl ?_
    refine G_aload_n C dX0_apply_77 rfl 78 rfl ?_
    refine G_iload_n C dX0_apply_78 rfl 79 rfl ?_
    refine G_aload_n C dX0_apply_79 rfl 80 rfl ?_
    refine G_aload_n C dX0_apply_80 rfl 81 rfl ?_
    refine G_getf C dX0_apply_81 wF_X0 wf_X0_15 (f := 1) (by decide) (ci := 0) rfl 0 rfl rfl 84 rfl ?_
    refine G_iload C dX0_apply_84 rfl 86 rfl ?_
    refine G_ialdO C dX0_apply_86 2 rfl rfl (hG _ (by omega)) 87 rfl ?_
    refine G_cV C dX0_apply_87 (c_X0_targetOf l E co cg ct Gp Tt (Tt (Gp (v % 10))) (hT _ (hG _ (by omega)))) wm_X0_60 wi_X0_targetOf wsel_X0_targetOf wn_X0 wc_X0_targetOf rfl rfl ⟨by decide, by decide, rfl⟩ rfl (Nat.le_of_ble_eq_true rfl) 0 rfl rfl 0 rfl [0, 1, 2] [3, 4] (wr := [(o, .inr (2, [.ref a, .int (nI n)])), (a, .inl (E.2.1, 14, .inl (aN Cd)))]) rfl rfl rfl rfl rfl [2, 3, 4, 0, 1] rfl [(co, .inr (0, [.ref cg, .ref ct])), (cg, .inl (E.2.1, 10, .inl (aN Gp))), (ct, .inl (E.2.1, 10, .inl (aO Tt))), (o, .inr (2, [.ref a, .int (nI n)])), (a, .inl (E.2.1, 14, .inl (aN Cd)))] rfl rfl [.int (oI ((Tt (Gp (v % 10))).bind Tt)), .int (nI (Gp (v / 10 % 10))), .ref co] rfl 90 rfl ?_
    refine G_cV C dX0_apply_90 (c_X0_point l E co cg ct Gp Tt (some (Gp (v / 10 % 10))) ((Tt (Gp (v % 10))).bind Tt) (by first | assumption | omega) (by first | assumption | omega) (ook_s (hG _ (by omega))) (ook_bind hT (hT _ (hG _ (by omega))))) wm_X0_56 wi_X0_point wsel_X0_point wn_X0 wc_X0_point rfl rfl ⟨by decide, by decide, rfl⟩ rfl (Nat.le_of_ble_eq_true rfl) 0 rfl rfl 0 rfl [0, 1, 2] [3, 4] (wr := [(o, .inr (2, [.ref a, .int (nI n)])), (a, .inl (E.2.1, 14, .inl (aN Cd)))]) rfl rfl rfl rfl rfl [2, 3, 4, 0, 1] rfl [(co, .inr (0, [.ref cg, .ref ct])), (cg, .inl (E.2.1, 10, .inl (aN ((pt Gp Tt (some (Gp (v / 10 % 10))) ((Tt (Gp (v % 10))).bind Tt)).1)))), (ct, .inl (E.2.1, 10, .inl (aO ((pt Gp Tt (some (Gp (v / 10 % 10))) ((Tt (Gp (v % 10))).bind Tt)).2.1)))), (o, .inr (2, [.ref a, .int (nI n)])), (a, .inl (E.2.1, 14, .inl (aN Cd)))] rfl rfl [.int (bI ((pt Gp Tt (some (Gp (v / 10 % 10))) ((Tt (Gp (v % 10))).bind Tt)).2.2))] rfl 93 rfl ?_
    exact G_iret C hr dX0_apply_93 (bI_nar _) () trivial (by simp [cst, hs_1]) (by simp [cst, hs_1])
  · refine G_top (v' := .int (nI 3)) (by rw [hs_1]) ?_
    refine G_tabOut C dX0_apply_28 (by decide) 94 rfl ?_
    refine G_aload_n C dX0_apply_94 rfl 95 rfl ?_
    refine G_aload_n C dX0_apply_95 rfl 96 rfl ?_
    refine G_getf C dX0_apply_96 wF_X0 wf_X0_15 (f := 1) (by decide) (ci := 0) rfl 0 rfl rfl 99 rfl ?_
    refine G_iload_n C dX0_apply_99 rfl 100 rfl ?_
    refine G_ialdO C dX0_apply_100 2 rfl rfl (hG _ (by omega)) 101 rfl ?_
    refine G_aload_n C dX0_apply_101 rfl 102 rfl ?_
    refine G_getf C dX0_apply_102 wF_X0 wf_X0_15 (f := 1) (by decide) (ci := 0) rfl 0 rfl rfl 105 rfl ?_
    refine G_iload C dX0_apply_105 rfl 107 rfl ?_
    refine G_ialdO C dX0_apply_107 2 rfl rfl (hG _ (by omega)) 108 rfl ?_
    refine G_cV C dX0_apply_108 (c_X0_point l E co cg ct Gp Tt (Tt (Gp (v / 10 % 10))) (Tt (Gp (v % 10))) (by first | assumption | omega) (by first | assumption | omega) (hT _ (hG _ (by omega))) (hT _ (hG _ (by omega)))) wm_X0_56 wi_X0_point wsel_X0_point wn_X0 wc_X0_point rfl rfl ⟨by decide, by decide, rfl⟩ rfl (Nat.le_of_ble_eq_true rfl) 0 rfl rfl 0 rfl [0, 1, 2] [3, 4] (wr := [(o, .inr (2, [.ref a, .int (nI n)])), (a, .inl (E.2.1, 14, .inl (aN Cd)))]) rfl rfl rfl rfl rfl [2, 3, 4, 0, 1] rfl [(co, .inr (0, [.ref cg, .ref ct])), (cg, .inl (E.2.1, 10, .inl (aN ((pt Gp Tt (Tt (Gp (v / 10 % 10))) (Tt (Gp (v % 10)))).1)))), (ct, .inl (E.2.1, 10, .inl (aO ((pt Gp Tt (Tt (Gp (v / 10 % 10))) (Tt (Gp (v % 10)))).2.1)))), (o, .inr (2, [.ref a, .int (nI n)])), (a, .inl (E.2.1, 14, .inl (aN Cd)))] rfl rfl [.int (bI ((pt Gp Tt (Tt (Gp (v / 10 % 10))) (Tt (Gp (v % 10)))).2.2))] rfl 111 rfl ?_
    exact G_iret C hr dX0_apply_111 (bI_nar _) () trivial (by simp [cst, hs_1]) (by simp [cst, hs_1])

set_option maxHeartbeats 4000000 in
set_option maxRecDepth 100000 in
theorem c_X0_solve (l : Launch) (E : gE) (co cg ct : Nat) (Gp : Nat → Nat) (Tt : Nat → Option Nat) (o a n : Nat) (Cd : Nat → Nat) (ln : Nat → Nat) (lo : Option Nat) (hok : lok n ln Cd) (hlo : ∀ g, lo = some g → g < 2 ^ 31) : FD l E yX0_solve cX0_solve 6 none { frames := 4, cells := 0, slots := 0, locals := 96 } [.ref co, .ref o, .int (oI lo)] [(co, .inr (0, [.ref cg, .ref ct])), (cg, .inl (E.2.1, 10, .inl (aN Gp))), (ct, .inl (E.2.1, 10, .inl (aO Tt))), (o, .inr (2, [.ref a, .int (nI n)])), (a, .inl (E.2.1, 14, .inl (aN Cd)))] none [(co, .inr (0, [.ref cg, .ref ct])), (cg, .inl (E.2.1, 10, .inl (aN (coarG ln n lo)))), (ct, .inl (E.2.1, 10, .inl (aO (coarT ln n lo)))), (o, .inr (2, [.ref a, .int (nI n)])), (a, .inl (E.2.1, 14, .inl (aN Cd)))] := by
  refine Fn_ofL (own := RX0) (by decide) rfl rfl [(0, .ref co), (1, .ref o), (2, .int (oI lo))] rfl ?_
  intro p e s m below meth c A C hr hnm
  have h14 : n ≤ 14 := hok.n
  refine G_iconst C dX0_solve_0 (v := nI 0) rfl 1 rfl ?_
  refine G_istore_n C dX0_solve_1 (by decide) [(3, .int (nI 0)), (0, .ref co), (1, .ref o), (2, .int (oI lo))] rfl 2 rfl ?_
  refine G_eq (ws' := [(co, .inr (0, [.ref cg, .ref ct])), (cg, .inl (E.2.1, 10, .inl (aN (flG (fun k => k) Gp 0)))), (ct, .inl (E.2.1, 10, .inl (aO (flG (fun _ => none) Tt 0)))), (o, .inr (2, [.ref a, .int (nI n)])), (a, .inl (E.2.1, 14, .inl (aN Cd)))]) (by rw [flG_0, flG_0]) rfl rfl ?_
  refine G_while (X := Nat) (Wf := fun x => [(co, .inr (0, [.ref cg, .ref ct])), (cg, .inl (E.2.1, 10, .inl (aN (flG (fun k => k) Gp x)))), (ct, .inl (E.2.1, 10, .inl (aO (flG (fun _ => none) Tt x)))), (o, .inr (2, [.ref a, .int (nI n)])), (a, .inl (E.2.1, 14, .inl (aN Cd)))]) (Lf := fun x => [(3, .int (nI x)), (0, .ref co), (1, .ref o), (2, .int (oI lo))]) (Sf := fun _ => []) (fun x => x ≤ 10) (fun x => 10 - x) (fun x hx9 ihx => ?_) 0 (by omega)
  refine G_iload_n C dX0_solve_2 rfl 3 rfl ?_
  refine G_bipush C dX0_solve_3 (v := nI 10) (by decide) 5 rfl ?_
  refine G_icmp_ge C dX0_solve_5 28 rfl 8 rfl (nI_leI (by omega) (by omega)) (fun h_1 => ?_) (fun h_1 => ?_)
  · refine G_cong 1 (aN (fun k => k)) rfl (fun j hj => by simp only [aN]; rw [flG_in _ _ (by omega)]) [(co, .inr (0, [.ref cg, .ref ct])), (cg, .inl (E.2.1, 10, .inl (aN (fun k => k)))), (ct, .inl (E.2.1, 10, .inl (aO (flG (fun _ => none) Tt x)))), (o, .inr (2, [.ref a, .int (nI n)])), (a, .inl (E.2.1, 14, .inl (aN Cd)))] rfl ?_
    refine G_cong 2 (aO (fun _ => none)) rfl (fun j hj => by simp only [aO]; rw [flG_in _ _ (by omega)]) [(co, .inr (0, [.ref cg, .ref ct])), (cg, .inl (E.2.1, 10, .inl (aN (fun k => k)))), (ct, .inl (E.2.1, 10, .inl (aO (fun _ => none)))), (o, .inr (2, [.ref a, .int (nI n)])), (a, .inl (E.2.1, 14, .inl (aN Cd)))] rfl ?_
    refine G_iconst C dX0_solve_28 (v := nI 1) rfl 29 rfl ?_
    refine G_istore_n C dX0_solve_29 (by decide) [(3, .int (nI 1)), (0, .ref co), (1, .ref o), (2, .int (oI lo))] rfl 30 rfl ?_
    refine G_iconst C dX0_solve_30 (v := nI 0) rfl 31 rfl ?_
    refine G_istore C dX0_solve_31 (by decide) [(4, .int (nI 0)), (3, .int (nI 1)), (0, .ref co), (1, .ref o), (2, .int (oI lo))] rfl 33 rfl ?_
    refine G_eq (ws' := [(co, .inr (0, [.ref cg, .ref ct])), (cg, .inl (E.2.1, 10, .inl (aN ((cit ln n lo 0).1)))), (ct, .inl (E.2.1, 10, .inl (aO ((cit ln n lo 0).2.1)))), (o, .inr (2, [.ref a, .int (nI n)])), (a, .inl (E.2.1, 14, .inl (aN Cd)))]) (L' := [(4, .int (nI 0)), (3, .int (bI ((cit ln n lo 0).2.2))), (0, .ref co), (1, .ref o), (2, .int (oI lo))]) rfl rfl rfl ?_
    refine G_sel [1, 0, 2, 3, 4] [(3, .int (nI 1)), (4, .int (nI 0)), (0, .ref co), (1, .ref o), (2, .int (oI lo))] rfl ?_
    refine G_while (X := Nat) (Wf := fun j => [(co, .inr (0, [.ref cg, .ref ct])), (cg, .inl (E.2.1, 10, .inl (aN ((cit ln n lo j).1)))), (ct, .inl (E.2.1, 10, .inl (aO ((cit ln n lo j).2.1)))), (o, .inr (2, [.ref a, .int (nI n)])), (a, .inl (E.2.1, 14, .inl (aN Cd)))]) (Lf := fun j => [(3, .int (bI ((cit ln n lo j).2.2))), (4, .int (nI j)), (0, .ref co), (1, .ref o), (2, .int (oI lo))]) (Sf := fun _ => []) (fun j => j ≤ 21) (fun j => 21 - j) (fun j hj ihj => ?_) 0 (by omega)
    refine G_iload C dX0_solve_33 rfl 35 rfl ?_
    refine G_bipush C dX0_solve_35 (v := nI 20) (by decide) 37 rfl ?_
    refine G_icmp_gt C dX0_solve_37 88 rfl 40 rfl (nI_ltI (by omega) (by omega)) (fun h_1 => ?_) (fun h_1 => ?_)
    · exact G_vret C hr dX0_solve_88 () trivial rfl (by first | (rw [show j = 21 by omega]; rfl) | (have e := cit_stay h_2 (21 - j); rw [show j + (21 - j) = 21 by omega] at e; simp only [coarG, coarT, e]))
    · refine G_iload_n C dX0_solve_40 rfl 41 rfl ?_
      refine G_if_eq C dX0_solve_41 88 rfl 44 rfl (bI_0 _) (fun h_2 => ?_) (fun h_2 => ?_)
      · exact G_vret C hr dX0_solve_88 () trivial rfl (by first | (rw [show j = 21 by omega]; rfl) | (have e := cit_stay h_2 (21 - j); rw [show j + (21 - j) = 21 by omega] at e; simp only [coarG, coarT, e]))
      · refine G_iconst C dX0_solve_44 (v := nI 0) rfl 45 rfl ?_
        refine G_istore_n C dX0_solve_45 (by decide) [(3, .int (nI 0)), (4, .int (nI j)), (0, .ref co), (1, .ref o), (2, .int (oI lo))] rfl 46 rfl ?_
        refine G_iconst C dX0_solve_46 (v := nI 0) rfl 47 rfl ?_
        refine G_istore C dX0_solve_47 (by decide) [(5, .int (nI 0)), (3, .int (nI 0)), (4, .int (nI j)), (0, .ref co), (1, .ref o), (2, .int (oI lo))] rfl 49 rfl ?_
        refine G_eq (ws' := [(co, .inr (0, [.ref cg, .ref ct])), (cg, .inl (E.2.1, 10, .inl (aN ((cp ln lo (cit ln n lo j).1 (cit ln n lo j).2.1 0).1)))), (ct, .inl (E.2.1, 10, .inl (aO ((cp ln lo (cit ln n lo j).1 (cit ln n lo j).2.1 0).2.1)))), (o, .inr (2, [.ref a, .int (nI n)])), (a, .inl (E.2.1, 14, .inl (aN Cd)))]) (L' := [(5, .int (nI 0)), (3, .int (bI ((cp ln lo (cit ln n lo j).1 (cit ln n lo j).2.1 0).2.2))), (4, .int (nI j)), (0, .ref co), (1, .ref o), (2, .int (oI lo))]) rfl rfl rfl ?_
        refine G_sel [1, 0, 2, 3, 4, 5] [(3, .int (nI 0)), (5, .int (nI 0)), (4, .int (nI j)), (0, .ref co), (1, .ref o), (2, .int (oI lo))] rfl ?_
        refine G_while (X := Nat) (Wf := fun i => [(co, .inr (0, [.ref cg, .ref ct])), (cg, .inl (E.2.1, 10, .inl (aN ((cp ln lo (cit ln n lo j).1 (cit ln n lo j).2.1 i).1)))), (ct, .inl (E.2.1, 10, .inl (aO ((cp ln lo (cit ln n lo j).1 (cit ln n lo j).2.1 i).2.1)))), (o, .inr (2, [.ref a, .int (nI n)])), (a, .inl (E.2.1, 14, .inl (aN Cd)))]) (Lf := fun i => [(3, .int (bI ((cp ln lo (cit ln n lo j).1 (cit ln n lo j).2.1 i).2.2))), (5, .int (nI i)), (4, .int (nI j)), (0, .ref co), (1, .ref o), (2, .int (oI lo))]) (Sf := fun _ => []) (fun i => i ≤ n) (fun i => n - i) (fun i hi ih => ?_) 0 (by omega)
        refine G_iload C dX0_solve_49 rfl 51 rfl ?_
        refine G_aload_n C dX0_solve_51 rfl 52 rfl ?_
        refine G_cV C dX0_solve_52 (c_X2_size l E o a n Cd ) wm_X0_37 wi_X2_size wsel_X2_size wn_X2 wc_X2_size rfl rfl ⟨by decide, by decide, rfl⟩ rfl (Nat.le_of_ble_eq_true rfl) 2 rfl rfl 0 rfl [3, 4] [0, 1, 2] (wr := [(co, .inr (0, [.ref cg, .ref ct])), (cg, .inl (E.2.1, 10, .inl (aN ((cp ln lo (cit ln n lo j).1 (cit ln n lo j).2.1 i).1)))), (ct, .inl (E.2.1, 10, .inl (aO ((cp ln lo (cit ln n lo j).1 (cit ln n lo j).2.1 i).2.1))))]) rfl rfl rfl rfl rfl [0, 1, 2, 3, 4] rfl [(co, .inr (0, [.ref cg, .ref ct])), (cg, .inl (E.2.1, 10, .inl (aN ((cp ln lo (cit ln n lo j).1 (cit ln n lo j).2.1 i).1)))), (ct, .inl (E.2.1, 10, .inl (aO ((cp ln lo (cit ln n lo j).1 (cit ln n lo j).2.1 i).2.1)))), (o, .inr (2, [.ref a, .int (nI n)])), (a, .inl (E.2.1, 14, .inl (aN Cd)))] rfl rfl [.int (nI n), .int (nI i)] rfl 55 rfl ?_
        refine G_icmp_ge C dX0_solve_55 82 rfl 58 rfl (nI_leI (by omega) (by omega)) (fun h_3 => ?_) (fun h_3 => ?_)
        · refine G_iinc C dX0_solve_82 2 rfl (nI_1 _) (by decide) [(4, .int (nI (j + 1))), (3, .int (bI ((cp ln lo (cit ln n lo j).1 (cit ln n lo j).2.1 i).2.2))), (5, .int (nI i)), (0, .ref co), (1, .ref o), (2, .int (oI lo))] rfl 85 rfl ?_
          refine G_goto C dX0_solve_85 33 rfl ?_
          refine G_sel [1, 0, 3, 4, 5] [(3, .int (bI ((cp ln lo (cit ln n lo j).1 (cit ln n lo j).2.1 i).2.2))), (4, .int (nI (j + 1))), (0, .ref co), (1, .ref o), (2, .int (oI lo))] rfl ?_
          refine G_eq (ws' := [(co, .inr (0, [.ref cg, .ref ct])), (cg, .inl (E.2.1, 10, .inl (aN ((cit ln n lo (j + 1)).1)))), (ct, .inl (E.2.1, 10, .inl (aO ((cit ln n lo (j + 1)).2.1)))), (o, .inr (2, [.ref a, .int (nI n)])), (a, .inl (E.2.1, 14, .inl (aN Cd)))]) (L' := [(3, .int (bI ((cit ln n lo (j + 1)).2.2))), (4, .int (nI (j + 1))), (0, .ref co), (1, .ref o), (2, .int (oI lo))]) (by simp only [cit]; rw [if_pos (by simpa using h_2), show i = n by omega]) (by simp only [cit]; rw [if_pos (by simpa using h_2), show i = n by omega]) rfl ?_
          exact ihj (j + 1) (by omega) (by omega)
        · refine G_iload C dX0_solve_58 rfl 60 rfl ?_
          refine G_iload_n C dX0_solve_60 rfl 61 rfl ?_
          refine G_icmp_eq C dX0_solve_61 76 rfl 64 rfl (oI_eq (t := some i) (u := lo) (fun _ h => (by cases h; omega)) hlo) (fun h_4 => ?_) (fun h_4 => ?_)
          · refine G_iinc C dX0_solve_76 1 rfl (nI_1 _) (by decide) [(5, .int (nI (i + 1))), (3, .int (bI ((cp ln lo (cit ln n lo j).1 (cit ln n lo j).2.1 i).2.2))), (4, .int (nI j)), (0, .ref co), (1, .ref o), (2, .int (oI lo))] rfl 79 rfl ?_
            refine G_goto C dX0_solve_79 49 rfl ?_
            refine G_sel [1, 0, 2, 3, 4, 5] [(3, .int (bI ((cp ln lo (cit ln n lo j).1 (cit ln n lo j).2.1 i).2.2))), (5, .int (nI (i + 1))), (4, .int (nI j)), (0, .ref co), (1, .ref o), (2, .int (oI lo))] rfl ?_
            refine G_eq (ws' := [(co, .inr (0, [.ref cg, .ref ct])), (cg, .inl (E.2.1, 10, .inl (aN ((cp ln lo (cit ln n lo j).1 (cit ln n lo j).2.1 (i + 1)).1)))), (ct, .inl (E.2.1, 10, .inl (aO ((cp ln lo (cit ln n lo j).1 (cit ln n lo j).2.1 (i + 1)).2.1)))), (o, .inr (2, [.ref a, .int (nI n)])), (a, .inl (E.2.1, 14, .inl (aN Cd)))]) (L' := [(3, .int (bI ((cp ln lo (cit ln n lo j).1 (cit ln n lo j).2.1 (i + 1)).2.2))), (5, .int (nI (i + 1))), (4, .int (nI j)), (0, .ref co), (1, .ref o), (2, .int (oI lo))]) (by simp [cp, h_4]) (by simp [cp, h_4]) rfl ?_
            exact ih (i + 1) (by omega) (by omega)
          · refine G_aload_n C dX0_solve_64 rfl 65 rfl ?_
            refine G_aload_n C dX0_solve_65 rfl 66 rfl ?_
            refine G_iload C dX0_solve_66 rfl 68 rfl ?_
            refine G_cV C dX0_solve_68 (c_X0_apply l E co cg ct ((cp ln lo (cit ln n lo j).1 (cit ln n lo j).2.1 i).1) ((cp ln lo (cit ln n lo j).1 (cit ln n lo j).2.1 i).2.1) o a n Cd i (ln i) (cok_cp (cok_cit j).1 (cok_cit j).2 i).1 (cok_cp (cok_cit j).1 (cok_cit j).2 i).2 (by omega) (hok.c (by omega)) (hok.v (by omega))) wm_X0_43 wi_X0_apply wsel_X0_apply wn_X0 wc_X0_apply rfl rfl ⟨by decide, by decide, rfl⟩ rfl (Nat.le_of_ble_eq_true rfl) 0 rfl rfl 0 rfl [0, 1, 2, 3, 4] [] (wr := []) rfl rfl rfl rfl rfl [0, 1, 2, 3, 4] rfl [(co, .inr (0, [.ref cg, .ref ct])), (cg, .inl (E.2.1, 10, .inl (aN ((cst (ln i) ((cp ln lo (cit ln n lo j).1 (cit ln n lo j).2.1 i).1) ((cp ln lo (cit ln n lo j).1 (cit ln n lo j).2.1 i).2.1)).1)))), (ct, .inl (E.2.1, 10, .inl (aO ((cst (ln i) ((cp ln lo (cit ln n lo j).1 (cit ln n lo j).2.1 i).1) ((cp ln lo (cit ln n lo j).1 (cit ln n lo j).2.1 i).2.1)).2.1)))), (o, .inr (2, [.ref a, .int (nI n)])), (a, .inl (E.2.1, 14, .inl (aN Cd)))] rfl rfl [.int (bI ((cst (ln i) ((cp ln lo (cit ln n lo j).1 (cit ln n lo j).2.1 i).1) ((cp ln lo (cit ln n lo j).1 (cit ln n lo j).2.1 i).2.1)).2.2))] rfl 71 rfl ?_
            refine G_if_eq C dX0_solve_71 76 rfl 74 rfl (bI_0 _) (fun h_5 => ?_) (fun h_5 => ?_)
            · refine G_iinc C dX0_solve_76 1 rfl (nI_1 _) (by decide) [(5, .int (nI (i + 1))), (3, .int (bI ((cp ln lo (cit ln n lo j).1 (cit ln n lo j).2.1 i).2.2))), (4, .int (nI j)), (0, .ref co), (1, .ref o), (2, .int (oI lo))] rfl 79 rfl ?_
              refine G_goto C dX0_solve_79 49 rfl ?_
              refine G_sel [1, 0, 2, 3, 4, 5] [(3, .int (bI ((cp ln lo (cit ln n lo j).1 (cit ln n lo j).2.1 i).2.2))), (5, .int (nI (i + 1))), (4, .int (nI j)), (0, .ref co), (1, .ref o), (2, .int (oI lo))] rfl ?_
              refine G_eq (ws' := [(co, .inr (0, [.ref cg, .ref ct])), (cg, .inl (E.2.1, 10, .inl (aN ((cp ln lo (cit ln n lo j).1 (cit ln n lo j).2.1 (i + 1)).1)))), (ct, .inl (E.2.1, 10, .inl (aO ((cp ln lo (cit ln n lo j).1 (cit ln n lo j).2.1 (i + 1)).2.1)))), (o, .inr (2, [.ref a, .int (nI n)])), (a, .inl (E.2.1, 14, .inl (aN Cd)))]) (L' := [(3, .int (bI ((cp ln lo (cit ln n lo j).1 (cit ln n lo j).2.1 (i + 1)).2.2))), (5, .int (nI (i + 1))), (4, .int (nI j)), (0, .ref co), (1, .ref o), (2, .int (oI lo))]) (by simp [cp, h_4]) (by simp [cp, h_4, h_5, bI]) rfl ?_
              exact ih (i + 1) (by omega) (by omega)
            · refine G_iconst C dX0_solve_74 (v := nI 1) rfl 75 rfl ?_
              refine G_istore_n C dX0_solve_75 (by decide) [(3, .int (nI 1)), (5, .int (nI i)), (4, .int (nI j)), (0, .ref co), (1, .ref o), (2, .int (oI lo))] rfl 76 rfl ?_
              refine G_iinc C dX0_solve_76 1 rfl (nI_1 _) (by decide) [(5, .int (nI (i + 1))), (3, .int (nI 1)), (4, .int (nI j)), (0, .ref co), (1, .ref o), (2, .int (oI lo))] rfl 79 rfl ?_
              refine G_goto C dX0_solve_79 49 rfl ?_
              refine G_sel [1, 0, 2, 3, 4, 5] [(3, .int (nI 1)), (5, .int (nI (i + 1))), (4, .int (nI j)), (0, .ref co), (1, .ref o), (2, .int (oI lo))] rfl ?_
              refine G_eq (ws' := [(co, .inr (0, [.ref cg, .ref ct])), (cg, .inl (E.2.1, 10, .inl (aN ((cp ln lo (cit ln n lo j).1 (cit ln n lo j).2.1 (i + 1)).1)))), (ct, .inl (E.2.1, 10, .inl (aO ((cp ln lo (cit ln n lo j).1 (cit ln n lo j).2.1 (i + 1)).2.1)))), (o, .inr (2, [.ref a, .int (nI n)])), (a, .inl (E.2.1, 14, .inl (aN Cd)))]) (L' := [(3, .int (bI ((cp ln lo (cit ln n lo j).1 (cit ln n lo j).2.1 (i + 1)).2.2))), (5, .int (nI (i + 1))), (4, .int (nI j)), (0, .ref co), (1, .ref o), (2, .int (oI lo))]) (by simp [cp, h_4]) (by simp [cp, h_4, h_5, bI]) rfl ?_
              exact ih (i + 1) (by omega) (by omega)
  · refine G_aload_n C dX0_solve_8 rfl 9 rfl ?_
    refine G_getf C dX0_solve_9 wF_X0 wf_X0_9 (f := 0) (by decide) (ci := 0) rfl 0 rfl rfl 12 rfl ?_
    refine G_iload_n C dX0_solve_12 rfl 13 rfl ?_
    refine G_iload_n C dX0_solve_13 rfl 14 rfl ?_
    refine G_iastN C dX0_solve_14 1 rfl rfl (x := x) (by omega) [(co, .inr (0, [.ref cg, .ref ct])), (cg, .inl (E.2.1, 10, .inl (aN (va_up (flG (fun k => k) Gp x) x x)))), (ct, .inl (E.2.1, 10, .inl (aO (flG (fun _ => none) Tt x)))), (o, .inr (2, [.ref a, .int (nI n)])), (a, .inl (E.2.1, 14, .inl (aN Cd)))] rfl 15 rfl ?_
    refine G_aload_n C dX0_solve_15 rfl 16 rfl ?_
    refine G_getf C dX0_solve_16 wF_X0 wf_X0_15 (f := 1) (by decide) (ci := 0) rfl 0 rfl rfl 19 rfl ?_
    refine G_iload_n C dX0_solve_19 rfl 20 rfl ?_
    refine G_iconst C dX0_solve_20 (v := oI none) rfl 21 rfl ?_
    refine G_iastO C dX0_solve_21 2 rfl rfl (x := none) (by omega) [(co, .inr (0, [.ref cg, .ref ct])), (cg, .inl (E.2.1, 10, .inl (aN (va_up (flG (fun k => k) Gp x) x x)))), (ct, .inl (E.2.1, 10, .inl (aO (va_up (flG (fun _ => none) Tt x) x none)))), (o, .inr (2, [.ref a, .int (nI n)])), (a, .inl (E.2.1, 14, .inl (aN Cd)))] rfl 22 rfl ?_
    refine G_iinc C dX0_solve_22 0 rfl (nI_1 _) (by decide) [(3, .int (nI (x + 1))), (0, .ref co), (1, .ref o), (2, .int (oI lo))] rfl 25 rfl ?_
    refine G_goto C dX0_solve_25 2 rfl ?_
    refine G_eq (ws' := [(co, .inr (0, [.ref cg, .ref ct])), (cg, .inl (E.2.1, 10, .inl (aN (flG (fun k => k) Gp (x + 1))))), (ct, .inl (E.2.1, 10, .inl (aO (flG (fun _ => none) Tt (x + 1))))), (o, .inr (2, [.ref a, .int (nI n)])), (a, .inl (E.2.1, 14, .inl (aN Cd)))]) (by rw [flG_s (fun k => k) Gp x, flG_s (fun _ => none) Tt x]) rfl rfl ?_
    exact ihx (x + 1) (by omega) (by omega)
end
section
-- runs
abbrev rQ : Type := (Nat → Option Nat) × (Nat → Nat) × Nat
def rpV (Ev : Nat → Nat) (x : Nat) : Option Nat → (Nat → Nat)
  | none => Ev
  | some g => va_up Ev x (Ev x ||| 2 ^ g)
def rld (q : rQ) (x : Nat) : Option Nat → rQ
  | none => (q.1, q.2.1, q.2.2 + 1)
  | some g => (va_up q.1 x (q.1 g), rpV q.2.1 x (q.1 g), q.2.2)
def rsto (q : rQ) (t : Option Nat) : Option Nat → rQ
  | none => (q.1, q.2.1, q.2.2 + 1)
  | some g => (va_up q.1 g t, rpV q.2.1 g t, q.2.2)
def rst (v : Nat) (q : rQ) : rQ :=
  if v / 100 = 0 then (va_up q.1 (v / 10 % 10) (some (v % 10)), rpV q.2.1 (v / 10 % 10) (some (v % 10)), q.2.2)
  else if v / 100 = 1 then (va_up q.1 (v / 10 % 10) (q.1 (v % 10)), rpV q.2.1 (v / 10 % 10) (q.1 (v % 10)), q.2.2)
  else if v / 100 = 2 then rld q (v / 10 % 10) (q.1 (v % 10))
  else rsto q (q.1 (v % 10)) (q.1 (v / 10 % 10))
def rr (ln : Nat → Nat) (n : Nat) : Nat → rQ
  | 0 => (fun _ => none, fun _ => 0, 0)
  | k + 1 => rst (ln (k % n)) (rr ln n k)
theorem tok_rld {q : rQ} (h : tok q.1) (x : Nat) {t : Option Nat} (ht : ook t) : tok (rld q x t).1 := by
  cases t with
  | none => exact h
  | some g => exact tok_up h (h g (ht g rfl))
theorem tok_rsto {q : rQ} (h : tok q.1) {t : Option Nat} (ht : ook t) (u : Option Nat) : tok (rsto q t u).1 := by
  cases u with
  | none => exact h
  | some g => exact tok_up h ht
theorem tok_rst {q : rQ} (h : tok q.1) (v : Nat) : tok (rst v q).1 := by
  have hx : v / 10 % 10 < 10 := by omega
  have hy : v % 10 < 10 := by omega
  unfold rst
  by_cases h0 : v / 100 = 0
  · rw [if_pos h0]; exact tok_up h (ook_s hy)
  · rw [if_neg h0]
    by_cases h1 : v / 100 = 1
    · rw [if_pos h1]; exact tok_up h (h _ hy)
    · rw [if_neg h1]
      by_cases h2 : v / 100 = 2
      · rw [if_pos h2]; exact tok_rld h _ (h _ hy)
      · rw [if_neg h2]; exact tok_rsto h (h _ hy) _
theorem tok_rr {ln : Nat → Nat} {n : Nat} : ∀ k, tok (rr ln n k).1
  | 0 => fun _ _ => ook_n
  | k + 1 => tok_rst (tok_rr k) _
theorem rr_s {ln : Nat → Nat} {n r i : Nat} (h : i < n) : rr ln n (r * n + (i + 1)) = rst (ln i) (rr ln n (r * n + i)) := by
  show rst (ln ((r * n + i) % n)) _ = _
  rw [Nat.mul_comm, Nat.mul_add_mod, Nat.mod_eq_of_lt h]; rfl
-- states
def rotA (Ha : Nat → Nat) : Nat → Nat := fun j => if j < 4 then Ha (j + 1) else Ha 0
def kA (sn : Nat) (Ha : Nat → Nat) : Nat → Nat := if sn = 5 then rotA Ha else Ha
def kN (sn : Nat) (NS : Nat → Nat) (nn : Nat) : Nat → Nat := if sn = 5 then (fun j => if j < 4 then NS (j + 1) else nn) else va_up NS sn nn
def kC (sn : Nat) (CS : Nat → Nat → Nat) (Cn : Nat → Nat) (nn : Nat) : Nat → Nat → Nat := if sn = 5 then (fun j => if j < 4 then CS (j + 1) else cpN Cn (CS 0) nn) else va_up CS sn (cpN Cn (CS sn) nn)
def kS (sn : Nat) : Nat := if sn = 5 then 5 else sn + 1
-- texts
def fld (c : Nat) : Int32 := nI c - nI 97
def nmc (c : Nat) : Bool := decide (97 ≤ c ∧ c < 107)
theorem inb_fld : ∀ c, c < 128 → inb (fld c) 10 = nmc c := by decide +kernel
theorem fld_nm {c : Nat} (h : nmc c = true) : fld c = nI (c - 97) := by
  unfold nmc at h; unfold fld
  exact pk_sub (by simpa using (of_decide_eq_true h).1)
theorem nmc_of {c : Nat} (h : nmc c = true) : 97 ≤ c ∧ c < 107 := of_decide_eq_true h
abbrev pS : Type := Nat × Nat × Nat × Nat × Nat × (Nat → Nat)
/-- a byte behind a step (no blank): the step, the sort, the bytes of x and y, the lines -/
def pstep (q : pS) (c : Nat) : pS :=
  if q.1 = 0 then
    if 14 ≤ q.2.2.2.2.1 then (6, q.2)
    else if c = 42 then (1, 3, q.2.2) else ((if nmc c = true then 2 else 6), 1, c, q.2.2.2)
  else if q.1 = 1 then ((if nmc c = true then 2 else 6), q.2.1, c, q.2.2.2)
  else if q.1 = 2 then (if c = 61 then ((if q.2.1 = 3 then 4 else 3), q.2) else (6, q.2))
  else if q.1 = 3 then (if c = 38 then (4, 0, q.2.2) else if c = 42 then (4, 2, q.2.2) else ((if nmc c = true then 5 else 6), q.2.1, q.2.2.1, c, q.2.2.2.2))
  else if q.1 = 4 then ((if nmc c = true then 5 else 6), q.2.1, q.2.2.1, c, q.2.2.2.2)
  else (if c = 59 then (0, q.2.1, q.2.2.1, q.2.2.2.1, q.2.2.2.2.1 + 1, va_up q.2.2.2.2.2 q.2.2.2.2.1 (ce (100 * q.2.1 + 10 * (q.2.2.1 - 97) + (q.2.2.2.1 - 97)))) else (6, q.2))
def pk (q0 : pS) (Bt : Nat → Nat) : Nat → pS
  | 0 => q0
  | k + 1 => if Bt k = 32 then pk q0 Bt k else pstep (pk q0 Bt k) (Bt k)
def pflt (q0 : pS) (Bt : Nat → Nat) : Nat → Option Nat
  | 0 => none
  | k + 1 => match pflt q0 Bt k with
    | some f => some f
    | none => if (pk q0 Bt (k + 1)).1 = 6 then some k else none
def pres (q0 : pS) (Bt : Nat → Nat) (len : Nat) : Option Nat := match pflt q0 Bt len with
  | some f => some f
  | none => if (pk q0 Bt len).1 = 0 then none else some len
def pend (q0 : pS) (Bt : Nat → Nat) (len : Nat) : Nat := match pflt q0 Bt len with
  | some f => f + 1
  | none => len
theorem pflt_stay {q0 : pS} {Bt : Nat → Nat} {k f : Nat} (h : pflt q0 Bt k = some f) : ∀ d, pflt q0 Bt (k + d) = some f
  | 0 => h
  | d + 1 => by
    show pflt q0 Bt (k + d + 1) = _
    simp only [pflt]
    rw [pflt_stay h d]
/-- a state of the reading that the class may meet -/
def pv (q : pS) : Prop := q.1 ≤ 5 ∧ q.2.2.2.2.1 ≤ 14 ∧ q.2.1 < 4 ∧ (2 ≤ q.1 → nmc q.2.2.1 = true) ∧ (5 ≤ q.1 → nmc q.2.2.2.1 = true) ∧ (1 ≤ q.1 → q.2.2.2.2.1 < 14)
theorem pv_step {q : pS} (h : pv q) {c : Nat} (h6 : ¬ (pstep q c).1 = 6) : pv (pstep q c) := by
  obtain ⟨stp, sr, cx, cy, n, Cd⟩ := q
  obtain ⟨h1, h2, h3, h4, h5, h7⟩ := h
  simp only at h1 h2 h3 h4 h5 h7
  unfold pstep at h6 ⊢
  simp only at h6 ⊢
  split at h6
  · rename_i e
    rw [if_pos e]
    split at h6
    · exact absurd rfl h6
    · rename_i e2
      rw [if_neg e2]
      split at h6
      · rename_i e3
        rw [if_pos e3]
        refine ⟨?_, ?_, ?_, ?_, ?_, ?_⟩ <;> simp only <;> omega
      · rename_i e3
        rw [if_neg e3]
        by_cases hn : nmc c = true
        · simp only [hn, if_true] at h6 ⊢
          refine ⟨?_, ?_, ?_, ?_, ?_, ?_⟩ <;> simp only <;> first | omega | exact fun _ => hn
        · simp [hn] at h6
  · rename_i e
    rw [if_neg e]
    split at h6
    · rename_i e1
      rw [if_pos e1]
      by_cases hn : nmc c = true
      · simp only [hn, if_true] at h6 ⊢
        refine ⟨?_, ?_, ?_, ?_, ?_, ?_⟩ <;> simp only <;> first | omega | exact fun _ => hn
      · simp [hn] at h6
    · rename_i e1
      rw [if_neg e1]
      split at h6
      · rename_i e2
        rw [if_pos e2]
        split at h6
        · rename_i e3
          rw [if_pos e3]
          have hcx := h4 (by omega)
          have hn14 := h7 (by omega)
          refine ⟨?_, ?_, ?_, ?_, ?_, ?_⟩ <;> simp only
          · split <;> omega
          · omega
          · omega
          · exact fun _ => hcx
          · split <;> omega
          · exact fun _ => hn14
        · exact absurd rfl h6
      · rename_i e2
        rw [if_neg e2]
        split at h6
        · rename_i e3
          rw [if_pos e3]
          have hcx := h4 (by omega)
          have hn14 := h7 (by omega)
          split at h6
          · rename_i e4
            rw [if_pos e4]
            refine ⟨?_, ?_, ?_, ?_, ?_, ?_⟩ <;> simp only <;> first | omega | exact fun _ => hcx | exact fun _ => hn14
          · rename_i e4
            rw [if_neg e4]
            split at h6
            · rename_i e5
              rw [if_pos e5]
              refine ⟨?_, ?_, ?_, ?_, ?_, ?_⟩ <;> simp only <;> first | omega | exact fun _ => hcx | exact fun _ => hn14
            · rename_i e5
              rw [if_neg e5]
              by_cases hn : nmc c = true
              · simp only [hn, if_true] at h6 ⊢
                refine ⟨?_, ?_, ?_, ?_, ?_, ?_⟩ <;> simp only <;> first | omega | exact fun _ => hcx | exact fun _ => hn14 | exact fun _ => hn
              · simp [hn] at h6
        · rename_i e3
          rw [if_neg e3]
          split at h6
          · rename_i e4
            rw [if_pos e4]
            have hcx := h4 (by omega)
            have hn14 := h7 (by omega)
            by_cases hn : nmc c = true
            · simp only [hn, if_true] at h6 ⊢
              refine ⟨?_, ?_, ?_, ?_, ?_, ?_⟩ <;> simp only <;> first | omega | exact fun _ => hcx | exact fun _ => hn14 | exact fun _ => hn
            · simp [hn] at h6
          · rename_i e4
            rw [if_neg e4]
            have hn14 := h7 (by omega)
            split at h6
            · rename_i e5
              rw [if_pos e5]
              refine ⟨?_, ?_, ?_, ?_, ?_, ?_⟩ <;> simp only <;> omega
            · exact absurd rfl h6
theorem pv_pk {q0 : pS} (h : pv q0) {Bt : Nat → Nat} : ∀ k, pflt q0 Bt k = none → pv (pk q0 Bt k)
  | 0, _ => h
  | k + 1, hf => by
    simp only [pflt] at hf
    cases e : pflt q0 Bt k with
    | some f => rw [e] at hf; cases hf
    | none =>
      rw [e] at hf
      have h1 := pv_pk h (Bt := Bt) k e
      have h6 : ¬ (pk q0 Bt (k + 1)).1 = 6 := fun h6 => by simp only [h6, if_true] at hf; cases hf
      simp only [pk] at h6 ⊢
      by_cases hb : Bt k = 32
      · rw [if_pos hb]; exact h1
      · rw [if_neg hb] at h6 ⊢; exact pv_step h1 h6
theorem pflt_s {q0 : pS} {Bt : Nat → Nat} {k : Nat} (h : pflt q0 Bt k = none) (h6 : ¬ (pk q0 Bt (k + 1)).1 = 6) : pflt q0 Bt (k + 1) = none := by
  simp only [pflt, h, if_neg h6]
theorem pflt_f {q0 : pS} {Bt : Nat → Nat} {k : Nat} (h : pflt q0 Bt k = none) (h6 : (pk q0 Bt (k + 1)).1 = 6) : pflt q0 Bt (k + 1) = some k := by
  simp only [pflt, h, if_pos h6]
end
section
theorem P_congR {D : va_G} {cl : List vw_C} {ws : va_W} {H : Heap} {A : Nat → Prop} (hP : va_P D cl ws H) (hD : va_D A ws) {q0 a n : Nat} {cA : ClassId} {f g : Nat → Option Nat} (ha : ws[q0]? = some (a, .inl (cA, n, .inr (.inr (.inr (.inr f)))))) (h : ∀ k, k < n → f k = g k) : va_P D cl (ws.set q0 (a, .inl (cA, n, .inr (.inr (.inr (.inr g)))))) H ∧ va_D A (ws.set q0 (a, .inl (cA, n, .inr (.inr (.inr (.inr g)))))) := by
  refine ⟨va_P.set hP hD ha ?_ (fun _ _ => rfl), va_D.set hD ha⟩
  have h1 : va_at D cl (a, .inl (cA, n, .inr (.inr (.inr (.inr f))))) H := hP q0 _ ha
  show H[a]? = some (vp_cell cA (n, .inr (.inr (.inr (.inr g)))))
  have h2 : H[a]? = some (vp_cell cA (n, .inr (.inr (.inr (.inr f))))) := h1
  rw [h2, vp_cell_q, vp_cell_q, arrV_cong cA (fun k hk => by rw [h k hk])]
section GR4
variable {E : gE} {p : Program} {l : Launch} {e : Env} {R : Room} {s : State} {m : MethodId} {args : Array Value} {below : List Frame} {meth : Method} {c : Code} {cc : ByteArray} {nL : Nat} {own : String} {A : Nat → Prop} {k n : Nat} {Q : State → Prop} {ws : va_W} {pc : Nat} {L : List (Nat × Value)} {st : List Value}
theorem G_congR (q0 : Nat) {a len : Nat} {f : Nat → Option Nat} (g : Nat → Option Nat) (ha : ws[q0]? = some (a, .inl (E.2.2, len, .inr (.inr (.inr (.inr f)))))) (h : ∀ j, j < len → f j = g j) (ws' : va_W) (hw : ws.set q0 (a, .inl (E.2.2, len, .inr (.inr (.inr (.inr g))))) = ws') (kk : G E p l e R s m args below meth c nL A k n Q ws' pc L st) : G E p l e R s m args below meth c nL A k n Q ws pc L st := by
  subst hw
  exact fun H locs hP hD hS ls hl => kk H locs (P_congR hP hD ha h).1 (P_congR hP hD ha h).2 hS ls hl
theorem G_perm (is : List Nat) (hn : va_nd is = true) (ws' : va_W) (hs : is.map (fun i => ws[i]?) = ws'.map some) (kk : G E p l e R s m args below meth c nL A k n Q ws' pc L st) : G E p l e R s m args below meth c nL A k n Q ws pc L st :=
  fun H locs hP hD hS ls hl => kk H locs (P_map hP is hs) (hD.sub is hn hs) hS ls hl
end GR4
end
section
set_option maxHeartbeats 4000000 in
set_option maxRecDepth 100000 in
theorem c_X3_endOf (l : Launch) (E : gE) (ro re rv : Nat) (En : Nat → Option Nat) (Ev : Nat → Nat) (ms : Nat) (x : Nat) (hx : x < 10) : FD l E yX3_endOf cX3_endOf 2 (some .int) { frames := 0, cells := 0, slots := 0, locals := 0 } [.ref ro, .int (nI x)] [(ro, .inr (3, [.ref re, .ref rv, .int (nI ms)])), (re, .inl (E.2.1, 10, .inl (aO En))), (rv, .inl (E.2.1, 10, .inl (aN Ev)))] (some (.int (oI (En x)))) [(ro, .inr (3, [.ref re, .ref rv, .int (nI ms)])), (re, .inl (E.2.1, 10, .inl (aO En))), (rv, .inl (E.2.1, 10, .inl (aN Ev)))] := by
  refine Fn_ofL (own := RX3) (by decide) rfl rfl [(0, .ref ro), (1, .int (nI x))] rfl ?_
  intro p e s m below meth c A C hr hnm
  refine G_aload_n C dX3_endOf_0 rfl 1 rfl ?_
  refine G_getf C dX3_endOf_1 wF_X3 wf_X3_9 (f := 0) (by decide) (ci := 3) rfl 0 rfl rfl 4 rfl ?_
  refine G_iload_n C dX3_endOf_4 rfl 5 rfl ?_
  refine G_ialdO C dX3_endOf_5 1 rfl rfl (by omega) 6 rfl ?_
  exact G_iret C hr dX3_endOf_6 rfl () trivial rfl rfl

set_option maxHeartbeats 4000000 in
set_option maxRecDepth 100000 in
theorem c_X3_everOf (l : Launch) (E : gE) (ro re rv : Nat) (En : Nat → Option Nat) (Ev : Nat → Nat) (ms : Nat) (x : Nat) (hx : x < 10) : FD l E yX3_everOf cX3_everOf 2 (some .int) { frames := 0, cells := 0, slots := 0, locals := 0 } [.ref ro, .int (nI x)] [(ro, .inr (3, [.ref re, .ref rv, .int (nI ms)])), (re, .inl (E.2.1, 10, .inl (aO En))), (rv, .inl (E.2.1, 10, .inl (aN Ev)))] (some (.int (nI (Ev x)))) [(ro, .inr (3, [.ref re, .ref rv, .int (nI ms)])), (re, .inl (E.2.1, 10, .inl (aO En))), (rv, .inl (E.2.1, 10, .inl (aN Ev)))] := by
  refine Fn_ofL (own := RX3) (by decide) rfl rfl [(0, .ref ro), (1, .int (nI x))] rfl ?_
  intro p e s m below meth c A C hr hnm
  refine G_aload_n C dX3_everOf_0 rfl 1 rfl ?_
  refine G_getf C dX3_everOf_1 wF_X3 wf_X3_15 (f := 1) (by decide) (ci := 3) rfl 0 rfl rfl 4 rfl ?_
  refine G_iload_n C dX3_everOf_4 rfl 5 rfl ?_
  refine G_ialdN C dX3_everOf_5 2 rfl rfl (by omega) 6 rfl ?_
  exact G_iret C hr dX3_everOf_6 rfl () trivial rfl rfl

set_option maxHeartbeats 4000000 in
set_option maxRecDepth 100000 in
theorem c_X3_missed (l : Launch) (E : gE) (ro re rv : Nat) (En : Nat → Option Nat) (Ev : Nat → Nat) (ms : Nat)  : FD l E yX3_missed cX3_missed 1 (some .int) { frames := 0, cells := 0, slots := 0, locals := 0 } [.ref ro] [(ro, .inr (3, [.ref re, .ref rv, .int (nI ms)])), (re, .inl (E.2.1, 10, .inl (aO En))), (rv, .inl (E.2.1, 10, .inl (aN Ev)))] (some (.int (nI ms))) [(ro, .inr (3, [.ref re, .ref rv, .int (nI ms)])), (re, .inl (E.2.1, 10, .inl (aO En))), (rv, .inl (E.2.1, 10, .inl (aN Ev)))] := by
  refine Fn_ofL (own := RX3) (by decide) rfl rfl [(0, .ref ro)] rfl ?_
  intro p e s m below meth c A C hr hnm
  refine G_aload_n C dX3_missed_0 rfl 1 rfl ?_
  refine G_getf C dX3_missed_1 wF_X3 wf_X3_18 (f := 2) (by decide) (ci := 3) rfl 0 rfl rfl 4 rfl ?_
  exact G_iret C hr dX3_missed_4 rfl () trivial rfl rfl

set_option maxHeartbeats 4000000 in
set_option maxRecDepth 100000 in
theorem c_X3_point (l : Launch) (E : gE) (ro re rv : Nat) (En : Nat → Option Nat) (Ev : Nat → Nat) (ms : Nat) (x : Nat) (t : Option Nat) (hx : x < 10) (ht : ook t) : FD l E yX3_point cX3_point 3 none { frames := 1, cells := 0, slots := 0, locals := 20 } [.ref ro, .int (nI x), .int (oI t)] [(ro, .inr (3, [.ref re, .ref rv, .int (nI ms)])), (re, .inl (E.2.1, 10, .inl (aO En))), (rv, .inl (E.2.1, 10, .inl (aN Ev)))] none [(ro, .inr (3, [.ref re, .ref rv, .int (nI ms)])), (re, .inl (E.2.1, 10, .inl (aO (va_up En x t)))), (rv, .inl (E.2.1, 10, .inl (aN (rpV Ev x t))))] := by
  refine Fn_ofL (own := RX3) (by decide) rfl rfl [(0, .ref ro), (1, .int (nI x)), (2, .int (oI t))] rfl ?_
  intro p e s m below meth c A C hr hnm
  cases t with
  | none =>
    refine G_aload_n C dX3_point_0 rfl 1 rfl ?_
    refine G_getf C dX3_point_1 wF_X3 wf_X3_9 (f := 0) (by decide) (ci := 3) rfl 0 rfl rfl 4 rfl ?_
    refine G_iload_n C dX3_point_4 rfl 5 rfl ?_
    refine G_iload_n C dX3_point_5 rfl 6 rfl ?_
    refine G_iastO C dX3_point_6 1 rfl rfl (x := none) (by omega) [(ro, .inr (3, [.ref re, .ref rv, .int (nI ms)])), (re, .inl (E.2.1, 10, .inl (aO (va_up En x none)))), (rv, .inl (E.2.1, 10, .inl (aN Ev)))] rfl 7 rfl ?_
    refine G_iload_n C dX3_point_7 rfl 8 rfl ?_
    refine G_iconst C dX3_point_8 (v := oI none) rfl 9 rfl ?_
    refine G_icmp_eq_t C dX3_point_9 25 rfl rfl ?_
    exact G_vret C hr dX3_point_25 () trivial rfl rfl
  | some g =>
    have hg : g < 10 := ht g rfl
    refine G_eq (ws' := [(ro, .inr (3, [.ref re, .ref rv, .int (nI ms)])), (re, .inl (E.2.1, 10, .inl (aO En))), (rv, .inl (E.2.1, 10, .inl (aN Ev)))]) (L' := [(0, .ref ro), (1, .int (nI x)), (2, .int (nI g))]) rfl rfl rfl ?_
    refine G_aload_n C dX3_point_0 rfl 1 rfl ?_
    refine G_getf C dX3_point_1 wF_X3 wf_X3_9 (f := 0) (by decide) (ci := 3) rfl 0 rfl rfl 4 rfl ?_
    refine G_iload_n C dX3_point_4 rfl 5 rfl ?_
    refine G_iload_n C dX3_point_5 rfl 6 rfl ?_
    refine G_iastO C dX3_point_6 1 rfl rfl (x := some g) (by omega) [(ro, .inr (3, [.ref re, .ref rv, .int (nI ms)])), (re, .inl (E.2.1, 10, .inl (aO (va_up En x (some g))))), (rv, .inl (E.2.1, 10, .inl (aN Ev)))] rfl 7 rfl ?_
    refine G_iload_n C dX3_point_7 rfl 8 rfl ?_
    refine G_iconst C dX3_point_8 (v := oI none) rfl 9 rfl ?_
    refine G_icmp_eq_f C dX3_point_9 25 rfl 12 rfl (oI_ne (by omega)) ?_
    refine G_aload_n C dX3_point_12 rfl 13 rfl ?_
    refine G_getf C dX3_point_13 wF_X3 wf_X3_15 (f := 1) (by decide) (ci := 3) rfl 0 rfl rfl 16 rfl ?_
    refine G_iload_n C dX3_point_16 rfl 17 rfl ?_
    refine G_dup2 C dX3_point_17 rfl rfl 18 rfl ?_
    refine G_ialdN C dX3_point_18 2 rfl rfl (by omega) 19 rfl ?_
    refine G_iload_n C dX3_point_19 rfl 20 rfl ?_
    refine G_cSN C dX3_point_20 (c_X6_bit l E g (by first | assumption | omega)) wq_X3_58 wt_X6_bit wn_X6 wc_X6_bit rfl rfl ⟨by decide, by decide, rfl⟩ rfl (Nat.le_of_ble_eq_true rfl) [] [0, 1, 2] (wr := [(ro, .inr (3, [.ref re, .ref rv, .int (nI ms)])), (re, .inl (E.2.1, 10, .inl (aO (va_up En x (some g))))), (rv, .inl (E.2.1, 10, .inl (aN Ev)))]) rfl rfl rfl rfl rfl [0, 1, 2] rfl [(ro, .inr (3, [.ref re, .ref rv, .int (nI ms)])), (re, .inl (E.2.1, 10, .inl (aO (va_up En x (some g))))), (rv, .inl (E.2.1, 10, .inl (aN Ev)))] rfl rfl [.int (nI (2 ^ g)), .int (nI (Ev x)), .int (nI x), .ref rv] rfl 23 rfl ?_
    refine G_ior C dX3_point_23 (v := nI ((Ev x) ||| (2 ^ g))) (fa_or _ _) 24 rfl ?_
    refine G_iastN C dX3_point_24 2 rfl rfl (x := (Ev x) ||| (2 ^ g)) (by omega) [(ro, .inr (3, [.ref re, .ref rv, .int (nI ms)])), (re, .inl (E.2.1, 10, .inl (aO (va_up En x (some g))))), (rv, .inl (E.2.1, 10, .inl (aN (va_up Ev x ((Ev x) ||| (2 ^ g))))))] rfl 25 rfl ?_
    exact G_vret C hr dX3_point_25 () trivial rfl rfl

set_option maxHeartbeats 4000000 in
set_option maxRecDepth 100000 in
theorem c_X3_load (l : Launch) (E : gE) (ro re rv : Nat) (En : Nat → Option Nat) (Ev : Nat → Nat) (ms : Nat) (x : Nat) (t : Option Nat) (hE : tok En) (hx : x < 10) (ht : ook t) : FD l E yX3_load cX3_load 3 none { frames := 2, cells := 0, slots := 0, locals := 42 } [.ref ro, .int (nI x), .int (oI t)] [(ro, .inr (3, [.ref re, .ref rv, .int (nI ms)])), (re, .inl (E.2.1, 10, .inl (aO En))), (rv, .inl (E.2.1, 10, .inl (aN Ev)))] none [(ro, .inr (3, [.ref re, .ref rv, .int (nI ((rld (En, Ev, ms) x t).2.2))])), (re, .inl (E.2.1, 10, .inl (aO ((rld (En, Ev, ms) x t).1)))), (rv, .inl (E.2.1, 10, .inl (aN ((rld (En, Ev, ms) x t).2.1))))] := by
  refine Fn_ofL (own := RX3) (by decide) rfl rfl [(0, .ref ro), (1, .int (nI x)), (2, .int (oI t))] rfl ?_
  intro p e s m below meth c A C hr hnm
  cases t with
  | none =>
    refine G_iload_n C dX3_load_0 rfl 1 rfl ?_
    refine G_iconst C dX3_load_1 (v := oI none) rfl 2 rfl ?_
    refine G_icmp_ne_f C dX3_load_2 18 rfl 5 rfl rfl ?_
    refine G_aload_n C dX3_load_5 rfl 6 rfl ?_
    refine G_dup C dX3_load_6 rfl 7 rfl ?_
    refine G_getf C dX3_load_7 wF_X3 wf_X3_18 (f := 2) (by decide) (ci := 3) rfl 0 rfl rfl 10 rfl ?_
    refine G_iconst C dX3_load_10 (v := nI 1) rfl 11 rfl ?_
    refine G_iadd C dX3_load_11 (v := nI (ms + 1)) (nI_add _ _) 12 rfl ?_
    refine G_putf C dX3_load_12 wF_X3 wf_X3_18 (f := 2) (by decide) (ci := 3) rfl tyX3_ok nmX3 rfl 0 rfl rfl rfl (Nat.le_of_ble_eq_true rfl) [(ro, .inr (3, [.ref re, .ref rv, .int (nI (ms + 1))])), (re, .inl (E.2.1, 10, .inl (aO En))), (rv, .inl (E.2.1, 10, .inl (aN Ev)))] rfl 15 rfl ?_
    refine G_goto C dX3_load_15 29 rfl ?_
    exact G_vret C hr dX3_load_29 () trivial rfl rfl
  | some g =>
    have hg : g < 10 := ht g rfl
    refine G_eq (ws' := [(ro, .inr (3, [.ref re, .ref rv, .int (nI ms)])), (re, .inl (E.2.1, 10, .inl (aO En))), (rv, .inl (E.2.1, 10, .inl (aN Ev)))]) (L' := [(0, .ref ro), (1, .int (nI x)), (2, .int (nI g))]) rfl rfl rfl ?_
    refine G_iload_n C dX3_load_0 rfl 1 rfl ?_
    refine G_iconst C dX3_load_1 (v := oI none) rfl 2 rfl ?_
    refine G_icmp_ne_t C dX3_load_2 18 rfl (oI_ne (by omega)) ?_
    refine G_aload_n C dX3_load_18 rfl 19 rfl ?_
    refine G_iload_n C dX3_load_19 rfl 20 rfl ?_
    refine G_aload_n C dX3_load_20 rfl 21 rfl ?_
    refine G_getf C dX3_load_21 wF_X3 wf_X3_9 (f := 0) (by decide) (ci := 3) rfl 0 rfl rfl 24 rfl ?_
    refine G_iload_n C dX3_load_24 rfl 25 rfl ?_
    refine G_ialdO C dX3_load_25 1 rfl rfl (by omega) 26 rfl ?_
    refine G_cV C dX3_load_26 (c_X3_point l E ro re rv En Ev ms x (En g) (by first | assumption | omega) (hE g hg)) wm_X3_48 wi_X3_point wsel_X3_point wn_X3 wc_X3_point rfl rfl ⟨by decide, by decide, rfl⟩ rfl (Nat.le_of_ble_eq_true rfl) 3 rfl rfl 0 rfl [0, 1, 2] [] (wr := []) rfl rfl rfl rfl rfl [0, 1, 2] rfl [(ro, .inr (3, [.ref re, .ref rv, .int (nI ms)])), (re, .inl (E.2.1, 10, .inl (aO (va_up En x (En g))))), (rv, .inl (E.2.1, 10, .inl (aN (rpV Ev x (En g)))))] rfl rfl [] rfl 29 rfl ?_
    exact G_vret C hr dX3_load_29 () trivial rfl rfl

set_option maxHeartbeats 4000000 in
set_option maxRecDepth 100000 in
theorem c_X3_store (l : Launch) (E : gE) (ro re rv : Nat) (En : Nat → Option Nat) (Ev : Nat → Nat) (ms : Nat) (t u : Option Nat) (ht : ook t) (hu : ook u) : FD l E yX3_store cX3_store 3 none { frames := 2, cells := 0, slots := 0, locals := 42 } [.ref ro, .int (oI u), .int (oI t)] [(ro, .inr (3, [.ref re, .ref rv, .int (nI ms)])), (re, .inl (E.2.1, 10, .inl (aO En))), (rv, .inl (E.2.1, 10, .inl (aN Ev)))] none [(ro, .inr (3, [.ref re, .ref rv, .int (nI ((rsto (En, Ev, ms) t u).2.2))])), (re, .inl (E.2.1, 10, .inl (aO ((rsto (En, Ev, ms) t u).1)))), (rv, .inl (E.2.1, 10, .inl (aN ((rsto (En, Ev, ms) t u).2.1))))] := by
  refine Fn_ofL (own := RX3) (by decide) rfl rfl [(0, .ref ro), (1, .int (oI u)), (2, .int (oI t))] rfl ?_
  intro p e s m below meth c A C hr hnm
  cases u with
  | none =>
    refine G_iload_n C dX3_store_0 rfl 1 rfl ?_
    refine G_iconst C dX3_store_1 (v := oI none) rfl 2 rfl ?_
    refine G_icmp_ne_f C dX3_store_2 18 rfl 5 rfl rfl ?_
    refine G_aload_n C dX3_store_5 rfl 6 rfl ?_
    refine G_dup C dX3_store_6 rfl 7 rfl ?_
    refine G_getf C dX3_store_7 wF_X3 wf_X3_18 (f := 2) (by decide) (ci := 3) rfl 0 rfl rfl 10 rfl ?_
    refine G_iconst C dX3_store_10 (v := nI 1) rfl 11 rfl ?_
    refine G_iadd C dX3_store_11 (v := nI (ms + 1)) (nI_add _ _) 12 rfl ?_
    refine G_putf C dX3_store_12 wF_X3 wf_X3_18 (f := 2) (by decide) (ci := 3) rfl tyX3_ok nmX3 rfl 0 rfl rfl rfl (Nat.le_of_ble_eq_true rfl) [(ro, .inr (3, [.ref re, .ref rv, .int (nI (ms + 1))])), (re, .inl (E.2.1, 10, .inl (aO En))), (rv, .inl (E.2.1, 10, .inl (aN Ev)))] rfl 15 rfl ?_
    refine G_goto C dX3_store_15 24 rfl ?_
    exact G_vret C hr dX3_store_24 () trivial rfl rfl
  | some g =>
    have hg : g < 10 := hu g rfl
    refine G_eq (ws' := [(ro, .inr (3, [.ref re, .ref rv, .int (nI ms)])), (re, .inl (E.2.1, 10, .inl (aO En))), (rv, .inl (E.2.1, 10, .inl (aN Ev)))]) (L' := [(0, .ref ro), (1, .int (nI g)), (2, .int (oI t))]) rfl rfl rfl ?_
    refine G_iload_n C dX3_store_0 rfl 1 rfl ?_
    refine G_iconst C dX3_store_1 (v := oI none) rfl 2 rfl ?_
    refine G_icmp_ne_t C dX3_store_2 18 rfl (oI_ne (by omega)) ?_
    refine G_aload_n C dX3_store_18 rfl 19 rfl ?_
    refine G_iload_n C dX3_store_19 rfl 20 rfl ?_
    refine G_iload_n C dX3_store_20 rfl 21 rfl ?_
    refine G_cV C dX3_store_21 (c_X3_point l E ro re rv En Ev ms g t (by first | assumption | omega) (by first | assumption | omega)) wm_X3_48 wi_X3_point wsel_X3_point wn_X3 wc_X3_point rfl rfl ⟨by decide, by decide, rfl⟩ rfl (Nat.le_of_ble_eq_true rfl) 3 rfl rfl 0 rfl [0, 1, 2] [] (wr := []) rfl rfl rfl rfl rfl [0, 1, 2] rfl [(ro, .inr (3, [.ref re, .ref rv, .int (nI ms)])), (re, .inl (E.2.1, 10, .inl (aO (va_up En g t)))), (rv, .inl (E.2.1, 10, .inl (aN (rpV Ev g t))))] rfl rfl [] rfl 24 rfl ?_
    exact G_vret C hr dX3_store_24 () trivial rfl rfl

set_option maxHeartbeats 4000000 in
set_option maxRecDepth 100000 in
theorem c_X3_carryOut (l : Launch) (E : gE) (ro re rv : Nat) (En : Nat → Option Nat) (Ev : Nat → Nat) (ms : Nat) (o a n : Nat) (Cd : Nat → Nat) (i v : Nat) (hE : tok En) (hi : i < 14) (hc : Cd i = ce v) (hv : v < 400) : FD l E yX3_carryOut cX3_carryOut 5 none { frames := 3, cells := 0, slots := 0, locals := 64 } [.ref ro, .ref o, .int (nI i)] [(ro, .inr (3, [.ref re, .ref rv, .int (nI ms)])), (re, .inl (E.2.1, 10, .inl (aO En))), (rv, .inl (E.2.1, 10, .inl (aN Ev))), (o, .inr (2, [.ref a, .int (nI n)])), (a, .inl (E.2.1, 14, .inl (aN Cd)))] none [(ro, .inr (3, [.ref re, .ref rv, .int (nI ((rst v (En, Ev, ms)).2.2))])), (re, .inl (E.2.1, 10, .inl (aO ((rst v (En, Ev, ms)).1)))), (rv, .inl (E.2.1, 10, .inl (aN ((rst v (En, Ev, ms)).2.1)))), (o, .inr (2, [.ref a, .int (nI n)])), (a, .inl (E.2.1, 14, .inl (aN Cd)))] := by
  refine Fn_ofL (own := RX3) (by decide) rfl rfl [(0, .ref ro), (1, .ref o), (2, .int (nI i))] rfl ?_
  intro p e s m below meth c A C hr hnm
  refine G_aload_n C dX3_carryOut_0 rfl 1 rfl ?_
  refine G_iload_n C dX3_carryOut_1 rfl 2 rfl ?_
  refine G_cV C dX3_carryOut_2 (c_X2_leftAt l E o a n Cd i v (by first | assumption | omega) (by first | assumption | omega) (by first | assumption | omega)) wm_X3_38 wi_X2_leftAt wsel_X2_leftAt wn_X2 wc_X2_leftAt rfl rfl ⟨by decide, by decide, rfl⟩ rfl (Nat.le_of_ble_eq_true rfl) 2 rfl rfl 0 rfl [3, 4] [0, 1, 2] (wr := [(ro, .inr (3, [.ref re, .ref rv, .int (nI ms)])), (re, .inl (E.2.1, 10, .inl (aO En))), (rv, .inl (E.2.1, 10, .inl (aN Ev)))]) rfl rfl rfl rfl rfl [0, 1, 2, 3, 4] rfl [(ro, .inr (3, [.ref re, .ref rv, .int (nI ms)])), (re, .inl (E.2.1, 10, .inl (aO En))), (rv, .inl (E.2.1, 10, .inl (aN Ev))), (o, .inr (2, [.ref a, .int (nI n)])), (a, .inl (E.2.1, 14, .inl (aN Cd)))] rfl rfl [.int (nI (v / 10 % 10))] rfl 5 rfl ?_
  refine G_istore_n C dX3_carryOut_5 (by decide) [(3, .int (nI (v / 10 % 10))), (0, .ref ro), (1, .ref o), (2, .int (nI i))] rfl 6 rfl ?_
  refine G_aload_n C dX3_carryOut_6 rfl 7 rfl ?_
  refine G_iload_n C dX3_carryOut_7 rfl 8 rfl ?_
  refine G_cV C dX3_carryOut_8 (c_X2_rightAt l E o a n Cd i v (by first | assumption | omega) (by first | assumption | omega) (by first | assumption | omega)) wm_X3_42 wi_X2_rightAt wsel_X2_rightAt wn_X2 wc_X2_rightAt rfl rfl ⟨by decide, by decide, rfl⟩ rfl (Nat.le_of_ble_eq_true rfl) 2 rfl rfl 0 rfl [3, 4] [0, 1, 2] (wr := [(ro, .inr (3, [.ref re, .ref rv, .int (nI ms)])), (re, .inl (E.2.1, 10, .inl (aO En))), (rv, .inl (E.2.1, 10, .inl (aN Ev)))]) rfl rfl rfl rfl rfl [0, 1, 2, 3, 4] rfl [(ro, .inr (3, [.ref re, .ref rv, .int (nI ms)])), (re, .inl (E.2.1, 10, .inl (aO En))), (rv, .inl (E.2.1, 10, .inl (aN Ev))), (o, .inr (2, [.ref a, .int (nI n)])), (a, .inl (E.2.1, 14, .inl (aN Cd)))] rfl rfl [.int (nI (v % 10))] rfl 11 rfl ?_
  refine G_istore C dX3_carryOut_11 (by decide) [(4, .int (nI (v % 10))), (3, .int (nI (v / 10 % 10))), (0, .ref ro), (1, .ref o), (2, .int (nI i))] rfl 13 rfl ?_
  refine G_aload_n C dX3_carryOut_13 rfl 14 rfl ?_
  refine G_iload_n C dX3_carryOut_14 rfl 15 rfl ?_
  refine G_cV C dX3_carryOut_15 (c_X2_sortAt l E o a n Cd i v (by first | assumption | omega) (by first | assumption | omega) (by first | assumption | omega)) wm_X3_45 wi_X2_sortAt wsel_X2_sortAt wn_X2 wc_X2_sortAt rfl rfl ⟨by decide, by decide, rfl⟩ rfl (Nat.le_of_ble_eq_true rfl) 2 rfl rfl 0 rfl [3, 4] [0, 1, 2] (wr := [(ro, .inr (3, [.ref re, .ref rv, .int (nI ms)])), (re, .inl (E.2.1, 10, .inl (aO En))), (rv, .inl (E.2.1, 10, .inl (aN Ev)))]) rfl rfl rfl rfl rfl [0, 1, 2, 3, 4] rfl [(ro, .inr (3, [.ref re, .ref rv, .int (nI ms)])), (re, .inl (E.2.1, 10, .inl (aO En))), (rv, .inl (E.2.1, 10, .inl (aN Ev))), (o, .inr (2, [.ref a, .int (nI n)])), (a, .inl (E.2.1, 14, .inl (aN Cd)))] rfl rfl [.int (nI (v / 100))] rfl 18 rfl ?_
  rcases (show v / 100 = 0 ∨ v / 100 = 1 ∨ v / 100 = 2 ∨ v / 100 = 3 by omega) with hs_1 | hs_1 | hs_1 | hs_1
  · refine G_top (v' := .int (nI 0)) (by rw [hs_1]) ?_
    refine G_tabIn C dX3_carryOut_18 (26) (by decide) (by decide) rfl 44 rfl ?_
    refine G_aload_n C dX3_carryOut_44 rfl 45 rfl ?_
    refine G_iload_n C dX3_carryOut_45 rfl 46 rfl ?_
    refine G_iload C dX3_carryOut_46 rfl 48 rfl ?_
    refine G_cV C dX3_carryOut_48 (c_X3_point l E ro re rv En Ev ms (v / 10 % 10) (some (v % 10)) (by first | assumption | omega) (ook_s (by omega))) wm_X3_48 wi_X3_point wsel_X3_point wn_X3 wc_X3_point rfl rfl ⟨by decide, by decide, rfl⟩ rfl (Nat.le_of_ble_eq_true rfl) 3 rfl rfl 0 rfl [0, 1, 2] [3, 4] (wr := [(o, .inr (2, [.ref a, .int (nI n)])), (a, .inl (E.2.1, 14, .inl (aN Cd)))]) rfl rfl rfl rfl rfl [2, 3, 4, 0, 1] rfl [(ro, .inr (3, [.ref re, .ref rv, .int (nI ms)])), (re, .inl (E.2.1, 10, .inl (aO (va_up En (v / 10 % 10) (some (v % 10)))))), (rv, .inl (E.2.1, 10, .inl (aN (rpV Ev (v / 10 % 10) (some (v % 10)))))), (o, .inr (2, [.ref a, .int (nI n)])), (a, .inl (E.2.1, 14, .inl (aN Cd)))] rfl rfl [] rfl 51 rfl ?_
    refine G_goto C dX3_carryOut_51 101 rfl ?_
    exact G_vret C hr dX3_carryOut_101 () trivial rfl (by simp [rst, hs_1])
  · refine G_top (v' := .int (nI 1)) (by rw [hs_1]) ?_
    refine G_tabIn C dX3_carryOut_18 (36) (by decide) (by decide) rfl 54 rfl ?_
    refine G_aload_n C dX3_carryOut_54 rfl 55 rfl ?_
    refine G_iload_n C dX3_carryOut_55 rfl 56 rfl ?_
    refine G_aload_n C dX3_carryOut_56 rfl 57 rfl ?_
    refine G_getf C dX3_carryOut_57 wF_X3 wf_X3_9 (f := 0) (by decide) (ci := 3) rfl 0 rfl rfl 60 rfl ?_
    refine G_iload C dX3_carryOut_60 rfl 62 rfl ?_
    refine G_ialdO C dX3_carryOut_62 1 rfl rfl (by omega) 63 rfl ?_
    refine G_cV C dX3_carryOut_63 (c_X3_point l E ro re rv En Ev ms (v / 10 % 10) (En (v % 10)) (by first | assumption | omega) (hE _ (by omega))) wm_X3_48 wi_X3_point wsel_X3_point wn_X3 wc_X3_point rfl rfl ⟨by decide, by decide, rfl⟩ rfl (Nat.le_of_ble_eq_true rfl) 3 rfl rfl 0 rfl [0, 1, 2] [3, 4] (wr := [(o, .inr (2, [.ref a, .int (nI n)])), (a, .inl (E.2.1, 14, .inl (aN Cd)))]) rfl rfl rfl rfl rfl [2, 3, 4, 0, 1] rfl [(ro, .inr (3, [.ref re, .ref rv, .int (nI ms)])), (re, .inl (E.2.1, 10, .inl (aO (va_up En (v / 10 % 10) (En (v % 10)))))), (rv, .inl (E.2.1, 10, .inl (aN (rpV Ev (v / 10 % 10) (En (v % 10)))))), (o, .inr (2, [.ref a, .int (nI n)])), (a, .inl (E.2.1, 14, .inl (aN Cd)))] rfl rfl [] rfl 66 rfl ?_
    refine G_goto C dX3_carryOut_66 101 rfl ?_
    exact G_vret C hr dX3_carryOut_101 () trivial rfl (by simp [rst, hs_1])
  · refine G_top (v' := .int (nI 2)) (by rw [hs_1]) ?_
    refine G_tabIn C dX3_carryOut_18 (51) (by decide) (by decide) rfl 69 rfl ?_
    refine G_aload_n C dX3_carryOut_69 rfl 70 rfl ?_
    refine G_iload_n C dX3_carryOut_70 rfl 71 rfl ?_
    refine G_aload_n C dX3_carryOut_71 rfl 72 rfl ?_
    refine G_getf C dX3_carryOut_72 wF_X3 wf_X3_9 (f := 0) (by decide) (ci := 3) rfl 0 rfl rfl 75 rfl ?_
    refine G_iload C dX3_carryOut_75 rfl 77 rfl ?_
    refine G_ialdO C dX3_carryOut_77 1 rfl rfl (by omega) 78 rfl ?_
    refine G_cV C dX3_carryOut_78 (c_X3_load l E ro re rv En Ev ms (v / 10 % 10) (En (v % 10)) (by first | assumption | omega) (by first | assumption | omega) (hE _ (by omega))) wm_X3_52 wi_X3_load wsel_X3_load wn_X3 wc_X3_load rfl rfl ⟨by decide, by decide, rfl⟩ rfl (Nat.le_of_ble_eq_true rfl) 3 rfl rfl 0 rfl [0, 1, 2] [3, 4] (wr := [(o, .inr (2, [.ref a, .int (nI n)])), (a, .inl (E.2.1, 14, .inl (aN Cd)))]) rfl rfl rfl rfl rfl [2, 3, 4, 0, 1] rfl [(ro, .inr (3, [.ref re, .ref rv, .int (nI ((rld (En, Ev, ms) (v / 10 % 10) (En (v % 10))).2.2))])), (re, .inl (E.2.1, 10, .inl (aO ((rld (En, Ev, ms) (v / 10 % 10) (En (v % 10))).1)))), (rv, .inl (E.2.1, 10, .inl (aN ((rld (En, Ev, ms) (v / 10 % 10) (En (v % 10))).2.1)))), (o, .inr (2, [.ref a, .int (nI n)])), (a, .inl (E.2.1, 14, .inl (aN Cd)))] rfl rfl [] rfl 81 rfl ?_
    refine G_goto C dX3_carryOut_81 101 rfl ?_
    exact G_vret C hr dX3_carryOut_101 () trivial rfl (by simp [rst, hs_1])
  · refine G_top (v' := .int (nI 3)) (by rw [hs_1]) ?_
    refine G_tabOut C dX3_carryOut_18 (by decide) 84 rfl ?_
    refine G_aload_n C dX3_carryOut_84 rfl 85 rfl ?_
    refine G_aload_n C dX3_carryOut_85 rfl 86 rfl ?_
    refine G_getf C dX3_carryOut_86 wF_X3 wf_X3_9 (f := 0) (by decide) (ci := 3) rfl 0 rfl rfl 89 rfl ?_
    refine G_iload_n C dX3_carryOut_89 rfl 90 rfl ?_
    refine G_ialdO C dX3_carryOut_90 1 rfl rfl (by omega) 91 rfl ?_
    refine G_aload_n C dX3_carryOut_91 rfl 92 rfl ?_
    refine G_getf C dX3_carryOut_92 wF_X3 wf_X3_9 (f := 0) (by decide) (ci := 3) rfl 0 rfl rfl 95 rfl ?_
    refine G_iload C dX3_carryOut_95 rfl 97 rfl ?_
    refine G_ialdO C dX3_carryOut_97 1 rfl rfl (by omega) 98 rfl ?_
    refine G_cV C dX3_carryOut_98 (c_X3_store l E ro re rv En Ev ms (En (v % 10)) (En (v / 10 % 10)) (hE _ (by omega)) (hE _ (by omega))) wm_X3_55 wi_X3_store wsel_X3_store wn_X3 wc_X3_store rfl rfl ⟨by decide, by decide, rfl⟩ rfl (Nat.le_of_ble_eq_true rfl) 3 rfl rfl 0 rfl [0, 1, 2] [3, 4] (wr := [(o, .inr (2, [.ref a, .int (nI n)])), (a, .inl (E.2.1, 14, .inl (aN Cd)))]) rfl rfl rfl rfl rfl [2, 3, 4, 0, 1] rfl [(ro, .inr (3, [.ref re, .ref rv, .int (nI ((rsto (En, Ev, ms) (En (v % 10)) (En (v / 10 % 10))).2.2))])), (re, .inl (E.2.1, 10, .inl (aO ((rsto (En, Ev, ms) (En (v % 10)) (En (v / 10 % 10))).1)))), (rv, .inl (E.2.1, 10, .inl (aN ((rsto (En, Ev, ms) (En (v % 10)) (En (v / 10 % 10))).2.1)))), (o, .inr (2, [.ref a, .int (nI n)])), (a, .inl (E.2.1, 14, .inl (aN Cd)))] rfl rfl [] rfl 101 rfl ?_
    exact G_vret C hr dX3_carryOut_101 () trivial rfl (by simp [rst, hs_1])

set_option maxHeartbeats 4000000 in
set_option maxRecDepth 100000 in
theorem c_X3_play (l : Launch) (E : gE) (ro re rv : Nat) (En : Nat → Option Nat) (Ev : Nat → Nat) (ms : Nat) (o a n : Nat) (Cd : Nat → Nat) (ln : Nat → Nat) (rn : Nat) (hok : lok n ln Cd) (hr9 : rn ≤ 9) : FD l E yX3_play cX3_play 5 none { frames := 4, cells := 0, slots := 0, locals := 88 } [.ref ro, .ref o, .int (nI rn)] [(ro, .inr (3, [.ref re, .ref rv, .int (nI ms)])), (re, .inl (E.2.1, 10, .inl (aO En))), (rv, .inl (E.2.1, 10, .inl (aN Ev))), (o, .inr (2, [.ref a, .int (nI n)])), (a, .inl (E.2.1, 14, .inl (aN Cd)))] none [(ro, .inr (3, [.ref re, .ref rv, .int (nI ((rr ln n (rn * n)).2.2))])), (re, .inl (E.2.1, 10, .inl (aO ((rr ln n (rn * n)).1)))), (rv, .inl (E.2.1, 10, .inl (aN ((rr ln n (rn * n)).2.1)))), (o, .inr (2, [.ref a, .int (nI n)])), (a, .inl (E.2.1, 14, .inl (aN Cd)))] := by
  refine Fn_ofL (own := RX3) (by decide) rfl rfl [(0, .ref ro), (1, .ref o), (2, .int (nI rn))] rfl ?_
  intro p e s m below meth c A C hr hnm
  have h14 : n ≤ 14 := hok.n
  refine G_aload_n C dX3_play_0 rfl 1 rfl ?_
  refine G_getf C dX3_play_1 wF_X3 wf_X3_9 (f := 0) (by decide) (ci := 3) rfl 0 rfl rfl 4 rfl ?_
  refine G_iconst C dX3_play_4 (v := oI none) rfl 5 rfl ?_
  refine G_cS C dX3_play_5 (c_J7_fill l E re 10 (aO En) (oI none) (by decide)) wm_X3_22 wt_J7_fill wn_J7 wc_J7_fill rfl rfl ⟨by decide, by decide, rfl⟩ rfl (Nat.le_of_ble_eq_true rfl) [1] [0, 2, 3, 4] (wr := [(ro, .inr (3, [.ref re, .ref rv, .int (nI ms)])), (rv, .inl (E.2.1, 10, .inl (aN Ev))), (o, .inr (2, [.ref a, .int (nI n)])), (a, .inl (E.2.1, 14, .inl (aN Cd)))]) rfl rfl rfl rfl rfl [0, 4, 1, 2, 3] rfl [(ro, .inr (3, [.ref re, .ref rv, .int (nI ms)])), (re, .inl (E.2.1, 10, .inl (fun _ => (oI none)))), (rv, .inl (E.2.1, 10, .inl (aN Ev))), (o, .inr (2, [.ref a, .int (nI n)])), (a, .inl (E.2.1, 14, .inl (aN Cd)))] rfl rfl [] rfl 8 rfl ?_
  refine G_eq (ws' := [(ro, .inr (3, [.ref re, .ref rv, .int (nI ms)])), (re, .inl (E.2.1, 10, .inl (aO (fun _ => none)))), (rv, .inl (E.2.1, 10, .inl (aN Ev))), (o, .inr (2, [.ref a, .int (nI n)])), (a, .inl (E.2.1, 14, .inl (aN Cd)))]) rfl rfl rfl ?_
  refine G_aload_n C dX3_play_8 rfl 9 rfl ?_
  refine G_getf C dX3_play_9 wF_X3 wf_X3_15 (f := 1) (by decide) (ci := 3) rfl 0 rfl rfl 12 rfl ?_
  refine G_iconst C dX3_play_12 (v := nI 0) rfl 13 rfl ?_
  refine G_cS C dX3_play_13 (c_J7_fill l E rv 10 (aN Ev) (nI 0) (by decide)) wm_X3_22 wt_J7_fill wn_J7 wc_J7_fill rfl rfl ⟨by decide, by decide, rfl⟩ rfl (Nat.le_of_ble_eq_true rfl) [2] [0, 1, 3, 4] (wr := [(ro, .inr (3, [.ref re, .ref rv, .int (nI ms)])), (re, .inl (E.2.1, 10, .inl (aO (fun _ => none)))), (o, .inr (2, [.ref a, .int (nI n)])), (a, .inl (E.2.1, 14, .inl (aN Cd)))]) rfl rfl rfl rfl rfl [0, 1, 4, 2, 3] rfl [(ro, .inr (3, [.ref re, .ref rv, .int (nI ms)])), (re, .inl (E.2.1, 10, .inl (aO (fun _ => none)))), (rv, .inl (E.2.1, 10, .inl (fun _ => (nI 0)))), (o, .inr (2, [.ref a, .int (nI n)])), (a, .inl (E.2.1, 14, .inl (aN Cd)))] rfl rfl [] rfl 16 rfl ?_
  refine G_eq (ws' := [(ro, .inr (3, [.ref re, .ref rv, .int (nI ms)])), (re, .inl (E.2.1, 10, .inl (aO (fun _ => none)))), (rv, .inl (E.2.1, 10, .inl (aN (fun _ => 0)))), (o, .inr (2, [.ref a, .int (nI n)])), (a, .inl (E.2.1, 14, .inl (aN Cd)))]) rfl rfl rfl ?_
  refine G_aload_n C dX3_play_16 rfl 17 rfl ?_
  refine G_iconst C dX3_play_17 (v := nI 0) rfl 18 rfl ?_
  refine G_putf C dX3_play_18 wF_X3 wf_X3_18 (f := 2) (by decide) (ci := 3) rfl tyX3_ok nmX3 rfl 0 rfl rfl rfl (Nat.le_of_ble_eq_true rfl) [(ro, .inr (3, [.ref re, .ref rv, .int (nI 0)])), (re, .inl (E.2.1, 10, .inl (aO (fun _ => none)))), (rv, .inl (E.2.1, 10, .inl (aN (fun _ => 0)))), (o, .inr (2, [.ref a, .int (nI n)])), (a, .inl (E.2.1, 14, .inl (aN Cd)))] rfl 21 rfl ?_
  refine G_iconst C dX3_play_21 (v := nI 0) rfl 22 rfl ?_
  refine G_istore_n C dX3_play_22 (by decide) [(3, .int (nI 0)), (0, .ref ro), (1, .ref o), (2, .int (nI rn))] rfl 23 rfl ?_
  refine G_eq (ws' := [(ro, .inr (3, [.ref re, .ref rv, .int (nI ((rr ln n (0 * n)).2.2))])), (re, .inl (E.2.1, 10, .inl (aO ((rr ln n (0 * n)).1)))), (rv, .inl (E.2.1, 10, .inl (aN ((rr ln n (0 * n)).2.1)))), (o, .inr (2, [.ref a, .int (nI n)])), (a, .inl (E.2.1, 14, .inl (aN Cd)))]) (by rw [Nat.zero_mul]; rfl) rfl rfl ?_
  refine G_while (X := Nat) (Wf := fun r => [(ro, .inr (3, [.ref re, .ref rv, .int (nI ((rr ln n (r * n)).2.2))])), (re, .inl (E.2.1, 10, .inl (aO ((rr ln n (r * n)).1)))), (rv, .inl (E.2.1, 10, .inl (aN ((rr ln n (r * n)).2.1)))), (o, .inr (2, [.ref a, .int (nI n)])), (a, .inl (E.2.1, 14, .inl (aN Cd)))]) (Lf := fun r => [(3, .int (nI r)), (0, .ref ro), (1, .ref o), (2, .int (nI rn))]) (Sf := fun _ => []) (fun r => r ≤ rn) (fun r => rn - r) (fun r hr5 ihr => ?_) 0 (by omega)
  refine G_iload_n C dX3_play_23 rfl 24 rfl ?_
  refine G_iload_n C dX3_play_24 rfl 25 rfl ?_
  refine G_icmp_ge C dX3_play_25 59 rfl 28 rfl (nI_leI (by omega) (by omega)) (fun h_1 => ?_) (fun h_1 => ?_)
  · exact G_vret C hr dX3_play_59 () trivial rfl (by rw [show r = rn by omega])
  · refine G_iconst C dX3_play_28 (v := nI 0) rfl 29 rfl ?_
    refine G_istore C dX3_play_29 (by decide) [(4, .int (nI 0)), (3, .int (nI r)), (0, .ref ro), (1, .ref o), (2, .int (nI rn))] rfl 31 rfl ?_
    refine G_while (X := Nat) (Wf := fun i => [(ro, .inr (3, [.ref re, .ref rv, .int (nI ((rr ln n (r * n + i)).2.2))])), (re, .inl (E.2.1, 10, .inl (aO ((rr ln n (r * n + i)).1)))), (rv, .inl (E.2.1, 10, .inl (aN ((rr ln n (r * n + i)).2.1)))), (o, .inr (2, [.ref a, .int (nI n)])), (a, .inl (E.2.1, 14, .inl (aN Cd)))]) (Lf := fun i => [(4, .int (nI i)), (3, .int (nI r)), (0, .ref ro), (1, .ref o), (2, .int (nI rn))]) (Sf := fun _ => []) (fun i => i ≤ n) (fun i => n - i) (fun i hi ih => ?_) 0 (by omega)
    refine G_iload C dX3_play_31 rfl 33 rfl ?_
    refine G_aload_n C dX3_play_33 rfl 34 rfl ?_
    refine G_cV C dX3_play_34 (c_X2_size l E o a n Cd ) wm_X3_28 wi_X2_size wsel_X2_size wn_X2 wc_X2_size rfl rfl ⟨by decide, by decide, rfl⟩ rfl (Nat.le_of_ble_eq_true rfl) 2 rfl rfl 0 rfl [3, 4] [0, 1, 2] (wr := [(ro, .inr (3, [.ref re, .ref rv, .int (nI ((rr ln n (r * n + i)).2.2))])), (re, .inl (E.2.1, 10, .inl (aO ((rr ln n (r * n + i)).1)))), (rv, .inl (E.2.1, 10, .inl (aN ((rr ln n (r * n + i)).2.1))))]) rfl rfl rfl rfl rfl [0, 1, 2, 3, 4] rfl [(ro, .inr (3, [.ref re, .ref rv, .int (nI ((rr ln n (r * n + i)).2.2))])), (re, .inl (E.2.1, 10, .inl (aO ((rr ln n (r * n + i)).1)))), (rv, .inl (E.2.1, 10, .inl (aN ((rr ln n (r * n + i)).2.1)))), (o, .inr (2, [.ref a, .int (nI n)])), (a, .inl (E.2.1, 14, .inl (aN Cd)))] rfl rfl [.int (nI n), .int (nI i)] rfl 37 rfl ?_
    refine G_icmp_ge C dX3_play_37 53 rfl 40 rfl (nI_leI (by omega) (by omega)) (fun h_2 => ?_) (fun h_2 => ?_)
    · refine G_iinc C dX3_play_53 1 rfl (nI_1 _) (by decide) [(3, .int (nI (r + 1))), (4, .int (nI i)), (0, .ref ro), (1, .ref o), (2, .int (nI rn))] rfl 56 rfl ?_
      refine G_goto C dX3_play_56 23 rfl ?_
      refine G_sel [0, 2, 3, 4] [(3, .int (nI (r + 1))), (0, .ref ro), (1, .ref o), (2, .int (nI rn))] rfl ?_
      refine G_eq (ws' := [(ro, .inr (3, [.ref re, .ref rv, .int (nI ((rr ln n ((r + 1) * n)).2.2))])), (re, .inl (E.2.1, 10, .inl (aO ((rr ln n ((r + 1) * n)).1)))), (rv, .inl (E.2.1, 10, .inl (aN ((rr ln n ((r + 1) * n)).2.1)))), (o, .inr (2, [.ref a, .int (nI n)])), (a, .inl (E.2.1, 14, .inl (aN Cd)))]) (by rw [Nat.succ_mul, show i = n by omega]) rfl rfl ?_
      exact ihr (r + 1) (by omega) (by omega)
    · refine G_aload_n C dX3_play_40 rfl 41 rfl ?_
      refine G_aload_n C dX3_play_41 rfl 42 rfl ?_
      refine G_iload C dX3_play_42 rfl 44 rfl ?_
      refine G_cV C dX3_play_44 (c_X3_carryOut l E ro re rv ((rr ln n (r * n + i)).1) ((rr ln n (r * n + i)).2.1) ((rr ln n (r * n + i)).2.2) o a n Cd i (ln i) (tok_rr _) (by omega) (hok.c (by omega)) (hok.v (by omega))) wm_X3_34 wi_X3_carryOut wsel_X3_carryOut wn_X3 wc_X3_carryOut rfl rfl ⟨by decide, by decide, rfl⟩ rfl (Nat.le_of_ble_eq_true rfl) 3 rfl rfl 0 rfl [0, 1, 2, 3, 4] [] (wr := []) rfl rfl rfl rfl rfl [0, 1, 2, 3, 4] rfl [(ro, .inr (3, [.ref re, .ref rv, .int (nI ((rst (ln i) (((rr ln n (r * n + i)).1), ((rr ln n (r * n + i)).2.1), ((rr ln n (r * n + i)).2.2))).2.2))])), (re, .inl (E.2.1, 10, .inl (aO ((rst (ln i) (((rr ln n (r * n + i)).1), ((rr ln n (r * n + i)).2.1), ((rr ln n (r * n + i)).2.2))).1)))), (rv, .inl (E.2.1, 10, .inl (aN ((rst (ln i) (((rr ln n (r * n + i)).1), ((rr ln n (r * n + i)).2.1), ((rr ln n (r * n + i)).2.2))).2.1)))), (o, .inr (2, [.ref a, .int (nI n)])), (a, .inl (E.2.1, 14, .inl (aN Cd)))] rfl rfl [] rfl 47 rfl ?_
      refine G_iinc C dX3_play_47 0 rfl (nI_1 _) (by decide) [(4, .int (nI (i + 1))), (3, .int (nI r)), (0, .ref ro), (1, .ref o), (2, .int (nI rn))] rfl 50 rfl ?_
      refine G_goto C dX3_play_50 31 rfl ?_
      refine G_eq (ws' := [(ro, .inr (3, [.ref re, .ref rv, .int (nI ((rr ln n (r * n + (i + 1))).2.2))])), (re, .inl (E.2.1, 10, .inl (aO ((rr ln n (r * n + (i + 1))).1)))), (rv, .inl (E.2.1, 10, .inl (aN ((rr ln n (r * n + (i + 1))).2.1)))), (o, .inr (2, [.ref a, .int (nI n)])), (a, .inl (E.2.1, 14, .inl (aN Cd)))]) (by rw [rr_s (by omega)]) rfl rfl ?_
      exact ih (i + 1) (by omega) (by omega)

set_option maxHeartbeats 4000000 in
set_option maxRecDepth 100000 in
theorem c_X4_size (l : Launch) (E : gE) (so sk sn : Nat)  : FD l E yX4_size cX4_size 1 (some .int) { frames := 0, cells := 0, slots := 0, locals := 0 } [.ref so] [(so, .inr (4, [.ref sk, .int (nI sn)]))] (some (.int (nI sn))) [(so, .inr (4, [.ref sk, .int (nI sn)]))] := by
  refine Fn_ofL (own := RX4) (by decide) rfl rfl [(0, .ref so)] rfl ?_
  intro p e s m below meth c A C hr hnm
  refine G_aload_n C dX4_size_0 rfl 1 rfl ?_
  refine G_getf C dX4_size_1 wF_X4 wf_X4_18 (f := 1) (by decide) (ci := 4) rfl 0 rfl rfl 4 rfl ?_
  exact G_iret C hr dX4_size_4 rfl () trivial rfl rfl

set_option maxHeartbeats 4000000 in
set_option maxRecDepth 100000 in
theorem c_X4_loseOldest (l : Launch) (E : gE) (so sk : Nat) (Ha Aa : Nat → Nat) (sn : Nat) (NS : Nat → Nat) (CS : Nat → Nat → Nat)  : FD l E yX4_loseOldest cX4_loseOldest 3 none { frames := 0, cells := 0, slots := 0, locals := 0 } [.ref so] [(so, .inr (4, [.ref sk, .int (nI sn)])), (sk, .inl (E.2.2, 5, .inr (.inr (.inr (.inr (fun j => some (Ha j))))))), ((Ha 0), .inr (2, [.ref (Aa 0), .int (nI (NS 0))])), ((Aa 0), .inl (E.2.1, 14, .inl (aN (CS 0)))), ((Ha 1), .inr (2, [.ref (Aa 1), .int (nI (NS 1))])), ((Aa 1), .inl (E.2.1, 14, .inl (aN (CS 1)))), ((Ha 2), .inr (2, [.ref (Aa 2), .int (nI (NS 2))])), ((Aa 2), .inl (E.2.1, 14, .inl (aN (CS 2)))), ((Ha 3), .inr (2, [.ref (Aa 3), .int (nI (NS 3))])), ((Aa 3), .inl (E.2.1, 14, .inl (aN (CS 3)))), ((Ha 4), .inr (2, [.ref (Aa 4), .int (nI (NS 4))])), ((Aa 4), .inl (E.2.1, 14, .inl (aN (CS 4))))] none [(so, .inr (4, [.ref sk, .int (nI 4)])), (sk, .inl (E.2.2, 5, .inr (.inr (.inr (.inr (fun j => some (rotA Ha j))))))), ((rotA Ha 0), .inr (2, [.ref (rotA Aa 0), .int (nI (NS 1))])), ((rotA Aa 0), .inl (E.2.1, 14, .inl (aN (CS 1)))), ((rotA Ha 1), .inr (2, [.ref (rotA Aa 1), .int (nI (NS 2))])), ((rotA Aa 1), .inl (E.2.1, 14, .inl (aN (CS 2)))), ((rotA Ha 2), .inr (2, [.ref (rotA Aa 2), .int (nI (NS 3))])), ((rotA Aa 2), .inl (E.2.1, 14, .inl (aN (CS 3)))), ((rotA Ha 3), .inr (2, [.ref (rotA Aa 3), .int (nI (NS 4))])), ((rotA Aa 3), .inl (E.2.1, 14, .inl (aN (CS 4)))), ((rotA Ha 4), .inr (2, [.ref (rotA Aa 4), .int (nI (NS 0))])), ((rotA Aa 4), .inl (E.2.1, 14, .inl (aN (CS 0))))] := by
  refine Fn_ofL (own := RX4) (by decide) rfl rfl [(0, .ref so)] rfl ?_
  intro p e s m below meth c A C hr hnm
  refine G_aload_n C dX4_loseOldest_0 rfl 1 rfl ?_
  refine G_getf C dX4_loseOldest_1 wF_X4 wf_X4_11 (f := 0) (by decide) (ci := 4) rfl 0 rfl rfl 4 rfl ?_
  refine G_iconst C dX4_loseOldest_4 (v := nI 0) rfl 5 rfl ?_
  refine G_aald C dX4_loseOldest_5 1 rfl (v := .ref (Ha 0)) (vp_in_nI (by decide) (by decide)) rfl 6 rfl ?_
  refine G_astore_n C dX4_loseOldest_6 (by decide) [(1, .ref (Ha 0)), (0, .ref so)] rfl 7 rfl ?_
  refine G_iconst C dX4_loseOldest_7 (v := nI 1) rfl 8 rfl ?_
  refine G_istore_n C dX4_loseOldest_8 (by decide) [(2, .int (nI 1)), (1, .ref (Ha 0)), (0, .ref so)] rfl 9 rfl ?_
  refine G_iload_n C dX4_loseOldest_9 rfl 10 rfl ?_
  refine G_iconst C dX4_loseOldest_10 (v := nI 5) rfl 11 rfl ?_
  refine G_icmp_ge_f C dX4_loseOldest_11 34 rfl 14 rfl (by decide) ?_
  refine G_aload_n C dX4_loseOldest_14 rfl 15 rfl ?_
  refine G_getf C dX4_loseOldest_15 wF_X4 wf_X4_11 (f := 0) (by decide) (ci := 4) rfl 0 rfl rfl 18 rfl ?_
  refine G_iload_n C dX4_loseOldest_18 rfl 19 rfl ?_
  refine G_iconst C dX4_loseOldest_19 (v := nI 1) rfl 20 rfl ?_
  refine G_isub C dX4_loseOldest_20 (v := nI 0) (by decide) 21 rfl ?_
  refine G_aload_n C dX4_loseOldest_21 rfl 22 rfl ?_
  refine G_getf C dX4_loseOldest_22 wF_X4 wf_X4_11 (f := 0) (by decide) (ci := 4) rfl 0 rfl rfl 25 rfl ?_
  refine G_iload_n C dX4_loseOldest_25 rfl 26 rfl ?_
  refine G_aald C dX4_loseOldest_26 1 rfl (v := .ref (Ha 1)) (vp_in_nI (by decide) (by decide)) rfl 27 rfl ?_
  refine G_aast C dX4_loseOldest_27 1 4 rfl rfl (vp_in_nI (by decide) (by decide)) rfl [(so, .inr (4, [.ref sk, .int (nI sn)])), (sk, .inl (E.2.2, 5, .inr (.inr (.inr (.inr (va_up (fun j => some (Ha j)) 0 (some (Ha 1)))))))), ((Ha 0), .inr (2, [.ref (Aa 0), .int (nI (NS 0))])), ((Aa 0), .inl (E.2.1, 14, .inl (aN (CS 0)))), ((Ha 1), .inr (2, [.ref (Aa 1), .int (nI (NS 1))])), ((Aa 1), .inl (E.2.1, 14, .inl (aN (CS 1)))), ((Ha 2), .inr (2, [.ref (Aa 2), .int (nI (NS 2))])), ((Aa 2), .inl (E.2.1, 14, .inl (aN (CS 2)))), ((Ha 3), .inr (2, [.ref (Aa 3), .int (nI (NS 3))])), ((Aa 3), .inl (E.2.1, 14, .inl (aN (CS 3)))), ((Ha 4), .inr (2, [.ref (Aa 4), .int (nI (NS 4))])), ((Aa 4), .inl (E.2.1, 14, .inl (aN (CS 4))))] rfl 28 rfl ?_
  refine G_iinc C dX4_loseOldest_28 0 rfl (by decide) (by decide) [(2, .int (nI 2)), (1, .ref (Ha 0)), (0, .ref so)] rfl 31 rfl ?_
  refine G_goto C dX4_loseOldest_31 9 rfl ?_
  refine G_iload_n C dX4_loseOldest_9 rfl 10 rfl ?_
  refine G_iconst C dX4_loseOldest_10 (v := nI 5) rfl 11 rfl ?_
  refine G_icmp_ge_f C dX4_loseOldest_11 34 rfl 14 rfl (by decide) ?_
  refine G_aload_n C dX4_loseOldest_14 rfl 15 rfl ?_
  refine G_getf C dX4_loseOldest_15 wF_X4 wf_X4_11 (f := 0) (by decide) (ci := 4) rfl 0 rfl rfl 18 rfl ?_
  refine G_iload_n C dX4_loseOldest_18 rfl 19 rfl ?_
  refine G_iconst C dX4_loseOldest_19 (v := nI 1) rfl 20 rfl ?_
  refine G_isub C dX4_loseOldest_20 (v := nI 1) (by decide) 21 rfl ?_
  refine G_aload_n C dX4_loseOldest_21 rfl 22 rfl ?_
  refine G_getf C dX4_loseOldest_22 wF_X4 wf_X4_11 (f := 0) (by decide) (ci := 4) rfl 0 rfl rfl 25 rfl ?_
  refine G_iload_n C dX4_loseOldest_25 rfl 26 rfl ?_
  refine G_aald C dX4_loseOldest_26 1 rfl (v := .ref (Ha 2)) (vp_in_nI (by decide) (by decide)) rfl 27 rfl ?_
  refine G_aast C dX4_loseOldest_27 1 6 rfl rfl (vp_in_nI (by decide) (by decide)) rfl [(so, .inr (4, [.ref sk, .int (nI sn)])), (sk, .inl (E.2.2, 5, .inr (.inr (.inr (.inr (va_up (va_up (fun j => some (Ha j)) 0 (some (Ha 1))) 1 (some (Ha 2)))))))), ((Ha 0), .inr (2, [.ref (Aa 0), .int (nI (NS 0))])), ((Aa 0), .inl (E.2.1, 14, .inl (aN (CS 0)))), ((Ha 1), .inr (2, [.ref (Aa 1), .int (nI (NS 1))])), ((Aa 1), .inl (E.2.1, 14, .inl (aN (CS 1)))), ((Ha 2), .inr (2, [.ref (Aa 2), .int (nI (NS 2))])), ((Aa 2), .inl (E.2.1, 14, .inl (aN (CS 2)))), ((Ha 3), .inr (2, [.ref (Aa 3), .int (nI (NS 3))])), ((Aa 3), .inl (E.2.1, 14, .inl (aN (CS 3)))), ((Ha 4), .inr (2, [.ref (Aa 4), .int (nI (NS 4))])), ((Aa 4), .inl (E.2.1, 14, .inl (aN (CS 4))))] rfl 28 rfl ?_
  refine G_iinc C dX4_loseOldest_28 0 rfl (by decide) (by decide) [(2, .int (nI 3)), (1, .ref (Ha 0)), (0, .ref so)] rfl 31 rfl ?_
  refine G_goto C dX4_loseOldest_31 9 rfl ?_
  refine G_iload_n C dX4_loseOldest_9 rfl 10 rfl ?_
  refine G_iconst C dX4_loseOldest_10 (v := nI 5) rfl 11 rfl ?_
  refine G_icmp_ge_f C dX4_loseOldest_11 34 rfl 14 rfl (by decide) ?_
  refine G_aload_n C dX4_loseOldest_14 rfl 15 rfl ?_
  refine G_getf C dX4_loseOldest_15 wF_X4 wf_X4_11 (f := 0) (by decide) (ci := 4) rfl 0 rfl rfl 18 rfl ?_
  refine G_iload_n C dX4_loseOldest_18 rfl 19 rfl ?_
  refine G_iconst C dX4_loseOldest_19 (v := nI 1) rfl 20 rfl ?_
  refine G_isub C dX4_loseOldest_20 (v := nI 2) (by decide) 21 rfl ?_
  refine G_aload_n C dX4_loseOldest_21 rfl 22 rfl ?_
  refine G_getf C dX4_loseOldest_22 wF_X4 wf_X4_11 (f := 0) (by decide) (ci := 4) rfl 0 rfl rfl 25 rfl ?_
  refine G_iload_n C dX4_loseOldest_25 rfl 26 rfl ?_
  refine G_aald C dX4_loseOldest_26 1 rfl (v := .ref (Ha 3)) (vp_in_nI (by decide) (by decide)) rfl 27 rfl ?_
  refine G_aast C dX4_loseOldest_27 1 8 rfl rfl (vp_in_nI (by decide) (by decide)) rfl [(so, .inr (4, [.ref sk, .int (nI sn)])), (sk, .inl (E.2.2, 5, .inr (.inr (.inr (.inr (va_up (va_up (va_up (fun j => some (Ha j)) 0 (some (Ha 1))) 1 (some (Ha 2))) 2 (some (Ha 3)))))))), ((Ha 0), .inr (2, [.ref (Aa 0), .int (nI (NS 0))])), ((Aa 0), .inl (E.2.1, 14, .inl (aN (CS 0)))), ((Ha 1), .inr (2, [.ref (Aa 1), .int (nI (NS 1))])), ((Aa 1), .inl (E.2.1, 14, .inl (aN (CS 1)))), ((Ha 2), .inr (2, [.ref (Aa 2), .int (nI (NS 2))])), ((Aa 2), .inl (E.2.1, 14, .inl (aN (CS 2)))), ((Ha 3), .inr (2, [.ref (Aa 3), .int (nI (NS 3))])), ((Aa 3), .inl (E.2.1, 14, .inl (aN (CS 3)))), ((Ha 4), .inr (2, [.ref (Aa 4), .int (nI (NS 4))])), ((Aa 4), .inl (E.2.1, 14, .inl (aN (CS 4))))] rfl 28 rfl ?_
  refine G_iinc C dX4_loseOldest_28 0 rfl (by decide) (by decide) [(2, .int (nI 4)), (1, .ref (Ha 0)), (0, .ref so)] rfl 31 rfl ?_
  refine G_goto C dX4_loseOldest_31 9 rfl ?_
  refine G_iload_n C dX4_loseOldest_9 rfl 10 rfl ?_
  refine G_iconst C dX4_loseOldest_10 (v := nI 5) rfl 11 rfl ?_
  refine G_icmp_ge_f C dX4_loseOldest_11 34 rfl 14 rfl (by decide) ?_
  refine G_aload_n C dX4_loseOldest_14 rfl 15 rfl ?_
  refine G_getf C dX4_loseOldest_15 wF_X4 wf_X4_11 (f := 0) (by decide) (ci := 4) rfl 0 rfl rfl 18 rfl ?_
  refine G_iload_n C dX4_loseOldest_18 rfl 19 rfl ?_
  refine G_iconst C dX4_loseOldest_19 (v := nI 1) rfl 20 rfl ?_
  refine G_isub C dX4_loseOldest_20 (v := nI 3) (by decide) 21 rfl ?_
  refine G_aload_n C dX4_loseOldest_21 rfl 22 rfl ?_
  refine G_getf C dX4_loseOldest_22 wF_X4 wf_X4_11 (f := 0) (by decide) (ci := 4) rfl 0 rfl rfl 25 rfl ?_
  refine G_iload_n C dX4_loseOldest_25 rfl 26 rfl ?_
  refine G_aald C dX4_loseOldest_26 1 rfl (v := .ref (Ha 4)) (vp_in_nI (by decide) (by decide)) rfl 27 rfl ?_
  refine G_aast C dX4_loseOldest_27 1 10 rfl rfl (vp_in_nI (by decide) (by decide)) rfl [(so, .inr (4, [.ref sk, .int (nI sn)])), (sk, .inl (E.2.2, 5, .inr (.inr (.inr (.inr (va_up (va_up (va_up (va_up (fun j => some (Ha j)) 0 (some (Ha 1))) 1 (some (Ha 2))) 2 (some (Ha 3))) 3 (some (Ha 4)))))))), ((Ha 0), .inr (2, [.ref (Aa 0), .int (nI (NS 0))])), ((Aa 0), .inl (E.2.1, 14, .inl (aN (CS 0)))), ((Ha 1), .inr (2, [.ref (Aa 1), .int (nI (NS 1))])), ((Aa 1), .inl (E.2.1, 14, .inl (aN (CS 1)))), ((Ha 2), .inr (2, [.ref (Aa 2), .int (nI (NS 2))])), ((Aa 2), .inl (E.2.1, 14, .inl (aN (CS 2)))), ((Ha 3), .inr (2, [.ref (Aa 3), .int (nI (NS 3))])), ((Aa 3), .inl (E.2.1, 14, .inl (aN (CS 3)))), ((Ha 4), .inr (2, [.ref (Aa 4), .int (nI (NS 4))])), ((Aa 4), .inl (E.2.1, 14, .inl (aN (CS 4))))] rfl 28 rfl ?_
  refine G_iinc C dX4_loseOldest_28 0 rfl (by decide) (by decide) [(2, .int (nI 5)), (1, .ref (Ha 0)), (0, .ref so)] rfl 31 rfl ?_
  refine G_goto C dX4_loseOldest_31 9 rfl ?_
  refine G_iload_n C dX4_loseOldest_9 rfl 10 rfl ?_
  refine G_iconst C dX4_loseOldest_10 (v := nI 5) rfl 11 rfl ?_
  refine G_icmp_ge_t C dX4_loseOldest_11 34 rfl (by decide) ?_
  refine G_aload_n C dX4_loseOldest_34 rfl 35 rfl ?_
  refine G_getf C dX4_loseOldest_35 wF_X4 wf_X4_11 (f := 0) (by decide) (ci := 4) rfl 0 rfl rfl 38 rfl ?_
  refine G_iconst C dX4_loseOldest_38 (v := nI 4) rfl 39 rfl ?_
  refine G_aload_n C dX4_loseOldest_39 rfl 40 rfl ?_
  refine G_aast C dX4_loseOldest_40 1 2 rfl rfl (vp_in_nI (by decide) (by decide)) rfl [(so, .inr (4, [.ref sk, .int (nI sn)])), (sk, .inl (E.2.2, 5, .inr (.inr (.inr (.inr (va_up (va_up (va_up (va_up (va_up (fun j => some (Ha j)) 0 (some (Ha 1))) 1 (some (Ha 2))) 2 (some (Ha 3))) 3 (some (Ha 4))) 4 (some (Ha 0)))))))), ((Ha 0), .inr (2, [.ref (Aa 0), .int (nI (NS 0))])), ((Aa 0), .inl (E.2.1, 14, .inl (aN (CS 0)))), ((Ha 1), .inr (2, [.ref (Aa 1), .int (nI (NS 1))])), ((Aa 1), .inl (E.2.1, 14, .inl (aN (CS 1)))), ((Ha 2), .inr (2, [.ref (Aa 2), .int (nI (NS 2))])), ((Aa 2), .inl (E.2.1, 14, .inl (aN (CS 2)))), ((Ha 3), .inr (2, [.ref (Aa 3), .int (nI (NS 3))])), ((Aa 3), .inl (E.2.1, 14, .inl (aN (CS 3)))), ((Ha 4), .inr (2, [.ref (Aa 4), .int (nI (NS 4))])), ((Aa 4), .inl (E.2.1, 14, .inl (aN (CS 4))))] rfl 41 rfl ?_
  refine G_aload_n C dX4_loseOldest_41 rfl 42 rfl ?_
  refine G_iconst C dX4_loseOldest_42 (v := nI 4) rfl 43 rfl ?_
  refine G_putf C dX4_loseOldest_43 wF_X4 wf_X4_18 (f := 1) (by decide) (ci := 4) rfl tyX4_ok nmX4 rfl 0 rfl rfl rfl (Nat.le_of_ble_eq_true rfl) [(so, .inr (4, [.ref sk, .int (nI 4)])), (sk, .inl (E.2.2, 5, .inr (.inr (.inr (.inr (va_up (va_up (va_up (va_up (va_up (fun j => some (Ha j)) 0 (some (Ha 1))) 1 (some (Ha 2))) 2 (some (Ha 3))) 3 (some (Ha 4))) 4 (some (Ha 0)))))))), ((Ha 0), .inr (2, [.ref (Aa 0), .int (nI (NS 0))])), ((Aa 0), .inl (E.2.1, 14, .inl (aN (CS 0)))), ((Ha 1), .inr (2, [.ref (Aa 1), .int (nI (NS 1))])), ((Aa 1), .inl (E.2.1, 14, .inl (aN (CS 1)))), ((Ha 2), .inr (2, [.ref (Aa 2), .int (nI (NS 2))])), ((Aa 2), .inl (E.2.1, 14, .inl (aN (CS 2)))), ((Ha 3), .inr (2, [.ref (Aa 3), .int (nI (NS 3))])), ((Aa 3), .inl (E.2.1, 14, .inl (aN (CS 3)))), ((Ha 4), .inr (2, [.ref (Aa 4), .int (nI (NS 4))])), ((Aa 4), .inl (E.2.1, 14, .inl (aN (CS 4))))] rfl 46 rfl ?_
  refine G_congR 1 (fun j => some (rotA Ha j)) rfl (fun j hj => by rcases (show j = 0 ∨ j = 1 ∨ j = 2 ∨ j = 3 ∨ j = 4 by omega) with rfl | rfl | rfl | rfl | rfl <;> rfl) [(so, .inr (4, [.ref sk, .int (nI 4)])), (sk, .inl (E.2.2, 5, .inr (.inr (.inr (.inr (fun j => some (rotA Ha j))))))), ((Ha 0), .inr (2, [.ref (Aa 0), .int (nI (NS 0))])), ((Aa 0), .inl (E.2.1, 14, .inl (aN (CS 0)))), ((Ha 1), .inr (2, [.ref (Aa 1), .int (nI (NS 1))])), ((Aa 1), .inl (E.2.1, 14, .inl (aN (CS 1)))), ((Ha 2), .inr (2, [.ref (Aa 2), .int (nI (NS 2))])), ((Aa 2), .inl (E.2.1, 14, .inl (aN (CS 2)))), ((Ha 3), .inr (2, [.ref (Aa 3), .int (nI (NS 3))])), ((Aa 3), .inl (E.2.1, 14, .inl (aN (CS 3)))), ((Ha 4), .inr (2, [.ref (Aa 4), .int (nI (NS 4))])), ((Aa 4), .inl (E.2.1, 14, .inl (aN (CS 4))))] rfl ?_
  refine G_perm [0, 1, 4, 5, 6, 7, 8, 9, 10, 11, 2, 3] rfl [(so, .inr (4, [.ref sk, .int (nI 4)])), (sk, .inl (E.2.2, 5, .inr (.inr (.inr (.inr (fun j => some (rotA Ha j))))))), ((rotA Ha 0), .inr (2, [.ref (rotA Aa 0), .int (nI (NS 1))])), ((rotA Aa 0), .inl (E.2.1, 14, .inl (aN (CS 1)))), ((rotA Ha 1), .inr (2, [.ref (rotA Aa 1), .int (nI (NS 2))])), ((rotA Aa 1), .inl (E.2.1, 14, .inl (aN (CS 2)))), ((rotA Ha 2), .inr (2, [.ref (rotA Aa 2), .int (nI (NS 3))])), ((rotA Aa 2), .inl (E.2.1, 14, .inl (aN (CS 3)))), ((rotA Ha 3), .inr (2, [.ref (rotA Aa 3), .int (nI (NS 4))])), ((rotA Aa 3), .inl (E.2.1, 14, .inl (aN (CS 4)))), ((rotA Ha 4), .inr (2, [.ref (rotA Aa 4), .int (nI (NS 0))])), ((rotA Aa 4), .inl (E.2.1, 14, .inl (aN (CS 0))))] rfl ?_
  exact G_vret C hr dX4_loseOldest_46 () trivial rfl rfl

set_option maxHeartbeats 4000000 in
set_option maxRecDepth 100000 in
theorem c_X4_keep (l : Launch) (E : gE) (so sk : Nat) (Ha Aa : Nat → Nat) (sn : Nat) (NS : Nat → Nat) (CS : Nat → Nat → Nat) (o a n : Nat) (Cd : Nat → Nat) (hs5 : sn ≤ 5) (hn : n ≤ 14) : FD l E yX4_keep cX4_keep 2 none { frames := 2, cells := 0, slots := 0, locals := 61 } [.ref so, .ref o] [(so, .inr (4, [.ref sk, .int (nI sn)])), (sk, .inl (E.2.2, 5, .inr (.inr (.inr (.inr (fun j => some (Ha j))))))), ((Ha 0), .inr (2, [.ref (Aa 0), .int (nI (NS 0))])), ((Aa 0), .inl (E.2.1, 14, .inl (aN (CS 0)))), ((Ha 1), .inr (2, [.ref (Aa 1), .int (nI (NS 1))])), ((Aa 1), .inl (E.2.1, 14, .inl (aN (CS 1)))), ((Ha 2), .inr (2, [.ref (Aa 2), .int (nI (NS 2))])), ((Aa 2), .inl (E.2.1, 14, .inl (aN (CS 2)))), ((Ha 3), .inr (2, [.ref (Aa 3), .int (nI (NS 3))])), ((Aa 3), .inl (E.2.1, 14, .inl (aN (CS 3)))), ((Ha 4), .inr (2, [.ref (Aa 4), .int (nI (NS 4))])), ((Aa 4), .inl (E.2.1, 14, .inl (aN (CS 4)))), (o, .inr (2, [.ref a, .int (nI n)])), (a, .inl (E.2.1, 14, .inl (aN Cd)))] none [(so, .inr (4, [.ref sk, .int (nI (kS sn))])), (sk, .inl (E.2.2, 5, .inr (.inr (.inr (.inr (fun j => some ((kA sn Ha) j))))))), (((kA sn Ha) 0), .inr (2, [.ref ((kA sn Aa) 0), .int (nI ((kN sn NS n) 0))])), (((kA sn Aa) 0), .inl (E.2.1, 14, .inl (aN ((kC sn CS Cd n) 0)))), (((kA sn Ha) 1), .inr (2, [.ref ((kA sn Aa) 1), .int (nI ((kN sn NS n) 1))])), (((kA sn Aa) 1), .inl (E.2.1, 14, .inl (aN ((kC sn CS Cd n) 1)))), (((kA sn Ha) 2), .inr (2, [.ref ((kA sn Aa) 2), .int (nI ((kN sn NS n) 2))])), (((kA sn Aa) 2), .inl (E.2.1, 14, .inl (aN ((kC sn CS Cd n) 2)))), (((kA sn Ha) 3), .inr (2, [.ref ((kA sn Aa) 3), .int (nI ((kN sn NS n) 3))])), (((kA sn Aa) 3), .inl (E.2.1, 14, .inl (aN ((kC sn CS Cd n) 3)))), (((kA sn Ha) 4), .inr (2, [.ref ((kA sn Aa) 4), .int (nI ((kN sn NS n) 4))])), (((kA sn Aa) 4), .inl (E.2.1, 14, .inl (aN ((kC sn CS Cd n) 4)))), (o, .inr (2, [.ref a, .int (nI n)])), (a, .inl (E.2.1, 14, .inl (aN Cd)))] := by
  refine Fn_ofL (own := RX4) (by decide) rfl rfl [(0, .ref so), (1, .ref o)] rfl ?_
  intro p e s m below meth c A C hr hnm
  rcases (show sn = 0 ∨ sn = 1 ∨ sn = 2 ∨ sn = 3 ∨ sn = 4 ∨ sn = 5 by omega) with rfl | rfl | rfl | rfl | rfl | rfl
  · refine G_aload_n C dX4_keep_0 rfl 1 rfl ?_
    refine G_getf C dX4_keep_1 wF_X4 wf_X4_18 (f := 1) (by decide) (ci := 4) rfl 0 rfl rfl 4 rfl ?_
    refine G_iconst C dX4_keep_4 (v := nI 5) rfl 5 rfl ?_
    refine G_icmp_ne_t C dX4_keep_5 12 rfl (by decide) ?_
    refine G_aload_n C dX4_keep_12 rfl 13 rfl ?_
    refine G_getf C dX4_keep_13 wF_X4 wf_X4_11 (f := 0) (by decide) (ci := 4) rfl 0 rfl rfl 16 rfl ?_
    refine G_aload_n C dX4_keep_16 rfl 17 rfl ?_
    refine G_getf C dX4_keep_17 wF_X4 wf_X4_18 (f := 1) (by decide) (ci := 4) rfl 0 rfl rfl 20 rfl ?_
    refine G_aald C dX4_keep_20 1 rfl (v := .ref (Ha 0)) (vp_in_nI (by decide) (by decide)) rfl 21 rfl ?_
    refine G_aload_n C dX4_keep_21 rfl 22 rfl ?_
    refine G_cV C dX4_keep_22 (c_X2_copyFrom l E (Ha 0) (Aa 0) (NS 0) (CS 0) o a n Cd (by first | assumption | omega)) wm_X4_25 wi_X2_copyFrom wsel_X2_copyFrom wn_X2 wc_X2_copyFrom rfl rfl ⟨by decide, by decide, rfl⟩ rfl (Nat.le_of_ble_eq_true rfl) 2 rfl rfl 0 rfl [2, 3, 12, 13] [0, 1, 4, 5, 6, 7, 8, 9, 10, 11] (wr := [(so, .inr (4, [.ref sk, .int (nI 0)])), (sk, .inl (E.2.2, 5, .inr (.inr (.inr (.inr (fun j => some (Ha j))))))), ((Ha 1), .inr (2, [.ref (Aa 1), .int (nI (NS 1))])), ((Aa 1), .inl (E.2.1, 14, .inl (aN (CS 1)))), ((Ha 2), .inr (2, [.ref (Aa 2), .int (nI (NS 2))])), ((Aa 2), .inl (E.2.1, 14, .inl (aN (CS 2)))), ((Ha 3), .inr (2, [.ref (Aa 3), .int (nI (NS 3))])), ((Aa 3), .inl (E.2.1, 14, .inl (aN (CS 3)))), ((Ha 4), .inr (2, [.ref (Aa 4), .int (nI (NS 4))])), ((Aa 4), .inl (E.2.1, 14, .inl (aN (CS 4))))]) rfl rfl rfl rfl rfl [0, 1, 10, 11, 2, 3, 4, 5, 6, 7, 8, 9, 12, 13] rfl [(so, .inr (4, [.ref sk, .int (nI 0)])), (sk, .inl (E.2.2, 5, .inr (.inr (.inr (.inr (fun j => some (Ha j))))))), ((Ha 0), .inr (2, [.ref (Aa 0), .int (nI n)])), ((Aa 0), .inl (E.2.1, 14, .inl (aN (cpN Cd (CS 0) n)))), ((Ha 1), .inr (2, [.ref (Aa 1), .int (nI (NS 1))])), ((Aa 1), .inl (E.2.1, 14, .inl (aN (CS 1)))), ((Ha 2), .inr (2, [.ref (Aa 2), .int (nI (NS 2))])), ((Aa 2), .inl (E.2.1, 14, .inl (aN (CS 2)))), ((Ha 3), .inr (2, [.ref (Aa 3), .int (nI (NS 3))])), ((Aa 3), .inl (E.2.1, 14, .inl (aN (CS 3)))), ((Ha 4), .inr (2, [.ref (Aa 4), .int (nI (NS 4))])), ((Aa 4), .inl (E.2.1, 14, .inl (aN (CS 4)))), (o, .inr (2, [.ref a, .int (nI n)])), (a, .inl (E.2.1, 14, .inl (aN Cd)))] rfl rfl [] rfl 25 rfl ?_
    refine G_aload_n C dX4_keep_25 rfl 26 rfl ?_
    refine G_dup C dX4_keep_26 rfl 27 rfl ?_
    refine G_getf C dX4_keep_27 wF_X4 wf_X4_18 (f := 1) (by decide) (ci := 4) rfl 0 rfl rfl 30 rfl ?_
    refine G_iconst C dX4_keep_30 (v := nI 1) rfl 31 rfl ?_
    refine G_iadd C dX4_keep_31 (v := nI 1) (by decide) 32 rfl ?_
    refine G_putf C dX4_keep_32 wF_X4 wf_X4_18 (f := 1) (by decide) (ci := 4) rfl tyX4_ok nmX4 rfl 0 rfl rfl rfl (Nat.le_of_ble_eq_true rfl) [(so, .inr (4, [.ref sk, .int (nI 1)])), (sk, .inl (E.2.2, 5, .inr (.inr (.inr (.inr (fun j => some (Ha j))))))), ((Ha 0), .inr (2, [.ref (Aa 0), .int (nI n)])), ((Aa 0), .inl (E.2.1, 14, .inl (aN (cpN Cd (CS 0) n)))), ((Ha 1), .inr (2, [.ref (Aa 1), .int (nI (NS 1))])), ((Aa 1), .inl (E.2.1, 14, .inl (aN (CS 1)))), ((Ha 2), .inr (2, [.ref (Aa 2), .int (nI (NS 2))])), ((Aa 2), .inl (E.2.1, 14, .inl (aN (CS 2)))), ((Ha 3), .inr (2, [.ref (Aa 3), .int (nI (NS 3))])), ((Aa 3), .inl (E.2.1, 14, .inl (aN (CS 3)))), ((Ha 4), .inr (2, [.ref (Aa 4), .int (nI (NS 4))])), ((Aa 4), .inl (E.2.1, 14, .inl (aN (CS 4)))), (o, .inr (2, [.ref a, .int (nI n)])), (a, .inl (E.2.1, 14, .inl (aN Cd)))] rfl 35 rfl ?_
    exact G_vret C hr dX4_keep_35 () trivial rfl rfl
  · refine G_aload_n C dX4_keep_0 rfl 1 rfl ?_
    refine G_getf C dX4_keep_1 wF_X4 wf_X4_18 (f := 1) (by decide) (ci := 4) rfl 0 rfl rfl 4 rfl ?_
    refine G_iconst C dX4_keep_4 (v := nI 5) rfl 5 rfl ?_
    refine G_icmp_ne_t C dX4_keep_5 12 rfl (by decide) ?_
    refine G_aload_n C dX4_keep_12 rfl 13 rfl ?_
    refine G_getf C dX4_keep_13 wF_X4 wf_X4_11 (f := 0) (by decide) (ci := 4) rfl 0 rfl rfl 16 rfl ?_
    refine G_aload_n C dX4_keep_16 rfl 17 rfl ?_
    refine G_getf C dX4_keep_17 wF_X4 wf_X4_18 (f := 1) (by decide) (ci := 4) rfl 0 rfl rfl 20 rfl ?_
    refine G_aald C dX4_keep_20 1 rfl (v := .ref (Ha 1)) (vp_in_nI (by decide) (by decide)) rfl 21 rfl ?_
    refine G_aload_n C dX4_keep_21 rfl 22 rfl ?_
    refine G_cV C dX4_keep_22 (c_X2_copyFrom l E (Ha 1) (Aa 1) (NS 1) (CS 1) o a n Cd (by first | assumption | omega)) wm_X4_25 wi_X2_copyFrom wsel_X2_copyFrom wn_X2 wc_X2_copyFrom rfl rfl ⟨by decide, by decide, rfl⟩ rfl (Nat.le_of_ble_eq_true rfl) 2 rfl rfl 0 rfl [4, 5, 12, 13] [0, 1, 2, 3, 6, 7, 8, 9, 10, 11] (wr := [(so, .inr (4, [.ref sk, .int (nI 1)])), (sk, .inl (E.2.2, 5, .inr (.inr (.inr (.inr (fun j => some (Ha j))))))), ((Ha 0), .inr (2, [.ref (Aa 0), .int (nI (NS 0))])), ((Aa 0), .inl (E.2.1, 14, .inl (aN (CS 0)))), ((Ha 2), .inr (2, [.ref (Aa 2), .int (nI (NS 2))])), ((Aa 2), .inl (E.2.1, 14, .inl (aN (CS 2)))), ((Ha 3), .inr (2, [.ref (Aa 3), .int (nI (NS 3))])), ((Aa 3), .inl (E.2.1, 14, .inl (aN (CS 3)))), ((Ha 4), .inr (2, [.ref (Aa 4), .int (nI (NS 4))])), ((Aa 4), .inl (E.2.1, 14, .inl (aN (CS 4))))]) rfl rfl rfl rfl rfl [0, 1, 2, 3, 10, 11, 4, 5, 6, 7, 8, 9, 12, 13] rfl [(so, .inr (4, [.ref sk, .int (nI 1)])), (sk, .inl (E.2.2, 5, .inr (.inr (.inr (.inr (fun j => some (Ha j))))))), ((Ha 0), .inr (2, [.ref (Aa 0), .int (nI (NS 0))])), ((Aa 0), .inl (E.2.1, 14, .inl (aN (CS 0)))), ((Ha 1), .inr (2, [.ref (Aa 1), .int (nI n)])), ((Aa 1), .inl (E.2.1, 14, .inl (aN (cpN Cd (CS 1) n)))), ((Ha 2), .inr (2, [.ref (Aa 2), .int (nI (NS 2))])), ((Aa 2), .inl (E.2.1, 14, .inl (aN (CS 2)))), ((Ha 3), .inr (2, [.ref (Aa 3), .int (nI (NS 3))])), ((Aa 3), .inl (E.2.1, 14, .inl (aN (CS 3)))), ((Ha 4), .inr (2, [.ref (Aa 4), .int (nI (NS 4))])), ((Aa 4), .inl (E.2.1, 14, .inl (aN (CS 4)))), (o, .inr (2, [.ref a, .int (nI n)])), (a, .inl (E.2.1, 14, .inl (aN Cd)))] rfl rfl [] rfl 25 rfl ?_
    refine G_aload_n C dX4_keep_25 rfl 26 rfl ?_
    refine G_dup C dX4_keep_26 rfl 27 rfl ?_
    refine G_getf C dX4_keep_27 wF_X4 wf_X4_18 (f := 1) (by decide) (ci := 4) rfl 0 rfl rfl 30 rfl ?_
    refine G_iconst C dX4_keep_30 (v := nI 1) rfl 31 rfl ?_
    refine G_iadd C dX4_keep_31 (v := nI 2) (by decide) 32 rfl ?_
    refine G_putf C dX4_keep_32 wF_X4 wf_X4_18 (f := 1) (by decide) (ci := 4) rfl tyX4_ok nmX4 rfl 0 rfl rfl rfl (Nat.le_of_ble_eq_true rfl) [(so, .inr (4, [.ref sk, .int (nI 2)])), (sk, .inl (E.2.2, 5, .inr (.inr (.inr (.inr (fun j => some (Ha j))))))), ((Ha 0), .inr (2, [.ref (Aa 0), .int (nI (NS 0))])), ((Aa 0), .inl (E.2.1, 14, .inl (aN (CS 0)))), ((Ha 1), .inr (2, [.ref (Aa 1), .int (nI n)])), ((Aa 1), .inl (E.2.1, 14, .inl (aN (cpN Cd (CS 1) n)))), ((Ha 2), .inr (2, [.ref (Aa 2), .int (nI (NS 2))])), ((Aa 2), .inl (E.2.1, 14, .inl (aN (CS 2)))), ((Ha 3), .inr (2, [.ref (Aa 3), .int (nI (NS 3))])), ((Aa 3), .inl (E.2.1, 14, .inl (aN (CS 3)))), ((Ha 4), .inr (2, [.ref (Aa 4), .int (nI (NS 4))])), ((Aa 4), .inl (E.2.1, 14, .inl (aN (CS 4)))), (o, .inr (2, [.ref a, .int (nI n)])), (a, .inl (E.2.1, 14, .inl (aN Cd)))] rfl 35 rfl ?_
    exact G_vret C hr dX4_keep_35 () trivial rfl rfl
  · refine G_aload_n C dX4_keep_0 rfl 1 rfl ?_
    refine G_getf C dX4_keep_1 wF_X4 wf_X4_18 (f := 1) (by decide) (ci := 4) rfl 0 rfl rfl 4 rfl ?_
    refine G_iconst C dX4_keep_4 (v := nI 5) rfl 5 rfl ?_
    refine G_icmp_ne_t C dX4_keep_5 12 rfl (by decide) ?_
    refine G_aload_n C dX4_keep_12 rfl 13 rfl ?_
    refine G_getf C dX4_keep_13 wF_X4 wf_X4_11 (f := 0) (by decide) (ci := 4) rfl 0 rfl rfl 16 rfl ?_
    refine G_aload_n C dX4_keep_16 rfl 17 rfl ?_
    refine G_getf C dX4_keep_17 wF_X4 wf_X4_18 (f := 1) (by decide) (ci := 4) rfl 0 rfl rfl 20 rfl ?_
    refine G_aald C dX4_keep_20 1 rfl (v := .ref (Ha 2)) (vp_in_nI (by decide) (by decide)) rfl 21 rfl ?_
    refine G_aload_n C dX4_keep_21 rfl 22 rfl ?_
    refine G_cV C dX4_keep_22 (c_X2_copyFrom l E (Ha 2) (Aa 2) (NS 2) (CS 2) o a n Cd (by first | assumption | omega)) wm_X4_25 wi_X2_copyFrom wsel_X2_copyFrom wn_X2 wc_X2_copyFrom rfl rfl ⟨by decide, by decide, rfl⟩ rfl (Nat.le_of_ble_eq_true rfl) 2 rfl rfl 0 rfl [6, 7, 12, 13] [0, 1, 2, 3, 4, 5, 8, 9, 10, 11] (wr := [(so, .inr (4, [.ref sk, .int (nI 2)])), (sk, .inl (E.2.2, 5, .inr (.inr (.inr (.inr (fun j => some (Ha j))))))), ((Ha 0), .inr (2, [.ref (Aa 0), .int (nI (NS 0))])), ((Aa 0), .inl (E.2.1, 14, .inl (aN (CS 0)))), ((Ha 1), .inr (2, [.ref (Aa 1), .int (nI (NS 1))])), ((Aa 1), .inl (E.2.1, 14, .inl (aN (CS 1)))), ((Ha 3), .inr (2, [.ref (Aa 3), .int (nI (NS 3))])), ((Aa 3), .inl (E.2.1, 14, .inl (aN (CS 3)))), ((Ha 4), .inr (2, [.ref (Aa 4), .int (nI (NS 4))])), ((Aa 4), .inl (E.2.1, 14, .inl (aN (CS 4))))]) rfl rfl rfl rfl rfl [0, 1, 2, 3, 4, 5, 10, 11, 6, 7, 8, 9, 12, 13] rfl [(so, .inr (4, [.ref sk, .int (nI 2)])), (sk, .inl (E.2.2, 5, .inr (.inr (.inr (.inr (fun j => some (Ha j))))))), ((Ha 0), .inr (2, [.ref (Aa 0), .int (nI (NS 0))])), ((Aa 0), .inl (E.2.1, 14, .inl (aN (CS 0)))), ((Ha 1), .inr (2, [.ref (Aa 1), .int (nI (NS 1))])), ((Aa 1), .inl (E.2.1, 14, .inl (aN (CS 1)))), ((Ha 2), .inr (2, [.ref (Aa 2), .int (nI n)])), ((Aa 2), .inl (E.2.1, 14, .inl (aN (cpN Cd (CS 2) n)))), ((Ha 3), .inr (2, [.ref (Aa 3), .int (nI (NS 3))])), ((Aa 3), .inl (E.2.1, 14, .inl (aN (CS 3)))), ((Ha 4), .inr (2, [.ref (Aa 4), .int (nI (NS 4))])), ((Aa 4), .inl (E.2.1, 14, .inl (aN (CS 4)))), (o, .inr (2, [.ref a, .int (nI n)])), (a, .inl (E.2.1, 14, .inl (aN Cd)))] rfl rfl [] rfl 25 rfl ?_
    refine G_aload_n C dX4_keep_25 rfl 26 rfl ?_
    refine G_dup C dX4_keep_26 rfl 27 rfl ?_
    refine G_getf C dX4_keep_27 wF_X4 wf_X4_18 (f := 1) (by decide) (ci := 4) rfl 0 rfl rfl 30 rfl ?_
    refine G_iconst C dX4_keep_30 (v := nI 1) rfl 31 rfl ?_
    refine G_iadd C dX4_keep_31 (v := nI 3) (by decide) 32 rfl ?_
    refine G_putf C dX4_keep_32 wF_X4 wf_X4_18 (f := 1) (by decide) (ci := 4) rfl tyX4_ok nmX4 rfl 0 rfl rfl rfl (Nat.le_of_ble_eq_true rfl) [(so, .inr (4, [.ref sk, .int (nI 3)])), (sk, .inl (E.2.2, 5, .inr (.inr (.inr (.inr (fun j => some (Ha j))))))), ((Ha 0), .inr (2, [.ref (Aa 0), .int (nI (NS 0))])), ((Aa 0), .inl (E.2.1, 14, .inl (aN (CS 0)))), ((Ha 1), .inr (2, [.ref (Aa 1), .int (nI (NS 1))])), ((Aa 1), .inl (E.2.1, 14, .inl (aN (CS 1)))), ((Ha 2), .inr (2, [.ref (Aa 2), .int (nI n)])), ((Aa 2), .inl (E.2.1, 14, .inl (aN (cpN Cd (CS 2) n)))), ((Ha 3), .inr (2, [.ref (Aa 3), .int (nI (NS 3))])), ((Aa 3), .inl (E.2.1, 14, .inl (aN (CS 3)))), ((Ha 4), .inr (2, [.ref (Aa 4), .int (nI (NS 4))])), ((Aa 4), .inl (E.2.1, 14, .inl (aN (CS 4)))), (o, .inr (2, [.ref a, .int (nI n)])), (a, .inl (E.2.1, 14, .inl (aN Cd)))] rfl 35 rfl ?_
    exact G_vret C hr dX4_keep_35 () trivial rfl rfl
  · refine G_aload_n C dX4_keep_0 rfl 1 rfl ?_
    refine G_getf C dX4_keep_1 wF_X4 wf_X4_18 (f := 1) (by decide) (ci := 4) rfl 0 rfl rfl 4 rfl ?_
    refine G_iconst C dX4_keep_4 (v := nI 5) rfl 5 rfl ?_
    refine G_icmp_ne_t C dX4_keep_5 12 rfl (by decide) ?_
    refine G_aload_n C dX4_keep_12 rfl 13 rfl ?_
    refine G_getf C dX4_keep_13 wF_X4 wf_X4_11 (f := 0) (by decide) (ci := 4) rfl 0 rfl rfl 16 rfl ?_
    refine G_aload_n C dX4_keep_16 rfl 17 rfl ?_
    refine G_getf C dX4_keep_17 wF_X4 wf_X4_18 (f := 1) (by decide) (ci := 4) rfl 0 rfl rfl 20 rfl ?_
    refine G_aald C dX4_keep_20 1 rfl (v := .ref (Ha 3)) (vp_in_nI (by decide) (by decide)) rfl 21 rfl ?_
    refine G_aload_n C dX4_keep_21 rfl 22 rfl ?_
    refine G_cV C dX4_keep_22 (c_X2_copyFrom l E (Ha 3) (Aa 3) (NS 3) (CS 3) o a n Cd (by first | assumption | omega)) wm_X4_25 wi_X2_copyFrom wsel_X2_copyFrom wn_X2 wc_X2_copyFrom rfl rfl ⟨by decide, by decide, rfl⟩ rfl (Nat.le_of_ble_eq_true rfl) 2 rfl rfl 0 rfl [8, 9, 12, 13] [0, 1, 2, 3, 4, 5, 6, 7, 10, 11] (wr := [(so, .inr (4, [.ref sk, .int (nI 3)])), (sk, .inl (E.2.2, 5, .inr (.inr (.inr (.inr (fun j => some (Ha j))))))), ((Ha 0), .inr (2, [.ref (Aa 0), .int (nI (NS 0))])), ((Aa 0), .inl (E.2.1, 14, .inl (aN (CS 0)))), ((Ha 1), .inr (2, [.ref (Aa 1), .int (nI (NS 1))])), ((Aa 1), .inl (E.2.1, 14, .inl (aN (CS 1)))), ((Ha 2), .inr (2, [.ref (Aa 2), .int (nI (NS 2))])), ((Aa 2), .inl (E.2.1, 14, .inl (aN (CS 2)))), ((Ha 4), .inr (2, [.ref (Aa 4), .int (nI (NS 4))])), ((Aa 4), .inl (E.2.1, 14, .inl (aN (CS 4))))]) rfl rfl rfl rfl rfl [0, 1, 2, 3, 4, 5, 6, 7, 10, 11, 8, 9, 12, 13] rfl [(so, .inr (4, [.ref sk, .int (nI 3)])), (sk, .inl (E.2.2, 5, .inr (.inr (.inr (.inr (fun j => some (Ha j))))))), ((Ha 0), .inr (2, [.ref (Aa 0), .int (nI (NS 0))])), ((Aa 0), .inl (E.2.1, 14, .inl (aN (CS 0)))), ((Ha 1), .inr (2, [.ref (Aa 1), .int (nI (NS 1))])), ((Aa 1), .inl (E.2.1, 14, .inl (aN (CS 1)))), ((Ha 2), .inr (2, [.ref (Aa 2), .int (nI (NS 2))])), ((Aa 2), .inl (E.2.1, 14, .inl (aN (CS 2)))), ((Ha 3), .inr (2, [.ref (Aa 3), .int (nI n)])), ((Aa 3), .inl (E.2.1, 14, .inl (aN (cpN Cd (CS 3) n)))), ((Ha 4), .inr (2, [.ref (Aa 4), .int (nI (NS 4))])), ((Aa 4), .inl (E.2.1, 14, .inl (aN (CS 4)))), (o, .inr (2, [.ref a, .int (nI n)])), (a, .inl (E.2.1, 14, .inl (aN Cd)))] rfl rfl [] rfl 25 rfl ?_
    refine G_aload_n C dX4_keep_25 rfl 26 rfl ?_
    refine G_dup C dX4_keep_26 rfl 27 rfl ?_
    refine G_getf C dX4_keep_27 wF_X4 wf_X4_18 (f := 1) (by decide) (ci := 4) rfl 0 rfl rfl 30 rfl ?_
    refine G_iconst C dX4_keep_30 (v := nI 1) rfl 31 rfl ?_
    refine G_iadd C dX4_keep_31 (v := nI 4) (by decide) 32 rfl ?_
    refine G_putf C dX4_keep_32 wF_X4 wf_X4_18 (f := 1) (by decide) (ci := 4) rfl tyX4_ok nmX4 rfl 0 rfl rfl rfl (Nat.le_of_ble_eq_true rfl) [(so, .inr (4, [.ref sk, .int (nI 4)])), (sk, .inl (E.2.2, 5, .inr (.inr (.inr (.inr (fun j => some (Ha j))))))), ((Ha 0), .inr (2, [.ref (Aa 0), .int (nI (NS 0))])), ((Aa 0), .inl (E.2.1, 14, .inl (aN (CS 0)))), ((Ha 1), .inr (2, [.ref (Aa 1), .int (nI (NS 1))])), ((Aa 1), .inl (E.2.1, 14, .inl (aN (CS 1)))), ((Ha 2), .inr (2, [.ref (Aa 2), .int (nI (NS 2))])), ((Aa 2), .inl (E.2.1, 14, .inl (aN (CS 2)))), ((Ha 3), .inr (2, [.ref (Aa 3), .int (nI n)])), ((Aa 3), .inl (E.2.1, 14, .inl (aN (cpN Cd (CS 3) n)))), ((Ha 4), .inr (2, [.ref (Aa 4), .int (nI (NS 4))])), ((Aa 4), .inl (E.2.1, 14, .inl (aN (CS 4)))), (o, .inr (2, [.ref a, .int (nI n)])), (a, .inl (E.2.1, 14, .inl (aN Cd)))] rfl 35 rfl ?_
    exact G_vret C hr dX4_keep_35 () trivial rfl rfl
  · refine G_aload_n C dX4_keep_0 rfl 1 rfl ?_
    refine G_getf C dX4_keep_1 wF_X4 wf_X4_18 (f := 1) (by decide) (ci := 4) rfl 0 rfl rfl 4 rfl ?_
    refine G_iconst C dX4_keep_4 (v := nI 5) rfl 5 rfl ?_
    refine G_icmp_ne_t C dX4_keep_5 12 rfl (by decide) ?_
    refine G_aload_n C dX4_keep_12 rfl 13 rfl ?_
    refine G_getf C dX4_keep_13 wF_X4 wf_X4_11 (f := 0) (by decide) (ci := 4) rfl 0 rfl rfl 16 rfl ?_
    refine G_aload_n C dX4_keep_16 rfl 17 rfl ?_
    refine G_getf C dX4_keep_17 wF_X4 wf_X4_18 (f := 1) (by decide) (ci := 4) rfl 0 rfl rfl 20 rfl ?_
    refine G_aald C dX4_keep_20 1 rfl (v := .ref (Ha 4)) (vp_in_nI (by decide) (by decide)) rfl 21 rfl ?_
    refine G_aload_n C dX4_keep_21 rfl 22 rfl ?_
    refine G_cV C dX4_keep_22 (c_X2_copyFrom l E (Ha 4) (Aa 4) (NS 4) (CS 4) o a n Cd (by first | assumption | omega)) wm_X4_25 wi_X2_copyFrom wsel_X2_copyFrom wn_X2 wc_X2_copyFrom rfl rfl ⟨by decide, by decide, rfl⟩ rfl (Nat.le_of_ble_eq_true rfl) 2 rfl rfl 0 rfl [10, 11, 12, 13] [0, 1, 2, 3, 4, 5, 6, 7, 8, 9] (wr := [(so, .inr (4, [.ref sk, .int (nI 4)])), (sk, .inl (E.2.2, 5, .inr (.inr (.inr (.inr (fun j => some (Ha j))))))), ((Ha 0), .inr (2, [.ref (Aa 0), .int (nI (NS 0))])), ((Aa 0), .inl (E.2.1, 14, .inl (aN (CS 0)))), ((Ha 1), .inr (2, [.ref (Aa 1), .int (nI (NS 1))])), ((Aa 1), .inl (E.2.1, 14, .inl (aN (CS 1)))), ((Ha 2), .inr (2, [.ref (Aa 2), .int (nI (NS 2))])), ((Aa 2), .inl (E.2.1, 14, .inl (aN (CS 2)))), ((Ha 3), .inr (2, [.ref (Aa 3), .int (nI (NS 3))])), ((Aa 3), .inl (E.2.1, 14, .inl (aN (CS 3))))]) rfl rfl rfl rfl rfl [0, 1, 2, 3, 4, 5, 6, 7, 8, 9, 10, 11, 12, 13] rfl [(so, .inr (4, [.ref sk, .int (nI 4)])), (sk, .inl (E.2.2, 5, .inr (.inr (.inr (.inr (fun j => some (Ha j))))))), ((Ha 0), .inr (2, [.ref (Aa 0), .int (nI (NS 0))])), ((Aa 0), .inl (E.2.1, 14, .inl (aN (CS 0)))), ((Ha 1), .inr (2, [.ref (Aa 1), .int (nI (NS 1))])), ((Aa 1), .inl (E.2.1, 14, .inl (aN (CS 1)))), ((Ha 2), .inr (2, [.ref (Aa 2), .int (nI (NS 2))])), ((Aa 2), .inl (E.2.1, 14, .inl (aN (CS 2)))), ((Ha 3), .inr (2, [.ref (Aa 3), .int (nI (NS 3))])), ((Aa 3), .inl (E.2.1, 14, .inl (aN (CS 3)))), ((Ha 4), .inr (2, [.ref (Aa 4), .int (nI n)])), ((Aa 4), .inl (E.2.1, 14, .inl (aN (cpN Cd (CS 4) n)))), (o, .inr (2, [.ref a, .int (nI n)])), (a, .inl (E.2.1, 14, .inl (aN Cd)))] rfl rfl [] rfl 25 rfl ?_
    refine G_aload_n C dX4_keep_25 rfl 26 rfl ?_
    refine G_dup C dX4_keep_26 rfl 27 rfl ?_
    refine G_getf C dX4_keep_27 wF_X4 wf_X4_18 (f := 1) (by decide) (ci := 4) rfl 0 rfl rfl 30 rfl ?_
    refine G_iconst C dX4_keep_30 (v := nI 1) rfl 31 rfl ?_
    refine G_iadd C dX4_keep_31 (v := nI 5) (by decide) 32 rfl ?_
    refine G_putf C dX4_keep_32 wF_X4 wf_X4_18 (f := 1) (by decide) (ci := 4) rfl tyX4_ok nmX4 rfl 0 rfl rfl rfl (Nat.le_of_ble_eq_true rfl) [(so, .inr (4, [.ref sk, .int (nI 5)])), (sk, .inl (E.2.2, 5, .inr (.inr (.inr (.inr (fun j => some (Ha j))))))), ((Ha 0), .inr (2, [.ref (Aa 0), .int (nI (NS 0))])), ((Aa 0), .inl (E.2.1, 14, .inl (aN (CS 0)))), ((Ha 1), .inr (2, [.ref (Aa 1), .int (nI (NS 1))])), ((Aa 1), .inl (E.2.1, 14, .inl (aN (CS 1)))), ((Ha 2), .inr (2, [.ref (Aa 2), .int (nI (NS 2))])), ((Aa 2), .inl (E.2.1, 14, .inl (aN (CS 2)))), ((Ha 3), .inr (2, [.ref (Aa 3), .int (nI (NS 3))])), ((Aa 3), .inl (E.2.1, 14, .inl (aN (CS 3)))), ((Ha 4), .inr (2, [.ref (Aa 4), .int (nI n)])), ((Aa 4), .inl (E.2.1, 14, .inl (aN (cpN Cd (CS 4) n)))), (o, .inr (2, [.ref a, .int (nI n)])), (a, .inl (E.2.1, 14, .inl (aN Cd)))] rfl 35 rfl ?_
    exact G_vret C hr dX4_keep_35 () trivial rfl rfl
  · refine G_aload_n C dX4_keep_0 rfl 1 rfl ?_
    refine G_getf C dX4_keep_1 wF_X4 wf_X4_18 (f := 1) (by decide) (ci := 4) rfl 0 rfl rfl 4 rfl ?_
    refine G_iconst C dX4_keep_4 (v := nI 5) rfl 5 rfl ?_
    refine G_icmp_ne_f C dX4_keep_5 12 rfl 8 rfl (by decide) ?_
    refine G_aload_n C dX4_keep_8 rfl 9 rfl ?_
    refine G_cV C dX4_keep_9 (c_X4_loseOldest l E so sk Ha Aa 5 NS CS ) wm_X4_22 wi_X4_loseOldest wsel_X4_loseOldest wn_X4 wc_X4_loseOldest rfl rfl ⟨by decide, by decide, rfl⟩ rfl (Nat.le_of_ble_eq_true rfl) 4 rfl rfl 0 rfl [0, 1, 2, 3, 4, 5, 6, 7, 8, 9, 10, 11] [12, 13] (wr := [(o, .inr (2, [.ref a, .int (nI n)])), (a, .inl (E.2.1, 14, .inl (aN Cd)))]) rfl rfl rfl rfl rfl [2, 3, 4, 5, 6, 7, 8, 9, 10, 11, 12, 13, 0, 1] rfl [(so, .inr (4, [.ref sk, .int (nI 4)])), (sk, .inl (E.2.2, 5, .inr (.inr (.inr (.inr (fun j => some (rotA Ha j))))))), ((rotA Ha 0), .inr (2, [.ref (rotA Aa 0), .int (nI (NS 1))])), ((rotA Aa 0), .inl (E.2.1, 14, .inl (aN (CS 1)))), ((rotA Ha 1), .inr (2, [.ref (rotA Aa 1), .int (nI (NS 2))])), ((rotA Aa 1), .inl (E.2.1, 14, .inl (aN (CS 2)))), ((rotA Ha 2), .inr (2, [.ref (rotA Aa 2), .int (nI (NS 3))])), ((rotA Aa 2), .inl (E.2.1, 14, .inl (aN (CS 3)))), ((rotA Ha 3), .inr (2, [.ref (rotA Aa 3), .int (nI (NS 4))])), ((rotA Aa 3), .inl (E.2.1, 14, .inl (aN (CS 4)))), ((rotA Ha 4), .inr (2, [.ref (rotA Aa 4), .int (nI (NS 0))])), ((rotA Aa 4), .inl (E.2.1, 14, .inl (aN (CS 0)))), (o, .inr (2, [.ref a, .int (nI n)])), (a, .inl (E.2.1, 14, .inl (aN Cd)))] rfl rfl [] rfl 12 rfl ?_
    refine G_aload_n C dX4_keep_12 rfl 13 rfl ?_
    refine G_getf C dX4_keep_13 wF_X4 wf_X4_11 (f := 0) (by decide) (ci := 4) rfl 0 rfl rfl 16 rfl ?_
    refine G_aload_n C dX4_keep_16 rfl 17 rfl ?_
    refine G_getf C dX4_keep_17 wF_X4 wf_X4_18 (f := 1) (by decide) (ci := 4) rfl 0 rfl rfl 20 rfl ?_
    refine G_aald C dX4_keep_20 1 rfl (v := .ref (rotA Ha 4)) (vp_in_nI (by decide) (by decide)) rfl 21 rfl ?_
    refine G_aload_n C dX4_keep_21 rfl 22 rfl ?_
    refine G_cV C dX4_keep_22 (c_X2_copyFrom l E (rotA Ha 4) (rotA Aa 4) (NS 0) (CS 0) o a n Cd (by first | assumption | omega)) wm_X4_25 wi_X2_copyFrom wsel_X2_copyFrom wn_X2 wc_X2_copyFrom rfl rfl ⟨by decide, by decide, rfl⟩ rfl (Nat.le_of_ble_eq_true rfl) 2 rfl rfl 0 rfl [10, 11, 12, 13] [0, 1, 2, 3, 4, 5, 6, 7, 8, 9] (wr := [(so, .inr (4, [.ref sk, .int (nI 4)])), (sk, .inl (E.2.2, 5, .inr (.inr (.inr (.inr (fun j => some (rotA Ha j))))))), ((rotA Ha 0), .inr (2, [.ref (rotA Aa 0), .int (nI (NS 1))])), ((rotA Aa 0), .inl (E.2.1, 14, .inl (aN (CS 1)))), ((rotA Ha 1), .inr (2, [.ref (rotA Aa 1), .int (nI (NS 2))])), ((rotA Aa 1), .inl (E.2.1, 14, .inl (aN (CS 2)))), ((rotA Ha 2), .inr (2, [.ref (rotA Aa 2), .int (nI (NS 3))])), ((rotA Aa 2), .inl (E.2.1, 14, .inl (aN (CS 3)))), ((rotA Ha 3), .inr (2, [.ref (rotA Aa 3), .int (nI (NS 4))])), ((rotA Aa 3), .inl (E.2.1, 14, .inl (aN (CS 4))))]) rfl rfl rfl rfl rfl [0, 1, 2, 3, 4, 5, 6, 7, 8, 9, 10, 11, 12, 13] rfl [(so, .inr (4, [.ref sk, .int (nI 4)])), (sk, .inl (E.2.2, 5, .inr (.inr (.inr (.inr (fun j => some (rotA Ha j))))))), ((rotA Ha 0), .inr (2, [.ref (rotA Aa 0), .int (nI (NS 1))])), ((rotA Aa 0), .inl (E.2.1, 14, .inl (aN (CS 1)))), ((rotA Ha 1), .inr (2, [.ref (rotA Aa 1), .int (nI (NS 2))])), ((rotA Aa 1), .inl (E.2.1, 14, .inl (aN (CS 2)))), ((rotA Ha 2), .inr (2, [.ref (rotA Aa 2), .int (nI (NS 3))])), ((rotA Aa 2), .inl (E.2.1, 14, .inl (aN (CS 3)))), ((rotA Ha 3), .inr (2, [.ref (rotA Aa 3), .int (nI (NS 4))])), ((rotA Aa 3), .inl (E.2.1, 14, .inl (aN (CS 4)))), ((rotA Ha 4), .inr (2, [.ref (rotA Aa 4), .int (nI n)])), ((rotA Aa 4), .inl (E.2.1, 14, .inl (aN (cpN Cd (CS 0) n)))), (o, .inr (2, [.ref a, .int (nI n)])), (a, .inl (E.2.1, 14, .inl (aN Cd)))] rfl rfl [] rfl 25 rfl ?_
    refine G_aload_n C dX4_keep_25 rfl 26 rfl ?_
    refine G_dup C dX4_keep_26 rfl 27 rfl ?_
    refine G_getf C dX4_keep_27 wF_X4 wf_X4_18 (f := 1) (by decide) (ci := 4) rfl 0 rfl rfl 30 rfl ?_
    refine G_iconst C dX4_keep_30 (v := nI 1) rfl 31 rfl ?_
    refine G_iadd C dX4_keep_31 (v := nI 5) (by decide) 32 rfl ?_
    refine G_putf C dX4_keep_32 wF_X4 wf_X4_18 (f := 1) (by decide) (ci := 4) rfl tyX4_ok nmX4 rfl 0 rfl rfl rfl (Nat.le_of_ble_eq_true rfl) [(so, .inr (4, [.ref sk, .int (nI 5)])), (sk, .inl (E.2.2, 5, .inr (.inr (.inr (.inr (fun j => some (rotA Ha j))))))), ((rotA Ha 0), .inr (2, [.ref (rotA Aa 0), .int (nI (NS 1))])), ((rotA Aa 0), .inl (E.2.1, 14, .inl (aN (CS 1)))), ((rotA Ha 1), .inr (2, [.ref (rotA Aa 1), .int (nI (NS 2))])), ((rotA Aa 1), .inl (E.2.1, 14, .inl (aN (CS 2)))), ((rotA Ha 2), .inr (2, [.ref (rotA Aa 2), .int (nI (NS 3))])), ((rotA Aa 2), .inl (E.2.1, 14, .inl (aN (CS 3)))), ((rotA Ha 3), .inr (2, [.ref (rotA Aa 3), .int (nI (NS 4))])), ((rotA Aa 3), .inl (E.2.1, 14, .inl (aN (CS 4)))), ((rotA Ha 4), .inr (2, [.ref (rotA Aa 4), .int (nI n)])), ((rotA Aa 4), .inl (E.2.1, 14, .inl (aN (cpN Cd (CS 0) n)))), (o, .inr (2, [.ref a, .int (nI n)])), (a, .inl (E.2.1, 14, .inl (aN Cd)))] rfl 35 rfl ?_
    exact G_vret C hr dX4_keep_35 () trivial rfl rfl

set_option maxHeartbeats 4000000 in
set_option maxRecDepth 100000 in
theorem c_X4_restore (l : Launch) (E : gE) (so sk : Nat) (Ha Aa : Nat → Nat) (sn : Nat) (NS : Nat → Nat) (CS : Nat → Nat → Nat) (o a n : Nat) (Cd : Nat → Nat) (hs5 : sn ≤ 5) (hs0 : 0 < sn) (hN : ∀ j, j < sn → NS j ≤ 14) : FD l E yX4_restore cX4_restore 2 none { frames := 2, cells := 0, slots := 0, locals := 61 } [.ref so, .ref o] [(so, .inr (4, [.ref sk, .int (nI sn)])), (sk, .inl (E.2.2, 5, .inr (.inr (.inr (.inr (fun j => some (Ha j))))))), ((Ha 0), .inr (2, [.ref (Aa 0), .int (nI (NS 0))])), ((Aa 0), .inl (E.2.1, 14, .inl (aN (CS 0)))), ((Ha 1), .inr (2, [.ref (Aa 1), .int (nI (NS 1))])), ((Aa 1), .inl (E.2.1, 14, .inl (aN (CS 1)))), ((Ha 2), .inr (2, [.ref (Aa 2), .int (nI (NS 2))])), ((Aa 2), .inl (E.2.1, 14, .inl (aN (CS 2)))), ((Ha 3), .inr (2, [.ref (Aa 3), .int (nI (NS 3))])), ((Aa 3), .inl (E.2.1, 14, .inl (aN (CS 3)))), ((Ha 4), .inr (2, [.ref (Aa 4), .int (nI (NS 4))])), ((Aa 4), .inl (E.2.1, 14, .inl (aN (CS 4)))), (o, .inr (2, [.ref a, .int (nI n)])), (a, .inl (E.2.1, 14, .inl (aN Cd)))] none [(so, .inr (4, [.ref sk, .int (nI (sn - 1))])), (sk, .inl (E.2.2, 5, .inr (.inr (.inr (.inr (fun j => some (Ha j))))))), ((Ha 0), .inr (2, [.ref (Aa 0), .int (nI (NS 0))])), ((Aa 0), .inl (E.2.1, 14, .inl (aN (CS 0)))), ((Ha 1), .inr (2, [.ref (Aa 1), .int (nI (NS 1))])), ((Aa 1), .inl (E.2.1, 14, .inl (aN (CS 1)))), ((Ha 2), .inr (2, [.ref (Aa 2), .int (nI (NS 2))])), ((Aa 2), .inl (E.2.1, 14, .inl (aN (CS 2)))), ((Ha 3), .inr (2, [.ref (Aa 3), .int (nI (NS 3))])), ((Aa 3), .inl (E.2.1, 14, .inl (aN (CS 3)))), ((Ha 4), .inr (2, [.ref (Aa 4), .int (nI (NS 4))])), ((Aa 4), .inl (E.2.1, 14, .inl (aN (CS 4)))), (o, .inr (2, [.ref a, .int (nI (NS (sn - 1)))])), (a, .inl (E.2.1, 14, .inl (aN (cpN (CS (sn - 1)) Cd (NS (sn - 1))))))] := by
  refine Fn_ofL (own := RX4) (by decide) rfl rfl [(0, .ref so), (1, .ref o)] rfl ?_
  intro p e s m below meth c A C hr hnm
  rcases (show sn = 1 ∨ sn = 2 ∨ sn = 3 ∨ sn = 4 ∨ sn = 5 by omega) with rfl | rfl | rfl | rfl | rfl
  · refine G_aload_n C dX4_restore_0 rfl 1 rfl ?_
    refine G_getf C dX4_restore_1 wF_X4 wf_X4_18 (f := 1) (by decide) (ci := 4) rfl 0 rfl rfl 4 rfl ?_
    refine G_if_le_f C dX4_restore_4 30 rfl 7 rfl (by decide) ?_
    refine G_aload_n C dX4_restore_7 rfl 8 rfl ?_
    refine G_dup C dX4_restore_8 rfl 9 rfl ?_
    refine G_getf C dX4_restore_9 wF_X4 wf_X4_18 (f := 1) (by decide) (ci := 4) rfl 0 rfl rfl 12 rfl ?_
    refine G_iconst C dX4_restore_12 (v := nI 1) rfl 13 rfl ?_
    refine G_isub C dX4_restore_13 (v := nI 0) (by decide) 14 rfl ?_
    refine G_putf C dX4_restore_14 wF_X4 wf_X4_18 (f := 1) (by decide) (ci := 4) rfl tyX4_ok nmX4 rfl 0 rfl rfl rfl (Nat.le_of_ble_eq_true rfl) [(so, .inr (4, [.ref sk, .int (nI 0)])), (sk, .inl (E.2.2, 5, .inr (.inr (.inr (.inr (fun j => some (Ha j))))))), ((Ha 0), .inr (2, [.ref (Aa 0), .int (nI (NS 0))])), ((Aa 0), .inl (E.2.1, 14, .inl (aN (CS 0)))), ((Ha 1), .inr (2, [.ref (Aa 1), .int (nI (NS 1))])), ((Aa 1), .inl (E.2.1, 14, .inl (aN (CS 1)))), ((Ha 2), .inr (2, [.ref (Aa 2), .int (nI (NS 2))])), ((Aa 2), .inl (E.2.1, 14, .inl (aN (CS 2)))), ((Ha 3), .inr (2, [.ref (Aa 3), .int (nI (NS 3))])), ((Aa 3), .inl (E.2.1, 14, .inl (aN (CS 3)))), ((Ha 4), .inr (2, [.ref (Aa 4), .int (nI (NS 4))])), ((Aa 4), .inl (E.2.1, 14, .inl (aN (CS 4)))), (o, .inr (2, [.ref a, .int (nI n)])), (a, .inl (E.2.1, 14, .inl (aN Cd)))] rfl 17 rfl ?_
    refine G_aload_n C dX4_restore_17 rfl 18 rfl ?_
    refine G_aload_n C dX4_restore_18 rfl 19 rfl ?_
    refine G_getf C dX4_restore_19 wF_X4 wf_X4_11 (f := 0) (by decide) (ci := 4) rfl 0 rfl rfl 22 rfl ?_
    refine G_aload_n C dX4_restore_22 rfl 23 rfl ?_
    refine G_getf C dX4_restore_23 wF_X4 wf_X4_18 (f := 1) (by decide) (ci := 4) rfl 0 rfl rfl 26 rfl ?_
    refine G_aald C dX4_restore_26 1 rfl (v := .ref (Ha 0)) (vp_in_nI (by decide) (by decide)) rfl 27 rfl ?_
    refine G_cV C dX4_restore_27 (c_X2_copyFrom l E o a n Cd (Ha 0) (Aa 0) (NS 0) (CS 0) (hN _ (by omega))) wm_X4_25 wi_X2_copyFrom wsel_X2_copyFrom wn_X2 wc_X2_copyFrom rfl rfl ⟨by decide, by decide, rfl⟩ rfl (Nat.le_of_ble_eq_true rfl) 2 rfl rfl 0 rfl [12, 13, 2, 3] [0, 1, 4, 5, 6, 7, 8, 9, 10, 11] (wr := [(so, .inr (4, [.ref sk, .int (nI 0)])), (sk, .inl (E.2.2, 5, .inr (.inr (.inr (.inr (fun j => some (Ha j))))))), ((Ha 1), .inr (2, [.ref (Aa 1), .int (nI (NS 1))])), ((Aa 1), .inl (E.2.1, 14, .inl (aN (CS 1)))), ((Ha 2), .inr (2, [.ref (Aa 2), .int (nI (NS 2))])), ((Aa 2), .inl (E.2.1, 14, .inl (aN (CS 2)))), ((Ha 3), .inr (2, [.ref (Aa 3), .int (nI (NS 3))])), ((Aa 3), .inl (E.2.1, 14, .inl (aN (CS 3)))), ((Ha 4), .inr (2, [.ref (Aa 4), .int (nI (NS 4))])), ((Aa 4), .inl (E.2.1, 14, .inl (aN (CS 4))))]) rfl rfl rfl rfl rfl [0, 1, 12, 13, 2, 3, 4, 5, 6, 7, 8, 9, 10, 11] rfl [(so, .inr (4, [.ref sk, .int (nI 0)])), (sk, .inl (E.2.2, 5, .inr (.inr (.inr (.inr (fun j => some (Ha j))))))), ((Ha 0), .inr (2, [.ref (Aa 0), .int (nI (NS 0))])), ((Aa 0), .inl (E.2.1, 14, .inl (aN (CS 0)))), ((Ha 1), .inr (2, [.ref (Aa 1), .int (nI (NS 1))])), ((Aa 1), .inl (E.2.1, 14, .inl (aN (CS 1)))), ((Ha 2), .inr (2, [.ref (Aa 2), .int (nI (NS 2))])), ((Aa 2), .inl (E.2.1, 14, .inl (aN (CS 2)))), ((Ha 3), .inr (2, [.ref (Aa 3), .int (nI (NS 3))])), ((Aa 3), .inl (E.2.1, 14, .inl (aN (CS 3)))), ((Ha 4), .inr (2, [.ref (Aa 4), .int (nI (NS 4))])), ((Aa 4), .inl (E.2.1, 14, .inl (aN (CS 4)))), (o, .inr (2, [.ref a, .int (nI (NS 0))])), (a, .inl (E.2.1, 14, .inl (aN (cpN (CS 0) Cd (NS 0)))))] rfl rfl [] rfl 30 rfl ?_
    exact G_vret C hr dX4_restore_30 () trivial rfl rfl
  · refine G_aload_n C dX4_restore_0 rfl 1 rfl ?_
    refine G_getf C dX4_restore_1 wF_X4 wf_X4_18 (f := 1) (by decide) (ci := 4) rfl 0 rfl rfl 4 rfl ?_
    refine G_if_le_f C dX4_restore_4 30 rfl 7 rfl (by decide) ?_
    refine G_aload_n C dX4_restore_7 rfl 8 rfl ?_
    refine G_dup C dX4_restore_8 rfl 9 rfl ?_
    refine G_getf C dX4_restore_9 wF_X4 wf_X4_18 (f := 1) (by decide) (ci := 4) rfl 0 rfl rfl 12 rfl ?_
    refine G_iconst C dX4_restore_12 (v := nI 1) rfl 13 rfl ?_
    refine G_isub C dX4_restore_13 (v := nI 1) (by decide) 14 rfl ?_
    refine G_putf C dX4_restore_14 wF_X4 wf_X4_18 (f := 1) (by decide) (ci := 4) rfl tyX4_ok nmX4 rfl 0 rfl rfl rfl (Nat.le_of_ble_eq_true rfl) [(so, .inr (4, [.ref sk, .int (nI 1)])), (sk, .inl (E.2.2, 5, .inr (.inr (.inr (.inr (fun j => some (Ha j))))))), ((Ha 0), .inr (2, [.ref (Aa 0), .int (nI (NS 0))])), ((Aa 0), .inl (E.2.1, 14, .inl (aN (CS 0)))), ((Ha 1), .inr (2, [.ref (Aa 1), .int (nI (NS 1))])), ((Aa 1), .inl (E.2.1, 14, .inl (aN (CS 1)))), ((Ha 2), .inr (2, [.ref (Aa 2), .int (nI (NS 2))])), ((Aa 2), .inl (E.2.1, 14, .inl (aN (CS 2)))), ((Ha 3), .inr (2, [.ref (Aa 3), .int (nI (NS 3))])), ((Aa 3), .inl (E.2.1, 14, .inl (aN (CS 3)))), ((Ha 4), .inr (2, [.ref (Aa 4), .int (nI (NS 4))])), ((Aa 4), .inl (E.2.1, 14, .inl (aN (CS 4)))), (o, .inr (2, [.ref a, .int (nI n)])), (a, .inl (E.2.1, 14, .inl (aN Cd)))] rfl 17 rfl ?_
    refine G_aload_n C dX4_restore_17 rfl 18 rfl ?_
    refine G_aload_n C dX4_restore_18 rfl 19 rfl ?_
    refine G_getf C dX4_restore_19 wF_X4 wf_X4_11 (f := 0) (by decide) (ci := 4) rfl 0 rfl rfl 22 rfl ?_
    refine G_aload_n C dX4_restore_22 rfl 23 rfl ?_
    refine G_getf C dX4_restore_23 wF_X4 wf_X4_18 (f := 1) (by decide) (ci := 4) rfl 0 rfl rfl 26 rfl ?_
    refine G_aald C dX4_restore_26 1 rfl (v := .ref (Ha 1)) (vp_in_nI (by decide) (by decide)) rfl 27 rfl ?_
    refine G_cV C dX4_restore_27 (c_X2_copyFrom l E o a n Cd (Ha 1) (Aa 1) (NS 1) (CS 1) (hN _ (by omega))) wm_X4_25 wi_X2_copyFrom wsel_X2_copyFrom wn_X2 wc_X2_copyFrom rfl rfl ⟨by decide, by decide, rfl⟩ rfl (Nat.le_of_ble_eq_true rfl) 2 rfl rfl 0 rfl [12, 13, 4, 5] [0, 1, 2, 3, 6, 7, 8, 9, 10, 11] (wr := [(so, .inr (4, [.ref sk, .int (nI 1)])), (sk, .inl (E.2.2, 5, .inr (.inr (.inr (.inr (fun j => some (Ha j))))))), ((Ha 0), .inr (2, [.ref (Aa 0), .int (nI (NS 0))])), ((Aa 0), .inl (E.2.1, 14, .inl (aN (CS 0)))), ((Ha 2), .inr (2, [.ref (Aa 2), .int (nI (NS 2))])), ((Aa 2), .inl (E.2.1, 14, .inl (aN (CS 2)))), ((Ha 3), .inr (2, [.ref (Aa 3), .int (nI (NS 3))])), ((Aa 3), .inl (E.2.1, 14, .inl (aN (CS 3)))), ((Ha 4), .inr (2, [.ref (Aa 4), .int (nI (NS 4))])), ((Aa 4), .inl (E.2.1, 14, .inl (aN (CS 4))))]) rfl rfl rfl rfl rfl [0, 1, 2, 3, 12, 13, 4, 5, 6, 7, 8, 9, 10, 11] rfl [(so, .inr (4, [.ref sk, .int (nI 1)])), (sk, .inl (E.2.2, 5, .inr (.inr (.inr (.inr (fun j => some (Ha j))))))), ((Ha 0), .inr (2, [.ref (Aa 0), .int (nI (NS 0))])), ((Aa 0), .inl (E.2.1, 14, .inl (aN (CS 0)))), ((Ha 1), .inr (2, [.ref (Aa 1), .int (nI (NS 1))])), ((Aa 1), .inl (E.2.1, 14, .inl (aN (CS 1)))), ((Ha 2), .inr (2, [.ref (Aa 2), .int (nI (NS 2))])), ((Aa 2), .inl (E.2.1, 14, .inl (aN (CS 2)))), ((Ha 3), .inr (2, [.ref (Aa 3), .int (nI (NS 3))])), ((Aa 3), .inl (E.2.1, 14, .inl (aN (CS 3)))), ((Ha 4), .inr (2, [.ref (Aa 4), .int (nI (NS 4))])), ((Aa 4), .inl (E.2.1, 14, .inl (aN (CS 4)))), (o, .inr (2, [.ref a, .int (nI (NS 1))])), (a, .inl (E.2.1, 14, .inl (aN (cpN (CS 1) Cd (NS 1)))))] rfl rfl [] rfl 30 rfl ?_
    exact G_vret C hr dX4_restore_30 () trivial rfl rfl
  · refine G_aload_n C dX4_restore_0 rfl 1 rfl ?_
    refine G_getf C dX4_restore_1 wF_X4 wf_X4_18 (f := 1) (by decide) (ci := 4) rfl 0 rfl rfl 4 rfl ?_
    refine G_if_le_f C dX4_restore_4 30 rfl 7 rfl (by decide) ?_
    refine G_aload_n C dX4_restore_7 rfl 8 rfl ?_
    refine G_dup C dX4_restore_8 rfl 9 rfl ?_
    refine G_getf C dX4_restore_9 wF_X4 wf_X4_18 (f := 1) (by decide) (ci := 4) rfl 0 rfl rfl 12 rfl ?_
    refine G_iconst C dX4_restore_12 (v := nI 1) rfl 13 rfl ?_
    refine G_isub C dX4_restore_13 (v := nI 2) (by decide) 14 rfl ?_
    refine G_putf C dX4_restore_14 wF_X4 wf_X4_18 (f := 1) (by decide) (ci := 4) rfl tyX4_ok nmX4 rfl 0 rfl rfl rfl (Nat.le_of_ble_eq_true rfl) [(so, .inr (4, [.ref sk, .int (nI 2)])), (sk, .inl (E.2.2, 5, .inr (.inr (.inr (.inr (fun j => some (Ha j))))))), ((Ha 0), .inr (2, [.ref (Aa 0), .int (nI (NS 0))])), ((Aa 0), .inl (E.2.1, 14, .inl (aN (CS 0)))), ((Ha 1), .inr (2, [.ref (Aa 1), .int (nI (NS 1))])), ((Aa 1), .inl (E.2.1, 14, .inl (aN (CS 1)))), ((Ha 2), .inr (2, [.ref (Aa 2), .int (nI (NS 2))])), ((Aa 2), .inl (E.2.1, 14, .inl (aN (CS 2)))), ((Ha 3), .inr (2, [.ref (Aa 3), .int (nI (NS 3))])), ((Aa 3), .inl (E.2.1, 14, .inl (aN (CS 3)))), ((Ha 4), .inr (2, [.ref (Aa 4), .int (nI (NS 4))])), ((Aa 4), .inl (E.2.1, 14, .inl (aN (CS 4)))), (o, .inr (2, [.ref a, .int (nI n)])), (a, .inl (E.2.1, 14, .inl (aN Cd)))] rfl 17 rfl ?_
    refine G_aload_n C dX4_restore_17 rfl 18 rfl ?_
    refine G_aload_n C dX4_restore_18 rfl 19 rfl ?_
    refine G_getf C dX4_restore_19 wF_X4 wf_X4_11 (f := 0) (by decide) (ci := 4) rfl 0 rfl rfl 22 rfl ?_
    refine G_aload_n C dX4_restore_22 rfl 23 rfl ?_
    refine G_getf C dX4_restore_23 wF_X4 wf_X4_18 (f := 1) (by decide) (ci := 4) rfl 0 rfl rfl 26 rfl ?_
    refine G_aald C dX4_restore_26 1 rfl (v := .ref (Ha 2)) (vp_in_nI (by decide) (by decide)) rfl 27 rfl ?_
    refine G_cV C dX4_restore_27 (c_X2_copyFrom l E o a n Cd (Ha 2) (Aa 2) (NS 2) (CS 2) (hN _ (by omega))) wm_X4_25 wi_X2_copyFrom wsel_X2_copyFrom wn_X2 wc_X2_copyFrom rfl rfl ⟨by decide, by decide, rfl⟩ rfl (Nat.le_of_ble_eq_true rfl) 2 rfl rfl 0 rfl [12, 13, 6, 7] [0, 1, 2, 3, 4, 5, 8, 9, 10, 11] (wr := [(so, .inr (4, [.ref sk, .int (nI 2)])), (sk, .inl (E.2.2, 5, .inr (.inr (.inr (.inr (fun j => some (Ha j))))))), ((Ha 0), .inr (2, [.ref (Aa 0), .int (nI (NS 0))])), ((Aa 0), .inl (E.2.1, 14, .inl (aN (CS 0)))), ((Ha 1), .inr (2, [.ref (Aa 1), .int (nI (NS 1))])), ((Aa 1), .inl (E.2.1, 14, .inl (aN (CS 1)))), ((Ha 3), .inr (2, [.ref (Aa 3), .int (nI (NS 3))])), ((Aa 3), .inl (E.2.1, 14, .inl (aN (CS 3)))), ((Ha 4), .inr (2, [.ref (Aa 4), .int (nI (NS 4))])), ((Aa 4), .inl (E.2.1, 14, .inl (aN (CS 4))))]) rfl rfl rfl rfl rfl [0, 1, 2, 3, 4, 5, 12, 13, 6, 7, 8, 9, 10, 11] rfl [(so, .inr (4, [.ref sk, .int (nI 2)])), (sk, .inl (E.2.2, 5, .inr (.inr (.inr (.inr (fun j => some (Ha j))))))), ((Ha 0), .inr (2, [.ref (Aa 0), .int (nI (NS 0))])), ((Aa 0), .inl (E.2.1, 14, .inl (aN (CS 0)))), ((Ha 1), .inr (2, [.ref (Aa 1), .int (nI (NS 1))])), ((Aa 1), .inl (E.2.1, 14, .inl (aN (CS 1)))), ((Ha 2), .inr (2, [.ref (Aa 2), .int (nI (NS 2))])), ((Aa 2), .inl (E.2.1, 14, .inl (aN (CS 2)))), ((Ha 3), .inr (2, [.ref (Aa 3), .int (nI (NS 3))])), ((Aa 3), .inl (E.2.1, 14, .inl (aN (CS 3)))), ((Ha 4), .inr (2, [.ref (Aa 4), .int (nI (NS 4))])), ((Aa 4), .inl (E.2.1, 14, .inl (aN (CS 4)))), (o, .inr (2, [.ref a, .int (nI (NS 2))])), (a, .inl (E.2.1, 14, .inl (aN (cpN (CS 2) Cd (NS 2)))))] rfl rfl [] rfl 30 rfl ?_
    exact G_vret C hr dX4_restore_30 () trivial rfl rfl
  · refine G_aload_n C dX4_restore_0 rfl 1 rfl ?_
    refine G_getf C dX4_restore_1 wF_X4 wf_X4_18 (f := 1) (by decide) (ci := 4) rfl 0 rfl rfl 4 rfl ?_
    refine G_if_le_f C dX4_restore_4 30 rfl 7 rfl (by decide) ?_
    refine G_aload_n C dX4_restore_7 rfl 8 rfl ?_
    refine G_dup C dX4_restore_8 rfl 9 rfl ?_
    refine G_getf C dX4_restore_9 wF_X4 wf_X4_18 (f := 1) (by decide) (ci := 4) rfl 0 rfl rfl 12 rfl ?_
    refine G_iconst C dX4_restore_12 (v := nI 1) rfl 13 rfl ?_
    refine G_isub C dX4_restore_13 (v := nI 3) (by decide) 14 rfl ?_
    refine G_putf C dX4_restore_14 wF_X4 wf_X4_18 (f := 1) (by decide) (ci := 4) rfl tyX4_ok nmX4 rfl 0 rfl rfl rfl (Nat.le_of_ble_eq_true rfl) [(so, .inr (4, [.ref sk, .int (nI 3)])), (sk, .inl (E.2.2, 5, .inr (.inr (.inr (.inr (fun j => some (Ha j))))))), ((Ha 0), .inr (2, [.ref (Aa 0), .int (nI (NS 0))])), ((Aa 0), .inl (E.2.1, 14, .inl (aN (CS 0)))), ((Ha 1), .inr (2, [.ref (Aa 1), .int (nI (NS 1))])), ((Aa 1), .inl (E.2.1, 14, .inl (aN (CS 1)))), ((Ha 2), .inr (2, [.ref (Aa 2), .int (nI (NS 2))])), ((Aa 2), .inl (E.2.1, 14, .inl (aN (CS 2)))), ((Ha 3), .inr (2, [.ref (Aa 3), .int (nI (NS 3))])), ((Aa 3), .inl (E.2.1, 14, .inl (aN (CS 3)))), ((Ha 4), .inr (2, [.ref (Aa 4), .int (nI (NS 4))])), ((Aa 4), .inl (E.2.1, 14, .inl (aN (CS 4)))), (o, .inr (2, [.ref a, .int (nI n)])), (a, .inl (E.2.1, 14, .inl (aN Cd)))] rfl 17 rfl ?_
    refine G_aload_n C dX4_restore_17 rfl 18 rfl ?_
    refine G_aload_n C dX4_restore_18 rfl 19 rfl ?_
    refine G_getf C dX4_restore_19 wF_X4 wf_X4_11 (f := 0) (by decide) (ci := 4) rfl 0 rfl rfl 22 rfl ?_
    refine G_aload_n C dX4_restore_22 rfl 23 rfl ?_
    refine G_getf C dX4_restore_23 wF_X4 wf_X4_18 (f := 1) (by decide) (ci := 4) rfl 0 rfl rfl 26 rfl ?_
    refine G_aald C dX4_restore_26 1 rfl (v := .ref (Ha 3)) (vp_in_nI (by decide) (by decide)) rfl 27 rfl ?_
    refine G_cV C dX4_restore_27 (c_X2_copyFrom l E o a n Cd (Ha 3) (Aa 3) (NS 3) (CS 3) (hN _ (by omega))) wm_X4_25 wi_X2_copyFrom wsel_X2_copyFrom wn_X2 wc_X2_copyFrom rfl rfl ⟨by decide, by decide, rfl⟩ rfl (Nat.le_of_ble_eq_true rfl) 2 rfl rfl 0 rfl [12, 13, 8, 9] [0, 1, 2, 3, 4, 5, 6, 7, 10, 11] (wr := [(so, .inr (4, [.ref sk, .int (nI 3)])), (sk, .inl (E.2.2, 5, .inr (.inr (.inr (.inr (fun j => some (Ha j))))))), ((Ha 0), .inr (2, [.ref (Aa 0), .int (nI (NS 0))])), ((Aa 0), .inl (E.2.1, 14, .inl (aN (CS 0)))), ((Ha 1), .inr (2, [.ref (Aa 1), .int (nI (NS 1))])), ((Aa 1), .inl (E.2.1, 14, .inl (aN (CS 1)))), ((Ha 2), .inr (2, [.ref (Aa 2), .int (nI (NS 2))])), ((Aa 2), .inl (E.2.1, 14, .inl (aN (CS 2)))), ((Ha 4), .inr (2, [.ref (Aa 4), .int (nI (NS 4))])), ((Aa 4), .inl (E.2.1, 14, .inl (aN (CS 4))))]) rfl rfl rfl rfl rfl [0, 1, 2, 3, 4, 5, 6, 7, 12, 13, 8, 9, 10, 11] rfl [(so, .inr (4, [.ref sk, .int (nI 3)])), (sk, .inl (E.2.2, 5, .inr (.inr (.inr (.inr (fun j => some (Ha j))))))), ((Ha 0), .inr (2, [.ref (Aa 0), .int (nI (NS 0))])), ((Aa 0), .inl (E.2.1, 14, .inl (aN (CS 0)))), ((Ha 1), .inr (2, [.ref (Aa 1), .int (nI (NS 1))])), ((Aa 1), .inl (E.2.1, 14, .inl (aN (CS 1)))), ((Ha 2), .inr (2, [.ref (Aa 2), .int (nI (NS 2))])), ((Aa 2), .inl (E.2.1, 14, .inl (aN (CS 2)))), ((Ha 3), .inr (2, [.ref (Aa 3), .int (nI (NS 3))])), ((Aa 3), .inl (E.2.1, 14, .inl (aN (CS 3)))), ((Ha 4), .inr (2, [.ref (Aa 4), .int (nI (NS 4))])), ((Aa 4), .inl (E.2.1, 14, .inl (aN (CS 4)))), (o, .inr (2, [.ref a, .int (nI (NS 3))])), (a, .inl (E.2.1, 14, .inl (aN (cpN (CS 3) Cd (NS 3)))))] rfl rfl [] rfl 30 rfl ?_
    exact G_vret C hr dX4_restore_30 () trivial rfl rfl
  · refine G_aload_n C dX4_restore_0 rfl 1 rfl ?_
    refine G_getf C dX4_restore_1 wF_X4 wf_X4_18 (f := 1) (by decide) (ci := 4) rfl 0 rfl rfl 4 rfl ?_
    refine G_if_le_f C dX4_restore_4 30 rfl 7 rfl (by decide) ?_
    refine G_aload_n C dX4_restore_7 rfl 8 rfl ?_
    refine G_dup C dX4_restore_8 rfl 9 rfl ?_
    refine G_getf C dX4_restore_9 wF_X4 wf_X4_18 (f := 1) (by decide) (ci := 4) rfl 0 rfl rfl 12 rfl ?_
    refine G_iconst C dX4_restore_12 (v := nI 1) rfl 13 rfl ?_
    refine G_isub C dX4_restore_13 (v := nI 4) (by decide) 14 rfl ?_
    refine G_putf C dX4_restore_14 wF_X4 wf_X4_18 (f := 1) (by decide) (ci := 4) rfl tyX4_ok nmX4 rfl 0 rfl rfl rfl (Nat.le_of_ble_eq_true rfl) [(so, .inr (4, [.ref sk, .int (nI 4)])), (sk, .inl (E.2.2, 5, .inr (.inr (.inr (.inr (fun j => some (Ha j))))))), ((Ha 0), .inr (2, [.ref (Aa 0), .int (nI (NS 0))])), ((Aa 0), .inl (E.2.1, 14, .inl (aN (CS 0)))), ((Ha 1), .inr (2, [.ref (Aa 1), .int (nI (NS 1))])), ((Aa 1), .inl (E.2.1, 14, .inl (aN (CS 1)))), ((Ha 2), .inr (2, [.ref (Aa 2), .int (nI (NS 2))])), ((Aa 2), .inl (E.2.1, 14, .inl (aN (CS 2)))), ((Ha 3), .inr (2, [.ref (Aa 3), .int (nI (NS 3))])), ((Aa 3), .inl (E.2.1, 14, .inl (aN (CS 3)))), ((Ha 4), .inr (2, [.ref (Aa 4), .int (nI (NS 4))])), ((Aa 4), .inl (E.2.1, 14, .inl (aN (CS 4)))), (o, .inr (2, [.ref a, .int (nI n)])), (a, .inl (E.2.1, 14, .inl (aN Cd)))] rfl 17 rfl ?_
    refine G_aload_n C dX4_restore_17 rfl 18 rfl ?_
    refine G_aload_n C dX4_restore_18 rfl 19 rfl ?_
    refine G_getf C dX4_restore_19 wF_X4 wf_X4_11 (f := 0) (by decide) (ci := 4) rfl 0 rfl rfl 22 rfl ?_
    refine G_aload_n C dX4_restore_22 rfl 23 rfl ?_
    refine G_getf C dX4_restore_23 wF_X4 wf_X4_18 (f := 1) (by decide) (ci := 4) rfl 0 rfl rfl 26 rfl ?_
    refine G_aald C dX4_restore_26 1 rfl (v := .ref (Ha 4)) (vp_in_nI (by decide) (by decide)) rfl 27 rfl ?_
    refine G_cV C dX4_restore_27 (c_X2_copyFrom l E o a n Cd (Ha 4) (Aa 4) (NS 4) (CS 4) (hN _ (by omega))) wm_X4_25 wi_X2_copyFrom wsel_X2_copyFrom wn_X2 wc_X2_copyFrom rfl rfl ⟨by decide, by decide, rfl⟩ rfl (Nat.le_of_ble_eq_true rfl) 2 rfl rfl 0 rfl [12, 13, 10, 11] [0, 1, 2, 3, 4, 5, 6, 7, 8, 9] (wr := [(so, .inr (4, [.ref sk, .int (nI 4)])), (sk, .inl (E.2.2, 5, .inr (.inr (.inr (.inr (fun j => some (Ha j))))))), ((Ha 0), .inr (2, [.ref (Aa 0), .int (nI (NS 0))])), ((Aa 0), .inl (E.2.1, 14, .inl (aN (CS 0)))), ((Ha 1), .inr (2, [.ref (Aa 1), .int (nI (NS 1))])), ((Aa 1), .inl (E.2.1, 14, .inl (aN (CS 1)))), ((Ha 2), .inr (2, [.ref (Aa 2), .int (nI (NS 2))])), ((Aa 2), .inl (E.2.1, 14, .inl (aN (CS 2)))), ((Ha 3), .inr (2, [.ref (Aa 3), .int (nI (NS 3))])), ((Aa 3), .inl (E.2.1, 14, .inl (aN (CS 3))))]) rfl rfl rfl rfl rfl [0, 1, 2, 3, 4, 5, 6, 7, 8, 9, 12, 13, 10, 11] rfl [(so, .inr (4, [.ref sk, .int (nI 4)])), (sk, .inl (E.2.2, 5, .inr (.inr (.inr (.inr (fun j => some (Ha j))))))), ((Ha 0), .inr (2, [.ref (Aa 0), .int (nI (NS 0))])), ((Aa 0), .inl (E.2.1, 14, .inl (aN (CS 0)))), ((Ha 1), .inr (2, [.ref (Aa 1), .int (nI (NS 1))])), ((Aa 1), .inl (E.2.1, 14, .inl (aN (CS 1)))), ((Ha 2), .inr (2, [.ref (Aa 2), .int (nI (NS 2))])), ((Aa 2), .inl (E.2.1, 14, .inl (aN (CS 2)))), ((Ha 3), .inr (2, [.ref (Aa 3), .int (nI (NS 3))])), ((Aa 3), .inl (E.2.1, 14, .inl (aN (CS 3)))), ((Ha 4), .inr (2, [.ref (Aa 4), .int (nI (NS 4))])), ((Aa 4), .inl (E.2.1, 14, .inl (aN (CS 4)))), (o, .inr (2, [.ref a, .int (nI (NS 4))])), (a, .inl (E.2.1, 14, .inl (aN (cpN (CS 4) Cd (NS 4)))))] rfl rfl [] rfl 30 rfl ?_
    exact G_vret C hr dX4_restore_30 () trivial rfl rfl
end
