section
-- ===== PART A: goes FIRST, ahead of the names: the tables' words, and 'selects' of the private methods out of them =====
/-- a private method of a class that the tables say can be made, by its rows of tables_1 -/
def lw_okq (q : MethodName × Nat) : Prop := (q.1.cls ≠ "java/lang/invoke/MethodHandle" ∧ q.1.cls ≠ "java/lang/invoke/VarHandle") ∧ Cond.instantiable q.1.cls q.2 ∈ tables_1 ∧ Cond.privateMethod q.1 ∈ tables_1 ∧ Cond.instanceMethod q.1 ∈ tables_1
theorem lw_p0 : lw_okq (⟨"StorkVote", "settleNow", "()V"⟩, 11) := ⟨⟨by decide +kernel, by decide +kernel⟩, List.mem_of_getElem? (i := 21) (by decide +kernel), List.mem_of_getElem? (i := 325) (by decide +kernel), List.mem_of_getElem? (i := 326) (by decide +kernel)⟩
theorem lw_p1 : lw_okq (⟨"StorkVote$Spring", "strongest", "(LStorkVote$World;I)I"⟩, 4) := ⟨⟨by decide +kernel, by decide +kernel⟩, List.mem_of_getElem? (i := 135) (by decide +kernel), List.mem_of_getElem? (i := 385) (by decide +kernel), List.mem_of_getElem? (i := 386) (by decide +kernel)⟩
theorem lw_p2 : lw_okq (⟨"StorkVote$Spring", "bestLeft", "(LStorkVote$World;II)I"⟩, 4) := ⟨⟨by decide +kernel, by decide +kernel⟩, List.mem_of_getElem? (i := 135) (by decide +kernel), List.mem_of_getElem? (i := 393) (by decide +kernel), List.mem_of_getElem? (i := 394) (by decide +kernel)⟩
theorem lw_p3 : lw_okq (⟨"StorkVote$Spring", "wants", "(LStorkVote$World;II)Z"⟩, 4) := ⟨⟨by decide +kernel, by decide +kernel⟩, List.mem_of_getElem? (i := 135) (by decide +kernel), List.mem_of_getElem? (i := 397) (by decide +kernel), List.mem_of_getElem? (i := 398) (by decide +kernel)⟩
theorem lw_p4 : lw_okq (⟨"StorkVote$Spring", "liked", "(LStorkVote$World;II)I"⟩, 4) := ⟨⟨by decide +kernel, by decide +kernel⟩, List.mem_of_getElem? (i := 135) (by decide +kernel), List.mem_of_getElem? (i := 401) (by decide +kernel), List.mem_of_getElem? (i := 402) (by decide +kernel)⟩
theorem lw_p5 : lw_okq (⟨"StorkVote$Spring", "move", "(II)V"⟩, 4) := ⟨⟨by decide +kernel, by decide +kernel⟩, List.mem_of_getElem? (i := 135) (by decide +kernel), List.mem_of_getElem? (i := 405) (by decide +kernel), List.mem_of_getElem? (i := 406) (by decide +kernel)⟩
theorem lw_p6 : lw_okq (⟨"StorkVote$World", "fare", "(II)V"⟩, 10) := ⟨⟨by decide +kernel, by decide +kernel⟩, List.mem_of_getElem? (i := 29) (by decide +kernel), List.mem_of_getElem? (i := 511) (by decide +kernel), List.mem_of_getElem? (i := 512) (by decide +kernel)⟩
theorem lw_p7 : lw_okq (⟨"StorkVote$Reader", "begin", "()V"⟩, 11) := ⟨⟨by decide +kernel, by decide +kernel⟩, List.mem_of_getElem? (i := 173) (by decide +kernel), List.mem_of_getElem? (i := 605) (by decide +kernel), List.mem_of_getElem? (i := 606) (by decide +kernel)⟩
theorem lw_p8 : lw_okq (⟨"StorkVote$Reader", "goesOn", "(LStorkVote$Tape;II)Z"⟩, 11) := ⟨⟨by decide +kernel, by decide +kernel⟩, List.mem_of_getElem? (i := 173) (by decide +kernel), List.mem_of_getElem? (i := 620) (by decide +kernel), List.mem_of_getElem? (i := 621) (by decide +kernel)⟩
theorem lw_p9 : lw_okq (⟨"StorkVote$Reader", "closes", "()Z"⟩, 11) := ⟨⟨by decide +kernel, by decide +kernel⟩, List.mem_of_getElem? (i := 173) (by decide +kernel), List.mem_of_getElem? (i := 684) (by decide +kernel), List.mem_of_getElem? (i := 685) (by decide +kernel)⟩
theorem lw_p10 : lw_okq (⟨"StorkVote$Reader", "joinDownTo", "(I)V"⟩, 11) := ⟨⟨by decide +kernel, by decide +kernel⟩, List.mem_of_getElem? (i := 173) (by decide +kernel), List.mem_of_getElem? (i := 688) (by decide +kernel), List.mem_of_getElem? (i := 689) (by decide +kernel)⟩
theorem lw_p11 : lw_okq (⟨"StorkVote$Reader", "addStep", "(I)V"⟩, 11) := ⟨⟨by decide +kernel, by decide +kernel⟩, List.mem_of_getElem? (i := 173) (by decide +kernel), List.mem_of_getElem? (i := 695) (by decide +kernel), List.mem_of_getElem? (i := 696) (by decide +kernel)⟩
theorem lw_p12 : lw_okq (⟨"StorkVote$Reader", "endPiece", "()V"⟩, 11) := ⟨⟨by decide +kernel, by decide +kernel⟩, List.mem_of_getElem? (i := 173) (by decide +kernel), List.mem_of_getElem? (i := 700) (by decide +kernel), List.mem_of_getElem? (i := 701) (by decide +kernel)⟩
theorem lw_p13 : lw_okq (⟨"StorkVote$Reader", "joins", "(I)Z"⟩, 11) := ⟨⟨by decide +kernel, by decide +kernel⟩, List.mem_of_getElem? (i := 173) (by decide +kernel), List.mem_of_getElem? (i := 704) (by decide +kernel), List.mem_of_getElem? (i := 705) (by decide +kernel)⟩
theorem lw_p14 : lw_okq (⟨"StorkVote$Reader", "addSign", "(I)V"⟩, 11) := ⟨⟨by decide +kernel, by decide +kernel⟩, List.mem_of_getElem? (i := 173) (by decide +kernel), List.mem_of_getElem? (i := 708) (by decide +kernel), List.mem_of_getElem? (i := 709) (by decide +kernel)⟩
theorem lw_p15 : lw_okq (⟨"StorkVote$Reader", "isPiece", "(I)Z"⟩, 11) := ⟨⟨by decide +kernel, by decide +kernel⟩, List.mem_of_getElem? (i := 173) (by decide +kernel), List.mem_of_getElem? (i := 716) (by decide +kernel), List.mem_of_getElem? (i := 717) (by decide +kernel)⟩
def lw_privs_1 : List (MethodName × Nat) := [(⟨"StorkVote", "settleNow", "()V"⟩, 11), (⟨"StorkVote$Spring", "strongest", "(LStorkVote$World;I)I"⟩, 4), (⟨"StorkVote$Spring", "bestLeft", "(LStorkVote$World;II)I"⟩, 4), (⟨"StorkVote$Spring", "wants", "(LStorkVote$World;II)Z"⟩, 4), (⟨"StorkVote$Spring", "liked", "(LStorkVote$World;II)I"⟩, 4), (⟨"StorkVote$Spring", "move", "(II)V"⟩, 4), (⟨"StorkVote$World", "fare", "(II)V"⟩, 10), (⟨"StorkVote$Reader", "begin", "()V"⟩, 11), (⟨"StorkVote$Reader", "goesOn", "(LStorkVote$Tape;II)Z"⟩, 11), (⟨"StorkVote$Reader", "closes", "()Z"⟩, 11), (⟨"StorkVote$Reader", "joinDownTo", "(I)V"⟩, 11), (⟨"StorkVote$Reader", "addStep", "(I)V"⟩, 11), (⟨"StorkVote$Reader", "endPiece", "()V"⟩, 11), (⟨"StorkVote$Reader", "joins", "(I)Z"⟩, 11), (⟨"StorkVote$Reader", "addSign", "(I)V"⟩, 11), (⟨"StorkVote$Reader", "isPiece", "(I)Z"⟩, 11)]
theorem lw_r1 : ∀ q ∈ lw_privs_1, lw_okq q := List.forall_mem_cons.mpr ⟨lw_p0, List.forall_mem_cons.mpr ⟨lw_p1, List.forall_mem_cons.mpr ⟨lw_p2, List.forall_mem_cons.mpr ⟨lw_p3, List.forall_mem_cons.mpr ⟨lw_p4, List.forall_mem_cons.mpr ⟨lw_p5, List.forall_mem_cons.mpr ⟨lw_p6, List.forall_mem_cons.mpr ⟨lw_p7, List.forall_mem_cons.mpr ⟨lw_p8, List.forall_mem_cons.mpr ⟨lw_p9, List.forall_mem_cons.mpr ⟨lw_p10, List.forall_mem_cons.mpr ⟨lw_p11, List.forall_mem_cons.mpr ⟨lw_p12, List.forall_mem_cons.mpr ⟨lw_p13, List.forall_mem_cons.mpr ⟨lw_p14, List.forall_mem_cons.mpr ⟨lw_p15, fun _ h => absurd h List.not_mem_nil⟩⟩⟩⟩⟩⟩⟩⟩⟩⟩⟩⟩⟩⟩⟩⟩
theorem lw_p16 : lw_okq (⟨"StorkVote$Reader", "names", "()Ljava/lang/String;"⟩, 11) := ⟨⟨by decide +kernel, by decide +kernel⟩, List.mem_of_getElem? (i := 173) (by decide +kernel), List.mem_of_getElem? (i := 720) (by decide +kernel), List.mem_of_getElem? (i := 721) (by decide +kernel)⟩
theorem lw_p17 : lw_okq (⟨"StorkVote$Reader", "opens", "()Z"⟩, 11) := ⟨⟨by decide +kernel, by decide +kernel⟩, List.mem_of_getElem? (i := 173) (by decide +kernel), List.mem_of_getElem? (i := 782) (by decide +kernel), List.mem_of_getElem? (i := 783) (by decide +kernel)⟩
theorem lw_p18 : lw_okq (⟨"StorkVote$Reader", "negates", "()Z"⟩, 11) := ⟨⟨by decide +kernel, by decide +kernel⟩, List.mem_of_getElem? (i := 173) (by decide +kernel), List.mem_of_getElem? (i := 786) (by decide +kernel), List.mem_of_getElem? (i := 787) (by decide +kernel)⟩
theorem lw_p19 : lw_okq (⟨"StorkVote", "nestIs", "(II)Z"⟩, 11) := ⟨⟨by decide +kernel, by decide +kernel⟩, List.mem_of_getElem? (i := 21) (by decide +kernel), List.mem_of_getElem? (i := 865) (by decide +kernel), List.mem_of_getElem? (i := 866) (by decide +kernel)⟩
theorem lw_p20 : lw_okq (⟨"StorkVote", "waitsAt", "(III)Z"⟩, 11) := ⟨⟨by decide +kernel, by decide +kernel⟩, List.mem_of_getElem? (i := 21) (by decide +kernel), List.mem_of_getElem? (i := 909) (by decide +kernel), List.mem_of_getElem? (i := 910) (by decide +kernel)⟩
theorem lw_p21 : lw_okq (⟨"StorkVoteModel", "comes", "(IIII)I"⟩, 37) := ⟨⟨by decide +kernel, by decide +kernel⟩, List.mem_of_getElem? (i := 929) (by decide +kernel), List.mem_of_getElem? (i := 1061) (by decide +kernel), List.mem_of_getElem? (i := 1062) (by decide +kernel)⟩
theorem lw_p22 : lw_okq (⟨"StorkVoteModel", "isChimney", "(I)Z"⟩, 37) := ⟨⟨by decide +kernel, by decide +kernel⟩, List.mem_of_getElem? (i := 929) (by decide +kernel), List.mem_of_getElem? (i := 1069) (by decide +kernel), List.mem_of_getElem? (i := 1070) (by decide +kernel)⟩
theorem lw_p23 : lw_okq (⟨"StorkVoteModel", "of", "(II)I"⟩, 37) := ⟨⟨by decide +kernel, by decide +kernel⟩, List.mem_of_getElem? (i := 929) (by decide +kernel), List.mem_of_getElem? (i := 1073) (by decide +kernel), List.mem_of_getElem? (i := 1074) (by decide +kernel)⟩
theorem lw_p24 : lw_okq (⟨"StorkVoteModel", "worthOf", "(I)I"⟩, 37) := ⟨⟨by decide +kernel, by decide +kernel⟩, List.mem_of_getElem? (i := 929) (by decide +kernel), List.mem_of_getElem? (i := 1077) (by decide +kernel), List.mem_of_getElem? (i := 1078) (by decide +kernel)⟩
theorem lw_p25 : lw_okq (⟨"StorkVoteModel", "spring", "()V"⟩, 37) := ⟨⟨by decide +kernel, by decide +kernel⟩, List.mem_of_getElem? (i := 929) (by decide +kernel), List.mem_of_getElem? (i := 1081) (by decide +kernel), List.mem_of_getElem? (i := 1082) (by decide +kernel)⟩
theorem lw_p26 : lw_okq (⟨"StorkVoteModel", "nextStork", "()I"⟩, 37) := ⟨⟨by decide +kernel, by decide +kernel⟩, List.mem_of_getElem? (i := 929) (by decide +kernel), List.mem_of_getElem? (i := 1085) (by decide +kernel), List.mem_of_getElem? (i := 1086) (by decide +kernel)⟩
theorem lw_p27 : lw_okq (⟨"StorkVoteModel", "isAway", "(I)Z"⟩, 37) := ⟨⟨by decide +kernel, by decide +kernel⟩, List.mem_of_getElem? (i := 929) (by decide +kernel), List.mem_of_getElem? (i := 1089) (by decide +kernel), List.mem_of_getElem? (i := 1090) (by decide +kernel)⟩
theorem lw_p28 : lw_okq (⟨"StorkVoteModel", "strong", "(I)I"⟩, 37) := ⟨⟨by decide +kernel, by decide +kernel⟩, List.mem_of_getElem? (i := 929) (by decide +kernel), List.mem_of_getElem? (i := 1093) (by decide +kernel), List.mem_of_getElem? (i := 1094) (by decide +kernel)⟩
theorem lw_p29 : lw_okq (⟨"StorkVoteModel", "choiceOf", "(I)I"⟩, 37) := ⟨⟨by decide +kernel, by decide +kernel⟩, List.mem_of_getElem? (i := 929) (by decide +kernel), List.mem_of_getElem? (i := 1097) (by decide +kernel), List.mem_of_getElem? (i := 1098) (by decide +kernel)⟩
theorem lw_p30 : lw_okq (⟨"StorkVoteModel", "likesOf", "(II)I"⟩, 37) := ⟨⟨by decide +kernel, by decide +kernel⟩, List.mem_of_getElem? (i := 929) (by decide +kernel), List.mem_of_getElem? (i := 1101) (by decide +kernel), List.mem_of_getElem? (i := 1102) (by decide +kernel)⟩
theorem lw_p31 : lw_okq (⟨"StorkVoteModel", "counts", "(I)I"⟩, 37) := ⟨⟨by decide +kernel, by decide +kernel⟩, List.mem_of_getElem? (i := 929) (by decide +kernel), List.mem_of_getElem? (i := 1105) (by decide +kernel), List.mem_of_getElem? (i := 1106) (by decide +kernel)⟩
def lw_privs_2 : List (MethodName × Nat) := [(⟨"StorkVote$Reader", "names", "()Ljava/lang/String;"⟩, 11), (⟨"StorkVote$Reader", "opens", "()Z"⟩, 11), (⟨"StorkVote$Reader", "negates", "()Z"⟩, 11), (⟨"StorkVote", "nestIs", "(II)Z"⟩, 11), (⟨"StorkVote", "waitsAt", "(III)Z"⟩, 11), (⟨"StorkVoteModel", "comes", "(IIII)I"⟩, 37), (⟨"StorkVoteModel", "isChimney", "(I)Z"⟩, 37), (⟨"StorkVoteModel", "of", "(II)I"⟩, 37), (⟨"StorkVoteModel", "worthOf", "(I)I"⟩, 37), (⟨"StorkVoteModel", "spring", "()V"⟩, 37), (⟨"StorkVoteModel", "nextStork", "()I"⟩, 37), (⟨"StorkVoteModel", "isAway", "(I)Z"⟩, 37), (⟨"StorkVoteModel", "strong", "(I)I"⟩, 37), (⟨"StorkVoteModel", "choiceOf", "(I)I"⟩, 37), (⟨"StorkVoteModel", "likesOf", "(II)I"⟩, 37), (⟨"StorkVoteModel", "counts", "(I)I"⟩, 37)]
theorem lw_r2 : ∀ q ∈ lw_privs_2, lw_okq q := List.forall_mem_cons.mpr ⟨lw_p16, List.forall_mem_cons.mpr ⟨lw_p17, List.forall_mem_cons.mpr ⟨lw_p18, List.forall_mem_cons.mpr ⟨lw_p19, List.forall_mem_cons.mpr ⟨lw_p20, List.forall_mem_cons.mpr ⟨lw_p21, List.forall_mem_cons.mpr ⟨lw_p22, List.forall_mem_cons.mpr ⟨lw_p23, List.forall_mem_cons.mpr ⟨lw_p24, List.forall_mem_cons.mpr ⟨lw_p25, List.forall_mem_cons.mpr ⟨lw_p26, List.forall_mem_cons.mpr ⟨lw_p27, List.forall_mem_cons.mpr ⟨lw_p28, List.forall_mem_cons.mpr ⟨lw_p29, List.forall_mem_cons.mpr ⟨lw_p30, List.forall_mem_cons.mpr ⟨lw_p31, fun _ h => absurd h List.not_mem_nil⟩⟩⟩⟩⟩⟩⟩⟩⟩⟩⟩⟩⟩⟩⟩⟩
theorem lw_p32 : lw_okq (⟨"StorkVoteModel", "worksOut", "(I)I"⟩, 37) := ⟨⟨by decide +kernel, by decide +kernel⟩, List.mem_of_getElem? (i := 929) (by decide +kernel), List.mem_of_getElem? (i := 1109) (by decide +kernel), List.mem_of_getElem? (i := 1110) (by decide +kernel)⟩
theorem lw_p33 : lw_okq (⟨"StorkVoteModel", "becomes", "(II)I"⟩, 37) := ⟨⟨by decide +kernel, by decide +kernel⟩, List.mem_of_getElem? (i := 929) (by decide +kernel), List.mem_of_getElem? (i := 1135) (by decide +kernel), List.mem_of_getElem? (i := 1136) (by decide +kernel)⟩
theorem lw_p34 : lw_okq (⟨"StorkVoteModel", "hatches", "(II)I"⟩, 37) := ⟨⟨by decide +kernel, by decide +kernel⟩, List.mem_of_getElem? (i := 929) (by decide +kernel), List.mem_of_getElem? (i := 1147) (by decide +kernel), List.mem_of_getElem? (i := 1148) (by decide +kernel)⟩
theorem lw_p35 : lw_okq (⟨"StorkVoteModel", "isStork", "(I)Z"⟩, 37) := ⟨⟨by decide +kernel, by decide +kernel⟩, List.mem_of_getElem? (i := 929) (by decide +kernel), List.mem_of_getElem? (i := 1155) (by decide +kernel), List.mem_of_getElem? (i := 1156) (by decide +kernel)⟩
theorem lw_p36 : lw_okq (⟨"StorkVoteModel", "draw", "()I"⟩, 37) := ⟨⟨by decide +kernel, by decide +kernel⟩, List.mem_of_getElem? (i := 929) (by decide +kernel), List.mem_of_getElem? (i := 1175) (by decide +kernel), List.mem_of_getElem? (i := 1176) (by decide +kernel)⟩
theorem lw_p37 : lw_okq (⟨"StorkVoteModel", "nestsIn", "(I)I"⟩, 37) := ⟨⟨by decide +kernel, by decide +kernel⟩, List.mem_of_getElem? (i := 929) (by decide +kernel), List.mem_of_getElem? (i := 1188) (by decide +kernel), List.mem_of_getElem? (i := 1189) (by decide +kernel)⟩
theorem lw_p38 : lw_okq (⟨"StorkVoteModel", "seatsOf", "(I)I"⟩, 37) := ⟨⟨by decide +kernel, by decide +kernel⟩, List.mem_of_getElem? (i := 929) (by decide +kernel), List.mem_of_getElem? (i := 1192) (by decide +kernel), List.mem_of_getElem? (i := 1193) (by decide +kernel)⟩
theorem lw_p39 : lw_okq (⟨"StorkVoteModel", "electedNow", "()I"⟩, 37) := ⟨⟨by decide +kernel, by decide +kernel⟩, List.mem_of_getElem? (i := 929) (by decide +kernel), List.mem_of_getElem? (i := 1200) (by decide +kernel), List.mem_of_getElem? (i := 1201) (by decide +kernel)⟩
theorem lw_p40 : lw_okq (⟨"StorkVoteModel", "goesOn", "(I)I"⟩, 37) := ⟨⟨by decide +kernel, by decide +kernel⟩, List.mem_of_getElem? (i := 929) (by decide +kernel), List.mem_of_getElem? (i := 1208) (by decide +kernel), List.mem_of_getElem? (i := 1209) (by decide +kernel)⟩
theorem lw_p41 : lw_okq (⟨"StorkVoteModel", "year", "()I"⟩, 37) := ⟨⟨by decide +kernel, by decide +kernel⟩, List.mem_of_getElem? (i := 929) (by decide +kernel), List.mem_of_getElem? (i := 1212) (by decide +kernel), List.mem_of_getElem? (i := 1213) (by decide +kernel)⟩
theorem lw_p42 : lw_okq (⟨"StorkVoteModel", "thinks", "()V"⟩, 37) := ⟨⟨by decide +kernel, by decide +kernel⟩, List.mem_of_getElem? (i := 929) (by decide +kernel), List.mem_of_getElem? (i := 1220) (by decide +kernel), List.mem_of_getElem? (i := 1221) (by decide +kernel)⟩
theorem lw_p43 : lw_okq (⟨"StorkVoteModel", "putsBack", "()V"⟩, 37) := ⟨⟨by decide +kernel, by decide +kernel⟩, List.mem_of_getElem? (i := 929) (by decide +kernel), List.mem_of_getElem? (i := 1224) (by decide +kernel), List.mem_of_getElem? (i := 1225) (by decide +kernel)⟩
theorem lw_p44 : lw_okq (⟨"StorkVoteModel", "hereMany", "()I"⟩, 37) := ⟨⟨by decide +kernel, by decide +kernel⟩, List.mem_of_getElem? (i := 929) (by decide +kernel), List.mem_of_getElem? (i := 1240) (by decide +kernel), List.mem_of_getElem? (i := 1241) (by decide +kernel)⟩
theorem lw_p45 : lw_okq (⟨"StorkVoteModel", "nestsBy", "(I)V"⟩, 37) := ⟨⟨by decide +kernel, by decide +kernel⟩, List.mem_of_getElem? (i := 929) (by decide +kernel), List.mem_of_getElem? (i := 1252) (by decide +kernel), List.mem_of_getElem? (i := 1253) (by decide +kernel)⟩
theorem lw_p46 : lw_okq (⟨"StorkVoteModel", "wouldRather", "(II)Z"⟩, 37) := ⟨⟨by decide +kernel, by decide +kernel⟩, List.mem_of_getElem? (i := 929) (by decide +kernel), List.mem_of_getElem? (i := 1256) (by decide +kernel), List.mem_of_getElem? (i := 1257) (by decide +kernel)⟩
theorem lw_p47 : lw_okq (⟨"StorkVoteModel", "go", "()V"⟩, 37) := ⟨⟨by decide +kernel, by decide +kernel⟩, List.mem_of_getElem? (i := 929) (by decide +kernel), List.mem_of_getElem? (i := 1276) (by decide +kernel), List.mem_of_getElem? (i := 1277) (by decide +kernel)⟩
def lw_privs_3 : List (MethodName × Nat) := [(⟨"StorkVoteModel", "worksOut", "(I)I"⟩, 37), (⟨"StorkVoteModel", "becomes", "(II)I"⟩, 37), (⟨"StorkVoteModel", "hatches", "(II)I"⟩, 37), (⟨"StorkVoteModel", "isStork", "(I)Z"⟩, 37), (⟨"StorkVoteModel", "draw", "()I"⟩, 37), (⟨"StorkVoteModel", "nestsIn", "(I)I"⟩, 37), (⟨"StorkVoteModel", "seatsOf", "(I)I"⟩, 37), (⟨"StorkVoteModel", "electedNow", "()I"⟩, 37), (⟨"StorkVoteModel", "goesOn", "(I)I"⟩, 37), (⟨"StorkVoteModel", "year", "()I"⟩, 37), (⟨"StorkVoteModel", "thinks", "()V"⟩, 37), (⟨"StorkVoteModel", "putsBack", "()V"⟩, 37), (⟨"StorkVoteModel", "hereMany", "()I"⟩, 37), (⟨"StorkVoteModel", "nestsBy", "(I)V"⟩, 37), (⟨"StorkVoteModel", "wouldRather", "(II)Z"⟩, 37), (⟨"StorkVoteModel", "go", "()V"⟩, 37)]
theorem lw_r3 : ∀ q ∈ lw_privs_3, lw_okq q := List.forall_mem_cons.mpr ⟨lw_p32, List.forall_mem_cons.mpr ⟨lw_p33, List.forall_mem_cons.mpr ⟨lw_p34, List.forall_mem_cons.mpr ⟨lw_p35, List.forall_mem_cons.mpr ⟨lw_p36, List.forall_mem_cons.mpr ⟨lw_p37, List.forall_mem_cons.mpr ⟨lw_p38, List.forall_mem_cons.mpr ⟨lw_p39, List.forall_mem_cons.mpr ⟨lw_p40, List.forall_mem_cons.mpr ⟨lw_p41, List.forall_mem_cons.mpr ⟨lw_p42, List.forall_mem_cons.mpr ⟨lw_p43, List.forall_mem_cons.mpr ⟨lw_p44, List.forall_mem_cons.mpr ⟨lw_p45, List.forall_mem_cons.mpr ⟨lw_p46, List.forall_mem_cons.mpr ⟨lw_p47, fun _ h => absurd h List.not_mem_nil⟩⟩⟩⟩⟩⟩⟩⟩⟩⟩⟩⟩⟩⟩⟩⟩
theorem lw_p48 : lw_okq (⟨"StorkVoteModel", "isLetter", "(I)Z"⟩, 37) := ⟨⟨by decide +kernel, by decide +kernel⟩, List.mem_of_getElem? (i := 929) (by decide +kernel), List.mem_of_getElem? (i := 1280) (by decide +kernel), List.mem_of_getElem? (i := 1281) (by decide +kernel)⟩
theorem lw_p49 : lw_okq (⟨"StorkVoteModel", "isFigure", "(I)Z"⟩, 37) := ⟨⟨by decide +kernel, by decide +kernel⟩, List.mem_of_getElem? (i := 929) (by decide +kernel), List.mem_of_getElem? (i := 1284) (by decide +kernel), List.mem_of_getElem? (i := 1285) (by decide +kernel)⟩
theorem lw_p50 : lw_okq (⟨"StorkVoteModel", "takesKey", "()Z"⟩, 37) := ⟨⟨by decide +kernel, by decide +kernel⟩, List.mem_of_getElem? (i := 929) (by decide +kernel), List.mem_of_getElem? (i := 1288) (by decide +kernel), List.mem_of_getElem? (i := 1289) (by decide +kernel)⟩
theorem lw_p51 : lw_okq (⟨"StorkVoteModel", "takesE", "()Z"⟩, 37) := ⟨⟨by decide +kernel, by decide +kernel⟩, List.mem_of_getElem? (i := 929) (by decide +kernel), List.mem_of_getElem? (i := 1292) (by decide +kernel), List.mem_of_getElem? (i := 1293) (by decide +kernel)⟩
theorem lw_p52 : lw_okq (⟨"StorkVoteModel", "takesPart", "()Z"⟩, 37) := ⟨⟨by decide +kernel, by decide +kernel⟩, List.mem_of_getElem? (i := 929) (by decide +kernel), List.mem_of_getElem? (i := 1296) (by decide +kernel), List.mem_of_getElem? (i := 1297) (by decide +kernel)⟩
theorem lw_p53 : lw_okq (⟨"StorkVoteModel", "nameOf", "(I)I"⟩, 37) := ⟨⟨by decide +kernel, by decide +kernel⟩, List.mem_of_getElem? (i := 929) (by decide +kernel), List.mem_of_getElem? (i := 1300) (by decide +kernel), List.mem_of_getElem? (i := 1301) (by decide +kernel)⟩
theorem lw_p54 : lw_okq (⟨"StorkVoteModel", "settle", "(I)V"⟩, 37) := ⟨⟨by decide +kernel, by decide +kernel⟩, List.mem_of_getElem? (i := 929) (by decide +kernel), List.mem_of_getElem? (i := 1304) (by decide +kernel), List.mem_of_getElem? (i := 1305) (by decide +kernel)⟩
theorem lw_p55 : lw_okq (⟨"StorkVoteModel", "notsOpen", "()I"⟩, 37) := ⟨⟨by decide +kernel, by decide +kernel⟩, List.mem_of_getElem? (i := 929) (by decide +kernel), List.mem_of_getElem? (i := 1311) (by decide +kernel), List.mem_of_getElem? (i := 1312) (by decide +kernel)⟩
theorem lw_p56 : lw_okq (⟨"StorkVoteModel", "signHere", "()I"⟩, 37) := ⟨⟨by decide +kernel, by decide +kernel⟩, List.mem_of_getElem? (i := 929) (by decide +kernel), List.mem_of_getElem? (i := 1315) (by decide +kernel), List.mem_of_getElem? (i := 1316) (by decide +kernel)⟩
theorem lw_p57 : lw_okq (⟨"StorkVoteModel", "nestsAll", "()I"⟩, 37) := ⟨⟨by decide +kernel, by decide +kernel⟩, List.mem_of_getElem? (i := 929) (by decide +kernel), List.mem_of_getElem? (i := 1394) (by decide +kernel), List.mem_of_getElem? (i := 1395) (by decide +kernel)⟩
def lw_privs_4 : List (MethodName × Nat) := [(⟨"StorkVoteModel", "isLetter", "(I)Z"⟩, 37), (⟨"StorkVoteModel", "isFigure", "(I)Z"⟩, 37), (⟨"StorkVoteModel", "takesKey", "()Z"⟩, 37), (⟨"StorkVoteModel", "takesE", "()Z"⟩, 37), (⟨"StorkVoteModel", "takesPart", "()Z"⟩, 37), (⟨"StorkVoteModel", "nameOf", "(I)I"⟩, 37), (⟨"StorkVoteModel", "settle", "(I)V"⟩, 37), (⟨"StorkVoteModel", "notsOpen", "()I"⟩, 37), (⟨"StorkVoteModel", "signHere", "()I"⟩, 37), (⟨"StorkVoteModel", "nestsAll", "()I"⟩, 37)]
theorem lw_r4 : ∀ q ∈ lw_privs_4, lw_okq q := List.forall_mem_cons.mpr ⟨lw_p48, List.forall_mem_cons.mpr ⟨lw_p49, List.forall_mem_cons.mpr ⟨lw_p50, List.forall_mem_cons.mpr ⟨lw_p51, List.forall_mem_cons.mpr ⟨lw_p52, List.forall_mem_cons.mpr ⟨lw_p53, List.forall_mem_cons.mpr ⟨lw_p54, List.forall_mem_cons.mpr ⟨lw_p55, List.forall_mem_cons.mpr ⟨lw_p56, List.forall_mem_cons.mpr ⟨lw_p57, fun _ h => absurd h List.not_mem_nil⟩⟩⟩⟩⟩⟩⟩⟩⟩⟩
def lw_privs : List (MethodName × Nat) := lw_privs_1 ++ (lw_privs_2 ++ (lw_privs_3 ++ (lw_privs_4)))
def lw_tbl : List Cond := k2_sels lw_privs ++ tables_1
theorem lw_privs_ok : ∀ q ∈ lw_privs, lw_okq q := by
  show ∀ q ∈ lw_privs_1 ++ (lw_privs_2 ++ (lw_privs_3 ++ (lw_privs_4))), lw_okq q
  exact List.forall_mem_append.mpr ⟨lw_r1, List.forall_mem_append.mpr ⟨lw_r2, List.forall_mem_append.mpr ⟨lw_r3, lw_r4⟩⟩⟩

/-! names, printed by program out of the claim -/
def RX0 : String := "StorkVote$Chimney"
def TX0 : u_T := fun k => match k with
  | 0 => ("StorkVote$Chimney", "kind", "I", false)
  | 1 => ("StorkVote$Chimney", "ward", "I", false)
  | 2 => ("StorkVote$Chimney", "warm", "I", false)
  | _ => ("StorkVote$Chimney", "frogs", "I", false)
def tyX0 : Nat → FieldType := fun k => match k with
  | 0 => .int
  | 1 => .int
  | 2 => .int
  | _ => .int
abbrev wsX00 : List Cond := u_ws RX0 TX0 4
theorem nmX0 : ∀ a, a < 4 → ∀ b, b < 4 → a ≠ b → (TX0 a).2.1 ≠ (TX0 b).2.1 := by decide +kernel
theorem tyX0_ok : ∀ k, k < 4 → parseFieldDescriptor (TX0 k).2.2.1 = some (tyX0 k) := by decide +kernel
abbrev cX0_init : ByteArray := prog_2_method_1_code
def yX0_init : MethodName := ⟨RX0, "<init>", "()V"⟩
abbrev cX0_become : ByteArray := prog_2_method_2_code
def yX0_become : MethodName := ⟨RX0, "become", "(IIII)V"⟩
abbrev cX0_take : ByteArray := prog_2_method_3_code
def yX0_take : MethodName := ⟨RX0, "take", "(LStorkVote$Chimney;)V"⟩
abbrev cX0_isOf : ByteArray := prog_2_method_4_code
def yX0_isOf : MethodName := ⟨RX0, "isOf", "(I)Z"⟩
abbrev cX0_worth : ByteArray := prog_2_method_5_code
def yX0_worth : MethodName := ⟨RX0, "worth", "()I"⟩
abbrev cX0_likedFrom : ByteArray := prog_2_method_6_code
def yX0_likedFrom : MethodName := ⟨RX0, "likedFrom", "(II)I"⟩
def RX1 : String := "StorkVote$Reader"
def TX1 : u_T := fun k => match k with
  | 0 => ("StorkVote$Reader", "steps", "[I", true)
  | 1 => ("StorkVote$Reader", "stepCount", "I", false)
  | 2 => ("StorkVote$Reader", "signs", "[I", true)
  | 3 => ("StorkVote$Reader", "signCount", "I", false)
  | 4 => ("StorkVote$Reader", "key", "I", false)
  | 5 => ("StorkVote$Reader", "pieces", "I", false)
  | 6 => ("StorkVote$Reader", "lastWordEnd", "I", false)
  | 7 => ("StorkVote$Reader", "pieceDue", "Z", false)
  | 8 => ("StorkVote$Reader", "open", "I", false)
  | 9 => ("StorkVote$Reader", "nots", "I", false)
  | _ => ("StorkVote$Reader", "compared", "I", false)
def tyX1 : Nat → FieldType := fun k => match k with
  | 0 => .array .int
  | 1 => .int
  | 2 => .array .int
  | 3 => .int
  | 4 => .int
  | 5 => .int
  | 6 => .int
  | 7 => .boolean
  | 8 => .int
  | 9 => .int
  | _ => .int
abbrev wsX10 : List Cond := u_ws RX1 TX1 11
theorem nmX1 : ∀ a, a < 11 → ∀ b, b < 11 → a ≠ b → (TX1 a).2.1 ≠ (TX1 b).2.1 := by decide +kernel
theorem tyX1_ok : ∀ k, k < 11 → parseFieldDescriptor (TX1 k).2.2.1 = some (tyX1 k) := by decide +kernel
abbrev cX1_init : ByteArray := prog_3_method_1_code
def yX1_init : MethodName := ⟨RX1, "<init>", "()V"⟩
abbrev cX1_fault : ByteArray := prog_3_method_2_code
def yX1_fault : MethodName := ⟨RX1, "fault", "(LStorkVote$Tape;)I"⟩
abbrev cX1_read : ByteArray := prog_3_method_3_code
def yX1_read : MethodName := ⟨RX1, "read", "()LStorkVote$Text;"⟩
abbrev cX1_begin : ByteArray := prog_3_method_4_code
def yX1_begin : MethodName := ⟨RX1, "begin", "()V"⟩
abbrev cX1_goesOn : ByteArray := prog_3_method_5_code
def yX1_goesOn : MethodName := ⟨RX1, "goesOn", "(LStorkVote$Tape;II)Z"⟩
abbrev cX1_keyAt : ByteArray := prog_3_method_6_code
def yX1_keyAt : MethodName := ⟨RX1, "keyAt", "(LStorkVote$Tape;II)I"⟩
abbrev cX1_names : ByteArray := prog_3_method_7_code
def yX1_names : MethodName := ⟨RX1, "names", "()Ljava/lang/String;"⟩
abbrev cX1_isPiece : ByteArray := prog_3_method_8_code
def yX1_isPiece : MethodName := ⟨RX1, "isPiece", "(I)Z"⟩
abbrev cX1_endPiece : ByteArray := prog_3_method_9_code
def yX1_endPiece : MethodName := ⟨RX1, "endPiece", "()V"⟩
abbrev cX1_opens : ByteArray := prog_3_method_10_code
def yX1_opens : MethodName := ⟨RX1, "opens", "()Z"⟩
abbrev cX1_negates : ByteArray := prog_3_method_11_code
def yX1_negates : MethodName := ⟨RX1, "negates", "()Z"⟩
abbrev cX1_closes : ByteArray := prog_3_method_12_code
def yX1_closes : MethodName := ⟨RX1, "closes", "()Z"⟩
abbrev cX1_joins : ByteArray := prog_3_method_13_code
def yX1_joins : MethodName := ⟨RX1, "joins", "(I)Z"⟩
abbrev cX1_joinDownTo : ByteArray := prog_3_method_14_code
def yX1_joinDownTo : MethodName := ⟨RX1, "joinDownTo", "(I)V"⟩
abbrev cX1_rankOf : ByteArray := prog_3_method_15_code
def yX1_rankOf : MethodName := ⟨RX1, "rankOf", "(I)I"⟩
abbrev cX1_addStep : ByteArray := prog_3_method_16_code
def yX1_addStep : MethodName := ⟨RX1, "addStep", "(I)V"⟩
abbrev cX1_addSign : ByteArray := prog_3_method_17_code
def yX1_addSign : MethodName := ⟨RX1, "addSign", "(I)V"⟩
def RX2 : String := "StorkVote$Sheet"
def TX2 : u_T := fun k => match k with
  | 0 => ("StorkVote$Sheet", "sort", "I", false)
  | 1 => ("StorkVote$Sheet", "size", "I", false)
  | _ => ("StorkVote$Sheet", "places", "[I", true)
def tyX2 : Nat → FieldType := fun k => match k with
  | 0 => .int
  | 1 => .int
  | _ => .array .int
abbrev wsX20 : List Cond := u_ws RX2 TX2 3
theorem nmX2 : ∀ a, a < 3 → ∀ b, b < 3 → a ≠ b → (TX2 a).2.1 ≠ (TX2 b).2.1 := by decide +kernel
theorem tyX2_ok : ∀ k, k < 3 → parseFieldDescriptor (TX2 k).2.2.1 = some (tyX2 k) := by decide +kernel
abbrev cX2_init : ByteArray := prog_4_method_1_code
def yX2_init : MethodName := ⟨RX2, "<init>", "()V"⟩
abbrev cX2_isMissing : ByteArray := prog_4_method_2_code
def yX2_isMissing : MethodName := ⟨RX2, "isMissing", "()Z"⟩
abbrev cX2_has : ByteArray := prog_4_method_3_code
def yX2_has : MethodName := ⟨RX2, "has", "(I)Z"⟩
abbrev cX2_hasRow : ByteArray := prog_4_method_4_code
def yX2_hasRow : MethodName := ⟨RX2, "hasRow", "(II)Z"⟩
abbrev cX2_become : ByteArray := prog_4_method_5_code
def yX2_become : MethodName := ⟨RX2, "become", "(II)V"⟩
abbrev cX2_take : ByteArray := prog_4_method_6_code
def yX2_take : MethodName := ⟨RX2, "take", "(LStorkVote$Sheet;)V"⟩
def RX3 : String := "StorkVote$Slot"
def TX3 : u_T := fun k => match k with
  | 0 => ("StorkVote$Slot", "thing", "I", false)
  | 1 => ("StorkVote$Slot", "chimney", "LStorkVote$Chimney;", true)
  | 2 => ("StorkVote$Slot", "sheet", "LStorkVote$Sheet;", true)
  | _ => ("StorkVote$Slot", "number", "I", false)
def tyX3 : Nat → FieldType := fun k => match k with
  | 0 => .int
  | 1 => .object "StorkVote$Chimney"
  | 2 => .object "StorkVote$Sheet"
  | _ => .int
abbrev wsX30 : List Cond := u_ws RX3 TX3 4
theorem nmX3 : ∀ a, a < 4 → ∀ b, b < 4 → a ≠ b → (TX3 a).2.1 ≠ (TX3 b).2.1 := by decide +kernel
theorem tyX3_ok : ∀ k, k < 4 → parseFieldDescriptor (TX3 k).2.2.1 = some (tyX3 k) := by decide +kernel
abbrev cX3_init : ByteArray := prog_5_method_1_code
def yX3_init : MethodName := ⟨RX3, "<init>", "()V"⟩
def RX4 : String := "StorkVote$Spring"
def TX4 : u_T := fun k => match k with
  | 0 => ("StorkVote$Spring", "nests", "[I", true)
  | 1 => ("StorkVote$Spring", "guests", "[I", true)
  | 2 => ("StorkVote$Spring", "likedAfar", "[I", true)
  | _ => ("StorkVote$Spring", "likedAtHome", "[I", true)
def tyX4 : Nat → FieldType := fun k => match k with
  | 0 => .array .int
  | 1 => .array .int
  | 2 => .array .int
  | _ => .array .int
abbrev wsX40 : List Cond := u_ws RX4 TX4 4
theorem nmX4 : ∀ a, a < 4 → ∀ b, b < 4 → a ≠ b → (TX4 a).2.1 ≠ (TX4 b).2.1 := by decide +kernel
theorem tyX4_ok : ∀ k, k < 4 → parseFieldDescriptor (TX4 k).2.2.1 = some (tyX4 k) := by decide +kernel
abbrev cX4_init : ByteArray := prog_6_method_1_code
def yX4_init : MethodName := ⟨RX4, "<init>", "()V"⟩
abbrev cX4_look : ByteArray := prog_6_method_2_code
def yX4_look : MethodName := ⟨RX4, "look", "(LStorkVote$World;)V"⟩
abbrev cX4_lookAt : ByteArray := prog_6_method_3_code
def yX4_lookAt : MethodName := ⟨RX4, "lookAt", "(LStorkVote$World;I)V"⟩
abbrev cX4_liked : ByteArray := prog_6_method_4_code
def yX4_liked : MethodName := ⟨RX4, "liked", "(LStorkVote$World;II)I"⟩
abbrev cX4_wants : ByteArray := prog_6_method_5_code
def yX4_wants : MethodName := ⟨RX4, "wants", "(LStorkVote$World;II)Z"⟩
abbrev cX4_settle : ByteArray := prog_6_method_6_code
def yX4_settle : MethodName := ⟨RX4, "settle", "(LStorkVote$World;I)V"⟩
abbrev cX4_move : ByteArray := prog_6_method_7_code
def yX4_move : MethodName := ⟨RX4, "move", "(II)V"⟩
abbrev cX4_strongest : ByteArray := prog_6_method_8_code
def yX4_strongest : MethodName := ⟨RX4, "strongest", "(LStorkVote$World;I)I"⟩
abbrev cX4_bestLeft : ByteArray := prog_6_method_9_code
def yX4_bestLeft : MethodName := ⟨RX4, "bestLeft", "(LStorkVote$World;II)I"⟩
abbrev cX4_nestsIn : ByteArray := prog_6_method_10_code
def yX4_nestsIn : MethodName := ⟨RX4, "nestsIn", "(LStorkVote$World;I)I"⟩
abbrev cX4_allNests : ByteArray := prog_6_method_11_code
def yX4_allNests : MethodName := ⟨RX4, "allNests", "(LStorkVote$World;)I"⟩
abbrev cX4_seats : ByteArray := prog_6_method_12_code
def yX4_seats : MethodName := ⟨RX4, "seats", "(LStorkVote$World;I)I"⟩
abbrev cX4_allSeats : ByteArray := prog_6_method_13_code
def yX4_allSeats : MethodName := ⟨RX4, "allSeats", "(LStorkVote$World;)I"⟩
abbrev cX4_winner : ByteArray := prog_6_method_14_code
def yX4_winner : MethodName := ⟨RX4, "winner", "(LStorkVote$World;)I"⟩
abbrev cX4_nestsTold : ByteArray := prog_6_method_15_code
def yX4_nestsTold : MethodName := ⟨RX4, "nestsTold", "(LStorkVote$World;LStorkVote$Sheet;)V"⟩
abbrev cX4_betterFor : ByteArray := prog_6_method_16_code
def yX4_betterFor : MethodName := ⟨RX4, "betterFor", "(LStorkVote$World;I)I"⟩
def RX5 : String := "StorkVote$Stork"
def TX5 : u_T := fun k => match k with
  | 0 => ("StorkVote$Stork", "strong", "I", false)
  | 1 => ("StorkVote$Stork", "home", "I", false)
  | _ => ("StorkVote$Stork", "away", "Z", false)
def tyX5 : Nat → FieldType := fun k => match k with
  | 0 => .int
  | 1 => .int
  | _ => .boolean
abbrev wsX50 : List Cond := u_ws RX5 TX5 3
theorem nmX5 : ∀ a, a < 3 → ∀ b, b < 3 → a ≠ b → (TX5 a).2.1 ≠ (TX5 b).2.1 := by decide +kernel
theorem tyX5_ok : ∀ k, k < 3 → parseFieldDescriptor (TX5 k).2.2.1 = some (tyX5 k) := by decide +kernel
abbrev cX5_init : ByteArray := prog_7_method_1_code
def yX5_init : MethodName := ⟨RX5, "<init>", "()V"⟩
abbrev cX5_become : ByteArray := prog_7_method_2_code
def yX5_become : MethodName := ⟨RX5, "become", "(IIZ)V"⟩
abbrev cX5_take : ByteArray := prog_7_method_3_code
def yX5_take : MethodName := ⟨RX5, "take", "(LStorkVote$Stork;)V"⟩
def RX6 : String := "StorkVote$Tape"
def TX6 : u_T := fun k => match k with
  | 0 => ("StorkVote$Tape", "bytes", "[I", true)
  | _ => ("StorkVote$Tape", "size", "I", false)
def tyX6 : Nat → FieldType := fun k => match k with
  | 0 => .array .int
  | _ => .int
abbrev wsX60 : List Cond := u_ws RX6 TX6 2
theorem nmX6 : ∀ a, a < 2 → ∀ b, b < 2 → a ≠ b → (TX6 a).2.1 ≠ (TX6 b).2.1 := by decide +kernel
theorem tyX6_ok : ∀ k, k < 2 → parseFieldDescriptor (TX6 k).2.2.1 = some (tyX6 k) := by decide +kernel
abbrev cX6_init : ByteArray := prog_8_method_1_code
def yX6_init : MethodName := ⟨RX6, "<init>", "()V"⟩
abbrev cX6_put : ByteArray := prog_8_method_2_code
def yX6_put : MethodName := ⟨RX6, "put", "(I)V"⟩
abbrev cX6_endOf : ByteArray := prog_8_method_3_code
def yX6_endOf : MethodName := ⟨RX6, "endOf", "(I)I"⟩
abbrev cX6_isWord : ByteArray := prog_8_method_4_code
def yX6_isWord : MethodName := ⟨RX6, "isWord", "(IILjava/lang/String;)Z"⟩
abbrev cX6_number : ByteArray := prog_8_method_5_code
def yX6_number : MethodName := ⟨RX6, "number", "(II)I"⟩
def RX7 : String := "StorkVote$Text"
def TX7 : u_T := fun k => match k with
  | 0 => ("StorkVote$Text", "key", "I", true)
  | 1 => ("StorkVote$Text", "pieces", "I", true)
  | _ => ("StorkVote$Text", "steps", "[I", true)
def tyX7 : Nat → FieldType := fun k => match k with
  | 0 => .int
  | 1 => .int
  | _ => .array .int
abbrev wsX70 : List Cond := u_ws RX7 TX7 3
theorem nmX7 : ∀ a, a < 3 → ∀ b, b < 3 → a ≠ b → (TX7 a).2.1 ≠ (TX7 b).2.1 := by decide +kernel
theorem tyX7_ok : ∀ k, k < 3 → parseFieldDescriptor (TX7 k).2.2.1 = some (tyX7 k) := by decide +kernel
abbrev cX7_init : ByteArray := prog_9_method_1_code
def yX7_init : MethodName := ⟨RX7, "<init>", "(II[I)V"⟩
abbrev cX7_value : ByteArray := prog_9_method_2_code
def yX7_value : MethodName := ⟨RX7, "value", "(III[I)I"⟩
abbrev cX7_named : ByteArray := prog_9_method_3_code
def yX7_named : MethodName := ⟨RX7, "named", "(IIII)I"⟩
abbrev cX7_joined : ByteArray := prog_9_method_4_code
def yX7_joined : MethodName := ⟨RX7, "joined", "(III)I"⟩
def RX8 : String := "StorkVote$World"
def TX8 : u_T := fun k => match k with
  | 0 => ("StorkVote$World", "chimneys", "[LStorkVote$Chimney;", true)
  | 1 => ("StorkVote$World", "chimneyCount", "I", false)
  | 2 => ("StorkVote$World", "storks", "[LStorkVote$Stork;", true)
  | 3 => ("StorkVote$World", "storkCount", "I", false)
  | 4 => ("StorkVote$World", "rules", "[I", true)
  | 5 => ("StorkVote$World", "year", "I", false)
  | 6 => ("StorkVote$World", "z", "I", false)
  | 7 => ("StorkVote$World", "texts", "[LStorkVote$Text;", true)
  | 8 => ("StorkVote$World", "textCount", "I", false)
  | _ => ("StorkVote$World", "pile", "[I", true)
def tyX8 : Nat → FieldType := fun k => match k with
  | 0 => .array (.object "StorkVote$Chimney")
  | 1 => .int
  | 2 => .array (.object "StorkVote$Stork")
  | 3 => .int
  | 4 => .array .int
  | 5 => .int
  | 6 => .int
  | 7 => .array (.object "StorkVote$Text")
  | 8 => .int
  | _ => .array .int
abbrev wsX80 : List Cond := u_ws RX8 TX8 10
theorem nmX8 : ∀ a, a < 10 → ∀ b, b < 10 → a ≠ b → (TX8 a).2.1 ≠ (TX8 b).2.1 := by decide +kernel
theorem tyX8_ok : ∀ k, k < 10 → parseFieldDescriptor (TX8 k).2.2.1 = some (tyX8 k) := by decide +kernel
abbrev cX8_init : ByteArray := prog_10_method_1_code
def yX8_init : MethodName := ⟨RX8, "<init>", "()V"⟩
abbrev cX8_take : ByteArray := prog_10_method_2_code
def yX8_take : MethodName := ⟨RX8, "take", "(LStorkVote$World;)V"⟩
abbrev cX8_hasChimney : ByteArray := prog_10_method_3_code
def yX8_hasChimney : MethodName := ⟨RX8, "hasChimney", "(I)Z"⟩
abbrev cX8_hasStork : ByteArray := prog_10_method_4_code
def yX8_hasStork : MethodName := ⟨RX8, "hasStork", "(I)Z"⟩
abbrev cX8_build : ByteArray := prog_10_method_5_code
def yX8_build : MethodName := ⟨RX8, "build", "(IIII)I"⟩
abbrev cX8_hatch : ByteArray := prog_10_method_6_code
def yX8_hatch : MethodName := ⟨RX8, "hatch", "(II)I"⟩
abbrev cX8_draw : ByteArray := prog_10_method_7_code
def yX8_draw : MethodName := ⟨RX8, "draw", "()I"⟩
abbrev cX8_here : ByteArray := prog_10_method_8_code
def yX8_here : MethodName := ⟨RX8, "here", "()I"⟩
abbrev cX8_counts : ByteArray := prog_10_method_9_code
def yX8_counts : MethodName := ⟨RX8, "counts", "(I)I"⟩
abbrev cX8_counting : ByteArray := prog_10_method_10_code
def yX8_counting : MethodName := ⟨RX8, "counting", "(I)LStorkVote$Text;"⟩
abbrev cX8_liking : ByteArray := prog_10_method_11_code
def yX8_liking : MethodName := ⟨RX8, "liking", "(II)I"⟩
abbrev cX8_seatsFor : ByteArray := prog_10_method_12_code
def yX8_seatsFor : MethodName := ⟨RX8, "seatsFor", "(II)I"⟩
abbrev cX8_keepsFirst : ByteArray := prog_10_method_13_code
def yX8_keepsFirst : MethodName := ⟨RX8, "keepsFirst", "(II)Z"⟩
abbrev cX8_live : ByteArray := prog_10_method_14_code
def yX8_live : MethodName := ⟨RX8, "live", "(LStorkVote$Spring;)V"⟩
abbrev cX8_fare : ByteArray := prog_10_method_15_code
def yX8_fare : MethodName := ⟨RX8, "fare", "(II)V"⟩
def RX9 : String := "StorkVote"
def TX9 : u_T := fun k => match k with
  | 0 => ("StorkVote", "now", "LStorkVote$World;", true)
  | 1 => ("StorkVote", "image", "LStorkVote$World;", true)
  | 2 => ("StorkVote", "thought", "LStorkVote$World;", true)
  | 3 => ("StorkVote", "spring", "LStorkVote$Spring;", true)
  | 4 => ("StorkVote", "tape", "LStorkVote$Tape;", true)
  | 5 => ("StorkVote", "reader", "LStorkVote$Reader;", true)
  | 6 => ("StorkVote", "sheets", "[LStorkVote$Sheet;", true)
  | 7 => ("StorkVote", "slots", "[LStorkVote$Slot;", true)
  | 8 => ("StorkVote", "waiting", "[I", true)
  | 9 => ("StorkVote", "waits", "I", false)
  | _ => ("StorkVote", "kept", "Z", false)
def tyX9 : Nat → FieldType := fun k => match k with
  | 0 => .object "StorkVote$World"
  | 1 => .object "StorkVote$World"
  | 2 => .object "StorkVote$World"
  | 3 => .object "StorkVote$Spring"
  | 4 => .object "StorkVote$Tape"
  | 5 => .object "StorkVote$Reader"
  | 6 => .array (.object "StorkVote$Sheet")
  | 7 => .array (.object "StorkVote$Slot")
  | 8 => .array .int
  | 9 => .int
  | _ => .boolean
abbrev wsX90 : List Cond := u_ws RX9 TX9 11
theorem nmX9 : ∀ a, a < 11 → ∀ b, b < 11 → a ≠ b → (TX9 a).2.1 ≠ (TX9 b).2.1 := by decide +kernel
theorem tyX9_ok : ∀ k, k < 11 → parseFieldDescriptor (TX9 k).2.2.1 = some (tyX9 k) := by decide +kernel
abbrev cX9_init : ByteArray := prog_1_method_1_code
def yX9_init : MethodName := ⟨RX9, "<init>", "()V"⟩
abbrev cX9_chimney : ByteArray := prog_1_method_2_code
def yX9_chimney : MethodName := ⟨RX9, "chimney", "(IIII)I"⟩
abbrev cX9_told : ByteArray := prog_1_method_3_code
def yX9_told : MethodName := ⟨RX9, "told", "(II)I"⟩
abbrev cX9_as : ByteArray := prog_1_method_4_code
def yX9_as : MethodName := ⟨RX9, "as", "(II)I"⟩
abbrev cX9_turns : ByteArray := prog_1_method_5_code
def yX9_turns : MethodName := ⟨RX9, "turns", "(II)I"⟩
abbrev cX9_set : ByteArray := prog_1_method_6_code
def yX9_set : MethodName := ⟨RX9, "set", "(III)I"⟩
abbrev cX9_stork : ByteArray := prog_1_method_7_code
def yX9_stork : MethodName := ⟨RX9, "stork", "(II)I"⟩
abbrev cX9_storkTold : ByteArray := prog_1_method_8_code
def yX9_storkTold : MethodName := ⟨RX9, "storkTold", "(II)I"⟩
abbrev cX9_away : ByteArray := prog_1_method_9_code
def yX9_away : MethodName := ⟨RX9, "away", "(II)I"⟩
abbrev cX9_likes : ByteArray := prog_1_method_10_code
def yX9_likes : MethodName := ⟨RX9, "likes", "(II)I"⟩
abbrev cX9_rule : ByteArray := prog_1_method_11_code
def yX9_rule : MethodName := ⟨RX9, "rule", "(II)I"⟩
abbrev cX9_deal : ByteArray := prog_1_method_12_code
def yX9_deal : MethodName := ⟨RX9, "deal", "(I)I"⟩
abbrev cX9_seed : ByteArray := prog_1_method_13_code
def yX9_seed : MethodName := ⟨RX9, "seed", "(I)I"⟩
abbrev cX9_ward : ByteArray := prog_1_method_14_code
def yX9_ward : MethodName := ⟨RX9, "ward", "(II)I"⟩
abbrev cX9_elected : ByteArray := prog_1_method_15_code
def yX9_elected : MethodName := ⟨RX9, "elected", "()I"⟩
abbrev cX9_years : ByteArray := prog_1_method_16_code
def yX9_years : MethodName := ⟨RX9, "years", "(I)I"⟩
abbrev cX9_frogs : ByteArray := prog_1_method_17_code
def yX9_frogs : MethodName := ⟨RX9, "frogs", "(II)I"⟩
abbrev cX9_driven : ByteArray := prog_1_method_18_code
def yX9_driven : MethodName := ⟨RX9, "driven", "(I)I"⟩
abbrev cX9_brings : ByteArray := prog_1_method_19_code
def yX9_brings : MethodName := ⟨RX9, "brings", "(I)I"⟩
abbrev cX9_behind : ByteArray := prog_1_method_20_code
def yX9_behind : MethodName := ⟨RX9, "behind", "(II)I"⟩
abbrev cX9_rather : ByteArray := prog_1_method_21_code
def yX9_rather : MethodName := ⟨RX9, "rather", "(I)I"⟩
abbrev cX9_fine : ByteArray := prog_1_method_22_code
def yX9_fine : MethodName := ⟨RX9, "fine", "()I"⟩
abbrev cX9_feed : ByteArray := prog_1_method_23_code
def yX9_feed : MethodName := ⟨RX9, "feed", "(III)I"⟩
abbrev cX9_trim : ByteArray := prog_1_method_24_code
def yX9_trim : MethodName := ⟨RX9, "trim", "(I)I"⟩
abbrev cX9_text : ByteArray := prog_1_method_25_code
def yX9_text : MethodName := ⟨RX9, "text", "()I"⟩
abbrev cX9_textTold : ByteArray := prog_1_method_26_code
def yX9_textTold : MethodName := ⟨RX9, "textTold", "(II)I"⟩
abbrev cX9_why : ByteArray := prog_1_method_27_code
def yX9_why : MethodName := ⟨RX9, "why", "(I)I"⟩
abbrev cX9_sheet : ByteArray := prog_1_method_28_code
def yX9_sheet : MethodName := ⟨RX9, "sheet", "(III)I"⟩
abbrev cX9_mark : ByteArray := prog_1_method_29_code
def yX9_mark : MethodName := ⟨RX9, "mark", "(III)I"⟩
abbrev cX9_pour : ByteArray := prog_1_method_30_code
def yX9_pour : MethodName := ⟨RX9, "pour", "(I)I"⟩
abbrev cX9_reads : ByteArray := prog_1_method_31_code
def yX9_reads : MethodName := ⟨RX9, "reads", "(I)I"⟩
abbrev cX9_copy : ByteArray := prog_1_method_32_code
def yX9_copy : MethodName := ⟨RX9, "copy", "(IIIII)I"⟩
abbrev cX9_lay : ByteArray := prog_1_method_33_code
def yX9_lay : MethodName := ⟨RX9, "lay", "(III)I"⟩
abbrev cX9_ask : ByteArray := prog_1_method_34_code
def yX9_ask : MethodName := ⟨RX9, "ask", "(II)I"⟩
abbrev cX9_item : ByteArray := prog_1_method_35_code
def yX9_item : MethodName := ⟨RX9, "item", "(II)I"⟩
abbrev cX9_rest : ByteArray := prog_1_method_36_code
def yX9_rest : MethodName := ⟨RX9, "rest", "(II)I"⟩
abbrev cX9_tell : ByteArray := prog_1_method_37_code
def yX9_tell : MethodName := ⟨RX9, "tell", "(I)I"⟩
abbrev cX9_check : ByteArray := prog_1_method_38_code
def yX9_check : MethodName := ⟨RX9, "check", "(I)I"⟩
abbrev cX9_keep : ByteArray := prog_1_method_39_code
def yX9_keep : MethodName := ⟨RX9, "keep", "()I"⟩
abbrev cX9_back : ByteArray := prog_1_method_40_code
def yX9_back : MethodName := ⟨RX9, "back", "()I"⟩
abbrev cX9_count : ByteArray := prog_1_method_41_code
def yX9_count : MethodName := ⟨RX9, "count", "(I)I"⟩
abbrev cX9_settleNow : ByteArray := prog_1_method_42_code
def yX9_settleNow : MethodName := ⟨RX9, "settleNow", "()V"⟩
abbrev cX9_nestIs : ByteArray := prog_1_method_43_code
def yX9_nestIs : MethodName := ⟨RX9, "nestIs", "(II)Z"⟩
abbrev cX9_waitsAt : ByteArray := prog_1_method_44_code
def yX9_waitsAt : MethodName := ⟨RX9, "waitsAt", "(III)Z"⟩
abbrev cX9_within : ByteArray := prog_1_method_45_code
def yX9_within : MethodName := ⟨RX9, "within", "(II)Z"⟩
abbrev cX9_held : ByteArray := prog_1_method_46_code
def yX9_held : MethodName := ⟨RX9, "held", "(II)I"⟩
abbrev cX9_bit : ByteArray := prog_1_method_47_code
def yX9_bit : MethodName := ⟨RX9, "bit", "(Z)I"⟩
abbrev cX9_isLetter : ByteArray := prog_1_method_48_code
def yX9_isLetter : MethodName := ⟨RX9, "isLetter", "(I)Z"⟩
abbrev cX9_isDigit : ByteArray := prog_1_method_49_code
def yX9_isDigit : MethodName := ⟨RX9, "isDigit", "(I)Z"⟩
def RX10 : String := "StorkVoteModel"
def TX10 : u_T := fun k => match k with
  | 0 => ("StorkVoteModel", "now", "[I", true)
  | 1 => ("StorkVoteModel", "image", "[I", true)
  | 2 => ("StorkVoteModel", "aside", "[I", true)
  | 3 => ("StorkVoteModel", "hasImage", "Z", false)
  | 4 => ("StorkVoteModel", "shut", "I", false)
  | 5 => ("StorkVoteModel", "whose", "[I", true)
  | 6 => ("StorkVoteModel", "nestOf", "[I", true)
  | 7 => ("StorkVoteModel", "hasChosen", "[Z", true)
  | 8 => ("StorkVoteModel", "before", "[I", true)
  | 9 => ("StorkVoteModel", "tape", "[I", true)
  | 10 => ("StorkVoteModel", "taped", "I", false)
  | 11 => ("StorkVoteModel", "next", "I", false)
  | 12 => ("StorkVoteModel", "from", "I", false)
  | 13 => ("StorkVoteModel", "token", "I", false)
  | 14 => ("StorkVoteModel", "value", "I", false)
  | 15 => ("StorkVoteModel", "ended", "I", false)
  | 16 => ("StorkVoteModel", "key", "I", false)
  | 17 => ("StorkVoteModel", "keys", "[C", true)
  | 18 => ("StorkVoteModel", "keyAt", "[I", true)
  | 19 => ("StorkVoteModel", "code", "[I", true)
  | 20 => ("StorkVoteModel", "codes", "I", false)
  | 21 => ("StorkVoteModel", "atoms", "I", false)
  | 22 => ("StorkVoteModel", "waits", "[I", true)
  | 23 => ("StorkVoteModel", "held", "I", false)
  | 24 => ("StorkVoteModel", "tested", "[Z", true)
  | 25 => ("StorkVoteModel", "stack", "[I", true)
  | 26 => ("StorkVoteModel", "facts", "[I", true)
  | 27 => ("StorkVoteModel", "sorts", "[I", true)
  | 28 => ("StorkVoteModel", "sizes", "[I", true)
  | 29 => ("StorkVoteModel", "cells", "[I", true)
  | 30 => ("StorkVoteModel", "holds", "[I", true)
  | 31 => ("StorkVoteModel", "holdsA", "[I", true)
  | 32 => ("StorkVoteModel", "holdsB", "[I", true)
  | 33 => ("StorkVoteModel", "heldCells", "[I", true)
  | 34 => ("StorkVoteModel", "moved", "[I", true)
  | 35 => ("StorkVoteModel", "tells", "[I", true)
  | _ => ("StorkVoteModel", "waiting", "I", false)
def tyX10 : Nat → FieldType := fun k => match k with
  | 0 => .array .int
  | 1 => .array .int
  | 2 => .array .int
  | 3 => .boolean
  | 4 => .int
  | 5 => .array .int
  | 6 => .array .int
  | 7 => .array .boolean
  | 8 => .array .int
  | 9 => .array .int
  | 10 => .int
  | 11 => .int
  | 12 => .int
  | 13 => .int
  | 14 => .int
  | 15 => .int
  | 16 => .int
  | 17 => .array .char
  | 18 => .array .int
  | 19 => .array .int
  | 20 => .int
  | 21 => .int
  | 22 => .array .int
  | 23 => .int
  | 24 => .array .boolean
  | 25 => .array .int
  | 26 => .array .int
  | 27 => .array .int
  | 28 => .array .int
  | 29 => .array .int
  | 30 => .array .int
  | 31 => .array .int
  | 32 => .array .int
  | 33 => .array .int
  | 34 => .array .int
  | 35 => .array .int
  | _ => .int
abbrev wsX100 : List Cond := u_ws RX10 TX10 37
theorem nmX10 : ∀ a, a < 37 → ∀ b, b < 37 → a ≠ b → (TX10 a).2.1 ≠ (TX10 b).2.1 := by decide +kernel
theorem tyX10_ok : ∀ k, k < 37 → parseFieldDescriptor (TX10 k).2.2.1 = some (tyX10 k) := by decide +kernel
abbrev cX10_init : ByteArray := prog_12_method_1_code
def yX10_init : MethodName := ⟨RX10, "<init>", "()V"⟩
abbrev cX10_in : ByteArray := prog_12_method_2_code
def yX10_in : MethodName := ⟨RX10, "in", "(III)Z"⟩
abbrev cX10_within : ByteArray := prog_12_method_3_code
def yX10_within : MethodName := ⟨RX10, "within", "(III)I"⟩
abbrev cX10_copyAll : ByteArray := prog_12_method_4_code
def yX10_copyAll : MethodName := ⟨RX10, "copyAll", "([I[I)V"⟩
abbrev cX10_told0 : ByteArray := prog_12_method_5_code
def yX10_told0 : MethodName := ⟨RX10, "told0", "(I)I"⟩
abbrev cX10_isChimney : ByteArray := prog_12_method_6_code
def yX10_isChimney : MethodName := ⟨RX10, "isChimney", "(I)Z"⟩
abbrev cX10_isStork : ByteArray := prog_12_method_7_code
def yX10_isStork : MethodName := ⟨RX10, "isStork", "(I)Z"⟩
abbrev cX10_isWard : ByteArray := prog_12_method_8_code
def yX10_isWard : MethodName := ⟨RX10, "isWard", "(I)Z"⟩
abbrev cX10_of : ByteArray := prog_12_method_9_code
def yX10_of : MethodName := ⟨RX10, "of", "(II)I"⟩
abbrev cX10_strong : ByteArray := prog_12_method_10_code
def yX10_strong : MethodName := ⟨RX10, "strong", "(I)I"⟩
abbrev cX10_isAway : ByteArray := prog_12_method_11_code
def yX10_isAway : MethodName := ⟨RX10, "isAway", "(I)Z"⟩
abbrev cX10_becomes : ByteArray := prog_12_method_12_code
def yX10_becomes : MethodName := ⟨RX10, "becomes", "(II)I"⟩
abbrev cX10_comes : ByteArray := prog_12_method_13_code
def yX10_comes : MethodName := ⟨RX10, "comes", "(IIII)I"⟩
abbrev cX10_chimney : ByteArray := prog_12_method_14_code
def yX10_chimney : MethodName := ⟨RX10, "chimney", "(IIII)I"⟩
abbrev cX10_worthOf : ByteArray := prog_12_method_15_code
def yX10_worthOf : MethodName := ⟨RX10, "worthOf", "(I)I"⟩
abbrev cX10_told : ByteArray := prog_12_method_16_code
def yX10_told : MethodName := ⟨RX10, "told", "(II)I"⟩
abbrev cX10_isUnder : ByteArray := prog_12_method_17_code
def yX10_isUnder : MethodName := ⟨RX10, "isUnder", "(II)Z"⟩
abbrev cX10_as : ByteArray := prog_12_method_18_code
def yX10_as : MethodName := ⟨RX10, "as", "(II)I"⟩
abbrev cX10_turns : ByteArray := prog_12_method_19_code
def yX10_turns : MethodName := ⟨RX10, "turns", "(II)I"⟩
abbrev cX10_set : ByteArray := prog_12_method_20_code
def yX10_set : MethodName := ⟨RX10, "set", "(III)I"⟩
abbrev cX10_hatches : ByteArray := prog_12_method_21_code
def yX10_hatches : MethodName := ⟨RX10, "hatches", "(II)I"⟩
abbrev cX10_stork : ByteArray := prog_12_method_22_code
def yX10_stork : MethodName := ⟨RX10, "stork", "(II)I"⟩
abbrev cX10_storkTold : ByteArray := prog_12_method_23_code
def yX10_storkTold : MethodName := ⟨RX10, "storkTold", "(II)I"⟩
abbrev cX10_away : ByteArray := prog_12_method_24_code
def yX10_away : MethodName := ⟨RX10, "away", "(II)I"⟩
abbrev cX10_likesOf : ByteArray := prog_12_method_25_code
def yX10_likesOf : MethodName := ⟨RX10, "likesOf", "(II)I"⟩
abbrev cX10_likes : ByteArray := prog_12_method_26_code
def yX10_likes : MethodName := ⟨RX10, "likes", "(II)I"⟩
abbrev cX10_rule : ByteArray := prog_12_method_27_code
def yX10_rule : MethodName := ⟨RX10, "rule", "(II)I"⟩
abbrev cX10_draw : ByteArray := prog_12_method_28_code
def yX10_draw : MethodName := ⟨RX10, "draw", "()I"⟩
abbrev cX10_deal : ByteArray := prog_12_method_29_code
def yX10_deal : MethodName := ⟨RX10, "deal", "(I)I"⟩
abbrev cX10_seed : ByteArray := prog_12_method_30_code
def yX10_seed : MethodName := ⟨RX10, "seed", "(I)I"⟩
abbrev cX10_nextStork : ByteArray := prog_12_method_31_code
def yX10_nextStork : MethodName := ⟨RX10, "nextStork", "()I"⟩
abbrev cX10_choiceOf : ByteArray := prog_12_method_32_code
def yX10_choiceOf : MethodName := ⟨RX10, "choiceOf", "(I)I"⟩
abbrev cX10_spring : ByteArray := prog_12_method_33_code
def yX10_spring : MethodName := ⟨RX10, "spring", "()V"⟩
abbrev cX10_nestsIn : ByteArray := prog_12_method_34_code
def yX10_nestsIn : MethodName := ⟨RX10, "nestsIn", "(I)I"⟩
abbrev cX10_seatsOf : ByteArray := prog_12_method_35_code
def yX10_seatsOf : MethodName := ⟨RX10, "seatsOf", "(I)I"⟩
abbrev cX10_electedNow : ByteArray := prog_12_method_36_code
def yX10_electedNow : MethodName := ⟨RX10, "electedNow", "()I"⟩
abbrev cX10_ward : ByteArray := prog_12_method_37_code
def yX10_ward : MethodName := ⟨RX10, "ward", "(II)I"⟩
abbrev cX10_elected : ByteArray := prog_12_method_38_code
def yX10_elected : MethodName := ⟨RX10, "elected", "()I"⟩
abbrev cX10_year : ByteArray := prog_12_method_39_code
def yX10_year : MethodName := ⟨RX10, "year", "()I"⟩
abbrev cX10_goesOn : ByteArray := prog_12_method_40_code
def yX10_goesOn : MethodName := ⟨RX10, "goesOn", "(I)I"⟩
abbrev cX10_years : ByteArray := prog_12_method_41_code
def yX10_years : MethodName := ⟨RX10, "years", "(I)I"⟩
abbrev cX10_thinks : ByteArray := prog_12_method_42_code
def yX10_thinks : MethodName := ⟨RX10, "thinks", "()V"⟩
abbrev cX10_putsBack : ByteArray := prog_12_method_43_code
def yX10_putsBack : MethodName := ⟨RX10, "putsBack", "()V"⟩
abbrev cX10_frogs : ByteArray := prog_12_method_44_code
def yX10_frogs : MethodName := ⟨RX10, "frogs", "(II)I"⟩
abbrev cX10_driven : ByteArray := prog_12_method_45_code
def yX10_driven : MethodName := ⟨RX10, "driven", "(I)I"⟩
abbrev cX10_brings : ByteArray := prog_12_method_46_code
def yX10_brings : MethodName := ⟨RX10, "brings", "(I)I"⟩
abbrev cX10_hereMany : ByteArray := prog_12_method_47_code
def yX10_hereMany : MethodName := ⟨RX10, "hereMany", "()I"⟩
abbrev cX10_behind : ByteArray := prog_12_method_48_code
def yX10_behind : MethodName := ⟨RX10, "behind", "(II)I"⟩
abbrev cX10_nestsBy : ByteArray := prog_12_method_49_code
def yX10_nestsBy : MethodName := ⟨RX10, "nestsBy", "(I)V"⟩
abbrev cX10_wouldRather : ByteArray := prog_12_method_50_code
def yX10_wouldRather : MethodName := ⟨RX10, "wouldRather", "(II)Z"⟩
abbrev cX10_rather : ByteArray := prog_12_method_51_code
def yX10_rather : MethodName := ⟨RX10, "rather", "(I)I"⟩
abbrev cX10_fine : ByteArray := prog_12_method_52_code
def yX10_fine : MethodName := ⟨RX10, "fine", "()I"⟩
abbrev cX10_feed : ByteArray := prog_12_method_53_code
def yX10_feed : MethodName := ⟨RX10, "feed", "(III)I"⟩
abbrev cX10_trim : ByteArray := prog_12_method_54_code
def yX10_trim : MethodName := ⟨RX10, "trim", "(I)I"⟩
abbrev cX10_isLetter : ByteArray := prog_12_method_55_code
def yX10_isLetter : MethodName := ⟨RX10, "isLetter", "(I)Z"⟩
abbrev cX10_isFigure : ByteArray := prog_12_method_56_code
def yX10_isFigure : MethodName := ⟨RX10, "isFigure", "(I)Z"⟩
abbrev cX10_go : ByteArray := prog_12_method_57_code
def yX10_go : MethodName := ⟨RX10, "go", "()V"⟩
abbrev cX10_takesKey : ByteArray := prog_12_method_58_code
def yX10_takesKey : MethodName := ⟨RX10, "takesKey", "()Z"⟩
abbrev cX10_nameOf : ByteArray := prog_12_method_59_code
def yX10_nameOf : MethodName := ⟨RX10, "nameOf", "(I)I"⟩
abbrev cX10_rank : ByteArray := prog_12_method_60_code
def yX10_rank : MethodName := ⟨RX10, "rank", "(I)I"⟩
abbrev cX10_settle : ByteArray := prog_12_method_61_code
def yX10_settle : MethodName := ⟨RX10, "settle", "(I)V"⟩
abbrev cX10_signHere : ByteArray := prog_12_method_62_code
def yX10_signHere : MethodName := ⟨RX10, "signHere", "()I"⟩
abbrev cX10_takesPart : ByteArray := prog_12_method_63_code
def yX10_takesPart : MethodName := ⟨RX10, "takesPart", "()Z"⟩
abbrev cX10_takesE : ByteArray := prog_12_method_64_code
def yX10_takesE : MethodName := ⟨RX10, "takesE", "()Z"⟩
abbrev cX10_notsOpen : ByteArray := prog_12_method_65_code
def yX10_notsOpen : MethodName := ⟨RX10, "notsOpen", "()I"⟩
abbrev cX10_text : ByteArray := prog_12_method_66_code
def yX10_text : MethodName := ⟨RX10, "text", "()I"⟩
abbrev cX10_textTold : ByteArray := prog_12_method_67_code
def yX10_textTold : MethodName := ⟨RX10, "textTold", "(II)I"⟩
abbrev cX10_counts : ByteArray := prog_12_method_68_code
def yX10_counts : MethodName := ⟨RX10, "counts", "(I)I"⟩
abbrev cX10_why : ByteArray := prog_12_method_69_code
def yX10_why : MethodName := ⟨RX10, "why", "(I)I"⟩
abbrev cX10_two : ByteArray := prog_12_method_70_code
def yX10_two : MethodName := ⟨RX10, "two", "(III)I"⟩
abbrev cX10_worksOut : ByteArray := prog_12_method_71_code
def yX10_worksOut : MethodName := ⟨RX10, "worksOut", "(I)I"⟩
abbrev cX10_isSheet : ByteArray := prog_12_method_72_code
def yX10_isSheet : MethodName := ⟨RX10, "isSheet", "(I)Z"⟩
abbrev cX10_isSlot : ByteArray := prog_12_method_73_code
def yX10_isSlot : MethodName := ⟨RX10, "isSlot", "(I)Z"⟩
abbrev cX10_sheet : ByteArray := prog_12_method_74_code
def yX10_sheet : MethodName := ⟨RX10, "sheet", "(III)I"⟩
abbrev cX10_mark : ByteArray := prog_12_method_75_code
def yX10_mark : MethodName := ⟨RX10, "mark", "(III)I"⟩
abbrev cX10_pour : ByteArray := prog_12_method_76_code
def yX10_pour : MethodName := ⟨RX10, "pour", "(I)I"⟩
abbrev cX10_reads : ByteArray := prog_12_method_77_code
def yX10_reads : MethodName := ⟨RX10, "reads", "(I)I"⟩
abbrev cX10_copy : ByteArray := prog_12_method_78_code
def yX10_copy : MethodName := ⟨RX10, "copy", "(IIIII)I"⟩
abbrev cX10_lay : ByteArray := prog_12_method_79_code
def yX10_lay : MethodName := ⟨RX10, "lay", "(III)I"⟩
abbrev cX10_ask : ByteArray := prog_12_method_80_code
def yX10_ask : MethodName := ⟨RX10, "ask", "(II)I"⟩
abbrev cX10_item : ByteArray := prog_12_method_81_code
def yX10_item : MethodName := ⟨RX10, "item", "(II)I"⟩
abbrev cX10_rest : ByteArray := prog_12_method_82_code
def yX10_rest : MethodName := ⟨RX10, "rest", "(II)I"⟩
abbrev cX10_tell : ByteArray := prog_12_method_83_code
def yX10_tell : MethodName := ⟨RX10, "tell", "(I)I"⟩
abbrev cX10_check : ByteArray := prog_12_method_84_code
def yX10_check : MethodName := ⟨RX10, "check", "(I)I"⟩
abbrev cX10_keep : ByteArray := prog_12_method_85_code
def yX10_keep : MethodName := ⟨RX10, "keep", "()I"⟩
abbrev cX10_back : ByteArray := prog_12_method_86_code
def yX10_back : MethodName := ⟨RX10, "back", "()I"⟩
abbrev cX10_nestsAll : ByteArray := prog_12_method_87_code
def yX10_nestsAll : MethodName := ⟨RX10, "nestsAll", "()I"⟩
abbrev cX10_count : ByteArray := prog_12_method_88_code
def yX10_count : MethodName := ⟨RX10, "count", "(I)I"⟩
def RJx145de : String := "java/io/Serializable"
def TJx145de : u_T := fun k => match k with
  | _ => ("", "", "", false)
def tyJx145de : Nat → FieldType := fun k => match k with
  | _ => .int
abbrev wsJx145de0 : List Cond := u_ws RJx145de TJx145de 0
theorem nmJx145de : ∀ a, a < 0 → ∀ b, b < 0 → a ≠ b → (TJx145de a).2.1 ≠ (TJx145de b).2.1 := by decide +kernel
theorem tyJx145de_ok : ∀ k, k < 0 → parseFieldDescriptor (TJx145de k).2.2.1 = some (tyJx145de k) := by decide +kernel
def RJx9f9b0 : String := "java/lang/CharSequence"
def TJx9f9b0 : u_T := fun k => match k with
  | _ => ("", "", "", false)
def tyJx9f9b0 : Nat → FieldType := fun k => match k with
  | _ => .int
abbrev wsJx9f9b00 : List Cond := u_ws RJx9f9b0 TJx9f9b0 0
theorem nmJx9f9b0 : ∀ a, a < 0 → ∀ b, b < 0 → a ≠ b → (TJx9f9b0 a).2.1 ≠ (TJx9f9b0 b).2.1 := by decide +kernel
theorem tyJx9f9b0_ok : ∀ k, k < 0 → parseFieldDescriptor (TJx9f9b0 k).2.2.1 = some (tyJx9f9b0 k) := by decide +kernel
def RJ11 : String := "java/lang/Character"
def TJ11 : u_T := fun k => match k with
  | _ => ("", "", "", false)
def tyJ11 : Nat → FieldType := fun k => match k with
  | _ => .int
abbrev wsJ110 : List Cond := u_ws RJ11 TJ11 0
theorem nmJ11 : ∀ a, a < 0 → ∀ b, b < 0 → a ≠ b → (TJ11 a).2.1 ≠ (TJ11 b).2.1 := by decide +kernel
theorem tyJ11_ok : ∀ k, k < 0 → parseFieldDescriptor (TJ11 k).2.2.1 = some (tyJ11 k) := by decide +kernel
abbrev cJ11_isValidCodePoint_9a6ad : ByteArray := prog_13_method_11_code
def yJ11_isValidCodePoint_9a6ad : MethodName := ⟨RJ11, "isValidCodePoint", "(I)Z"⟩
abbrev cJ11_highSurrogate_5068e : ByteArray := prog_13_method_28_code
def yJ11_highSurrogate_5068e : MethodName := ⟨RJ11, "highSurrogate", "(I)C"⟩
abbrev cJ11_lowSurrogate_5068e : ByteArray := prog_13_method_29_code
def yJ11_lowSurrogate_5068e : MethodName := ⟨RJ11, "lowSurrogate", "(I)C"⟩
def RJx8e188 : String := "java/lang/Cloneable"
def TJx8e188 : u_T := fun k => match k with
  | _ => ("", "", "", false)
def tyJx8e188 : Nat → FieldType := fun k => match k with
  | _ => .int
abbrev wsJx8e1880 : List Cond := u_ws RJx8e188 TJx8e188 0
theorem nmJx8e188 : ∀ a, a < 0 → ∀ b, b < 0 → a ≠ b → (TJx8e188 a).2.1 ≠ (TJx8e188 b).2.1 := by decide +kernel
theorem tyJx8e188_ok : ∀ k, k < 0 → parseFieldDescriptor (TJx8e188 k).2.2.1 = some (tyJx8e188 k) := by decide +kernel
def RJxb160c : String := "java/lang/Comparable"
def TJxb160c : u_T := fun k => match k with
  | _ => ("", "", "", false)
def tyJxb160c : Nat → FieldType := fun k => match k with
  | _ => .int
abbrev wsJxb160c0 : List Cond := u_ws RJxb160c TJxb160c 0
theorem nmJxb160c : ∀ a, a < 0 → ∀ b, b < 0 → a ≠ b → (TJxb160c a).2.1 ≠ (TJxb160c b).2.1 := by decide +kernel
theorem tyJxb160c_ok : ∀ k, k < 0 → parseFieldDescriptor (TJxb160c k).2.2.1 = some (tyJxb160c k) := by decide +kernel
def RJ9 : String := "java/lang/Math"
def TJ9 : u_T := fun k => match k with
  | _ => ("", "", "", false)
def tyJ9 : Nat → FieldType := fun k => match k with
  | _ => .int
abbrev wsJ90 : List Cond := u_ws RJ9 TJ9 0
theorem nmJ9 : ∀ a, a < 0 → ∀ b, b < 0 → a ≠ b → (TJ9 a).2.1 ≠ (TJ9 b).2.1 := by decide +kernel
theorem tyJ9_ok : ∀ k, k < 0 → parseFieldDescriptor (TJ9 k).2.2.1 = some (tyJ9 k) := by decide +kernel
abbrev cJ9_max_7cf53 : ByteArray := prog_15_method_65_code
def yJ9_max_7cf53 : MethodName := ⟨RJ9, "max", "(II)I"⟩
abbrev cJ9_min_7cf53 : ByteArray := prog_15_method_69_code
def yJ9_min_7cf53 : MethodName := ⟨RJ9, "min", "(II)I"⟩
def RJ0 : String := "java/lang/String"
def TJ0 : u_T := fun k => match k with
  | _ => ("", "", "", false)
def tyJ0 : Nat → FieldType := fun k => match k with
  | _ => .int
abbrev wsJ00 : List Cond := u_ws RJ0 TJ0 0
theorem nmJ0 : ∀ a, a < 0 → ∀ b, b < 0 → a ≠ b → (TJ0 a).2.1 ≠ (TJ0 b).2.1 := by decide +kernel
theorem tyJ0_ok : ∀ k, k < 0 → parseFieldDescriptor (TJ0 k).2.2.1 = some (tyJ0 k) := by decide +kernel
abbrev cJ0_length_8abf5 : ByteArray := prog_16_method_54_code
def yJ0_length_8abf5 : MethodName := ⟨RJ0, "length", "()I"⟩
abbrev cJ0_charAt_5068e : ByteArray := prog_16_method_56_code
def yJ0_charAt_5068e : MethodName := ⟨RJ0, "charAt", "(I)C"⟩
abbrev cJ0_indexOf_0f7a4 : ByteArray := prog_16_method_79_code
def yJ0_indexOf_0f7a4 : MethodName := ⟨RJ0, "indexOf", "(I)I"⟩
abbrev cJ0_indexOf_7cf53 : ByteArray := prog_16_method_80_code
def yJ0_indexOf_7cf53 : MethodName := ⟨RJ0, "indexOf", "(II)I"⟩
abbrev cJ0_coder_7d493 : ByteArray := prog_16_method_152_code
def yJ0_coder_7d493 : MethodName := ⟨RJ0, "coder", "()B"⟩
abbrev cJ0_isLatin1_aae02 : ByteArray := prog_16_method_154_code
def yJ0_isLatin1_aae02 : MethodName := ⟨RJ0, "isLatin1", "()Z"⟩
abbrev cJ0_checkIndex_df160 : ByteArray := prog_16_method_155_code
def yJ0_checkIndex_df160 : MethodName := ⟨RJ0, "checkIndex", "(II)V"⟩
abbrev cJ0_checkBoundsBeginEnd_23922 : ByteArray := prog_16_method_158_code
def yJ0_checkBoundsBeginEnd_23922 : MethodName := ⟨RJ0, "checkBoundsBeginEnd", "(III)V"⟩
def RJ1 : String := "java/lang/StringLatin1"
def TJ1 : u_T := fun k => match k with
  | _ => ("", "", "", false)
def tyJ1 : Nat → FieldType := fun k => match k with
  | _ => .int
abbrev wsJ10 : List Cond := u_ws RJ1 TJ1 0
theorem nmJ1 : ∀ a, a < 0 → ∀ b, b < 0 → a ≠ b → (TJ1 a).2.1 ≠ (TJ1 b).2.1 := by decide +kernel
theorem tyJ1_ok : ∀ k, k < 0 → parseFieldDescriptor (TJ1 k).2.2.1 = some (tyJ1 k) := by decide +kernel
abbrev cJ1_charAt_3b067 : ByteArray := prog_17_method_2_code
def yJ1_charAt_3b067 : MethodName := ⟨RJ1, "charAt", "([BI)C"⟩
abbrev cJ1_canEncode_9a6ad : ByteArray := prog_17_method_4_code
def yJ1_canEncode_9a6ad : MethodName := ⟨RJ1, "canEncode", "(I)Z"⟩
abbrev cJ1_indexOf_4cfef : ByteArray := prog_17_method_22_code
def yJ1_indexOf_4cfef : MethodName := ⟨RJ1, "indexOf", "([BIII)I"⟩
abbrev cJ1_indexOfChar_4cfef : ByteArray := prog_17_method_23_code
def yJ1_indexOfChar_4cfef : MethodName := ⟨RJ1, "indexOfChar", "([BIII)I"⟩
def RJ2 : String := "java/lang/StringUTF16"
def TJ2 : u_T := fun k => match k with
  | _ => ("", "", "", false)
def tyJ2 : Nat → FieldType := fun k => match k with
  | _ => .int
abbrev wsJ20 : List Cond := u_ws RJ2 TJ2 0
theorem nmJ2 : ∀ a, a < 0 → ∀ b, b < 0 → a ≠ b → (TJ2 a).2.1 ≠ (TJ2 b).2.1 := by decide +kernel
theorem tyJ2_ok : ∀ k, k < 0 → parseFieldDescriptor (TJ2 k).2.2.1 = some (tyJ2 k) := by decide +kernel
abbrev cJ2_getChar_3b067 : ByteArray := prog_18_method_5_code
def yJ2_getChar_3b067 : MethodName := ⟨RJ2, "getChar", "([BI)C"⟩
abbrev cJ2_length_9d52b : ByteArray := prog_18_method_6_code
def yJ2_length_9d52b : MethodName := ⟨RJ2, "length", "([B)I"⟩
abbrev cJ2_indexOf_4cfef : ByteArray := prog_18_method_40_code
def yJ2_indexOf_4cfef : MethodName := ⟨RJ2, "indexOf", "([BIII)I"⟩
abbrev cJ2_indexOfChar_4cfef : ByteArray := prog_18_method_47_code
def yJ2_indexOfChar_4cfef : MethodName := ⟨RJ2, "indexOfChar", "([BIII)I"⟩
abbrev cJ2_indexOfCharUnsafe_4cfef : ByteArray := prog_18_method_48_code
def yJ2_indexOfCharUnsafe_4cfef : MethodName := ⟨RJ2, "indexOfCharUnsafe", "([BIII)I"⟩
abbrev cJ2_indexOfSupplementary_4cfef : ByteArray := prog_18_method_49_code
def yJ2_indexOfSupplementary_4cfef : MethodName := ⟨RJ2, "indexOfSupplementary", "([BIII)I"⟩
abbrev cJ2_charAt_3b067 : ByteArray := prog_18_method_83_code
def yJ2_charAt_3b067 : MethodName := ⟨RJ2, "charAt", "([BI)C"⟩
abbrev cJ2_checkIndex_2214a : ByteArray := prog_18_method_91_code
def yJ2_checkIndex_2214a : MethodName := ⟨RJ2, "checkIndex", "(I[B)V"⟩
abbrev cJ2_checkBoundsBeginEnd_d044e : ByteArray := prog_18_method_93_code
def yJ2_checkBoundsBeginEnd_d044e : MethodName := ⟨RJ2, "checkBoundsBeginEnd", "(II[B)V"⟩
def RJ10 : String := "java/lang/System"
def TJ10 : u_T := fun k => match k with
  | _ => ("", "", "", false)
def tyJ10 : Nat → FieldType := fun k => match k with
  | _ => .int
abbrev wsJ100 : List Cond := u_ws RJ10 TJ10 0
theorem nmJ10 : ∀ a, a < 0 → ∀ b, b < 0 → a ≠ b → (TJ10 a).2.1 ≠ (TJ10 b).2.1 := by decide +kernel
theorem tyJ10_ok : ∀ k, k < 0 → parseFieldDescriptor (TJ10 k).2.2.1 = some (tyJ10 k) := by decide +kernel
def RJxfd54e : String := "java/lang/constant/Constable"
def TJxfd54e : u_T := fun k => match k with
  | _ => ("", "", "", false)
def tyJxfd54e : Nat → FieldType := fun k => match k with
  | _ => .int
abbrev wsJxfd54e0 : List Cond := u_ws RJxfd54e TJxfd54e 0
theorem nmJxfd54e : ∀ a, a < 0 → ∀ b, b < 0 → a ≠ b → (TJxfd54e a).2.1 ≠ (TJxfd54e b).2.1 := by decide +kernel
theorem tyJxfd54e_ok : ∀ k, k < 0 → parseFieldDescriptor (TJxfd54e k).2.2.1 = some (tyJxfd54e k) := by decide +kernel
def RJx3cf43 : String := "java/lang/constant/ConstantDesc"
def TJx3cf43 : u_T := fun k => match k with
  | _ => ("", "", "", false)
def tyJx3cf43 : Nat → FieldType := fun k => match k with
  | _ => .int
abbrev wsJx3cf430 : List Cond := u_ws RJx3cf43 TJx3cf43 0
theorem nmJx3cf43 : ∀ a, a < 0 → ∀ b, b < 0 → a ≠ b → (TJx3cf43 a).2.1 ≠ (TJx3cf43 b).2.1 := by decide +kernel
theorem tyJx3cf43_ok : ∀ k, k < 0 → parseFieldDescriptor (TJx3cf43 k).2.2.1 = some (tyJx3cf43 k) := by decide +kernel
def RJ7 : String := "java/util/Arrays"
def TJ7 : u_T := fun k => match k with
  | _ => ("", "", "", false)
def tyJ7 : Nat → FieldType := fun k => match k with
  | _ => .int
abbrev wsJ70 : List Cond := u_ws RJ7 TJ7 0
theorem nmJ7 : ∀ a, a < 0 → ∀ b, b < 0 → a ≠ b → (TJ7 a).2.1 ≠ (TJ7 b).2.1 := by decide +kernel
theorem tyJ7_ok : ∀ k, k < 0 → parseFieldDescriptor (TJ7 k).2.2.1 = some (tyJ7 k) := by decide +kernel
abbrev cJ7_fill_53178 : ByteArray := prog_20_method_103_code
def yJ7_fill_53178 : MethodName := ⟨RJ7, "fill", "([II)V"⟩
abbrev cJ7_copyOf_59c91 : ByteArray := prog_20_method_123_code
def yJ7_copyOf_59c91 : MethodName := ⟨RJ7, "copyOf", "([II)[I"⟩
def RJ3 : String := "jdk/internal/util/Preconditions"
def TJ3 : u_T := fun k => match k with
  | _ => ("", "", "", false)
def tyJ3 : Nat → FieldType := fun k => match k with
  | _ => .int
abbrev wsJ30 : List Cond := u_ws RJ3 TJ3 0
theorem nmJ3 : ∀ a, a < 0 → ∀ b, b < 0 → a ≠ b → (TJ3 a).2.1 ≠ (TJ3 b).2.1 := by decide +kernel
theorem tyJ3_ok : ∀ k, k < 0 → parseFieldDescriptor (TJ3 k).2.2.1 = some (tyJ3 k) := by decide +kernel
abbrev cJ3_checkIndex_8e157 : ByteArray := prog_21_method_11_code
def yJ3_checkIndex_8e157 : MethodName := ⟨RJ3, "checkIndex", "(IILjava/util/function/BiFunction;)I"⟩
abbrev cJ3_checkFromToIndex_8c36e : ByteArray := prog_21_method_12_code
def yJ3_checkFromToIndex_8c36e : MethodName := ⟨RJ3, "checkFromToIndex", "(IIILjava/util/function/BiFunction;)I"⟩
def RL : String := "StorkVoteLaw"
abbrev cL_law : ByteArray := code
def yL_law : MethodName := ⟨RL, "law", "([I)Z"⟩
abbrev vwCl : List vw_C := [(RX0, TX0, 4), (RX1, TX1, 11), (RX2, TX2, 3), (RX3, TX3, 4), (RX4, TX4, 4), (RX5, TX5, 3), (RX6, TX6, 2), (RX7, TX7, 3), (RX8, TX8, 10), (RX9, TX9, 11), (RX10, TX10, 37)]

/-! ALL WORDS OF THE TABLES IN ONE LIST: every method's words are its own code and this list -/
def TBW : List Cond := lw_tbl.filter goodWord
theorem tbw_lw {w : Cond} (h : w ∈ TBW) : w ∈ lw_tbl := (List.mem_filter.mp h).1
theorem tbw_good {w : Cond} (h : w ∈ TBW) : (w.onTables && w.keeps) = true ∨ ∃ ty, w = .arrayClass ty := good_of_word (List.mem_filter.mp h).2
theorem tbw_t {w : Cond} (i : Nat) (h : tables_1[i]? = some w) (hg : goodWord w = true) : w ∈ TBW := List.mem_filter.mpr ⟨List.mem_append_right _ (List.mem_of_getElem? h), hg⟩
theorem tbw_s {w : Cond} (i : Nat) (h : (k2_sels lw_privs)[i]? = some w) (hg : goodWord w = true) : w ∈ TBW := List.mem_filter.mpr ⟨List.mem_append_left _ (List.mem_of_getElem? h), hg⟩
theorem tbw_in {y y' : MethodName} {b b' : ByteArray} {n n' : Nat} {r r' : Option FieldType} (h : Cond.code y' b' n' r' ∈ TBW) : GoodIn (.code y b n r :: TBW) (.code y' b' n' r' :: TBW) := by
  intro w hw
  rcases List.mem_cons.mp hw with rfl | hw
  · exact ⟨List.mem_cons_of_mem _ h, tbw_good h⟩
  · exact ⟨List.mem_cons_of_mem _ hw, tbw_good hw⟩
theorem tbw_in0 {y' : MethodName} {b' : ByteArray} {n' : Nat} {r' : Option FieldType} (h : Cond.code y' b' n' r' ∈ TBW) : GoodIn TBW (.code y' b' n' r' :: TBW) := by
  intro w hw
  rcases List.mem_cons.mp hw with rfl | hw
  · exact ⟨h, tbw_good h⟩
  · exact ⟨hw, tbw_good hw⟩
/-- the words of nest mates: they aren't among those that a contract's words may hold -/
def isNest : Cond → Bool
  | .fieldLinkNest .. => true
  | .methodLinkNest .. => true
  | _ => false
def NST : List Cond := tables_1.filter isNest
theorem nst_t {w : Cond} (i : Nat) (h : tables_1[i]? = some w) (hg : isNest w = true) : w ∈ NST := List.mem_filter.mpr ⟨List.mem_of_getElem? h, hg⟩
theorem nst_lw {w : Cond} (h : w ∈ NST) : w ∈ lw_tbl := List.mem_append_right _ (List.mem_filter.mp h).1
theorem nst_moved {s U : State} (hW : s.WarmedH U.vm) (h : ∀ w ∈ NST, va_Nw w s) : ∀ w ∈ NST, va_Nw w U := by
  intro w hw
  have h0 := h w hw
  have h2 := (List.mem_filter.mp hw).2
  cases w <;> first | exact va_Nw.warmF hW h0 | exact va_Nw.warmM hW h0 | exact absurd h2 Bool.false_ne_true
theorem nst_tabs {w : Cond} (hw : w ∈ NST) : w.onTables = true := by
  have h2 := (List.mem_filter.mp hw).2
  cases w <;> first | rfl | exact absurd h2 Bool.false_ne_true

theorem inX0 : ∀ w ∈ u_ws RX0 TX0 4, w ∈ TBW := by
  intro w hw
  obtain ⟨k, hk, rfl⟩ := List.mem_map.mp hw
  have hk := List.mem_range.mp hk
  exact match k, hk with
  | 0, _ => tbw_t 56 (by decide +kernel) rfl
  | 1, _ => tbw_t 58 (by decide +kernel) rfl
  | 2, _ => tbw_t 60 (by decide +kernel) rfl
  | 3, _ => tbw_t 62 (by decide +kernel) rfl
  | k + 4, h => absurd h (by omega)
theorem inX1 : ∀ w ∈ u_ws RX1 TX1 11, w ∈ TBW := by
  intro w hw
  obtain ⟨k, hk, rfl⟩ := List.mem_map.mp hw
  have hk := List.mem_range.mp hk
  exact match k, hk with
  | 0, _ => tbw_t 189 (by decide +kernel) rfl
  | 1, _ => tbw_t 191 (by decide +kernel) rfl
  | 2, _ => tbw_t 193 (by decide +kernel) rfl
  | 3, _ => tbw_t 195 (by decide +kernel) rfl
  | 4, _ => tbw_t 197 (by decide +kernel) rfl
  | 5, _ => tbw_t 199 (by decide +kernel) rfl
  | 6, _ => tbw_t 201 (by decide +kernel) rfl
  | 7, _ => tbw_t 203 (by decide +kernel) rfl
  | 8, _ => tbw_t 205 (by decide +kernel) rfl
  | 9, _ => tbw_t 207 (by decide +kernel) rfl
  | 10, _ => tbw_t 209 (by decide +kernel) rfl
  | k + 11, h => absurd h (by omega)
theorem inX2 : ∀ w ∈ u_ws RX2 TX2 3, w ∈ TBW := by
  intro w hw
  obtain ⟨k, hk, rfl⟩ := List.mem_map.mp hw
  have hk := List.mem_range.mp hk
  exact match k, hk with
  | 0, _ => tbw_t 229 (by decide +kernel) rfl
  | 1, _ => tbw_t 231 (by decide +kernel) rfl
  | 2, _ => tbw_t 233 (by decide +kernel) rfl
  | k + 3, h => absurd h (by omega)
theorem inX3 : ∀ w ∈ u_ws RX3 TX3 4, w ∈ TBW := by
  intro w hw
  obtain ⟨k, hk, rfl⟩ := List.mem_map.mp hw
  have hk := List.mem_range.mp hk
  exact match k, hk with
  | 0, _ => tbw_t 252 (by decide +kernel) rfl
  | 1, _ => tbw_t 254 (by decide +kernel) rfl
  | 2, _ => tbw_t 256 (by decide +kernel) rfl
  | 3, _ => tbw_t 258 (by decide +kernel) rfl
  | k + 4, h => absurd h (by omega)
theorem inX4 : ∀ w ∈ u_ws RX4 TX4 4, w ∈ TBW := by
  intro w hw
  obtain ⟨k, hk, rfl⟩ := List.mem_map.mp hw
  have hk := List.mem_range.mp hk
  exact match k, hk with
  | 0, _ => tbw_t 147 (by decide +kernel) rfl
  | 1, _ => tbw_t 149 (by decide +kernel) rfl
  | 2, _ => tbw_t 151 (by decide +kernel) rfl
  | 3, _ => tbw_t 153 (by decide +kernel) rfl
  | k + 4, h => absurd h (by omega)
theorem inX5 : ∀ w ∈ u_ws RX5 TX5 3, w ∈ TBW := by
  intro w hw
  obtain ⟨k, hk, rfl⟩ := List.mem_map.mp hw
  have hk := List.mem_range.mp hk
  exact match k, hk with
  | 0, _ => tbw_t 81 (by decide +kernel) rfl
  | 1, _ => tbw_t 83 (by decide +kernel) rfl
  | 2, _ => tbw_t 85 (by decide +kernel) rfl
  | k + 3, h => absurd h (by omega)
theorem inX6 : ∀ w ∈ u_ws RX6 TX6 2, w ∈ TBW := by
  intro w hw
  obtain ⟨k, hk, rfl⟩ := List.mem_map.mp hw
  have hk := List.mem_range.mp hk
  exact match k, hk with
  | 0, _ => tbw_t 167 (by decide +kernel) rfl
  | 1, _ => tbw_t 169 (by decide +kernel) rfl
  | k + 2, h => absurd h (by omega)
theorem inX7 : ∀ w ∈ u_ws RX7 TX7 3, w ∈ TBW := by
  intro w hw
  obtain ⟨k, hk, rfl⟩ := List.mem_map.mp hw
  have hk := List.mem_range.mp hk
  exact match k, hk with
  | 0, _ => tbw_t 817 (by decide +kernel) rfl
  | 1, _ => tbw_t 819 (by decide +kernel) rfl
  | 2, _ => tbw_t 821 (by decide +kernel) rfl
  | k + 3, h => absurd h (by omega)
theorem inX8 : ∀ w ∈ u_ws RX8 TX8 10, w ∈ TBW := by
  intro w hw
  obtain ⟨k, hk, rfl⟩ := List.mem_map.mp hw
  have hk := List.mem_range.mp hk
  exact match k, hk with
  | 0, _ => tbw_t 113 (by decide +kernel) rfl
  | 1, _ => tbw_t 115 (by decide +kernel) rfl
  | 2, _ => tbw_t 117 (by decide +kernel) rfl
  | 3, _ => tbw_t 119 (by decide +kernel) rfl
  | 4, _ => tbw_t 121 (by decide +kernel) rfl
  | 5, _ => tbw_t 123 (by decide +kernel) rfl
  | 6, _ => tbw_t 125 (by decide +kernel) rfl
  | 7, _ => tbw_t 127 (by decide +kernel) rfl
  | 8, _ => tbw_t 129 (by decide +kernel) rfl
  | 9, _ => tbw_t 131 (by decide +kernel) rfl
  | k + 10, h => absurd h (by omega)
theorem inX9 : ∀ w ∈ u_ws RX9 TX9 11, w ∈ TBW := by
  intro w hw
  obtain ⟨k, hk, rfl⟩ := List.mem_map.mp hw
  have hk := List.mem_range.mp hk
  exact match k, hk with
  | 0, _ => tbw_t 272 (by decide +kernel) rfl
  | 1, _ => tbw_t 274 (by decide +kernel) rfl
  | 2, _ => tbw_t 276 (by decide +kernel) rfl
  | 3, _ => tbw_t 278 (by decide +kernel) rfl
  | 4, _ => tbw_t 280 (by decide +kernel) rfl
  | 5, _ => tbw_t 282 (by decide +kernel) rfl
  | 6, _ => tbw_t 284 (by decide +kernel) rfl
  | 7, _ => tbw_t 286 (by decide +kernel) rfl
  | 8, _ => tbw_t 288 (by decide +kernel) rfl
  | 9, _ => tbw_t 290 (by decide +kernel) rfl
  | 10, _ => tbw_t 292 (by decide +kernel) rfl
  | k + 11, h => absurd h (by omega)
theorem inX10 : ∀ w ∈ u_ws RX10 TX10 37, w ∈ TBW := by
  intro w hw
  obtain ⟨k, hk, rfl⟩ := List.mem_map.mp hw
  have hk := List.mem_range.mp hk
  exact match k, hk with
  | 0, _ => tbw_t 971 (by decide +kernel) rfl
  | 1, _ => tbw_t 973 (by decide +kernel) rfl
  | 2, _ => tbw_t 975 (by decide +kernel) rfl
  | 3, _ => tbw_t 977 (by decide +kernel) rfl
  | 4, _ => tbw_t 979 (by decide +kernel) rfl
  | 5, _ => tbw_t 981 (by decide +kernel) rfl
  | 6, _ => tbw_t 983 (by decide +kernel) rfl
  | 7, _ => tbw_t 985 (by decide +kernel) rfl
  | 8, _ => tbw_t 987 (by decide +kernel) rfl
  | 9, _ => tbw_t 989 (by decide +kernel) rfl
  | 10, _ => tbw_t 991 (by decide +kernel) rfl
  | 11, _ => tbw_t 993 (by decide +kernel) rfl
  | 12, _ => tbw_t 995 (by decide +kernel) rfl
  | 13, _ => tbw_t 997 (by decide +kernel) rfl
  | 14, _ => tbw_t 999 (by decide +kernel) rfl
  | 15, _ => tbw_t 1001 (by decide +kernel) rfl
  | 16, _ => tbw_t 1003 (by decide +kernel) rfl
  | 17, _ => tbw_t 1005 (by decide +kernel) rfl
  | 18, _ => tbw_t 1007 (by decide +kernel) rfl
  | 19, _ => tbw_t 1009 (by decide +kernel) rfl
  | 20, _ => tbw_t 1011 (by decide +kernel) rfl
  | 21, _ => tbw_t 1013 (by decide +kernel) rfl
  | 22, _ => tbw_t 1015 (by decide +kernel) rfl
  | 23, _ => tbw_t 1017 (by decide +kernel) rfl
  | 24, _ => tbw_t 1019 (by decide +kernel) rfl
  | 25, _ => tbw_t 1021 (by decide +kernel) rfl
  | 26, _ => tbw_t 1023 (by decide +kernel) rfl
  | 27, _ => tbw_t 1025 (by decide +kernel) rfl
  | 28, _ => tbw_t 1027 (by decide +kernel) rfl
  | 29, _ => tbw_t 1029 (by decide +kernel) rfl
  | 30, _ => tbw_t 1031 (by decide +kernel) rfl
  | 31, _ => tbw_t 1033 (by decide +kernel) rfl
  | 32, _ => tbw_t 1035 (by decide +kernel) rfl
  | 33, _ => tbw_t 1037 (by decide +kernel) rfl
  | 34, _ => tbw_t 1039 (by decide +kernel) rfl
  | 35, _ => tbw_t 1041 (by decide +kernel) rfl
  | 36, _ => tbw_t 1043 (by decide +kernel) rfl
  | k + 37, h => absurd h (by omega)
end
section
/-! THE MEMORY: ids in place of addresses; a type, a length, numbers and pointers for each id; texts' places (mX) apart from what is laid once (mP) -/
abbrev Mem : Type := (Nat → Nat → Int32) × (Nat → Nat → Option Nat) × (Nat → Nat → Option Nat) × (Nat → Nat) × (Nat → Nat) × Nat
def mI (M : Mem) : Nat → Nat → Int32 := M.1
def mX (M : Mem) : Nat → Nat → Option Nat := M.2.1
def mP (M : Mem) : Nat → Nat → Option Nat := M.2.2.1
def mT (M : Mem) : Nat → Nat := M.2.2.2.1
def mL (M : Mem) : Nat → Nat := M.2.2.2.2.1
def mN (M : Mem) : Nat := M.2.2.2.2.2
def u2 {α : Type} (f : Nat → Nat → α) (k j : Nat) (v : α) : Nat → Nat → α := fun a b => if a = k ∧ b = j then v else f a b
def setI (M : Mem) (k j : Nat) (v : Int32) : Mem := (u2 M.1 k j v, M.2)
def setX (M : Mem) (k j v : Nat) : Mem := (M.1, u2 M.2.1 k j (some v), M.2.2)
def setP (M : Mem) (k j v : Nat) : Mem := (M.1, M.2.1, u2 M.2.2.1 k j (some v), M.2.2.2)
def setR (M : Mem) (k : Nat) (f : Nat → Int32) : Mem := (fun a b => if a = k then f b else M.1 a b, M.2)
def newO (M : Mem) (t len : Nat) : Mem := (fun a b => if a = M.2.2.2.2.2 then 0 else M.1 a b, fun a b => if a = M.2.2.2.2.2 then none else M.2.1 a b, fun a b => if a = M.2.2.2.2.2 then none else M.2.2.1 a b, fun a => if a = M.2.2.2.2.2 then t else M.2.2.2.1 a, fun a => if a = M.2.2.2.2.2 then len else M.2.2.2.2.1 a, M.2.2.2.2.2 + 1)
/-- which fields of a class are numbers -/
def fkT : List (List Bool) := [[true, true, true, true], [false, true, false, true, true, true, true, true, true, true, true], [true, true, false], [true, false, false, true], [false, false, false, false], [true, true, true], [false, true], [true, true, false], [false, true, false, true, false, true, true, false, true, false], [false, false, false, false, false, false, false, false, false, true, true], [false, false, false, true, true, false, false, false, false, false, true, true, true, true, true, true, true, false, false, false, true, true, false, true, false, false, false, false, false, false, false, false, false, false, false, false, true]]
def isI (c j : Nat) : Bool := (fkT.getD c []).getD j true
def nF (c : Nat) : Nat := (fkT.getD c []).length
def sFld (ad : Nat → Nat) (M : Mem) (c k : Nat) : List Value := (List.range (nF c)).map (fun j => if isI c j = true then Value.int (mI M k j) else va_rf ((mP M k j).map ad))
def sArr (ad : Nat → Nat) (M : Mem) (k : Nat) : (Nat → Int32) ⊕ (Nat → Int64) ⊕ (Nat → UInt32) ⊕ (Nat → UInt64) ⊕ (Nat → Option Nat) := if mT M k < 23 then .inl (fun j => mI M k j) else .inr (.inr (.inr (.inr (fun j => if mT M k = 25 then (mX M k j).map ad else (mP M k j).map ad))))
def sCell (cy : Nat → ClassId) (ad : Nat → Nat) (M : Mem) (k : Nat) : va_E := if mT M k < 20 then .inr (mT M k - 1, sFld ad M (mT M k - 1) k) else .inl (cy (mT M k - 20), mL M k, sArr ad M k)
def sWr (cy : Nat → ClassId) (ad : Nat → Nat) (M : Mem) : va_W := (List.range (mN M)).map (fun k => (ad k, sCell cy ad M k))
theorem wr_len {cy : Nat → ClassId} {ad : Nat → Nat} {M : Mem} : (sWr cy ad M).length = mN M := by simp [sWr]
theorem wr_at {cy : Nat → ClassId} {ad : Nat → Nat} {M : Mem} {k : Nat} (hk : k < mN M) : (sWr cy ad M)[k]? = some (ad k, sCell cy ad M k) := by
  simp [sWr, hk]
theorem wr_set {cy : Nat → ClassId} {ad : Nat → Nat} {M M' : Mem} {k : Nat} {e : va_E} (hk : k < mN M) (hn : mN M' = mN M) (he : sCell cy ad M' k = e) (ho : ∀ j, j ≠ k → sCell cy ad M' j = sCell cy ad M j) : (sWr cy ad M).set k (ad k, e) = sWr cy ad M' := by
  apply List.ext_getElem?
  intro i
  by_cases hi : i < mN M
  · rw [wr_at (M := M') (by omega)]
    by_cases h : i = k
    · subst h
      rw [List.getElem?_set_self (by rw [wr_len]; exact hi), he]
    · rw [List.getElem?_set_ne (Ne.symm h), wr_at hi, ho i h]
  · rw [List.getElem?_eq_none (by rw [List.length_set, wr_len]; omega), List.getElem?_eq_none (by rw [wr_len]; omega)]
theorem cell_congr {cy : Nat → ClassId} {ad ad' : Nat → Nat} {M M' : Mem} {a : Nat} (hT : mT M' a = mT M a) (hL : mL M' a = mL M a) (hI : ∀ j, mI M' a j = mI M a j) (hP : ∀ j, (mP M' a j).map ad' = (mP M a j).map ad) (hX : ∀ j, (mX M' a j).map ad' = (mX M a j).map ad) : sCell cy ad' M' a = sCell cy ad M a := by
  unfold sCell sFld sArr
  simp only [hT, hL, hI, hP, hX]
theorem cell_o {cy : Nat → ClassId} {ad : Nat → Nat} {M : Mem} {k c : Nat} (h : mT M k = c + 1) (hc : c < 19) : sCell cy ad M k = .inr (c, sFld ad M c k) := by
  unfold sCell
  rw [h, if_pos (by omega), Nat.add_sub_cancel]
theorem cell_i {cy : Nat → ClassId} {ad : Nat → Nat} {M : Mem} {k t : Nat} (h : mT M k = t + 20) (ht : t < 3) : sCell cy ad M k = .inl (cy t, mL M k, .inl (fun j => mI M k j)) := by
  unfold sCell sArr
  rw [h, if_neg (by omega), Nat.add_sub_cancel, if_pos (by omega)]
theorem cell_p {cy : Nat → ClassId} {ad : Nat → Nat} {M : Mem} {k t : Nat} (h : mT M k = t + 20) (ht : 3 ≤ t) (h5 : t ≠ 5) : sCell cy ad M k = .inl (cy t, mL M k, .inr (.inr (.inr (.inr (fun j => (mP M k j).map ad))))) := by
  unfold sCell sArr
  rw [h, if_neg (by omega), Nat.add_sub_cancel, if_neg (by omega)]
  simp only [if_neg (show ¬ t + 20 = 25 by omega)]
theorem cell_x {cy : Nat → ClassId} {ad : Nat → Nat} {M : Mem} {k : Nat} (h : mT M k = 25) : sCell cy ad M k = .inl (cy 5, mL M k, .inr (.inr (.inr (.inr (fun j => (mX M k j).map ad))))) := by
  unfold sCell sArr
  rw [h, if_neg (by omega), if_neg (by omega)]
  simp only [if_true]
theorem fld_at {ad : Nat → Nat} {M : Mem} {c k j : Nat} (hj : j < nF c) : (sFld ad M c k)[j]? = some (if isI c j = true then Value.int (mI M k j) else va_rf ((mP M k j).map ad)) := by
  simp [sFld, hj]
theorem fld_len {ad : Nat → Nat} {M : Mem} {c k : Nat} : (sFld ad M c k).length = nF c := by simp [sFld]
theorem fld_setI {ad : Nat → Nat} {M : Mem} {c k j : Nat} {v : Int32} (hj : j < nF c) (hI : isI c j = true) : (sFld ad M c k).set j (.int v) = sFld ad (setI M k j v) c k := by
  apply List.ext_getElem?
  intro i
  by_cases hi : i < nF c
  · rw [fld_at hi]
    by_cases h : i = j
    · subst h
      rw [List.getElem?_set_self (by rw [fld_len]; exact hi), if_pos hI]
      simp [mI, setI, u2]
    · rw [List.getElem?_set_ne (Ne.symm h), fld_at hi]
      simp [mI, mP, setI, u2, h]
  · rw [List.getElem?_eq_none (by rw [List.length_set, fld_len]; omega), List.getElem?_eq_none (by rw [fld_len]; omega)]
theorem fld_setP {ad : Nat → Nat} {M : Mem} {c k j b : Nat} (hj : j < nF c) (hI : isI c j = false) : (sFld ad M c k).set j (.ref (ad b)) = sFld ad (setP M k j b) c k := by
  apply List.ext_getElem?
  intro i
  by_cases hi : i < nF c
  · rw [fld_at hi]
    by_cases h : i = j
    · subst h
      rw [List.getElem?_set_self (by rw [fld_len]; exact hi), if_neg (by rw [hI]; exact Bool.false_ne_true)]
      simp [mP, setP, u2, va_rf]
    · rw [List.getElem?_set_ne (Ne.symm h), fld_at hi]
      simp [mI, mP, setP, u2, h]
  · rw [List.getElem?_eq_none (by rw [List.length_set, fld_len]; omega), List.getElem?_eq_none (by rw [fld_len]; omega)]
/-! what holds of a memory by its making -/
def Wf (M : Mem) : Prop := (∀ k, mT M k ≠ 0 → k < mN M) ∧ (∀ k j a, mP M k j = some a → a < mN M) ∧ ∀ k j a, mX M k j = some a → a < mN M
theorem wf_setI {M : Mem} {k j : Nat} {v : Int32} (h : Wf M) : Wf (setI M k j v) := h
theorem wf_setR {M : Mem} {k : Nat} {f : Nat → Int32} (h : Wf M) : Wf (setR M k f) := h
theorem wf_setX {M : Mem} {k j b : Nat} (h : Wf M) (hb : b < mN M) : Wf (setX M k j b) := by
  refine ⟨h.1, h.2.1, fun k' j' a h' => ?_⟩
  have h' : u2 M.2.1 k j (some b) k' j' = some a := h'
  unfold u2 at h'
  split at h'
  · cases h'; exact hb
  · exact h.2.2 k' j' a h'
theorem wf_setP {M : Mem} {k j b : Nat} (h : Wf M) (hb : b < mN M) : Wf (setP M k j b) := by
  refine ⟨h.1, fun k' j' a h' => ?_, h.2.2⟩
  have h' : u2 M.2.2.1 k j (some b) k' j' = some a := h'
  unfold u2 at h'
  split at h'
  · cases h'; exact hb
  · exact h.2.1 k' j' a h'
/-! what is known beside the memory: classes and array classes, nest words, statics, texts -/
abbrev Gd : Type := (Nat → ClassId) × (Nat → Nat → Nat) × (Nat → ClassId) × Nat × (Nat → Nat) × (Nat → Nat) × Option Nat
def sTy (cy : Nat → ClassId) : List (ClassId × FieldType) := [(cy 0, .int), (cy 1, .boolean), (cy 2, .char), (cy 3, .object RX0), (cy 4, .object RX5), (cy 5, .object RX7), (cy 6, .object RX2), (cy 7, .object RX3)]
def sByt : List (List Int32) := [[108, 105, 107, 101], [115, 101, 97, 116], [102, 105, 110, 101], [119, 102, 104], [110, 119], [121, 115]]
def sLen : List Nat := [4, 4, 4, 3, 2, 2]
def kaF : List Int32 := [-1, 0, 0, 1, 2, 0]
def Ev (G : Gd) (A : Nat → Prop) (U : State) (H : Heap) : Prop :=
  va_Z "StorkVote" "KIND_ABOVE" "[I" (.ref G.2.2.2.1) A U H ∧ va_T .int G.2.2.2.1 6 (fun j => .int (kaF.getD j 0)) A U H ∧ vk_S 6 sLen sByt G.2.2.2.2.1 G.2.2.2.2.2.1 A U H ∧
  va_Z "java/lang/String" "COMPACT_STRINGS" "Z" (.int 1) A U H ∧ va_Z "jdk/internal/util/Preconditions" "SIOOBE_FORMATTER" "Ljava/util/function/BiFunction;" (va_rf G.2.2.2.2.2.2) A U H
def Et (G : Gd) (U : State) : Prop :=
  va_AO RX0 U ∧ va_AO RX5 U ∧ va_AO RX7 U ∧ va_AO RX2 U ∧ va_AO RX3 U ∧ vk_R RX1 127 "like" (G.2.2.2.2.1 0) U ∧ vk_R RX1 133 "seat" (G.2.2.2.2.1 1) U ∧ vk_R RX1 135 "fine" (G.2.2.2.2.1 2) U ∧ vk_R RX1 137 "wfh" (G.2.2.2.2.1 3) U ∧ vk_R RX1 139 "nw" (G.2.2.2.2.1 4) U ∧ vk_R RX1 141 "ys" (G.2.2.2.2.1 5) U
def Kn (G : Gd) (A : Nat → Prop) (U : State) : Prop := va_K (G.1, G.2.1) vwCl (sTy G.2.2.1) U ∧ (∀ w ∈ NST, va_Nw w U) ∧ Et G U ∧ Ev G A U U.heap
theorem Ev.to {G : Gd} {A : Nat → Prop} {s U : State} {H H1 : Heap} (h : Ev G A s H) (hW : s.vm.Alike U.vm) (hq : ∀ a : Nat, a < H.size → ¬ A a → H1[a]? = H[a]?) : Ev G A U H1 :=
  ⟨(h.1.moved hW).kept hq, (h.2.1.moved hW).kept hq, (h.2.2.1.moved hW).kept hq, (h.2.2.2.1.moved hW).kept hq, (h.2.2.2.2.moved hW).kept hq⟩
theorem Et.to {G : Gd} {s U : State} (h : Et G s) (hW : s.WarmedH U.vm) : Et G U := by
  obtain ⟨a1, a2, a3, a4, a5, r1, r2, r3, r4, r5, r6⟩ := h
  exact ⟨a1.moved hW.alike, a2.moved hW.alike, a3.moved hW.alike, a4.moved hW.alike, a5.moved hW.alike, r1.warm hW, r2.warm hW, r3.warm hW, r4.warm hW, r5.warm hW, r6.warm hW⟩
theorem Kn.to {G : Gd} {A : Nat → Prop} {s U : State} (h : Kn G A s) (hW : s.WarmedH U.vm) (hq : ∀ a : Nat, a < s.heap.size → ¬ A a → U.heap[a]? = s.heap[a]?) : Kn G A U :=
  ⟨va_K.moved hW.alike h.1, nst_moved hW h.2.1, h.2.2.1.to hW, h.2.2.2.to hW.alike hq⟩
theorem Kn.calling {G : Gd} {A : Nat → Prop} {U : State} (h : Kn G A U) (g : JFrame) (mk : MethodId) (a : Array Value) : Kn G A (U.calling g mk a) :=
  h.to (U := U.calling g mk a) (State.WarmedH.refl U) (fun _ _ _ => rfl)
def Wd (G : Gd) (A : Nat → Prop) (ad : Nat → Nat) (H0 : Heap) (M : Mem) (H : Heap) (locs : List Loc) : Prop := va_P (G.1, G.2.1) vwCl (sWr G.2.2.1 ad M) H ∧ va_D A (sWr G.2.2.1 ad M) ∧ Wf M ∧ va_S A H0 H locs
/-- where a method's body is: the machine, its code, its class, the words, what is known -/
def Cx (G : Gd) (A : Nat → Prop) (p : Program) (s : State) (m : MethodId) (args : Array Value) (meth : Method) (c : Code) (own : String) (cc : ByteArray) (nL : Nat) (rt : Option FieldType) : Prop :=
  p.tables.exec = Jvm.exec ∧ c.code = cc ∧ c.maxLocals = nL ∧ s.vm.findClass own = some m.cls ∧ (∀ w ∈ TBW, w.before args s = true) ∧ Kn G A s ∧ meth.sig.returnType = rt ∧ meth.locks = false ∧ ∀ q, s.heap.size ≤ q → A q
/-- a class: its place, its fields, their words -/
def CF (ci : Nat) (Cn : String) (T : u_T) (N : Nat) (ty : Nat → FieldType) : Prop := vwCl[ci]? = some (Cn, T, N) ∧ nF ci = N ∧ ci < 19 ∧ (∀ w ∈ u_ws Cn T N, w ∈ TBW) ∧ (∀ k, k < N → parseFieldDescriptor (T k).2.2.1 = some (ty k)) ∧ ∀ a, a < N → ∀ b, b < N → a ≠ b → (T a).2.1 ≠ (T b).2.1
def FLk (own : String) (i : Nat) (r n d : String) : Prop := Cond.fieldLink own i r n d ∈ TBW ∨ ∃ h, Cond.fieldLinkNest own i r n d h ∈ NST
def MLk (own : String) (i : Nat) (y : MethodName) : Prop := Cond.methodLink own i y ∈ TBW ∨ ∃ h, Cond.methodLinkNest own i y h ∈ NST
def ib (i : Int32) (n : Nat) : Bool := decide (0 ≤ i) && decide (i.toNatClampNeg < n)
theorem ib_in {i : Int32} {n : Nat} (h : ib i n = true) : vp_in i n := by
  unfold ib at h
  rw [Bool.and_eq_true, decide_eq_true_eq, decide_eq_true_eq] at h
  intro hh
  rcases hh with hh | hh
  · exact absurd h.1 (Int32.not_le.mpr hh)
  · omega
def isB (v : Int32) : Bool := v == 0 || v == 1
theorem isB_or {v : Int32} (h : isB v = true) : v = 0 ∨ v = 1 := by
  unfold isB at h
  rw [Bool.or_eq_true, beq_iff_eq, beq_iff_eq] at h
  exact h
theorem isB_nar {v : Int32} (h : isB v = true) : narrow .boolean (.int v) = .int v := by
  rcases isB_or h with rfl | rfl <;> rfl
theorem isB_fit {v : Int32} (h : isB v = true) : fits .boolean (.int v) = true := by
  rcases isB_or h with rfl | rfl <;> rfl
theorem cf0 : CF 0 RX0 TX0 4 tyX0 := ⟨rfl, by decide +kernel, by decide, inX0, tyX0_ok, nmX0⟩
theorem cf1 : CF 1 RX1 TX1 11 tyX1 := ⟨rfl, by decide +kernel, by decide, inX1, tyX1_ok, nmX1⟩
theorem cf2 : CF 2 RX2 TX2 3 tyX2 := ⟨rfl, by decide +kernel, by decide, inX2, tyX2_ok, nmX2⟩
theorem cf3 : CF 3 RX3 TX3 4 tyX3 := ⟨rfl, by decide +kernel, by decide, inX3, tyX3_ok, nmX3⟩
theorem cf4 : CF 4 RX4 TX4 4 tyX4 := ⟨rfl, by decide +kernel, by decide, inX4, tyX4_ok, nmX4⟩
theorem cf5 : CF 5 RX5 TX5 3 tyX5 := ⟨rfl, by decide +kernel, by decide, inX5, tyX5_ok, nmX5⟩
theorem cf6 : CF 6 RX6 TX6 2 tyX6 := ⟨rfl, by decide +kernel, by decide, inX6, tyX6_ok, nmX6⟩
theorem cf7 : CF 7 RX7 TX7 3 tyX7 := ⟨rfl, by decide +kernel, by decide, inX7, tyX7_ok, nmX7⟩
theorem cf8 : CF 8 RX8 TX8 10 tyX8 := ⟨rfl, by decide +kernel, by decide, inX8, tyX8_ok, nmX8⟩
theorem cf9 : CF 9 RX9 TX9 11 tyX9 := ⟨rfl, by decide +kernel, by decide, inX9, tyX9_ok, nmX9⟩
theorem cf10 : CF 10 RX10 TX10 37 tyX10 := ⟨rfl, by decide +kernel, by decide, inX10, tyX10_ok, nmX10⟩
end
section
/-! THE ROWS over the memory: an instruction, a row -/
section SRow
variable {p : Program} {l : Launch} {e : Env} {R : Room} {s : State} {m : MethodId} {args : Array Value} {below : List Frame} {meth : Method} {c : Code} {H : Heap} {locs : List Loc} {cells slots : Nat} {Q : State → Prop} {G : Gd} {A : Nat → Prop} {ad : Nat → Nat} {M : Mem} {own : String} {cc : ByteArray} {nL : Nat} {rt : Option FieldType} {pc : Nat} {ls : Array Slot} {rest : List Value}
theorem r_getI (C : Cx G A p s m args meth c own cc nL rt) (hw : Wd G A ad s.heap M H locs) {ci N : Nat} {Cn : String} {T : u_T} {ty : Nat → FieldType} (cf : CF ci Cn T N ty) (j : Nat) (hj : j < N) (hI : isI ci j = true) {k : Nat} (hT : mT M k = ci + 1) {index : Nat} (fl : FLk own index (T j).1 (T j).2.1 (T j).2.2.1) (hdg : decode cc pc = .ok (.getfield index, 3)) (kk : W p l e R s m args below meth c H locs cells slots Q (F0 m (pc + 3) ls (.int (mI M k j) :: rest))) : W p l e R s m args below meth c H locs cells slots Q (F0 m pc ls (.ref (ad k) :: rest)) := by
  obtain ⟨hx, hb, hml, ho, hts, hKn, -⟩ := C
  obtain ⟨hc, hN, h19, hin, hty, hnm⟩ := cf
  have hk : k < mN M := hw.2.2.1.1 k (by omega)
  have he : (sWr G.2.2.1 ad M)[k]? = some (ad k, .inr (ci, sFld ad M ci k)) := by rw [wr_at hk, cell_o hT h19]
  have hv : (sFld ad M ci k)[j]? = some (.int (mI M k j)) := by rw [fld_at (by omega), if_pos hI]
  rcases fl with fl | ⟨host, fl⟩
  · exact va_get hx hb hts hin ho hKn.1 hw.1 k he hc j hj (hts _ fl) (fun _ h => h) hv hdg kk
  · exact va_getN hx hb hts hin ho hKn.1 hw.1 k he hc j hj (va_Nw.use (nst_tabs fl) (hKn.2.1 _ fl)) (fun _ h => h) hv hdg kk
theorem r_getP (C : Cx G A p s m args meth c own cc nL rt) (hw : Wd G A ad s.heap M H locs) {ci N : Nat} {Cn : String} {T : u_T} {ty : Nat → FieldType} (cf : CF ci Cn T N ty) (j : Nat) (hj : j < N) (hI : isI ci j = false) {k b : Nat} (hT : mT M k = ci + 1) (hP : mP M k j = some b) {index : Nat} (fl : FLk own index (T j).1 (T j).2.1 (T j).2.2.1) (hdg : decode cc pc = .ok (.getfield index, 3)) (kk : W p l e R s m args below meth c H locs cells slots Q (F0 m (pc + 3) ls (.ref (ad b) :: rest))) : W p l e R s m args below meth c H locs cells slots Q (F0 m pc ls (.ref (ad k) :: rest)) := by
  obtain ⟨hx, hb, hml, ho, hts, hKn, -⟩ := C
  obtain ⟨hc, hN, h19, hin, hty, hnm⟩ := cf
  have hk : k < mN M := hw.2.2.1.1 k (by omega)
  have he : (sWr G.2.2.1 ad M)[k]? = some (ad k, .inr (ci, sFld ad M ci k)) := by rw [wr_at hk, cell_o hT h19]
  have hv : (sFld ad M ci k)[j]? = some (.ref (ad b)) := by
    rw [fld_at (by omega), if_neg (by rw [hI]; exact Bool.false_ne_true), hP]; rfl
  rcases fl with fl | ⟨host, fl⟩
  · exact va_get hx hb hts hin ho hKn.1 hw.1 k he hc j hj (hts _ fl) (fun _ h => h) hv hdg kk
  · exact va_getN hx hb hts hin ho hKn.1 hw.1 k he hc j hj (va_Nw.use (nst_tabs fl) (hKn.2.1 _ fl)) (fun _ h => h) hv hdg kk
theorem wd_setI (hw : Wd G A ad s.heap M H locs) {ci k j : Nat} {v : Int32} {H1 : Heap} {locs1 : List Loc} (hT : mT M k = ci + 1) (h19 : ci < 19) (hj : j < nF ci) (hI : isI ci j = true)
    (h1 : va_P (G.1, G.2.1) vwCl ((sWr G.2.2.1 ad M).set k (ad k, .inr (ci, (sFld ad M ci k).set j (.int v)))) H1) (h2 : va_D A ((sWr G.2.2.1 ad M).set k (ad k, .inr (ci, (sFld ad M ci k).set j (.int v))))) (h3 : va_S A s.heap H1 locs1) : Wd G A ad s.heap (setI M k j v) H1 locs1 := by
  have hk : k < mN M := hw.2.2.1.1 k (by omega)
  have e1 : (sWr G.2.2.1 ad M).set k (ad k, .inr (ci, (sFld ad M ci k).set j (.int v))) = sWr G.2.2.1 ad (setI M k j v) := by
    refine wr_set hk rfl ?_ (fun a ha => cell_congr rfl rfl (fun i => ?_) (fun _ => rfl) (fun _ => rfl))
    · rw [fld_setI hj hI]
      exact cell_o (M := setI M k j v) hT h19
    · show u2 M.1 k j v a i = M.1 a i
      unfold u2
      rw [if_neg (fun h => ha h.1)]
  rw [e1] at h1 h2
  exact ⟨h1, h2, wf_setI hw.2.2.1, h3⟩
theorem r_putI (C : Cx G A p s m args meth c own cc nL rt) (hw : Wd G A ad s.heap M H locs) {ci N : Nat} {Cn : String} {T : u_T} {ty : Nat → FieldType} (cf : CF ci Cn T N ty) (j : Nat) (hj : j < N) (hI : isI ci j = true) {k : Nat} (hT : mT M k = ci + 1) {v : Int32} {M1 : Mem} (e1 : M1 = setI M k j v) {index : Nat} (fl : FLk own index (T j).1 (T j).2.1 (T j).2.2.1) (hfin : (T j).2.2.2 = false) (hn : narrow (ty j) (.int v) = .int v) (hf : fits (ty j) (.int v) = true) (hdg : decode cc pc = .ok (.putfield index, 3)) (kk : ∀ (H1 : Heap) (locs1 : List Loc), Wd G A ad s.heap M1 H1 locs1 → W p l e R s m args below meth c H1 locs1 cells slots Q (F0 m (pc + 3) ls rest)) : W p l e R s m args below meth c H locs cells slots Q (F0 m pc ls (.int v :: .ref (ad k) :: rest)) := by
  subst e1
  obtain ⟨hx, hb, hml, ho, hts, hKn, -⟩ := C
  obtain ⟨hc, hN, h19, hin, hty, hnm⟩ := cf
  have hk : k < mN M := hw.2.2.1.1 k (by omega)
  have he : (sWr G.2.2.1 ad M)[k]? = some (ad k, .inr (ci, sFld ad M ci k)) := by rw [wr_at hk, cell_o hT h19]
  have k2 := fun (H1 : Heap) (locs1 : List Loc) h1 h2 h3 => kk H1 locs1 (wd_setI hw hT h19 (by omega) hI h1 h2 h3)
  rcases fl with fl | ⟨host, fl⟩
  · exact va_put hx hb hts hin ty hty hnm ho hKn.1 hw.1 hw.2.1 hw.2.2.2 k he hc j hj (hts _ fl) (fun _ h => h) hfin (hty j hj) hn hf (by rw [fld_len]; omega) hdg k2
  · exact va_putN hx hb hts hin ty hty hnm ho hKn.1 hw.1 hw.2.1 hw.2.2.2 k he hc j hj (va_Nw.use (nst_tabs fl) (hKn.2.1 _ fl)) (fun _ h => h) hfin (hty j hj) hn hf (by rw [fld_len]; omega) hdg k2
theorem r_putFI (C : Cx G A p s m args meth c own cc nL rt) (hin2 : meth.name = "<init>") (hw : Wd G A ad s.heap M H locs) {ci N : Nat} {Cn : String} {T : u_T} {ty : Nat → FieldType} (cf : CF ci Cn T N ty) (j : Nat) (hj : j < N) (hI : isI ci j = true) {k : Nat} (hT : mT M k = ci + 1) {v : Int32} {M1 : Mem} (e1 : M1 = setI M k j v) {index : Nat} (fl : Cond.fieldLink own index (T j).1 (T j).2.1 (T j).2.2.1 ∈ TBW) (hfin : (T j).2.2.2 = true) (hdc : (T j).1 = own) (hn : narrow (ty j) (.int v) = .int v) (hf : fits (ty j) (.int v) = true) (hdg : decode cc pc = .ok (.putfield index, 3)) (kk : ∀ (H1 : Heap) (locs1 : List Loc), Wd G A ad s.heap M1 H1 locs1 → W p l e R s m args below meth c H1 locs1 cells slots Q (F0 m (pc + 3) ls rest)) : W p l e R s m args below meth c H locs cells slots Q (F0 m pc ls (.int v :: .ref (ad k) :: rest)) := by
  subst e1
  obtain ⟨hx, hb, hml, ho, hts, hKn, -⟩ := C
  obtain ⟨hc, hN, h19, hin, hty, hnm⟩ := cf
  have hk : k < mN M := hw.2.2.1.1 k (by omega)
  have he : (sWr G.2.2.1 ad M)[k]? = some (ad k, .inr (ci, sFld ad M ci k)) := by rw [wr_at hk, cell_o hT h19]
  exact va_putF hx hb hts hin ty hty hnm ho hKn.1 hw.1 hw.2.1 hw.2.2.2 k he hc j hj (hts _ fl) (fun _ h => h) hfin hin2 hdc (hty j hj) hn hf (by rw [fld_len]; omega) hdg (fun H1 locs1 h1 h2 h3 => kk H1 locs1 (wd_setI hw hT h19 (by omega) hI h1 h2 h3))
theorem wd_setP (hw : Wd G A ad s.heap M H locs) {ci k j b : Nat} {H1 : Heap} {locs1 : List Loc} (hT : mT M k = ci + 1) (h19 : ci < 19) (hj : j < nF ci) (hI : isI ci j = false) (hb : b < mN M)
    (h1 : va_P (G.1, G.2.1) vwCl ((sWr G.2.2.1 ad M).set k (ad k, .inr (ci, (sFld ad M ci k).set j (.ref (ad b))))) H1) (h2 : va_D A ((sWr G.2.2.1 ad M).set k (ad k, .inr (ci, (sFld ad M ci k).set j (.ref (ad b)))))) (h3 : va_S A s.heap H1 locs1) : Wd G A ad s.heap (setP M k j b) H1 locs1 := by
  have hk : k < mN M := hw.2.2.1.1 k (by omega)
  have e1 : (sWr G.2.2.1 ad M).set k (ad k, .inr (ci, (sFld ad M ci k).set j (.ref (ad b)))) = sWr G.2.2.1 ad (setP M k j b) := by
    refine wr_set hk rfl ?_ (fun a ha => cell_congr rfl rfl (fun _ => rfl) (fun i => ?_) (fun _ => rfl))
    · rw [fld_setP hj hI]
      exact cell_o (M := setP M k j b) hT h19
    · show (u2 M.2.2.1 k j (some b) a i).map ad = (M.2.2.1 a i).map ad
      unfold u2
      rw [if_neg (fun h => ha h.1)]
  rw [e1] at h1 h2
  exact ⟨h1, h2, wf_setP hw.2.2.1 hb, h3⟩
theorem r_putFP (C : Cx G A p s m args meth c own cc nL rt) (hin2 : meth.name = "<init>") (hw : Wd G A ad s.heap M H locs) {ci N : Nat} {Cn : String} {T : u_T} {ty : Nat → FieldType} (cf : CF ci Cn T N ty) (j : Nat) (hj : j < N) (hI : isI ci j = false) {k b : Nat} (hT : mT M k = ci + 1) (hB : mT M b ≠ 0) {M1 : Mem} (e1 : M1 = setP M k j b) {index : Nat} (fl : Cond.fieldLink own index (T j).1 (T j).2.1 (T j).2.2.1 ∈ TBW) (hfin : (T j).2.2.2 = true) (hdc : (T j).1 = own) (hn : narrow (ty j) (.ref (ad b)) = .ref (ad b)) (hf : fits (ty j) (.ref (ad b)) = true) (hdg : decode cc pc = .ok (.putfield index, 3)) (kk : ∀ (H1 : Heap) (locs1 : List Loc), Wd G A ad s.heap M1 H1 locs1 → W p l e R s m args below meth c H1 locs1 cells slots Q (F0 m (pc + 3) ls rest)) : W p l e R s m args below meth c H locs cells slots Q (F0 m pc ls (.ref (ad b) :: .ref (ad k) :: rest)) := by
  subst e1
  obtain ⟨hx, hb, hml, ho, hts, hKn, -⟩ := C
  obtain ⟨hc, hN, h19, hin, hty, hnm⟩ := cf
  have hk : k < mN M := hw.2.2.1.1 k (by omega)
  have he : (sWr G.2.2.1 ad M)[k]? = some (ad k, .inr (ci, sFld ad M ci k)) := by rw [wr_at hk, cell_o hT h19]
  exact va_putF hx hb hts hin ty hty hnm ho hKn.1 hw.1 hw.2.1 hw.2.2.2 k he hc j hj (hts _ fl) (fun _ h => h) hfin hin2 hdc (hty j hj) hn hf (by rw [fld_len]; omega) hdg (fun H1 locs1 h1 h2 h3 => kk H1 locs1 (wd_setP hw hT h19 (by omega) hI (hw.2.2.1.1 b hB) h1 h2 h3))
/-! arrays of numbers -/
theorem wr_i (hw : Wd G A ad s.heap M H locs) {k t : Nat} (hT : mT M k = t + 20) (ht : t < 3) : (sWr G.2.2.1 ad M)[k]? = some (ad k, .inl (G.2.2.1 t, mL M k, .inl (fun j => mI M k j))) := by
  rw [wr_at (hw.2.2.1.1 k (by omega)), cell_i hT ht]
theorem r_iald (C : Cx G A p s m args meth c own cc nL rt) (hw : Wd G A ad s.heap M H locs) {k : Nat} (hT : mT M k = 20) {i : Int32} (hi : ib i (mL M k) = true) (hdg : decode cc pc = .ok (.iaload, 1)) (kk : W p l e R s m args below meth c H locs cells slots Q (F0 m (pc + 1) ls (.int (mI M k i.toNatClampNeg) :: rest))) : W p l e R s m args below meth c H locs cells slots Q (F0 m pc ls (.int i :: .ref (ad k) :: rest)) :=
  va_iald C.1 C.2.1 C.2.2.2.2.2.1.1 hw.1 k 0 (wr_i hw (t := 0) hT (by decide)) rfl (ib_in hi) hdg kk
theorem r_zald (C : Cx G A p s m args meth c own cc nL rt) (hw : Wd G A ad s.heap M H locs) {k : Nat} (hT : mT M k = 21) {i : Int32} (hi : ib i (mL M k) = true) (hdg : decode cc pc = .ok (.baload, 1)) (kk : W p l e R s m args below meth c H locs cells slots Q (F0 m (pc + 1) ls (.int (mI M k i.toNatClampNeg) :: rest))) : W p l e R s m args below meth c H locs cells slots Q (F0 m pc ls (.int i :: .ref (ad k) :: rest)) :=
  va_zald C.1 C.2.1 C.2.2.2.2.2.1.1 hw.1 k 1 (wr_i hw (t := 1) hT (by decide)) rfl (ib_in hi) hdg kk
theorem r_cald (C : Cx G A p s m args meth c own cc nL rt) (hw : Wd G A ad s.heap M H locs) {k : Nat} (hT : mT M k = 22) {i : Int32} (hi : ib i (mL M k) = true) (hdg : decode cc pc = .ok (.caload, 1)) (kk : W p l e R s m args below meth c H locs cells slots Q (F0 m (pc + 1) ls (.int (mI M k i.toNatClampNeg) :: rest))) : W p l e R s m args below meth c H locs cells slots Q (F0 m pc ls (.int i :: .ref (ad k) :: rest)) :=
  va_cald C.1 C.2.1 C.2.2.2.2.2.1.1 hw.1 k 2 (wr_i hw (t := 2) hT (by decide)) rfl (ib_in hi) hdg kk
theorem wd_setA (hw : Wd G A ad s.heap M H locs) {k t : Nat} {f : Nat → Int32} {M1 : Mem} {H1 : Heap} {locs1 : List Loc} (hT : mT M k = t + 20) (ht : t < 3) (e1 : M1 = setR M k f)
    (h1 : va_P (G.1, G.2.1) vwCl ((sWr G.2.2.1 ad M).set k (ad k, .inl (G.2.2.1 t, mL M k, .inl f))) H1) (h2 : va_D A ((sWr G.2.2.1 ad M).set k (ad k, .inl (G.2.2.1 t, mL M k, .inl f)))) (h3 : va_S A s.heap H1 locs1) : Wd G A ad s.heap M1 H1 locs1 := by
  subst e1
  have hk : k < mN M := hw.2.2.1.1 k (by omega)
  have e1 : (sWr G.2.2.1 ad M).set k (ad k, .inl (G.2.2.1 t, mL M k, .inl f)) = sWr G.2.2.1 ad (setR M k f) := by
    refine wr_set hk rfl ?_ (fun a ha => cell_congr rfl rfl (fun i => ?_) (fun _ => rfl) (fun _ => rfl))
    · rw [cell_i (M := setR M k f) hT ht]
      have : (fun j => mI (setR M k f) k j) = f := by
        funext j
        show (if k = k then f j else M.1 k j) = f j
        rw [if_pos rfl]
      rw [this]; rfl
    · show (if a = k then f i else M.1 a i) = M.1 a i
      rw [if_neg ha]
  rw [e1] at h1 h2
  exact ⟨h1, h2, wf_setR hw.2.2.1, h3⟩
theorem setI_R {M : Mem} {k j : Nat} {v : Int32} : setI M k j v = setR M k (upd (fun i => mI M k i) j v) := by
  unfold setI setR
  refine congrArg (fun z => (z, M.2)) ?_
  funext a b
  unfold u2 upd
  by_cases h : a = k
  · subst h
    by_cases h2 : b = j
    · subst h2; simp
    · simp [h2, mI]
  · simp [h]
theorem r_iast (C : Cx G A p s m args meth c own cc nL rt) (hw : Wd G A ad s.heap M H locs) {k : Nat} (hT : mT M k = 20) {i x : Int32} (hi : ib i (mL M k) = true) {M1 : Mem} (e1 : M1 = setI M k i.toNatClampNeg x) (hdg : decode cc pc = .ok (.iastore, 1)) (kk : ∀ (H1 : Heap) (locs1 : List Loc), Wd G A ad s.heap M1 H1 locs1 → W p l e R s m args below meth c H1 locs1 cells slots Q (F0 m (pc + 1) ls rest)) : W p l e R s m args below meth c H locs cells slots Q (F0 m pc ls (.int x :: .int i :: .ref (ad k) :: rest)) :=
  va_iast C.1 C.2.1 C.2.2.2.2.2.1.1 hw.1 hw.2.1 hw.2.2.2 k 0 (wr_i hw (t := 0) hT (by decide)) rfl (ib_in hi) hdg (fun H1 locs1 h1 h2 h3 => kk H1 locs1 (wd_setA hw (t := 0) hT (by decide) (e1.trans setI_R) h1 h2 h3))
theorem r_zast (C : Cx G A p s m args meth c own cc nL rt) (hw : Wd G A ad s.heap M H locs) {k : Nat} (hT : mT M k = 21) {i x : Int32} (hi : ib i (mL M k) = true) (hB : isB x = true) {M1 : Mem} (e1 : M1 = setI M k i.toNatClampNeg x) (hdg : decode cc pc = .ok (.bastore, 1)) (kk : ∀ (H1 : Heap) (locs1 : List Loc), Wd G A ad s.heap M1 H1 locs1 → W p l e R s m args below meth c H1 locs1 cells slots Q (F0 m (pc + 1) ls rest)) : W p l e R s m args below meth c H locs cells slots Q (F0 m pc ls (.int x :: .int i :: .ref (ad k) :: rest)) := by
  have hx : vp_nar .boolean x = x := by rcases isB_or hB with rfl | rfl <;> rfl
  exact va_zast C.1 C.2.1 C.2.2.2.2.2.1.1 hw.1 hw.2.1 hw.2.2.2 k 1 (wr_i hw (t := 1) hT (by decide)) rfl (ib_in hi) hdg (fun H1 locs1 h1 h2 h3 => by
    rw [hx] at h1 h2
    exact kk H1 locs1 (wd_setA hw (t := 1) hT (by decide) (e1.trans setI_R) h1 h2 h3))
theorem r_cast (C : Cx G A p s m args meth c own cc nL rt) (hw : Wd G A ad s.heap M H locs) {k : Nat} (hT : mT M k = 22) {i x : Int32} (hi : ib i (mL M k) = true) (hx : vp_nar .char x = x) {M1 : Mem} (e1 : M1 = setI M k i.toNatClampNeg x) (hdg : decode cc pc = .ok (.castore, 1)) (kk : ∀ (H1 : Heap) (locs1 : List Loc), Wd G A ad s.heap M1 H1 locs1 → W p l e R s m args below meth c H1 locs1 cells slots Q (F0 m (pc + 1) ls rest)) : W p l e R s m args below meth c H locs cells slots Q (F0 m pc ls (.int x :: .int i :: .ref (ad k) :: rest)) := by
  exact va_cast C.1 C.2.1 C.2.2.2.2.2.1.1 hw.1 hw.2.1 hw.2.2.2 k 2 (wr_i hw (t := 2) hT (by decide)) rfl (ib_in hi) hdg (fun H1 locs1 h1 h2 h3 => by
    rw [hx] at h1 h2
    exact kk H1 locs1 (wd_setA hw (t := 2) hT (by decide) (e1.trans setI_R) h1 h2 h3))
theorem r_alen (C : Cx G A p s m args meth c own cc nL rt) (hw : Wd G A ad s.heap M H locs) {k : Nat} (hT : mT M k = 20) (hdg : decode cc pc = .ok (.arraylength, 1)) (kk : W p l e R s m args below meth c H locs cells slots Q (F0 m (pc + 1) ls (.int (nI (mL M k)) :: rest))) : W p l e R s m args below meth c H locs cells slots Q (F0 m pc ls (.ref (ad k) :: rest)) :=
  va_alen C.1 C.2.1 C.2.2.2.2.2.1.1 hw.1 k 0 (wr_i hw (t := 0) hT (by decide)) rfl rfl hdg kk
theorem r_copy (C : Cx G A p s m args meth c own cc nL rt) (hw : Wd G A ad s.heap M H locs) (hsz : ls.size = nL) {k k1 : Nat} (hT : mT M k = 20) (hT1 : mT M k1 = 20) {sp dp n : Int32} (hg : (decide (0 ≤ sp) && decide (0 ≤ dp) && decide (0 ≤ n) && decide (sp.toNatClampNeg + n.toNatClampNeg ≤ mL M k) && decide (dp.toNatClampNeg + n.toNatClampNeg ≤ mL M k1)) = true) {M1 : Mem} (e1 : M1 = setR M k1 (va_cpy (fun j => mI M k j) (fun j => mI M k1 j) sp.toNatClampNeg dp.toNatClampNeg n.toNatClampNeg)) {index : Nat} (hl : Cond.methodLink own index arraycopyName ∈ TBW) (hn1 : Cond.native arraycopyName ∈ TBW) (hn2 : Cond.static arraycopyName ∈ TBW) (hn3 : Cond.initialized "java/lang/System" ∈ TBW) (hframes : 1 ≤ R.frames) (hlocals : (rest.map fun v => v.category).sum + (nativeFrameWords "java/lang/System" "arraycopy" 5 + 11) ≤ R.locals) (hdg : decode cc pc = .ok (.invokestatic index, 3)) (kk : ∀ (H1 : Heap) (locs1 : List Loc), Wd G A ad s.heap M1 H1 locs1 → W p l e R s m args below meth c H1 locs1 cells slots Q (F0 m (pc + 3) ls rest)) : W p l e R s m args below meth c H locs cells slots Q (F0 m pc ls (.int n :: .int dp :: .ref (ad k1) :: .int sp :: .ref (ad k) :: rest)) := by
  simp only [Bool.and_eq_true, decide_eq_true_eq] at hg
  obtain ⟨⟨⟨⟨g1, g2⟩, g3⟩, g4⟩, g5⟩ := hg
  have hts := C.2.2.2.2.1
  exact va_copyi C.1 C.2.1 (C.2.2.1.trans hsz.symm) C.2.2.2.1 (hts _ hl) (hts _ hn1) (hts _ hn2) (hts _ hn3) C.2.2.2.2.2.1.1 hw.1 hw.2.1 hw.2.2.2 k k1 0 0 (wr_i hw (t := 0) hT (by decide)) (wr_i hw (t := 0) hT1 (by decide)) rfl rfl rfl (Int32.not_lt.mpr g1) (Int32.not_lt.mpr g2) (Int32.not_lt.mpr g3) g4 g5 (fun _ _ => rfl) hframes hlocals hdg (fun H1 locs1 h1 h2 h3 => kk H1 locs1 (wd_setA hw (t := 0) hT1 (by decide) e1 h1 h2 h3))
/-! arrays of objects -/
theorem r_aald (C : Cx G A p s m args meth c own cc nL rt) (hw : Wd G A ad s.heap M H locs) (t : Nat) {Cn : String} (ht : (sTy G.2.2.1)[t]? = some (G.2.2.1 t, .object Cn)) (h3 : 3 ≤ t) (h5 : t ≠ 5) {k b : Nat} (hT : mT M k = t + 20) {i : Int32} (hi : ib i (mL M k) = true) (hP : mP M k i.toNatClampNeg = some b) (hdg : decode cc pc = .ok (.aaload, 1)) (kk : W p l e R s m args below meth c H locs cells slots Q (F0 m (pc + 1) ls (.ref (ad b) :: rest))) : W p l e R s m args below meth c H locs cells slots Q (F0 m pc ls (.int i :: .ref (ad k) :: rest)) := by
  have he : (sWr G.2.2.1 ad M)[k]? = some (ad k, .inl (G.2.2.1 t, mL M k, .inr (.inr (.inr (.inr (fun j => (mP M k j).map ad)))))) := by
    rw [wr_at (hw.2.2.1.1 k (by omega)), cell_p hT h3 h5]
  refine va_aldq C.1 C.2.1 C.2.2.2.2.2.1.1 hw.1 k t he ht (ib_in hi) hdg ?_
  show W p l e R s m args below meth c H locs cells slots Q (F0 m (pc + 1) ls (va_rf ((mP M k i.toNatClampNeg).map ad) :: rest))
  rw [hP]
  exact kk
theorem r_xald (C : Cx G A p s m args meth c own cc nL rt) (hw : Wd G A ad s.heap M H locs) {k : Nat} (hT : mT M k = 25) {i : Int32} (hi : ib i (mL M k) = true) (hdg : decode cc pc = .ok (.aaload, 1)) (kk : W p l e R s m args below meth c H locs cells slots Q (F0 m (pc + 1) ls (va_rf ((mX M k i.toNatClampNeg).map ad) :: rest))) : W p l e R s m args below meth c H locs cells slots Q (F0 m pc ls (.int i :: .ref (ad k) :: rest)) := by
  have he : (sWr G.2.2.1 ad M)[k]? = some (ad k, .inl (G.2.2.1 5, mL M k, .inr (.inr (.inr (.inr (fun j => (mX M k j).map ad)))))) := by
    rw [wr_at (hw.2.2.1.1 k (by omega)), cell_x hT]
  exact va_aldq C.1 C.2.1 C.2.2.2.2.2.1.1 hw.1 k 5 he rfl (ib_in hi) hdg kk
theorem map_up {ad : Nat → Nat} {f : Nat → Option Nat} {i b : Nat} : va_up (fun j => (f j).map ad) i (some (ad b)) = fun j => ((if j = i then some b else f j) : Option Nat).map ad := by
  funext j
  unfold va_up
  by_cases h : j = i
  · rw [if_pos h, if_pos h]; rfl
  · rw [if_neg h, if_neg h]
theorem r_aast (C : Cx G A p s m args meth c own cc nL rt) (hw : Wd G A ad s.heap M H locs) (t : Nat) {ci N : Nat} {Cn : String} {T : u_T} {ty : Nat → FieldType} (cf : CF ci Cn T N ty) (ht : (sTy G.2.2.1)[t]? = some (G.2.2.1 t, .object Cn)) (h3 : 3 ≤ t) (h5 : t ≠ 5) {k b : Nat} (hT : mT M k = t + 20) (hB : mT M b = ci + 1) {i : Int32} (hi : ib i (mL M k) = true) {M1 : Mem} (e1 : M1 = setP M k i.toNatClampNeg b) (hdg : decode cc pc = .ok (.aastore, 1)) (kk : ∀ (H1 : Heap) (locs1 : List Loc), Wd G A ad s.heap M1 H1 locs1 → W p l e R s m args below meth c H1 locs1 cells slots Q (F0 m (pc + 1) ls rest)) : W p l e R s m args below meth c H locs cells slots Q (F0 m pc ls (.ref (ad b) :: .int i :: .ref (ad k) :: rest)) := by
  subst e1
  have hk := hw.2.2.1.1 k (by omega)
  have hbn := hw.2.2.1.1 b (by omega)
  have he : (sWr G.2.2.1 ad M)[k]? = some (ad k, .inl (G.2.2.1 t, mL M k, .inr (.inr (.inr (.inr (fun j => (mP M k j).map ad)))))) := by
    rw [wr_at hk, cell_p hT h3 h5]
  have hv : (sWr G.2.2.1 ad M)[b]? = some (ad b, .inr (ci, sFld ad M ci b)) := by rw [wr_at hbn, cell_o hB cf.2.2.1]
  refine va_astq C.1 C.2.1 C.2.2.2.2.2.1.1 hw.1 hw.2.1 hw.2.2.2 k t b ci (r := (Cn, T, N)) he ht hv cf.1 (ib_in hi) hdg (fun H1 locs1 h1 h2 h3' => kk H1 locs1 ?_)
  have e1 : (sWr G.2.2.1 ad M).set k (ad k, .inl (G.2.2.1 t, mL M k, .inr (.inr (.inr (.inr (va_up (fun j => (mP M k j).map ad) i.toNatClampNeg (some (ad b)))))))) = sWr G.2.2.1 ad (setP M k i.toNatClampNeg b) := by
    refine wr_set hk rfl ?_ (fun a ha => cell_congr rfl rfl (fun _ => rfl) (fun j => ?_) (fun _ => rfl))
    · rw [cell_p (M := setP M k i.toNatClampNeg b) hT h3 h5, map_up]
      have : (fun j => (mP (setP M k i.toNatClampNeg b) k j).map ad) = fun j => ((if j = i.toNatClampNeg then some b else mP M k j) : Option Nat).map ad := by
        funext j
        show (u2 M.2.2.1 k i.toNatClampNeg (some b) k j).map ad = _
        unfold u2
        simp [mP]
      rw [this]; rfl
    · show (u2 M.2.2.1 k i.toNatClampNeg (some b) a j).map ad = (M.2.2.1 a j).map ad
      unfold u2
      rw [if_neg (fun h => ha h.1)]
  rw [e1] at h1 h2
  exact ⟨h1, h2, wf_setP hw.2.2.1 hbn, h3'⟩
theorem r_xast (C : Cx G A p s m args meth c own cc nL rt) (hw : Wd G A ad s.heap M H locs) {k b : Nat} (hT : mT M k = 25) (hB : mT M b = 8) {i : Int32} (hi : ib i (mL M k) = true) {M1 : Mem} (e1 : M1 = setX M k i.toNatClampNeg b) (hdg : decode cc pc = .ok (.aastore, 1)) (kk : ∀ (H1 : Heap) (locs1 : List Loc), Wd G A ad s.heap M1 H1 locs1 → W p l e R s m args below meth c H1 locs1 cells slots Q (F0 m (pc + 1) ls rest)) : W p l e R s m args below meth c H locs cells slots Q (F0 m pc ls (.ref (ad b) :: .int i :: .ref (ad k) :: rest)) := by
  subst e1
  have hk := hw.2.2.1.1 k (by omega)
  have hbn := hw.2.2.1.1 b (by omega)
  have he : (sWr G.2.2.1 ad M)[k]? = some (ad k, .inl (G.2.2.1 5, mL M k, .inr (.inr (.inr (.inr (fun j => (mX M k j).map ad)))))) := by
    rw [wr_at hk, cell_x hT]
  have hv : (sWr G.2.2.1 ad M)[b]? = some (ad b, .inr (7, sFld ad M 7 b)) := by rw [wr_at hbn, cell_o hB (by decide)]
  refine va_astq C.1 C.2.1 C.2.2.2.2.2.1.1 hw.1 hw.2.1 hw.2.2.2 k 5 b 7 (r := (RX7, TX7, 3)) he rfl hv rfl (ib_in hi) hdg (fun H1 locs1 h1 h2 h3' => kk H1 locs1 ?_)
  have e1 : (sWr G.2.2.1 ad M).set k (ad k, .inl (G.2.2.1 5, mL M k, .inr (.inr (.inr (.inr (va_up (fun j => (mX M k j).map ad) i.toNatClampNeg (some (ad b)))))))) = sWr G.2.2.1 ad (setX M k i.toNatClampNeg b) := by
    refine wr_set hk rfl ?_ (fun a ha => cell_congr rfl rfl (fun _ => rfl) (fun _ => rfl) (fun j => ?_))
    · rw [cell_x (M := setX M k i.toNatClampNeg b) hT, map_up]
      have : (fun j => (mX (setX M k i.toNatClampNeg b) k j).map ad) = fun j => ((if j = i.toNatClampNeg then some b else mX M k j) : Option Nat).map ad := by
        funext j
        show (u2 M.2.1 k i.toNatClampNeg (some b) k j).map ad = _
        unfold u2
        simp [mX]
      rw [this]; rfl
    · show (u2 M.2.1 k i.toNatClampNeg (some b) a j).map ad = (M.2.1 a j).map ad
      unfold u2
      rw [if_neg (fun h => ha h.1)]
  rw [e1] at h1 h2
  exact ⟨h1, h2, wf_setX hw.2.2.1 hbn, h3'⟩
end SRow
end
section
/-! CONTRACTS over the memory: how one begins, how it ends, how it's called -/
def B0 (G : Gd) (A : Nat → Prop) (ad : Nat → Nat) (M : Mem) (U : State) : Prop := Kn G A U ∧ (∀ q, U.heap.size ≤ q → A q) ∧ va_P (G.1, G.2.1) vwCl (sWr G.2.2.1 ad M) U.heap ∧ va_D A (sWr G.2.2.1 ad M) ∧ Wf M
def B1 (G : Gd) (A : Nat → Prop) (ad : Nat → Nat) (M : Mem) (t : State) : Prop := va_P (G.1, G.2.1) vwCl (sWr G.2.2.1 ad M) t.heap ∧ va_D A (sWr G.2.2.1 ad M) ∧ Wf M
/-- an answer r, the memory behind it M' -/
abbrev QI (G : Gd) (A : Nat → Prop) (ad : Nat → Nat) (r : Int32) (M' : Mem) : Array Value → State → Outcome → State → Prop := va_Qi (fun r' (_ : Unit) => r' = r) (fun _ => B1 G A ad M') A
abbrev QV (G : Gd) (A : Nat → Prop) (ad : Nat → Nat) (M' : Mem) : Array Value → State → Outcome → State → Prop := va_Qv (fun (_ : Unit) => True) (fun _ => B1 G A ad M') A
abbrev QQ (G : Gd) (A : Nat → Prop) (ad : Nat → Nat) (r : Option Nat) (M' : Mem) : Array Value → State → Outcome → State → Prop := va_Qq (fun r' (_ : Unit) => r' = r.map ad) (fun _ => B1 G A ad M') A
abbrev QT (G : Gd) (A : Nat → Prop) (ad : Nat → Nat) (r : Nat) (M' : Mem) : Array Value → State → Outcome → State → Prop := va_Qq (fun r' (_ : Unit) => r' = some (G.2.2.2.2.1 r)) (fun _ => B1 G A ad M') A
abbrev Ct (l : Launch) (y : MethodName) (b : ByteArray) (n : Nat) (rt : Option FieldType) (rm : Room) (As : List Value) (G : Gd) (A : Nat → Prop) (ad : Nat → Nat) (M : Mem) (Qc : Array Value → State → Outcome → State → Prop) (mc ms : Nat) : Prop :=
  Met l y (.code y b n rt :: TBW) rm (va_Pc As (B0 G A ad M)) Qc mc ms A
theorem ct_start {l : Launch} {y : MethodName} {b : ByteArray} {n : Nat} {rt : Option FieldType} {rm : Room} {As : List Value} {G : Gd} {A : Nat → Prop} {ad : Nat → Nat} {M : Mem} {Qc : Array Value → State → Outcome → State → Prop} {mc ms : Nat} (hy : plainName y.cls = true) (hn : (lg_sl As).length ≤ n)
    (body : ∀ (p : Program) (e : Env) (s : State) (m : MethodId) (args : Array Value) (below : List Frame) (meth : Method) (c : Code) (ls : Array Slot), Cx G A p s m args meth c y.cls b n rt → meth.name = y.name → Wd G A ad s.heap M s.heap [] → lv_has ls n (lv_args 0 As) → W p l e rm s m args below meth c s.heap [] 0 0 (MQ below Qc args s mc ms A) (F0 m 0 ls [])) : Ct l y b n rt rm As G A ad M Qc mc ms := by
  refine Met.ofW (cc := b) (maxL := n) (ret := rt) hy rfl ?_
  intro p e s m args below meth c s₁ B hml hv
  obtain ⟨rfl, hB⟩ := hv
  have hts := atoms_spec (ws := .code y b n rt :: TBW) B.pre
  rw [lg_entry_eq]
  exact body p e s m _ below meth c _ ⟨B.exec, B.bytes, hml, findClass_of_methodNamed B.named, fun w hw => hts w (List.mem_cons_of_mem _ hw), hB.1, B.returns, B.notSynchronized, hB.2.1⟩ (name_of_methodNamed B.named B.method).1 ⟨hB.2.2.1, hB.2.2.2.1, hB.2.2.2.2, va_S.rf⟩ (lv_entry As hn)
theorem blind {As : List Value} {G : Gd} {A : Nat → Prop} {ad : Nat → Nat} {M : Mem} : FrameBlind (va_Pc As (B0 G A ad M)) := fun a _ g mk h => ⟨h.1, h.2.1.calling g mk a, h.2.2⟩
def MF (y : MethodName) (b : ByteArray) (n : Nat) (rt : Option FieldType) (np : Nat) : Prop := Cond.code y b n rt ∈ TBW ∧ Cond.initialized y.cls ∈ TBW ∧ y.cls ≠ "java/lang/invoke/MethodHandle" ∧ y.cls ≠ "java/lang/invoke/VarHandle" ∧ (parseMethodDescriptor y.desc).map (fun d => d.parameters.length) = some np
def MV (y : MethodName) : Prop := Cond.instanceMethod y ∈ TBW ∧ Cond.selects y.cls y y ∈ TBW
def MS (y : MethodName) : Prop := Cond.static y ∈ TBW
def MJ (y : MethodName) : Prop := y.name = "<init>" ∧ Cond.instanceMethod y ∈ TBW
abbrev RM (R rm : Room) (n mc ms : Nat) : Prop := rm.cells = mc ∧ rm.slots = ms ∧ rm.frames + 1 ≤ R.frames ∧ 8 + (n + 11) + rm.locals ≤ R.locals
section SCall
variable {p : Program} {l : Launch} {e : Env} {R : Room} {s : State} {m : MethodId} {args : Array Value} {below : List Frame} {meth : Method} {c : Code} {H : Heap} {locs : List Loc} {cells slots : Nat} {Q : State → Prop} {G : Gd} {A : Nat → Prop} {ad : Nat → Nat} {M : Mem} {own : String} {cc : ByteArray} {nL : Nat} {rt : Option FieldType} {pc : Nat} {ls : Array Slot} {rest : List Value}
/-! the ends -/
theorem b1_of {t : State} (hw : Wd G A ad s.heap M H locs) (ht : t.heap = H) : B1 G A ad M t := by
  unfold B1
  rw [ht]
  exact ⟨hw.1, hw.2.1, hw.2.2.1⟩
theorem e_iret (C : Cx G A p s m args meth c own cc nL (some .int)) (hw : Wd G A ad s.heap M H locs) {v r : Int32} {M' : Mem} (hf : some (v, M) = some (r, M')) (hdg : decode cc pc = .ok (.ireturn, 1)) : W p l e R s m args below meth c H locs cells slots (MQ below (QI G A ad r M') args s cells slots A) (F0 m pc ls [.int v]) := by
  cases hf
  exact W.iret C.1 C.2.1 C.2.2.2.2.2.2.1 (fun t ht hW => ⟨⟨v, (), rfl, rfl, b1_of hw ht⟩, hw.2.2.2.F ht⟩) hw.2.2.2.2.2 hdg (hlocks := C.2.2.2.2.2.2.2.1)
theorem e_zret (C : Cx G A p s m args meth c own cc nL (some .boolean)) (hw : Wd G A ad s.heap M H locs) {v r : Int32} {M' : Mem} (hB : isB v = true) (hf : some (v, M) = some (r, M')) (hdg : decode cc pc = .ok (.ireturn, 1)) : W p l e R s m args below meth c H locs cells slots (MQ below (QI G A ad r M') args s cells slots A) (F0 m pc ls [.int v]) := by
  cases hf
  exact W.zret C.1 C.2.1 C.2.2.2.2.2.2.1 (isB_nar hB) (fun t ht hW => ⟨⟨v, (), rfl, rfl, b1_of hw ht⟩, hw.2.2.2.F ht⟩) hw.2.2.2.2.2 hdg (hlocks := C.2.2.2.2.2.2.2.1)
theorem e_nret {rty : FieldType} (C : Cx G A p s m args meth c own cc nL (some rty)) (hw : Wd G A ad s.heap M H locs) {v r : Int32} {M' : Mem} (hB : narrow rty (.int v) = .int v) (hf : some (v, M) = some (r, M')) (hdg : decode cc pc = .ok (.ireturn, 1)) : W p l e R s m args below meth c H locs cells slots (MQ below (QI G A ad r M') args s cells slots A) (F0 m pc ls [.int v]) := by
  cases hf
  exact W.zret C.1 C.2.1 C.2.2.2.2.2.2.1 hB (fun t ht hW => ⟨⟨v, (), rfl, rfl, b1_of hw ht⟩, hw.2.2.2.F ht⟩) hw.2.2.2.2.2 hdg (hlocks := C.2.2.2.2.2.2.2.1)
theorem e_vret (C : Cx G A p s m args meth c own cc nL none) (hw : Wd G A ad s.heap M H locs) {M' : Mem} (hf : some ((), M) = some ((), M')) (hdg : decode cc pc = .ok (.return_, 1)) : W p l e R s m args below meth c H locs cells slots (MQ below (QV G A ad M') args s cells slots A) (F0 m pc ls []) := by
  cases hf
  exact W.vret C.1 C.2.1 C.2.2.2.2.2.2.1 (fun t ht hW => ⟨⟨(), rfl, trivial, b1_of hw ht⟩, hw.2.2.2.F ht⟩) hw.2.2.2.2.2 hdg (hlocks := C.2.2.2.2.2.2.2.1)
theorem rf_or (x : Option Nat) : va_rf x = .null ∨ ∃ a, va_rf x = .ref a := by
  cases x
  · exact Or.inl rfl
  · exact Or.inr ⟨_, rfl⟩
theorem e_aret {Cn : String} (C : Cx G A p s m args meth c own cc nL (some (.object Cn))) (hw : Wd G A ad s.heap M H locs) {v r : Option Nat} {M' : Mem} (hf : some (v, M) = some (r, M')) (hdg : decode cc pc = .ok (.areturn, 1)) : W p l e R s m args below meth c H locs cells slots (MQ below (QQ G A ad r M') args s cells slots A) (F0 m pc ls [va_rf (v.map ad)]) := by
  cases hf
  exact W.aret C.1 C.2.1 C.2.2.2.2.2.2.1 (Or.inl ⟨_, rfl⟩) (rf_or _) (fun t ht hW => ⟨⟨v.map ad, (), rfl, rfl, b1_of hw ht⟩, hw.2.2.2.F ht⟩) hw.2.2.2.2.2 hdg (hlocks := C.2.2.2.2.2.2.2.1)
theorem e_tret {Cn : String} (C : Cx G A p s m args meth c own cc nL (some (.object Cn))) (hw : Wd G A ad s.heap M H locs) {v r : Nat} {M' : Mem} (hf : some (v, M) = some (r, M')) (hdg : decode cc pc = .ok (.areturn, 1)) : W p l e R s m args below meth c H locs cells slots (MQ below (QT G A ad r M') args s cells slots A) (F0 m pc ls [.ref (G.2.2.2.2.1 v)]) := by
  cases hf
  exact W.aret C.1 C.2.1 C.2.2.2.2.2.2.1 (Or.inl ⟨_, rfl⟩) (Or.inr ⟨_, rfl⟩) (fun t ht hW => ⟨⟨some (G.2.2.2.2.1 v), (), rfl, rfl, b1_of hw ht⟩, hw.2.2.2.F ht⟩) hw.2.2.2.2.2 hdg (hlocks := C.2.2.2.2.2.2.2.1)
/-! the calls -/
theorem Cx.fix (C : Cx G A p s m args meth c own cc nL rt) : CallFix p m c cc nL s args TBW own := ⟨C.1, C.2.1, C.2.2.1, C.2.2.2.1, C.2.2.2.2.1⟩
theorem Cx.pre (C : Cx G A p s m args meth c own cc nL rt) (hw : Wd G A ad s.heap M H locs) (As : List Value) : ∀ U : State, U.heap = H → s.WarmedH U.vm → va_Pc As (B0 G A ad M) As.toArray U := fun U hU hW =>
  ⟨rfl, C.2.2.2.2.2.1.to hW (fun a h1 h2 => by rw [hU]; exact hw.2.2.2.2.1 a h1 h2), fun q hq => C.2.2.2.2.2.2.2.2 q (Nat.le_trans hw.2.2.2.1 (by rw [hU] at hq; exact hq)), by rw [hU]; exact hw.1, hw.2.1, hw.2.2.1⟩
theorem run_V {y : MethodName} {b : ByteArray} {n np mc ms : Nat} {ret : Option FieldType} {rm : Room} {As st0 : List Value} {Qc : Array Value → State → Outcome → State → Prop} {k ci N index : Nat} {T : u_T} {ty : Nat → FieldType} (C : Cx G A p s m args meth c own cc nL rt) (hw : Wd G A ad s.heap M H locs) (mf : MF y b n ret np) (mv : MV y) (hlk : MLk own index y) (cf : CF ci y.cls T N ty) (hT : mT M k = ci + 1) (ct : Ct l y b n ret rm (.ref (ad k) :: As) G A ad M Qc mc ms) (hsz : ls.size = nL) (hn : As.length = np) (hst : st0 = As.reverse ++ .ref (ad k) :: rest) (hW : (rest.map fun v => v.category).sum ≤ 8) (hrm : RM R rm n mc ms) (hcs : cells + mc ≤ R.cells ∧ slots + ms ≤ R.slots) (hdg : decode cc pc = .ok (.invokevirtual index, 3)) : va_Run p l e R s m args below meth c H locs cells slots mc ms (F0 m pc ls st0) rest (Qc (Value.ref (ad k) :: As).toArray) A := by
  have hts := C.2.2.2.2.1
  have he : (sWr G.2.2.1 ad M)[k]? = some (ad k, .inr (ci, sFld ad M ci k)) := by rw [wr_at (hw.2.2.1.1 k (by omega)), cell_o hT cf.2.2.1]
  have hp : PreV s H y.cls (ad k) (va_Pc (.ref (ad k) :: As) (B0 G A ad M)) As := ⟨blind, va_recv C.2.2.2.2.2.1.1 hw.1 cf.1 he, C.pre hw _⟩
  rcases hlk with hlk | ⟨host, hlk⟩
  · exact va_runV C.fix ct ⟨callB_of np hts (tbw_in0 mf.1) rfl hrm.1 hrm.2.1 (hts _ mf.2.1) (hts _ hlk) mf.2.2 ⟨hrm.2.2.1, hrm.2.2.2⟩, hts _ mv.1, hts _ mv.2⟩ hp rfl hn hsz hst (lv_room hW) hdg hcs
  · exact va_runVN C.fix ct ⟨va_cnB np hts (tbw_in0 mf.1) rfl hrm.1 hrm.2.1 (C.2.2.2.2.2.1.2.1 _ hlk) (hts _ mf.2.1) mf.2.2 ⟨hrm.2.2.1, hrm.2.2.2⟩, hts _ mv.1, hts _ mv.2⟩ hp rfl hn hsz hst (lv_room hW) hdg hcs
theorem run_S {y : MethodName} {b : ByteArray} {n np mc ms : Nat} {ret : Option FieldType} {rm : Room} {As st0 : List Value} {Qc : Array Value → State → Outcome → State → Prop} {index : Nat} (C : Cx G A p s m args meth c own cc nL rt) (hw : Wd G A ad s.heap M H locs) (mf : MF y b n ret np) (mv : MS y) (hlk : MLk own index y) (ct : Ct l y b n ret rm As G A ad M Qc mc ms) (hsz : ls.size = nL) (hn : As.length = np) (hst : st0 = As.reverse ++ rest) (hW : (rest.map fun v => v.category).sum ≤ 8) (hrm : RM R rm n mc ms) (hcs : cells + mc ≤ R.cells ∧ slots + ms ≤ R.slots) (hdg : decode cc pc = .ok (.invokestatic index, 3)) : va_Run p l e R s m args below meth c H locs cells slots mc ms (F0 m pc ls st0) rest (Qc As.toArray) A := by
  have hts := C.2.2.2.2.1
  have hp : PreS s H (va_Pc As (B0 G A ad M)) As := ⟨blind, C.pre hw _⟩
  rcases hlk with hlk | ⟨host, hlk⟩
  · exact va_runS C.fix ct ⟨callB_of np hts (tbw_in0 mf.1) rfl hrm.1 hrm.2.1 (hts _ mf.2.1) (hts _ hlk) mf.2.2 ⟨hrm.2.2.1, hrm.2.2.2⟩, hts _ mv⟩ hp rfl hn hsz hst (lv_room hW) hdg hcs
  · exact va_runSN C.fix ct ⟨va_cnB np hts (tbw_in0 mf.1) rfl hrm.1 hrm.2.1 (C.2.2.2.2.2.1.2.1 _ hlk) (hts _ mf.2.1) mf.2.2 ⟨hrm.2.2.1, hrm.2.2.2⟩, hts _ mv, trivial⟩ hp rfl hn hsz hst (lv_room hW) hdg hcs
theorem run_I {y : MethodName} {b : ByteArray} {n np mc ms : Nat} {rm : Room} {As st0 : List Value} {Qc : Array Value → State → Outcome → State → Prop} {k index : Nat} (C : Cx G A p s m args meth c own cc nL rt) (hw : Wd G A ad s.heap M H locs) (mf : MF y b n none np) (mv : MJ y) (hlk : MLk own index y) (ct : Ct l y b n none rm (.ref (ad k) :: As) G A ad M Qc mc ms) (hsz : ls.size = nL) (hn : As.length = np) (hst : st0 = As.reverse ++ .ref (ad k) :: rest) (hW : (rest.map fun v => v.category).sum ≤ 8) (hrm : RM R rm n mc ms) (hcs : cells + mc ≤ R.cells ∧ slots + ms ≤ R.slots) (hdg : decode cc pc = .ok (.invokespecial index, 3)) : va_Run p l e R s m args below meth c H locs cells slots mc ms (F0 m pc ls st0) rest (Qc (Value.ref (ad k) :: As).toArray) A := by
  have hts := C.2.2.2.2.1
  have hp : PreS s H (va_Pc (.ref (ad k) :: As) (B0 G A ad M)) (.ref (ad k) :: As) := ⟨blind, C.pre hw _⟩
  rcases hlk with hlk | ⟨host, hlk⟩
  · exact va_runI C.fix ct ⟨callB_of np hts (tbw_in0 mf.1) rfl hrm.1 hrm.2.1 (hts _ mf.2.1) (hts _ hlk) mf.2.2 ⟨hrm.2.2.1, hrm.2.2.2⟩, mv.1, hts _ mv.2⟩ hp rfl hn hsz hst (lv_room hW) hdg hcs
  · exact va_runIN C.fix ct ⟨va_cnB np hts (tbw_in0 mf.1) rfl hrm.1 hrm.2.1 (C.2.2.2.2.2.1.2.1 _ hlk) (hts _ mf.2.1) mf.2.2 ⟨hrm.2.2.1, hrm.2.2.2⟩, mv.1, hts _ mv.2⟩ hp rfl hn hsz hst (lv_room hW) hdg hcs
theorem fin_I {r : Int32} {M1 : Mem} {a : Array Value} {st0 : List Value} (hr : va_Run p l e R s m args below meth c H locs cells slots 0 0 (F0 m pc ls st0) rest (QI G A ad r M1 a) A) (hw : Wd G A ad s.heap M H locs) (kk : ∀ (H1 : Heap) (locs1 : List Loc), Wd G A ad s.heap M1 H1 locs1 → W p l e R s m args below meth c H1 locs1 cells slots Q (F0 m (pc + 3) ls (.int r :: rest))) : W p l e R s m args below meth c H locs cells slots Q (F0 m pc ls st0) :=
  va_calli hr hw.2.2.2 (fun _ _ h => h) (fun _ h => h) (fun r' u t H1 locs1 ht hvm hp hB hz hk hS => by
    subst hp; subst ht
    exact kk _ _ ⟨hB.1, hB.2.1, hB.2.2, hS⟩)
theorem fin_V {M1 : Mem} {a : Array Value} {st0 : List Value} (hr : va_Run p l e R s m args below meth c H locs cells slots 0 0 (F0 m pc ls st0) rest (QV G A ad M1 a) A) (hw : Wd G A ad s.heap M H locs) (kk : ∀ (H1 : Heap) (locs1 : List Loc), Wd G A ad s.heap M1 H1 locs1 → W p l e R s m args below meth c H1 locs1 cells slots Q (F0 m (pc + 3) ls rest)) : W p l e R s m args below meth c H locs cells slots Q (F0 m pc ls st0) :=
  va_callv hr hw.2.2.2 (fun _ _ h => h) (fun _ h => h) (fun u t H1 locs1 ht hvm hp hB hz hk hS => by
    subst ht
    exact kk _ _ ⟨hB.1, hB.2.1, hB.2.2, hS⟩)
theorem fin_Q {r : Option Nat} {M1 : Mem} {a : Array Value} {st0 : List Value} (hr : va_Run p l e R s m args below meth c H locs cells slots 0 0 (F0 m pc ls st0) rest (QQ G A ad r M1 a) A) (hw : Wd G A ad s.heap M H locs) (kk : ∀ (H1 : Heap) (locs1 : List Loc), Wd G A ad s.heap M1 H1 locs1 → W p l e R s m args below meth c H1 locs1 cells slots Q (F0 m (pc + 3) ls (va_rf (r.map ad) :: rest))) : W p l e R s m args below meth c H locs cells slots Q (F0 m pc ls st0) :=
  va_callq hr hw.2.2.2 (fun _ _ h => h) (fun _ h => h) (fun r' u t H1 locs1 ht hvm hp hB hz hk hS => by
    subst hp; subst ht
    exact kk _ _ ⟨hB.1, hB.2.1, hB.2.2, hS⟩)
theorem fin_T {r : Nat} {M1 : Mem} {a : Array Value} {st0 : List Value} (hr : va_Run p l e R s m args below meth c H locs cells slots 0 0 (F0 m pc ls st0) rest (QT G A ad r M1 a) A) (hw : Wd G A ad s.heap M H locs) (kk : ∀ (H1 : Heap) (locs1 : List Loc), Wd G A ad s.heap M1 H1 locs1 → W p l e R s m args below meth c H1 locs1 cells slots Q (F0 m (pc + 3) ls (.ref (G.2.2.2.2.1 r) :: rest))) : W p l e R s m args below meth c H locs cells slots Q (F0 m pc ls st0) :=
  va_callq hr hw.2.2.2 (fun _ _ h => h) (fun _ h => h) (fun r' u t H1 locs1 ht hvm hp hB hz hk hS => by
    subst hp; subst ht
    exact kk _ _ ⟨hB.1, hB.2.1, hB.2.2, hS⟩)
end SCall
end
