section
-- ===== PART A: goes FIRST, ahead of the names: the tables' words, and 'selects' of the private methods out of them =====
/-- a private method of a class that the tables say can be made, by its rows of tables_1 -/
def lw_okq (q : MethodName × Nat) : Prop := (q.1.cls ≠ "java/lang/invoke/MethodHandle" ∧ q.1.cls ≠ "java/lang/invoke/VarHandle") ∧ Cond.instantiable q.1.cls q.2 ∈ tables_1 ∧ Cond.privateMethod q.1 ∈ tables_1 ∧ Cond.instanceMethod q.1 ∈ tables_1
theorem lw_p0 : lw_okq (⟨"CakesToTheWatched", "refusalOfRow", "(I)I"⟩, 6) := ⟨⟨by decide +kernel, by decide +kernel⟩, List.mem_of_getElem? (i := 19) (by decide +kernel), List.mem_of_getElem? (i := 180) (by decide +kernel), List.mem_of_getElem? (i := 181) (by decide +kernel)⟩
theorem lw_p1 : lw_okq (⟨"CakesToTheWatched", "refusalUnlessHeld", "(II)I"⟩, 6) := ⟨⟨by decide +kernel, by decide +kernel⟩, List.mem_of_getElem? (i := 19) (by decide +kernel), List.mem_of_getElem? (i := 184) (by decide +kernel), List.mem_of_getElem? (i := 185) (by decide +kernel)⟩
theorem lw_p2 : lw_okq (⟨"CakesToTheWatched", "tellStatements", "(LCakesToTheWatched$Shelf;)I"⟩, 6) := ⟨⟨by decide +kernel, by decide +kernel⟩, List.mem_of_getElem? (i := 19) (by decide +kernel), List.mem_of_getElem? (i := 208) (by decide +kernel), List.mem_of_getElem? (i := 209) (by decide +kernel)⟩
theorem lw_p3 : lw_okq (⟨"CakesToTheWatched", "tellStatement", "(LCakesToTheWatched$Shelf;I)Z"⟩, 6) := ⟨⟨by decide +kernel, by decide +kernel⟩, List.mem_of_getElem? (i := 19) (by decide +kernel), List.mem_of_getElem? (i := 220) (by decide +kernel), List.mem_of_getElem? (i := 221) (by decide +kernel)⟩
theorem lw_p4 : lw_okq (⟨"CakesToTheWatched", "tellPerson", "(IIII)Z"⟩, 6) := ⟨⟨by decide +kernel, by decide +kernel⟩, List.mem_of_getElem? (i := 19) (by decide +kernel), List.mem_of_getElem? (i := 234) (by decide +kernel), List.mem_of_getElem? (i := 235) (by decide +kernel)⟩
theorem lw_p5 : lw_okq (⟨"CakesToTheWatched", "tellSlices", "(I)Z"⟩, 6) := ⟨⟨by decide +kernel, by decide +kernel⟩, List.mem_of_getElem? (i := 19) (by decide +kernel), List.mem_of_getElem? (i := 271) (by decide +kernel), List.mem_of_getElem? (i := 272) (by decide +kernel)⟩
theorem lw_p6 : lw_okq (⟨"CakesToTheWatched", "tellHunger", "(II)Z"⟩, 6) := ⟨⟨by decide +kernel, by decide +kernel⟩, List.mem_of_getElem? (i := 19) (by decide +kernel), List.mem_of_getElem? (i := 328) (by decide +kernel), List.mem_of_getElem? (i := 329) (by decide +kernel)⟩
theorem lw_p7 : lw_okq (⟨"CakesToTheWatched", "tellWish", "(II)Z"⟩, 6) := ⟨⟨by decide +kernel, by decide +kernel⟩, List.mem_of_getElem? (i := 19) (by decide +kernel), List.mem_of_getElem? (i := 333) (by decide +kernel), List.mem_of_getElem? (i := 334) (by decide +kernel)⟩
theorem lw_p8 : lw_okq (⟨"CakesToTheWatched", "refusalOfKind", "(I)I"⟩, 6) := ⟨⟨by decide +kernel, by decide +kernel⟩, List.mem_of_getElem? (i := 19) (by decide +kernel), List.mem_of_getElem? (i := 352) (by decide +kernel), List.mem_of_getElem? (i := 353) (by decide +kernel)⟩
theorem lw_p9 : lw_okq (⟨"CakesToTheWatched", "joysWithASecond", "(II)I"⟩, 6) := ⟨⟨by decide +kernel, by decide +kernel⟩, List.mem_of_getElem? (i := 19) (by decide +kernel), List.mem_of_getElem? (i := 405) (by decide +kernel), List.mem_of_getElem? (i := 406) (by decide +kernel)⟩
theorem lw_p10 : lw_okq (⟨"CakesToTheWatched$Pairing", "readJoys", "(LCakesToTheWatched$Fete;)V"⟩, 5) := ⟨⟨by decide +kernel, by decide +kernel⟩, List.mem_of_getElem? (i := 101) (by decide +kernel), List.mem_of_getElem? (i := 417) (by decide +kernel), List.mem_of_getElem? (i := 418) (by decide +kernel)⟩
theorem lw_p11 : lw_okq (⟨"CakesToTheWatched$Pairing", "mostOf", "(II)I"⟩, 5) := ⟨⟨by decide +kernel, by decide +kernel⟩, List.mem_of_getElem? (i := 101) (by decide +kernel), List.mem_of_getElem? (i := 424) (by decide +kernel), List.mem_of_getElem? (i := 425) (by decide +kernel)⟩
theorem lw_p12 : lw_okq (⟨"CakesToTheWatched$Pairing", "leastOf", "(I)I"⟩, 5) := ⟨⟨by decide +kernel, by decide +kernel⟩, List.mem_of_getElem? (i := 101) (by decide +kernel), List.mem_of_getElem? (i := 428) (by decide +kernel), List.mem_of_getElem? (i := 429) (by decide +kernel)⟩
theorem lw_p13 : lw_okq (⟨"CakesToTheWatched$Pairing", "joysIfPaired", "(IIII)I"⟩, 5) := ⟨⟨by decide +kernel, by decide +kernel⟩, List.mem_of_getElem? (i := 101) (by decide +kernel), List.mem_of_getElem? (i := 432) (by decide +kernel), List.mem_of_getElem? (i := 433) (by decide +kernel)⟩
theorem lw_p14 : lw_okq (⟨"CakesToTheWatched$Pairing", "choose", "(II)V"⟩, 5) := ⟨⟨by decide +kernel, by decide +kernel⟩, List.mem_of_getElem? (i := 101) (by decide +kernel), List.mem_of_getElem? (i := 437) (by decide +kernel), List.mem_of_getElem? (i := 438) (by decide +kernel)⟩
theorem lw_p15 : lw_okq (⟨"CakesToTheWatched$Pairing", "firstOther", "(IIIZ)I"⟩, 5) := ⟨⟨by decide +kernel, by decide +kernel⟩, List.mem_of_getElem? (i := 101) (by decide +kernel), List.mem_of_getElem? (i := 441) (by decide +kernel), List.mem_of_getElem? (i := 442) (by decide +kernel)⟩
def lw_privs_1 : List (MethodName × Nat) := [(⟨"CakesToTheWatched", "refusalOfRow", "(I)I"⟩, 6), (⟨"CakesToTheWatched", "refusalUnlessHeld", "(II)I"⟩, 6), (⟨"CakesToTheWatched", "tellStatements", "(LCakesToTheWatched$Shelf;)I"⟩, 6), (⟨"CakesToTheWatched", "tellStatement", "(LCakesToTheWatched$Shelf;I)Z"⟩, 6), (⟨"CakesToTheWatched", "tellPerson", "(IIII)Z"⟩, 6), (⟨"CakesToTheWatched", "tellSlices", "(I)Z"⟩, 6), (⟨"CakesToTheWatched", "tellHunger", "(II)Z"⟩, 6), (⟨"CakesToTheWatched", "tellWish", "(II)Z"⟩, 6), (⟨"CakesToTheWatched", "refusalOfKind", "(I)I"⟩, 6), (⟨"CakesToTheWatched", "joysWithASecond", "(II)I"⟩, 6), (⟨"CakesToTheWatched$Pairing", "readJoys", "(LCakesToTheWatched$Fete;)V"⟩, 5), (⟨"CakesToTheWatched$Pairing", "mostOf", "(II)I"⟩, 5), (⟨"CakesToTheWatched$Pairing", "leastOf", "(I)I"⟩, 5), (⟨"CakesToTheWatched$Pairing", "joysIfPaired", "(IIII)I"⟩, 5), (⟨"CakesToTheWatched$Pairing", "choose", "(II)V"⟩, 5), (⟨"CakesToTheWatched$Pairing", "firstOther", "(IIIZ)I"⟩, 5)]
theorem lw_r1 : ∀ q ∈ lw_privs_1, lw_okq q := List.forall_mem_cons.mpr ⟨lw_p0, List.forall_mem_cons.mpr ⟨lw_p1, List.forall_mem_cons.mpr ⟨lw_p2, List.forall_mem_cons.mpr ⟨lw_p3, List.forall_mem_cons.mpr ⟨lw_p4, List.forall_mem_cons.mpr ⟨lw_p5, List.forall_mem_cons.mpr ⟨lw_p6, List.forall_mem_cons.mpr ⟨lw_p7, List.forall_mem_cons.mpr ⟨lw_p8, List.forall_mem_cons.mpr ⟨lw_p9, List.forall_mem_cons.mpr ⟨lw_p10, List.forall_mem_cons.mpr ⟨lw_p11, List.forall_mem_cons.mpr ⟨lw_p12, List.forall_mem_cons.mpr ⟨lw_p13, List.forall_mem_cons.mpr ⟨lw_p14, List.forall_mem_cons.mpr ⟨lw_p15, fun _ h => absurd h List.not_mem_nil⟩⟩⟩⟩⟩⟩⟩⟩⟩⟩⟩⟩⟩⟩⟩⟩
theorem lw_p16 : lw_okq (⟨"CakesToTheWatched", "howManyEatAtAll", "()I"⟩, 6) := ⟨⟨by decide +kernel, by decide +kernel⟩, List.mem_of_getElem? (i := 19) (by decide +kernel), List.mem_of_getElem? (i := 453) (by decide +kernel), List.mem_of_getElem? (i := 454) (by decide +kernel)⟩
theorem lw_p17 : lw_okq (⟨"CakesToTheWatched", "whoIsLeft", "()I"⟩, 6) := ⟨⟨by decide +kernel, by decide +kernel⟩, List.mem_of_getElem? (i := 19) (by decide +kernel), List.mem_of_getElem? (i := 459) (by decide +kernel), List.mem_of_getElem? (i := 460) (by decide +kernel)⟩
theorem lw_p18 : lw_okq (⟨"CakesToTheWatched", "mostJoysWatchedBy", "(LCakesToTheWatched$Kind;I)I"⟩, 6) := ⟨⟨by decide +kernel, by decide +kernel⟩, List.mem_of_getElem? (i := 19) (by decide +kernel), List.mem_of_getElem? (i := 475) (by decide +kernel), List.mem_of_getElem? (i := 476) (by decide +kernel)⟩
theorem lw_p19 : lw_okq (⟨"CakesToTheWatched", "howManyBuy", "(I)I"⟩, 6) := ⟨⟨by decide +kernel, by decide +kernel⟩, List.mem_of_getElem? (i := 19) (by decide +kernel), List.mem_of_getElem? (i := 493) (by decide +kernel), List.mem_of_getElem? (i := 494) (by decide +kernel)⟩
theorem lw_p20 : lw_okq (⟨"CakesToTheWatched", "howManySell", "(I)I"⟩, 6) := ⟨⟨by decide +kernel, by decide +kernel⟩, List.mem_of_getElem? (i := 19) (by decide +kernel), List.mem_of_getElem? (i := 497) (by decide +kernel), List.mem_of_getElem? (i := 498) (by decide +kernel)⟩
theorem lw_p21 : lw_okq (⟨"CakesToTheWatched", "arePairsApart", "(LCakesToTheWatched$Shelf;)Z"⟩, 6) := ⟨⟨by decide +kernel, by decide +kernel⟩, List.mem_of_getElem? (i := 19) (by decide +kernel), List.mem_of_getElem? (i := 510) (by decide +kernel), List.mem_of_getElem? (i := 511) (by decide +kernel)⟩
theorem lw_p22 : lw_okq (⟨"CakesToTheWatched", "gainOfSwap", "(LCakesToTheWatched$Shelf;II)I"⟩, 6) := ⟨⟨by decide +kernel, by decide +kernel⟩, List.mem_of_getElem? (i := 19) (by decide +kernel), List.mem_of_getElem? (i := 514) (by decide +kernel), List.mem_of_getElem? (i := 515) (by decide +kernel)⟩
theorem lw_p23 : lw_okq (⟨"CakesToTheWatched", "shareOf", "(I)I"⟩, 6) := ⟨⟨by decide +kernel, by decide +kernel⟩, List.mem_of_getElem? (i := 19) (by decide +kernel), List.mem_of_getElem? (i := 540) (by decide +kernel), List.mem_of_getElem? (i := 541) (by decide +kernel)⟩
theorem lw_p24 : lw_okq (⟨"CakesToTheWatched", "canEatWatchedFromOutside", "(II)Z"⟩, 6) := ⟨⟨by decide +kernel, by decide +kernel⟩, List.mem_of_getElem? (i := 19) (by decide +kernel), List.mem_of_getElem? (i := 576) (by decide +kernel), List.mem_of_getElem? (i := 577) (by decide +kernel)⟩
theorem lw_p25 : lw_okq (⟨"java/lang/Throwable", "fillInStackTrace", "(I)Ljava/lang/Throwable;"⟩, 6) := ⟨⟨by decide +kernel, by decide +kernel⟩, List.mem_of_getElem? (i := 726) (by decide +kernel), List.mem_of_getElem? (i := 724) (by decide +kernel), List.mem_of_getElem? (i := 725) (by decide +kernel)⟩
theorem lw_p26 : lw_okq (⟨"CakesToTheWatchedModel", "wrongRow", "(II)I"⟩, 20) := ⟨⟨by decide +kernel, by decide +kernel⟩, List.mem_of_getElem? (i := 801) (by decide +kernel), List.mem_of_getElem? (i := 872) (by decide +kernel), List.mem_of_getElem? (i := 873) (by decide +kernel)⟩
theorem lw_p27 : lw_okq (⟨"CakesToTheWatchedModel", "readsStatement", "()Z"⟩, 20) := ⟨⟨by decide +kernel, by decide +kernel⟩, List.mem_of_getElem? (i := 801) (by decide +kernel), List.mem_of_getElem? (i := 882) (by decide +kernel), List.mem_of_getElem? (i := 883) (by decide +kernel)⟩
theorem lw_p28 : lw_okq (⟨"CakesToTheWatchedModel", "here", "()I"⟩, 20) := ⟨⟨by decide +kernel, by decide +kernel⟩, List.mem_of_getElem? (i := 801) (by decide +kernel), List.mem_of_getElem? (i := 886) (by decide +kernel), List.mem_of_getElem? (i := 887) (by decide +kernel)⟩
theorem lw_p29 : lw_okq (⟨"CakesToTheWatchedModel", "readsNumber", "(II)Z"⟩, 20) := ⟨⟨by decide +kernel, by decide +kernel⟩, List.mem_of_getElem? (i := 801) (by decide +kernel), List.mem_of_getElem? (i := 890) (by decide +kernel), List.mem_of_getElem? (i := 891) (by decide +kernel)⟩
theorem lw_p30 : lw_okq (⟨"CakesToTheWatchedModel", "isDone", "(I)Z"⟩, 20) := ⟨⟨by decide +kernel, by decide +kernel⟩, List.mem_of_getElem? (i := 801) (by decide +kernel), List.mem_of_getElem? (i := 897) (by decide +kernel), List.mem_of_getElem? (i := 898) (by decide +kernel)⟩
theorem lw_p31 : lw_okq (⟨"CakesToTheWatchedModel", "isPerson", "(I)Z"⟩, 20) := ⟨⟨by decide +kernel, by decide +kernel⟩, List.mem_of_getElem? (i := 801) (by decide +kernel), List.mem_of_getElem? (i := 907) (by decide +kernel), List.mem_of_getElem? (i := 908) (by decide +kernel)⟩
def lw_privs_2 : List (MethodName × Nat) := [(⟨"CakesToTheWatched", "howManyEatAtAll", "()I"⟩, 6), (⟨"CakesToTheWatched", "whoIsLeft", "()I"⟩, 6), (⟨"CakesToTheWatched", "mostJoysWatchedBy", "(LCakesToTheWatched$Kind;I)I"⟩, 6), (⟨"CakesToTheWatched", "howManyBuy", "(I)I"⟩, 6), (⟨"CakesToTheWatched", "howManySell", "(I)I"⟩, 6), (⟨"CakesToTheWatched", "arePairsApart", "(LCakesToTheWatched$Shelf;)Z"⟩, 6), (⟨"CakesToTheWatched", "gainOfSwap", "(LCakesToTheWatched$Shelf;II)I"⟩, 6), (⟨"CakesToTheWatched", "shareOf", "(I)I"⟩, 6), (⟨"CakesToTheWatched", "canEatWatchedFromOutside", "(II)Z"⟩, 6), (⟨"java/lang/Throwable", "fillInStackTrace", "(I)Ljava/lang/Throwable;"⟩, 6), (⟨"CakesToTheWatchedModel", "wrongRow", "(II)I"⟩, 20), (⟨"CakesToTheWatchedModel", "readsStatement", "()Z"⟩, 20), (⟨"CakesToTheWatchedModel", "here", "()I"⟩, 20), (⟨"CakesToTheWatchedModel", "readsNumber", "(II)Z"⟩, 20), (⟨"CakesToTheWatchedModel", "isDone", "(I)Z"⟩, 20), (⟨"CakesToTheWatchedModel", "isPerson", "(I)Z"⟩, 20)]
theorem lw_r2 : ∀ q ∈ lw_privs_2, lw_okq q := List.forall_mem_cons.mpr ⟨lw_p16, List.forall_mem_cons.mpr ⟨lw_p17, List.forall_mem_cons.mpr ⟨lw_p18, List.forall_mem_cons.mpr ⟨lw_p19, List.forall_mem_cons.mpr ⟨lw_p20, List.forall_mem_cons.mpr ⟨lw_p21, List.forall_mem_cons.mpr ⟨lw_p22, List.forall_mem_cons.mpr ⟨lw_p23, List.forall_mem_cons.mpr ⟨lw_p24, List.forall_mem_cons.mpr ⟨lw_p25, List.forall_mem_cons.mpr ⟨lw_p26, List.forall_mem_cons.mpr ⟨lw_p27, List.forall_mem_cons.mpr ⟨lw_p28, List.forall_mem_cons.mpr ⟨lw_p29, List.forall_mem_cons.mpr ⟨lw_p30, List.forall_mem_cons.mpr ⟨lw_p31, fun _ h => absurd h List.not_mem_nil⟩⟩⟩⟩⟩⟩⟩⟩⟩⟩⟩⟩⟩⟩⟩⟩
theorem lw_p32 : lw_okq (⟨"CakesToTheWatchedModel", "wrongKept", "(I)I"⟩, 20) := ⟨⟨by decide +kernel, by decide +kernel⟩, List.mem_of_getElem? (i := 801) (by decide +kernel), List.mem_of_getElem? (i := 955) (by decide +kernel), List.mem_of_getElem? (i := 956) (by decide +kernel)⟩
theorem lw_p33 : lw_okq (⟨"CakesToTheWatchedModel", "wrongTurn", "(II)I"⟩, 20) := ⟨⟨by decide +kernel, by decide +kernel⟩, List.mem_of_getElem? (i := 801) (by decide +kernel), List.mem_of_getElem? (i := 971) (by decide +kernel), List.mem_of_getElem? (i := 972) (by decide +kernel)⟩
theorem lw_p34 : lw_okq (⟨"CakesToTheWatchedModel", "pairsFrom", "(IIII)V"⟩, 20) := ⟨⟨by decide +kernel, by decide +kernel⟩, List.mem_of_getElem? (i := 801) (by decide +kernel), List.mem_of_getElem? (i := 1005) (by decide +kernel), List.mem_of_getElem? (i := 1006) (by decide +kernel)⟩
theorem lw_p35 : lw_okq (⟨"CakesToTheWatchedModel", "buyers", "(I)I"⟩, 20) := ⟨⟨by decide +kernel, by decide +kernel⟩, List.mem_of_getElem? (i := 801) (by decide +kernel), List.mem_of_getElem? (i := 1033) (by decide +kernel), List.mem_of_getElem? (i := 1034) (by decide +kernel)⟩
theorem lw_p36 : lw_okq (⟨"CakesToTheWatchedModel", "sellers", "(I)I"⟩, 20) := ⟨⟨by decide +kernel, by decide +kernel⟩, List.mem_of_getElem? (i := 801) (by decide +kernel), List.mem_of_getElem? (i := 1037) (by decide +kernel), List.mem_of_getElem? (i := 1038) (by decide +kernel)⟩
theorem lw_p37 : lw_okq (⟨"CakesToTheWatchedModel", "wrongPairs", "(I)I"⟩, 20) := ⟨⟨by decide +kernel, by decide +kernel⟩, List.mem_of_getElem? (i := 801) (by decide +kernel), List.mem_of_getElem? (i := 1049) (by decide +kernel), List.mem_of_getElem? (i := 1050) (by decide +kernel)⟩
theorem lw_p38 : lw_okq (⟨"CakesToTheWatchedModel", "partOfSlices", "(I)I"⟩, 20) := ⟨⟨by decide +kernel, by decide +kernel⟩, List.mem_of_getElem? (i := 801) (by decide +kernel), List.mem_of_getElem? (i := 1068) (by decide +kernel), List.mem_of_getElem? (i := 1069) (by decide +kernel)⟩
theorem lw_p39 : lw_okq (⟨"CakesToTheWatchedModel", "hungerAll", "()I"⟩, 20) := ⟨⟨by decide +kernel, by decide +kernel⟩, List.mem_of_getElem? (i := 801) (by decide +kernel), List.mem_of_getElem? (i := 1072) (by decide +kernel), List.mem_of_getElem? (i := 1073) (by decide +kernel)⟩
theorem lw_p40 : lw_okq (⟨"CakesToTheWatchedModel", "drawn", "(I)I"⟩, 20) := ⟨⟨by decide +kernel, by decide +kernel⟩, List.mem_of_getElem? (i := 801) (by decide +kernel), List.mem_of_getElem? (i := 1115) (by decide +kernel), List.mem_of_getElem? (i := 1116) (by decide +kernel)⟩
def lw_privs_3 : List (MethodName × Nat) := [(⟨"CakesToTheWatchedModel", "wrongKept", "(I)I"⟩, 20), (⟨"CakesToTheWatchedModel", "wrongTurn", "(II)I"⟩, 20), (⟨"CakesToTheWatchedModel", "pairsFrom", "(IIII)V"⟩, 20), (⟨"CakesToTheWatchedModel", "buyers", "(I)I"⟩, 20), (⟨"CakesToTheWatchedModel", "sellers", "(I)I"⟩, 20), (⟨"CakesToTheWatchedModel", "wrongPairs", "(I)I"⟩, 20), (⟨"CakesToTheWatchedModel", "partOfSlices", "(I)I"⟩, 20), (⟨"CakesToTheWatchedModel", "hungerAll", "()I"⟩, 20), (⟨"CakesToTheWatchedModel", "drawn", "(I)I"⟩, 20)]
theorem lw_r3 : ∀ q ∈ lw_privs_3, lw_okq q := List.forall_mem_cons.mpr ⟨lw_p32, List.forall_mem_cons.mpr ⟨lw_p33, List.forall_mem_cons.mpr ⟨lw_p34, List.forall_mem_cons.mpr ⟨lw_p35, List.forall_mem_cons.mpr ⟨lw_p36, List.forall_mem_cons.mpr ⟨lw_p37, List.forall_mem_cons.mpr ⟨lw_p38, List.forall_mem_cons.mpr ⟨lw_p39, List.forall_mem_cons.mpr ⟨lw_p40, fun _ h => absurd h List.not_mem_nil⟩⟩⟩⟩⟩⟩⟩⟩⟩
def lw_privs : List (MethodName × Nat) := lw_privs_1 ++ (lw_privs_2 ++ (lw_privs_3))
def lw_tbl : List Cond := k2_sels lw_privs ++ tables_1
theorem lw_privs_ok : ∀ q ∈ lw_privs, lw_okq q := by
  show ∀ q ∈ lw_privs_1 ++ (lw_privs_2 ++ (lw_privs_3)), lw_okq q
  exact List.forall_mem_append.mpr ⟨lw_r1, List.forall_mem_append.mpr ⟨lw_r2, lw_r3⟩⟩
end
section
/-! ===== BEGIN words of one list among another's, by their places ===== -/
theorem goodIn_r {big : List Cond} (ws : List Cond) (ps : List Nat) (hp : ws = ps.filterMap (fun i => big[i]?)) (h : ws.all goodWord = true) : GoodIn big ws := by
  intro w hw
  have h1 := List.all_eq_true.mp h w hw
  rw [hp] at hw
  obtain ⟨i, -, hi⟩ := List.mem_filterMap.mp hw
  have hm : w ∈ big := by first | exact List.mem_of_getElem? hi | exact List.getElem?_mem hi
  exact ⟨hm, good_of_word h1⟩
theorem goodIn_app {big a b : List Cond} (ha : GoodIn big a) (hb : GoodIn big b) : GoodIn big (a ++ b) := fun w h => (List.mem_append.mp h).elim (ha w) (hb w)
theorem goodIn_ca {big a b : List Cond} {c : Cond} (ha : GoodIn big (c :: a)) (hb : GoodIn big b) : GoodIn big (c :: (a ++ b)) := fun w h => (List.mem_cons.mp h).elim (fun e => ha w (List.mem_cons.mpr (Or.inl e))) (fun h => (List.mem_append.mp h).elim (fun h => ha w (List.mem_cons.mpr (Or.inr h))) (hb w))
theorem goodIn_sub {big ws : List Cond} (hm : ∀ w ∈ ws, w ∈ big) (h : ws.all goodWord = true) : GoodIn big ws := fun w hw => ⟨hm w hw, good_of_word (List.all_eq_true.mp h w hw)⟩
/-! ===== END ===== -/

/-! ===== BEGIN exceptions that leave a method, and their catching by the caller (launches without stack traces) ===== -/
section VXA
/-! The laws vx_back, vx_callV, vx_callS, vx_callSW, vx_throw0, vx_throwS follow proofs of the library, with one case more: JvmDerived/Free/Laws.lean (Back.of_free), Shelf42/LK1.lean (callV, callS), Shelf/KitTraced.lean (throwNew0V, throwNewS). -/
/-- where a method has thrown q: the class by its name, the cell, what was written, the world -/
def vx_T (XC : String → State → State → Prop) (st : State) (q : Addr) (t : State) (mc ms : Nat) (free : Addr → Prop) : Prop :=
  ∃ (E : String) (ce : Cell) (L : List Loc), XC E st t ∧ t.heap[q]? = some ce ∧ ce.vm = .none ∧ st.vm.findClass E = some ce.cls ∧ st.WarmedH t.vm ∧ st.sameButNew ({ t with vm := st.vm } : State) L mc ms ∧ ∀ z ∈ L, free z.base
def vx_Q (Qc : Array Value → State → Outcome → State → Prop) (XC : String → State → State → Prop) (mc ms : Nat) (free : Addr → Prop) : Array Value → State → Outcome → State → Prop := fun a st o t =>
  (Qc a st o t ∧ ∃ L, FrameEnd st o t L mc ms ∧ ∀ q ∈ L, free q.base) ∨ ∃ q, o = .threw q ∧ vx_T XC st q t mc ms free
/-- a callee that returns or throws -/
def vx_Met (l : Launch) (y : MethodName) (ws : List Cond) (rm : Room) (Pc : Array Value → State → Prop) (Qc : Array Value → State → Outcome → State → Prop) (XC : String → State → State → Prop) (mc ms : Nat) (free : Addr → Prop) : Prop :=
  MetFree l y (headSpec ws rm) Pc (fun _ _ _ _ _ => True) (vx_Q Qc XC mc ms free)
def vx_Post (XC : String → State → State → Prop) (mc ms : Nat) (free : Addr → Prop) : Pt → Array Value → Addr → Pt → Prop := fun A a q B =>
  ∃ (g : JFrame) (mk : MethodId) (t : State) (L : List Loc) (E : String) (ce : Cell), B.U.heap = t.heap ∧ B.U.vm = t.vm ∧ XC E (A.U.calling g mk a) t ∧ t.heap[q]? = some ce ∧ ce.vm = .none ∧ A.U.vm.findClass E = some ce.cls ∧ B.locs = A.locs ++ L ∧ (∀ z ∈ L, free z.base) ∧ B.cells = A.cells + mc ∧ B.slots = A.slots + ms
def vx_Back (l : Launch) (R : Room) (p : Program) (e : Env) (below : List Frame) (s : State) (sargs : Array Value) (y : MethodName) (len W9 : Nat)
    (Pre : Pt → Array Value → Prop) (Post : Pt → Array Value → Option Value → Pt → Prop) (PostX : Pt → Array Value → Addr → Pt → Prop) : Prop :=
  ∀ (m : MethodId) (meth : Method) (c : Code) (A : Pt) (g : JFrame) (ig : Instr) (mk : MethodId) (a : Array Value),
    Stand p l e R s m sargs below meth c A.U A.locs A.cells A.slots → g.method = m → g.locals.size = c.maxLocals → decode c.code g.pc = .ok (ig, len) →
    2 * g.monitorRoom + (g.stack.map fun v => v.category).sum ≤ W9 → A.U.methodNamed? y = some mk → Pre A a →
    (∃ (v : Option Value) (B : Pt), Stand p l e R s m sargs below meth c B.U B.locs B.cells B.slots ∧ Post A a v B ∧
      Steps p.tables e below (doInvoke e (A.U.setTop g) [] mk a).1 (B.U.setTop { g with pc := g.pc + len, stack := v.toList ++ g.stack })) ∨
    (∃ (q : Addr) (B : Pt), Stand p l e R s m sargs below meth c B.U B.locs B.cells B.slots ∧ PostX A a q B ∧
      Steps p.tables e below (doInvoke e (A.U.setTop g) [] mk a).1 ((B.U.setTop g).pushFrame (.throwing q)))
section Payer
variable {l : Launch} {R : Room} {p : Program} {e : Env} {below : List Frame} {s : State} {sargs : Array Value} {y : MethodName} {len W9 : Nat}
theorem vx_back {ws : List Cond} {rm : Room} {Pc : Array Value → State → Prop} {Qc : Array Value → State → Outcome → State → Prop} {XC : String → State → State → Prop} {mc ms : Nat} {free : Addr → Prop} {bytes : ByteArray} {maxL : Nat} {ret : Option FieldType}
    (hM : vx_Met l y ws rm Pc Qc XC mc ms free) (hblind : FrameBlind Pc) (hrc : rm.cells = mc) (hrs : rm.slots = ms)
    (hframes : rm.frames + 1 ≤ R.frames) (hlocals : W9 + (maxL + 11) + rm.locals ≤ R.locals)
    (hws : ∀ w ∈ ws, ∀ a' U, s.WarmedH U.vm → w.before a' U = true) (hcode : Cond.code y bytes maxL ret ∈ ws) (hinit : ∀ a' U, s.WarmedH U.vm → (Cond.initialized y.cls).before a' U = true) :
    vx_Back l R p e below s sargs y len W9 (PreOf R mc ms Pc) (PostOf Qc mc ms free) (vx_Post XC mc ms free) := by
  intro m meth c A g ig mk a X hg hsize hdg hW hn hp
  have h1 : (headSpec ws rm).pre.before a A.U = true := atoms_intro fun w hw => hws w hw _ _ X.warmed
  have h2 : (Cond.code y bytes maxL ret).before a A.U = true := hws _ hcode _ _ X.warmed
  have h3 : (Cond.initialized y.cls).before a A.U = true := hinit _ _ X.warmed
  have h4 : A.cells + (headSpec ws rm).room.cells ≤ R.cells := by rw [show (headSpec ws rm).room.cells = mc from hrc]; exact hp.1
  have h5 : A.slots + (headSpec ws rm).room.slots ≤ R.slots := by rw [show (headSpec ws rm).room.slots = ms from hrs]; exact hp.2.1
  have hPc : Pc a (A.U.calling g mk a) := hblind _ _ _ _ hp.2.2
  obtain ⟨U, Ls, c0, s0⟩ := A
  dsimp only [Pt.U, Pt.locs, Pt.cells, Pt.slots] at h1 h2 h3 h4 h5 X hn hPc ⊢
  obtain ⟨methY, cY, hmY, hcY, -, hlY, -, -, -, -⟩ := Cond.code_spec hn h2
  obtain ⟨kY, hkY, -⟩ := className_of_methodNamed hn
  have hinitY : kY.init = .initialized := Cond.initialized_spec (findClass_of_methodNamed hn) hkY h3
  have h : At U g.method c below := by rw [hg]; exact X.here
  have hlocals9 : W9 + (maxL + 11) + (headSpec ws rm).room.locals ≤ R.locals := hlocals
  have happ : (headSpec ws rm).appliesLoose y e.platform (U.calling g mk a) = true :=
    Spec.appliesLoose_calling (g := g) h hdg hn hkY hinitY
      (X.room_calling (g := g) (R' := (headSpec ws rm).room) hsize hmY hcY hframes (by rw [hlY]; omega) h4 h5) h1
  obtain ⟨mid, hmid⟩ := h.above
  have hfr : (U.setTop g).frames = (.java g :: mid) ++ below := by rw [State.frames_setTop' g h.top, hmid]; rfl
  obtain ⟨o, s₂, hsteps, -, hend, hq⟩ := Steps.callFree hM p X.admits X.cas X.clock (acts := []) hfr happ hPc trivial
  have hq' : vx_Q Qc XC mc ms free a (U.calling g mk a) o s₂ := hq
  rw [State.frames_setTop' g h.top] at hend
  obtain ⟨g₀, hg0⟩ := Option.isSome_iff_exists.mp h.top
  obtain ⟨r, hr⟩ := State.topJava?_eq_some.mp hg0
  have hr' : (({ U with heap := s₂.heap, slotsUsed := s₂.slotsUsed } : State).setVm s₂.vm).frames = .java g₀ :: r := hr
  rcases hq' with ⟨hqc, L, hfe, hL⟩ | ⟨q, rfl, E, ce, L, hx, hce, hcv, hcl, hW₂, hsm, hL⟩
  · obtain ⟨⟨v, rfl⟩, hW₂, e2, q2, q3, q4, q5, q6⟩ := id hfe
    have e3 : s₂ = ({ (U.calling g mk a).setFrames s₂.frames with heap := s₂.heap, slotsUsed := s₂.slotsUsed } : State).setVm s₂.vm := by
      have : s₂ = ({ s₂ with vm := (U.calling g mk a).vm } : State).setVm s₂.vm := rfl
      rw [e2] at this
      exact this
    obtain ⟨c₂, i₂, len₂, hc₂, hd₂, hf₂⟩ := hend
    have hW' : U.WarmedH s₂.vm := hW₂
    have hcc : c₂ = c := by
      have h1 : s₂.code? g.method = U.code? g.method := by
        rw [State.code?_eq, State.code?_eq, hW'.alike.method?]
      exact Option.some.inj (hc₂.symm.trans (h1.trans h.code))
    subst hcc
    have hlen : len₂ = len := by rw [hdg] at hd₂; cases hd₂; rfl
    subst hlen
    have hs₂ : s₂ = (({ U with heap := s₂.heap, slotsUsed := s₂.slotsUsed } : State).setVm s₂.vm).setTop { g with pc := g.pc + len₂, stack := v.toList ++ g.stack } := by
      refine e3.trans ?_
      rw [hf₂, State.calling_eq h.top, State.setFrames_setFrames, State.setTop_of_frames _ hr', hr]
      rfl
    have hsame : U.sameButNew ({ U with heap := s₂.heap, slotsUsed := s₂.slotsUsed } : State) L mc ms := by
      refine ⟨?_, q2, q3, q4, q5, q6⟩
      obtain ⟨t, ht, -⟩ := State.frames_cons hr
      show ({ U with heap := s₂.heap, slotsUsed := s₂.slotsUsed } : State) = { U.setFrames U.frames with heap := s₂.heap, slotsUsed := s₂.slotsUsed }
      rw [State.setFrames_self ht]
    subst hg
    refine Or.inl ⟨v, ⟨(({ U with heap := s₂.heap, slotsUsed := s₂.slotsUsed } : State).setVm s₂.vm), Ls ++ L, c0 + mc, s0 + ms⟩,
      ⟨X.admits, X.cas, X.clock, X.frames, X.room, X.hears, X.method, X.code, (X.here.setHeapUsed s₂.heap s₂.slotsUsed).setVm hW'.alike, X.tail, State.WarmedH.trans X.warmed hW', X.limits, X.bytes, X.same.trans (hsame.setVm s.vm)⟩,
      ⟨g, mk, s₂, L, rfl, rfl, hqc, rfl, hL, rfl, rfl⟩, ?_⟩
    show Steps p.tables e below _ ((({ U with heap := s₂.heap, slotsUsed := s₂.slotsUsed } : State).setVm s₂.vm).setTop { g with pc := g.pc + len₂, stack := v.toList ++ g.stack })
    rw [← hs₂]
    exact hsteps
  · obtain ⟨e2, q2, q3, q4, q5, q6⟩ := id hsm
    have e3 : s₂ = ({ (U.calling g mk a).setFrames s₂.frames with heap := s₂.heap, slotsUsed := s₂.slotsUsed } : State).setVm s₂.vm := by
      have : s₂ = ({ s₂ with vm := (U.calling g mk a).vm } : State).setVm s₂.vm := rfl
      rw [e2] at this
      exact this
    have hf₂ : s₂.frames = .throwing q :: .java g :: U.frames.tail := hend
    have hW' : U.WarmedH s₂.vm := hW₂
    have hs₂ : s₂ = ((({ U with heap := s₂.heap, slotsUsed := s₂.slotsUsed } : State).setVm s₂.vm).setTop g).pushFrame (.throwing q) := by
      refine e3.trans ?_
      rw [hf₂, State.calling_eq h.top, State.setFrames_setFrames, State.pushFrame, State.frames_setTop _ hr', State.setTop_of_frames _ hr', State.setFrames_setFrames, hr]
      rfl
    have hsame : U.sameButNew ({ U with heap := s₂.heap, slotsUsed := s₂.slotsUsed } : State) L mc ms := by
      refine ⟨?_, q2, q3, q4, q5, q6⟩
      obtain ⟨t, ht, -⟩ := State.frames_cons hr
      show ({ U with heap := s₂.heap, slotsUsed := s₂.slotsUsed } : State) = { U.setFrames U.frames with heap := s₂.heap, slotsUsed := s₂.slotsUsed }
      rw [State.setFrames_self ht]
    subst hg
    refine Or.inr ⟨q, ⟨(({ U with heap := s₂.heap, slotsUsed := s₂.slotsUsed } : State).setVm s₂.vm), Ls ++ L, c0 + mc, s0 + ms⟩,
      ⟨X.admits, X.cas, X.clock, X.frames, X.room, X.hears, X.method, X.code, (X.here.setHeapUsed s₂.heap s₂.slotsUsed).setVm hW'.alike, X.tail, State.WarmedH.trans X.warmed hW', X.limits, X.bytes, X.same.trans (hsame.setVm s.vm)⟩,
      ⟨g, mk, s₂, L, E, ce, rfl, rfl, hx, hce, hcv, hcl, rfl, hL, rfl, rfl⟩, ?_⟩
    show Steps p.tables e below _ (((({ U with heap := s₂.heap, slotsUsed := s₂.slotsUsed } : State).setVm s₂.vm).setTop g).pushFrame (.throwing q))
    rw [← hs₂]
    exact hsteps
end Payer
section Calls
variable {p : Program} {l : Launch} {e : Env} {R : Room} {s : State} {m : MethodId} {args : Array Value} {below : List Frame} {meth : Method} {c : Code} {T : State} {locs : List Loc} {cells slots : Nat}
theorem vx_callV (X : Stand p l e R s m args below meth c T locs cells slots) (hexec : p.tables.exec = Jvm.exec) {own C : String} {index : Nat} {y : MethodName} {bytes : ByteArray} {maxL : Nat} {ret : Option FieldType}
    (hown : s.vm.findClass own = some m.cls) (hlink : (Cond.methodLink own index y).before args s = true) (hinst : (Cond.instanceMethod y).before args s = true) (hsel : (Cond.selects C y y).before args s = true)
    (hcode : (Cond.code y bytes maxL ret).before args s = true) (hy : y.cls ≠ "java/lang/invoke/MethodHandle" ∧ y.cls ≠ "java/lang/invoke/VarHandle")
    {W9 : Nat} {Pre : Pt → Array Value → Prop} {Post : Pt → Array Value → Option Value → Pt → Prop} {PostX : Pt → Array Value → Addr → Pt → Prop} (hK : vx_Back l R p e below s args y 3 W9 Pre Post PostX)
    {b : Addr} {cellB : Cell} (hcell : T.heap[b]? = some cellB) (hobj : cellB.vm.isStatics = false) (hcls : s.vm.findClass C = some cellB.cls)
    {g : JFrame} (hg : g.method = m) (hsize : g.locals.size = c.maxLocals) {argsL rest : List Value} (hlen : ∀ sig, parseMethodDescriptor y.desc = some sig → argsL.length = sig.parameters.length)
    (hstack : g.stack = argsL.reverse ++ .ref b :: rest) (hW : 2 * g.monitorRoom + (rest.map fun v => v.category).sum ≤ W9) (hdg : decode c.code g.pc = .ok (.invokevirtual index, 3))
    (hpre : ∀ vm₁, s.WarmedH vm₁ → Pre ⟨T.setVm vm₁, locs, cells, slots⟩ (Value.ref b :: argsL).toArray) :
    (∃ (v : Option Value) (vm₁ : Vm) (B : Pt), s.WarmedH vm₁ ∧ Stand p l e R s m args below meth c B.U B.locs B.cells B.slots ∧ Post ⟨T.setVm vm₁, locs, cells, slots⟩ (Value.ref b :: argsL).toArray v B ∧
      ∀ target, Steps p.tables e below (B.U.setTop { g with pc := g.pc + 3, stack := v.toList ++ rest }) target → Steps p.tables e below (T.setTop g) target) ∨
    (∃ (q : Addr) (vm₁ : Vm) (B : Pt), s.WarmedH vm₁ ∧ Stand p l e R s m args below meth c B.U B.locs B.cells B.slots ∧ PostX ⟨T.setVm vm₁, locs, cells, slots⟩ (Value.ref b :: argsL).toArray q B ∧
      Steps p.tables e below (T.setTop g) ((B.U.setTop { g with stack := rest }).pushFrame (.throwing q))) := by
  obtain ⟨mk, methM, hnamed, hmethM, hstM, habM⟩ := Cond.instanceMethod_spec hinst
  obtain ⟨methM', cM, hmethM', -, -, -, -, -, -, hsigM⟩ := Cond.code_spec hnamed hcode
  cases hmethM.symm.trans hmethM'
  obtain ⟨c2, r2, m2, q1, q2, q3, q4, kP, hkP, hkPi⟩ := Cond.selects_spec hsel
  cases hcls.symm.trans q1
  cases (State.methodFound?_of_named hnamed hy).symm.trans q2
  cases hnamed.symm.trans q3
  have hselP : selectMethod e.platform s.vm cellB.cls mk = .method mk := by rw [Launch.admits_selectMethod X.admits]; exact q4
  obtain ⟨vm₁, X₁, hstep₁⟩ := X.invokevirtual hexec hown hlink hnamed hmethM hstM hkP hkPi hy (a := b) (cell := cellB) hcell
    (fun z h => by rw [h] at hobj; cases hobj) hselP hmethM habM hkP hkPi (g := g) hg (argsL := argsL) (rest := rest) (hlen _ hsigM) hstack hdg
  rcases hK m meth c ⟨T.setVm vm₁, locs, cells, slots⟩ { g with stack := rest } (.invokevirtual index) mk (Value.ref b :: argsL).toArray X₁ hg hsize hdg hW (X₁.named hnamed) (hpre vm₁ X₁.warmed) with ⟨v, B, X', hpost, hsteps⟩ | ⟨q, B, X', hpost, hsteps⟩
  · exact Or.inl ⟨v, vm₁, B, X₁.warmed, X', hpost, fun target h => hstep₁ _ fun acts => by rw [doInvoke_state]; exact hsteps.trans h⟩
  · exact Or.inr ⟨q, vm₁, B, X₁.warmed, X', hpost, hstep₁ _ fun acts => by rw [doInvoke_state]; exact hsteps⟩
theorem vx_callS (X : Stand p l e R s m args below meth c T locs cells slots) (hexec : p.tables.exec = Jvm.exec) {own : String} {index : Nat} {y : MethodName} {bytes : ByteArray} {maxL : Nat} {ret : Option FieldType}
    (hown : s.vm.findClass own = some m.cls) (hlink : (Cond.methodLink own index y).before args s = true) (hstat : (Cond.static y).before args s = true) (hinit : (Cond.initialized y.cls).before args s = true)
    (hcode : (Cond.code y bytes maxL ret).before args s = true) (hy : y.cls ≠ "java/lang/invoke/MethodHandle" ∧ y.cls ≠ "java/lang/invoke/VarHandle")
    {W9 : Nat} {Pre : Pt → Array Value → Prop} {Post : Pt → Array Value → Option Value → Pt → Prop} {PostX : Pt → Array Value → Addr → Pt → Prop} (hK : vx_Back l R p e below s args y 3 W9 Pre Post PostX)
    {g : JFrame} (hg : g.method = m) (hsize : g.locals.size = c.maxLocals) {argsL rest : List Value} (hlen : ∀ sig, parseMethodDescriptor y.desc = some sig → argsL.length = sig.parameters.length)
    (hstack : g.stack = argsL.reverse ++ rest) (hW : 2 * g.monitorRoom + (rest.map fun v => v.category).sum ≤ W9) (hdg : decode c.code g.pc = .ok (.invokestatic index, 3))
    (hpre : ∀ vm₁, s.WarmedH vm₁ → Pre ⟨T.setVm vm₁, locs, cells, slots⟩ argsL.toArray) :
    (∃ (v : Option Value) (vm₁ : Vm) (B : Pt), s.WarmedH vm₁ ∧ Stand p l e R s m args below meth c B.U B.locs B.cells B.slots ∧ Post ⟨T.setVm vm₁, locs, cells, slots⟩ argsL.toArray v B ∧
      ∀ target, Steps p.tables e below (B.U.setTop { g with pc := g.pc + 3, stack := v.toList ++ rest }) target → Steps p.tables e below (T.setTop g) target) ∨
    (∃ (q : Addr) (vm₁ : Vm) (B : Pt), s.WarmedH vm₁ ∧ Stand p l e R s m args below meth c B.U B.locs B.cells B.slots ∧ PostX ⟨T.setVm vm₁, locs, cells, slots⟩ argsL.toArray q B ∧
      Steps p.tables e below (T.setTop g) ((B.U.setTop { g with stack := rest }).pushFrame (.throwing q))) := by
  obtain ⟨mk, hnamed⟩ := Cond.code_named hcode
  obtain ⟨methM, cM, hmethM, -, -, -, -, -, -, hsigM⟩ := Cond.code_spec hnamed hcode
  have hstatic : methM.isStatic = true := Cond.static_spec hnamed hmethM hstat
  obtain ⟨kP, hkP, -⟩ := className_of_methodNamed hnamed
  have hinitP : kP.init = .initialized := Cond.initialized_spec (findClass_of_methodNamed hnamed) hkP hinit
  obtain ⟨vm₁, X₁, hstep₁⟩ := X.invokestatic hexec hown hlink hnamed hmethM hstatic hkP hinitP hy (g := g) hg (argsL := argsL) (rest := rest) (hlen _ hsigM) hstack hdg
  rcases hK m meth c ⟨T.setVm vm₁, locs, cells, slots⟩ { g with stack := rest } (.invokestatic index) mk argsL.toArray X₁ hg hsize hdg hW (X₁.named hnamed) (hpre vm₁ X₁.warmed) with ⟨v, B, X', hpost, hsteps⟩ | ⟨q, B, X', hpost, hsteps⟩
  · exact Or.inl ⟨v, vm₁, B, X₁.warmed, X', hpost, fun target h => hstep₁ _ fun acts => by rw [doInvoke_state]; exact hsteps.trans h⟩
  · exact Or.inr ⟨q, vm₁, B, X₁.warmed, X', hpost, hstep₁ _ fun acts => by rw [doInvoke_state]; exact hsteps⟩
end Calls
theorem vx_cls {s : State} {T : State} {vm₁ : Vm} {E : String} {k : ClassId} (hW : s.WarmedH vm₁) (h : (T.setVm vm₁).vm.findClass E = some k) : s.vm.findClass E = some k := by
  have h1 : vm₁.findClass E = some k := h
  rw [hW.alike.findClass] at h1
  exact h1
/-- the method's frame g, with q thrown over it -/
def vx_W (p : Program) (l : Launch) (e : Env) (R : Room) (s : State) (m : MethodId) (args : Array Value) (below : List Frame) (meth : Method) (c : Code) (H : Heap) (locs : List Loc) (cells slots : Nat) (Q : State → Prop) (g : JFrame) (q : Addr) : Prop :=
  ∀ T : State, T.heap = H → Stand p l e R s m args below meth c T locs cells slots → ∃ t, Steps p.tables e below ((T.setTop g).pushFrame (.throwing q)) t ∧ Q t
def vx_Run (p : Program) (l : Launch) (e : Env) (R : Room) (s : State) (m : MethodId) (args : Array Value) (below : List Frame) (meth : Method) (c : Code) (H : Heap) (locs : List Loc) (cells slots mc ms : Nat) (g : JFrame) (rest : List Value) (Qa : State → Outcome → State → Prop) (XC : String → State → State → Prop) (free : Addr → Prop) : Prop :=
  ∀ T : State, T.heap = H → Stand p l e R s m args below meth c T locs cells slots →
    (∃ (v : Option Value) (st₀ t T' : State) (L : List Loc), st₀.heap = H ∧ Stand p l e R s m args below meth c T' (locs ++ L) (cells + mc) (slots + ms) ∧ (∀ q ∈ L, free q.base) ∧ T'.heap = t.heap ∧ T'.vm = t.vm ∧ Qa st₀ (.returned v) t ∧
      Goes p e below T g T' { g with pc := g.pc + 3, stack := v.toList ++ rest }) ∨
    (∃ (q : Addr) (st₀ t T' : State) (L : List Loc) (E : String) (ce : Cell), st₀.heap = H ∧ Stand p l e R s m args below meth c T' (locs ++ L) (cells + mc) (slots + ms) ∧ (∀ z ∈ L, free z.base) ∧ T'.heap = t.heap ∧ T'.vm = t.vm ∧ XC E st₀ t ∧ t.heap[q]? = some ce ∧ ce.vm = .none ∧ s.vm.findClass E = some ce.cls ∧
      Steps p.tables e below (T.setTop g) ((T'.setTop { g with stack := rest }).pushFrame (.throwing q)))
def vx_X {S : Type} (px : S → Prop) (B : String → S → State → Prop) (A : Nat → Prop) : String → State → State → Prop := fun E st t => ∃ u : S, px u ∧ B E u t ∧ va_F A st t
section Runs
variable {p : Program} {l : Launch} {e : Env} {R : Room} {s : State} {m : MethodId} {args : Array Value} {below : List Frame} {meth : Method} {c : Code} {H : Heap} {locs : List Loc} {cells slots : Nat}
variable {y : MethodName} {bytes cc : ByteArray} {maxL nL mc ms n index : Nat} {ret : Option FieldType} {ws : List Cond} {rm : Room} {Pc : Array Value → State → Prop} {Qc : Array Value → State → Outcome → State → Prop} {XC : String → State → State → Prop} {free : Addr → Prop} {Ts : List Cond} {own C : String} {b : Addr} {As rest : List Value} {g : JFrame}
theorem vx_callBack (cb : CallB R s args own index y bytes maxL ret ws rm mc ms n) (hM : vx_Met l y ws rm Pc Qc XC mc ms free) (hbl : FrameBlind Pc) : vx_Back l R p e below s args y 3 8 (PreOf R mc ms Pc) (PostOf Qc mc ms free) (vx_Post XC mc ms free) := by
  obtain ⟨hrc, hrs, hfr, hlo, hws, hcw, -, hini, -⟩ := cb
  exact vx_back (bytes := bytes) (maxL := maxL) (ret := ret) hM hbl hrc hrs hfr hlo hws hcw (fun a' U hW => word_at hW (Or.inl (by first | rfl | simp [Cond.onTables, Cond.keeps, Cond.steady])) hini)
theorem vx_runV (S : CallFix p m c cc nL s args Ts own) (hM : vx_Met l y ws rm Pc Qc XC mc ms free) (cw : CallW R s args own C index y bytes maxL ret ws rm mc ms n) (hp : PreV s H C b Pc As)
    (hg : g.method = m) (hn : As.length = n) (hsize : g.locals.size = nL) (hstack : g.stack = As.reverse ++ .ref b :: rest) (hW : 2 * g.monitorRoom + (rest.map fun v => v.category).sum ≤ 8) (hdg : decode cc g.pc = .ok (.invokevirtual index, 3)) (hf : cells + mc ≤ R.cells ∧ slots + ms ≤ R.slots) :
    vx_Run p l e R s m args below meth c H locs cells slots mc ms g rest (Qc (Value.ref b :: As).toArray) XC free := by
  have hK : vx_Back l R p e below s args y 3 8 (PreOf R mc ms Pc) (PostOf Qc mc ms free) (vx_Post XC mc ms free) := vx_callBack cw.1 hM hp.1
  obtain ⟨⟨-, -, -, -, -, -, hcode, -, hy, hlen, hl⟩, hin, hse⟩ := cw
  obtain ⟨hx, hb, hml, ho, -⟩ := S
  obtain ⟨-, ⟨cellB, hcB, hoB, hclB⟩, hPc⟩ := hp
  intro T hT X
  rcases vx_callV X hx (C := C) (bytes := bytes) (maxL := maxL) (ret := ret) ho hl hin hse hcode hy hK (by rw [hT]; exact hcB) hoB hclB hg (hsize.trans hml.symm) (argsL := As) (rest := rest) (fun sig h => hn.trans (hlen sig h)) hstack hW (by rw [hb]; exact hdg)
    (fun vm₁ hW₁ => ⟨hf.1, hf.2, hPc (T.setVm vm₁) hT hW₁⟩) with ⟨v, vm₁, ⟨U', l2, c2, s2⟩, hW₁, X', ⟨g', mk, t, L, e1, e2, hq, h1, hL, h2, h3⟩, st⟩ | ⟨q, vm₁, ⟨U', l2, c2, s2⟩, hW₁, X', ⟨g', mk, t, L, E, ce, e1, e2, hq, hce, hcv, hcl, h1, hL, h2, h3⟩, st⟩
  · dsimp only [Pt.U, Pt.locs, Pt.cells, Pt.slots] at X' e1 e2 h1 h2 h3 st
    subst h1; subst h2; subst h3
    exact Or.inl ⟨v, (T.setVm vm₁).calling g' mk (Value.ref b :: As).toArray, t, U', L, hT, X', hL, e1, e2, hq, st⟩
  · dsimp only [Pt.U, Pt.locs, Pt.cells, Pt.slots] at X' e1 e2 h1 h2 h3 st hcl
    subst h1; subst h2; subst h3
    exact Or.inr ⟨q, (T.setVm vm₁).calling g' mk (Value.ref b :: As).toArray, t, U', L, E, ce, hT, X', hL, e1, e2, hq, hce, hcv, vx_cls hW₁ hcl, st⟩
theorem vx_runS (S : CallFix p m c cc nL s args Ts own) (hM : vx_Met l y ws rm Pc Qc XC mc ms free) (cw : CallB R s args own index y bytes maxL ret ws rm mc ms n ∧ (Cond.static y).before args s = true) (hp : PreS s H Pc As)
    (hg : g.method = m) (hn : As.length = n) (hsize : g.locals.size = nL) (hstack : g.stack = As.reverse ++ rest) (hW : 2 * g.monitorRoom + (rest.map fun v => v.category).sum ≤ 8) (hdg : decode cc g.pc = .ok (.invokestatic index, 3)) (hf : cells + mc ≤ R.cells ∧ slots + ms ≤ R.slots) :
    vx_Run p l e R s m args below meth c H locs cells slots mc ms g rest (Qc As.toArray) XC free := by
  have hK : vx_Back l R p e below s args y 3 8 (PreOf R mc ms Pc) (PostOf Qc mc ms free) (vx_Post XC mc ms free) := vx_callBack cw.1 hM hp.1
  obtain ⟨⟨-, -, -, -, -, -, hcode, hini, hy, hlen, hl⟩, hstt⟩ := cw
  obtain ⟨hx, hb, hml, ho, -⟩ := S
  intro T hT X
  rcases vx_callS X hx (bytes := bytes) (maxL := maxL) (ret := ret) ho hl hstt hini hcode hy hK hg (hsize.trans hml.symm) (argsL := As) (rest := rest) (fun sig h => hn.trans (hlen sig h)) hstack hW (by rw [hb]; exact hdg)
    (fun vm₁ hW₁ => ⟨hf.1, hf.2, hp.2 (T.setVm vm₁) hT hW₁⟩) with ⟨v, vm₁, ⟨U', l2, c2, s2⟩, hW₁, X', ⟨g', mk, t, L, e1, e2, hq, h1, hL, h2, h3⟩, st⟩ | ⟨q, vm₁, ⟨U', l2, c2, s2⟩, hW₁, X', ⟨g', mk, t, L, E, ce, e1, e2, hq, hce, hcv, hcl, h1, hL, h2, h3⟩, st⟩
  · dsimp only [Pt.U, Pt.locs, Pt.cells, Pt.slots] at X' e1 e2 h1 h2 h3 st
    subst h1; subst h2; subst h3
    exact Or.inl ⟨v, (T.setVm vm₁).calling g' mk As.toArray, t, U', L, hT, X', hL, e1, e2, hq, st⟩
  · dsimp only [Pt.U, Pt.locs, Pt.cells, Pt.slots] at X' e1 e2 h1 h2 h3 st hcl
    subst h1; subst h2; subst h3
    exact Or.inr ⟨q, (T.setVm vm₁).calling g' mk As.toArray, t, U', L, E, ce, hT, X', hL, e1, e2, hq, hce, hcv, vx_cls hW₁ hcl, st⟩
end Runs
section Rows
variable {p : Program} {l : Launch} {e : Env} {R : Room} {s : State} {m : MethodId} {args : Array Value} {below : List Frame} {meth : Method} {c : Code} {H : Heap} {locs : List Loc} {cells slots : Nat} {Q : State → Prop}
variable {mc ms : Nat} {free : Addr → Prop} {A0 A1 : Nat → Prop} {H0 : Heap} {a : Array Value} {pc : Nat} {ls : Array Slot} {st0 rest : List Value}
theorem vx_keep {st₀ t T' : State} {L : List Loc} (h0 : st₀.heap = H) (e1 : T'.heap = t.heap) (hS : va_S A0 H0 H locs) (hA : ∀ q, q < H.size → A1 q → A0 q) (hf : ∀ q, free q → A0 q) (hL : ∀ q ∈ L, free q.base) (hF : va_F A1 st₀ t) :
    H.size ≤ T'.heap.size ∧ (∀ q : Nat, q < H.size → ¬ A1 q → T'.heap[q]? = H[q]?) ∧ va_S A0 H0 T'.heap (locs ++ L) := by
  obtain ⟨hz, hk⟩ := hF
  rw [h0] at hz hk
  exact ⟨by rw [e1]; exact hz, fun q h1 h2 => by rw [e1]; exact hk q h1 h2,
    ⟨Nat.le_trans hS.1 (by rw [e1]; exact hz), fun q h1 h2 => by rw [e1, hk q (Nat.lt_of_lt_of_le h1 hS.1) (fun z => h2 (hA q (Nat.lt_of_lt_of_le h1 hS.1) z))]; exact hS.2.1 q h1 h2, fun q hq => by
      rcases List.mem_append.mp hq with h | h
      · exact hS.2.2 q h
      · exact hf _ (hL q h)⟩⟩
theorem vx_calli {S SX : Type} {post : Int32 → S → Prop} {px : SX → Prop} {B : S → State → Prop} {BX : String → SX → State → Prop} {AX : Nat → Prop} (hr : vx_Run p l e R s m args below meth c H locs cells slots mc ms (F0 m pc ls st0) rest (va_Qi post B A1 a) (vx_X px BX AX) free) (hS : va_S A0 H0 H locs) (hA : ∀ q, q < H.size → A1 q → A0 q) (hf : ∀ q, free q → A0 q) (hAX : ∀ q, q < H.size → AX q → A0 q)
    (kx : ∀ (E : String) (ce : Cell) (q9 : Addr) (u : SX) (t : State) (H1 : Heap) (locs1 : List Loc), t.heap = H1 → s.vm.Alike t.vm → px u → BX E u t → H.size ≤ H1.size → (∀ q : Nat, q < H.size → ¬ AX q → H1[q]? = H[q]?) → va_S A0 H0 H1 locs1 → H1[q9]? = some ce → ce.vm = .none → s.vm.findClass E = some ce.cls → vx_W p l e R s m args below meth c H1 locs1 (cells + mc) (slots + ms) Q (F0 m pc ls rest) q9)
    (kk : ∀ (r : Int32) (u : S) (t : State) (H1 : Heap) (locs1 : List Loc), t.heap = H1 → s.vm.Alike t.vm → post r u → B u t → H.size ≤ H1.size → (∀ q : Nat, q < H.size → ¬ A1 q → H1[q]? = H[q]?) → va_S A0 H0 H1 locs1 → W p l e R s m args below meth c H1 locs1 (cells + mc) (slots + ms) Q (F0 m (pc + 3) ls (.int r :: rest))) : W p l e R s m args below meth c H locs cells slots Q (F0 m pc ls st0) := by
  intro T hT X
  rcases hr T hT X with ⟨v, st₀, t, T', L, h0, X', hL, e1, e2, ⟨⟨r, u, hv, hp, hb⟩, hF⟩, st⟩ | ⟨q, st₀, t, T', L, E, ce, h0, X', hL, e1, e2, ⟨u, hp, hb, hF⟩, hce, hcv, hcl, st⟩
  · cases hv
    obtain ⟨k1, k2, k3⟩ := vx_keep h0 e1 hS hA hf hL hF
    obtain ⟨t2, a1, b1⟩ := kk r u t T'.heap (locs ++ L) e1.symm (by rw [← e2]; exact X'.warmed.alike) hp hb k1 k2 k3 T' rfl X'
    exact ⟨t2, st t2 a1, b1⟩
  · obtain ⟨k1, k2, k3⟩ := vx_keep h0 e1 hS hAX hf hL hF
    obtain ⟨t2, a1, b1⟩ := kx E ce q u t T'.heap (locs ++ L) e1.symm (by rw [← e2]; exact X'.warmed.alike) hp hb k1 k2 k3 (by rw [e1]; exact hce) hcv hcl T' rfl X'
    exact ⟨t2, st.trans a1, b1⟩
theorem vx_calll {S SX : Type} {post : Int64 → S → Prop} {px : SX → Prop} {B : S → State → Prop} {BX : String → SX → State → Prop} {AX : Nat → Prop} (hr : vx_Run p l e R s m args below meth c H locs cells slots mc ms (F0 m pc ls st0) rest (va_Ql post B A1 a) (vx_X px BX AX) free) (hS : va_S A0 H0 H locs) (hA : ∀ q, q < H.size → A1 q → A0 q) (hf : ∀ q, free q → A0 q) (hAX : ∀ q, q < H.size → AX q → A0 q)
    (kx : ∀ (E : String) (ce : Cell) (q9 : Addr) (u : SX) (t : State) (H1 : Heap) (locs1 : List Loc), t.heap = H1 → s.vm.Alike t.vm → px u → BX E u t → H.size ≤ H1.size → (∀ q : Nat, q < H.size → ¬ AX q → H1[q]? = H[q]?) → va_S A0 H0 H1 locs1 → H1[q9]? = some ce → ce.vm = .none → s.vm.findClass E = some ce.cls → vx_W p l e R s m args below meth c H1 locs1 (cells + mc) (slots + ms) Q (F0 m pc ls rest) q9)
    (kk : ∀ (r : Int64) (u : S) (t : State) (H1 : Heap) (locs1 : List Loc), t.heap = H1 → s.vm.Alike t.vm → post r u → B u t → H.size ≤ H1.size → (∀ q : Nat, q < H.size → ¬ A1 q → H1[q]? = H[q]?) → va_S A0 H0 H1 locs1 → W p l e R s m args below meth c H1 locs1 (cells + mc) (slots + ms) Q (F0 m (pc + 3) ls (.long r :: rest))) : W p l e R s m args below meth c H locs cells slots Q (F0 m pc ls st0) := by
  intro T hT X
  rcases hr T hT X with ⟨v, st₀, t, T', L, h0, X', hL, e1, e2, ⟨⟨r, u, hv, hp, hb⟩, hF⟩, st⟩ | ⟨q, st₀, t, T', L, E, ce, h0, X', hL, e1, e2, ⟨u, hp, hb, hF⟩, hce, hcv, hcl, st⟩
  · cases hv
    obtain ⟨k1, k2, k3⟩ := vx_keep h0 e1 hS hA hf hL hF
    obtain ⟨t2, a1, b1⟩ := kk r u t T'.heap (locs ++ L) e1.symm (by rw [← e2]; exact X'.warmed.alike) hp hb k1 k2 k3 T' rfl X'
    exact ⟨t2, st t2 a1, b1⟩
  · obtain ⟨k1, k2, k3⟩ := vx_keep h0 e1 hS hAX hf hL hF
    obtain ⟨t2, a1, b1⟩ := kx E ce q u t T'.heap (locs ++ L) e1.symm (by rw [← e2]; exact X'.warmed.alike) hp hb k1 k2 k3 (by rw [e1]; exact hce) hcv hcl T' rfl X'
    exact ⟨t2, st.trans a1, b1⟩
theorem vx_callf {S SX : Type} {post : UInt32 → S → Prop} {px : SX → Prop} {B : S → State → Prop} {BX : String → SX → State → Prop} {AX : Nat → Prop} (hr : vx_Run p l e R s m args below meth c H locs cells slots mc ms (F0 m pc ls st0) rest (va_Qf post B A1 a) (vx_X px BX AX) free) (hS : va_S A0 H0 H locs) (hA : ∀ q, q < H.size → A1 q → A0 q) (hf : ∀ q, free q → A0 q) (hAX : ∀ q, q < H.size → AX q → A0 q)
    (kx : ∀ (E : String) (ce : Cell) (q9 : Addr) (u : SX) (t : State) (H1 : Heap) (locs1 : List Loc), t.heap = H1 → s.vm.Alike t.vm → px u → BX E u t → H.size ≤ H1.size → (∀ q : Nat, q < H.size → ¬ AX q → H1[q]? = H[q]?) → va_S A0 H0 H1 locs1 → H1[q9]? = some ce → ce.vm = .none → s.vm.findClass E = some ce.cls → vx_W p l e R s m args below meth c H1 locs1 (cells + mc) (slots + ms) Q (F0 m pc ls rest) q9)
    (kk : ∀ (r : UInt32) (u : S) (t : State) (H1 : Heap) (locs1 : List Loc), t.heap = H1 → s.vm.Alike t.vm → post r u → B u t → H.size ≤ H1.size → (∀ q : Nat, q < H.size → ¬ A1 q → H1[q]? = H[q]?) → va_S A0 H0 H1 locs1 → W p l e R s m args below meth c H1 locs1 (cells + mc) (slots + ms) Q (F0 m (pc + 3) ls (.float r :: rest))) : W p l e R s m args below meth c H locs cells slots Q (F0 m pc ls st0) := by
  intro T hT X
  rcases hr T hT X with ⟨v, st₀, t, T', L, h0, X', hL, e1, e2, ⟨⟨r, u, hv, hp, hb⟩, hF⟩, st⟩ | ⟨q, st₀, t, T', L, E, ce, h0, X', hL, e1, e2, ⟨u, hp, hb, hF⟩, hce, hcv, hcl, st⟩
  · cases hv
    obtain ⟨k1, k2, k3⟩ := vx_keep h0 e1 hS hA hf hL hF
    obtain ⟨t2, a1, b1⟩ := kk r u t T'.heap (locs ++ L) e1.symm (by rw [← e2]; exact X'.warmed.alike) hp hb k1 k2 k3 T' rfl X'
    exact ⟨t2, st t2 a1, b1⟩
  · obtain ⟨k1, k2, k3⟩ := vx_keep h0 e1 hS hAX hf hL hF
    obtain ⟨t2, a1, b1⟩ := kx E ce q u t T'.heap (locs ++ L) e1.symm (by rw [← e2]; exact X'.warmed.alike) hp hb k1 k2 k3 (by rw [e1]; exact hce) hcv hcl T' rfl X'
    exact ⟨t2, st.trans a1, b1⟩
theorem vx_calld {S SX : Type} {post : UInt64 → S → Prop} {px : SX → Prop} {B : S → State → Prop} {BX : String → SX → State → Prop} {AX : Nat → Prop} (hr : vx_Run p l e R s m args below meth c H locs cells slots mc ms (F0 m pc ls st0) rest (va_Qd post B A1 a) (vx_X px BX AX) free) (hS : va_S A0 H0 H locs) (hA : ∀ q, q < H.size → A1 q → A0 q) (hf : ∀ q, free q → A0 q) (hAX : ∀ q, q < H.size → AX q → A0 q)
    (kx : ∀ (E : String) (ce : Cell) (q9 : Addr) (u : SX) (t : State) (H1 : Heap) (locs1 : List Loc), t.heap = H1 → s.vm.Alike t.vm → px u → BX E u t → H.size ≤ H1.size → (∀ q : Nat, q < H.size → ¬ AX q → H1[q]? = H[q]?) → va_S A0 H0 H1 locs1 → H1[q9]? = some ce → ce.vm = .none → s.vm.findClass E = some ce.cls → vx_W p l e R s m args below meth c H1 locs1 (cells + mc) (slots + ms) Q (F0 m pc ls rest) q9)
    (kk : ∀ (r : UInt64) (u : S) (t : State) (H1 : Heap) (locs1 : List Loc), t.heap = H1 → s.vm.Alike t.vm → post r u → B u t → H.size ≤ H1.size → (∀ q : Nat, q < H.size → ¬ A1 q → H1[q]? = H[q]?) → va_S A0 H0 H1 locs1 → W p l e R s m args below meth c H1 locs1 (cells + mc) (slots + ms) Q (F0 m (pc + 3) ls (.double r :: rest))) : W p l e R s m args below meth c H locs cells slots Q (F0 m pc ls st0) := by
  intro T hT X
  rcases hr T hT X with ⟨v, st₀, t, T', L, h0, X', hL, e1, e2, ⟨⟨r, u, hv, hp, hb⟩, hF⟩, st⟩ | ⟨q, st₀, t, T', L, E, ce, h0, X', hL, e1, e2, ⟨u, hp, hb, hF⟩, hce, hcv, hcl, st⟩
  · cases hv
    obtain ⟨k1, k2, k3⟩ := vx_keep h0 e1 hS hA hf hL hF
    obtain ⟨t2, a1, b1⟩ := kk r u t T'.heap (locs ++ L) e1.symm (by rw [← e2]; exact X'.warmed.alike) hp hb k1 k2 k3 T' rfl X'
    exact ⟨t2, st t2 a1, b1⟩
  · obtain ⟨k1, k2, k3⟩ := vx_keep h0 e1 hS hAX hf hL hF
    obtain ⟨t2, a1, b1⟩ := kx E ce q u t T'.heap (locs ++ L) e1.symm (by rw [← e2]; exact X'.warmed.alike) hp hb k1 k2 k3 (by rw [e1]; exact hce) hcv hcl T' rfl X'
    exact ⟨t2, st.trans a1, b1⟩
theorem vx_callv {S SX : Type} {post : S → Prop} {px : SX → Prop} {B : S → State → Prop} {BX : String → SX → State → Prop} {AX : Nat → Prop} (hr : vx_Run p l e R s m args below meth c H locs cells slots mc ms (F0 m pc ls st0) rest (va_Qv post B A1 a) (vx_X px BX AX) free) (hS : va_S A0 H0 H locs) (hA : ∀ q, q < H.size → A1 q → A0 q) (hf : ∀ q, free q → A0 q) (hAX : ∀ q, q < H.size → AX q → A0 q)
    (kx : ∀ (E : String) (ce : Cell) (q9 : Addr) (u : SX) (t : State) (H1 : Heap) (locs1 : List Loc), t.heap = H1 → s.vm.Alike t.vm → px u → BX E u t → H.size ≤ H1.size → (∀ q : Nat, q < H.size → ¬ AX q → H1[q]? = H[q]?) → va_S A0 H0 H1 locs1 → H1[q9]? = some ce → ce.vm = .none → s.vm.findClass E = some ce.cls → vx_W p l e R s m args below meth c H1 locs1 (cells + mc) (slots + ms) Q (F0 m pc ls rest) q9)
    (kk : ∀ (u : S) (t : State) (H1 : Heap) (locs1 : List Loc), t.heap = H1 → s.vm.Alike t.vm → post u → B u t → H.size ≤ H1.size → (∀ q : Nat, q < H.size → ¬ A1 q → H1[q]? = H[q]?) → va_S A0 H0 H1 locs1 → W p l e R s m args below meth c H1 locs1 (cells + mc) (slots + ms) Q (F0 m (pc + 3) ls (rest))) : W p l e R s m args below meth c H locs cells slots Q (F0 m pc ls st0) := by
  intro T hT X
  rcases hr T hT X with ⟨v, st₀, t, T', L, h0, X', hL, e1, e2, ⟨⟨u, hv, hp, hb⟩, hF⟩, st⟩ | ⟨q, st₀, t, T', L, E, ce, h0, X', hL, e1, e2, ⟨u, hp, hb, hF⟩, hce, hcv, hcl, st⟩
  · cases hv
    obtain ⟨k1, k2, k3⟩ := vx_keep h0 e1 hS hA hf hL hF
    obtain ⟨t2, a1, b1⟩ := kk u t T'.heap (locs ++ L) e1.symm (by rw [← e2]; exact X'.warmed.alike) hp hb k1 k2 k3 T' rfl X'
    exact ⟨t2, st t2 a1, b1⟩
  · obtain ⟨k1, k2, k3⟩ := vx_keep h0 e1 hS hAX hf hL hF
    obtain ⟨t2, a1, b1⟩ := kx E ce q u t T'.heap (locs ++ L) e1.symm (by rw [← e2]; exact X'.warmed.alike) hp hb k1 k2 k3 (by rw [e1]; exact hce) hcv hcl T' rfl X'
    exact ⟨t2, st.trans a1, b1⟩
/-- caught by the row x of this method's table; the rows ahead don't take it -/
theorem vx_catch {own name : String} {E : String} {ce : Cell} {q : Addr} (hown : s.vm.findClass own = some m.cls) (pre : List ExceptionTableEntry) (x : ExceptionTableEntry) (suf : List ExceptionTableEntry) (hsplit : c.exceptionTable.toList = pre ++ x :: suf)
    (hpass : ∀ z ∈ pre, covers z pc = false ∨ (z.catchType ≠ 0 ∧ ∃ nm : String, (Cond.classLink own z.catchType nm).before args s = true ∧ va_Nc E nm s)) (hx : covers x pc = true) (h0 : x.catchType ≠ 0)
    (hlink : (Cond.classLink own x.catchType name).before args s = true) (hcast : (Cond.castable E name).before args s = true) (hcell : H[q]? = some ce) (hv : ce.vm = .none) (hcl : s.vm.findClass E = some ce.cls)
    (kk : W p l e R s m args below meth c H locs cells slots Q (F0 m x.handlerPc ls [.ref q])) : vx_W p l e R s m args below meth c H locs cells slots Q (F0 m pc ls rest) q := by
  intro T hT X
  have hpl : e.platform.magicAccessors = ({} : Platform).magicAccessors := by rw [X.admits.platform]
  obtain ⟨c3, c4, hc3, hc4, hasg⟩ := Cond.castable_spec hcast
  cases Option.some.inj (hc3.symm.trans hcl)
  obtain ⟨c5, hc5, hcl5⟩ := Cond.classLink_spec hown hlink e.platform hpl
  cases Option.some.inj (hc4.symm.trans hc5)
  obtain ⟨vm', X', st⟩ := X.thenCaughtThrough q (g := F0 m pc ls rest) rfl (Steps.refl _) (by rw [hT]; exact hcell) (by rw [hv]; rfl) (by obtain ⟨k9, h9, -⟩ := Vm.findClass_spec hcl; exact ⟨k9, h9⟩) pre x suf hsplit
    (fun z hz => by
      rcases hpass z hz with h | ⟨hz0, nm, hl1, hn1⟩
      · exact Or.inl h
      · obtain ⟨c6, hc6, hcl6⟩ := Cond.classLink_spec hown hl1 e.platform hpl
        obtain ⟨a8, b8, h1, h2, h3⟩ := hn1
        cases Option.some.inj (h1.symm.trans hcl)
        cases Option.some.inj (h2.symm.trans hc6)
        exact Or.inr ⟨hz0, _, hcl6, h3⟩) hx (Or.inr ⟨h0, c4, hcl5, hasg⟩)
  obtain ⟨t, a1, b1⟩ := kk (T.setVm vm') hT X'
  exact ⟨t, st.trans a1, b1⟩
end Rows
section Ends
variable {p : Program} {l : Launch} {e : Env} {R : Room} {s : State} {m : MethodId} {args : Array Value} {below : List Frame} {meth : Method} {c : Code} {H : Heap} {locs : List Loc} {cells slots : Nat} {Q : State → Prop}
variable {mc ms : Nat} {free : Addr → Prop} {A0 A1 : Nat → Prop} {H0 : Heap} {a : Array Value} {ls : Array Slot} {st0 rest : List Value}
variable {Qc : Array Value → State → Outcome → State → Prop} {XC : String → State → State → Prop}
/-- what a body that may throw owes at its end -/
def vx_MQ (below : List Frame) (Qc : Array Value → State → Outcome → State → Prop) (XC : String → State → State → Prop) (a : Array Value) (s : State) (mc ms : Nat) (free : Addr → Prop) : State → Prop := fun t =>
  ∃ o, t.status = .running ∧ Ended t below o ∧ vx_Q Qc XC mc ms free a s o t
theorem vx_ret {g : JFrame} {mc ms : Nat} (k : W p l e R s m args below meth c H locs cells slots (MQ below Qc args s mc ms free) g) : W p l e R s m args below meth c H locs cells slots (vx_MQ below Qc XC args s mc ms free) g := by
  intro T hT X
  obtain ⟨t, a1, o, b1, b2, b3, b4⟩ := k T hT X
  exact ⟨t, a1, o, b1, b2, Or.inl ⟨b3, b4⟩⟩
/-- not caught here: it goes on to the caller -/
theorem vx_widen {g : JFrame} {q : Addr} {k n : Nat} (h1 : cells ≤ k) (h2 : slots ≤ n) (kk : vx_W p l e R s m args below meth c H locs k n Q g q) : vx_W p l e R s m args below meth c H locs cells slots Q g q := fun T hT X => kk T hT (stand_widen X h1 h2)
theorem vx_out {pc : Nat} {E : String} {ce : Cell} {q : Addr} {mc ms : Nat} (hout : ∀ x ∈ c.exceptionTable.toList, covers x pc = false) (hlocks : meth.locks = false) (hcell : H[q]? = some ce) (hv : ce.vm = .none) (hcl : s.vm.findClass E = some ce.cls)
    (hx : ∀ t : State, t.heap = H → s.vm.Alike t.vm → XC E s t) (hf : ∀ z ∈ locs, free z.base) (hc : cells ≤ mc) (hs : slots ≤ ms) :
    vx_W p l e R s m args below meth c H locs cells slots (vx_MQ below Qc XC args s mc ms free) (F0 m pc ls rest) q := by
  intro T hT X
  obtain ⟨st1, hrun, hend, hW, hsm⟩ := X.leaveThrown q (g := F0 m pc ls rest) rfl rfl rfl hout hlocks
  have hcell9 : (T.setFrames (.throwing q :: below)).heap[q]? = some ce := by
    show T.heap[q]? = some ce
    rw [hT]; exact hcell
  exact ⟨_, st1, .threw q, hrun, hend, Or.inr ⟨q, rfl, E, ce, locs, hx _ hT hW.alike, hcell9, hv, hcl, hW, hsm.mono hc hs, hf⟩⟩
theorem vx_frame {U : State} {k n : Nat} (h : s.sameButNew ({ U with vm := s.vm } : State) locs k n) : s.heap.size ≤ U.heap.size ∧ ∀ q : Nat, q < s.heap.size → (∀ z ∈ locs, z.base ≠ q) → U.heap[q]? = s.heap[q]? := by
  obtain ⟨-, h2, -, -, -, h6⟩ := h
  refine ⟨h2, fun q hq hz => ?_⟩
  obtain ⟨c9, e1, e2, e3, e4⟩ := h6 q _ (Array.getElem?_eq_getElem hq)
  have hs : c9.slots = (s.heap[q]).slots := Array.ext_getElem? fun i => e4 i fun hm => hz _ hm rfl
  have h9 : c9 = s.heap[q] := by
    rw [hs] at e2
    exact e2
  have e5 : U.heap[q]? = some c9 := e1
  rw [e5, h9, Array.getElem?_eq_getElem hq]
/-- the words of a throw but the four that speak of the heap -/
def vx_no (w : Cond) : Bool := decide (w ≠ .isRef (.static Bundle.tN "UNASSIGNED_STACK" Bundle.steD)) && decide (w ≠ .isRef (.static Bundle.tN "SUPPRESSED_SENTINEL" Bundle.listD)) && decide (w ≠ .laysStatic Bundle.tN "UNASSIGNED_STACK" Bundle.steD) && decide (w ≠ .laysStatic Bundle.tN "SUPPRESSED_SENTINEL" Bundle.listD)
def vx_at0 (own : String) (ic : Nat) (X : String) (names : List String) : List Cond := (Bundle.ownAtoms0 own ic X names).filter vx_no
def vx_atS (own : String) (ic : Nat) (X : String) (names : List String) : List Cond := (Bundle.ownAtoms own ic X names).filter vx_no
/-- a word that the tables alone decide, or a good one -/
def vx_ot (w : Cond) : Bool := w.onTables || goodWord w
theorem vx_ot_at {args a' : Array Value} {s U : State} {w : Cond} (hW : s.WarmedH U.vm) (hvm : s.vm = U.vm) (hg : vx_ot w = true) (h : w.before args s = true) : w.before a' U = true := by
  simp only [vx_ot, Bool.or_eq_true] at hg
  rcases hg with hg | hg
  · exact va_tabs hg hvm h
  · exact word_at hW (good_of_word hg) h
/-- a list's words: the good ones out of the method's own list, the others by premises of their own -/
theorem vx_hat {args : Array Value} {s : State} {L B : List Cond} (h1 : ∀ w ∈ L.filter goodWord, w.before args s = true) (h2 : ∀ w ∈ L.filter (fun w => !goodWord w), w ∈ B) (h3 : ∀ w ∈ B, w.before args s = true) : ∀ w ∈ L, w.before args s = true := by
  intro w hw
  by_cases g : goodWord w = true
  · exact h1 w (List.mem_filter.mpr ⟨hw, g⟩)
  · refine h3 w (h2 w (List.mem_filter.mpr ⟨hw, ?_⟩))
    show (!goodWord w) = true
    cases hgw : goodWord w
    · rfl
    · exact absurd hgw g
theorem vx_c {args : Array Value} {s : State} {w : Cond} {B : List Cond} (h : w.before args s = true) (t : ∀ w ∈ B, w.before args s = true) : ∀ w' ∈ w :: B, w'.before args s = true := fun w' h' => (List.mem_cons.mp h').elim (fun e => by rw [e]; exact h) (t w')
theorem vx_n {args : Array Value} {s : State} : ∀ w ∈ ([] : List Cond), w.before args s = true := fun _ h => nomatch h
theorem vx_own {args : Array Value} {s : State} {L : List Cond} (h1 : ∀ w ∈ L.filter vx_no, w.before args s = true)
    (hU : (Cond.isRef (.static Bundle.tN "UNASSIGNED_STACK" Bundle.steD)).before args s = true) (hN : (Cond.isRef (.static Bundle.tN "SUPPRESSED_SENTINEL" Bundle.listD)).before args s = true)
    (lU : (Cond.laysStatic Bundle.tN "UNASSIGNED_STACK" Bundle.steD).before args s = true) (lN : (Cond.laysStatic Bundle.tN "SUPPRESSED_SENTINEL" Bundle.listD).before args s = true) : ∀ w ∈ L, w.before args s = true := by
  intro w hw
  by_cases e1 : w = .isRef (.static Bundle.tN "UNASSIGNED_STACK" Bundle.steD)
  · rw [e1]; exact hU
  · by_cases e2 : w = .isRef (.static Bundle.tN "SUPPRESSED_SENTINEL" Bundle.listD)
    · rw [e2]; exact hN
    · by_cases e3 : w = .laysStatic Bundle.tN "UNASSIGNED_STACK" Bundle.steD
      · rw [e3]; exact lU
      · by_cases e4 : w = .laysStatic Bundle.tN "SUPPRESSED_SENTINEL" Bundle.listD
        · rw [e4]; exact lN
        · exact h1 w (List.mem_filter.mpr ⟨hw, by unfold vx_no; rw [decide_eq_true e1, decide_eq_true e2, decide_eq_true e3, decide_eq_true e4]; rfl⟩)
/-- where a static field lies, its class's statics cell in H -/
def vx_L (C n d : String) (A : Nat → Prop) (U : State) (H : Heap) : Prop := ∃ (c : ClassId) (k : Class) (i : Nat) (f : Field) (a : Nat) (cell : Cell), U.vm.findClass C = some c ∧ U.fieldFound? C n d = some (c, k, i, f) ∧ f.isStatic = true ∧ k.statics = some a ∧ H[a]? = some cell ∧ cell.vm.isStatics = true ∧ cell.cls = c ∧ f.slot < cell.slots.size ∧ k.staticTypes[f.slot]? = some f.type ∧ ¬ A a
theorem vx_L.moved {C n d : String} {A : Nat → Prop} {u U : State} {H : Heap} (hvm : u.vm.Alike U.vm) (h : vx_L C n d A u H) : vx_L C n d A U H := by
  obtain ⟨c, k, i, f, a, cell, h1, h2, h3, h4, h5, h6, h7, h8, h9, h10⟩ := h
  obtain ⟨k', hi', he⟩ := State.fieldFound?_setVm hvm h2
  exact ⟨c, k', i, f, a, cell, by rw [hvm.findClass]; exact h1, hi', h3, by rw [he]; exact h4, h5, h6, h7, h8, by rw [he]; exact h9, h10⟩
theorem vx_L.kept {C n d : String} {A : Nat → Prop} {U : State} {H H1 : Heap} (h : vx_L C n d A U H) (hq : ∀ a : Nat, a < H.size → ¬ A a → H1[a]? = H[a]?) : vx_L C n d A U H1 := by
  obtain ⟨c, k, i, f, a, cell, h1, h2, h3, h4, h5, h6, h7, h8, h9, h10⟩ := h
  exact ⟨c, k, i, f, a, cell, h1, h2, h3, h4, by rw [hq a (Array.getElem?_eq_some_iff.mp h5).1 h10]; exact h5, h6, h7, h8, h9, h10⟩
theorem vx_L.narrow {C n d : String} {A B : Nat → Prop} {U : State} {H : Heap} (h : vx_L C n d A U H) (hAB : ∀ q, B q → A q) : vx_L C n d B U H := by
  obtain ⟨c, k, i, f, a, cell, h1, h2, h3, h4, h5, h6, h7, h8, h9, h10⟩ := h
  exact ⟨c, k, i, f, a, cell, h1, h2, h3, h4, h5, h6, h7, h8, h9, fun z => h10 (hAB _ z)⟩
theorem vx_L.word {C n d : String} {A : Nat → Prop} {s : State} {args : Array Value} (h : vx_L C n d A s s.heap) : (Cond.laysStatic C n d).before args s = true := by
  obtain ⟨c, k, i, f, a, cell, h1, h2, h3, h4, h5, h6, h7, h8, h9, -⟩ := h
  show (Cond.laysStatic C n d).holds args s none s [] = true
  exact Cond.laysStatic_of h1 h2 h3 h4 h5 h6 h7 h8 h9
/-- .. and what it holds: null or some reference -/
def vx_Zq (C n d : String) (A : Nat → Prop) (U : State) (H : Heap) : Prop := va_Zq C n d A U H ∧ vx_L C n d A U H
theorem vx_Zq.moved {C n d : String} {A : Nat → Prop} {u U : State} {H : Heap} (hvm : u.vm.Alike U.vm) (h : vx_Zq C n d A u H) : vx_Zq C n d A U H := ⟨va_Zq.moved hvm h.1, vx_L.moved hvm h.2⟩
theorem vx_Zq.kept {C n d : String} {A : Nat → Prop} {U : State} {H H1 : Heap} (h : vx_Zq C n d A U H) (hq : ∀ a : Nat, a < H.size → ¬ A a → H1[a]? = H[a]?) : vx_Zq C n d A U H1 := ⟨va_Zq.kept h.1 hq, vx_L.kept h.2 hq⟩
theorem vx_Zq.narrow {C n d : String} {A B : Nat → Prop} {U : State} {H : Heap} (h : vx_Zq C n d A U H) (hAB : ∀ q, B q → A q) : vx_Zq C n d B U H := ⟨va_Zq.narrow h.1 hAB, vx_L.narrow h.2 hAB⟩
theorem vx_Zqof {args : Array Value} {s : State} {C n d : String} {A : Nat → Prop} (hl : (Cond.laysStatic C n d).before args s = true) (hini : (Cond.initialized C).before args s = true) (h : (Cond.isRef (.static C n d)).before args s = true) (hA : ∀ a : Nat, a < s.heap.size → ¬ A a) : vx_Zq C n d A s s.heap := by
  refine ⟨va_Zqof hl hini h hA, ?_⟩
  obtain ⟨c, k, i, f, a, cell, h1, h2, h3, h4, h5, h6, h7, h8, h9⟩ := Cond.laysStatic_spec hl
  exact ⟨c, k, i, f, a, cell, h1, h2, h3, h4, h5, h6, h7, h8, h9, hA a (Array.getElem?_eq_some_iff.mp h5).1⟩
theorem vx_isRef {C n d : String} {v : Value} {A : Nat → Prop} {s : State} {args : Array Value} (h : va_Z C n d v A s s.heap) (hv : v.isRef = true) : (Cond.isRef (.static C n d)).before args s = true := by
  obtain ⟨cf, kf, fi, f, a, cell, h1, h2, h3, h4, h5, h6, h7, -⟩ := h
  have he : (Term.static C n d).eval args s none [] s = some v := by
    simp [Term.eval, State.fieldNamed?, h1, h2, h4, h5, h6, h7]
  simp only [Cond.before, Cond.holds, Cond.value, he]
  cases v <;> simp_all [Value.isRef]
theorem vx_isRefq {C n d : String} {A : Nat → Prop} {s : State} {args : Array Value} (h : va_Zq C n d A s s.heap) : (Cond.isRef (.static C n d)).before args s = true := by
  rcases h with h | ⟨t, h⟩
  · exact vx_isRef h rfl
  · exact vx_isRef h rfl
/-- the same frame, seen from here: as if the method were called anew in this heap -/
theorem vx_rebase {T : State} (X : Stand p l e R s m args below meth c T locs cells slots) {R' : Room} (hf : R'.frames ≤ R.frames) (hl : R'.locals ≤ R.locals) (hc : cells + R'.cells ≤ R.cells) (hs : slots + R'.slots ≤ R.slots) :
    Stand p l e R' ((T.setVm s.vm).setFrames (.invoking m args :: below)) m args below meth c T [] 0 0 := by
  have htop : (T.setVm s.vm).topJava?.isSome := X.here.top
  have hF : ((T.setVm s.vm).setFrames (.invoking m args :: below)).frames = .invoking m args :: below := State.frames_setFrames _ (State.cur_lt_of_top htop)
  obtain ⟨g₀, hg0⟩ := Option.isSome_iff_exists.mp htop
  obtain ⟨r, hr⟩ := State.topJava?_eq_some.mp hg0
  have hl9 : e.platform.stackLimits (T.setVm s.vm).me = e.platform.stackLimits s.me := X.limits
  have hb9 : (T.setVm s.vm).me.stackBytes = s.me.stackBytes := X.bytes
  refine ⟨X.admits, X.cas, X.clock, hF, ?_, X.hears, X.method, X.code, X.here, X.tail, X.warmed, ?_, ?_, ?_⟩
  · have h := X.room
    have hU : ((T.setVm s.vm).setFrames (.invoking m args :: below)).localsInUse = s.localsInUse := by
      rw [State.localsInUse_invoking hF (meth := meth) (c := c) X.method X.code, State.localsInUse_invoking X.frames X.method X.code]
    simp only [State.hasRoom, Bool.and_eq_true, decide_eq_true_eq] at h ⊢
    obtain ⟨⟨⟨⟨h1, h2, h3, h4, h5, h6⟩, h7⟩, h8⟩, h9⟩ := h
    rw [X.frames, List.length_cons] at h2 h3
    have q1 := X.heapSize
    have q2 := X.used
    simp only [hF, hU, List.length_cons, State.stackLimits_setFrames, State.stackBytes_setFrames, hl9, hb9]
    refine ⟨⟨⟨⟨by omega, by omega, by omega, by omega, by omega, h6⟩, ?_⟩, ?_⟩, X.book⟩
    · show T.heap.size + R'.cells ≤ e.platform.maxCells
      omega
    · show T.slotsUsed + R'.slots ≤ e.platform.maxSlots
      omega
  · rw [State.stackLimits_setFrames]; rfl
  · rw [State.stackBytes_setFrames]; rfl
  · refine ⟨?_, Nat.le_refl _, Nat.le_refl _, ?_, ?_, fun a c9 h9 => ⟨c9, h9, rfl, rfl, fun _ _ => rfl⟩⟩
    · obtain ⟨t, ht, -⟩ := State.frames_cons hr
      show T.setVm s.vm = { ((T.setVm s.vm).setFrames (.invoking m args :: below)).setFrames (T.setVm s.vm).frames with heap := T.heap, slotsUsed := T.slotsUsed }
      rw [State.setFrames_setFrames, State.setFrames_self ht]
      rfl
    · show T.slotsUsed = T.slotsUsed + ((T.heap.toList.drop T.heap.size).map (·.slots.size)).sum
      rw [List.drop_eq_nil_of_le (Nat.le_of_eq Array.length_toList)]
      rfl
    · show ((T.heap.toList.drop T.heap.size).map (·.slots.size)).sum ≤ 0
      rw [List.drop_eq_nil_of_le (Nat.le_of_eq Array.length_toList)]
      exact Nat.le_refl _
/-- 'throw new E()': new; dup; invokespecial; athrow -/
theorem vx_throw0 {cc : ByteArray} {pc : Nat} (hexec : p.tables.exec = Jvm.exec) (hb : c.code = cc) (hl : l.stackTraces = false) {own cls : String} {names : List String} {ik ic mc ms : Nat} {A : Nat → Prop}
    (hown : s.vm.findClass own = some m.cls) (hcls : Bundle.fit cls = true) (hnames : ∀ n ∈ names, Bundle.fit n = true)
    (hk : (Cond.classLink own ik cls).before args s = true) (hini : (Cond.initialized cls).before args s = true) (hat : ∀ w ∈ vx_at0 own ic cls names, w.before args s = true)
    (hgood : ∀ w ∈ Cond.classLink own ik cls :: Cond.initialized cls :: vx_at0 own ic cls names, vx_ot w = true)
    (hU : vx_Zq Bundle.tN "UNASSIGNED_STACK" Bundle.steD A s s.heap) (hN : vx_Zq Bundle.tN "SUPPRESSED_SENTINEL" Bundle.listD A s s.heap) (hS : va_S A s.heap H locs) (hsize : ls.size = c.maxLocals)
    (d0 : decode cc pc = .ok (.new ik, 3)) (d3 : decode cc (pc + 3) = .ok (.dup, 1)) (d4 : decode cc (pc + 4) = .ok (.invokespecial ic, 3)) (d7 : decode cc (pc + 7) = .ok (.athrow, 1))
    (hout : ∀ x ∈ c.exceptionTable.toList, covers x (pc + 7) = false)
    (hRframes : names.length + 3 < R.frames) (hRlocals : (rest.map fun v => v.category).sum + (13 * (names.length + 1) + 42) ≤ R.locals) (hRcells : cells + 1 ≤ R.cells) (hRslots : slots + 6 ≤ R.slots) (hlocks : meth.locks = false)
    (hx : ∀ t : State, s.vm.Alike t.vm → H.size ≤ t.heap.size → (∀ q : Nat, q < H.size → t.heap[q]? = H[q]?) → XC cls s t)
    (hf : ∀ z ∈ locs, free z.base) (hc : cells + 1 ≤ mc) (hs : slots + 6 ≤ ms) :
    W p l e R s m args below meth c H locs cells slots (vx_MQ below Qc XC args s mc ms free) (F0 m pc ls rest) := by
  intro T hT X
  have htr : e.platform.stackTraces = false := (show e.platform.stackTraces = l.stackTraces by rw [X.admits.platform]).trans hl
  have Y := vx_rebase X (R' := { frames := R.frames, locals := R.locals, cells := 1, slots := 6 }) (Nat.le_refl _) (Nat.le_refl _) hRcells hRslots
  obtain ⟨s', hA⟩ : ∃ z, z = (T.setVm s.vm).setFrames (.invoking m args :: below) := ⟨_, rfl⟩
  rw [← hA] at Y
  have hvm : s'.vm = s.vm := by rw [hA]; rfl
  have hhp : s'.heap = H := by rw [hA]; exact hT
  have hW0 : s.WarmedH s'.vm := by rw [hvm]; exact State.WarmedH.refl s
  have hat' : ∀ w ∈ vx_at0 own ic cls names, w.before args s' = true := fun w hw => vx_ot_at hW0 hvm.symm (hgood w (List.mem_cons_of_mem _ (List.mem_cons_of_mem _ hw))) (hat w hw)
  have hk' : (Cond.classLink own ik cls).before args s' = true := vx_ot_at hW0 hvm.symm (hgood _ List.mem_cons_self) hk
  have hini' : (Cond.initialized cls).before args s' = true := vx_ot_at hW0 hvm.symm (hgood _ (List.mem_cons_of_mem _ List.mem_cons_self)) hini
  have hU' : vx_Zq Bundle.tN "UNASSIGNED_STACK" Bundle.steD A s' s'.heap := by rw [hhp]; exact vx_Zq.moved hW0.alike (hU.kept hS.2.1)
  have hN' : vx_Zq Bundle.tN "SUPPRESSED_SENTINEL" Bundle.listD A s' s'.heap := by rw [hhp]; exact vx_Zq.moved hW0.alike (hN.kept hS.2.1)
  have h : ∀ w ∈ Bundle.ownAtoms0 own ic cls names, w.before args s' = true := vx_own hat' (vx_isRefq hU'.1) (vx_isRefq hN'.1) hU'.2.word hN'.2.word
  have hown' : s'.vm.findClass own = some m.cls := by rw [hvm]; exact hown
  have hins : (Cond.instantiable cls 6).before args s' = true := h _ (by simp [Bundle.ownAtoms0])
  obtain ⟨vm₁, cX, kX, hfX, hkX, -, -, X₁, st1⟩ := Y.newCold hexec (own := own) (C := cls) (index := ik) (n := 6) hown' hk' hins hini'
    (g := F0 m pc ls rest) rfl (by rw [hb]; exact d0) (Nat.le_refl _) (Nat.le_refl _)
  generalize hT1 : (T.setVm vm₁).pushCell { cls := cX, slots := kX.instanceTypes.map defaultValue, vm := .none } = T1 at X₁ st1
  have hcat : (Value.ref T.heap.size).category = 1 := rfl
  have hcellA : T1.heap[T.heap.size]? = some (freshCell cX kX) := by rw [← hT1]; exact State.heap_pushCell_size _ _
  have d3' : decode c.code (pc + 3) = .ok (.dup, 1) := by rw [hb]; exact d3
  obtain ⟨U, hsteps, hrun, hend, hW, hsame, ce, hce, hO⟩ := X₁.ctorThrow0 hexec htr (own := own) (cls := cls) (names := names) (ic := ic) hown' hcls hnames h (fun x hx => nomatch hx) hfX hkX hcellA (by rw [hhp, hT]; exact Nat.le_refl _)
    (g := { method := m, pc := pc + 4, locals := ls, stack := .ref T.heap.size :: .ref T.heap.size :: rest, locked := none }) rfl hsize rfl rfl (rest := rest) rfl
    (by rw [hb]; exact d4) (by rw [hb]; exact d7) hout hRframes (by simp only [List.map_cons, List.sum_cons, hcat]; omega) hlocks
  obtain ⟨f1, f2⟩ := vx_frame hsame
  rw [hhp] at f1 f2
  have hWs : s.WarmedH U.vm := State.WarmedH.trans hW0 hW
  have hcl : s.vm.findClass cls = some ce.cls := by
    have h9 := hO.cls
    rw [hvm] at h9
    exact h9
  have hall : s.sameButNew ({ U with vm := s.vm } : State) locs mc ms := by
    subst hA
    obtain ⟨e1, e2⟩ := hsame
    rw [State.setFrames_setFrames] at e1
    have h2 : (T.setVm s.vm).sameButNew ({ U with vm := s.vm } : State) [] (0 + 1) (0 + 6) := ⟨e1, e2⟩
    have h3 := X.same.trans h2
    rw [List.append_nil] at h3
    exact h3.mono hc hs
  refine ⟨U, ?_, .threw T.heap.size, hrun, hend, Or.inr ⟨T.heap.size, rfl, cls, ce, locs, hx U hWs.alike f1 (fun q hq => f2 q hq (fun z hz => nomatch hz)), hce, hO.vm, hcl, hWs, hall, hf⟩⟩
  refine st1 _ ?_
  show Steps p.tables e below (T1.setTop { method := m, pc := pc + 3, locals := ls, stack := .ref T.heap.size :: rest, locked := none }) _
  jvm_step X₁.here [X₁.here.top, hexec, d3', Value.category]
  exact hsteps
/-- 'throw new E("text")': new; dup; ldc; invokespecial; athrow -/
theorem vx_throwS {cc : ByteArray} {pc : Nat} (hexec : p.tables.exec = Jvm.exec) (hb : c.code = cc) (hl : l.stackTraces = false) {own cls text : String} {names : List String} {ik is ic mc ms sa : Nat} {A : Nat → Prop}
    (hown : s.vm.findClass own = some m.cls) (hcls : Bundle.fit cls = true) (hnames : ∀ n ∈ names, Bundle.fit n = true)
    (hk : (Cond.classLink own ik cls).before args s = true) (hini : (Cond.initialized cls).before args s = true) (hstr : vk_R own is text sa s) (hat : ∀ w ∈ vx_atS own ic cls names, w.before args s = true)
    (hgood : ∀ w ∈ Cond.classLink own ik cls :: Cond.initialized cls :: vx_atS own ic cls names, vx_ot w = true)
    (hU : vx_Zq Bundle.tN "UNASSIGNED_STACK" Bundle.steD A s s.heap) (hN : vx_Zq Bundle.tN "SUPPRESSED_SENTINEL" Bundle.listD A s s.heap) (hS : va_S A s.heap H locs) (hsize : ls.size = c.maxLocals)
    (d0 : decode cc pc = .ok (.new ik, 3)) (d3 : decode cc (pc + 3) = .ok (.dup, 1)) (d4 : decode cc (pc + 4) = .ok (.ldc is, 2)) (d6 : decode cc (pc + 6) = .ok (.invokespecial ic, 3)) (d9 : decode cc (pc + 9) = .ok (.athrow, 1))
    (hout : ∀ x ∈ c.exceptionTable.toList, covers x (pc + 9) = false)
    (hRframes : names.length + 3 < R.frames) (hRlocals : (rest.map fun v => v.category).sum + (13 * (names.length + 1) + 43) ≤ R.locals) (hRcells : cells + 1 ≤ R.cells) (hRslots : slots + 6 ≤ R.slots) (hlocks : meth.locks = false)
    (hx : ∀ t : State, s.vm.Alike t.vm → H.size ≤ t.heap.size → (∀ q : Nat, q < H.size → t.heap[q]? = H[q]?) → XC cls s t)
    (hf : ∀ z ∈ locs, free z.base) (hc : cells + 1 ≤ mc) (hs : slots + 6 ≤ ms) :
    W p l e R s m args below meth c H locs cells slots (vx_MQ below Qc XC args s mc ms free) (F0 m pc ls rest) := by
  intro T hT X
  have htr : e.platform.stackTraces = false := (show e.platform.stackTraces = l.stackTraces by rw [X.admits.platform]).trans hl
  have Y := vx_rebase X (R' := { frames := R.frames, locals := R.locals, cells := 1, slots := 6 }) (Nat.le_refl _) (Nat.le_refl _) hRcells hRslots
  obtain ⟨s', hA⟩ : ∃ z, z = (T.setVm s.vm).setFrames (.invoking m args :: below) := ⟨_, rfl⟩
  rw [← hA] at Y
  have hvm : s'.vm = s.vm := by rw [hA]; rfl
  have hhp : s'.heap = H := by rw [hA]; exact hT
  have hW0 : s.WarmedH s'.vm := by rw [hvm]; exact State.WarmedH.refl s
  have hat' : ∀ w ∈ vx_atS own ic cls names, w.before args s' = true := fun w hw => vx_ot_at hW0 hvm.symm (hgood w (List.mem_cons_of_mem _ (List.mem_cons_of_mem _ hw))) (hat w hw)
  have hk' : (Cond.classLink own ik cls).before args s' = true := vx_ot_at hW0 hvm.symm (hgood _ List.mem_cons_self) hk
  have hini' : (Cond.initialized cls).before args s' = true := vx_ot_at hW0 hvm.symm (hgood _ (List.mem_cons_of_mem _ List.mem_cons_self)) hini
  have hU' : vx_Zq Bundle.tN "UNASSIGNED_STACK" Bundle.steD A s' s'.heap := by rw [hhp]; exact vx_Zq.moved hW0.alike (hU.kept hS.2.1)
  have hN' : vx_Zq Bundle.tN "SUPPRESSED_SENTINEL" Bundle.listD A s' s'.heap := by rw [hhp]; exact vx_Zq.moved hW0.alike (hN.kept hS.2.1)
  have h : ∀ w ∈ Bundle.ownAtoms own ic cls names, w.before args s' = true := vx_own hat' (vx_isRefq hU'.1) (vx_isRefq hN'.1) hU'.2.word hN'.2.word
  have hown' : s'.vm.findClass own = some m.cls := by rw [hvm]; exact hown
  have hins : (Cond.instantiable cls 6).before args s' = true := h _ (by simp [Bundle.ownAtoms])
  obtain ⟨vm₁, cX, kX, hfX, hkX, -, -, X₁, st1⟩ := Y.newCold hexec (own := own) (C := cls) (index := ik) (n := 6) hown' hk' hins hini'
    (g := F0 m pc ls rest) rfl (by rw [hb]; exact d0) (Nat.le_refl _) (Nat.le_refl _)
  generalize hT1 : (T.setVm vm₁).pushCell { cls := cX, slots := kX.instanceTypes.map defaultValue, vm := .none } = T1 at X₁ st1
  have hcat : (Value.ref T.heap.size).category = 1 := rfl
  have hcellA : T1.heap[T.heap.size]? = some (freshCell cX kX) := by rw [← hT1]; exact State.heap_pushCell_size _ _
  have d3' : decode c.code (pc + 3) = .ok (.dup, 1) := by rw [hb]; exact d3
  have d4' : decode c.code (pc + 4) = .ok (.ldc is, 2) := by rw [hb]; exact d4
  have hstr' : vk_R own is text sa s' := vk_R.warm hW0 hstr
  obtain ⟨U, hsteps, hrun, hend, hW, hsame, ce, hce, hO⟩ := X₁.ctorThrowS hexec htr (own := own) (cls := cls) (names := names) (ic := ic) hown' hcls hnames h (fun x hx => nomatch hx) hfX hkX hcellA (by rw [hhp, hT]; exact Nat.le_refl _) (msg := .ref sa) rfl
    (g := { method := m, pc := pc + 6, locals := ls, stack := .ref sa :: .ref T.heap.size :: .ref T.heap.size :: rest, locked := none }) rfl hsize rfl rfl (rest := rest) rfl
    (by rw [hb]; exact d6) (by rw [hb]; exact d9) hout hRframes (by simp only [List.map_cons, List.sum_cons, hcat]; omega) hlocks
  obtain ⟨f1, f2⟩ := vx_frame hsame
  rw [hhp] at f1 f2
  have hWs : s.WarmedH U.vm := State.WarmedH.trans hW0 hW
  have hcl : s.vm.findClass cls = some ce.cls := by
    have h9 := hO.cls
    rw [hvm] at h9
    exact h9
  have hall : s.sameButNew ({ U with vm := s.vm } : State) locs mc ms := by
    subst hA
    obtain ⟨e1, e2⟩ := hsame
    rw [State.setFrames_setFrames] at e1
    have h2 : (T.setVm s.vm).sameButNew ({ U with vm := s.vm } : State) [] (0 + 1) (0 + 6) := ⟨e1, e2⟩
    have h3 := X.same.trans h2
    rw [List.append_nil] at h3
    exact h3.mono hc hs
  refine ⟨U, ?_, .threw T.heap.size, hrun, hend, Or.inr ⟨T.heap.size, rfl, cls, ce, locs, hx U hWs.alike f1 (fun q hq => f2 q hq (fun z hz => nomatch hz)), hce, hO.vm, hcl, hWs, hall, hf⟩⟩
  refine st1 _ ?_
  show Steps p.tables e below (T1.setTop { method := m, pc := pc + 3, locals := ls, stack := .ref T.heap.size :: rest, locked := none }) _
  jvm_step X₁.here [X₁.here.top, hexec, d3', Value.category]
  exact X₁.ldcString hexec (own := own) (text := text) (index := is) (a := sa) hown' hstr'.1 hstr'.2
    (g := { method := m, pc := pc + 4, locals := ls, stack := .ref T.heap.size :: .ref T.heap.size :: rest, locked := none }) rfl d4' _ hsteps
/-- 'throw new E("text")', the text by a wide index -/
theorem vx_throwSW {cc : ByteArray} {pc : Nat} (hexec : p.tables.exec = Jvm.exec) (hb : c.code = cc) (hl : l.stackTraces = false) {own cls text : String} {names : List String} {ik is ic mc ms sa : Nat} {A : Nat → Prop}
    (hown : s.vm.findClass own = some m.cls) (hcls : Bundle.fit cls = true) (hnames : ∀ n ∈ names, Bundle.fit n = true)
    (hk : (Cond.classLink own ik cls).before args s = true) (hini : (Cond.initialized cls).before args s = true) (hstr : vk_R own is text sa s) (hat : ∀ w ∈ vx_atS own ic cls names, w.before args s = true)
    (hgood : ∀ w ∈ Cond.classLink own ik cls :: Cond.initialized cls :: vx_atS own ic cls names, vx_ot w = true)
    (hU : vx_Zq Bundle.tN "UNASSIGNED_STACK" Bundle.steD A s s.heap) (hN : vx_Zq Bundle.tN "SUPPRESSED_SENTINEL" Bundle.listD A s s.heap) (hS : va_S A s.heap H locs) (hsize : ls.size = c.maxLocals)
    (d0 : decode cc pc = .ok (.new ik, 3)) (d3 : decode cc (pc + 3) = .ok (.dup, 1)) (d4 : decode cc (pc + 4) = .ok (.ldc_w is, 3)) (d7 : decode cc (pc + 7) = .ok (.invokespecial ic, 3)) (d10 : decode cc (pc + 10) = .ok (.athrow, 1))
    (hout : ∀ x ∈ c.exceptionTable.toList, covers x (pc + 10) = false)
    (hRframes : names.length + 3 < R.frames) (hRlocals : (rest.map fun v => v.category).sum + (13 * (names.length + 1) + 43) ≤ R.locals) (hRcells : cells + 1 ≤ R.cells) (hRslots : slots + 6 ≤ R.slots) (hlocks : meth.locks = false)
    (hx : ∀ t : State, s.vm.Alike t.vm → H.size ≤ t.heap.size → (∀ q : Nat, q < H.size → t.heap[q]? = H[q]?) → XC cls s t)
    (hf : ∀ z ∈ locs, free z.base) (hc : cells + 1 ≤ mc) (hs : slots + 6 ≤ ms) :
    W p l e R s m args below meth c H locs cells slots (vx_MQ below Qc XC args s mc ms free) (F0 m pc ls rest) := by
  intro T hT X
  have htr : e.platform.stackTraces = false := (show e.platform.stackTraces = l.stackTraces by rw [X.admits.platform]).trans hl
  have Y := vx_rebase X (R' := { frames := R.frames, locals := R.locals, cells := 1, slots := 6 }) (Nat.le_refl _) (Nat.le_refl _) hRcells hRslots
  obtain ⟨s', hA⟩ : ∃ z, z = (T.setVm s.vm).setFrames (.invoking m args :: below) := ⟨_, rfl⟩
  rw [← hA] at Y
  have hvm : s'.vm = s.vm := by rw [hA]; rfl
  have hhp : s'.heap = H := by rw [hA]; exact hT
  have hW0 : s.WarmedH s'.vm := by rw [hvm]; exact State.WarmedH.refl s
  have hat' : ∀ w ∈ vx_atS own ic cls names, w.before args s' = true := fun w hw => vx_ot_at hW0 hvm.symm (hgood w (List.mem_cons_of_mem _ (List.mem_cons_of_mem _ hw))) (hat w hw)
  have hk' : (Cond.classLink own ik cls).before args s' = true := vx_ot_at hW0 hvm.symm (hgood _ List.mem_cons_self) hk
  have hini' : (Cond.initialized cls).before args s' = true := vx_ot_at hW0 hvm.symm (hgood _ (List.mem_cons_of_mem _ List.mem_cons_self)) hini
  have hU' : vx_Zq Bundle.tN "UNASSIGNED_STACK" Bundle.steD A s' s'.heap := by rw [hhp]; exact vx_Zq.moved hW0.alike (hU.kept hS.2.1)
  have hN' : vx_Zq Bundle.tN "SUPPRESSED_SENTINEL" Bundle.listD A s' s'.heap := by rw [hhp]; exact vx_Zq.moved hW0.alike (hN.kept hS.2.1)
  have h : ∀ w ∈ Bundle.ownAtoms own ic cls names, w.before args s' = true := vx_own hat' (vx_isRefq hU'.1) (vx_isRefq hN'.1) hU'.2.word hN'.2.word
  have hown' : s'.vm.findClass own = some m.cls := by rw [hvm]; exact hown
  have hins : (Cond.instantiable cls 6).before args s' = true := h _ (by simp [Bundle.ownAtoms])
  obtain ⟨vm₁, cX, kX, hfX, hkX, -, -, X₁, st1⟩ := Y.newCold hexec (own := own) (C := cls) (index := ik) (n := 6) hown' hk' hins hini'
    (g := F0 m pc ls rest) rfl (by rw [hb]; exact d0) (Nat.le_refl _) (Nat.le_refl _)
  generalize hT1 : (T.setVm vm₁).pushCell { cls := cX, slots := kX.instanceTypes.map defaultValue, vm := .none } = T1 at X₁ st1
  have hcat : (Value.ref T.heap.size).category = 1 := rfl
  have hcellA : T1.heap[T.heap.size]? = some (freshCell cX kX) := by rw [← hT1]; exact State.heap_pushCell_size _ _
  have d3' : decode c.code (pc + 3) = .ok (.dup, 1) := by rw [hb]; exact d3
  have d4' : decode c.code (pc + 4) = .ok (.ldc_w is, 3) := by rw [hb]; exact d4
  have hstr' : vk_R own is text sa s' := vk_R.warm hW0 hstr
  obtain ⟨U, hsteps, hrun, hend, hW, hsame, ce, hce, hO⟩ := X₁.ctorThrowS hexec htr (own := own) (cls := cls) (names := names) (ic := ic) hown' hcls hnames h (fun x hx => nomatch hx) hfX hkX hcellA (by rw [hhp, hT]; exact Nat.le_refl _) (msg := .ref sa) rfl
    (g := { method := m, pc := pc + 7, locals := ls, stack := .ref sa :: .ref T.heap.size :: .ref T.heap.size :: rest, locked := none }) rfl hsize rfl rfl (rest := rest) rfl
    (by rw [hb]; exact d7) (by rw [hb]; exact d10) hout hRframes (by simp only [List.map_cons, List.sum_cons, hcat]; omega) hlocks
  obtain ⟨f1, f2⟩ := vx_frame hsame
  rw [hhp] at f1 f2
  have hWs : s.WarmedH U.vm := State.WarmedH.trans hW0 hW
  have hcl : s.vm.findClass cls = some ce.cls := by
    have h9 := hO.cls
    rw [hvm] at h9
    exact h9
  have hall : s.sameButNew ({ U with vm := s.vm } : State) locs mc ms := by
    subst hA
    obtain ⟨e1, e2⟩ := hsame
    rw [State.setFrames_setFrames] at e1
    have h2 : (T.setVm s.vm).sameButNew ({ U with vm := s.vm } : State) [] (0 + 1) (0 + 6) := ⟨e1, e2⟩
    have h3 := X.same.trans h2
    rw [List.append_nil] at h3
    exact h3.mono hc hs
  refine ⟨U, ?_, .threw T.heap.size, hrun, hend, Or.inr ⟨T.heap.size, rfl, cls, ce, locs, hx U hWs.alike f1 (fun q hq => f2 q hq (fun z hz => nomatch hz)), hce, hO.vm, hcl, hWs, hall, hf⟩⟩
  refine st1 _ ?_
  show Steps p.tables e below (T1.setTop { method := m, pc := pc + 3, locals := ls, stack := .ref T.heap.size :: rest, locked := none }) _
  jvm_step X₁.here [X₁.here.top, hexec, d3', Value.category]
  exact X₁.ldcStringW hexec (own := own) (text := text) (index := is) (a := sa) hown' hstr'.1 hstr'.2
    (g := { method := m, pc := pc + 4, locals := ls, stack := .ref T.heap.size :: .ref T.heap.size :: rest, locked := none }) rfl d4' _ hsteps
end Ends
section Bodies
variable {l : Launch}
theorem vx_ofW {y : MethodName} {ws ws' : List Cond} {rm : Room} {Pc : Array Value → State → Prop} {Qc : Array Value → State → Outcome → State → Prop} {XC : String → State → State → Prop} {mc ms : Nat} {free : Addr → Prop} {cc : ByteArray} {maxL : Nat} {ret : Option FieldType}
    (hy : plainName y.cls = true) (hw : ws = Cond.code y cc maxL ret :: ws')
    (body : ∀ p e s m args below meth c s₁, BodyLoose p l y (headSpec ws rm) cc maxL ret e s m args below meth c s₁ → c.maxLocals = maxL → (∀ x ∈ c.exceptionTable.toList, False) → Pc args s →
      W p l e (headSpec ws rm).room s m args below meth c s.heap [] 0 0 (vx_MQ below Qc XC args s mc ms free) (entryFrame m args maxL)) : vx_Met l y ws rm Pc Qc XC mc ms free := by
  refine MetFree.of_bodyS (code := cc) (maxLocals := maxL) (ret := ret) hy ?_ ?_
  · intro args s m h hn
    obtain ⟨meth, c, h1, h2, h3, h4, h5, h6, -, -⟩ := Cond.code_spec hn (atoms_spec (ws := ws) h _ (by rw [hw]; exact List.mem_cons_self))
    exact ⟨meth, c, h1, h2, h3, h4, h5, h6⟩
  · intro p e s m args below meth c s₁ B hml hP _
    have hh0 : s₁.heap = s.heap := by rw [B.state]; rfl
    have ht : ∀ x ∈ c.exceptionTable.toList, False := by
      obtain ⟨meth9, c9, h1, h2, -, -, -, -, h7, -⟩ := Cond.code_spec B.named (atoms_spec (ws := ws) B.pre _ (by rw [hw]; exact List.mem_cons_self))
      cases Option.some.inj (h1.symm.trans B.method)
      cases Option.some.inj (h2.symm.trans (Stand.of_body B).code)
      intro x hx
      rw [Array.isEmpty_iff.mp h7] at hx
      cases hx
    obtain ⟨t, a1, o, b1, b2, b3⟩ := body p e s m args below meth c s₁ B hml ht hP s₁ hh0 (Stand.of_body B)
    exact ⟨t, o, a1, b1, b2, b3⟩
/-- the table of a body with handlers -/
theorem vx_table {p : Program} {x y : MethodName} {S : Spec} {cc bytes : ByteArray} {maxL maxL' : Nat} {ret ret' : Option FieldType} {e : Env} {s s₁ : State} {m : MethodId} {args : Array Value} {below : List Frame} {meth : Method} {c : Code} {hh : List (Nat × Nat × Nat × Nat)}
    (B : BodyLoose p l y S cc maxL ret e s m args below meth c s₁) (h : (Cond.codeWith y bytes maxL' ret' hh).before args s = true) : c.exceptionTable.toList = tableOf hh := by
  obtain ⟨m9, meth9, c9, hn9, h1, h2, -, -, h6, -⟩ := Cond.codeWith_spec h
  cases Option.some.inj (hn9.symm.trans B.named)
  cases Option.some.inj (h1.symm.trans B.method)
  cases Option.some.inj (h2.symm.trans (Stand.of_body B).code)
  rw [← h6, table_eq]
end Bodies
end VXA
/-! ===== END ===== -/
/-! ===== BEGIN a static call of a method with an exception table ===== -/
section VXS
variable {p : Program} {l : Launch} {e : Env} {R : Room} {s : State} {m : MethodId} {args : Array Value} {below : List Frame} {meth : Method} {c : Code} {T : State} {H : Heap} {locs : List Loc} {cells slots : Nat}
abbrev vx_CSW (R : Room) (s : State) (args : Array Value) (own : String) (index : Nat) (y : MethodName) (bytes : ByteArray) (maxL : Nat) (ret : Option FieldType) (hh : List (Nat × Nat × Nat × Nat)) (ws : List Cond) (rm : Room) (mc ms n : Nat) : Prop :=
  (rm.cells = mc ∧ rm.slots = ms ∧ rm.frames + 1 ≤ R.frames ∧ 8 + (maxL + 11) + rm.locals ≤ R.locals ∧ (∀ w ∈ ws, ∀ (a' : Array Value) (U : State), s.WarmedH U.vm → w.before a' U = true) ∧ Cond.codeWith y bytes maxL ret hh ∈ ws) ∧
  (Cond.codeWith y bytes maxL ret hh).before args s = true ∧ (Cond.initialized y.cls).before args s = true ∧ (y.cls ≠ "java/lang/invoke/MethodHandle" ∧ y.cls ≠ "java/lang/invoke/VarHandle") ∧
  (∀ sig, parseMethodDescriptor y.desc = some sig → n = sig.parameters.length) ∧ (Cond.methodLink own index y).before args s = true ∧ (Cond.static y).before args s = true
theorem vx_cwSW {own : String} {index maxL mc ms : Nat} {y : MethodName} {bytes : ByteArray} {ret : Option FieldType} {hh : List (Nat × Nat × Nat × Nat)} {Ts ws ws' : List Cond} {rm : Room} (n : Nat) (ht : ∀ w ∈ Ts, w.before args s = true) (hT : GoodIn Ts (va_wsS own index y ws)) (hw : ws = Cond.codeWith y bytes maxL ret hh :: ws') (hrc : rm.cells = mc) (hrs : rm.slots = ms)
    (hd : y.cls ≠ "java/lang/invoke/MethodHandle" ∧ y.cls ≠ "java/lang/invoke/VarHandle" ∧ (parseMethodDescriptor y.desc).map (fun d => d.parameters.length) = some n) (hR : rm.frames + 1 ≤ R.frames ∧ 8 + (maxL + 11) + rm.locals ≤ R.locals) :
    vx_CSW R s args own index y bytes maxL ret hh ws rm mc ms n := by
  have ok : ∀ w ∈ va_wsS own index y ws, w.before args s = true := fun w h => ht w (hT w h).1
  have hG : GoodIn Ts ws := fun w h => hT w (by unfold va_wsS; exact List.mem_append_right _ h)
  have hc : Cond.codeWith y bytes maxL ret hh ∈ ws := by rw [hw]; exact List.mem_cons_self
  refine ⟨⟨hrc, hrs, hR.1, hR.2, pay_in ht hG, hc⟩, ht _ (hG _ hc).1, ok _ (by simp [va_wsS]), ⟨hd.1, hd.2.1⟩, fun sig h => ?_, ok _ (by simp [va_wsS]), ok _ (by simp [va_wsS])⟩
  have h2 := hd.2.2
  rw [h] at h2
  exact (Option.some.inj h2).symm
theorem vx_callSW (X : Stand p l e R s m args below meth c T locs cells slots) (hexec : p.tables.exec = Jvm.exec) {own : String} {index : Nat} {y : MethodName} {bytes : ByteArray} {maxL : Nat} {ret : Option FieldType} {hh : List (Nat × Nat × Nat × Nat)}
    (hown : s.vm.findClass own = some m.cls) (hlink : (Cond.methodLink own index y).before args s = true) (hstat : (Cond.static y).before args s = true) (hinit : (Cond.initialized y.cls).before args s = true)
    (hcode : (Cond.codeWith y bytes maxL ret hh).before args s = true) (hy : y.cls ≠ "java/lang/invoke/MethodHandle" ∧ y.cls ≠ "java/lang/invoke/VarHandle")
    {W9 : Nat} {Pre : Pt → Array Value → Prop} {Post : Pt → Array Value → Option Value → Pt → Prop} (hK : Back l R p e below s args y 3 W9 Pre Post)
    {g : JFrame} (hg : g.method = m) (hsize : g.locals.size = c.maxLocals) {argsL rest : List Value} (hlen : ∀ sig, parseMethodDescriptor y.desc = some sig → argsL.length = sig.parameters.length)
    (hstack : g.stack = argsL.reverse ++ rest) (hW : 2 * g.monitorRoom + (rest.map fun v => v.category).sum ≤ W9) (hdg : decode c.code g.pc = .ok (.invokestatic index, 3))
    (hpre : ∀ vm₁, s.WarmedH vm₁ → Pre ⟨T.setVm vm₁, locs, cells, slots⟩ argsL.toArray) :
    ∃ (v : Option Value) (vm₁ : Vm) (B : Pt), s.WarmedH vm₁ ∧ Stand p l e R s m args below meth c B.U B.locs B.cells B.slots ∧ Post ⟨T.setVm vm₁, locs, cells, slots⟩ argsL.toArray v B ∧
      ∀ target, Steps p.tables e below (B.U.setTop { g with pc := g.pc + 3, stack := v.toList ++ rest }) target → Steps p.tables e below (T.setTop g) target := by
  obtain ⟨mk, methM, cM, hnamed, hmethM, -, -, -, -, -, -, hsigM⟩ := Cond.codeWith_spec hcode
  have hstatic : methM.isStatic = true := Cond.static_spec hnamed hmethM hstat
  obtain ⟨kP, hkP, -⟩ := className_of_methodNamed hnamed
  have hinitP : kP.init = .initialized := Cond.initialized_spec (findClass_of_methodNamed hnamed) hkP hinit
  obtain ⟨vm₁, X₁, hstep₁⟩ := X.invokestatic hexec hown hlink hnamed hmethM hstatic hkP hinitP hy (g := g) hg (argsL := argsL) (rest := rest) (hlen _ hsigM) hstack hdg
  obtain ⟨v, B, X', hpost, hsteps⟩ := hK m meth c ⟨T.setVm vm₁, locs, cells, slots⟩ { g with stack := rest } (.invokestatic index) mk argsL.toArray X₁ hg hsize hdg hW (X₁.named hnamed) (hpre vm₁ X₁.warmed)
  exact ⟨v, vm₁, B, X₁.warmed, X', hpost, fun target h => hstep₁ _ fun acts => by rw [doInvoke_state]; exact hsteps.trans h⟩
theorem vx_runSW {y : MethodName} {bytes cc : ByteArray} {maxL nL mc ms n index : Nat} {ret : Option FieldType} {hh : List (Nat × Nat × Nat × Nat)} {ws : List Cond} {rm : Room} {Pc : Array Value → State → Prop} {Qc : Array Value → State → Outcome → State → Prop} {free : Addr → Prop} {Ts : List Cond} {own : String} {As rest : List Value} {g : JFrame}
    (S : CallFix p m c cc nL s args Ts own) (hM : Met l y ws rm Pc Qc mc ms free) (cw : vx_CSW R s args own index y bytes maxL ret hh ws rm mc ms n) (hp : PreS s H Pc As)
    (hg : g.method = m) (hn : As.length = n) (hsize : g.locals.size = nL) (hstack : g.stack = As.reverse ++ rest) (hW : 2 * g.monitorRoom + (rest.map fun v => v.category).sum ≤ 8) (hdg : decode cc g.pc = .ok (.invokestatic index, 3)) (hf : cells + mc ≤ R.cells ∧ slots + ms ≤ R.slots) :
    va_Run p l e R s m args below meth c H locs cells slots mc ms g rest (Qc As.toArray) (free) := by
  obtain ⟨⟨hrc, hrs, hfr, hlo, hws, hcw⟩, hcode, hini, hy, hlen, hl, hstt⟩ := cw
  have hK : Back l R p e below s args y 3 8 (PreOf R mc ms Pc) (PostOf Qc mc ms free) := va_backW (hh := hh) (bytes := bytes) (maxL := maxL) (ret := ret) hM hp.1 hrc hrs hfr hlo hws hcw (fun a' U hW => word_at hW (Or.inl (by first | rfl | simp [Cond.onTables, Cond.keeps, Cond.steady])) hini)
  obtain ⟨hx, hb, hml, ho, -⟩ := S
  intro T hT X
  obtain ⟨v, vm₁, ⟨U', l2, c2, s2⟩, hW₁, X', ⟨g', mk, t, L, e1, e2, hq, h1, hL, h2, h3⟩, st⟩ := vx_callSW X hx (hh := hh) (bytes := bytes) (maxL := maxL) (ret := ret) ho hl hstt hini hcode hy hK hg (hsize.trans hml.symm) (argsL := As) (rest := rest) (fun sig h => hn.trans (hlen sig h)) hstack hW (by rw [hb]; exact hdg)
    (fun vm₁ hW₁ => ⟨hf.1, hf.2, hp.2 (T.setVm vm₁) hT hW₁⟩)
  dsimp only [Pt.U, Pt.locs, Pt.cells, Pt.slots] at X' e1 e2 h1 h2 h3 st
  subst h1; subst h2; subst h3
  exact ⟨v, (T.setVm vm₁).calling g' mk As.toArray, t, U', L, hT, X', hL, e1, e2, hq, st⟩
/-- not caught here, past rows that name other classes: it goes on to the caller -/
theorem vx_outP {p : Program} {l : Launch} {e : Env} {R : Room} {s : State} {m : MethodId} {args : Array Value} {below : List Frame} {meth : Method} {c : Code} {H : Heap} {locs : List Loc} {cells slots : Nat} {free : Addr → Prop} {ls : Array Slot} {rest : List Value} {Qc : Array Value → State → Outcome → State → Prop} {XC : String → State → State → Prop}
    {pc : Nat} {own E : String} {ce : Cell} {q : Addr} {mc ms : Nat} (hown : s.vm.findClass own = some m.cls) (hlocks : meth.locks = false)
    (hpass : ∀ z ∈ c.exceptionTable.toList, covers z pc = false ∨ (z.catchType ≠ 0 ∧ ∃ nm : String, (Cond.classLink own z.catchType nm).before args s = true ∧ va_Nc E nm s)) (hcell : H[q]? = some ce) (hv : ce.vm = .none) (hcl : s.vm.findClass E = some ce.cls)
    (hx : ∀ t : State, t.heap = H → s.vm.Alike t.vm → XC E s t) (hf : ∀ z ∈ locs, free z.base) (hc : cells ≤ mc) (hs : slots ≤ ms) :
    vx_W p l e R s m args below meth c H locs cells slots (vx_MQ below Qc XC args s mc ms free) (F0 m pc ls rest) q := by
  intro T hT X
  have hpl : e.platform.magicAccessors = ({} : Platform).magicAccessors := by rw [X.admits.platform]
  obtain ⟨vm', hW', X', st⟩ := X.outThrough hlocks q (g := F0 m pc ls rest) rfl rfl rfl (cell := ce) (by rw [hT]; exact hcell) (by rw [hv]; rfl)
    (by obtain ⟨k9, h9, -⟩ := Vm.findClass_spec hcl; exact ⟨k9, h9⟩) (fun z hz => by
      rcases hpass z hz with h | ⟨hz0, nm, hl1, hn1⟩
      · exact Or.inl h
      · obtain ⟨c6, hc6, hcl6⟩ := Cond.classLink_spec hown hl1 e.platform hpl
        obtain ⟨a8, b8, h1, h2, h3⟩ := hn1
        cases Option.some.inj (h1.symm.trans hcl)
        cases Option.some.inj (h2.symm.trans hc6)
        exact Or.inr ⟨hz0, _, hcl6, h3⟩)
  obtain ⟨g₀, hfr⟩ := X'.frames_eq
  have hcell9 : ((T.setVm vm').setFrames (.throwing q :: below)).heap[q]? = some ce := by
    show T.heap[q]? = some ce
    rw [hT]; exact hcell
  have hend : Ended ((T.setVm vm').setFrames (.throwing q :: below)) below (.threw q) := State.frames_setFrames _ (State.cur_lt_of_frames hfr)
  refine ⟨(T.setVm vm').setFrames (.throwing q :: below), ?_, .threw q, X'.here.running, hend, Or.inr ⟨q, rfl, E, ce, locs, hx _ hT (X'.ends _).1.alike, hcell9, hv, hcl, (X'.ends _).1, (X'.ends _).2.mono hc hs, hf⟩⟩
  rw [X.pushThrowing_eq]
  exact st
/-- a thing of a world lies in the heap -/
theorem vx_lt {D : va_G} {cl : List vw_C} {ws : va_W} {H1 : Heap} (h : va_P D cl ws H1) {k : Nat} {q : Nat × va_E} (hk : ws[k]? = some q) : q.1 < H1.size := (h k q hk).lt
end VXS
/-! ===== END ===== -/
/-! ===== BEGIN methods with a table of their own: called by a name, returning or throwing ===== -/
section VXH
/-! vx_backW, vx_callVX, vx_callSX, vx_callVW, vx_runVW, vx_runVX, vx_runSX, vx_ofWH follow the same proofs as their sisters above (Free/Laws.lean, Shelf42/LK1.lean); vx_outP calls Shelf42/NT130.lean (outThrough). -/
section
variable {l : Launch} {R : Room} {p : Program} {e : Env} {below : List Frame} {s : State} {sargs : Array Value} {y : MethodName} {len W9 : Nat}
theorem vx_backW {ws : List Cond} {rm : Room} {Pc : Array Value → State → Prop} {Qc : Array Value → State → Outcome → State → Prop} {XC : String → State → State → Prop} {mc ms : Nat} {free : Addr → Prop} {bytes : ByteArray} {maxL : Nat} {ret : Option FieldType} {hh : List (Nat × Nat × Nat × Nat)}
    (hM : vx_Met l y ws rm Pc Qc XC mc ms free) (hblind : FrameBlind Pc) (hrc : rm.cells = mc) (hrs : rm.slots = ms)
    (hframes : rm.frames + 1 ≤ R.frames) (hlocals : W9 + (maxL + 11) + rm.locals ≤ R.locals)
    (hws : ∀ w ∈ ws, ∀ a' U, s.WarmedH U.vm → w.before a' U = true) (hcode : Cond.codeWith y bytes maxL ret hh ∈ ws) (hinit : ∀ a' U, s.WarmedH U.vm → (Cond.initialized y.cls).before a' U = true) :
    vx_Back l R p e below s sargs y len W9 (PreOf R mc ms Pc) (PostOf Qc mc ms free) (vx_Post XC mc ms free) := by
  intro m meth c A g ig mk a X hg hsize hdg hW hn hp
  have h1 : (headSpec ws rm).pre.before a A.U = true := atoms_intro fun w hw => hws w hw _ _ X.warmed
  have h2 : (Cond.codeWith y bytes maxL ret hh).before a A.U = true := hws _ hcode _ _ X.warmed
  have h3 : (Cond.initialized y.cls).before a A.U = true := hinit _ _ X.warmed
  have h4 : A.cells + (headSpec ws rm).room.cells ≤ R.cells := by rw [show (headSpec ws rm).room.cells = mc from hrc]; exact hp.1
  have h5 : A.slots + (headSpec ws rm).room.slots ≤ R.slots := by rw [show (headSpec ws rm).room.slots = ms from hrs]; exact hp.2.1
  have hPc : Pc a (A.U.calling g mk a) := hblind _ _ _ _ hp.2.2
  obtain ⟨U, Ls, c0, s0⟩ := A
  dsimp only [Pt.U, Pt.locs, Pt.cells, Pt.slots] at h1 h2 h3 h4 h5 X hn hPc ⊢
  obtain ⟨m9, methY, cY, hn9, hmY, hcY, -, hlY, -⟩ := Cond.codeWith_spec h2
  cases Option.some.inj (hn9.symm.trans hn)
  obtain ⟨kY, hkY, -⟩ := className_of_methodNamed hn
  have hinitY : kY.init = .initialized := Cond.initialized_spec (findClass_of_methodNamed hn) hkY h3
  have h : At U g.method c below := by rw [hg]; exact X.here
  have hlocals9 : W9 + (maxL + 11) + (headSpec ws rm).room.locals ≤ R.locals := hlocals
  have happ : (headSpec ws rm).appliesLoose y e.platform (U.calling g mk a) = true :=
    Spec.appliesLoose_calling (g := g) h hdg hn hkY hinitY
      (X.room_calling (g := g) (R' := (headSpec ws rm).room) hsize hmY hcY hframes (by rw [hlY]; omega) h4 h5) h1
  obtain ⟨mid, hmid⟩ := h.above
  have hfr : (U.setTop g).frames = (.java g :: mid) ++ below := by rw [State.frames_setTop' g h.top, hmid]; rfl
  obtain ⟨o, s₂, hsteps, -, hend, hq⟩ := Steps.callFree hM p X.admits X.cas X.clock (acts := []) hfr happ hPc trivial
  have hq' : vx_Q Qc XC mc ms free a (U.calling g mk a) o s₂ := hq
  rw [State.frames_setTop' g h.top] at hend
  obtain ⟨g₀, hg0⟩ := Option.isSome_iff_exists.mp h.top
  obtain ⟨r, hr⟩ := State.topJava?_eq_some.mp hg0
  have hr' : (({ U with heap := s₂.heap, slotsUsed := s₂.slotsUsed } : State).setVm s₂.vm).frames = .java g₀ :: r := hr
  rcases hq' with ⟨hqc, L, hfe, hL⟩ | ⟨q, rfl, E, ce, L, hx, hce, hcv, hcl, hW₂, hsm, hL⟩
  · obtain ⟨⟨v, rfl⟩, hW₂, e2, q2, q3, q4, q5, q6⟩ := id hfe
    have e3 : s₂ = ({ (U.calling g mk a).setFrames s₂.frames with heap := s₂.heap, slotsUsed := s₂.slotsUsed } : State).setVm s₂.vm := by
      have : s₂ = ({ s₂ with vm := (U.calling g mk a).vm } : State).setVm s₂.vm := rfl
      rw [e2] at this
      exact this
    obtain ⟨c₂, i₂, len₂, hc₂, hd₂, hf₂⟩ := hend
    have hW' : U.WarmedH s₂.vm := hW₂
    have hcc : c₂ = c := by
      have h1 : s₂.code? g.method = U.code? g.method := by
        rw [State.code?_eq, State.code?_eq, hW'.alike.method?]
      exact Option.some.inj (hc₂.symm.trans (h1.trans h.code))
    subst hcc
    have hlen : len₂ = len := by rw [hdg] at hd₂; cases hd₂; rfl
    subst hlen
    have hs₂ : s₂ = (({ U with heap := s₂.heap, slotsUsed := s₂.slotsUsed } : State).setVm s₂.vm).setTop { g with pc := g.pc + len₂, stack := v.toList ++ g.stack } := by
      refine e3.trans ?_
      rw [hf₂, State.calling_eq h.top, State.setFrames_setFrames, State.setTop_of_frames _ hr', hr]
      rfl
    have hsame : U.sameButNew ({ U with heap := s₂.heap, slotsUsed := s₂.slotsUsed } : State) L mc ms := by
      refine ⟨?_, q2, q3, q4, q5, q6⟩
      obtain ⟨t, ht, -⟩ := State.frames_cons hr
      show ({ U with heap := s₂.heap, slotsUsed := s₂.slotsUsed } : State) = { U.setFrames U.frames with heap := s₂.heap, slotsUsed := s₂.slotsUsed }
      rw [State.setFrames_self ht]
    subst hg
    refine Or.inl ⟨v, ⟨(({ U with heap := s₂.heap, slotsUsed := s₂.slotsUsed } : State).setVm s₂.vm), Ls ++ L, c0 + mc, s0 + ms⟩,
      ⟨X.admits, X.cas, X.clock, X.frames, X.room, X.hears, X.method, X.code, (X.here.setHeapUsed s₂.heap s₂.slotsUsed).setVm hW'.alike, X.tail, State.WarmedH.trans X.warmed hW', X.limits, X.bytes, X.same.trans (hsame.setVm s.vm)⟩,
      ⟨g, mk, s₂, L, rfl, rfl, hqc, rfl, hL, rfl, rfl⟩, ?_⟩
    show Steps p.tables e below _ ((({ U with heap := s₂.heap, slotsUsed := s₂.slotsUsed } : State).setVm s₂.vm).setTop { g with pc := g.pc + len₂, stack := v.toList ++ g.stack })
    rw [← hs₂]
    exact hsteps
  · obtain ⟨e2, q2, q3, q4, q5, q6⟩ := id hsm
    have e3 : s₂ = ({ (U.calling g mk a).setFrames s₂.frames with heap := s₂.heap, slotsUsed := s₂.slotsUsed } : State).setVm s₂.vm := by
      have : s₂ = ({ s₂ with vm := (U.calling g mk a).vm } : State).setVm s₂.vm := rfl
      rw [e2] at this
      exact this
    have hf₂ : s₂.frames = .throwing q :: .java g :: U.frames.tail := hend
    have hW' : U.WarmedH s₂.vm := hW₂
    have hs₂ : s₂ = ((({ U with heap := s₂.heap, slotsUsed := s₂.slotsUsed } : State).setVm s₂.vm).setTop g).pushFrame (.throwing q) := by
      refine e3.trans ?_
      rw [hf₂, State.calling_eq h.top, State.setFrames_setFrames, State.pushFrame, State.frames_setTop _ hr', State.setTop_of_frames _ hr', State.setFrames_setFrames, hr]
      rfl
    have hsame : U.sameButNew ({ U with heap := s₂.heap, slotsUsed := s₂.slotsUsed } : State) L mc ms := by
      refine ⟨?_, q2, q3, q4, q5, q6⟩
      obtain ⟨t, ht, -⟩ := State.frames_cons hr
      show ({ U with heap := s₂.heap, slotsUsed := s₂.slotsUsed } : State) = { U.setFrames U.frames with heap := s₂.heap, slotsUsed := s₂.slotsUsed }
      rw [State.setFrames_self ht]
    subst hg
    refine Or.inr ⟨q, ⟨(({ U with heap := s₂.heap, slotsUsed := s₂.slotsUsed } : State).setVm s₂.vm), Ls ++ L, c0 + mc, s0 + ms⟩,
      ⟨X.admits, X.cas, X.clock, X.frames, X.room, X.hears, X.method, X.code, (X.here.setHeapUsed s₂.heap s₂.slotsUsed).setVm hW'.alike, X.tail, State.WarmedH.trans X.warmed hW', X.limits, X.bytes, X.same.trans (hsame.setVm s.vm)⟩,
      ⟨g, mk, s₂, L, E, ce, rfl, rfl, hx, hce, hcv, hcl, rfl, hL, rfl, rfl⟩, ?_⟩
    show Steps p.tables e below _ (((({ U with heap := s₂.heap, slotsUsed := s₂.slotsUsed } : State).setVm s₂.vm).setTop g).pushFrame (.throwing q))
    rw [← hs₂]
    exact hsteps
end
variable {p : Program} {l : Launch} {e : Env} {R : Room} {s : State} {m : MethodId} {args : Array Value} {below : List Frame} {meth : Method} {c : Code} {T : State} {H : Heap} {locs : List Loc} {cells slots : Nat}
theorem vx_callVX (X : Stand p l e R s m args below meth c T locs cells slots) (hexec : p.tables.exec = Jvm.exec) {own C : String} {index : Nat} {y : MethodName} {bytes : ByteArray} {maxL : Nat} {ret : Option FieldType} {hh : List (Nat × Nat × Nat × Nat)}
    (hown : s.vm.findClass own = some m.cls) (hlink : (Cond.methodLink own index y).before args s = true) (hinst : (Cond.instanceMethod y).before args s = true) (hsel : (Cond.selects C y y).before args s = true)
    (hcode : (Cond.codeWith y bytes maxL ret hh).before args s = true) (hy : y.cls ≠ "java/lang/invoke/MethodHandle" ∧ y.cls ≠ "java/lang/invoke/VarHandle")
    {W9 : Nat} {Pre : Pt → Array Value → Prop} {Post : Pt → Array Value → Option Value → Pt → Prop} {PostX : Pt → Array Value → Addr → Pt → Prop} (hK : vx_Back l R p e below s args y 3 W9 Pre Post PostX)
    {b : Addr} {cellB : Cell} (hcell : T.heap[b]? = some cellB) (hobj : cellB.vm.isStatics = false) (hcls : s.vm.findClass C = some cellB.cls)
    {g : JFrame} (hg : g.method = m) (hsize : g.locals.size = c.maxLocals) {argsL rest : List Value} (hlen : ∀ sig, parseMethodDescriptor y.desc = some sig → argsL.length = sig.parameters.length)
    (hstack : g.stack = argsL.reverse ++ .ref b :: rest) (hW : 2 * g.monitorRoom + (rest.map fun v => v.category).sum ≤ W9) (hdg : decode c.code g.pc = .ok (.invokevirtual index, 3))
    (hpre : ∀ vm₁, s.WarmedH vm₁ → Pre ⟨T.setVm vm₁, locs, cells, slots⟩ (Value.ref b :: argsL).toArray) :
    (∃ (v : Option Value) (vm₁ : Vm) (B : Pt), s.WarmedH vm₁ ∧ Stand p l e R s m args below meth c B.U B.locs B.cells B.slots ∧ Post ⟨T.setVm vm₁, locs, cells, slots⟩ (Value.ref b :: argsL).toArray v B ∧
      ∀ target, Steps p.tables e below (B.U.setTop { g with pc := g.pc + 3, stack := v.toList ++ rest }) target → Steps p.tables e below (T.setTop g) target) ∨
    (∃ (q : Addr) (vm₁ : Vm) (B : Pt), s.WarmedH vm₁ ∧ Stand p l e R s m args below meth c B.U B.locs B.cells B.slots ∧ PostX ⟨T.setVm vm₁, locs, cells, slots⟩ (Value.ref b :: argsL).toArray q B ∧
      Steps p.tables e below (T.setTop g) ((B.U.setTop { g with stack := rest }).pushFrame (.throwing q))) := by
  obtain ⟨mk, methM, hnamed, hmethM, hstM, habM⟩ := Cond.instanceMethod_spec hinst
  obtain ⟨m8, methM', cM, hn8, hmethM', -, -, -, -, -, -, hsigM⟩ := Cond.codeWith_spec hcode
  cases Option.some.inj (hn8.symm.trans hnamed)
  cases hmethM.symm.trans hmethM'
  obtain ⟨c2, r2, m2, q1, q2, q3, q4, kP, hkP, hkPi⟩ := Cond.selects_spec hsel
  cases hcls.symm.trans q1
  cases (State.methodFound?_of_named hnamed hy).symm.trans q2
  cases hnamed.symm.trans q3
  have hselP : selectMethod e.platform s.vm cellB.cls mk = .method mk := by rw [Launch.admits_selectMethod X.admits]; exact q4
  obtain ⟨vm₁, X₁, hstep₁⟩ := X.invokevirtual hexec hown hlink hnamed hmethM hstM hkP hkPi hy (a := b) (cell := cellB) hcell
    (fun z h => by rw [h] at hobj; cases hobj) hselP hmethM habM hkP hkPi (g := g) hg (argsL := argsL) (rest := rest) (hlen _ hsigM) hstack hdg
  rcases hK m meth c ⟨T.setVm vm₁, locs, cells, slots⟩ { g with stack := rest } (.invokevirtual index) mk (Value.ref b :: argsL).toArray X₁ hg hsize hdg hW (X₁.named hnamed) (hpre vm₁ X₁.warmed) with ⟨v, B, X', hpost, hsteps⟩ | ⟨q, B, X', hpost, hsteps⟩
  · exact Or.inl ⟨v, vm₁, B, X₁.warmed, X', hpost, fun target h => hstep₁ _ fun acts => by rw [doInvoke_state]; exact hsteps.trans h⟩
  · exact Or.inr ⟨q, vm₁, B, X₁.warmed, X', hpost, hstep₁ _ fun acts => by rw [doInvoke_state]; exact hsteps⟩
theorem vx_callSX (X : Stand p l e R s m args below meth c T locs cells slots) (hexec : p.tables.exec = Jvm.exec) {own : String} {index : Nat} {y : MethodName} {bytes : ByteArray} {maxL : Nat} {ret : Option FieldType} {hh : List (Nat × Nat × Nat × Nat)}
    (hown : s.vm.findClass own = some m.cls) (hlink : (Cond.methodLink own index y).before args s = true) (hstat : (Cond.static y).before args s = true) (hinit : (Cond.initialized y.cls).before args s = true)
    (hcode : (Cond.codeWith y bytes maxL ret hh).before args s = true) (hy : y.cls ≠ "java/lang/invoke/MethodHandle" ∧ y.cls ≠ "java/lang/invoke/VarHandle")
    {W9 : Nat} {Pre : Pt → Array Value → Prop} {Post : Pt → Array Value → Option Value → Pt → Prop} {PostX : Pt → Array Value → Addr → Pt → Prop} (hK : vx_Back l R p e below s args y 3 W9 Pre Post PostX)
    {g : JFrame} (hg : g.method = m) (hsize : g.locals.size = c.maxLocals) {argsL rest : List Value} (hlen : ∀ sig, parseMethodDescriptor y.desc = some sig → argsL.length = sig.parameters.length)
    (hstack : g.stack = argsL.reverse ++ rest) (hW : 2 * g.monitorRoom + (rest.map fun v => v.category).sum ≤ W9) (hdg : decode c.code g.pc = .ok (.invokestatic index, 3))
    (hpre : ∀ vm₁, s.WarmedH vm₁ → Pre ⟨T.setVm vm₁, locs, cells, slots⟩ argsL.toArray) :
    (∃ (v : Option Value) (vm₁ : Vm) (B : Pt), s.WarmedH vm₁ ∧ Stand p l e R s m args below meth c B.U B.locs B.cells B.slots ∧ Post ⟨T.setVm vm₁, locs, cells, slots⟩ argsL.toArray v B ∧
      ∀ target, Steps p.tables e below (B.U.setTop { g with pc := g.pc + 3, stack := v.toList ++ rest }) target → Steps p.tables e below (T.setTop g) target) ∨
    (∃ (q : Addr) (vm₁ : Vm) (B : Pt), s.WarmedH vm₁ ∧ Stand p l e R s m args below meth c B.U B.locs B.cells B.slots ∧ PostX ⟨T.setVm vm₁, locs, cells, slots⟩ argsL.toArray q B ∧
      Steps p.tables e below (T.setTop g) ((B.U.setTop { g with stack := rest }).pushFrame (.throwing q))) := by
  obtain ⟨mk, methM, cM, hnamed, hmethM, -, -, -, -, -, -, hsigM⟩ := Cond.codeWith_spec hcode
  have hstatic : methM.isStatic = true := Cond.static_spec hnamed hmethM hstat
  obtain ⟨kP, hkP, -⟩ := className_of_methodNamed hnamed
  have hinitP : kP.init = .initialized := Cond.initialized_spec (findClass_of_methodNamed hnamed) hkP hinit
  obtain ⟨vm₁, X₁, hstep₁⟩ := X.invokestatic hexec hown hlink hnamed hmethM hstatic hkP hinitP hy (g := g) hg (argsL := argsL) (rest := rest) (hlen _ hsigM) hstack hdg
  rcases hK m meth c ⟨T.setVm vm₁, locs, cells, slots⟩ { g with stack := rest } (.invokestatic index) mk argsL.toArray X₁ hg hsize hdg hW (X₁.named hnamed) (hpre vm₁ X₁.warmed) with ⟨v, B, X', hpost, hsteps⟩ | ⟨q, B, X', hpost, hsteps⟩
  · exact Or.inl ⟨v, vm₁, B, X₁.warmed, X', hpost, fun target h => hstep₁ _ fun acts => by rw [doInvoke_state]; exact hsteps.trans h⟩
  · exact Or.inr ⟨q, vm₁, B, X₁.warmed, X', hpost, hstep₁ _ fun acts => by rw [doInvoke_state]; exact hsteps⟩
theorem vx_callVW (X : Stand p l e R s m args below meth c T locs cells slots) (hexec : p.tables.exec = Jvm.exec) {own C : String} {index : Nat} {y : MethodName} {bytes : ByteArray} {maxL : Nat} {ret : Option FieldType} {hh : List (Nat × Nat × Nat × Nat)}
    (hown : s.vm.findClass own = some m.cls) (hlink : (Cond.methodLink own index y).before args s = true) (hinst : (Cond.instanceMethod y).before args s = true) (hsel : (Cond.selects C y y).before args s = true)
    (hcode : (Cond.codeWith y bytes maxL ret hh).before args s = true) (hy : y.cls ≠ "java/lang/invoke/MethodHandle" ∧ y.cls ≠ "java/lang/invoke/VarHandle")
    {W9 : Nat} {Pre : Pt → Array Value → Prop} {Post : Pt → Array Value → Option Value → Pt → Prop} (hK : Back l R p e below s args y 3 W9 Pre Post)
    {b : Addr} {cellB : Cell} (hcell : T.heap[b]? = some cellB) (hobj : cellB.vm.isStatics = false) (hcls : s.vm.findClass C = some cellB.cls)
    {g : JFrame} (hg : g.method = m) (hsize : g.locals.size = c.maxLocals) {argsL rest : List Value} (hlen : ∀ sig, parseMethodDescriptor y.desc = some sig → argsL.length = sig.parameters.length)
    (hstack : g.stack = argsL.reverse ++ .ref b :: rest) (hW : 2 * g.monitorRoom + (rest.map fun v => v.category).sum ≤ W9) (hdg : decode c.code g.pc = .ok (.invokevirtual index, 3))
    (hpre : ∀ vm₁, s.WarmedH vm₁ → Pre ⟨T.setVm vm₁, locs, cells, slots⟩ (Value.ref b :: argsL).toArray) :
    ∃ (v : Option Value) (vm₁ : Vm) (B : Pt), s.WarmedH vm₁ ∧ Stand p l e R s m args below meth c B.U B.locs B.cells B.slots ∧ Post ⟨T.setVm vm₁, locs, cells, slots⟩ (Value.ref b :: argsL).toArray v B ∧
      ∀ target, Steps p.tables e below (B.U.setTop { g with pc := g.pc + 3, stack := v.toList ++ rest }) target → Steps p.tables e below (T.setTop g) target := by
  obtain ⟨mk, methM, hnamed, hmethM, hstM, habM⟩ := Cond.instanceMethod_spec hinst
  obtain ⟨m8, methM', cM, hn8, hmethM', -, -, -, -, -, -, hsigM⟩ := Cond.codeWith_spec hcode
  cases Option.some.inj (hn8.symm.trans hnamed)
  cases hmethM.symm.trans hmethM'
  obtain ⟨c2, r2, m2, q1, q2, q3, q4, kP, hkP, hkPi⟩ := Cond.selects_spec hsel
  cases hcls.symm.trans q1
  cases (State.methodFound?_of_named hnamed hy).symm.trans q2
  cases hnamed.symm.trans q3
  have hselP : selectMethod e.platform s.vm cellB.cls mk = .method mk := by rw [Launch.admits_selectMethod X.admits]; exact q4
  obtain ⟨vm₁, X₁, hstep₁⟩ := X.invokevirtual hexec hown hlink hnamed hmethM hstM hkP hkPi hy (a := b) (cell := cellB) hcell
    (fun z h => by rw [h] at hobj; cases hobj) hselP hmethM habM hkP hkPi (g := g) hg (argsL := argsL) (rest := rest) (hlen _ hsigM) hstack hdg
  obtain ⟨v, B, X', hpost, hsteps⟩ := hK m meth c ⟨T.setVm vm₁, locs, cells, slots⟩ { g with stack := rest } (.invokevirtual index) mk (Value.ref b :: argsL).toArray X₁ hg hsize hdg hW (X₁.named hnamed) (hpre vm₁ X₁.warmed)
  exact ⟨v, vm₁, B, X₁.warmed, X', hpost, fun target h => hstep₁ _ fun acts => by rw [doInvoke_state]; exact hsteps.trans h⟩
abbrev vx_CVW (R : Room) (s : State) (args : Array Value) (own C : String) (index : Nat) (y : MethodName) (bytes : ByteArray) (maxL : Nat) (ret : Option FieldType) (hh : List (Nat × Nat × Nat × Nat)) (ws : List Cond) (rm : Room) (mc ms n : Nat) : Prop :=
  (rm.cells = mc ∧ rm.slots = ms ∧ rm.frames + 1 ≤ R.frames ∧ 8 + (maxL + 11) + rm.locals ≤ R.locals ∧ (∀ w ∈ ws, ∀ (a' : Array Value) (U : State), s.WarmedH U.vm → w.before a' U = true) ∧ Cond.codeWith y bytes maxL ret hh ∈ ws) ∧
  (Cond.codeWith y bytes maxL ret hh).before args s = true ∧ (Cond.initialized y.cls).before args s = true ∧ (y.cls ≠ "java/lang/invoke/MethodHandle" ∧ y.cls ≠ "java/lang/invoke/VarHandle") ∧
  (∀ sig, parseMethodDescriptor y.desc = some sig → n = sig.parameters.length) ∧ (Cond.methodLink own index y).before args s = true ∧ (Cond.instanceMethod y).before args s = true ∧ (Cond.selects C y y).before args s = true
theorem vx_cwVW {own C : String} {index maxL mc ms : Nat} {y : MethodName} {bytes : ByteArray} {ret : Option FieldType} {hh : List (Nat × Nat × Nat × Nat)} {Ts ws ws' : List Cond} {rm : Room} (n : Nat) (ht : ∀ w ∈ Ts, w.before args s = true) (hT : GoodIn Ts (wsV own index C y ws)) (hw : ws = Cond.codeWith y bytes maxL ret hh :: ws') (hrc : rm.cells = mc) (hrs : rm.slots = ms)
    (hd : y.cls = C ∧ y.cls ≠ "java/lang/invoke/MethodHandle" ∧ y.cls ≠ "java/lang/invoke/VarHandle" ∧ (parseMethodDescriptor y.desc).map (fun d => d.parameters.length) = some n) (hR : rm.frames + 1 ≤ R.frames ∧ 8 + (maxL + 11) + rm.locals ≤ R.locals) :
    vx_CVW R s args own C index y bytes maxL ret hh ws rm mc ms n := by
  obtain ⟨hC, hd⟩ := hd
  subst hC
  have ok : ∀ w ∈ wsV own index y.cls y ws, w.before args s = true := fun w h => ht w (hT w h).1
  have hG : GoodIn Ts ws := fun w h => hT w (by unfold wsV; exact List.mem_append_right _ h)
  have hc : Cond.codeWith y bytes maxL ret hh ∈ ws := by rw [hw]; exact List.mem_cons_self
  refine ⟨⟨hrc, hrs, hR.1, hR.2, pay_in ht hG, hc⟩, ht _ (hG _ hc).1, ok _ (by simp [wsV]), ⟨hd.1, hd.2.1⟩, fun sig h => ?_, ok _ (by simp [wsV]), ok _ (by simp [wsV]), ok _ (by simp [wsV])⟩
  have h2 := hd.2.2
  rw [h] at h2
  exact (Option.some.inj h2).symm
theorem vx_runVW {y : MethodName} {bytes cc : ByteArray} {maxL nL mc ms n index : Nat} {ret : Option FieldType} {hh : List (Nat × Nat × Nat × Nat)} {ws : List Cond} {rm : Room} {Pc : Array Value → State → Prop} {Qc : Array Value → State → Outcome → State → Prop} {free : Addr → Prop} {Ts : List Cond} {own C : String} {b : Addr} {As rest : List Value} {g : JFrame}
    (S : CallFix p m c cc nL s args Ts own) (hM : Met l y ws rm Pc Qc mc ms free) (cw : vx_CVW R s args own C index y bytes maxL ret hh ws rm mc ms n) (hp : PreV s H C b Pc As)
    (hg : g.method = m) (hn : As.length = n) (hsize : g.locals.size = nL) (hstack : g.stack = As.reverse ++ .ref b :: rest) (hW : 2 * g.monitorRoom + (rest.map fun v => v.category).sum ≤ 8) (hdg : decode cc g.pc = .ok (.invokevirtual index, 3)) (hf : cells + mc ≤ R.cells ∧ slots + ms ≤ R.slots) :
    va_Run p l e R s m args below meth c H locs cells slots mc ms g rest (Qc (Value.ref b :: As).toArray) free := by
  obtain ⟨⟨hrc, hrs, hfr, hlo, hws, hcw⟩, hcode, hini, hy, hlen, hl, hin, hse⟩ := cw
  have hK : Back l R p e below s args y 3 8 (PreOf R mc ms Pc) (PostOf Qc mc ms free) := va_backW (hh := hh) (bytes := bytes) (maxL := maxL) (ret := ret) hM hp.1 hrc hrs hfr hlo hws hcw (fun a' U hW => word_at hW (Or.inl (by first | rfl | simp [Cond.onTables, Cond.keeps, Cond.steady])) hini)
  obtain ⟨hx, hb, hml, ho, -⟩ := S
  obtain ⟨-, ⟨cellB, hcB, hoB, hclB⟩, hPc⟩ := hp
  intro T hT X
  obtain ⟨v, vm₁, ⟨U', l2, c2, s2⟩, hW₁, X', ⟨g', mk, t, L, e1, e2, hq, h1, hL, h2, h3⟩, st⟩ := vx_callVW X hx (C := C) (hh := hh) (bytes := bytes) (maxL := maxL) (ret := ret) ho hl hin hse hcode hy hK (by rw [hT]; exact hcB) hoB hclB hg (hsize.trans hml.symm) (argsL := As) (rest := rest) (fun sig h => hn.trans (hlen sig h)) hstack hW (by rw [hb]; exact hdg)
    (fun vm₁ hW₁ => ⟨hf.1, hf.2, hPc (T.setVm vm₁) hT hW₁⟩)
  dsimp only [Pt.U, Pt.locs, Pt.cells, Pt.slots] at X' e1 e2 h1 h2 h3 st
  subst h1; subst h2; subst h3
  exact ⟨v, (T.setVm vm₁).calling g' mk (Value.ref b :: As).toArray, t, U', L, hT, X', hL, e1, e2, hq, st⟩
section
variable {y : MethodName} {bytes cc : ByteArray} {maxL nL mc ms n index : Nat} {ret : Option FieldType} {ws : List Cond} {rm : Room} {Pc : Array Value → State → Prop} {Qc : Array Value → State → Outcome → State → Prop} {XC : String → State → State → Prop} {free : Addr → Prop} {Ts : List Cond} {own C : String} {b : Addr} {As rest : List Value} {g : JFrame}
theorem vx_runVX {hh : List (Nat × Nat × Nat × Nat)} (S : CallFix p m c cc nL s args Ts own) (hM : vx_Met l y ws rm Pc Qc XC mc ms free) (cw : vx_CVW R s args own C index y bytes maxL ret hh ws rm mc ms n) (hp : PreV s H C b Pc As)
    (hg : g.method = m) (hn : As.length = n) (hsize : g.locals.size = nL) (hstack : g.stack = As.reverse ++ .ref b :: rest) (hW : 2 * g.monitorRoom + (rest.map fun v => v.category).sum ≤ 8) (hdg : decode cc g.pc = .ok (.invokevirtual index, 3)) (hf : cells + mc ≤ R.cells ∧ slots + ms ≤ R.slots) :
    vx_Run p l e R s m args below meth c H locs cells slots mc ms g rest (Qc (Value.ref b :: As).toArray) XC free := by
  obtain ⟨⟨hrc, hrs, hfr, hlo, hws, hcw⟩, hcode, hini, hy, hlen, hl, hin, hse⟩ := cw
  have hK : vx_Back l R p e below s args y 3 8 (PreOf R mc ms Pc) (PostOf Qc mc ms free) (vx_Post XC mc ms free) := vx_backW (hh := hh) (bytes := bytes) (maxL := maxL) (ret := ret) hM hp.1 hrc hrs hfr hlo hws hcw (fun a' U hW => word_at hW (Or.inl (by first | rfl | simp [Cond.onTables, Cond.keeps, Cond.steady])) hini)
  obtain ⟨hx, hb, hml, ho, -⟩ := S
  obtain ⟨-, ⟨cellB, hcB, hoB, hclB⟩, hPc⟩ := hp
  intro T hT X
  rcases vx_callVX X hx (C := C) (hh := hh) (bytes := bytes) (maxL := maxL) (ret := ret) ho hl hin hse hcode hy hK (by rw [hT]; exact hcB) hoB hclB hg (hsize.trans hml.symm) (argsL := As) (rest := rest) (fun sig h => hn.trans (hlen sig h)) hstack hW (by rw [hb]; exact hdg)
    (fun vm₁ hW₁ => ⟨hf.1, hf.2, hPc (T.setVm vm₁) hT hW₁⟩) with ⟨v, vm₁, ⟨U', l2, c2, s2⟩, hW₁, X', ⟨g', mk, t, L, e1, e2, hq, h1, hL, h2, h3⟩, st⟩ | ⟨q, vm₁, ⟨U', l2, c2, s2⟩, hW₁, X', ⟨g', mk, t, L, E, ce, e1, e2, hq, hce, hcv, hcl, h1, hL, h2, h3⟩, st⟩
  · dsimp only [Pt.U, Pt.locs, Pt.cells, Pt.slots] at X' e1 e2 h1 h2 h3 st
    subst h1; subst h2; subst h3
    exact Or.inl ⟨v, (T.setVm vm₁).calling g' mk (Value.ref b :: As).toArray, t, U', L, hT, X', hL, e1, e2, hq, st⟩
  · dsimp only [Pt.U, Pt.locs, Pt.cells, Pt.slots] at X' e1 e2 h1 h2 h3 st hcl
    subst h1; subst h2; subst h3
    exact Or.inr ⟨q, (T.setVm vm₁).calling g' mk (Value.ref b :: As).toArray, t, U', L, E, ce, hT, X', hL, e1, e2, hq, hce, hcv, vx_cls hW₁ hcl, st⟩
theorem vx_runSX {hh : List (Nat × Nat × Nat × Nat)} (S : CallFix p m c cc nL s args Ts own) (hM : vx_Met l y ws rm Pc Qc XC mc ms free) (cw : vx_CSW R s args own index y bytes maxL ret hh ws rm mc ms n) (hp : PreS s H Pc As)
    (hg : g.method = m) (hn : As.length = n) (hsize : g.locals.size = nL) (hstack : g.stack = As.reverse ++ rest) (hW : 2 * g.monitorRoom + (rest.map fun v => v.category).sum ≤ 8) (hdg : decode cc g.pc = .ok (.invokestatic index, 3)) (hf : cells + mc ≤ R.cells ∧ slots + ms ≤ R.slots) :
    vx_Run p l e R s m args below meth c H locs cells slots mc ms g rest (Qc As.toArray) XC free := by
  obtain ⟨⟨hrc, hrs, hfr, hlo, hws, hcw⟩, hcode, hini, hy, hlen, hl, hstt⟩ := cw
  have hK : vx_Back l R p e below s args y 3 8 (PreOf R mc ms Pc) (PostOf Qc mc ms free) (vx_Post XC mc ms free) := vx_backW (hh := hh) (bytes := bytes) (maxL := maxL) (ret := ret) hM hp.1 hrc hrs hfr hlo hws hcw (fun a' U hW => word_at hW (Or.inl (by first | rfl | simp [Cond.onTables, Cond.keeps, Cond.steady])) hini)
  obtain ⟨hx, hb, hml, ho, -⟩ := S
  intro T hT X
  rcases vx_callSX X hx (hh := hh) (bytes := bytes) (maxL := maxL) (ret := ret) ho hl hstt hini hcode hy hK hg (hsize.trans hml.symm) (argsL := As) (rest := rest) (fun sig h => hn.trans (hlen sig h)) hstack hW (by rw [hb]; exact hdg)
    (fun vm₁ hW₁ => ⟨hf.1, hf.2, hp.2 (T.setVm vm₁) hT hW₁⟩) with ⟨v, vm₁, ⟨U', l2, c2, s2⟩, hW₁, X', ⟨g', mk, t, L, e1, e2, hq, h1, hL, h2, h3⟩, st⟩ | ⟨q, vm₁, ⟨U', l2, c2, s2⟩, hW₁, X', ⟨g', mk, t, L, E, ce, e1, e2, hq, hce, hcv, hcl, h1, hL, h2, h3⟩, st⟩
  · dsimp only [Pt.U, Pt.locs, Pt.cells, Pt.slots] at X' e1 e2 h1 h2 h3 st
    subst h1; subst h2; subst h3
    exact Or.inl ⟨v, (T.setVm vm₁).calling g' mk As.toArray, t, U', L, hT, X', hL, e1, e2, hq, st⟩
  · dsimp only [Pt.U, Pt.locs, Pt.cells, Pt.slots] at X' e1 e2 h1 h2 h3 st hcl
    subst h1; subst h2; subst h3
    exact Or.inr ⟨q, (T.setVm vm₁).calling g' mk As.toArray, t, U', L, E, ce, hT, X', hL, e1, e2, hq, hce, hcv, vx_cls hW₁ hcl, st⟩
end
end VXH
theorem vx_ofWH {l : Launch} {y : MethodName} {ws ws' : List Cond} {rm : Room} {Pc : Array Value → State → Prop} {Qc : Array Value → State → Outcome → State → Prop} {XC : String → State → State → Prop} {mc ms : Nat} {free : Addr → Prop} {cc : ByteArray} {maxL : Nat} {ret : Option FieldType} {hh : List (Nat × Nat × Nat × Nat)}
    (hy : plainName y.cls = true) (hw : ws = Cond.codeWith y cc maxL ret hh :: ws')
    (body : ∀ p e s m args below meth c s₁, BodyLoose p l y (headSpec ws rm) cc maxL ret e s m args below meth c s₁ → c.maxLocals = maxL → Pc args s →
      W p l e (headSpec ws rm).room s m args below meth c s.heap [] 0 0 (vx_MQ below Qc XC args s mc ms free) (entryFrame m args maxL)) : vx_Met l y ws rm Pc Qc XC mc ms free := by
  refine MetFree.of_bodyS (code := cc) (maxLocals := maxL) (ret := ret) hy ?_ ?_
  · intro args s m h hn
    obtain ⟨m9, meth, c, hn9, h1, h2, h3, h4, -, h5, h6, -⟩ := Cond.codeWith_spec (atoms_spec (ws := ws) h _ (by rw [hw]; exact List.mem_cons_self))
    cases hn.symm.trans hn9
    exact ⟨meth, c, h1, h2, h3, h4, h5, h6⟩
  · intro p e s m args below meth c s₁ B hml hP _
    have hh0 : s₁.heap = s.heap := by rw [B.state]; rfl
    obtain ⟨t, a1, o, b1, b2, b3⟩ := body p e s m args below meth c s₁ B hml hP s₁ hh0 (Stand.of_body B)
    exact ⟨t, o, a1, b1, b2, b3⟩
/-! ===== END ===== -/
end
section
def RX0 : String := "CakesToTheWatched$Fete"
def TX0 : u_T := fun k => match k with
  | 0 => ("CakesToTheWatched$Fete", "people", "[LCakesToTheWatched$Person;", true)
  | 1 => ("CakesToTheWatched$Fete", "size", "I", false)
  | 2 => ("CakesToTheWatched$Fete", "slicesLeft", "I", false)
  | _ => ("CakesToTheWatched$Fete", "step", "I", false)
def tyX0 : Nat → FieldType := fun k => match k with
  | 0 => .array (.object "CakesToTheWatched$Person")
  | 1 => .int
  | 2 => .int
  | _ => .int
abbrev wsX00 : List Cond := u_ws RX0 TX0 4
theorem nmX0 : ∀ a, a < 4 → ∀ b, b < 4 → a ≠ b → (TX0 a).2.1 ≠ (TX0 b).2.1 := by decide +kernel
theorem tyX0_ok : ∀ k, k < 4 → parseFieldDescriptor (TX0 k).2.2.1 = some (tyX0 k) := by decide +kernel
abbrev cX0_init : ByteArray := prog_2_method_1_code
def yX0_init : MethodName := ⟨RX0, "<init>", "()V"⟩
abbrev cX0_becomes : ByteArray := prog_2_method_2_code
def yX0_becomes : MethodName := ⟨RX0, "becomes", "(LCakesToTheWatched$Fete;)V"⟩
abbrev cX0_isThere : ByteArray := prog_2_method_3_code
def yX0_isThere : MethodName := ⟨RX0, "isThere", "(I)Z"⟩
abbrev cX0_areTwo : ByteArray := prog_2_method_4_code
def yX0_areTwo : MethodName := ⟨RX0, "areTwo", "(II)Z"⟩
abbrev cX0_takeIn : ByteArray := prog_2_method_5_code
def yX0_takeIn : MethodName := ⟨RX0, "takeIn", "(LCakesToTheWatched$Kind;III)Z"⟩
abbrev cX0_canEat : ByteArray := prog_2_method_6_code
def yX0_canEat : MethodName := ⟨RX0, "canEat", "(II)Z"⟩
abbrev cX0_mayTurn : ByteArray := prog_2_method_7_code
def yX0_mayTurn : MethodName := ⟨RX0, "mayTurn", "(II)Z"⟩
abbrev cX0_joyOfEating : ByteArray := prog_2_method_8_code
def yX0_joyOfEating : MethodName := ⟨RX0, "joyOfEating", "(II)I"⟩
abbrev cX0_joyOfLooking : ByteArray := prog_2_method_9_code
def yX0_joyOfLooking : MethodName := ⟨RX0, "joyOfLooking", "(I)I"⟩
abbrev cX0_joysOf : ByteArray := prog_2_method_10_code
def yX0_joysOf : MethodName := ⟨RX0, "joysOf", "(II)I"⟩
abbrev cX0_turn : ByteArray := prog_2_method_11_code
def yX0_turn : MethodName := ⟨RX0, "turn", "(II)I"⟩
abbrev cX0_bestTurn : ByteArray := prog_2_method_12_code
def yX0_bestTurn : MethodName := ⟨RX0, "bestTurn", "()I"⟩
abbrev cX0_bestLookerAt : ByteArray := prog_2_method_13_code
def yX0_bestLookerAt : MethodName := ⟨RX0, "bestLookerAt", "(I)I"⟩
abbrev cX0_allHunger : ByteArray := prog_2_method_14_code
def yX0_allHunger : MethodName := ⟨RX0, "allHunger", "()I"⟩
abbrev cX0_allWish : ByteArray := prog_2_method_15_code
def yX0_allWish : MethodName := ⟨RX0, "allWish", "()I"⟩
abbrev cX0_allEaten : ByteArray := prog_2_method_16_code
def yX0_allEaten : MethodName := ⟨RX0, "allEaten", "()I"⟩
abbrev cX0_whoHasHadNone : ByteArray := prog_2_method_17_code
def yX0_whoHasHadNone : MethodName := ⟨RX0, "whoHasHadNone", "()I"⟩
def RX1 : String := "CakesToTheWatched$Kind"
def TX1 : u_T := fun k => match k with
  | _ => ("", "", "", false)
def tyX1 : Nat → FieldType := fun k => match k with
  | _ => .int
abbrev wsX10 : List Cond := u_ws RX1 TX1 0
theorem nmX1 : ∀ a, a < 0 → ∀ b, b < 0 → a ≠ b → (TX1 a).2.1 ≠ (TX1 b).2.1 := by decide +kernel
theorem tyX1_ok : ∀ k, k < 0 → parseFieldDescriptor (TX1 k).2.2.1 = some (tyX1 k) := by decide +kernel
abbrev cX1_biteWith : ByteArray := prog_3_method_4_code
def yX1_biteWith : MethodName := ⟨RX1, "biteWith", "(I)I"⟩
abbrev cX1_gazeWith : ByteArray := prog_3_method_5_code
def yX1_gazeWith : MethodName := ⟨RX1, "gazeWith", "(I)I"⟩
abbrev cX1_costWith : ByteArray := prog_3_method_6_code
def yX1_costWith : MethodName := ⟨RX1, "costWith", "(I)I"⟩
abbrev cX1_failWith : ByteArray := prog_3_method_7_code
def yX1_failWith : MethodName := ⟨RX1, "failWith", "(I)V"⟩
def RX2 : String := "CakesToTheWatched$Pairing"
def TX2 : u_T := fun k => match k with
  | 0 => ("CakesToTheWatched$Pairing", "lookers", "[I", true)
  | 1 => ("CakesToTheWatched$Pairing", "mostJoys", "I", false)
  | 2 => ("CakesToTheWatched$Pairing", "joysOfTwo", "[I", true)
  | 3 => ("CakesToTheWatched$Pairing", "most", "[I", true)
  | _ => ("CakesToTheWatched$Pairing", "size", "I", false)
def tyX2 : Nat → FieldType := fun k => match k with
  | 0 => .array .int
  | 1 => .int
  | 2 => .array .int
  | 3 => .array .int
  | _ => .int
abbrev wsX20 : List Cond := u_ws RX2 TX2 5
theorem nmX2 : ∀ a, a < 5 → ∀ b, b < 5 → a ≠ b → (TX2 a).2.1 ≠ (TX2 b).2.1 := by decide +kernel
theorem tyX2_ok : ∀ k, k < 5 → parseFieldDescriptor (TX2 k).2.2.1 = some (tyX2 k) := by decide +kernel
abbrev cX2_init : ByteArray := prog_4_method_1_code
def yX2_init : MethodName := ⟨RX2, "<init>", "()V"⟩
abbrev cX2_find : ByteArray := prog_4_method_2_code
def yX2_find : MethodName := ⟨RX2, "find", "(LCakesToTheWatched$Fete;)V"⟩
abbrev cX2_readJoys : ByteArray := prog_4_method_3_code
def yX2_readJoys : MethodName := ⟨RX2, "readJoys", "(LCakesToTheWatched$Fete;)V"⟩
abbrev cX2_mostOf : ByteArray := prog_4_method_4_code
def yX2_mostOf : MethodName := ⟨RX2, "mostOf", "(II)I"⟩
abbrev cX2_joysIfPaired : ByteArray := prog_4_method_5_code
def yX2_joysIfPaired : MethodName := ⟨RX2, "joysIfPaired", "(IIII)I"⟩
abbrev cX2_leastOf : ByteArray := prog_4_method_6_code
def yX2_leastOf : MethodName := ⟨RX2, "leastOf", "(I)I"⟩
abbrev cX2_choose : ByteArray := prog_4_method_7_code
def yX2_choose : MethodName := ⟨RX2, "choose", "(II)V"⟩
abbrev cX2_firstOther : ByteArray := prog_4_method_8_code
def yX2_firstOther : MethodName := ⟨RX2, "firstOther", "(IIIZ)I"⟩
def RX3 : String := "CakesToTheWatched$Person"
def TX3 : u_T := fun k => match k with
  | 0 => ("CakesToTheWatched$Person", "kind", "LCakesToTheWatched$Kind;", false)
  | 1 => ("CakesToTheWatched$Person", "figure", "I", false)
  | 2 => ("CakesToTheWatched$Person", "bite", "I", false)
  | 3 => ("CakesToTheWatched$Person", "gaze", "I", false)
  | 4 => ("CakesToTheWatched$Person", "hunger", "I", false)
  | 5 => ("CakesToTheWatched$Person", "wish", "I", false)
  | 6 => ("CakesToTheWatched$Person", "eaten", "I", false)
  | _ => ("CakesToTheWatched$Person", "watched", "I", false)
def tyX3 : Nat → FieldType := fun k => match k with
  | 0 => .object "CakesToTheWatched$Kind"
  | 1 => .int
  | 2 => .int
  | 3 => .int
  | 4 => .int
  | 5 => .int
  | 6 => .int
  | _ => .int
abbrev wsX30 : List Cond := u_ws RX3 TX3 8
theorem nmX3 : ∀ a, a < 8 → ∀ b, b < 8 → a ≠ b → (TX3 a).2.1 ≠ (TX3 b).2.1 := by decide +kernel
theorem tyX3_ok : ∀ k, k < 8 → parseFieldDescriptor (TX3 k).2.2.1 = some (tyX3 k) := by decide +kernel
abbrev cX3_init : ByteArray := prog_5_method_1_code
def yX3_init : MethodName := ⟨RX3, "<init>", "()V"⟩
abbrev cX3_comeAs : ByteArray := prog_5_method_2_code
def yX3_comeAs : MethodName := ⟨RX3, "comeAs", "(LCakesToTheWatched$Kind;I)V"⟩
abbrev cX3_becomes : ByteArray := prog_5_method_3_code
def yX3_becomes : MethodName := ⟨RX3, "becomes", "(LCakesToTheWatched$Person;)V"⟩
abbrev cX3_canLook : ByteArray := prog_5_method_4_code
def yX3_canLook : MethodName := ⟨RX3, "canLook", "()Z"⟩
abbrev cX3_stilledHunger : ByteArray := prog_5_method_5_code
def yX3_stilledHunger : MethodName := ⟨RX3, "stilledHunger", "()I"⟩
abbrev cX3_stilledWish : ByteArray := prog_5_method_6_code
def yX3_stilledWish : MethodName := ⟨RX3, "stilledWish", "()I"⟩
def RX4 : String := "CakesToTheWatched$Shelf"
def TX4 : u_T := fun k => match k with
  | 0 => ("CakesToTheWatched$Shelf", "cells", "[I", true)
  | 1 => ("CakesToTheWatched$Shelf", "holds", "I", false)
  | 2 => ("CakesToTheWatched$Shelf", "kind", "LCakesToTheWatched$Kind;", false)
  | 3 => ("CakesToTheWatched$Shelf", "figure", "I", false)
  | 4 => ("CakesToTheWatched$Shelf", "sort", "I", false)
  | _ => ("CakesToTheWatched$Shelf", "length", "I", false)
def tyX4 : Nat → FieldType := fun k => match k with
  | 0 => .array .int
  | 1 => .int
  | 2 => .object "CakesToTheWatched$Kind"
  | 3 => .int
  | 4 => .int
  | _ => .int
abbrev wsX40 : List Cond := u_ws RX4 TX4 6
theorem nmX4 : ∀ a, a < 6 → ∀ b, b < 6 → a ≠ b → (TX4 a).2.1 ≠ (TX4 b).2.1 := by decide +kernel
theorem tyX4_ok : ∀ k, k < 6 → parseFieldDescriptor (TX4 k).2.2.1 = some (tyX4 k) := by decide +kernel
abbrev cX4_init : ByteArray := prog_6_method_1_code
def yX4_init : MethodName := ⟨RX4, "<init>", "()V"⟩
abbrev cX4_holdKind : ByteArray := prog_6_method_2_code
def yX4_holdKind : MethodName := ⟨RX4, "holdKind", "(LCakesToTheWatched$Kind;I)V"⟩
abbrev cX4_holdRow : ByteArray := prog_6_method_3_code
def yX4_holdRow : MethodName := ⟨RX4, "holdRow", "(II)V"⟩
abbrev cX4_hasPlace : ByteArray := prog_6_method_4_code
def yX4_hasPlace : MethodName := ⟨RX4, "hasPlace", "(I)Z"⟩
abbrev cX4_hasPlaces : ByteArray := prog_6_method_5_code
def yX4_hasPlaces : MethodName := ⟨RX4, "hasPlaces", "(II)Z"⟩
abbrev cX4_at : ByteArray := prog_6_method_6_code
def yX4_at : MethodName := ⟨RX4, "at", "(I)I"⟩
abbrev cX4_digitAt : ByteArray := prog_6_method_7_code
def yX4_digitAt : MethodName := ⟨RX4, "digitAt", "(I)I"⟩
abbrev cX4_twoDigitsAt : ByteArray := prog_6_method_8_code
def yX4_twoDigitsAt : MethodName := ⟨RX4, "twoDigitsAt", "(I)I"⟩
abbrev cX4_lowestBits : ByteArray := prog_6_method_9_code
def yX4_lowestBits : MethodName := ⟨RX4, "lowestBits", "(I)I"⟩
abbrev cX4_leastNumber : ByteArray := prog_6_method_10_code
def yX4_leastNumber : MethodName := ⟨RX4, "leastNumber", "()I"⟩
def RX5 : String := "CakesToTheWatched"
def TX5 : u_T := fun k => match k with
  | 0 => ("CakesToTheWatched", "shelves", "[LCakesToTheWatched$Shelf;", true)
  | 1 => ("CakesToTheWatched", "now", "LCakesToTheWatched$Fete;", true)
  | 2 => ("CakesToTheWatched", "imageOfAll", "LCakesToTheWatched$Fete;", true)
  | 3 => ("CakesToTheWatched", "trial", "LCakesToTheWatched$Fete;", true)
  | 4 => ("CakesToTheWatched", "pairing", "LCakesToTheWatched$Pairing;", true)
  | _ => ("CakesToTheWatched", "hasImage", "Z", false)
def tyX5 : Nat → FieldType := fun k => match k with
  | 0 => .array (.object "CakesToTheWatched$Shelf")
  | 1 => .object "CakesToTheWatched$Fete"
  | 2 => .object "CakesToTheWatched$Fete"
  | 3 => .object "CakesToTheWatched$Fete"
  | 4 => .object "CakesToTheWatched$Pairing"
  | _ => .boolean
abbrev wsX50 : List Cond := u_ws RX5 TX5 6
theorem nmX5 : ∀ a, a < 6 → ∀ b, b < 6 → a ≠ b → (TX5 a).2.1 ≠ (TX5 b).2.1 := by decide +kernel
theorem tyX5_ok : ∀ k, k < 6 → parseFieldDescriptor (TX5 k).2.2.1 = some (tyX5 k) := by decide +kernel
abbrev cX5_init : ByteArray := prog_1_method_1_code
def yX5_init : MethodName := ⟨RX5, "<init>", "()V"⟩
abbrev cX5_fete : ByteArray := prog_1_method_2_code
def yX5_fete : MethodName := ⟨RX5, "fete", "(I)I"⟩
abbrev cX5_person : ByteArray := prog_1_method_3_code
def yX5_person : MethodName := ⟨RX5, "person", "(II)I"⟩
abbrev cX5_comes : ByteArray := prog_1_method_4_code
def yX5_comes : MethodName := ⟨RX5, "comes", "(III)I"⟩
abbrev cX5_feels : ByteArray := prog_1_method_5_code
def yX5_feels : MethodName := ⟨RX5, "feels", "(III)I"⟩
abbrev cX5_slices : ByteArray := prog_1_method_6_code
def yX5_slices : MethodName := ⟨RX5, "slices", "(I)I"⟩
abbrev cX5_eats : ByteArray := prog_1_method_7_code
def yX5_eats : MethodName := ⟨RX5, "eats", "(II)I"⟩
abbrev cX5_joys : ByteArray := prog_1_method_8_code
def yX5_joys : MethodName := ⟨RX5, "joys", "(III)I"⟩
abbrev cX5_who : ByteArray := prog_1_method_9_code
def yX5_who : MethodName := ⟨RX5, "who", "(I)I"⟩
abbrev cX5_bestPair : ByteArray := prog_1_method_10_code
def yX5_bestPair : MethodName := ⟨RX5, "bestPair", "(I)I"⟩
abbrev cX5_bestLooker : ByteArray := prog_1_method_11_code
def yX5_bestLooker : MethodName := ⟨RX5, "bestLooker", "(I)I"⟩
abbrev cX5_twoTurns : ByteArray := prog_1_method_12_code
def yX5_twoTurns : MethodName := ⟨RX5, "twoTurns", "(I)I"⟩
abbrev cX5_pairs : ByteArray := prog_1_method_13_code
def yX5_pairs : MethodName := ⟨RX5, "pairs", "(I)I"⟩
abbrev cX5_greedily : ByteArray := prog_1_method_14_code
def yX5_greedily : MethodName := ⟨RX5, "greedily", "(II)I"⟩
abbrev cX5_atAll : ByteArray := prog_1_method_15_code
def yX5_atAll : MethodName := ⟨RX5, "atAll", "(I)I"⟩
abbrev cX5_stuck : ByteArray := prog_1_method_16_code
def yX5_stuck : MethodName := ⟨RX5, "stuck", "()I"⟩
abbrev cX5_bring : ByteArray := prog_1_method_17_code
def yX5_bring : MethodName := ⟨RX5, "bring", "(I)I"⟩
abbrev cX5_feeds : ByteArray := prog_1_method_18_code
def yX5_feeds : MethodName := ⟨RX5, "feeds", "(I)I"⟩
abbrev cX5_prices : ByteArray := prog_1_method_19_code
def yX5_prices : MethodName := ⟨RX5, "prices", "(II)I"⟩
abbrev cX5_clears : ByteArray := prog_1_method_20_code
def yX5_clears : MethodName := ⟨RX5, "clears", "(I)I"⟩
abbrev cX5_swap : ByteArray := prog_1_method_21_code
def yX5_swap : MethodName := ⟨RX5, "swap", "(I)I"⟩
abbrev cX5_throat : ByteArray := prog_1_method_22_code
def yX5_throat : MethodName := ⟨RX5, "throat", "(IIII)I"⟩
abbrev cX5_lastOnes : ByteArray := prog_1_method_23_code
def yX5_lastOnes : MethodName := ⟨RX5, "lastOnes", "(III)I"⟩
abbrev cX5_shares : ByteArray := prog_1_method_24_code
def yX5_shares : MethodName := ⟨RX5, "shares", "(I)I"⟩
abbrev cX5_crowd : ByteArray := prog_1_method_25_code
def yX5_crowd : MethodName := ⟨RX5, "crowd", "(IIII)J"⟩
abbrev cX5_mean : ByteArray := prog_1_method_26_code
def yX5_mean : MethodName := ⟨RX5, "mean", "(I)J"⟩
abbrev cX5_joyless : ByteArray := prog_1_method_27_code
def yX5_joyless : MethodName := ⟨RX5, "joyless", "()I"⟩
abbrev cX5_seen : ByteArray := prog_1_method_28_code
def yX5_seen : MethodName := ⟨RX5, "seen", "(I)I"⟩
abbrev cX5_forged : ByteArray := prog_1_method_29_code
def yX5_forged : MethodName := ⟨RX5, "forged", "(I)I"⟩
abbrev cX5_judge : ByteArray := prog_1_method_30_code
def yX5_judge : MethodName := ⟨RX5, "judge", "(I)I"⟩
abbrev cX5_fetes : ByteArray := prog_1_method_31_code
def yX5_fetes : MethodName := ⟨RX5, "fetes", "(III)I"⟩
abbrev cX5_image : ByteArray := prog_1_method_32_code
def yX5_image : MethodName := ⟨RX5, "image", "()I"⟩
abbrev cX5_restore : ByteArray := prog_1_method_33_code
def yX5_restore : MethodName := ⟨RX5, "restore", "()I"⟩
abbrev cX5_count : ByteArray := prog_1_method_34_code
def yX5_count : MethodName := ⟨RX5, "count", "(I)I"⟩
abbrev cX5_keep : ByteArray := prog_1_method_35_code
def yX5_keep : MethodName := ⟨RX5, "keep", "(IIII)I"⟩
abbrev cX5_row : ByteArray := prog_1_method_36_code
def yX5_row : MethodName := ⟨RX5, "row", "(III)I"⟩
abbrev cX5_put : ByteArray := prog_1_method_37_code
def yX5_put : MethodName := ⟨RX5, "put", "(III)I"⟩
abbrev cX5_element : ByteArray := prog_1_method_38_code
def yX5_element : MethodName := ⟨RX5, "element", "(II)J"⟩
abbrev cX5_copy : ByteArray := prog_1_method_39_code
def yX5_copy : MethodName := ⟨RX5, "copy", "(IIIII)I"⟩
abbrev cX5_cost : ByteArray := prog_1_method_40_code
def yX5_cost : MethodName := ⟨RX5, "cost", "(I)I"⟩
abbrev cX5_toss : ByteArray := prog_1_method_41_code
def yX5_toss : MethodName := ⟨RX5, "toss", "(I)I"⟩
abbrev cX5_isWithin : ByteArray := prog_1_method_42_code
def yX5_isWithin : MethodName := ⟨RX5, "isWithin", "(III)Z"⟩
abbrev cX5_isOneOfTwo : ByteArray := prog_1_method_43_code
def yX5_isOneOfTwo : MethodName := ⟨RX5, "isOneOfTwo", "(I)Z"⟩
abbrev cX5_isShelf : ByteArray := prog_1_method_44_code
def yX5_isShelf : MethodName := ⟨RX5, "isShelf", "(I)Z"⟩
abbrev cX5_isKind : ByteArray := prog_1_method_45_code
def yX5_isKind : MethodName := ⟨RX5, "isKind", "(I)Z"⟩
abbrev cX5_isFigure : ByteArray := prog_1_method_46_code
def yX5_isFigure : MethodName := ⟨RX5, "isFigure", "(I)Z"⟩
abbrev cX5_isFeeling : ByteArray := prog_1_method_47_code
def yX5_isFeeling : MethodName := ⟨RX5, "isFeeling", "(I)Z"⟩
abbrev cX5_isPrice : ByteArray := prog_1_method_48_code
def yX5_isPrice : MethodName := ⟨RX5, "isPrice", "(I)Z"⟩
abbrev cX5_refusalOfRow : ByteArray := prog_1_method_49_code
def yX5_refusalOfRow : MethodName := ⟨RX5, "refusalOfRow", "(I)I"⟩
abbrev cX5_refusalOfKind : ByteArray := prog_1_method_50_code
def yX5_refusalOfKind : MethodName := ⟨RX5, "refusalOfKind", "(I)I"⟩
abbrev cX5_refusalUnlessHeld : ByteArray := prog_1_method_51_code
def yX5_refusalUnlessHeld : MethodName := ⟨RX5, "refusalUnlessHeld", "(II)I"⟩
abbrev cX5_placeOfBrokenForm : ByteArray := prog_1_method_52_code
def yX5_placeOfBrokenForm : MethodName := ⟨RX5, "placeOfBrokenForm", "(LCakesToTheWatched$Shelf;)I"⟩
abbrev cX5_digitsBehind : ByteArray := prog_1_method_53_code
def yX5_digitsBehind : MethodName := ⟨RX5, "digitsBehind", "(I)I"⟩
abbrev cX5_tellStatements : ByteArray := prog_1_method_54_code
def yX5_tellStatements : MethodName := ⟨RX5, "tellStatements", "(LCakesToTheWatched$Shelf;)I"⟩
abbrev cX5_tellStatement : ByteArray := prog_1_method_55_code
def yX5_tellStatement : MethodName := ⟨RX5, "tellStatement", "(LCakesToTheWatched$Shelf;I)Z"⟩
abbrev cX5_tellPerson : ByteArray := prog_1_method_56_code
def yX5_tellPerson : MethodName := ⟨RX5, "tellPerson", "(IIII)Z"⟩
abbrev cX5_tellSlices : ByteArray := prog_1_method_57_code
def yX5_tellSlices : MethodName := ⟨RX5, "tellSlices", "(I)Z"⟩
abbrev cX5_tellHunger : ByteArray := prog_1_method_58_code
def yX5_tellHunger : MethodName := ⟨RX5, "tellHunger", "(II)Z"⟩
abbrev cX5_tellWish : ByteArray := prog_1_method_59_code
def yX5_tellWish : MethodName := ⟨RX5, "tellWish", "(II)Z"⟩
abbrev cX5_joysWithASecond : ByteArray := prog_1_method_60_code
def yX5_joysWithASecond : MethodName := ⟨RX5, "joysWithASecond", "(II)I"⟩
abbrev cX5_howManyEatAtAll : ByteArray := prog_1_method_61_code
def yX5_howManyEatAtAll : MethodName := ⟨RX5, "howManyEatAtAll", "()I"⟩
abbrev cX5_whoIsLeft : ByteArray := prog_1_method_62_code
def yX5_whoIsLeft : MethodName := ⟨RX5, "whoIsLeft", "()I"⟩
abbrev cX5_mostJoysWatchedBy : ByteArray := prog_1_method_63_code
def yX5_mostJoysWatchedBy : MethodName := ⟨RX5, "mostJoysWatchedBy", "(LCakesToTheWatched$Kind;I)I"⟩
abbrev cX5_howManyBuy : ByteArray := prog_1_method_64_code
def yX5_howManyBuy : MethodName := ⟨RX5, "howManyBuy", "(I)I"⟩
abbrev cX5_howManySell : ByteArray := prog_1_method_65_code
def yX5_howManySell : MethodName := ⟨RX5, "howManySell", "(I)I"⟩
abbrev cX5_arePairsApart : ByteArray := prog_1_method_66_code
def yX5_arePairsApart : MethodName := ⟨RX5, "arePairsApart", "(LCakesToTheWatched$Shelf;)Z"⟩
abbrev cX5_gainOfSwap : ByteArray := prog_1_method_67_code
def yX5_gainOfSwap : MethodName := ⟨RX5, "gainOfSwap", "(LCakesToTheWatched$Shelf;II)I"⟩
abbrev cX5_hungerFellSo : ByteArray := prog_1_method_68_code
def yX5_hungerFellSo : MethodName := ⟨RX5, "hungerFellSo", "(LCakesToTheWatched$Shelf;II)Z"⟩
abbrev cX5_shareOf : ByteArray := prog_1_method_69_code
def yX5_shareOf : MethodName := ⟨RX5, "shareOf", "(I)I"⟩
abbrev cX5_canEatWatchedFromOutside : ByteArray := prog_1_method_70_code
def yX5_canEatWatchedFromOutside : MethodName := ⟨RX5, "canEatWatchedFromOutside", "(II)Z"⟩
abbrev cX5_choices : ByteArray := prog_1_method_71_code
def yX5_choices : MethodName := ⟨RX5, "choices", "(II)J"⟩
abbrev cX5_power : ByteArray := prog_1_method_72_code
def yX5_power : MethodName := ⟨RX5, "power", "(II)J"⟩
abbrev cX5_partInLeastTerms : ByteArray := prog_1_method_73_code
def yX5_partInLeastTerms : MethodName := ⟨RX5, "partInLeastTerms", "(JJI)J"⟩
abbrev cX5_commonDivisor : ByteArray := prog_1_method_74_code
def yX5_commonDivisor : MethodName := ⟨RX5, "commonDivisor", "(JJ)J"⟩
abbrev cX5_nextSeed : ByteArray := prog_1_method_75_code
def yX5_nextSeed : MethodName := ⟨RX5, "nextSeed", "(I)I"⟩
abbrev cX5_drawn : ByteArray := prog_1_method_76_code
def yX5_drawn : MethodName := ⟨RX5, "drawn", "(II)I"⟩
def RX6 : String := "CakesToTheWatchedModel"
def TX6 : u_T := fun k => match k with
  | 0 => ("CakesToTheWatchedModel", "s", "[I", true)
  | 1 => ("CakesToTheWatchedModel", "m", "[I", true)
  | 2 => ("CakesToTheWatchedModel", "image", "[I", true)
  | 3 => ("CakesToTheWatchedModel", "was", "[I", true)
  | 4 => ("CakesToTheWatchedModel", "hasImage", "Z", false)
  | 5 => ("CakesToTheWatchedModel", "place", "I", false)
  | 6 => ("CakesToTheWatchedModel", "rowAt", "I", false)
  | 7 => ("CakesToTheWatchedModel", "rowEnd", "I", false)
  | 8 => ("CakesToTheWatchedModel", "numbers", "[I", true)
  | 9 => ("CakesToTheWatchedModel", "watchedBy", "[I", true)
  | 10 => ("CakesToTheWatchedModel", "bestBy", "[I", true)
  | 11 => ("CakesToTheWatchedModel", "bestOfPairs", "I", false)
  | 12 => ("CakesToTheWatchedModel", "seed", "I", false)
  | 13 => ("CakesToTheWatchedModel", "kept", "[I", true)
  | 14 => ("CakesToTheWatchedModel", "keptKind", "[I", true)
  | 15 => ("CakesToTheWatchedModel", "keptFigure", "[I", true)
  | 16 => ("CakesToTheWatchedModel", "sort", "[I", true)
  | 17 => ("CakesToTheWatchedModel", "size", "[I", true)
  | 18 => ("CakesToTheWatchedModel", "element", "[I", true)
  | _ => ("CakesToTheWatchedModel", "thrown", "I", false)
def tyX6 : Nat → FieldType := fun k => match k with
  | 0 => .array .int
  | 1 => .array .int
  | 2 => .array .int
  | 3 => .array .int
  | 4 => .boolean
  | 5 => .int
  | 6 => .int
  | 7 => .int
  | 8 => .array .int
  | 9 => .array .int
  | 10 => .array .int
  | 11 => .int
  | 12 => .int
  | 13 => .array .int
  | 14 => .array .int
  | 15 => .array .int
  | 16 => .array .int
  | 17 => .array .int
  | 18 => .array .int
  | _ => .int
abbrev wsX60 : List Cond := u_ws RX6 TX6 20
theorem nmX6 : ∀ a, a < 20 → ∀ b, b < 20 → a ≠ b → (TX6 a).2.1 ≠ (TX6 b).2.1 := by decide +kernel
theorem tyX6_ok : ∀ k, k < 20 → parseFieldDescriptor (TX6 k).2.2.1 = some (tyX6 k) := by decide +kernel
abbrev cX6_init : ByteArray := prog_8_method_1_code
def yX6_init : MethodName := ⟨RX6, "<init>", "()V"⟩
abbrev cX6_isIn : ByteArray := prog_8_method_2_code
def yX6_isIn : MethodName := ⟨RX6, "isIn", "(III)Z"⟩
abbrev cX6_least : ByteArray := prog_8_method_3_code
def yX6_least : MethodName := ⟨RX6, "least", "(II)I"⟩
abbrev cX6_most : ByteArray := prog_8_method_4_code
def yX6_most : MethodName := ⟨RX6, "most", "(II)I"⟩
abbrev cX6_copies : ByteArray := prog_8_method_5_code
def yX6_copies : MethodName := ⟨RX6, "copies", "([I[I)V"⟩
abbrev cX6_of : ByteArray := prog_8_method_6_code
def yX6_of : MethodName := ⟨RX6, "of", "(II)I"⟩
abbrev cX6_isPerson : ByteArray := prog_8_method_7_code
def yX6_isPerson : MethodName := ⟨RX6, "isPerson", "(I)Z"⟩
abbrev cX6_bits : ByteArray := prog_8_method_8_code
def yX6_bits : MethodName := ⟨RX6, "bits", "(I)I"⟩
abbrev cX6_bite : ByteArray := prog_8_method_9_code
def yX6_bite : MethodName := ⟨RX6, "bite", "(II)I"⟩
abbrev cX6_gaze : ByteArray := prog_8_method_10_code
def yX6_gaze : MethodName := ⟨RX6, "gaze", "(II)I"⟩
abbrev cX6_shy : ByteArray := prog_8_method_11_code
def yX6_shy : MethodName := ⟨RX6, "shy", "(I)I"⟩
abbrev cX6_bites : ByteArray := prog_8_method_12_code
def yX6_bites : MethodName := ⟨RX6, "bites", "([II)I"⟩
abbrev cX6_gazes : ByteArray := prog_8_method_13_code
def yX6_gazes : MethodName := ⟨RX6, "gazes", "([II)I"⟩
abbrev cX6_canLook : ByteArray := prog_8_method_14_code
def yX6_canLook : MethodName := ⟨RX6, "canLook", "([II)Z"⟩
abbrev cX6_canEat : ByteArray := prog_8_method_15_code
def yX6_canEat : MethodName := ⟨RX6, "canEat", "([III)Z"⟩
abbrev cX6_eaterJoy : ByteArray := prog_8_method_16_code
def yX6_eaterJoy : MethodName := ⟨RX6, "eaterJoy", "([III)I"⟩
abbrev cX6_joysOf : ByteArray := prog_8_method_17_code
def yX6_joysOf : MethodName := ⟨RX6, "joysOf", "([III)I"⟩
abbrev cX6_turn : ByteArray := prog_8_method_18_code
def yX6_turn : MethodName := ⟨RX6, "turn", "([III)I"⟩
abbrev cX6_bestIn : ByteArray := prog_8_method_19_code
def yX6_bestIn : MethodName := ⟨RX6, "bestIn", "([I)I"⟩
abbrev cX6_bestJoys : ByteArray := prog_8_method_20_code
def yX6_bestJoys : MethodName := ⟨RX6, "bestJoys", "([I)I"⟩
abbrev cX6_here : ByteArray := prog_8_method_21_code
def yX6_here : MethodName := ⟨RX6, "here", "()I"⟩
abbrev cX6_readsNumber : ByteArray := prog_8_method_22_code
def yX6_readsNumber : MethodName := ⟨RX6, "readsNumber", "(II)Z"⟩
abbrev cX6_readsStatement : ByteArray := prog_8_method_23_code
def yX6_readsStatement : MethodName := ⟨RX6, "readsStatement", "()Z"⟩
abbrev cX6_adds : ByteArray := prog_8_method_24_code
def yX6_adds : MethodName := ⟨RX6, "adds", "([IIIII)V"⟩
abbrev cX6_isDone : ByteArray := prog_8_method_25_code
def yX6_isDone : MethodName := ⟨RX6, "isDone", "(I)Z"⟩
abbrev cX6_fete : ByteArray := prog_8_method_26_code
def yX6_fete : MethodName := ⟨RX6, "fete", "(I)I"⟩
abbrev cX6_person : ByteArray := prog_8_method_27_code
def yX6_person : MethodName := ⟨RX6, "person", "(II)I"⟩
abbrev cX6_comes : ByteArray := prog_8_method_28_code
def yX6_comes : MethodName := ⟨RX6, "comes", "(III)I"⟩
abbrev cX6_feels : ByteArray := prog_8_method_29_code
def yX6_feels : MethodName := ⟨RX6, "feels", "(III)I"⟩
abbrev cX6_slices : ByteArray := prog_8_method_30_code
def yX6_slices : MethodName := ⟨RX6, "slices", "(I)I"⟩
abbrev cX6_wrongTurn : ByteArray := prog_8_method_31_code
def yX6_wrongTurn : MethodName := ⟨RX6, "wrongTurn", "(II)I"⟩
abbrev cX6_eats : ByteArray := prog_8_method_32_code
def yX6_eats : MethodName := ⟨RX6, "eats", "(II)I"⟩
abbrev cX6_joys : ByteArray := prog_8_method_33_code
def yX6_joys : MethodName := ⟨RX6, "joys", "(III)I"⟩
abbrev cX6_who : ByteArray := prog_8_method_34_code
def yX6_who : MethodName := ⟨RX6, "who", "(I)I"⟩
abbrev cX6_bestPair : ByteArray := prog_8_method_35_code
def yX6_bestPair : MethodName := ⟨RX6, "bestPair", "(I)I"⟩
abbrev cX6_bestLooker : ByteArray := prog_8_method_36_code
def yX6_bestLooker : MethodName := ⟨RX6, "bestLooker", "(I)I"⟩
abbrev cX6_twoTurns : ByteArray := prog_8_method_37_code
def yX6_twoTurns : MethodName := ⟨RX6, "twoTurns", "(I)I"⟩
abbrev cX6_pairsFrom : ByteArray := prog_8_method_38_code
def yX6_pairsFrom : MethodName := ⟨RX6, "pairsFrom", "(IIII)V"⟩
abbrev cX6_pairs : ByteArray := prog_8_method_39_code
def yX6_pairs : MethodName := ⟨RX6, "pairs", "(I)I"⟩
abbrev cX6_greedily : ByteArray := prog_8_method_40_code
def yX6_greedily : MethodName := ⟨RX6, "greedily", "(II)I"⟩
abbrev cX6_atAll : ByteArray := prog_8_method_41_code
def yX6_atAll : MethodName := ⟨RX6, "atAll", "(I)I"⟩
abbrev cX6_stuck : ByteArray := prog_8_method_42_code
def yX6_stuck : MethodName := ⟨RX6, "stuck", "()I"⟩
abbrev cX6_bring : ByteArray := prog_8_method_43_code
def yX6_bring : MethodName := ⟨RX6, "bring", "(I)I"⟩
abbrev cX6_feeds : ByteArray := prog_8_method_44_code
def yX6_feeds : MethodName := ⟨RX6, "feeds", "(I)I"⟩
abbrev cX6_buyers : ByteArray := prog_8_method_45_code
def yX6_buyers : MethodName := ⟨RX6, "buyers", "(I)I"⟩
abbrev cX6_sellers : ByteArray := prog_8_method_46_code
def yX6_sellers : MethodName := ⟨RX6, "sellers", "(I)I"⟩
abbrev cX6_prices : ByteArray := prog_8_method_47_code
def yX6_prices : MethodName := ⟨RX6, "prices", "(II)I"⟩
abbrev cX6_clears : ByteArray := prog_8_method_48_code
def yX6_clears : MethodName := ⟨RX6, "clears", "(I)I"⟩
abbrev cX6_wrongPairs : ByteArray := prog_8_method_49_code
def yX6_wrongPairs : MethodName := ⟨RX6, "wrongPairs", "(I)I"⟩
abbrev cX6_swap : ByteArray := prog_8_method_50_code
def yX6_swap : MethodName := ⟨RX6, "swap", "(I)I"⟩
abbrev cX6_throat : ByteArray := prog_8_method_51_code
def yX6_throat : MethodName := ⟨RX6, "throat", "(IIII)I"⟩
abbrev cX6_lastOnes : ByteArray := prog_8_method_52_code
def yX6_lastOnes : MethodName := ⟨RX6, "lastOnes", "(III)I"⟩
abbrev cX6_hungerAll : ByteArray := prog_8_method_53_code
def yX6_hungerAll : MethodName := ⟨RX6, "hungerAll", "()I"⟩
abbrev cX6_partOfSlices : ByteArray := prog_8_method_54_code
def yX6_partOfSlices : MethodName := ⟨RX6, "partOfSlices", "(I)I"⟩
abbrev cX6_shares : ByteArray := prog_8_method_55_code
def yX6_shares : MethodName := ⟨RX6, "shares", "(I)I"⟩
abbrev cX6_gcd : ByteArray := prog_8_method_56_code
def yX6_gcd : MethodName := ⟨RX6, "gcd", "(JJ)J"⟩
abbrev cX6_partOf : ByteArray := prog_8_method_57_code
def yX6_partOf : MethodName := ⟨RX6, "partOf", "(JJI)J"⟩
abbrev cX6_crowd : ByteArray := prog_8_method_58_code
def yX6_crowd : MethodName := ⟨RX6, "crowd", "(IIII)J"⟩
abbrev cX6_mean : ByteArray := prog_8_method_59_code
def yX6_mean : MethodName := ⟨RX6, "mean", "(I)J"⟩
abbrev cX6_joyless : ByteArray := prog_8_method_60_code
def yX6_joyless : MethodName := ⟨RX6, "joyless", "()I"⟩
abbrev cX6_seen : ByteArray := prog_8_method_61_code
def yX6_seen : MethodName := ⟨RX6, "seen", "(I)I"⟩
abbrev cX6_forged : ByteArray := prog_8_method_62_code
def yX6_forged : MethodName := ⟨RX6, "forged", "(I)I"⟩
abbrev cX6_leastOf : ByteArray := prog_8_method_63_code
def yX6_leastOf : MethodName := ⟨RX6, "leastOf", "(I)I"⟩
abbrev cX6_judge : ByteArray := prog_8_method_64_code
def yX6_judge : MethodName := ⟨RX6, "judge", "(I)I"⟩
abbrev cX6_drawn : ByteArray := prog_8_method_65_code
def yX6_drawn : MethodName := ⟨RX6, "drawn", "(I)I"⟩
abbrev cX6_fetes : ByteArray := prog_8_method_66_code
def yX6_fetes : MethodName := ⟨RX6, "fetes", "(III)I"⟩
abbrev cX6_image : ByteArray := prog_8_method_67_code
def yX6_image : MethodName := ⟨RX6, "image", "()I"⟩
abbrev cX6_restore : ByteArray := prog_8_method_68_code
def yX6_restore : MethodName := ⟨RX6, "restore", "()I"⟩
abbrev cX6_count : ByteArray := prog_8_method_69_code
def yX6_count : MethodName := ⟨RX6, "count", "(I)I"⟩
abbrev cX6_thrown : ByteArray := prog_8_method_70_code
def yX6_thrown : MethodName := ⟨RX6, "thrown", "()I"⟩
abbrev cX6_isShelf : ByteArray := prog_8_method_71_code
def yX6_isShelf : MethodName := ⟨RX6, "isShelf", "(I)Z"⟩
abbrev cX6_wrongRow : ByteArray := prog_8_method_72_code
def yX6_wrongRow : MethodName := ⟨RX6, "wrongRow", "(II)I"⟩
abbrev cX6_wrongKept : ByteArray := prog_8_method_73_code
def yX6_wrongKept : MethodName := ⟨RX6, "wrongKept", "(I)I"⟩
abbrev cX6_keep : ByteArray := prog_8_method_74_code
def yX6_keep : MethodName := ⟨RX6, "keep", "(IIII)I"⟩
abbrev cX6_row : ByteArray := prog_8_method_75_code
def yX6_row : MethodName := ⟨RX6, "row", "(III)I"⟩
abbrev cX6_put : ByteArray := prog_8_method_76_code
def yX6_put : MethodName := ⟨RX6, "put", "(III)I"⟩
abbrev cX6_element : ByteArray := prog_8_method_77_code
def yX6_element : MethodName := ⟨RX6, "element", "(II)J"⟩
abbrev cX6_copy : ByteArray := prog_8_method_78_code
def yX6_copy : MethodName := ⟨RX6, "copy", "(IIIII)I"⟩
abbrev cX6_costBy : ByteArray := prog_8_method_79_code
def yX6_costBy : MethodName := ⟨RX6, "costBy", "(II)I"⟩
abbrev cX6_cost : ByteArray := prog_8_method_80_code
def yX6_cost : MethodName := ⟨RX6, "cost", "(I)I"⟩
abbrev cX6_toss : ByteArray := prog_8_method_81_code
def yX6_toss : MethodName := ⟨RX6, "toss", "(I)I"⟩
def RJx29ce0 : String := "java/lang/Enum"
def TJx29ce0 : u_T := fun k => match k with
  | _ => ("", "", "", false)
def tyJx29ce0 : Nat → FieldType := fun k => match k with
  | _ => .int
abbrev wsJx29ce00 : List Cond := u_ws RJx29ce0 TJx29ce0 0
theorem nmJx29ce0 : ∀ a, a < 0 → ∀ b, b < 0 → a ≠ b → (TJx29ce0 a).2.1 ≠ (TJx29ce0 b).2.1 := by decide +kernel
theorem tyJx29ce0_ok : ∀ k, k < 0 → parseFieldDescriptor (TJx29ce0 k).2.2.1 = some (tyJx29ce0 k) := by decide +kernel
abbrev cJx29ce0_ordinal_8abf5 : ByteArray := prog_9_method_2_code
def yJx29ce0_ordinal_8abf5 : MethodName := ⟨RJx29ce0, "ordinal", "()I"⟩
def RJ6 : String := "java/lang/Integer"
def TJ6 : u_T := fun k => match k with
  | _ => ("", "", "", false)
def tyJ6 : Nat → FieldType := fun k => match k with
  | _ => .int
abbrev wsJ60 : List Cond := u_ws RJ6 TJ6 0
theorem nmJ6 : ∀ a, a < 0 → ∀ b, b < 0 → a ≠ b → (TJ6 a).2.1 ≠ (TJ6 b).2.1 := by decide +kernel
theorem tyJ6_ok : ∀ k, k < 0 → parseFieldDescriptor (TJ6 k).2.2.1 = some (tyJ6 k) := by decide +kernel
abbrev cJ6_bitCount_0f7a4 : ByteArray := prog_13_method_49_code
def yJ6_bitCount_0f7a4 : MethodName := ⟨RJ6, "bitCount", "(I)I"⟩
def RJ9 : String := "java/lang/Math"
def TJ9 : u_T := fun k => match k with
  | _ => ("", "", "", false)
def tyJ9 : Nat → FieldType := fun k => match k with
  | _ => .int
abbrev wsJ90 : List Cond := u_ws RJ9 TJ9 0
theorem nmJ9 : ∀ a, a < 0 → ∀ b, b < 0 → a ≠ b → (TJ9 a).2.1 ≠ (TJ9 b).2.1 := by decide +kernel
theorem tyJ9_ok : ∀ k, k < 0 → parseFieldDescriptor (TJ9 k).2.2.1 = some (tyJ9 k) := by decide +kernel
abbrev cJ9_max_7cf53 : ByteArray := prog_14_method_65_code
def yJ9_max_7cf53 : MethodName := ⟨RJ9, "max", "(II)I"⟩
abbrev cJ9_max_f86c9 : ByteArray := prog_14_method_66_code
def yJ9_max_f86c9 : MethodName := ⟨RJ9, "max", "(JJ)J"⟩
abbrev cJ9_min_7cf53 : ByteArray := prog_14_method_69_code
def yJ9_min_7cf53 : MethodName := ⟨RJ9, "min", "(II)I"⟩
def RJ0 : String := "java/lang/String"
def TJ0 : u_T := fun k => match k with
  | _ => ("", "", "", false)
def tyJ0 : Nat → FieldType := fun k => match k with
  | _ => .int
abbrev wsJ00 : List Cond := u_ws RJ0 TJ0 0
theorem nmJ0 : ∀ a, a < 0 → ∀ b, b < 0 → a ≠ b → (TJ0 a).2.1 ≠ (TJ0 b).2.1 := by decide +kernel
theorem tyJ0_ok : ∀ k, k < 0 → parseFieldDescriptor (TJ0 k).2.2.1 = some (tyJ0 k) := by decide +kernel
def RJ10 : String := "java/lang/System"
def TJ10 : u_T := fun k => match k with
  | _ => ("", "", "", false)
def tyJ10 : Nat → FieldType := fun k => match k with
  | _ => .int
abbrev wsJ100 : List Cond := u_ws RJ10 TJ10 0
theorem nmJ10 : ∀ a, a < 0 → ∀ b, b < 0 → a ≠ b → (TJ10 a).2.1 ≠ (TJ10 b).2.1 := by decide +kernel
theorem tyJ10_ok : ∀ k, k < 0 → parseFieldDescriptor (TJ10 k).2.2.1 = some (tyJ10 k) := by decide +kernel
def RL : String := "CakesToTheWatchedLaw"
abbrev cL_element : ByteArray := method_3_code
def yL_element : MethodName := ⟨RL, "element", "(LCakesToTheWatched;II[J)I"⟩
abbrev cL_law : ByteArray := code
def yL_law : MethodName := ⟨RL, "law", "([I)Z"⟩
abbrev vwCl : List vw_C := [(RX0, TX0, 4), (RX2, TX2, 5), (RX3, TX3, 8), (RX4, TX4, 6), (RX5, TX5, 6), (RX6, TX6, 20)]
end
section
theorem dX0_init_0 : decode cX0_init 0 = .ok (.aload_n 0, 1) := by decide +kernel
theorem dX0_init_1 : decode cX0_init 1 = .ok (.invokespecial 3, 3) := by decide +kernel
theorem dX0_init_4 : decode cX0_init 4 = .ok (.aload_n 0, 1) := by decide +kernel
theorem dX0_init_5 : decode cX0_init 5 = .ok (.bipush 8, 2) := by decide +kernel
theorem dX0_init_7 : decode cX0_init 7 = .ok (.anewarray 9, 3) := by decide +kernel
theorem dX0_init_10 : decode cX0_init 10 = .ok (.putfield 11, 3) := by decide +kernel
theorem dX0_init_13 : decode cX0_init 13 = .ok (.iconst 0, 1) := by decide +kernel
theorem dX0_init_14 : decode cX0_init 14 = .ok (.istore_n 1, 1) := by decide +kernel
theorem dX0_init_15 : decode cX0_init 15 = .ok (.iload_n 1, 1) := by decide +kernel
theorem dX0_init_16 : decode cX0_init 16 = .ok (.bipush 8, 2) := by decide +kernel
theorem dX0_init_18 : decode cX0_init 18 = .ok (.if_icmp .ge 22, 3) := by decide +kernel
theorem dX0_init_21 : decode cX0_init 21 = .ok (.aload_n 0, 1) := by decide +kernel
theorem dX0_init_22 : decode cX0_init 22 = .ok (.getfield 11, 3) := by decide +kernel
theorem dX0_init_25 : decode cX0_init 25 = .ok (.iload_n 1, 1) := by decide +kernel
theorem dX0_init_26 : decode cX0_init 26 = .ok (.new 9, 3) := by decide +kernel
theorem dX0_init_29 : decode cX0_init 29 = .ok (.dup, 1) := by decide +kernel
theorem dX0_init_30 : decode cX0_init 30 = .ok (.invokespecial 17, 3) := by decide +kernel
theorem dX0_init_33 : decode cX0_init 33 = .ok (.aastore, 1) := by decide +kernel
theorem dX0_init_34 : decode cX0_init 34 = .ok (.iinc 1 1, 3) := by decide +kernel
theorem dX0_init_37 : decode cX0_init 37 = .ok (.goto (-22), 3) := by decide +kernel
theorem dX0_init_40 : decode cX0_init 40 = .ok (.return_, 1) := by decide +kernel
theorem dX0_becomes_0 : decode cX0_becomes 0 = .ok (.iconst 0, 1) := by decide +kernel
theorem dX0_becomes_1 : decode cX0_becomes 1 = .ok (.istore_n 2, 1) := by decide +kernel
theorem dX0_becomes_2 : decode cX0_becomes 2 = .ok (.iload_n 2, 1) := by decide +kernel
theorem dX0_becomes_3 : decode cX0_becomes 3 = .ok (.aload_n 1, 1) := by decide +kernel
theorem dX0_becomes_4 : decode cX0_becomes 4 = .ok (.getfield 18, 3) := by decide +kernel
theorem dX0_becomes_7 : decode cX0_becomes 7 = .ok (.if_icmp .ge 24, 3) := by decide +kernel
theorem dX0_becomes_10 : decode cX0_becomes 10 = .ok (.aload_n 0, 1) := by decide +kernel
theorem dX0_becomes_11 : decode cX0_becomes 11 = .ok (.getfield 11, 3) := by decide +kernel
theorem dX0_becomes_14 : decode cX0_becomes 14 = .ok (.iload_n 2, 1) := by decide +kernel
theorem dX0_becomes_15 : decode cX0_becomes 15 = .ok (.aaload, 1) := by decide +kernel
theorem dX0_becomes_16 : decode cX0_becomes 16 = .ok (.aload_n 1, 1) := by decide +kernel
theorem dX0_becomes_17 : decode cX0_becomes 17 = .ok (.getfield 11, 3) := by decide +kernel
theorem dX0_becomes_20 : decode cX0_becomes 20 = .ok (.iload_n 2, 1) := by decide +kernel
theorem dX0_becomes_21 : decode cX0_becomes 21 = .ok (.aaload, 1) := by decide +kernel
theorem dX0_becomes_22 : decode cX0_becomes 22 = .ok (.invokevirtual 22, 3) := by decide +kernel
theorem dX0_becomes_25 : decode cX0_becomes 25 = .ok (.iinc 2 1, 3) := by decide +kernel
theorem dX0_becomes_28 : decode cX0_becomes 28 = .ok (.goto (-26), 3) := by decide +kernel
theorem dX0_becomes_31 : decode cX0_becomes 31 = .ok (.aload_n 0, 1) := by decide +kernel
theorem dX0_becomes_32 : decode cX0_becomes 32 = .ok (.aload_n 1, 1) := by decide +kernel
theorem dX0_becomes_33 : decode cX0_becomes 33 = .ok (.getfield 18, 3) := by decide +kernel
theorem dX0_becomes_36 : decode cX0_becomes 36 = .ok (.putfield 18, 3) := by decide +kernel
theorem dX0_becomes_39 : decode cX0_becomes 39 = .ok (.aload_n 0, 1) := by decide +kernel
theorem dX0_becomes_40 : decode cX0_becomes 40 = .ok (.aload_n 1, 1) := by decide +kernel
theorem dX0_becomes_41 : decode cX0_becomes 41 = .ok (.getfield 26, 3) := by decide +kernel
theorem dX0_becomes_44 : decode cX0_becomes 44 = .ok (.putfield 26, 3) := by decide +kernel
theorem dX0_becomes_47 : decode cX0_becomes 47 = .ok (.aload_n 0, 1) := by decide +kernel
theorem dX0_becomes_48 : decode cX0_becomes 48 = .ok (.aload_n 1, 1) := by decide +kernel
theorem dX0_becomes_49 : decode cX0_becomes 49 = .ok (.getfield 29, 3) := by decide +kernel
theorem dX0_becomes_52 : decode cX0_becomes 52 = .ok (.putfield 29, 3) := by decide +kernel
theorem dX0_becomes_55 : decode cX0_becomes 55 = .ok (.return_, 1) := by decide +kernel
theorem dX0_isThere_0 : decode cX0_isThere 0 = .ok (.iload_n 1, 1) := by decide +kernel
theorem dX0_isThere_1 : decode cX0_isThere 1 = .ok (.ifCond .lt 15, 3) := by decide +kernel
theorem dX0_isThere_4 : decode cX0_isThere 4 = .ok (.iload_n 1, 1) := by decide +kernel
theorem dX0_isThere_5 : decode cX0_isThere 5 = .ok (.aload_n 0, 1) := by decide +kernel
theorem dX0_isThere_6 : decode cX0_isThere 6 = .ok (.getfield 18, 3) := by decide +kernel
theorem dX0_isThere_9 : decode cX0_isThere 9 = .ok (.if_icmp .ge 7, 3) := by decide +kernel
theorem dX0_isThere_12 : decode cX0_isThere 12 = .ok (.iconst 1, 1) := by decide +kernel
theorem dX0_isThere_13 : decode cX0_isThere 13 = .ok (.goto 4, 3) := by decide +kernel
theorem dX0_isThere_16 : decode cX0_isThere 16 = .ok (.iconst 0, 1) := by decide +kernel
theorem dX0_isThere_17 : decode cX0_isThere 17 = .ok (.ireturn, 1) := by decide +kernel
theorem dX0_areTwo_0 : decode cX0_areTwo 0 = .ok (.aload_n 0, 1) := by decide +kernel
theorem dX0_areTwo_1 : decode cX0_areTwo 1 = .ok (.iload_n 1, 1) := by decide +kernel
theorem dX0_areTwo_2 : decode cX0_areTwo 2 = .ok (.invokevirtual 32, 3) := by decide +kernel
theorem dX0_areTwo_5 : decode cX0_areTwo 5 = .ok (.ifCond .eq 20, 3) := by decide +kernel
theorem dX0_areTwo_8 : decode cX0_areTwo 8 = .ok (.aload_n 0, 1) := by decide +kernel
theorem dX0_areTwo_9 : decode cX0_areTwo 9 = .ok (.iload_n 2, 1) := by decide +kernel
theorem dX0_areTwo_10 : decode cX0_areTwo 10 = .ok (.invokevirtual 32, 3) := by decide +kernel
theorem dX0_areTwo_13 : decode cX0_areTwo 13 = .ok (.ifCond .eq 12, 3) := by decide +kernel
theorem dX0_areTwo_16 : decode cX0_areTwo 16 = .ok (.iload_n 1, 1) := by decide +kernel
theorem dX0_areTwo_17 : decode cX0_areTwo 17 = .ok (.iload_n 2, 1) := by decide +kernel
theorem dX0_areTwo_18 : decode cX0_areTwo 18 = .ok (.if_icmp .eq 7, 3) := by decide +kernel
theorem dX0_areTwo_21 : decode cX0_areTwo 21 = .ok (.iconst 1, 1) := by decide +kernel
theorem dX0_areTwo_22 : decode cX0_areTwo 22 = .ok (.goto 4, 3) := by decide +kernel
theorem dX0_areTwo_25 : decode cX0_areTwo 25 = .ok (.iconst 0, 1) := by decide +kernel
theorem dX0_areTwo_26 : decode cX0_areTwo 26 = .ok (.ireturn, 1) := by decide +kernel
theorem dX0_takeIn_0 : decode cX0_takeIn 0 = .ok (.aload_n 0, 1) := by decide +kernel
theorem dX0_takeIn_1 : decode cX0_takeIn 1 = .ok (.getfield 18, 3) := by decide +kernel
theorem dX0_takeIn_4 : decode cX0_takeIn 4 = .ok (.bipush 8, 2) := by decide +kernel
theorem dX0_takeIn_6 : decode cX0_takeIn 6 = .ok (.if_icmp .lt 5, 3) := by decide +kernel
theorem dX0_takeIn_9 : decode cX0_takeIn 9 = .ok (.iconst 0, 1) := by decide +kernel
theorem dX0_takeIn_10 : decode cX0_takeIn 10 = .ok (.ireturn, 1) := by decide +kernel
theorem dX0_takeIn_11 : decode cX0_takeIn 11 = .ok (.aload_n 0, 1) := by decide +kernel
theorem dX0_takeIn_12 : decode cX0_takeIn 12 = .ok (.getfield 11, 3) := by decide +kernel
theorem dX0_takeIn_15 : decode cX0_takeIn 15 = .ok (.aload_n 0, 1) := by decide +kernel
theorem dX0_takeIn_16 : decode cX0_takeIn 16 = .ok (.getfield 18, 3) := by decide +kernel
theorem dX0_takeIn_19 : decode cX0_takeIn 19 = .ok (.aaload, 1) := by decide +kernel
theorem dX0_takeIn_20 : decode cX0_takeIn 20 = .ok (.astore 5, 2) := by decide +kernel
theorem dX0_takeIn_22 : decode cX0_takeIn 22 = .ok (.aload 5, 2) := by decide +kernel
theorem dX0_takeIn_24 : decode cX0_takeIn 24 = .ok (.aload_n 1, 1) := by decide +kernel
theorem dX0_takeIn_25 : decode cX0_takeIn 25 = .ok (.iload_n 2, 1) := by decide +kernel
theorem dX0_takeIn_26 : decode cX0_takeIn 26 = .ok (.invokevirtual 36, 3) := by decide +kernel
theorem dX0_takeIn_29 : decode cX0_takeIn 29 = .ok (.aload 5, 2) := by decide +kernel
theorem dX0_takeIn_31 : decode cX0_takeIn 31 = .ok (.iload_n 3, 1) := by decide +kernel
theorem dX0_takeIn_32 : decode cX0_takeIn 32 = .ok (.putfield 40, 3) := by decide +kernel
theorem dX0_takeIn_35 : decode cX0_takeIn 35 = .ok (.aload 5, 2) := by decide +kernel
theorem dX0_takeIn_37 : decode cX0_takeIn 37 = .ok (.iload 4, 2) := by decide +kernel
theorem dX0_takeIn_39 : decode cX0_takeIn 39 = .ok (.putfield 43, 3) := by decide +kernel
theorem dX0_takeIn_42 : decode cX0_takeIn 42 = .ok (.aload_n 0, 1) := by decide +kernel
theorem dX0_takeIn_43 : decode cX0_takeIn 43 = .ok (.dup, 1) := by decide +kernel
theorem dX0_takeIn_44 : decode cX0_takeIn 44 = .ok (.getfield 18, 3) := by decide +kernel
theorem dX0_takeIn_47 : decode cX0_takeIn 47 = .ok (.iconst 1, 1) := by decide +kernel
theorem dX0_takeIn_48 : decode cX0_takeIn 48 = .ok (.iadd, 1) := by decide +kernel
theorem dX0_takeIn_49 : decode cX0_takeIn 49 = .ok (.putfield 18, 3) := by decide +kernel
theorem dX0_takeIn_52 : decode cX0_takeIn 52 = .ok (.iconst 1, 1) := by decide +kernel
theorem dX0_takeIn_53 : decode cX0_takeIn 53 = .ok (.ireturn, 1) := by decide +kernel
theorem dX0_canEat_0 : decode cX0_canEat 0 = .ok (.aload_n 0, 1) := by decide +kernel
theorem dX0_canEat_1 : decode cX0_canEat 1 = .ok (.iload_n 1, 1) := by decide +kernel
theorem dX0_canEat_2 : decode cX0_canEat 2 = .ok (.iload_n 2, 1) := by decide +kernel
theorem dX0_canEat_3 : decode cX0_canEat 3 = .ok (.invokevirtual 46, 3) := by decide +kernel
theorem dX0_canEat_6 : decode cX0_canEat 6 = .ok (.ifCond .eq 38, 3) := by decide +kernel
theorem dX0_canEat_9 : decode cX0_canEat 9 = .ok (.aload_n 0, 1) := by decide +kernel
theorem dX0_canEat_10 : decode cX0_canEat 10 = .ok (.getfield 26, 3) := by decide +kernel
theorem dX0_canEat_13 : decode cX0_canEat 13 = .ok (.ifCond .le 31, 3) := by decide +kernel
theorem dX0_canEat_16 : decode cX0_canEat 16 = .ok (.aload_n 0, 1) := by decide +kernel
theorem dX0_canEat_17 : decode cX0_canEat 17 = .ok (.getfield 11, 3) := by decide +kernel
theorem dX0_canEat_20 : decode cX0_canEat 20 = .ok (.iload_n 1, 1) := by decide +kernel
theorem dX0_canEat_21 : decode cX0_canEat 21 = .ok (.aaload, 1) := by decide +kernel
theorem dX0_canEat_22 : decode cX0_canEat 22 = .ok (.getfield 40, 3) := by decide +kernel
theorem dX0_canEat_25 : decode cX0_canEat 25 = .ok (.ifCond .le 19, 3) := by decide +kernel
theorem dX0_canEat_28 : decode cX0_canEat 28 = .ok (.aload_n 0, 1) := by decide +kernel
theorem dX0_canEat_29 : decode cX0_canEat 29 = .ok (.getfield 11, 3) := by decide +kernel
theorem dX0_canEat_32 : decode cX0_canEat 32 = .ok (.iload_n 2, 1) := by decide +kernel
theorem dX0_canEat_33 : decode cX0_canEat 33 = .ok (.aaload, 1) := by decide +kernel
theorem dX0_canEat_34 : decode cX0_canEat 34 = .ok (.invokevirtual 50, 3) := by decide +kernel
theorem dX0_canEat_37 : decode cX0_canEat 37 = .ok (.ifCond .eq 7, 3) := by decide +kernel
theorem dX0_canEat_40 : decode cX0_canEat 40 = .ok (.iconst 1, 1) := by decide +kernel
theorem dX0_canEat_41 : decode cX0_canEat 41 = .ok (.goto 4, 3) := by decide +kernel
theorem dX0_canEat_44 : decode cX0_canEat 44 = .ok (.iconst 0, 1) := by decide +kernel
theorem dX0_canEat_45 : decode cX0_canEat 45 = .ok (.ireturn, 1) := by decide +kernel
theorem dX0_mayTurn_0 : decode cX0_mayTurn 0 = .ok (.aload_n 0, 1) := by decide +kernel
theorem dX0_mayTurn_1 : decode cX0_mayTurn 1 = .ok (.iload_n 1, 1) := by decide +kernel
theorem dX0_mayTurn_2 : decode cX0_mayTurn 2 = .ok (.iload_n 2, 1) := by decide +kernel
theorem dX0_mayTurn_3 : decode cX0_mayTurn 3 = .ok (.invokevirtual 54, 3) := by decide +kernel
theorem dX0_mayTurn_6 : decode cX0_mayTurn 6 = .ok (.ifCond .eq 17, 3) := by decide +kernel
theorem dX0_mayTurn_9 : decode cX0_mayTurn 9 = .ok (.aload_n 0, 1) := by decide +kernel
theorem dX0_mayTurn_10 : decode cX0_mayTurn 10 = .ok (.getfield 29, 3) := by decide +kernel
theorem dX0_mayTurn_13 : decode cX0_mayTurn 13 = .ok (.sipush 999, 3) := by decide +kernel
theorem dX0_mayTurn_16 : decode cX0_mayTurn 16 = .ok (.if_icmp .ge 7, 3) := by decide +kernel
theorem dX0_mayTurn_19 : decode cX0_mayTurn 19 = .ok (.iconst 1, 1) := by decide +kernel
theorem dX0_mayTurn_20 : decode cX0_mayTurn 20 = .ok (.goto 4, 3) := by decide +kernel
theorem dX0_mayTurn_23 : decode cX0_mayTurn 23 = .ok (.iconst 0, 1) := by decide +kernel
theorem dX0_mayTurn_24 : decode cX0_mayTurn 24 = .ok (.ireturn, 1) := by decide +kernel
theorem dX0_joyOfEating_0 : decode cX0_joyOfEating 0 = .ok (.aload_n 0, 1) := by decide +kernel
theorem dX0_joyOfEating_1 : decode cX0_joyOfEating 1 = .ok (.getfield 11, 3) := by decide +kernel
theorem dX0_joyOfEating_4 : decode cX0_joyOfEating 4 = .ok (.iload_n 1, 1) := by decide +kernel
theorem dX0_joyOfEating_5 : decode cX0_joyOfEating 5 = .ok (.aaload, 1) := by decide +kernel
theorem dX0_joyOfEating_6 : decode cX0_joyOfEating 6 = .ok (.astore_n 3, 1) := by decide +kernel
theorem dX0_joyOfEating_7 : decode cX0_joyOfEating 7 = .ok (.aload_n 3, 1) := by decide +kernel
theorem dX0_joyOfEating_8 : decode cX0_joyOfEating 8 = .ok (.invokevirtual 57, 3) := by decide +kernel
theorem dX0_joyOfEating_11 : decode cX0_joyOfEating 11 = .ok (.aload_n 3, 1) := by decide +kernel
theorem dX0_joyOfEating_12 : decode cX0_joyOfEating 12 = .ok (.getfield 61, 3) := by decide +kernel
theorem dX0_joyOfEating_15 : decode cX0_joyOfEating 15 = .ok (.getfield 65, 3) := by decide +kernel
theorem dX0_joyOfEating_18 : decode cX0_joyOfEating 18 = .ok (.aload_n 0, 1) := by decide +kernel
theorem dX0_joyOfEating_19 : decode cX0_joyOfEating 19 = .ok (.getfield 11, 3) := by decide +kernel
theorem dX0_joyOfEating_22 : decode cX0_joyOfEating 22 = .ok (.iload_n 2, 1) := by decide +kernel
theorem dX0_joyOfEating_23 : decode cX0_joyOfEating 23 = .ok (.aaload, 1) := by decide +kernel
theorem dX0_joyOfEating_24 : decode cX0_joyOfEating 24 = .ok (.getfield 70, 3) := by decide +kernel
theorem dX0_joyOfEating_27 : decode cX0_joyOfEating 27 = .ok (.imul, 1) := by decide +kernel
theorem dX0_joyOfEating_28 : decode cX0_joyOfEating 28 = .ok (.isub, 1) := by decide +kernel
theorem dX0_joyOfEating_29 : decode cX0_joyOfEating 29 = .ok (.iconst 0, 1) := by decide +kernel
theorem dX0_joyOfEating_30 : decode cX0_joyOfEating 30 = .ok (.invokestatic 73, 3) := by decide +kernel
theorem dX0_joyOfEating_33 : decode cX0_joyOfEating 33 = .ok (.ireturn, 1) := by decide +kernel
theorem dX0_joyOfLooking_0 : decode cX0_joyOfLooking 0 = .ok (.aload_n 0, 1) := by decide +kernel
theorem dX0_joyOfLooking_1 : decode cX0_joyOfLooking 1 = .ok (.getfield 11, 3) := by decide +kernel
theorem dX0_joyOfLooking_4 : decode cX0_joyOfLooking 4 = .ok (.iload_n 1, 1) := by decide +kernel
theorem dX0_joyOfLooking_5 : decode cX0_joyOfLooking 5 = .ok (.aaload, 1) := by decide +kernel
theorem dX0_joyOfLooking_6 : decode cX0_joyOfLooking 6 = .ok (.invokevirtual 79, 3) := by decide +kernel
theorem dX0_joyOfLooking_9 : decode cX0_joyOfLooking 9 = .ok (.ireturn, 1) := by decide +kernel
theorem dX0_joysOf_0 : decode cX0_joysOf 0 = .ok (.aload_n 0, 1) := by decide +kernel
theorem dX0_joysOf_1 : decode cX0_joysOf 1 = .ok (.iload_n 1, 1) := by decide +kernel
theorem dX0_joysOf_2 : decode cX0_joysOf 2 = .ok (.iload_n 2, 1) := by decide +kernel
theorem dX0_joysOf_3 : decode cX0_joysOf 3 = .ok (.invokevirtual 82, 3) := by decide +kernel
theorem dX0_joysOf_6 : decode cX0_joysOf 6 = .ok (.aload_n 0, 1) := by decide +kernel
theorem dX0_joysOf_7 : decode cX0_joysOf 7 = .ok (.iload_n 2, 1) := by decide +kernel
theorem dX0_joysOf_8 : decode cX0_joysOf 8 = .ok (.invokevirtual 85, 3) := by decide +kernel
theorem dX0_joysOf_11 : decode cX0_joysOf 11 = .ok (.iadd, 1) := by decide +kernel
theorem dX0_joysOf_12 : decode cX0_joysOf 12 = .ok (.ireturn, 1) := by decide +kernel
theorem dX0_turn_0 : decode cX0_turn 0 = .ok (.aload_n 0, 1) := by decide +kernel
theorem dX0_turn_1 : decode cX0_turn 1 = .ok (.iload_n 1, 1) := by decide +kernel
theorem dX0_turn_2 : decode cX0_turn 2 = .ok (.iload_n 2, 1) := by decide +kernel
theorem dX0_turn_3 : decode cX0_turn 3 = .ok (.invokevirtual 89, 3) := by decide +kernel
theorem dX0_turn_6 : decode cX0_turn 6 = .ok (.istore_n 3, 1) := by decide +kernel
theorem dX0_turn_7 : decode cX0_turn 7 = .ok (.aload_n 0, 1) := by decide +kernel
theorem dX0_turn_8 : decode cX0_turn 8 = .ok (.getfield 11, 3) := by decide +kernel
theorem dX0_turn_11 : decode cX0_turn 11 = .ok (.iload_n 1, 1) := by decide +kernel
theorem dX0_turn_12 : decode cX0_turn 12 = .ok (.aaload, 1) := by decide +kernel
theorem dX0_turn_13 : decode cX0_turn 13 = .ok (.astore 4, 2) := by decide +kernel
theorem dX0_turn_15 : decode cX0_turn 15 = .ok (.aload_n 0, 1) := by decide +kernel
theorem dX0_turn_16 : decode cX0_turn 16 = .ok (.getfield 11, 3) := by decide +kernel
theorem dX0_turn_19 : decode cX0_turn 19 = .ok (.iload_n 2, 1) := by decide +kernel
theorem dX0_turn_20 : decode cX0_turn 20 = .ok (.aaload, 1) := by decide +kernel
theorem dX0_turn_21 : decode cX0_turn 21 = .ok (.astore 5, 2) := by decide +kernel
theorem dX0_turn_23 : decode cX0_turn 23 = .ok (.aload 4, 2) := by decide +kernel
theorem dX0_turn_25 : decode cX0_turn 25 = .ok (.dup, 1) := by decide +kernel
theorem dX0_turn_26 : decode cX0_turn 26 = .ok (.getfield 40, 3) := by decide +kernel
theorem dX0_turn_29 : decode cX0_turn 29 = .ok (.aload 4, 2) := by decide +kernel
theorem dX0_turn_31 : decode cX0_turn 31 = .ok (.invokevirtual 57, 3) := by decide +kernel
theorem dX0_turn_34 : decode cX0_turn 34 = .ok (.isub, 1) := by decide +kernel
theorem dX0_turn_35 : decode cX0_turn 35 = .ok (.putfield 40, 3) := by decide +kernel
theorem dX0_turn_38 : decode cX0_turn 38 = .ok (.aload 5, 2) := by decide +kernel
theorem dX0_turn_40 : decode cX0_turn 40 = .ok (.dup, 1) := by decide +kernel
theorem dX0_turn_41 : decode cX0_turn 41 = .ok (.getfield 43, 3) := by decide +kernel
theorem dX0_turn_44 : decode cX0_turn 44 = .ok (.aload 5, 2) := by decide +kernel
theorem dX0_turn_46 : decode cX0_turn 46 = .ok (.invokevirtual 79, 3) := by decide +kernel
theorem dX0_turn_49 : decode cX0_turn 49 = .ok (.isub, 1) := by decide +kernel
theorem dX0_turn_50 : decode cX0_turn 50 = .ok (.putfield 43, 3) := by decide +kernel
theorem dX0_turn_53 : decode cX0_turn 53 = .ok (.aload 4, 2) := by decide +kernel
theorem dX0_turn_55 : decode cX0_turn 55 = .ok (.aload 4, 2) := by decide +kernel
theorem dX0_turn_57 : decode cX0_turn 57 = .ok (.getfield 92, 3) := by decide +kernel
theorem dX0_turn_60 : decode cX0_turn 60 = .ok (.iconst 1, 1) := by decide +kernel
theorem dX0_turn_61 : decode cX0_turn 61 = .ok (.iadd, 1) := by decide +kernel
theorem dX0_turn_62 : decode cX0_turn 62 = .ok (.bipush 99, 2) := by decide +kernel
theorem dX0_turn_64 : decode cX0_turn 64 = .ok (.invokestatic 95, 3) := by decide +kernel
theorem dX0_turn_67 : decode cX0_turn 67 = .ok (.putfield 92, 3) := by decide +kernel
theorem dX0_turn_70 : decode cX0_turn 70 = .ok (.aload 5, 2) := by decide +kernel
theorem dX0_turn_72 : decode cX0_turn 72 = .ok (.aload 5, 2) := by decide +kernel
theorem dX0_turn_74 : decode cX0_turn 74 = .ok (.getfield 70, 3) := by decide +kernel
theorem dX0_turn_77 : decode cX0_turn 77 = .ok (.iconst 1, 1) := by decide +kernel
theorem dX0_turn_78 : decode cX0_turn 78 = .ok (.iadd, 1) := by decide +kernel
theorem dX0_turn_79 : decode cX0_turn 79 = .ok (.bipush 99, 2) := by decide +kernel
theorem dX0_turn_81 : decode cX0_turn 81 = .ok (.invokestatic 95, 3) := by decide +kernel
theorem dX0_turn_84 : decode cX0_turn 84 = .ok (.putfield 70, 3) := by decide +kernel
theorem dX0_turn_87 : decode cX0_turn 87 = .ok (.aload_n 0, 1) := by decide +kernel
theorem dX0_turn_88 : decode cX0_turn 88 = .ok (.dup, 1) := by decide +kernel
theorem dX0_turn_89 : decode cX0_turn 89 = .ok (.getfield 26, 3) := by decide +kernel
theorem dX0_turn_92 : decode cX0_turn 92 = .ok (.iconst 1, 1) := by decide +kernel
theorem dX0_turn_93 : decode cX0_turn 93 = .ok (.isub, 1) := by decide +kernel
theorem dX0_turn_94 : decode cX0_turn 94 = .ok (.putfield 26, 3) := by decide +kernel
theorem dX0_turn_97 : decode cX0_turn 97 = .ok (.aload_n 0, 1) := by decide +kernel
theorem dX0_turn_98 : decode cX0_turn 98 = .ok (.dup, 1) := by decide +kernel
theorem dX0_turn_99 : decode cX0_turn 99 = .ok (.getfield 29, 3) := by decide +kernel
theorem dX0_turn_102 : decode cX0_turn 102 = .ok (.iconst 1, 1) := by decide +kernel
theorem dX0_turn_103 : decode cX0_turn 103 = .ok (.iadd, 1) := by decide +kernel
theorem dX0_turn_104 : decode cX0_turn 104 = .ok (.putfield 29, 3) := by decide +kernel
theorem dX0_turn_107 : decode cX0_turn 107 = .ok (.iload_n 3, 1) := by decide +kernel
theorem dX0_turn_108 : decode cX0_turn 108 = .ok (.ireturn, 1) := by decide +kernel
theorem dX0_bestTurn_0 : decode cX0_bestTurn 0 = .ok (.bipush (-4), 2) := by decide +kernel
theorem dX0_bestTurn_2 : decode cX0_bestTurn 2 = .ok (.istore_n 1, 1) := by decide +kernel
theorem dX0_bestTurn_3 : decode cX0_bestTurn 3 = .ok (.iconst (-1), 1) := by decide +kernel
theorem dX0_bestTurn_4 : decode cX0_bestTurn 4 = .ok (.istore_n 2, 1) := by decide +kernel
theorem dX0_bestTurn_5 : decode cX0_bestTurn 5 = .ok (.iconst 0, 1) := by decide +kernel
theorem dX0_bestTurn_6 : decode cX0_bestTurn 6 = .ok (.istore_n 3, 1) := by decide +kernel
theorem dX0_bestTurn_7 : decode cX0_bestTurn 7 = .ok (.iload_n 3, 1) := by decide +kernel
theorem dX0_bestTurn_8 : decode cX0_bestTurn 8 = .ok (.aload_n 0, 1) := by decide +kernel
theorem dX0_bestTurn_9 : decode cX0_bestTurn 9 = .ok (.getfield 18, 3) := by decide +kernel
theorem dX0_bestTurn_12 : decode cX0_bestTurn 12 = .ok (.if_icmp .ge 48, 3) := by decide +kernel
theorem dX0_bestTurn_15 : decode cX0_bestTurn 15 = .ok (.aload_n 0, 1) := by decide +kernel
theorem dX0_bestTurn_16 : decode cX0_bestTurn 16 = .ok (.iload_n 3, 1) := by decide +kernel
theorem dX0_bestTurn_17 : decode cX0_bestTurn 17 = .ok (.invokevirtual 98, 3) := by decide +kernel
theorem dX0_bestTurn_20 : decode cX0_bestTurn 20 = .ok (.istore 4, 2) := by decide +kernel
theorem dX0_bestTurn_22 : decode cX0_bestTurn 22 = .ok (.iload 4, 2) := by decide +kernel
theorem dX0_bestTurn_24 : decode cX0_bestTurn 24 = .ok (.ifCond .lt 30, 3) := by decide +kernel
theorem dX0_bestTurn_27 : decode cX0_bestTurn 27 = .ok (.aload_n 0, 1) := by decide +kernel
theorem dX0_bestTurn_28 : decode cX0_bestTurn 28 = .ok (.iload_n 3, 1) := by decide +kernel
theorem dX0_bestTurn_29 : decode cX0_bestTurn 29 = .ok (.iload 4, 2) := by decide +kernel
theorem dX0_bestTurn_31 : decode cX0_bestTurn 31 = .ok (.invokevirtual 89, 3) := by decide +kernel
theorem dX0_bestTurn_34 : decode cX0_bestTurn 34 = .ok (.iload_n 2, 1) := by decide +kernel
theorem dX0_bestTurn_35 : decode cX0_bestTurn 35 = .ok (.if_icmp .le 19, 3) := by decide +kernel
theorem dX0_bestTurn_38 : decode cX0_bestTurn 38 = .ok (.aload_n 0, 1) := by decide +kernel
theorem dX0_bestTurn_39 : decode cX0_bestTurn 39 = .ok (.iload_n 3, 1) := by decide +kernel
theorem dX0_bestTurn_40 : decode cX0_bestTurn 40 = .ok (.iload 4, 2) := by decide +kernel
theorem dX0_bestTurn_42 : decode cX0_bestTurn 42 = .ok (.invokevirtual 89, 3) := by decide +kernel
theorem dX0_bestTurn_45 : decode cX0_bestTurn 45 = .ok (.istore_n 2, 1) := by decide +kernel
theorem dX0_bestTurn_46 : decode cX0_bestTurn 46 = .ok (.bipush 10, 2) := by decide +kernel
theorem dX0_bestTurn_48 : decode cX0_bestTurn 48 = .ok (.iload_n 3, 1) := by decide +kernel
theorem dX0_bestTurn_49 : decode cX0_bestTurn 49 = .ok (.imul, 1) := by decide +kernel
theorem dX0_bestTurn_50 : decode cX0_bestTurn 50 = .ok (.iload 4, 2) := by decide +kernel
theorem dX0_bestTurn_52 : decode cX0_bestTurn 52 = .ok (.iadd, 1) := by decide +kernel
theorem dX0_bestTurn_53 : decode cX0_bestTurn 53 = .ok (.istore_n 1, 1) := by decide +kernel
theorem dX0_bestTurn_54 : decode cX0_bestTurn 54 = .ok (.iinc 3 1, 3) := by decide +kernel
theorem dX0_bestTurn_57 : decode cX0_bestTurn 57 = .ok (.goto (-50), 3) := by decide +kernel
theorem dX0_bestTurn_60 : decode cX0_bestTurn 60 = .ok (.iload_n 1, 1) := by decide +kernel
theorem dX0_bestTurn_61 : decode cX0_bestTurn 61 = .ok (.ireturn, 1) := by decide +kernel
theorem dX0_bestLookerAt_0 : decode cX0_bestLookerAt 0 = .ok (.bipush (-4), 2) := by decide +kernel
theorem dX0_bestLookerAt_2 : decode cX0_bestLookerAt 2 = .ok (.istore_n 2, 1) := by decide +kernel
theorem dX0_bestLookerAt_3 : decode cX0_bestLookerAt 3 = .ok (.iconst (-1), 1) := by decide +kernel
theorem dX0_bestLookerAt_4 : decode cX0_bestLookerAt 4 = .ok (.istore_n 3, 1) := by decide +kernel
theorem dX0_bestLookerAt_5 : decode cX0_bestLookerAt 5 = .ok (.iconst 0, 1) := by decide +kernel
theorem dX0_bestLookerAt_6 : decode cX0_bestLookerAt 6 = .ok (.istore 4, 2) := by decide +kernel
theorem dX0_bestLookerAt_8 : decode cX0_bestLookerAt 8 = .ok (.iload 4, 2) := by decide +kernel
theorem dX0_bestLookerAt_10 : decode cX0_bestLookerAt 10 = .ok (.aload_n 0, 1) := by decide +kernel
theorem dX0_bestLookerAt_11 : decode cX0_bestLookerAt 11 = .ok (.getfield 18, 3) := by decide +kernel
theorem dX0_bestLookerAt_14 : decode cX0_bestLookerAt 14 = .ok (.if_icmp .ge 41, 3) := by decide +kernel
theorem dX0_bestLookerAt_17 : decode cX0_bestLookerAt 17 = .ok (.aload_n 0, 1) := by decide +kernel
theorem dX0_bestLookerAt_18 : decode cX0_bestLookerAt 18 = .ok (.iload_n 1, 1) := by decide +kernel
theorem dX0_bestLookerAt_19 : decode cX0_bestLookerAt 19 = .ok (.iload 4, 2) := by decide +kernel
theorem dX0_bestLookerAt_21 : decode cX0_bestLookerAt 21 = .ok (.invokevirtual 54, 3) := by decide +kernel
theorem dX0_bestLookerAt_24 : decode cX0_bestLookerAt 24 = .ok (.ifCond .eq 25, 3) := by decide +kernel
theorem dX0_bestLookerAt_27 : decode cX0_bestLookerAt 27 = .ok (.aload_n 0, 1) := by decide +kernel
theorem dX0_bestLookerAt_28 : decode cX0_bestLookerAt 28 = .ok (.iload_n 1, 1) := by decide +kernel
theorem dX0_bestLookerAt_29 : decode cX0_bestLookerAt 29 = .ok (.iload 4, 2) := by decide +kernel
theorem dX0_bestLookerAt_31 : decode cX0_bestLookerAt 31 = .ok (.invokevirtual 89, 3) := by decide +kernel
theorem dX0_bestLookerAt_34 : decode cX0_bestLookerAt 34 = .ok (.iload_n 3, 1) := by decide +kernel
theorem dX0_bestLookerAt_35 : decode cX0_bestLookerAt 35 = .ok (.if_icmp .le 14, 3) := by decide +kernel
theorem dX0_bestLookerAt_38 : decode cX0_bestLookerAt 38 = .ok (.aload_n 0, 1) := by decide +kernel
theorem dX0_bestLookerAt_39 : decode cX0_bestLookerAt 39 = .ok (.iload_n 1, 1) := by decide +kernel
theorem dX0_bestLookerAt_40 : decode cX0_bestLookerAt 40 = .ok (.iload 4, 2) := by decide +kernel
theorem dX0_bestLookerAt_42 : decode cX0_bestLookerAt 42 = .ok (.invokevirtual 89, 3) := by decide +kernel
theorem dX0_bestLookerAt_45 : decode cX0_bestLookerAt 45 = .ok (.istore_n 3, 1) := by decide +kernel
theorem dX0_bestLookerAt_46 : decode cX0_bestLookerAt 46 = .ok (.iload 4, 2) := by decide +kernel
theorem dX0_bestLookerAt_48 : decode cX0_bestLookerAt 48 = .ok (.istore_n 2, 1) := by decide +kernel
theorem dX0_bestLookerAt_49 : decode cX0_bestLookerAt 49 = .ok (.iinc 4 1, 3) := by decide +kernel
theorem dX0_bestLookerAt_52 : decode cX0_bestLookerAt 52 = .ok (.goto (-44), 3) := by decide +kernel
theorem dX0_bestLookerAt_55 : decode cX0_bestLookerAt 55 = .ok (.iload_n 2, 1) := by decide +kernel
theorem dX0_bestLookerAt_56 : decode cX0_bestLookerAt 56 = .ok (.ireturn, 1) := by decide +kernel
theorem dX0_allHunger_0 : decode cX0_allHunger 0 = .ok (.iconst 0, 1) := by decide +kernel
theorem dX0_allHunger_1 : decode cX0_allHunger 1 = .ok (.istore_n 1, 1) := by decide +kernel
theorem dX0_allHunger_2 : decode cX0_allHunger 2 = .ok (.iconst 0, 1) := by decide +kernel
theorem dX0_allHunger_3 : decode cX0_allHunger 3 = .ok (.istore_n 2, 1) := by decide +kernel
theorem dX0_allHunger_4 : decode cX0_allHunger 4 = .ok (.iload_n 2, 1) := by decide +kernel
theorem dX0_allHunger_5 : decode cX0_allHunger 5 = .ok (.aload_n 0, 1) := by decide +kernel
theorem dX0_allHunger_6 : decode cX0_allHunger 6 = .ok (.getfield 18, 3) := by decide +kernel
theorem dX0_allHunger_9 : decode cX0_allHunger 9 = .ok (.if_icmp .ge 21, 3) := by decide +kernel
theorem dX0_allHunger_12 : decode cX0_allHunger 12 = .ok (.iload_n 1, 1) := by decide +kernel
theorem dX0_allHunger_13 : decode cX0_allHunger 13 = .ok (.aload_n 0, 1) := by decide +kernel
theorem dX0_allHunger_14 : decode cX0_allHunger 14 = .ok (.getfield 11, 3) := by decide +kernel
theorem dX0_allHunger_17 : decode cX0_allHunger 17 = .ok (.iload_n 2, 1) := by decide +kernel
theorem dX0_allHunger_18 : decode cX0_allHunger 18 = .ok (.aaload, 1) := by decide +kernel
theorem dX0_allHunger_19 : decode cX0_allHunger 19 = .ok (.getfield 40, 3) := by decide +kernel
theorem dX0_allHunger_22 : decode cX0_allHunger 22 = .ok (.iadd, 1) := by decide +kernel
theorem dX0_allHunger_23 : decode cX0_allHunger 23 = .ok (.istore_n 1, 1) := by decide +kernel
theorem dX0_allHunger_24 : decode cX0_allHunger 24 = .ok (.iinc 2 1, 3) := by decide +kernel
theorem dX0_allHunger_27 : decode cX0_allHunger 27 = .ok (.goto (-23), 3) := by decide +kernel
theorem dX0_allHunger_30 : decode cX0_allHunger 30 = .ok (.iload_n 1, 1) := by decide +kernel
theorem dX0_allHunger_31 : decode cX0_allHunger 31 = .ok (.ireturn, 1) := by decide +kernel
theorem dX0_allWish_0 : decode cX0_allWish 0 = .ok (.iconst 0, 1) := by decide +kernel
theorem dX0_allWish_1 : decode cX0_allWish 1 = .ok (.istore_n 1, 1) := by decide +kernel
theorem dX0_allWish_2 : decode cX0_allWish 2 = .ok (.iconst 0, 1) := by decide +kernel
theorem dX0_allWish_3 : decode cX0_allWish 3 = .ok (.istore_n 2, 1) := by decide +kernel
theorem dX0_allWish_4 : decode cX0_allWish 4 = .ok (.iload_n 2, 1) := by decide +kernel
theorem dX0_allWish_5 : decode cX0_allWish 5 = .ok (.aload_n 0, 1) := by decide +kernel
theorem dX0_allWish_6 : decode cX0_allWish 6 = .ok (.getfield 18, 3) := by decide +kernel
theorem dX0_allWish_9 : decode cX0_allWish 9 = .ok (.if_icmp .ge 21, 3) := by decide +kernel
theorem dX0_allWish_12 : decode cX0_allWish 12 = .ok (.iload_n 1, 1) := by decide +kernel
theorem dX0_allWish_13 : decode cX0_allWish 13 = .ok (.aload_n 0, 1) := by decide +kernel
theorem dX0_allWish_14 : decode cX0_allWish 14 = .ok (.getfield 11, 3) := by decide +kernel
theorem dX0_allWish_17 : decode cX0_allWish 17 = .ok (.iload_n 2, 1) := by decide +kernel
theorem dX0_allWish_18 : decode cX0_allWish 18 = .ok (.aaload, 1) := by decide +kernel
theorem dX0_allWish_19 : decode cX0_allWish 19 = .ok (.getfield 43, 3) := by decide +kernel
theorem dX0_allWish_22 : decode cX0_allWish 22 = .ok (.iadd, 1) := by decide +kernel
theorem dX0_allWish_23 : decode cX0_allWish 23 = .ok (.istore_n 1, 1) := by decide +kernel
theorem dX0_allWish_24 : decode cX0_allWish 24 = .ok (.iinc 2 1, 3) := by decide +kernel
theorem dX0_allWish_27 : decode cX0_allWish 27 = .ok (.goto (-23), 3) := by decide +kernel
theorem dX0_allWish_30 : decode cX0_allWish 30 = .ok (.iload_n 1, 1) := by decide +kernel
theorem dX0_allWish_31 : decode cX0_allWish 31 = .ok (.ireturn, 1) := by decide +kernel
theorem dX0_allEaten_0 : decode cX0_allEaten 0 = .ok (.iconst 0, 1) := by decide +kernel
theorem dX0_allEaten_1 : decode cX0_allEaten 1 = .ok (.istore_n 1, 1) := by decide +kernel
theorem dX0_allEaten_2 : decode cX0_allEaten 2 = .ok (.iconst 0, 1) := by decide +kernel
theorem dX0_allEaten_3 : decode cX0_allEaten 3 = .ok (.istore_n 2, 1) := by decide +kernel
theorem dX0_allEaten_4 : decode cX0_allEaten 4 = .ok (.iload_n 2, 1) := by decide +kernel
theorem dX0_allEaten_5 : decode cX0_allEaten 5 = .ok (.aload_n 0, 1) := by decide +kernel
theorem dX0_allEaten_6 : decode cX0_allEaten 6 = .ok (.getfield 18, 3) := by decide +kernel
theorem dX0_allEaten_9 : decode cX0_allEaten 9 = .ok (.if_icmp .ge 21, 3) := by decide +kernel
theorem dX0_allEaten_12 : decode cX0_allEaten 12 = .ok (.iload_n 1, 1) := by decide +kernel
theorem dX0_allEaten_13 : decode cX0_allEaten 13 = .ok (.aload_n 0, 1) := by decide +kernel
theorem dX0_allEaten_14 : decode cX0_allEaten 14 = .ok (.getfield 11, 3) := by decide +kernel
theorem dX0_allEaten_17 : decode cX0_allEaten 17 = .ok (.iload_n 2, 1) := by decide +kernel
theorem dX0_allEaten_18 : decode cX0_allEaten 18 = .ok (.aaload, 1) := by decide +kernel
theorem dX0_allEaten_19 : decode cX0_allEaten 19 = .ok (.getfield 92, 3) := by decide +kernel
theorem dX0_allEaten_22 : decode cX0_allEaten 22 = .ok (.iadd, 1) := by decide +kernel
theorem dX0_allEaten_23 : decode cX0_allEaten 23 = .ok (.istore_n 1, 1) := by decide +kernel
theorem dX0_allEaten_24 : decode cX0_allEaten 24 = .ok (.iinc 2 1, 3) := by decide +kernel
theorem dX0_allEaten_27 : decode cX0_allEaten 27 = .ok (.goto (-23), 3) := by decide +kernel
theorem dX0_allEaten_30 : decode cX0_allEaten 30 = .ok (.iload_n 1, 1) := by decide +kernel
theorem dX0_allEaten_31 : decode cX0_allEaten 31 = .ok (.ireturn, 1) := by decide +kernel
theorem dX0_whoHasHadNone_0 : decode cX0_whoHasHadNone 0 = .ok (.iconst 0, 1) := by decide +kernel
theorem dX0_whoHasHadNone_1 : decode cX0_whoHasHadNone 1 = .ok (.istore_n 1, 1) := by decide +kernel
theorem dX0_whoHasHadNone_2 : decode cX0_whoHasHadNone 2 = .ok (.iconst 0, 1) := by decide +kernel
theorem dX0_whoHasHadNone_3 : decode cX0_whoHasHadNone 3 = .ok (.istore_n 2, 1) := by decide +kernel
theorem dX0_whoHasHadNone_4 : decode cX0_whoHasHadNone 4 = .ok (.iload_n 2, 1) := by decide +kernel
theorem dX0_whoHasHadNone_5 : decode cX0_whoHasHadNone 5 = .ok (.aload_n 0, 1) := by decide +kernel
theorem dX0_whoHasHadNone_6 : decode cX0_whoHasHadNone 6 = .ok (.getfield 18, 3) := by decide +kernel
theorem dX0_whoHasHadNone_9 : decode cX0_whoHasHadNone 9 = .ok (.if_icmp .ge 27, 3) := by decide +kernel
theorem dX0_whoHasHadNone_12 : decode cX0_whoHasHadNone 12 = .ok (.aload_n 0, 1) := by decide +kernel
theorem dX0_whoHasHadNone_13 : decode cX0_whoHasHadNone 13 = .ok (.getfield 11, 3) := by decide +kernel
theorem dX0_whoHasHadNone_16 : decode cX0_whoHasHadNone 16 = .ok (.iload_n 2, 1) := by decide +kernel
theorem dX0_whoHasHadNone_17 : decode cX0_whoHasHadNone 17 = .ok (.aaload, 1) := by decide +kernel
theorem dX0_whoHasHadNone_18 : decode cX0_whoHasHadNone 18 = .ok (.getfield 92, 3) := by decide +kernel
theorem dX0_whoHasHadNone_21 : decode cX0_whoHasHadNone 21 = .ok (.ifCond .ne 9, 3) := by decide +kernel
theorem dX0_whoHasHadNone_24 : decode cX0_whoHasHadNone 24 = .ok (.iload_n 1, 1) := by decide +kernel
theorem dX0_whoHasHadNone_25 : decode cX0_whoHasHadNone 25 = .ok (.iconst 1, 1) := by decide +kernel
theorem dX0_whoHasHadNone_26 : decode cX0_whoHasHadNone 26 = .ok (.iload_n 2, 1) := by decide +kernel
theorem dX0_whoHasHadNone_27 : decode cX0_whoHasHadNone 27 = .ok (.ishl, 1) := by decide +kernel
theorem dX0_whoHasHadNone_28 : decode cX0_whoHasHadNone 28 = .ok (.ior, 1) := by decide +kernel
theorem dX0_whoHasHadNone_29 : decode cX0_whoHasHadNone 29 = .ok (.istore_n 1, 1) := by decide +kernel
theorem dX0_whoHasHadNone_30 : decode cX0_whoHasHadNone 30 = .ok (.iinc 2 1, 3) := by decide +kernel
theorem dX0_whoHasHadNone_33 : decode cX0_whoHasHadNone 33 = .ok (.goto (-29), 3) := by decide +kernel
theorem dX0_whoHasHadNone_36 : decode cX0_whoHasHadNone 36 = .ok (.iload_n 1, 1) := by decide +kernel
theorem dX0_whoHasHadNone_37 : decode cX0_whoHasHadNone 37 = .ok (.ireturn, 1) := by decide +kernel
theorem dX1_biteWith_0 : decode cX1_biteWith 0 = .ok (.aload_n 0, 1) := by decide +kernel
theorem dX1_biteWith_1 : decode cX1_biteWith 1 = .ok (.getstatic 10, 3) := by decide +kernel
theorem dX1_biteWith_4 : decode cX1_biteWith 4 = .ok (.if_acmp .ne 14, 3) := by decide +kernel
theorem dX1_biteWith_7 : decode cX1_biteWith 7 = .ok (.aload_n 0, 1) := by decide +kernel
theorem dX1_biteWith_8 : decode cX1_biteWith 8 = .ok (.getfield 47, 3) := by decide +kernel
theorem dX1_biteWith_11 : decode cX1_biteWith 11 = .ok (.iload_n 1, 1) := by decide +kernel
theorem dX1_biteWith_12 : decode cX1_biteWith 12 = .ok (.iconst 2, 1) := by decide +kernel
theorem dX1_biteWith_13 : decode cX1_biteWith 13 = .ok (.idiv, 1) := by decide +kernel
theorem dX1_biteWith_14 : decode cX1_biteWith 14 = .ok (.iadd, 1) := by decide +kernel
theorem dX1_biteWith_15 : decode cX1_biteWith 15 = .ok (.goto 7, 3) := by decide +kernel
theorem dX1_biteWith_18 : decode cX1_biteWith 18 = .ok (.aload_n 0, 1) := by decide +kernel
theorem dX1_biteWith_19 : decode cX1_biteWith 19 = .ok (.getfield 47, 3) := by decide +kernel
theorem dX1_biteWith_22 : decode cX1_biteWith 22 = .ok (.ireturn, 1) := by decide +kernel
theorem dX1_gazeWith_0 : decode cX1_gazeWith 0 = .ok (.aload_n 0, 1) := by decide +kernel
theorem dX1_gazeWith_1 : decode cX1_gazeWith 1 = .ok (.getstatic 13, 3) := by decide +kernel
theorem dX1_gazeWith_4 : decode cX1_gazeWith 4 = .ok (.if_acmp .ne 12, 3) := by decide +kernel
theorem dX1_gazeWith_7 : decode cX1_gazeWith 7 = .ok (.aload_n 0, 1) := by decide +kernel
theorem dX1_gazeWith_8 : decode cX1_gazeWith 8 = .ok (.getfield 51, 3) := by decide +kernel
theorem dX1_gazeWith_11 : decode cX1_gazeWith 11 = .ok (.iload_n 1, 1) := by decide +kernel
theorem dX1_gazeWith_12 : decode cX1_gazeWith 12 = .ok (.iconst 3, 1) := by decide +kernel
theorem dX1_gazeWith_13 : decode cX1_gazeWith 13 = .ok (.idiv, 1) := by decide +kernel
theorem dX1_gazeWith_14 : decode cX1_gazeWith 14 = .ok (.iadd, 1) := by decide +kernel
theorem dX1_gazeWith_15 : decode cX1_gazeWith 15 = .ok (.ireturn, 1) := by decide +kernel
theorem dX1_gazeWith_16 : decode cX1_gazeWith 16 = .ok (.aload_n 0, 1) := by decide +kernel
theorem dX1_gazeWith_17 : decode cX1_gazeWith 17 = .ok (.getstatic 19, 3) := by decide +kernel
theorem dX1_gazeWith_20 : decode cX1_gazeWith 20 = .ok (.if_acmp .ne 16, 3) := by decide +kernel
theorem dX1_gazeWith_23 : decode cX1_gazeWith 23 = .ok (.aload_n 0, 1) := by decide +kernel
theorem dX1_gazeWith_24 : decode cX1_gazeWith 24 = .ok (.getfield 51, 3) := by decide +kernel
theorem dX1_gazeWith_27 : decode cX1_gazeWith 27 = .ok (.iconst 2, 1) := by decide +kernel
theorem dX1_gazeWith_28 : decode cX1_gazeWith 28 = .ok (.iload_n 1, 1) := by decide +kernel
theorem dX1_gazeWith_29 : decode cX1_gazeWith 29 = .ok (.iconst 3, 1) := by decide +kernel
theorem dX1_gazeWith_30 : decode cX1_gazeWith 30 = .ok (.idiv, 1) := by decide +kernel
theorem dX1_gazeWith_31 : decode cX1_gazeWith 31 = .ok (.imul, 1) := by decide +kernel
theorem dX1_gazeWith_32 : decode cX1_gazeWith 32 = .ok (.iadd, 1) := by decide +kernel
theorem dX1_gazeWith_33 : decode cX1_gazeWith 33 = .ok (.goto 7, 3) := by decide +kernel
theorem dX1_gazeWith_36 : decode cX1_gazeWith 36 = .ok (.aload_n 0, 1) := by decide +kernel
theorem dX1_gazeWith_37 : decode cX1_gazeWith 37 = .ok (.getfield 51, 3) := by decide +kernel
theorem dX1_gazeWith_40 : decode cX1_gazeWith 40 = .ok (.ireturn, 1) := by decide +kernel
theorem dX1_costWith_0 : decode cX1_costWith 0 = .ok (.aload_n 0, 1) := by decide +kernel
theorem dX1_costWith_1 : decode cX1_costWith 1 = .ok (.getstatic 10, 3) := by decide +kernel
theorem dX1_costWith_4 : decode cX1_costWith 4 = .ok (.if_acmp .eq 10, 3) := by decide +kernel
theorem dX1_costWith_7 : decode cX1_costWith 7 = .ok (.aload_n 0, 1) := by decide +kernel
theorem dX1_costWith_8 : decode cX1_costWith 8 = .ok (.getstatic 19, 3) := by decide +kernel
theorem dX1_costWith_11 : decode cX1_costWith 11 = .ok (.if_acmp .ne 12, 3) := by decide +kernel
theorem dX1_costWith_14 : decode cX1_costWith 14 = .ok (.aload_n 0, 1) := by decide +kernel
theorem dX1_costWith_15 : decode cX1_costWith 15 = .ok (.getfield 57, 3) := by decide +kernel
theorem dX1_costWith_18 : decode cX1_costWith 18 = .ok (.iload_n 1, 1) := by decide +kernel
theorem dX1_costWith_19 : decode cX1_costWith 19 = .ok (.iadd, 1) := by decide +kernel
theorem dX1_costWith_20 : decode cX1_costWith 20 = .ok (.goto 7, 3) := by decide +kernel
theorem dX1_costWith_23 : decode cX1_costWith 23 = .ok (.aload_n 0, 1) := by decide +kernel
theorem dX1_costWith_24 : decode cX1_costWith 24 = .ok (.getfield 57, 3) := by decide +kernel
theorem dX1_costWith_27 : decode cX1_costWith 27 = .ok (.ireturn, 1) := by decide +kernel
theorem dX1_failWith_0 : decode cX1_failWith 0 = .ok (.iload_n 1, 1) := by decide +kernel
theorem dX1_failWith_1 : decode cX1_failWith 1 = .ok (.ifCond .eq 17, 3) := by decide +kernel
theorem dX1_failWith_4 : decode cX1_failWith 4 = .ok (.aload_n 0, 1) := by decide +kernel
theorem dX1_failWith_5 : decode cX1_failWith 5 = .ok (.getstatic 16, 3) := by decide +kernel
theorem dX1_failWith_8 : decode cX1_failWith 8 = .ok (.if_acmp .eq 10, 3) := by decide +kernel
theorem dX1_failWith_11 : decode cX1_failWith 11 = .ok (.aload_n 0, 1) := by decide +kernel
theorem dX1_failWith_12 : decode cX1_failWith 12 = .ok (.getstatic 25, 3) := by decide +kernel
theorem dX1_failWith_15 : decode cX1_failWith 15 = .ok (.if_acmp .ne 4, 3) := by decide +kernel
theorem dX1_failWith_18 : decode cX1_failWith 18 = .ok (.return_, 1) := by decide +kernel
theorem dX1_failWith_19 : decode cX1_failWith 19 = .ok (.aload_n 0, 1) := by decide +kernel
theorem dX1_failWith_20 : decode cX1_failWith 20 = .ok (.getstatic 19, 3) := by decide +kernel
theorem dX1_failWith_23 : decode cX1_failWith 23 = .ok (.if_acmp .ne 13, 3) := by decide +kernel
theorem dX1_failWith_26 : decode cX1_failWith 26 = .ok (.new 60, 3) := by decide +kernel
theorem dX1_failWith_29 : decode cX1_failWith 29 = .ok (.dup, 1) := by decide +kernel
theorem dX1_failWith_30 : decode cX1_failWith 30 = .ok (.ldc 62, 2) := by decide +kernel
theorem dX1_failWith_32 : decode cX1_failWith 32 = .ok (.invokespecial 64, 3) := by decide +kernel
theorem dX1_failWith_35 : decode cX1_failWith 35 = .ok (.athrow, 1) := by decide +kernel
theorem dX1_failWith_36 : decode cX1_failWith 36 = .ok (.aload_n 0, 1) := by decide +kernel
theorem dX1_failWith_37 : decode cX1_failWith 37 = .ok (.getstatic 13, 3) := by decide +kernel
theorem dX1_failWith_40 : decode cX1_failWith 40 = .ok (.if_acmp .ne 13, 3) := by decide +kernel
theorem dX1_failWith_43 : decode cX1_failWith 43 = .ok (.new 67, 3) := by decide +kernel
theorem dX1_failWith_46 : decode cX1_failWith 46 = .ok (.dup, 1) := by decide +kernel
theorem dX1_failWith_47 : decode cX1_failWith 47 = .ok (.ldc 69, 2) := by decide +kernel
theorem dX1_failWith_49 : decode cX1_failWith 49 = .ok (.invokespecial 71, 3) := by decide +kernel
theorem dX1_failWith_52 : decode cX1_failWith 52 = .ok (.athrow, 1) := by decide +kernel
theorem dX1_failWith_53 : decode cX1_failWith 53 = .ok (.new 72, 3) := by decide +kernel
theorem dX1_failWith_56 : decode cX1_failWith 56 = .ok (.dup, 1) := by decide +kernel
theorem dX1_failWith_57 : decode cX1_failWith 57 = .ok (.ldc 74, 2) := by decide +kernel
theorem dX1_failWith_59 : decode cX1_failWith 59 = .ok (.invokespecial 76, 3) := by decide +kernel
theorem dX1_failWith_62 : decode cX1_failWith 62 = .ok (.athrow, 1) := by decide +kernel
theorem dX2_init_0 : decode cX2_init 0 = .ok (.aload_n 0, 1) := by decide +kernel
theorem dX2_init_1 : decode cX2_init 1 = .ok (.invokespecial 3, 3) := by decide +kernel
theorem dX2_init_4 : decode cX2_init 4 = .ok (.aload_n 0, 1) := by decide +kernel
theorem dX2_init_5 : decode cX2_init 5 = .ok (.bipush 8, 2) := by decide +kernel
theorem dX2_init_7 : decode cX2_init 7 = .ok (.newarray .int, 2) := by decide +kernel
theorem dX2_init_9 : decode cX2_init 9 = .ok (.putfield 9, 3) := by decide +kernel
theorem dX2_init_12 : decode cX2_init 12 = .ok (.aload_n 0, 1) := by decide +kernel
theorem dX2_init_13 : decode cX2_init 13 = .ok (.bipush 64, 2) := by decide +kernel
theorem dX2_init_15 : decode cX2_init 15 = .ok (.newarray .int, 2) := by decide +kernel
theorem dX2_init_17 : decode cX2_init 17 = .ok (.putfield 15, 3) := by decide +kernel
theorem dX2_init_20 : decode cX2_init 20 = .ok (.aload_n 0, 1) := by decide +kernel
theorem dX2_init_21 : decode cX2_init 21 = .ok (.sipush 1280, 3) := by decide +kernel
theorem dX2_init_24 : decode cX2_init 24 = .ok (.newarray .int, 2) := by decide +kernel
theorem dX2_init_26 : decode cX2_init 26 = .ok (.putfield 18, 3) := by decide +kernel
theorem dX2_init_29 : decode cX2_init 29 = .ok (.return_, 1) := by decide +kernel
theorem dX2_find_0 : decode cX2_find 0 = .ok (.aload_n 0, 1) := by decide +kernel
theorem dX2_find_1 : decode cX2_find 1 = .ok (.aload_n 1, 1) := by decide +kernel
theorem dX2_find_2 : decode cX2_find 2 = .ok (.getfield 21, 3) := by decide +kernel
theorem dX2_find_5 : decode cX2_find 5 = .ok (.putfield 27, 3) := by decide +kernel
theorem dX2_find_8 : decode cX2_find 8 = .ok (.aload_n 0, 1) := by decide +kernel
theorem dX2_find_9 : decode cX2_find 9 = .ok (.aload_n 1, 1) := by decide +kernel
theorem dX2_find_10 : decode cX2_find 10 = .ok (.invokevirtual 28, 3) := by decide +kernel
theorem dX2_find_13 : decode cX2_find 13 = .ok (.iconst 1, 1) := by decide +kernel
theorem dX2_find_14 : decode cX2_find 14 = .ok (.aload_n 0, 1) := by decide +kernel
theorem dX2_find_15 : decode cX2_find 15 = .ok (.getfield 27, 3) := by decide +kernel
theorem dX2_find_18 : decode cX2_find 18 = .ok (.ishl, 1) := by decide +kernel
theorem dX2_find_19 : decode cX2_find 19 = .ok (.iconst 1, 1) := by decide +kernel
theorem dX2_find_20 : decode cX2_find 20 = .ok (.isub, 1) := by decide +kernel
theorem dX2_find_21 : decode cX2_find 21 = .ok (.istore_n 2, 1) := by decide +kernel
theorem dX2_find_22 : decode cX2_find 22 = .ok (.aload_n 1, 1) := by decide +kernel
theorem dX2_find_23 : decode cX2_find 23 = .ok (.getfield 32, 3) := by decide +kernel
theorem dX2_find_26 : decode cX2_find 26 = .ok (.aload_n 0, 1) := by decide +kernel
theorem dX2_find_27 : decode cX2_find 27 = .ok (.getfield 27, 3) := by decide +kernel
theorem dX2_find_30 : decode cX2_find 30 = .ok (.iconst 2, 1) := by decide +kernel
theorem dX2_find_31 : decode cX2_find 31 = .ok (.idiv, 1) := by decide +kernel
theorem dX2_find_32 : decode cX2_find 32 = .ok (.invokestatic 35, 3) := by decide +kernel
theorem dX2_find_35 : decode cX2_find 35 = .ok (.istore_n 3, 1) := by decide +kernel
theorem dX2_find_36 : decode cX2_find 36 = .ok (.iconst 0, 1) := by decide +kernel
theorem dX2_find_37 : decode cX2_find 37 = .ok (.istore 4, 2) := by decide +kernel
theorem dX2_find_39 : decode cX2_find 39 = .ok (.iload 4, 2) := by decide +kernel
theorem dX2_find_41 : decode cX2_find 41 = .ok (.iload_n 3, 1) := by decide +kernel
theorem dX2_find_42 : decode cX2_find 42 = .ok (.if_icmp .gt 46, 3) := by decide +kernel
theorem dX2_find_45 : decode cX2_find 45 = .ok (.iconst 0, 1) := by decide +kernel
theorem dX2_find_46 : decode cX2_find 46 = .ok (.istore 5, 2) := by decide +kernel
theorem dX2_find_48 : decode cX2_find 48 = .ok (.iload 5, 2) := by decide +kernel
theorem dX2_find_50 : decode cX2_find 50 = .ok (.iload_n 2, 1) := by decide +kernel
theorem dX2_find_51 : decode cX2_find 51 = .ok (.if_icmp .gt 31, 3) := by decide +kernel
theorem dX2_find_54 : decode cX2_find 54 = .ok (.aload_n 0, 1) := by decide +kernel
theorem dX2_find_55 : decode cX2_find 55 = .ok (.getfield 18, 3) := by decide +kernel
theorem dX2_find_58 : decode cX2_find 58 = .ok (.iload 4, 2) := by decide +kernel
theorem dX2_find_60 : decode cX2_find 60 = .ok (.sipush 256, 3) := by decide +kernel
theorem dX2_find_63 : decode cX2_find 63 = .ok (.imul, 1) := by decide +kernel
theorem dX2_find_64 : decode cX2_find 64 = .ok (.iload 5, 2) := by decide +kernel
theorem dX2_find_66 : decode cX2_find 66 = .ok (.iadd, 1) := by decide +kernel
theorem dX2_find_67 : decode cX2_find 67 = .ok (.aload_n 0, 1) := by decide +kernel
theorem dX2_find_68 : decode cX2_find 68 = .ok (.iload 4, 2) := by decide +kernel
theorem dX2_find_70 : decode cX2_find 70 = .ok (.iload 5, 2) := by decide +kernel
theorem dX2_find_72 : decode cX2_find 72 = .ok (.invokevirtual 41, 3) := by decide +kernel
theorem dX2_find_75 : decode cX2_find 75 = .ok (.iastore, 1) := by decide +kernel
theorem dX2_find_76 : decode cX2_find 76 = .ok (.iinc 5 1, 3) := by decide +kernel
theorem dX2_find_79 : decode cX2_find 79 = .ok (.goto (-31), 3) := by decide +kernel
theorem dX2_find_82 : decode cX2_find 82 = .ok (.iinc 4 1, 3) := by decide +kernel
theorem dX2_find_85 : decode cX2_find 85 = .ok (.goto (-46), 3) := by decide +kernel
theorem dX2_find_88 : decode cX2_find 88 = .ok (.aload_n 0, 1) := by decide +kernel
theorem dX2_find_89 : decode cX2_find 89 = .ok (.aload_n 0, 1) := by decide +kernel
theorem dX2_find_90 : decode cX2_find 90 = .ok (.getfield 18, 3) := by decide +kernel
theorem dX2_find_93 : decode cX2_find 93 = .ok (.iload_n 3, 1) := by decide +kernel
theorem dX2_find_94 : decode cX2_find 94 = .ok (.sipush 256, 3) := by decide +kernel
theorem dX2_find_97 : decode cX2_find 97 = .ok (.imul, 1) := by decide +kernel
theorem dX2_find_98 : decode cX2_find 98 = .ok (.iload_n 2, 1) := by decide +kernel
theorem dX2_find_99 : decode cX2_find 99 = .ok (.iadd, 1) := by decide +kernel
theorem dX2_find_100 : decode cX2_find 100 = .ok (.iaload, 1) := by decide +kernel
theorem dX2_find_101 : decode cX2_find 101 = .ok (.putfield 44, 3) := by decide +kernel
theorem dX2_find_104 : decode cX2_find 104 = .ok (.aload_n 0, 1) := by decide +kernel
theorem dX2_find_105 : decode cX2_find 105 = .ok (.iload_n 3, 1) := by decide +kernel
theorem dX2_find_106 : decode cX2_find 106 = .ok (.iload_n 2, 1) := by decide +kernel
theorem dX2_find_107 : decode cX2_find 107 = .ok (.invokevirtual 47, 3) := by decide +kernel
theorem dX2_find_110 : decode cX2_find 110 = .ok (.return_, 1) := by decide +kernel
theorem dX2_readJoys_0 : decode cX2_readJoys 0 = .ok (.iconst 0, 1) := by decide +kernel
theorem dX2_readJoys_1 : decode cX2_readJoys 1 = .ok (.istore_n 2, 1) := by decide +kernel
theorem dX2_readJoys_2 : decode cX2_readJoys 2 = .ok (.iload_n 2, 1) := by decide +kernel
theorem dX2_readJoys_3 : decode cX2_readJoys 3 = .ok (.aload_n 0, 1) := by decide +kernel
theorem dX2_readJoys_4 : decode cX2_readJoys 4 = .ok (.getfield 27, 3) := by decide +kernel
theorem dX2_readJoys_7 : decode cX2_readJoys 7 = .ok (.if_icmp .ge 60, 3) := by decide +kernel
theorem dX2_readJoys_10 : decode cX2_readJoys 10 = .ok (.iconst 0, 1) := by decide +kernel
theorem dX2_readJoys_11 : decode cX2_readJoys 11 = .ok (.istore_n 3, 1) := by decide +kernel
theorem dX2_readJoys_12 : decode cX2_readJoys 12 = .ok (.iload_n 3, 1) := by decide +kernel
theorem dX2_readJoys_13 : decode cX2_readJoys 13 = .ok (.aload_n 0, 1) := by decide +kernel
theorem dX2_readJoys_14 : decode cX2_readJoys 14 = .ok (.getfield 27, 3) := by decide +kernel
theorem dX2_readJoys_17 : decode cX2_readJoys 17 = .ok (.if_icmp .ge 44, 3) := by decide +kernel
theorem dX2_readJoys_20 : decode cX2_readJoys 20 = .ok (.aload_n 1, 1) := by decide +kernel
theorem dX2_readJoys_21 : decode cX2_readJoys 21 = .ok (.iload_n 2, 1) := by decide +kernel
theorem dX2_readJoys_22 : decode cX2_readJoys 22 = .ok (.iload_n 3, 1) := by decide +kernel
theorem dX2_readJoys_23 : decode cX2_readJoys 23 = .ok (.invokevirtual 51, 3) := by decide +kernel
theorem dX2_readJoys_26 : decode cX2_readJoys 26 = .ok (.ifCond .eq 12, 3) := by decide +kernel
theorem dX2_readJoys_29 : decode cX2_readJoys 29 = .ok (.aload_n 1, 1) := by decide +kernel
theorem dX2_readJoys_30 : decode cX2_readJoys 30 = .ok (.iload_n 2, 1) := by decide +kernel
theorem dX2_readJoys_31 : decode cX2_readJoys 31 = .ok (.iload_n 3, 1) := by decide +kernel
theorem dX2_readJoys_32 : decode cX2_readJoys 32 = .ok (.invokevirtual 55, 3) := by decide +kernel
theorem dX2_readJoys_35 : decode cX2_readJoys 35 = .ok (.goto 5, 3) := by decide +kernel
theorem dX2_readJoys_38 : decode cX2_readJoys 38 = .ok (.bipush (-4), 2) := by decide +kernel
theorem dX2_readJoys_40 : decode cX2_readJoys 40 = .ok (.istore 4, 2) := by decide +kernel
theorem dX2_readJoys_42 : decode cX2_readJoys 42 = .ok (.aload_n 0, 1) := by decide +kernel
theorem dX2_readJoys_43 : decode cX2_readJoys 43 = .ok (.getfield 15, 3) := by decide +kernel
theorem dX2_readJoys_46 : decode cX2_readJoys 46 = .ok (.iload_n 2, 1) := by decide +kernel
theorem dX2_readJoys_47 : decode cX2_readJoys 47 = .ok (.bipush 8, 2) := by decide +kernel
theorem dX2_readJoys_49 : decode cX2_readJoys 49 = .ok (.imul, 1) := by decide +kernel
theorem dX2_readJoys_50 : decode cX2_readJoys 50 = .ok (.iload_n 3, 1) := by decide +kernel
theorem dX2_readJoys_51 : decode cX2_readJoys 51 = .ok (.iadd, 1) := by decide +kernel
theorem dX2_readJoys_52 : decode cX2_readJoys 52 = .ok (.iload 4, 2) := by decide +kernel
theorem dX2_readJoys_54 : decode cX2_readJoys 54 = .ok (.iastore, 1) := by decide +kernel
theorem dX2_readJoys_55 : decode cX2_readJoys 55 = .ok (.iinc 3 1, 3) := by decide +kernel
theorem dX2_readJoys_58 : decode cX2_readJoys 58 = .ok (.goto (-46), 3) := by decide +kernel
theorem dX2_readJoys_61 : decode cX2_readJoys 61 = .ok (.iinc 2 1, 3) := by decide +kernel
theorem dX2_readJoys_64 : decode cX2_readJoys 64 = .ok (.goto (-62), 3) := by decide +kernel
theorem dX2_readJoys_67 : decode cX2_readJoys 67 = .ok (.return_, 1) := by decide +kernel
theorem dX2_mostOf_0 : decode cX2_mostOf 0 = .ok (.iload_n 1, 1) := by decide +kernel
theorem dX2_mostOf_1 : decode cX2_mostOf 1 = .ok (.ifCond .eq 7, 3) := by decide +kernel
theorem dX2_mostOf_4 : decode cX2_mostOf 4 = .ok (.iload_n 2, 1) := by decide +kernel
theorem dX2_mostOf_5 : decode cX2_mostOf 5 = .ok (.ifCond .ne 5, 3) := by decide +kernel
theorem dX2_mostOf_8 : decode cX2_mostOf 8 = .ok (.iconst 0, 1) := by decide +kernel
theorem dX2_mostOf_9 : decode cX2_mostOf 9 = .ok (.ireturn, 1) := by decide +kernel
theorem dX2_mostOf_10 : decode cX2_mostOf 10 = .ok (.aload_n 0, 1) := by decide +kernel
theorem dX2_mostOf_11 : decode cX2_mostOf 11 = .ok (.iload_n 2, 1) := by decide +kernel
theorem dX2_mostOf_12 : decode cX2_mostOf 12 = .ok (.invokevirtual 58, 3) := by decide +kernel
theorem dX2_mostOf_15 : decode cX2_mostOf 15 = .ok (.istore_n 3, 1) := by decide +kernel
theorem dX2_mostOf_16 : decode cX2_mostOf 16 = .ok (.iload_n 2, 1) := by decide +kernel
theorem dX2_mostOf_17 : decode cX2_mostOf 17 = .ok (.iconst 1, 1) := by decide +kernel
theorem dX2_mostOf_18 : decode cX2_mostOf 18 = .ok (.iload_n 3, 1) := by decide +kernel
theorem dX2_mostOf_19 : decode cX2_mostOf 19 = .ok (.ishl, 1) := by decide +kernel
theorem dX2_mostOf_20 : decode cX2_mostOf 20 = .ok (.iconst (-1), 1) := by decide +kernel
theorem dX2_mostOf_21 : decode cX2_mostOf 21 = .ok (.ixor, 1) := by decide +kernel
theorem dX2_mostOf_22 : decode cX2_mostOf 22 = .ok (.iand, 1) := by decide +kernel
theorem dX2_mostOf_23 : decode cX2_mostOf 23 = .ok (.istore 4, 2) := by decide +kernel
theorem dX2_mostOf_25 : decode cX2_mostOf 25 = .ok (.aload_n 0, 1) := by decide +kernel
theorem dX2_mostOf_26 : decode cX2_mostOf 26 = .ok (.getfield 18, 3) := by decide +kernel
theorem dX2_mostOf_29 : decode cX2_mostOf 29 = .ok (.iload_n 1, 1) := by decide +kernel
theorem dX2_mostOf_30 : decode cX2_mostOf 30 = .ok (.sipush 256, 3) := by decide +kernel
theorem dX2_mostOf_33 : decode cX2_mostOf 33 = .ok (.imul, 1) := by decide +kernel
theorem dX2_mostOf_34 : decode cX2_mostOf 34 = .ok (.iload 4, 2) := by decide +kernel
theorem dX2_mostOf_36 : decode cX2_mostOf 36 = .ok (.iadd, 1) := by decide +kernel
theorem dX2_mostOf_37 : decode cX2_mostOf 37 = .ok (.iaload, 1) := by decide +kernel
theorem dX2_mostOf_38 : decode cX2_mostOf 38 = .ok (.istore 5, 2) := by decide +kernel
theorem dX2_mostOf_40 : decode cX2_mostOf 40 = .ok (.iload_n 3, 1) := by decide +kernel
theorem dX2_mostOf_41 : decode cX2_mostOf 41 = .ok (.iconst 1, 1) := by decide +kernel
theorem dX2_mostOf_42 : decode cX2_mostOf 42 = .ok (.iadd, 1) := by decide +kernel
theorem dX2_mostOf_43 : decode cX2_mostOf 43 = .ok (.istore 6, 2) := by decide +kernel
theorem dX2_mostOf_45 : decode cX2_mostOf 45 = .ok (.iload 6, 2) := by decide +kernel
theorem dX2_mostOf_47 : decode cX2_mostOf 47 = .ok (.aload_n 0, 1) := by decide +kernel
theorem dX2_mostOf_48 : decode cX2_mostOf 48 = .ok (.getfield 27, 3) := by decide +kernel
theorem dX2_mostOf_51 : decode cX2_mostOf 51 = .ok (.if_icmp .ge 54, 3) := by decide +kernel
theorem dX2_mostOf_54 : decode cX2_mostOf 54 = .ok (.iload 4, 2) := by decide +kernel
theorem dX2_mostOf_56 : decode cX2_mostOf 56 = .ok (.iload 6, 2) := by decide +kernel
theorem dX2_mostOf_58 : decode cX2_mostOf 58 = .ok (.ishr, 1) := by decide +kernel
theorem dX2_mostOf_59 : decode cX2_mostOf 59 = .ok (.iconst 1, 1) := by decide +kernel
theorem dX2_mostOf_60 : decode cX2_mostOf 60 = .ok (.iand, 1) := by decide +kernel
theorem dX2_mostOf_61 : decode cX2_mostOf 61 = .ok (.iconst 1, 1) := by decide +kernel
theorem dX2_mostOf_62 : decode cX2_mostOf 62 = .ok (.if_icmp .ne 37, 3) := by decide +kernel
theorem dX2_mostOf_65 : decode cX2_mostOf 65 = .ok (.iload 5, 2) := by decide +kernel
theorem dX2_mostOf_67 : decode cX2_mostOf 67 = .ok (.aload_n 0, 1) := by decide +kernel
theorem dX2_mostOf_68 : decode cX2_mostOf 68 = .ok (.iload_n 3, 1) := by decide +kernel
theorem dX2_mostOf_69 : decode cX2_mostOf 69 = .ok (.iload 6, 2) := by decide +kernel
theorem dX2_mostOf_71 : decode cX2_mostOf 71 = .ok (.iload 4, 2) := by decide +kernel
theorem dX2_mostOf_73 : decode cX2_mostOf 73 = .ok (.iload_n 1, 1) := by decide +kernel
theorem dX2_mostOf_74 : decode cX2_mostOf 74 = .ok (.invokevirtual 62, 3) := by decide +kernel
theorem dX2_mostOf_77 : decode cX2_mostOf 77 = .ok (.invokestatic 66, 3) := by decide +kernel
theorem dX2_mostOf_80 : decode cX2_mostOf 80 = .ok (.istore 5, 2) := by decide +kernel
theorem dX2_mostOf_82 : decode cX2_mostOf 82 = .ok (.iload 5, 2) := by decide +kernel
theorem dX2_mostOf_84 : decode cX2_mostOf 84 = .ok (.aload_n 0, 1) := by decide +kernel
theorem dX2_mostOf_85 : decode cX2_mostOf 85 = .ok (.iload 6, 2) := by decide +kernel
theorem dX2_mostOf_87 : decode cX2_mostOf 87 = .ok (.iload_n 3, 1) := by decide +kernel
theorem dX2_mostOf_88 : decode cX2_mostOf 88 = .ok (.iload 4, 2) := by decide +kernel
theorem dX2_mostOf_90 : decode cX2_mostOf 90 = .ok (.iload_n 1, 1) := by decide +kernel
theorem dX2_mostOf_91 : decode cX2_mostOf 91 = .ok (.invokevirtual 62, 3) := by decide +kernel
theorem dX2_mostOf_94 : decode cX2_mostOf 94 = .ok (.invokestatic 66, 3) := by decide +kernel
theorem dX2_mostOf_97 : decode cX2_mostOf 97 = .ok (.istore 5, 2) := by decide +kernel
theorem dX2_mostOf_99 : decode cX2_mostOf 99 = .ok (.iinc 6 1, 3) := by decide +kernel
theorem dX2_mostOf_102 : decode cX2_mostOf 102 = .ok (.goto (-57), 3) := by decide +kernel
theorem dX2_mostOf_105 : decode cX2_mostOf 105 = .ok (.iload 5, 2) := by decide +kernel
theorem dX2_mostOf_107 : decode cX2_mostOf 107 = .ok (.ireturn, 1) := by decide +kernel
theorem dX2_joysIfPaired_0 : decode cX2_joysIfPaired 0 = .ok (.aload_n 0, 1) := by decide +kernel
theorem dX2_joysIfPaired_1 : decode cX2_joysIfPaired 1 = .ok (.getfield 15, 3) := by decide +kernel
theorem dX2_joysIfPaired_4 : decode cX2_joysIfPaired 4 = .ok (.iload_n 1, 1) := by decide +kernel
theorem dX2_joysIfPaired_5 : decode cX2_joysIfPaired 5 = .ok (.bipush 8, 2) := by decide +kernel
theorem dX2_joysIfPaired_7 : decode cX2_joysIfPaired 7 = .ok (.imul, 1) := by decide +kernel
theorem dX2_joysIfPaired_8 : decode cX2_joysIfPaired 8 = .ok (.iload_n 2, 1) := by decide +kernel
theorem dX2_joysIfPaired_9 : decode cX2_joysIfPaired 9 = .ok (.iadd, 1) := by decide +kernel
theorem dX2_joysIfPaired_10 : decode cX2_joysIfPaired 10 = .ok (.iaload, 1) := by decide +kernel
theorem dX2_joysIfPaired_11 : decode cX2_joysIfPaired 11 = .ok (.istore 5, 2) := by decide +kernel
theorem dX2_joysIfPaired_13 : decode cX2_joysIfPaired 13 = .ok (.iload_n 3, 1) := by decide +kernel
theorem dX2_joysIfPaired_14 : decode cX2_joysIfPaired 14 = .ok (.iconst 1, 1) := by decide +kernel
theorem dX2_joysIfPaired_15 : decode cX2_joysIfPaired 15 = .ok (.iload_n 1, 1) := by decide +kernel
theorem dX2_joysIfPaired_16 : decode cX2_joysIfPaired 16 = .ok (.ishl, 1) := by decide +kernel
theorem dX2_joysIfPaired_17 : decode cX2_joysIfPaired 17 = .ok (.iconst (-1), 1) := by decide +kernel
theorem dX2_joysIfPaired_18 : decode cX2_joysIfPaired 18 = .ok (.ixor, 1) := by decide +kernel
theorem dX2_joysIfPaired_19 : decode cX2_joysIfPaired 19 = .ok (.iand, 1) := by decide +kernel
theorem dX2_joysIfPaired_20 : decode cX2_joysIfPaired 20 = .ok (.iconst 1, 1) := by decide +kernel
theorem dX2_joysIfPaired_21 : decode cX2_joysIfPaired 21 = .ok (.iload_n 2, 1) := by decide +kernel
theorem dX2_joysIfPaired_22 : decode cX2_joysIfPaired 22 = .ok (.ishl, 1) := by decide +kernel
theorem dX2_joysIfPaired_23 : decode cX2_joysIfPaired 23 = .ok (.iconst (-1), 1) := by decide +kernel
theorem dX2_joysIfPaired_24 : decode cX2_joysIfPaired 24 = .ok (.ixor, 1) := by decide +kernel
theorem dX2_joysIfPaired_25 : decode cX2_joysIfPaired 25 = .ok (.iand, 1) := by decide +kernel
theorem dX2_joysIfPaired_26 : decode cX2_joysIfPaired 26 = .ok (.istore 6, 2) := by decide +kernel
theorem dX2_joysIfPaired_28 : decode cX2_joysIfPaired 28 = .ok (.iload 5, 2) := by decide +kernel
theorem dX2_joysIfPaired_30 : decode cX2_joysIfPaired 30 = .ok (.ifCond .lt 8, 3) := by decide +kernel
theorem dX2_joysIfPaired_33 : decode cX2_joysIfPaired 33 = .ok (.iload 4, 2) := by decide +kernel
theorem dX2_joysIfPaired_35 : decode cX2_joysIfPaired 35 = .ok (.ifCond .ne 8, 3) := by decide +kernel
theorem dX2_joysIfPaired_38 : decode cX2_joysIfPaired 38 = .ok (.bipush (-4), 2) := by decide +kernel
theorem dX2_joysIfPaired_40 : decode cX2_joysIfPaired 40 = .ok (.goto 22, 3) := by decide +kernel
theorem dX2_joysIfPaired_43 : decode cX2_joysIfPaired 43 = .ok (.iload 5, 2) := by decide +kernel
theorem dX2_joysIfPaired_45 : decode cX2_joysIfPaired 45 = .ok (.aload_n 0, 1) := by decide +kernel
theorem dX2_joysIfPaired_46 : decode cX2_joysIfPaired 46 = .ok (.getfield 18, 3) := by decide +kernel
theorem dX2_joysIfPaired_49 : decode cX2_joysIfPaired 49 = .ok (.iload 4, 2) := by decide +kernel
theorem dX2_joysIfPaired_51 : decode cX2_joysIfPaired 51 = .ok (.iconst 1, 1) := by decide +kernel
theorem dX2_joysIfPaired_52 : decode cX2_joysIfPaired 52 = .ok (.isub, 1) := by decide +kernel
theorem dX2_joysIfPaired_53 : decode cX2_joysIfPaired 53 = .ok (.sipush 256, 3) := by decide +kernel
theorem dX2_joysIfPaired_56 : decode cX2_joysIfPaired 56 = .ok (.imul, 1) := by decide +kernel
theorem dX2_joysIfPaired_57 : decode cX2_joysIfPaired 57 = .ok (.iload 6, 2) := by decide +kernel
theorem dX2_joysIfPaired_59 : decode cX2_joysIfPaired 59 = .ok (.iadd, 1) := by decide +kernel
theorem dX2_joysIfPaired_60 : decode cX2_joysIfPaired 60 = .ok (.iaload, 1) := by decide +kernel
theorem dX2_joysIfPaired_61 : decode cX2_joysIfPaired 61 = .ok (.iadd, 1) := by decide +kernel
theorem dX2_joysIfPaired_62 : decode cX2_joysIfPaired 62 = .ok (.ireturn, 1) := by decide +kernel
theorem dX2_leastOf_0 : decode cX2_leastOf 0 = .ok (.iconst 0, 1) := by decide +kernel
theorem dX2_leastOf_1 : decode cX2_leastOf 1 = .ok (.istore_n 2, 1) := by decide +kernel
theorem dX2_leastOf_2 : decode cX2_leastOf 2 = .ok (.iload_n 2, 1) := by decide +kernel
theorem dX2_leastOf_3 : decode cX2_leastOf 3 = .ok (.bipush 7, 2) := by decide +kernel
theorem dX2_leastOf_5 : decode cX2_leastOf 5 = .ok (.if_icmp .ge 17, 3) := by decide +kernel
theorem dX2_leastOf_8 : decode cX2_leastOf 8 = .ok (.iload_n 1, 1) := by decide +kernel
theorem dX2_leastOf_9 : decode cX2_leastOf 9 = .ok (.iload_n 2, 1) := by decide +kernel
theorem dX2_leastOf_10 : decode cX2_leastOf 10 = .ok (.ishr, 1) := by decide +kernel
theorem dX2_leastOf_11 : decode cX2_leastOf 11 = .ok (.iconst 1, 1) := by decide +kernel
theorem dX2_leastOf_12 : decode cX2_leastOf 12 = .ok (.iand, 1) := by decide +kernel
theorem dX2_leastOf_13 : decode cX2_leastOf 13 = .ok (.ifCond .ne 9, 3) := by decide +kernel
theorem dX2_leastOf_16 : decode cX2_leastOf 16 = .ok (.iinc 2 1, 3) := by decide +kernel
theorem dX2_leastOf_19 : decode cX2_leastOf 19 = .ok (.goto (-17), 3) := by decide +kernel
theorem dX2_leastOf_22 : decode cX2_leastOf 22 = .ok (.iload_n 2, 1) := by decide +kernel
theorem dX2_leastOf_23 : decode cX2_leastOf 23 = .ok (.ireturn, 1) := by decide +kernel
theorem dX2_choose_0 : decode cX2_choose 0 = .ok (.iload_n 2, 1) := by decide +kernel
theorem dX2_choose_1 : decode cX2_choose 1 = .ok (.istore_n 3, 1) := by decide +kernel
theorem dX2_choose_2 : decode cX2_choose 2 = .ok (.iload_n 1, 1) := by decide +kernel
theorem dX2_choose_3 : decode cX2_choose 3 = .ok (.istore 4, 2) := by decide +kernel
theorem dX2_choose_5 : decode cX2_choose 5 = .ok (.iconst 0, 1) := by decide +kernel
theorem dX2_choose_6 : decode cX2_choose 6 = .ok (.istore 5, 2) := by decide +kernel
theorem dX2_choose_8 : decode cX2_choose 8 = .ok (.iload 5, 2) := by decide +kernel
theorem dX2_choose_10 : decode cX2_choose 10 = .ok (.aload_n 0, 1) := by decide +kernel
theorem dX2_choose_11 : decode cX2_choose 11 = .ok (.getfield 27, 3) := by decide +kernel
theorem dX2_choose_14 : decode cX2_choose 14 = .ok (.if_icmp .ge 18, 3) := by decide +kernel
theorem dX2_choose_17 : decode cX2_choose 17 = .ok (.aload_n 0, 1) := by decide +kernel
theorem dX2_choose_18 : decode cX2_choose 18 = .ok (.getfield 9, 3) := by decide +kernel
theorem dX2_choose_21 : decode cX2_choose 21 = .ok (.iload 5, 2) := by decide +kernel
theorem dX2_choose_23 : decode cX2_choose 23 = .ok (.bipush 9, 2) := by decide +kernel
theorem dX2_choose_25 : decode cX2_choose 25 = .ok (.iastore, 1) := by decide +kernel
theorem dX2_choose_26 : decode cX2_choose 26 = .ok (.iinc 5 1, 3) := by decide +kernel
theorem dX2_choose_29 : decode cX2_choose 29 = .ok (.goto (-21), 3) := by decide +kernel
theorem dX2_choose_32 : decode cX2_choose 32 = .ok (.iconst 0, 1) := by decide +kernel
theorem dX2_choose_33 : decode cX2_choose 33 = .ok (.istore 5, 2) := by decide +kernel
theorem dX2_choose_35 : decode cX2_choose 35 = .ok (.iload 5, 2) := by decide +kernel
theorem dX2_choose_37 : decode cX2_choose 37 = .ok (.aload_n 0, 1) := by decide +kernel
theorem dX2_choose_38 : decode cX2_choose 38 = .ok (.getfield 27, 3) := by decide +kernel
theorem dX2_choose_41 : decode cX2_choose 41 = .ok (.if_icmp .ge 119, 3) := by decide +kernel
theorem dX2_choose_44 : decode cX2_choose 44 = .ok (.iload_n 3, 1) := by decide +kernel
theorem dX2_choose_45 : decode cX2_choose 45 = .ok (.iload 5, 2) := by decide +kernel
theorem dX2_choose_47 : decode cX2_choose 47 = .ok (.ishr, 1) := by decide +kernel
theorem dX2_choose_48 : decode cX2_choose 48 = .ok (.iconst 1, 1) := by decide +kernel
theorem dX2_choose_49 : decode cX2_choose 49 = .ok (.iand, 1) := by decide +kernel
theorem dX2_choose_50 : decode cX2_choose 50 = .ok (.ifCond .ne 6, 3) := by decide +kernel
theorem dX2_choose_53 : decode cX2_choose 53 = .ok (.goto 101, 3) := by decide +kernel
theorem dX2_choose_56 : decode cX2_choose 56 = .ok (.aload_n 0, 1) := by decide +kernel
theorem dX2_choose_57 : decode cX2_choose 57 = .ok (.iload 5, 2) := by decide +kernel
theorem dX2_choose_59 : decode cX2_choose 59 = .ok (.iload_n 3, 1) := by decide +kernel
theorem dX2_choose_60 : decode cX2_choose 60 = .ok (.iload 4, 2) := by decide +kernel
theorem dX2_choose_62 : decode cX2_choose 62 = .ok (.iconst 1, 1) := by decide +kernel
theorem dX2_choose_63 : decode cX2_choose 63 = .ok (.invokevirtual 69, 3) := by decide +kernel
theorem dX2_choose_66 : decode cX2_choose 66 = .ok (.istore 6, 2) := by decide +kernel
theorem dX2_choose_68 : decode cX2_choose 68 = .ok (.iload 6, 2) := by decide +kernel
theorem dX2_choose_70 : decode cX2_choose 70 = .ok (.ifCond .lt 8, 3) := by decide +kernel
theorem dX2_choose_73 : decode cX2_choose 73 = .ok (.bipush (-4), 2) := by decide +kernel
theorem dX2_choose_75 : decode cX2_choose 75 = .ok (.goto 13, 3) := by decide +kernel
theorem dX2_choose_78 : decode cX2_choose 78 = .ok (.aload_n 0, 1) := by decide +kernel
theorem dX2_choose_79 : decode cX2_choose 79 = .ok (.iload 5, 2) := by decide +kernel
theorem dX2_choose_81 : decode cX2_choose 81 = .ok (.iload_n 3, 1) := by decide +kernel
theorem dX2_choose_82 : decode cX2_choose 82 = .ok (.iload 4, 2) := by decide +kernel
theorem dX2_choose_84 : decode cX2_choose 84 = .ok (.iconst 0, 1) := by decide +kernel
theorem dX2_choose_85 : decode cX2_choose 85 = .ok (.invokevirtual 69, 3) := by decide +kernel
theorem dX2_choose_88 : decode cX2_choose 88 = .ok (.istore 7, 2) := by decide +kernel
theorem dX2_choose_90 : decode cX2_choose 90 = .ok (.iload_n 3, 1) := by decide +kernel
theorem dX2_choose_91 : decode cX2_choose 91 = .ok (.iconst 1, 1) := by decide +kernel
theorem dX2_choose_92 : decode cX2_choose 92 = .ok (.iload 5, 2) := by decide +kernel
theorem dX2_choose_94 : decode cX2_choose 94 = .ok (.ishl, 1) := by decide +kernel
theorem dX2_choose_95 : decode cX2_choose 95 = .ok (.iconst (-1), 1) := by decide +kernel
theorem dX2_choose_96 : decode cX2_choose 96 = .ok (.ixor, 1) := by decide +kernel
theorem dX2_choose_97 : decode cX2_choose 97 = .ok (.iand, 1) := by decide +kernel
theorem dX2_choose_98 : decode cX2_choose 98 = .ok (.istore_n 3, 1) := by decide +kernel
theorem dX2_choose_99 : decode cX2_choose 99 = .ok (.iload 6, 2) := by decide +kernel
theorem dX2_choose_101 : decode cX2_choose 101 = .ok (.ifCond .lt 27, 3) := by decide +kernel
theorem dX2_choose_104 : decode cX2_choose 104 = .ok (.aload_n 0, 1) := by decide +kernel
theorem dX2_choose_105 : decode cX2_choose 105 = .ok (.getfield 9, 3) := by decide +kernel
theorem dX2_choose_108 : decode cX2_choose 108 = .ok (.iload 5, 2) := by decide +kernel
theorem dX2_choose_110 : decode cX2_choose 110 = .ok (.iload 6, 2) := by decide +kernel
theorem dX2_choose_112 : decode cX2_choose 112 = .ok (.iastore, 1) := by decide +kernel
theorem dX2_choose_113 : decode cX2_choose 113 = .ok (.iload_n 3, 1) := by decide +kernel
theorem dX2_choose_114 : decode cX2_choose 114 = .ok (.iconst 1, 1) := by decide +kernel
theorem dX2_choose_115 : decode cX2_choose 115 = .ok (.iload 6, 2) := by decide +kernel
theorem dX2_choose_117 : decode cX2_choose 117 = .ok (.ishl, 1) := by decide +kernel
theorem dX2_choose_118 : decode cX2_choose 118 = .ok (.iconst (-1), 1) := by decide +kernel
theorem dX2_choose_119 : decode cX2_choose 119 = .ok (.ixor, 1) := by decide +kernel
theorem dX2_choose_120 : decode cX2_choose 120 = .ok (.iand, 1) := by decide +kernel
theorem dX2_choose_121 : decode cX2_choose 121 = .ok (.istore_n 3, 1) := by decide +kernel
theorem dX2_choose_122 : decode cX2_choose 122 = .ok (.iinc 4 (-1), 3) := by decide +kernel
theorem dX2_choose_125 : decode cX2_choose 125 = .ok (.goto 29, 3) := by decide +kernel
theorem dX2_choose_128 : decode cX2_choose 128 = .ok (.iload 7, 2) := by decide +kernel
theorem dX2_choose_130 : decode cX2_choose 130 = .ok (.ifCond .lt 24, 3) := by decide +kernel
theorem dX2_choose_133 : decode cX2_choose 133 = .ok (.aload_n 0, 1) := by decide +kernel
theorem dX2_choose_134 : decode cX2_choose 134 = .ok (.getfield 9, 3) := by decide +kernel
theorem dX2_choose_137 : decode cX2_choose 137 = .ok (.iload 7, 2) := by decide +kernel
theorem dX2_choose_139 : decode cX2_choose 139 = .ok (.iload 5, 2) := by decide +kernel
theorem dX2_choose_141 : decode cX2_choose 141 = .ok (.iastore, 1) := by decide +kernel
theorem dX2_choose_142 : decode cX2_choose 142 = .ok (.iload_n 3, 1) := by decide +kernel
theorem dX2_choose_143 : decode cX2_choose 143 = .ok (.iconst 1, 1) := by decide +kernel
theorem dX2_choose_144 : decode cX2_choose 144 = .ok (.iload 7, 2) := by decide +kernel
theorem dX2_choose_146 : decode cX2_choose 146 = .ok (.ishl, 1) := by decide +kernel
theorem dX2_choose_147 : decode cX2_choose 147 = .ok (.iconst (-1), 1) := by decide +kernel
theorem dX2_choose_148 : decode cX2_choose 148 = .ok (.ixor, 1) := by decide +kernel
theorem dX2_choose_149 : decode cX2_choose 149 = .ok (.iand, 1) := by decide +kernel
theorem dX2_choose_150 : decode cX2_choose 150 = .ok (.istore_n 3, 1) := by decide +kernel
theorem dX2_choose_151 : decode cX2_choose 151 = .ok (.iinc 4 (-1), 3) := by decide +kernel
theorem dX2_choose_154 : decode cX2_choose 154 = .ok (.iinc 5 1, 3) := by decide +kernel
theorem dX2_choose_157 : decode cX2_choose 157 = .ok (.goto (-122), 3) := by decide +kernel
theorem dX2_choose_160 : decode cX2_choose 160 = .ok (.return_, 1) := by decide +kernel
theorem dX2_firstOther_0 : decode cX2_firstOther 0 = .ok (.iload_n 2, 1) := by decide +kernel
theorem dX2_firstOther_1 : decode cX2_firstOther 1 = .ok (.iconst 1, 1) := by decide +kernel
theorem dX2_firstOther_2 : decode cX2_firstOther 2 = .ok (.iload_n 1, 1) := by decide +kernel
theorem dX2_firstOther_3 : decode cX2_firstOther 3 = .ok (.ishl, 1) := by decide +kernel
theorem dX2_firstOther_4 : decode cX2_firstOther 4 = .ok (.iconst (-1), 1) := by decide +kernel
theorem dX2_firstOther_5 : decode cX2_firstOther 5 = .ok (.ixor, 1) := by decide +kernel
theorem dX2_firstOther_6 : decode cX2_firstOther 6 = .ok (.iand, 1) := by decide +kernel
theorem dX2_firstOther_7 : decode cX2_firstOther 7 = .ok (.istore 5, 2) := by decide +kernel
theorem dX2_firstOther_9 : decode cX2_firstOther 9 = .ok (.aload_n 0, 1) := by decide +kernel
theorem dX2_firstOther_10 : decode cX2_firstOther 10 = .ok (.getfield 18, 3) := by decide +kernel
theorem dX2_firstOther_13 : decode cX2_firstOther 13 = .ok (.iload_n 3, 1) := by decide +kernel
theorem dX2_firstOther_14 : decode cX2_firstOther 14 = .ok (.sipush 256, 3) := by decide +kernel
theorem dX2_firstOther_17 : decode cX2_firstOther 17 = .ok (.imul, 1) := by decide +kernel
theorem dX2_firstOther_18 : decode cX2_firstOther 18 = .ok (.iload_n 2, 1) := by decide +kernel
theorem dX2_firstOther_19 : decode cX2_firstOther 19 = .ok (.iadd, 1) := by decide +kernel
theorem dX2_firstOther_20 : decode cX2_firstOther 20 = .ok (.iaload, 1) := by decide +kernel
theorem dX2_firstOther_21 : decode cX2_firstOther 21 = .ok (.istore 6, 2) := by decide +kernel
theorem dX2_firstOther_23 : decode cX2_firstOther 23 = .ok (.iload_n 1, 1) := by decide +kernel
theorem dX2_firstOther_24 : decode cX2_firstOther 24 = .ok (.iconst 1, 1) := by decide +kernel
theorem dX2_firstOther_25 : decode cX2_firstOther 25 = .ok (.iadd, 1) := by decide +kernel
theorem dX2_firstOther_26 : decode cX2_firstOther 26 = .ok (.istore 7, 2) := by decide +kernel
theorem dX2_firstOther_28 : decode cX2_firstOther 28 = .ok (.iload 7, 2) := by decide +kernel
theorem dX2_firstOther_30 : decode cX2_firstOther 30 = .ok (.aload_n 0, 1) := by decide +kernel
theorem dX2_firstOther_31 : decode cX2_firstOther 31 = .ok (.getfield 27, 3) := by decide +kernel
theorem dX2_firstOther_34 : decode cX2_firstOther 34 = .ok (.if_icmp .ge 60, 3) := by decide +kernel
theorem dX2_firstOther_37 : decode cX2_firstOther 37 = .ok (.iload 5, 2) := by decide +kernel
theorem dX2_firstOther_39 : decode cX2_firstOther 39 = .ok (.iload 7, 2) := by decide +kernel
theorem dX2_firstOther_41 : decode cX2_firstOther 41 = .ok (.ishr, 1) := by decide +kernel
theorem dX2_firstOther_42 : decode cX2_firstOther 42 = .ok (.iconst 1, 1) := by decide +kernel
theorem dX2_firstOther_43 : decode cX2_firstOther 43 = .ok (.iand, 1) := by decide +kernel
theorem dX2_firstOther_44 : decode cX2_firstOther 44 = .ok (.iconst 1, 1) := by decide +kernel
theorem dX2_firstOther_45 : decode cX2_firstOther 45 = .ok (.if_icmp .ne 43, 3) := by decide +kernel
theorem dX2_firstOther_48 : decode cX2_firstOther 48 = .ok (.iload 4, 2) := by decide +kernel
theorem dX2_firstOther_50 : decode cX2_firstOther 50 = .ok (.ifCond .eq 16, 3) := by decide +kernel
theorem dX2_firstOther_53 : decode cX2_firstOther 53 = .ok (.aload_n 0, 1) := by decide +kernel
theorem dX2_firstOther_54 : decode cX2_firstOther 54 = .ok (.iload_n 1, 1) := by decide +kernel
theorem dX2_firstOther_55 : decode cX2_firstOther 55 = .ok (.iload 7, 2) := by decide +kernel
theorem dX2_firstOther_57 : decode cX2_firstOther 57 = .ok (.iload 5, 2) := by decide +kernel
theorem dX2_firstOther_59 : decode cX2_firstOther 59 = .ok (.iload_n 3, 1) := by decide +kernel
theorem dX2_firstOther_60 : decode cX2_firstOther 60 = .ok (.invokevirtual 62, 3) := by decide +kernel
theorem dX2_firstOther_63 : decode cX2_firstOther 63 = .ok (.goto 13, 3) := by decide +kernel
theorem dX2_firstOther_66 : decode cX2_firstOther 66 = .ok (.aload_n 0, 1) := by decide +kernel
theorem dX2_firstOther_67 : decode cX2_firstOther 67 = .ok (.iload 7, 2) := by decide +kernel
theorem dX2_firstOther_69 : decode cX2_firstOther 69 = .ok (.iload_n 1, 1) := by decide +kernel
theorem dX2_firstOther_70 : decode cX2_firstOther 70 = .ok (.iload 5, 2) := by decide +kernel
theorem dX2_firstOther_72 : decode cX2_firstOther 72 = .ok (.iload_n 3, 1) := by decide +kernel
theorem dX2_firstOther_73 : decode cX2_firstOther 73 = .ok (.invokevirtual 62, 3) := by decide +kernel
theorem dX2_firstOther_76 : decode cX2_firstOther 76 = .ok (.istore 8, 2) := by decide +kernel
theorem dX2_firstOther_78 : decode cX2_firstOther 78 = .ok (.iload 8, 2) := by decide +kernel
theorem dX2_firstOther_80 : decode cX2_firstOther 80 = .ok (.iload 6, 2) := by decide +kernel
theorem dX2_firstOther_82 : decode cX2_firstOther 82 = .ok (.if_icmp .ne 6, 3) := by decide +kernel
theorem dX2_firstOther_85 : decode cX2_firstOther 85 = .ok (.iload 7, 2) := by decide +kernel
theorem dX2_firstOther_87 : decode cX2_firstOther 87 = .ok (.ireturn, 1) := by decide +kernel
theorem dX2_firstOther_88 : decode cX2_firstOther 88 = .ok (.iinc 7 1, 3) := by decide +kernel
theorem dX2_firstOther_91 : decode cX2_firstOther 91 = .ok (.goto (-63), 3) := by decide +kernel
theorem dX2_firstOther_94 : decode cX2_firstOther 94 = .ok (.bipush (-4), 2) := by decide +kernel
theorem dX2_firstOther_96 : decode cX2_firstOther 96 = .ok (.ireturn, 1) := by decide +kernel
theorem dX3_init_0 : decode cX3_init 0 = .ok (.aload_n 0, 1) := by decide +kernel
theorem dX3_init_1 : decode cX3_init 1 = .ok (.invokespecial 1, 3) := by decide +kernel
theorem dX3_init_4 : decode cX3_init 4 = .ok (.aload_n 0, 1) := by decide +kernel
theorem dX3_init_5 : decode cX3_init 5 = .ok (.getstatic 7, 3) := by decide +kernel
theorem dX3_init_8 : decode cX3_init 8 = .ok (.putfield 13, 3) := by decide +kernel
theorem dX3_init_11 : decode cX3_init 11 = .ok (.return_, 1) := by decide +kernel
theorem dX3_comeAs_0 : decode cX3_comeAs 0 = .ok (.aload_n 0, 1) := by decide +kernel
theorem dX3_comeAs_1 : decode cX3_comeAs 1 = .ok (.aload_n 1, 1) := by decide +kernel
theorem dX3_comeAs_2 : decode cX3_comeAs 2 = .ok (.putfield 13, 3) := by decide +kernel
theorem dX3_comeAs_5 : decode cX3_comeAs 5 = .ok (.aload_n 0, 1) := by decide +kernel
theorem dX3_comeAs_6 : decode cX3_comeAs 6 = .ok (.iload_n 2, 1) := by decide +kernel
theorem dX3_comeAs_7 : decode cX3_comeAs 7 = .ok (.putfield 18, 3) := by decide +kernel
theorem dX3_comeAs_10 : decode cX3_comeAs 10 = .ok (.aload_n 0, 1) := by decide +kernel
theorem dX3_comeAs_11 : decode cX3_comeAs 11 = .ok (.aload_n 1, 1) := by decide +kernel
theorem dX3_comeAs_12 : decode cX3_comeAs 12 = .ok (.iload_n 2, 1) := by decide +kernel
theorem dX3_comeAs_13 : decode cX3_comeAs 13 = .ok (.invokevirtual 22, 3) := by decide +kernel
theorem dX3_comeAs_16 : decode cX3_comeAs 16 = .ok (.putfield 26, 3) := by decide +kernel
theorem dX3_comeAs_19 : decode cX3_comeAs 19 = .ok (.aload_n 0, 1) := by decide +kernel
theorem dX3_comeAs_20 : decode cX3_comeAs 20 = .ok (.aload_n 1, 1) := by decide +kernel
theorem dX3_comeAs_21 : decode cX3_comeAs 21 = .ok (.iload_n 2, 1) := by decide +kernel
theorem dX3_comeAs_22 : decode cX3_comeAs 22 = .ok (.invokevirtual 29, 3) := by decide +kernel
theorem dX3_comeAs_25 : decode cX3_comeAs 25 = .ok (.putfield 32, 3) := by decide +kernel
theorem dX3_comeAs_28 : decode cX3_comeAs 28 = .ok (.aload_n 0, 1) := by decide +kernel
theorem dX3_comeAs_29 : decode cX3_comeAs 29 = .ok (.iconst 0, 1) := by decide +kernel
theorem dX3_comeAs_30 : decode cX3_comeAs 30 = .ok (.putfield 35, 3) := by decide +kernel
theorem dX3_comeAs_33 : decode cX3_comeAs 33 = .ok (.aload_n 0, 1) := by decide +kernel
theorem dX3_comeAs_34 : decode cX3_comeAs 34 = .ok (.iconst 0, 1) := by decide +kernel
theorem dX3_comeAs_35 : decode cX3_comeAs 35 = .ok (.putfield 38, 3) := by decide +kernel
theorem dX3_comeAs_38 : decode cX3_comeAs 38 = .ok (.return_, 1) := by decide +kernel
theorem dX3_becomes_0 : decode cX3_becomes 0 = .ok (.aload_n 0, 1) := by decide +kernel
theorem dX3_becomes_1 : decode cX3_becomes 1 = .ok (.aload_n 1, 1) := by decide +kernel
theorem dX3_becomes_2 : decode cX3_becomes 2 = .ok (.getfield 13, 3) := by decide +kernel
theorem dX3_becomes_5 : decode cX3_becomes 5 = .ok (.putfield 13, 3) := by decide +kernel
theorem dX3_becomes_8 : decode cX3_becomes 8 = .ok (.aload_n 0, 1) := by decide +kernel
theorem dX3_becomes_9 : decode cX3_becomes 9 = .ok (.aload_n 1, 1) := by decide +kernel
theorem dX3_becomes_10 : decode cX3_becomes 10 = .ok (.getfield 18, 3) := by decide +kernel
theorem dX3_becomes_13 : decode cX3_becomes 13 = .ok (.putfield 18, 3) := by decide +kernel
theorem dX3_becomes_16 : decode cX3_becomes 16 = .ok (.aload_n 0, 1) := by decide +kernel
theorem dX3_becomes_17 : decode cX3_becomes 17 = .ok (.aload_n 1, 1) := by decide +kernel
theorem dX3_becomes_18 : decode cX3_becomes 18 = .ok (.getfield 26, 3) := by decide +kernel
theorem dX3_becomes_21 : decode cX3_becomes 21 = .ok (.putfield 26, 3) := by decide +kernel
theorem dX3_becomes_24 : decode cX3_becomes 24 = .ok (.aload_n 0, 1) := by decide +kernel
theorem dX3_becomes_25 : decode cX3_becomes 25 = .ok (.aload_n 1, 1) := by decide +kernel
theorem dX3_becomes_26 : decode cX3_becomes 26 = .ok (.getfield 32, 3) := by decide +kernel
theorem dX3_becomes_29 : decode cX3_becomes 29 = .ok (.putfield 32, 3) := by decide +kernel
theorem dX3_becomes_32 : decode cX3_becomes 32 = .ok (.aload_n 0, 1) := by decide +kernel
theorem dX3_becomes_33 : decode cX3_becomes 33 = .ok (.aload_n 1, 1) := by decide +kernel
theorem dX3_becomes_34 : decode cX3_becomes 34 = .ok (.getfield 41, 3) := by decide +kernel
theorem dX3_becomes_37 : decode cX3_becomes 37 = .ok (.putfield 41, 3) := by decide +kernel
theorem dX3_becomes_40 : decode cX3_becomes 40 = .ok (.aload_n 0, 1) := by decide +kernel
theorem dX3_becomes_41 : decode cX3_becomes 41 = .ok (.aload_n 1, 1) := by decide +kernel
theorem dX3_becomes_42 : decode cX3_becomes 42 = .ok (.getfield 44, 3) := by decide +kernel
theorem dX3_becomes_45 : decode cX3_becomes 45 = .ok (.putfield 44, 3) := by decide +kernel
theorem dX3_becomes_48 : decode cX3_becomes 48 = .ok (.aload_n 0, 1) := by decide +kernel
theorem dX3_becomes_49 : decode cX3_becomes 49 = .ok (.aload_n 1, 1) := by decide +kernel
theorem dX3_becomes_50 : decode cX3_becomes 50 = .ok (.getfield 35, 3) := by decide +kernel
theorem dX3_becomes_53 : decode cX3_becomes 53 = .ok (.putfield 35, 3) := by decide +kernel
theorem dX3_becomes_56 : decode cX3_becomes 56 = .ok (.aload_n 0, 1) := by decide +kernel
theorem dX3_becomes_57 : decode cX3_becomes 57 = .ok (.aload_n 1, 1) := by decide +kernel
theorem dX3_becomes_58 : decode cX3_becomes 58 = .ok (.getfield 38, 3) := by decide +kernel
theorem dX3_becomes_61 : decode cX3_becomes 61 = .ok (.putfield 38, 3) := by decide +kernel
theorem dX3_becomes_64 : decode cX3_becomes 64 = .ok (.return_, 1) := by decide +kernel
theorem dX3_canLook_0 : decode cX3_canLook 0 = .ok (.aload_n 0, 1) := by decide +kernel
theorem dX3_canLook_1 : decode cX3_canLook 1 = .ok (.getfield 35, 3) := by decide +kernel
theorem dX3_canLook_4 : decode cX3_canLook 4 = .ok (.ifCond .ne 17, 3) := by decide +kernel
theorem dX3_canLook_7 : decode cX3_canLook 7 = .ok (.aload_n 0, 1) := by decide +kernel
theorem dX3_canLook_8 : decode cX3_canLook 8 = .ok (.getfield 13, 3) := by decide +kernel
theorem dX3_canLook_11 : decode cX3_canLook 11 = .ok (.getstatic 47, 3) := by decide +kernel
theorem dX3_canLook_14 : decode cX3_canLook 14 = .ok (.if_acmp .eq 7, 3) := by decide +kernel
theorem dX3_canLook_17 : decode cX3_canLook 17 = .ok (.iconst 1, 1) := by decide +kernel
theorem dX3_canLook_18 : decode cX3_canLook 18 = .ok (.goto 4, 3) := by decide +kernel
theorem dX3_canLook_21 : decode cX3_canLook 21 = .ok (.iconst 0, 1) := by decide +kernel
theorem dX3_canLook_22 : decode cX3_canLook 22 = .ok (.ireturn, 1) := by decide +kernel
theorem dX3_stilledHunger_0 : decode cX3_stilledHunger 0 = .ok (.aload_n 0, 1) := by decide +kernel
theorem dX3_stilledHunger_1 : decode cX3_stilledHunger 1 = .ok (.getfield 26, 3) := by decide +kernel
theorem dX3_stilledHunger_4 : decode cX3_stilledHunger 4 = .ok (.aload_n 0, 1) := by decide +kernel
theorem dX3_stilledHunger_5 : decode cX3_stilledHunger 5 = .ok (.getfield 41, 3) := by decide +kernel
theorem dX3_stilledHunger_8 : decode cX3_stilledHunger 8 = .ok (.invokestatic 50, 3) := by decide +kernel
theorem dX3_stilledHunger_11 : decode cX3_stilledHunger 11 = .ok (.ireturn, 1) := by decide +kernel
theorem dX3_stilledWish_0 : decode cX3_stilledWish 0 = .ok (.aload_n 0, 1) := by decide +kernel
theorem dX3_stilledWish_1 : decode cX3_stilledWish 1 = .ok (.getfield 32, 3) := by decide +kernel
theorem dX3_stilledWish_4 : decode cX3_stilledWish 4 = .ok (.aload_n 0, 1) := by decide +kernel
theorem dX3_stilledWish_5 : decode cX3_stilledWish 5 = .ok (.getfield 44, 3) := by decide +kernel
theorem dX3_stilledWish_8 : decode cX3_stilledWish 8 = .ok (.invokestatic 50, 3) := by decide +kernel
theorem dX3_stilledWish_11 : decode cX3_stilledWish 11 = .ok (.ireturn, 1) := by decide +kernel
theorem dX4_init_0 : decode cX4_init 0 = .ok (.aload_n 0, 1) := by decide +kernel
theorem dX4_init_1 : decode cX4_init 1 = .ok (.invokespecial 3, 3) := by decide +kernel
theorem dX4_init_4 : decode cX4_init 4 = .ok (.aload_n 0, 1) := by decide +kernel
theorem dX4_init_5 : decode cX4_init 5 = .ok (.bipush 100, 2) := by decide +kernel
theorem dX4_init_7 : decode cX4_init 7 = .ok (.newarray .int, 2) := by decide +kernel
theorem dX4_init_9 : decode cX4_init 9 = .ok (.putfield 9, 3) := by decide +kernel
theorem dX4_init_12 : decode cX4_init 12 = .ok (.aload_n 0, 1) := by decide +kernel
theorem dX4_init_13 : decode cX4_init 13 = .ok (.iconst 0, 1) := by decide +kernel
theorem dX4_init_14 : decode cX4_init 14 = .ok (.putfield 15, 3) := by decide +kernel
theorem dX4_init_17 : decode cX4_init 17 = .ok (.aload_n 0, 1) := by decide +kernel
theorem dX4_init_18 : decode cX4_init 18 = .ok (.getstatic 19, 3) := by decide +kernel
theorem dX4_init_21 : decode cX4_init 21 = .ok (.putfield 25, 3) := by decide +kernel
theorem dX4_init_24 : decode cX4_init 24 = .ok (.return_, 1) := by decide +kernel
theorem dX4_holdKind_0 : decode cX4_holdKind 0 = .ok (.aload_n 0, 1) := by decide +kernel
theorem dX4_holdKind_1 : decode cX4_holdKind 1 = .ok (.iconst 1, 1) := by decide +kernel
theorem dX4_holdKind_2 : decode cX4_holdKind 2 = .ok (.putfield 15, 3) := by decide +kernel
theorem dX4_holdKind_5 : decode cX4_holdKind 5 = .ok (.aload_n 0, 1) := by decide +kernel
theorem dX4_holdKind_6 : decode cX4_holdKind 6 = .ok (.aload_n 1, 1) := by decide +kernel
theorem dX4_holdKind_7 : decode cX4_holdKind 7 = .ok (.putfield 25, 3) := by decide +kernel
theorem dX4_holdKind_10 : decode cX4_holdKind 10 = .ok (.aload_n 0, 1) := by decide +kernel
theorem dX4_holdKind_11 : decode cX4_holdKind 11 = .ok (.iload_n 2, 1) := by decide +kernel
theorem dX4_holdKind_12 : decode cX4_holdKind 12 = .ok (.putfield 28, 3) := by decide +kernel
theorem dX4_holdKind_15 : decode cX4_holdKind 15 = .ok (.return_, 1) := by decide +kernel
theorem dX4_holdRow_0 : decode cX4_holdRow 0 = .ok (.aload_n 0, 1) := by decide +kernel
theorem dX4_holdRow_1 : decode cX4_holdRow 1 = .ok (.iconst 2, 1) := by decide +kernel
theorem dX4_holdRow_2 : decode cX4_holdRow 2 = .ok (.putfield 15, 3) := by decide +kernel
theorem dX4_holdRow_5 : decode cX4_holdRow 5 = .ok (.aload_n 0, 1) := by decide +kernel
theorem dX4_holdRow_6 : decode cX4_holdRow 6 = .ok (.iload_n 1, 1) := by decide +kernel
theorem dX4_holdRow_7 : decode cX4_holdRow 7 = .ok (.putfield 31, 3) := by decide +kernel
theorem dX4_holdRow_10 : decode cX4_holdRow 10 = .ok (.aload_n 0, 1) := by decide +kernel
theorem dX4_holdRow_11 : decode cX4_holdRow 11 = .ok (.iload_n 2, 1) := by decide +kernel
theorem dX4_holdRow_12 : decode cX4_holdRow 12 = .ok (.putfield 34, 3) := by decide +kernel
theorem dX4_holdRow_15 : decode cX4_holdRow 15 = .ok (.iconst 0, 1) := by decide +kernel
theorem dX4_holdRow_16 : decode cX4_holdRow 16 = .ok (.istore_n 3, 1) := by decide +kernel
theorem dX4_holdRow_17 : decode cX4_holdRow 17 = .ok (.iload_n 3, 1) := by decide +kernel
theorem dX4_holdRow_18 : decode cX4_holdRow 18 = .ok (.bipush 100, 2) := by decide +kernel
theorem dX4_holdRow_20 : decode cX4_holdRow 20 = .ok (.if_icmp .ge 16, 3) := by decide +kernel
theorem dX4_holdRow_23 : decode cX4_holdRow 23 = .ok (.aload_n 0, 1) := by decide +kernel
theorem dX4_holdRow_24 : decode cX4_holdRow 24 = .ok (.getfield 9, 3) := by decide +kernel
theorem dX4_holdRow_27 : decode cX4_holdRow 27 = .ok (.iload_n 3, 1) := by decide +kernel
theorem dX4_holdRow_28 : decode cX4_holdRow 28 = .ok (.iconst 0, 1) := by decide +kernel
theorem dX4_holdRow_29 : decode cX4_holdRow 29 = .ok (.iastore, 1) := by decide +kernel
theorem dX4_holdRow_30 : decode cX4_holdRow 30 = .ok (.iinc 3 1, 3) := by decide +kernel
theorem dX4_holdRow_33 : decode cX4_holdRow 33 = .ok (.goto (-16), 3) := by decide +kernel
theorem dX4_holdRow_36 : decode cX4_holdRow 36 = .ok (.return_, 1) := by decide +kernel
theorem dX4_hasPlace_0 : decode cX4_hasPlace 0 = .ok (.iload_n 1, 1) := by decide +kernel
theorem dX4_hasPlace_1 : decode cX4_hasPlace 1 = .ok (.ifCond .lt 15, 3) := by decide +kernel
theorem dX4_hasPlace_4 : decode cX4_hasPlace 4 = .ok (.iload_n 1, 1) := by decide +kernel
theorem dX4_hasPlace_5 : decode cX4_hasPlace 5 = .ok (.aload_n 0, 1) := by decide +kernel
theorem dX4_hasPlace_6 : decode cX4_hasPlace 6 = .ok (.getfield 34, 3) := by decide +kernel
theorem dX4_hasPlace_9 : decode cX4_hasPlace 9 = .ok (.if_icmp .ge 7, 3) := by decide +kernel
theorem dX4_hasPlace_12 : decode cX4_hasPlace 12 = .ok (.iconst 1, 1) := by decide +kernel
theorem dX4_hasPlace_13 : decode cX4_hasPlace 13 = .ok (.goto 4, 3) := by decide +kernel
theorem dX4_hasPlace_16 : decode cX4_hasPlace 16 = .ok (.iconst 0, 1) := by decide +kernel
theorem dX4_hasPlace_17 : decode cX4_hasPlace 17 = .ok (.ireturn, 1) := by decide +kernel
theorem dX4_hasPlaces_0 : decode cX4_hasPlaces 0 = .ok (.iload_n 1, 1) := by decide +kernel
theorem dX4_hasPlaces_1 : decode cX4_hasPlaces 1 = .ok (.ifCond .lt 29, 3) := by decide +kernel
theorem dX4_hasPlaces_4 : decode cX4_hasPlaces 4 = .ok (.iload_n 2, 1) := by decide +kernel
theorem dX4_hasPlaces_5 : decode cX4_hasPlaces 5 = .ok (.ifCond .lt 25, 3) := by decide +kernel
theorem dX4_hasPlaces_8 : decode cX4_hasPlaces 8 = .ok (.iload_n 1, 1) := by decide +kernel
theorem dX4_hasPlaces_9 : decode cX4_hasPlaces 9 = .ok (.aload_n 0, 1) := by decide +kernel
theorem dX4_hasPlaces_10 : decode cX4_hasPlaces 10 = .ok (.getfield 34, 3) := by decide +kernel
theorem dX4_hasPlaces_13 : decode cX4_hasPlaces 13 = .ok (.if_icmp .gt 17, 3) := by decide +kernel
theorem dX4_hasPlaces_16 : decode cX4_hasPlaces 16 = .ok (.iload_n 2, 1) := by decide +kernel
theorem dX4_hasPlaces_17 : decode cX4_hasPlaces 17 = .ok (.aload_n 0, 1) := by decide +kernel
theorem dX4_hasPlaces_18 : decode cX4_hasPlaces 18 = .ok (.getfield 34, 3) := by decide +kernel
theorem dX4_hasPlaces_21 : decode cX4_hasPlaces 21 = .ok (.iload_n 1, 1) := by decide +kernel
theorem dX4_hasPlaces_22 : decode cX4_hasPlaces 22 = .ok (.isub, 1) := by decide +kernel
theorem dX4_hasPlaces_23 : decode cX4_hasPlaces 23 = .ok (.if_icmp .gt 7, 3) := by decide +kernel
theorem dX4_hasPlaces_26 : decode cX4_hasPlaces 26 = .ok (.iconst 1, 1) := by decide +kernel
theorem dX4_hasPlaces_27 : decode cX4_hasPlaces 27 = .ok (.goto 4, 3) := by decide +kernel
theorem dX4_hasPlaces_30 : decode cX4_hasPlaces 30 = .ok (.iconst 0, 1) := by decide +kernel
theorem dX4_hasPlaces_31 : decode cX4_hasPlaces 31 = .ok (.ireturn, 1) := by decide +kernel
theorem dX4_at_0 : decode cX4_at 0 = .ok (.aload_n 0, 1) := by decide +kernel
theorem dX4_at_1 : decode cX4_at 1 = .ok (.iload_n 1, 1) := by decide +kernel
theorem dX4_at_2 : decode cX4_at 2 = .ok (.invokevirtual 37, 3) := by decide +kernel
theorem dX4_at_5 : decode cX4_at 5 = .ok (.ifCond .eq 12, 3) := by decide +kernel
theorem dX4_at_8 : decode cX4_at 8 = .ok (.aload_n 0, 1) := by decide +kernel
theorem dX4_at_9 : decode cX4_at 9 = .ok (.getfield 9, 3) := by decide +kernel
theorem dX4_at_12 : decode cX4_at 12 = .ok (.iload_n 1, 1) := by decide +kernel
theorem dX4_at_13 : decode cX4_at 13 = .ok (.iaload, 1) := by decide +kernel
theorem dX4_at_14 : decode cX4_at 14 = .ok (.goto 4, 3) := by decide +kernel
theorem dX4_at_17 : decode cX4_at 17 = .ok (.iconst (-1), 1) := by decide +kernel
theorem dX4_at_18 : decode cX4_at 18 = .ok (.ireturn, 1) := by decide +kernel
theorem dX4_digitAt_0 : decode cX4_digitAt 0 = .ok (.aload_n 0, 1) := by decide +kernel
theorem dX4_digitAt_1 : decode cX4_digitAt 1 = .ok (.iload_n 1, 1) := by decide +kernel
theorem dX4_digitAt_2 : decode cX4_digitAt 2 = .ok (.invokevirtual 41, 3) := by decide +kernel
theorem dX4_digitAt_5 : decode cX4_digitAt 5 = .ok (.bipush 48, 2) := by decide +kernel
theorem dX4_digitAt_7 : decode cX4_digitAt 7 = .ok (.isub, 1) := by decide +kernel
theorem dX4_digitAt_8 : decode cX4_digitAt 8 = .ok (.ireturn, 1) := by decide +kernel
theorem dX4_twoDigitsAt_0 : decode cX4_twoDigitsAt 0 = .ok (.bipush 10, 2) := by decide +kernel
theorem dX4_twoDigitsAt_2 : decode cX4_twoDigitsAt 2 = .ok (.aload_n 0, 1) := by decide +kernel
theorem dX4_twoDigitsAt_3 : decode cX4_twoDigitsAt 3 = .ok (.iload_n 1, 1) := by decide +kernel
theorem dX4_twoDigitsAt_4 : decode cX4_twoDigitsAt 4 = .ok (.invokevirtual 45, 3) := by decide +kernel
theorem dX4_twoDigitsAt_7 : decode cX4_twoDigitsAt 7 = .ok (.imul, 1) := by decide +kernel
theorem dX4_twoDigitsAt_8 : decode cX4_twoDigitsAt 8 = .ok (.aload_n 0, 1) := by decide +kernel
theorem dX4_twoDigitsAt_9 : decode cX4_twoDigitsAt 9 = .ok (.iload_n 1, 1) := by decide +kernel
theorem dX4_twoDigitsAt_10 : decode cX4_twoDigitsAt 10 = .ok (.iconst 1, 1) := by decide +kernel
theorem dX4_twoDigitsAt_11 : decode cX4_twoDigitsAt 11 = .ok (.iadd, 1) := by decide +kernel
theorem dX4_twoDigitsAt_12 : decode cX4_twoDigitsAt 12 = .ok (.invokevirtual 45, 3) := by decide +kernel
theorem dX4_twoDigitsAt_15 : decode cX4_twoDigitsAt 15 = .ok (.iadd, 1) := by decide +kernel
theorem dX4_twoDigitsAt_16 : decode cX4_twoDigitsAt 16 = .ok (.ireturn, 1) := by decide +kernel
theorem dX4_lowestBits_0 : decode cX4_lowestBits 0 = .ok (.aload_n 0, 1) := by decide +kernel
theorem dX4_lowestBits_1 : decode cX4_lowestBits 1 = .ok (.getfield 31, 3) := by decide +kernel
theorem dX4_lowestBits_4 : decode cX4_lowestBits 4 = .ok (.ifCond .ne 6, 3) := by decide +kernel
theorem dX4_lowestBits_7 : decode cX4_lowestBits 7 = .ok (.iload_n 1, 1) := by decide +kernel
theorem dX4_lowestBits_8 : decode cX4_lowestBits 8 = .ok (.i2b, 1) := by decide +kernel
theorem dX4_lowestBits_9 : decode cX4_lowestBits 9 = .ok (.ireturn, 1) := by decide +kernel
theorem dX4_lowestBits_10 : decode cX4_lowestBits 10 = .ok (.aload_n 0, 1) := by decide +kernel
theorem dX4_lowestBits_11 : decode cX4_lowestBits 11 = .ok (.getfield 31, 3) := by decide +kernel
theorem dX4_lowestBits_14 : decode cX4_lowestBits 14 = .ok (.iconst 1, 1) := by decide +kernel
theorem dX4_lowestBits_15 : decode cX4_lowestBits 15 = .ok (.if_icmp .ne 8, 3) := by decide +kernel
theorem dX4_lowestBits_18 : decode cX4_lowestBits 18 = .ok (.iload_n 1, 1) := by decide +kernel
theorem dX4_lowestBits_19 : decode cX4_lowestBits 19 = .ok (.i2s, 1) := by decide +kernel
theorem dX4_lowestBits_20 : decode cX4_lowestBits 20 = .ok (.goto 4, 3) := by decide +kernel
theorem dX4_lowestBits_23 : decode cX4_lowestBits 23 = .ok (.iload_n 1, 1) := by decide +kernel
theorem dX4_lowestBits_24 : decode cX4_lowestBits 24 = .ok (.ireturn, 1) := by decide +kernel
theorem dX4_leastNumber_0 : decode cX4_leastNumber 0 = .ok (.aload_n 0, 1) := by decide +kernel
theorem dX4_leastNumber_1 : decode cX4_leastNumber 1 = .ok (.getfield 31, 3) := by decide +kernel
theorem dX4_leastNumber_4 : decode cX4_leastNumber 4 = .ok (.ifCond .ne 6, 3) := by decide +kernel
theorem dX4_leastNumber_7 : decode cX4_leastNumber 7 = .ok (.bipush (-128), 2) := by decide +kernel
theorem dX4_leastNumber_9 : decode cX4_leastNumber 9 = .ok (.ireturn, 1) := by decide +kernel
theorem dX4_leastNumber_10 : decode cX4_leastNumber 10 = .ok (.aload_n 0, 1) := by decide +kernel
theorem dX4_leastNumber_11 : decode cX4_leastNumber 11 = .ok (.getfield 31, 3) := by decide +kernel
theorem dX4_leastNumber_14 : decode cX4_leastNumber 14 = .ok (.iconst 1, 1) := by decide +kernel
theorem dX4_leastNumber_15 : decode cX4_leastNumber 15 = .ok (.if_icmp .ne 9, 3) := by decide +kernel
theorem dX4_leastNumber_18 : decode cX4_leastNumber 18 = .ok (.sipush (-32768), 3) := by decide +kernel
theorem dX4_leastNumber_21 : decode cX4_leastNumber 21 = .ok (.goto 5, 3) := by decide +kernel
theorem dX4_leastNumber_24 : decode cX4_leastNumber 24 = .ok (.ldc 54, 2) := by decide +kernel
theorem dX4_leastNumber_26 : decode cX4_leastNumber 26 = .ok (.ireturn, 1) := by decide +kernel
theorem dJx29ce0_ordinal_8abf5_0 : decode cJx29ce0_ordinal_8abf5 0 = .ok (.aload_n 0, 1) := by decide +kernel
theorem dJx29ce0_ordinal_8abf5_1 : decode cJx29ce0_ordinal_8abf5 1 = .ok (.getfield 7, 3) := by decide +kernel
theorem dJx29ce0_ordinal_8abf5_4 : decode cJx29ce0_ordinal_8abf5 4 = .ok (.ireturn, 1) := by decide +kernel
theorem dJ6_bitCount_0f7a4_0 : decode cJ6_bitCount_0f7a4 0 = .ok (.iload_n 0, 1) := by decide +kernel
theorem dJ6_bitCount_0f7a4_1 : decode cJ6_bitCount_0f7a4 1 = .ok (.iload_n 0, 1) := by decide +kernel
theorem dJ6_bitCount_0f7a4_2 : decode cJ6_bitCount_0f7a4 2 = .ok (.iconst 1, 1) := by decide +kernel
theorem dJ6_bitCount_0f7a4_3 : decode cJ6_bitCount_0f7a4 3 = .ok (.iushr, 1) := by decide +kernel
theorem dJ6_bitCount_0f7a4_4 : decode cJ6_bitCount_0f7a4 4 = .ok (.ldc_w 265, 3) := by decide +kernel
theorem dJ6_bitCount_0f7a4_7 : decode cJ6_bitCount_0f7a4 7 = .ok (.iand, 1) := by decide +kernel
theorem dJ6_bitCount_0f7a4_8 : decode cJ6_bitCount_0f7a4 8 = .ok (.isub, 1) := by decide +kernel
theorem dJ6_bitCount_0f7a4_9 : decode cJ6_bitCount_0f7a4 9 = .ok (.istore_n 0, 1) := by decide +kernel
theorem dJ6_bitCount_0f7a4_10 : decode cJ6_bitCount_0f7a4 10 = .ok (.iload_n 0, 1) := by decide +kernel
theorem dJ6_bitCount_0f7a4_11 : decode cJ6_bitCount_0f7a4 11 = .ok (.ldc_w 266, 3) := by decide +kernel
theorem dJ6_bitCount_0f7a4_14 : decode cJ6_bitCount_0f7a4 14 = .ok (.iand, 1) := by decide +kernel
theorem dJ6_bitCount_0f7a4_15 : decode cJ6_bitCount_0f7a4 15 = .ok (.iload_n 0, 1) := by decide +kernel
theorem dJ6_bitCount_0f7a4_16 : decode cJ6_bitCount_0f7a4 16 = .ok (.iconst 2, 1) := by decide +kernel
theorem dJ6_bitCount_0f7a4_17 : decode cJ6_bitCount_0f7a4 17 = .ok (.iushr, 1) := by decide +kernel
theorem dJ6_bitCount_0f7a4_18 : decode cJ6_bitCount_0f7a4 18 = .ok (.ldc_w 266, 3) := by decide +kernel
theorem dJ6_bitCount_0f7a4_21 : decode cJ6_bitCount_0f7a4 21 = .ok (.iand, 1) := by decide +kernel
theorem dJ6_bitCount_0f7a4_22 : decode cJ6_bitCount_0f7a4 22 = .ok (.iadd, 1) := by decide +kernel
theorem dJ6_bitCount_0f7a4_23 : decode cJ6_bitCount_0f7a4 23 = .ok (.istore_n 0, 1) := by decide +kernel
theorem dJ6_bitCount_0f7a4_24 : decode cJ6_bitCount_0f7a4 24 = .ok (.iload_n 0, 1) := by decide +kernel
theorem dJ6_bitCount_0f7a4_25 : decode cJ6_bitCount_0f7a4 25 = .ok (.iload_n 0, 1) := by decide +kernel
theorem dJ6_bitCount_0f7a4_26 : decode cJ6_bitCount_0f7a4 26 = .ok (.iconst 4, 1) := by decide +kernel
theorem dJ6_bitCount_0f7a4_27 : decode cJ6_bitCount_0f7a4 27 = .ok (.iushr, 1) := by decide +kernel
theorem dJ6_bitCount_0f7a4_28 : decode cJ6_bitCount_0f7a4 28 = .ok (.iadd, 1) := by decide +kernel
theorem dJ6_bitCount_0f7a4_29 : decode cJ6_bitCount_0f7a4 29 = .ok (.ldc_w 267, 3) := by decide +kernel
theorem dJ6_bitCount_0f7a4_32 : decode cJ6_bitCount_0f7a4 32 = .ok (.iand, 1) := by decide +kernel
theorem dJ6_bitCount_0f7a4_33 : decode cJ6_bitCount_0f7a4 33 = .ok (.istore_n 0, 1) := by decide +kernel
theorem dJ6_bitCount_0f7a4_34 : decode cJ6_bitCount_0f7a4 34 = .ok (.iload_n 0, 1) := by decide +kernel
theorem dJ6_bitCount_0f7a4_35 : decode cJ6_bitCount_0f7a4 35 = .ok (.iload_n 0, 1) := by decide +kernel
theorem dJ6_bitCount_0f7a4_36 : decode cJ6_bitCount_0f7a4 36 = .ok (.bipush 8, 2) := by decide +kernel
theorem dJ6_bitCount_0f7a4_38 : decode cJ6_bitCount_0f7a4 38 = .ok (.iushr, 1) := by decide +kernel
theorem dJ6_bitCount_0f7a4_39 : decode cJ6_bitCount_0f7a4 39 = .ok (.iadd, 1) := by decide +kernel
theorem dJ6_bitCount_0f7a4_40 : decode cJ6_bitCount_0f7a4 40 = .ok (.istore_n 0, 1) := by decide +kernel
theorem dJ6_bitCount_0f7a4_41 : decode cJ6_bitCount_0f7a4 41 = .ok (.iload_n 0, 1) := by decide +kernel
theorem dJ6_bitCount_0f7a4_42 : decode cJ6_bitCount_0f7a4 42 = .ok (.iload_n 0, 1) := by decide +kernel
theorem dJ6_bitCount_0f7a4_43 : decode cJ6_bitCount_0f7a4 43 = .ok (.bipush 16, 2) := by decide +kernel
theorem dJ6_bitCount_0f7a4_45 : decode cJ6_bitCount_0f7a4 45 = .ok (.iushr, 1) := by decide +kernel
theorem dJ6_bitCount_0f7a4_46 : decode cJ6_bitCount_0f7a4 46 = .ok (.iadd, 1) := by decide +kernel
theorem dJ6_bitCount_0f7a4_47 : decode cJ6_bitCount_0f7a4 47 = .ok (.istore_n 0, 1) := by decide +kernel
theorem dJ6_bitCount_0f7a4_48 : decode cJ6_bitCount_0f7a4 48 = .ok (.iload_n 0, 1) := by decide +kernel
theorem dJ6_bitCount_0f7a4_49 : decode cJ6_bitCount_0f7a4 49 = .ok (.bipush 63, 2) := by decide +kernel
theorem dJ6_bitCount_0f7a4_51 : decode cJ6_bitCount_0f7a4 51 = .ok (.iand, 1) := by decide +kernel
theorem dJ6_bitCount_0f7a4_52 : decode cJ6_bitCount_0f7a4 52 = .ok (.ireturn, 1) := by decide +kernel
theorem dJ9_max_7cf53_0 : decode cJ9_max_7cf53 0 = .ok (.iload_n 0, 1) := by decide +kernel
theorem dJ9_max_7cf53_1 : decode cJ9_max_7cf53 1 = .ok (.iload_n 1, 1) := by decide +kernel
theorem dJ9_max_7cf53_2 : decode cJ9_max_7cf53 2 = .ok (.if_icmp .lt 7, 3) := by decide +kernel
theorem dJ9_max_7cf53_5 : decode cJ9_max_7cf53 5 = .ok (.iload_n 0, 1) := by decide +kernel
theorem dJ9_max_7cf53_6 : decode cJ9_max_7cf53 6 = .ok (.goto 4, 3) := by decide +kernel
theorem dJ9_max_7cf53_9 : decode cJ9_max_7cf53 9 = .ok (.iload_n 1, 1) := by decide +kernel
theorem dJ9_max_7cf53_10 : decode cJ9_max_7cf53 10 = .ok (.ireturn, 1) := by decide +kernel
theorem dJ9_max_f86c9_0 : decode cJ9_max_f86c9 0 = .ok (.lload_n 0, 1) := by decide +kernel
theorem dJ9_max_f86c9_1 : decode cJ9_max_f86c9 1 = .ok (.lload_n 2, 1) := by decide +kernel
theorem dJ9_max_f86c9_2 : decode cJ9_max_f86c9 2 = .ok (.lcmp, 1) := by decide +kernel
theorem dJ9_max_f86c9_3 : decode cJ9_max_f86c9 3 = .ok (.ifCond .lt 7, 3) := by decide +kernel
theorem dJ9_max_f86c9_6 : decode cJ9_max_f86c9 6 = .ok (.lload_n 0, 1) := by decide +kernel
theorem dJ9_max_f86c9_7 : decode cJ9_max_f86c9 7 = .ok (.goto 4, 3) := by decide +kernel
theorem dJ9_max_f86c9_10 : decode cJ9_max_f86c9 10 = .ok (.lload_n 2, 1) := by decide +kernel
theorem dJ9_max_f86c9_11 : decode cJ9_max_f86c9 11 = .ok (.lreturn, 1) := by decide +kernel
theorem dJ9_min_7cf53_0 : decode cJ9_min_7cf53 0 = .ok (.iload_n 0, 1) := by decide +kernel
theorem dJ9_min_7cf53_1 : decode cJ9_min_7cf53 1 = .ok (.iload_n 1, 1) := by decide +kernel
theorem dJ9_min_7cf53_2 : decode cJ9_min_7cf53 2 = .ok (.if_icmp .gt 7, 3) := by decide +kernel
theorem dJ9_min_7cf53_5 : decode cJ9_min_7cf53 5 = .ok (.iload_n 0, 1) := by decide +kernel
theorem dJ9_min_7cf53_6 : decode cJ9_min_7cf53 6 = .ok (.goto 4, 3) := by decide +kernel
theorem dJ9_min_7cf53_9 : decode cJ9_min_7cf53 9 = .ok (.iload_n 1, 1) := by decide +kernel
theorem dJ9_min_7cf53_10 : decode cJ9_min_7cf53 10 = .ok (.ireturn, 1) := by decide +kernel
end
section
theorem dX5_init_0 : decode cX5_init 0 = .ok (.aload_n 0, 1) := by decide +kernel
theorem dX5_init_1 : decode cX5_init 1 = .ok (.invokespecial 1, 3) := by decide +kernel
theorem dX5_init_4 : decode cX5_init 4 = .ok (.aload_n 0, 1) := by decide +kernel
theorem dX5_init_5 : decode cX5_init 5 = .ok (.bipush 8, 2) := by decide +kernel
theorem dX5_init_7 : decode cX5_init 7 = .ok (.anewarray 9, 3) := by decide +kernel
theorem dX5_init_10 : decode cX5_init 10 = .ok (.putfield 11, 3) := by decide +kernel
theorem dX5_init_13 : decode cX5_init 13 = .ok (.aload_n 0, 1) := by decide +kernel
theorem dX5_init_14 : decode cX5_init 14 = .ok (.new 15, 3) := by decide +kernel
theorem dX5_init_17 : decode cX5_init 17 = .ok (.dup, 1) := by decide +kernel
theorem dX5_init_18 : decode cX5_init 18 = .ok (.invokespecial 17, 3) := by decide +kernel
theorem dX5_init_21 : decode cX5_init 21 = .ok (.putfield 18, 3) := by decide +kernel
theorem dX5_init_24 : decode cX5_init 24 = .ok (.aload_n 0, 1) := by decide +kernel
theorem dX5_init_25 : decode cX5_init 25 = .ok (.new 15, 3) := by decide +kernel
theorem dX5_init_28 : decode cX5_init 28 = .ok (.dup, 1) := by decide +kernel
theorem dX5_init_29 : decode cX5_init 29 = .ok (.invokespecial 17, 3) := by decide +kernel
theorem dX5_init_32 : decode cX5_init 32 = .ok (.putfield 22, 3) := by decide +kernel
theorem dX5_init_35 : decode cX5_init 35 = .ok (.aload_n 0, 1) := by decide +kernel
theorem dX5_init_36 : decode cX5_init 36 = .ok (.new 15, 3) := by decide +kernel
theorem dX5_init_39 : decode cX5_init 39 = .ok (.dup, 1) := by decide +kernel
theorem dX5_init_40 : decode cX5_init 40 = .ok (.invokespecial 17, 3) := by decide +kernel
theorem dX5_init_43 : decode cX5_init 43 = .ok (.putfield 25, 3) := by decide +kernel
theorem dX5_init_46 : decode cX5_init 46 = .ok (.aload_n 0, 1) := by decide +kernel
theorem dX5_init_47 : decode cX5_init 47 = .ok (.new 28, 3) := by decide +kernel
theorem dX5_init_50 : decode cX5_init 50 = .ok (.dup, 1) := by decide +kernel
theorem dX5_init_51 : decode cX5_init 51 = .ok (.invokespecial 30, 3) := by decide +kernel
theorem dX5_init_54 : decode cX5_init 54 = .ok (.putfield 31, 3) := by decide +kernel
theorem dX5_init_57 : decode cX5_init 57 = .ok (.iconst 0, 1) := by decide +kernel
theorem dX5_init_58 : decode cX5_init 58 = .ok (.istore_n 1, 1) := by decide +kernel
theorem dX5_init_59 : decode cX5_init 59 = .ok (.iload_n 1, 1) := by decide +kernel
theorem dX5_init_60 : decode cX5_init 60 = .ok (.bipush 8, 2) := by decide +kernel
theorem dX5_init_62 : decode cX5_init 62 = .ok (.if_icmp .ge 22, 3) := by decide +kernel
theorem dX5_init_65 : decode cX5_init 65 = .ok (.aload_n 0, 1) := by decide +kernel
theorem dX5_init_66 : decode cX5_init 66 = .ok (.getfield 11, 3) := by decide +kernel
theorem dX5_init_69 : decode cX5_init 69 = .ok (.iload_n 1, 1) := by decide +kernel
theorem dX5_init_70 : decode cX5_init 70 = .ok (.new 9, 3) := by decide +kernel
theorem dX5_init_73 : decode cX5_init 73 = .ok (.dup, 1) := by decide +kernel
theorem dX5_init_74 : decode cX5_init 74 = .ok (.invokespecial 35, 3) := by decide +kernel
theorem dX5_init_77 : decode cX5_init 77 = .ok (.aastore, 1) := by decide +kernel
theorem dX5_init_78 : decode cX5_init 78 = .ok (.iinc 1 1, 3) := by decide +kernel
theorem dX5_init_81 : decode cX5_init 81 = .ok (.goto (-22), 3) := by decide +kernel
theorem dX5_init_84 : decode cX5_init 84 = .ok (.return_, 1) := by decide +kernel
theorem dX5_fete_0 : decode cX5_fete 0 = .ok (.aload_n 0, 1) := by decide +kernel
theorem dX5_fete_1 : decode cX5_fete 1 = .ok (.iload_n 1, 1) := by decide +kernel
theorem dX5_fete_2 : decode cX5_fete 2 = .ok (.invokevirtual 36, 3) := by decide +kernel
theorem dX5_fete_5 : decode cX5_fete 5 = .ok (.istore_n 2, 1) := by decide +kernel
theorem dX5_fete_6 : decode cX5_fete 6 = .ok (.iload_n 2, 1) := by decide +kernel
theorem dX5_fete_7 : decode cX5_fete 7 = .ok (.ifCond .eq 5, 3) := by decide +kernel
theorem dX5_fete_10 : decode cX5_fete 10 = .ok (.iload_n 2, 1) := by decide +kernel
theorem dX5_fete_11 : decode cX5_fete 11 = .ok (.ireturn, 1) := by decide +kernel
theorem dX5_fete_12 : decode cX5_fete 12 = .ok (.aload_n 0, 1) := by decide +kernel
theorem dX5_fete_13 : decode cX5_fete 13 = .ok (.getfield 11, 3) := by decide +kernel
theorem dX5_fete_16 : decode cX5_fete 16 = .ok (.iload_n 1, 1) := by decide +kernel
theorem dX5_fete_17 : decode cX5_fete 17 = .ok (.aaload, 1) := by decide +kernel
theorem dX5_fete_18 : decode cX5_fete 18 = .ok (.astore_n 3, 1) := by decide +kernel
theorem dX5_fete_19 : decode cX5_fete 19 = .ok (.aload_n 3, 1) := by decide +kernel
theorem dX5_fete_20 : decode cX5_fete 20 = .ok (.getfield 40, 3) := by decide +kernel
theorem dX5_fete_23 : decode cX5_fete 23 = .ok (.ifCond .eq 6, 3) := by decide +kernel
theorem dX5_fete_26 : decode cX5_fete 26 = .ok (.bipush (-12), 2) := by decide +kernel
theorem dX5_fete_28 : decode cX5_fete 28 = .ok (.ireturn, 1) := by decide +kernel
theorem dX5_fete_29 : decode cX5_fete 29 = .ok (.aload_n 3, 1) := by decide +kernel
theorem dX5_fete_30 : decode cX5_fete 30 = .ok (.invokestatic 44, 3) := by decide +kernel
theorem dX5_fete_33 : decode cX5_fete 33 = .ok (.istore 4, 2) := by decide +kernel
theorem dX5_fete_35 : decode cX5_fete 35 = .ok (.iload 4, 2) := by decide +kernel
theorem dX5_fete_37 : decode cX5_fete 37 = .ok (.ifCond .lt 10, 3) := by decide +kernel
theorem dX5_fete_40 : decode cX5_fete 40 = .ok (.sipush (-1000), 3) := by decide +kernel
theorem dX5_fete_43 : decode cX5_fete 43 = .ok (.iload 4, 2) := by decide +kernel
theorem dX5_fete_45 : decode cX5_fete 45 = .ok (.isub, 1) := by decide +kernel
theorem dX5_fete_46 : decode cX5_fete 46 = .ok (.ireturn, 1) := by decide +kernel
theorem dX5_fete_47 : decode cX5_fete 47 = .ok (.aload_n 0, 1) := by decide +kernel
theorem dX5_fete_48 : decode cX5_fete 48 = .ok (.aload_n 3, 1) := by decide +kernel
theorem dX5_fete_49 : decode cX5_fete 49 = .ok (.invokevirtual 48, 3) := by decide +kernel
theorem dX5_fete_52 : decode cX5_fete 52 = .ok (.ireturn, 1) := by decide +kernel
theorem dX5_person_0 : decode cX5_person 0 = .ok (.aload_n 0, 1) := by decide +kernel
theorem dX5_person_1 : decode cX5_person 1 = .ok (.getfield 18, 3) := by decide +kernel
theorem dX5_person_4 : decode cX5_person 4 = .ok (.iload_n 1, 1) := by decide +kernel
theorem dX5_person_5 : decode cX5_person 5 = .ok (.invokevirtual 51, 3) := by decide +kernel
theorem dX5_person_8 : decode cX5_person 8 = .ok (.ifCond .ne 5, 3) := by decide +kernel
theorem dX5_person_11 : decode cX5_person 11 = .ok (.iconst (-1), 1) := by decide +kernel
theorem dX5_person_12 : decode cX5_person 12 = .ok (.ireturn, 1) := by decide +kernel
theorem dX5_person_13 : decode cX5_person 13 = .ok (.aload_n 0, 1) := by decide +kernel
theorem dX5_person_14 : decode cX5_person 14 = .ok (.getfield 18, 3) := by decide +kernel
theorem dX5_person_17 : decode cX5_person 17 = .ok (.getfield 55, 3) := by decide +kernel
theorem dX5_person_20 : decode cX5_person 20 = .ok (.iload_n 1, 1) := by decide +kernel
theorem dX5_person_21 : decode cX5_person 21 = .ok (.aaload, 1) := by decide +kernel
theorem dX5_person_22 : decode cX5_person 22 = .ok (.astore_n 3, 1) := by decide +kernel
theorem dX5_person_23 : decode cX5_person 23 = .ok (.iload_n 2, 1) := by decide +kernel
theorem dX5_person_24 : decode cX5_person 24 = .ok (.tableswitch 103 0 8 #[52, 60, 65, 70, 75, 80, 85, 90, 95], 52) := by decide +kernel
theorem dX5_person_76 : decode cX5_person 76 = .ok (.aload_n 3, 1) := by decide +kernel
theorem dX5_person_77 : decode cX5_person 77 = .ok (.getfield 59, 3) := by decide +kernel
theorem dX5_person_80 : decode cX5_person 80 = .ok (.invokevirtual 65, 3) := by decide +kernel
theorem dX5_person_83 : decode cX5_person 83 = .ok (.ireturn, 1) := by decide +kernel
theorem dX5_person_84 : decode cX5_person 84 = .ok (.aload_n 3, 1) := by decide +kernel
theorem dX5_person_85 : decode cX5_person 85 = .ok (.getfield 71, 3) := by decide +kernel
theorem dX5_person_88 : decode cX5_person 88 = .ok (.ireturn, 1) := by decide +kernel
theorem dX5_person_89 : decode cX5_person 89 = .ok (.aload_n 3, 1) := by decide +kernel
theorem dX5_person_90 : decode cX5_person 90 = .ok (.getfield 74, 3) := by decide +kernel
theorem dX5_person_93 : decode cX5_person 93 = .ok (.ireturn, 1) := by decide +kernel
theorem dX5_person_94 : decode cX5_person 94 = .ok (.aload_n 3, 1) := by decide +kernel
theorem dX5_person_95 : decode cX5_person 95 = .ok (.getfield 77, 3) := by decide +kernel
theorem dX5_person_98 : decode cX5_person 98 = .ok (.ireturn, 1) := by decide +kernel
theorem dX5_person_99 : decode cX5_person 99 = .ok (.aload_n 3, 1) := by decide +kernel
theorem dX5_person_100 : decode cX5_person 100 = .ok (.getfield 80, 3) := by decide +kernel
theorem dX5_person_103 : decode cX5_person 103 = .ok (.ireturn, 1) := by decide +kernel
theorem dX5_person_104 : decode cX5_person 104 = .ok (.aload_n 3, 1) := by decide +kernel
theorem dX5_person_105 : decode cX5_person 105 = .ok (.getfield 83, 3) := by decide +kernel
theorem dX5_person_108 : decode cX5_person 108 = .ok (.ireturn, 1) := by decide +kernel
theorem dX5_person_109 : decode cX5_person 109 = .ok (.aload_n 3, 1) := by decide +kernel
theorem dX5_person_110 : decode cX5_person 110 = .ok (.getfield 86, 3) := by decide +kernel
theorem dX5_person_113 : decode cX5_person 113 = .ok (.ireturn, 1) := by decide +kernel
theorem dX5_person_114 : decode cX5_person 114 = .ok (.aload_n 3, 1) := by decide +kernel
theorem dX5_person_115 : decode cX5_person 115 = .ok (.getfield 89, 3) := by decide +kernel
theorem dX5_person_118 : decode cX5_person 118 = .ok (.ireturn, 1) := by decide +kernel
theorem dX5_person_119 : decode cX5_person 119 = .ok (.aload_n 3, 1) := by decide +kernel
theorem dX5_person_120 : decode cX5_person 120 = .ok (.getfield 59, 3) := by decide +kernel
theorem dX5_person_123 : decode cX5_person 123 = .ok (.getfield 92, 3) := by decide +kernel
theorem dX5_person_126 : decode cX5_person 126 = .ok (.ireturn, 1) := by decide +kernel
theorem dX5_person_127 : decode cX5_person 127 = .ok (.iconst (-1), 1) := by decide +kernel
theorem dX5_person_128 : decode cX5_person 128 = .ok (.ireturn, 1) := by decide +kernel
theorem dX5_comes_0 : decode cX5_comes 0 = .ok (.iload_n 1, 1) := by decide +kernel
theorem dX5_comes_1 : decode cX5_comes 1 = .ok (.invokestatic 95, 3) := by decide +kernel
theorem dX5_comes_4 : decode cX5_comes 4 = .ok (.ifCond .eq 17, 3) := by decide +kernel
theorem dX5_comes_7 : decode cX5_comes 7 = .ok (.iload_n 2, 1) := by decide +kernel
theorem dX5_comes_8 : decode cX5_comes 8 = .ok (.invokestatic 98, 3) := by decide +kernel
theorem dX5_comes_11 : decode cX5_comes 11 = .ok (.ifCond .eq 10, 3) := by decide +kernel
theorem dX5_comes_14 : decode cX5_comes 14 = .ok (.iload_n 3, 1) := by decide +kernel
theorem dX5_comes_15 : decode cX5_comes 15 = .ok (.invokestatic 98, 3) := by decide +kernel
theorem dX5_comes_18 : decode cX5_comes 18 = .ok (.ifCond .ne 5, 3) := by decide +kernel
theorem dX5_comes_21 : decode cX5_comes 21 = .ok (.iconst (-1), 1) := by decide +kernel
theorem dX5_comes_22 : decode cX5_comes 22 = .ok (.ireturn, 1) := by decide +kernel
theorem dX5_comes_23 : decode cX5_comes 23 = .ok (.aload_n 0, 1) := by decide +kernel
theorem dX5_comes_24 : decode cX5_comes 24 = .ok (.iload_n 1, 1) := by decide +kernel
theorem dX5_comes_25 : decode cX5_comes 25 = .ok (.invokevirtual 101, 3) := by decide +kernel
theorem dX5_comes_28 : decode cX5_comes 28 = .ok (.istore 4, 2) := by decide +kernel
theorem dX5_comes_30 : decode cX5_comes 30 = .ok (.iload 4, 2) := by decide +kernel
theorem dX5_comes_32 : decode cX5_comes 32 = .ok (.ifCond .eq 6, 3) := by decide +kernel
theorem dX5_comes_35 : decode cX5_comes 35 = .ok (.iload 4, 2) := by decide +kernel
theorem dX5_comes_37 : decode cX5_comes 37 = .ok (.ireturn, 1) := by decide +kernel
theorem dX5_comes_38 : decode cX5_comes 38 = .ok (.aload_n 0, 1) := by decide +kernel
theorem dX5_comes_39 : decode cX5_comes 39 = .ok (.getfield 18, 3) := by decide +kernel
theorem dX5_comes_42 : decode cX5_comes 42 = .ok (.getfield 104, 3) := by decide +kernel
theorem dX5_comes_45 : decode cX5_comes 45 = .ok (.istore 5, 2) := by decide +kernel
theorem dX5_comes_47 : decode cX5_comes 47 = .ok (.aload_n 0, 1) := by decide +kernel
theorem dX5_comes_48 : decode cX5_comes 48 = .ok (.getfield 11, 3) := by decide +kernel
theorem dX5_comes_51 : decode cX5_comes 51 = .ok (.iload_n 1, 1) := by decide +kernel
theorem dX5_comes_52 : decode cX5_comes 52 = .ok (.aaload, 1) := by decide +kernel
theorem dX5_comes_53 : decode cX5_comes 53 = .ok (.astore 6, 2) := by decide +kernel
theorem dX5_comes_55 : decode cX5_comes 55 = .ok (.aload_n 0, 1) := by decide +kernel
theorem dX5_comes_56 : decode cX5_comes 56 = .ok (.getfield 18, 3) := by decide +kernel
theorem dX5_comes_59 : decode cX5_comes 59 = .ok (.aload 6, 2) := by decide +kernel
theorem dX5_comes_61 : decode cX5_comes 61 = .ok (.getfield 107, 3) := by decide +kernel
theorem dX5_comes_64 : decode cX5_comes 64 = .ok (.aload 6, 2) := by decide +kernel
theorem dX5_comes_66 : decode cX5_comes 66 = .ok (.getfield 108, 3) := by decide +kernel
theorem dX5_comes_69 : decode cX5_comes 69 = .ok (.iload_n 2, 1) := by decide +kernel
theorem dX5_comes_70 : decode cX5_comes 70 = .ok (.iload_n 3, 1) := by decide +kernel
theorem dX5_comes_71 : decode cX5_comes 71 = .ok (.invokevirtual 109, 3) := by decide +kernel
theorem dX5_comes_74 : decode cX5_comes 74 = .ok (.ifCond .eq 8, 3) := by decide +kernel
theorem dX5_comes_77 : decode cX5_comes 77 = .ok (.iload 5, 2) := by decide +kernel
theorem dX5_comes_79 : decode cX5_comes 79 = .ok (.goto 5, 3) := by decide +kernel
theorem dX5_comes_82 : decode cX5_comes 82 = .ok (.bipush (-2), 2) := by decide +kernel
theorem dX5_comes_84 : decode cX5_comes 84 = .ok (.ireturn, 1) := by decide +kernel
theorem dX5_feels_0 : decode cX5_feels 0 = .ok (.aload_n 0, 1) := by decide +kernel
theorem dX5_feels_1 : decode cX5_feels 1 = .ok (.getfield 18, 3) := by decide +kernel
theorem dX5_feels_4 : decode cX5_feels 4 = .ok (.iload_n 1, 1) := by decide +kernel
theorem dX5_feels_5 : decode cX5_feels 5 = .ok (.invokevirtual 51, 3) := by decide +kernel
theorem dX5_feels_8 : decode cX5_feels 8 = .ok (.ifCond .eq 17, 3) := by decide +kernel
theorem dX5_feels_11 : decode cX5_feels 11 = .ok (.iload_n 2, 1) := by decide +kernel
theorem dX5_feels_12 : decode cX5_feels 12 = .ok (.invokestatic 113, 3) := by decide +kernel
theorem dX5_feels_15 : decode cX5_feels 15 = .ok (.ifCond .eq 10, 3) := by decide +kernel
theorem dX5_feels_18 : decode cX5_feels 18 = .ok (.iload_n 3, 1) := by decide +kernel
theorem dX5_feels_19 : decode cX5_feels 19 = .ok (.invokestatic 98, 3) := by decide +kernel
theorem dX5_feels_22 : decode cX5_feels 22 = .ok (.ifCond .ne 5, 3) := by decide +kernel
theorem dX5_feels_25 : decode cX5_feels 25 = .ok (.iconst (-1), 1) := by decide +kernel
theorem dX5_feels_26 : decode cX5_feels 26 = .ok (.ireturn, 1) := by decide +kernel
theorem dX5_feels_27 : decode cX5_feels 27 = .ok (.aload_n 0, 1) := by decide +kernel
theorem dX5_feels_28 : decode cX5_feels 28 = .ok (.getfield 18, 3) := by decide +kernel
theorem dX5_feels_31 : decode cX5_feels 31 = .ok (.getfield 55, 3) := by decide +kernel
theorem dX5_feels_34 : decode cX5_feels 34 = .ok (.iload_n 1, 1) := by decide +kernel
theorem dX5_feels_35 : decode cX5_feels 35 = .ok (.aaload, 1) := by decide +kernel
theorem dX5_feels_36 : decode cX5_feels 36 = .ok (.astore 4, 2) := by decide +kernel
theorem dX5_feels_38 : decode cX5_feels 38 = .ok (.iload_n 2, 1) := by decide +kernel
theorem dX5_feels_39 : decode cX5_feels 39 = .ok (.ifCond .ne 11, 3) := by decide +kernel
theorem dX5_feels_42 : decode cX5_feels 42 = .ok (.aload 4, 2) := by decide +kernel
theorem dX5_feels_44 : decode cX5_feels 44 = .ok (.getfield 74, 3) := by decide +kernel
theorem dX5_feels_47 : decode cX5_feels 47 = .ok (.goto 8, 3) := by decide +kernel
theorem dX5_feels_50 : decode cX5_feels 50 = .ok (.aload 4, 2) := by decide +kernel
theorem dX5_feels_52 : decode cX5_feels 52 = .ok (.getfield 77, 3) := by decide +kernel
theorem dX5_feels_55 : decode cX5_feels 55 = .ok (.istore 5, 2) := by decide +kernel
theorem dX5_feels_57 : decode cX5_feels 57 = .ok (.iload_n 2, 1) := by decide +kernel
theorem dX5_feels_58 : decode cX5_feels 58 = .ok (.ifCond .ne 12, 3) := by decide +kernel
theorem dX5_feels_61 : decode cX5_feels 61 = .ok (.aload 4, 2) := by decide +kernel
theorem dX5_feels_63 : decode cX5_feels 63 = .ok (.iload_n 3, 1) := by decide +kernel
theorem dX5_feels_64 : decode cX5_feels 64 = .ok (.putfield 74, 3) := by decide +kernel
theorem dX5_feels_67 : decode cX5_feels 67 = .ok (.goto 9, 3) := by decide +kernel
theorem dX5_feels_70 : decode cX5_feels 70 = .ok (.aload 4, 2) := by decide +kernel
theorem dX5_feels_72 : decode cX5_feels 72 = .ok (.iload_n 3, 1) := by decide +kernel
theorem dX5_feels_73 : decode cX5_feels 73 = .ok (.putfield 77, 3) := by decide +kernel
theorem dX5_feels_76 : decode cX5_feels 76 = .ok (.iload 5, 2) := by decide +kernel
theorem dX5_feels_78 : decode cX5_feels 78 = .ok (.ireturn, 1) := by decide +kernel
theorem dX5_slices_0 : decode cX5_slices 0 = .ok (.iload_n 1, 1) := by decide +kernel
theorem dX5_slices_1 : decode cX5_slices 1 = .ok (.iconst 0, 1) := by decide +kernel
theorem dX5_slices_2 : decode cX5_slices 2 = .ok (.bipush 99, 2) := by decide +kernel
theorem dX5_slices_4 : decode cX5_slices 4 = .ok (.invokestatic 116, 3) := by decide +kernel
theorem dX5_slices_7 : decode cX5_slices 7 = .ok (.ifCond .ne 5, 3) := by decide +kernel
theorem dX5_slices_10 : decode cX5_slices 10 = .ok (.iconst (-1), 1) := by decide +kernel
theorem dX5_slices_11 : decode cX5_slices 11 = .ok (.ireturn, 1) := by decide +kernel
theorem dX5_slices_12 : decode cX5_slices 12 = .ok (.aload_n 0, 1) := by decide +kernel
theorem dX5_slices_13 : decode cX5_slices 13 = .ok (.getfield 18, 3) := by decide +kernel
theorem dX5_slices_16 : decode cX5_slices 16 = .ok (.getfield 120, 3) := by decide +kernel
theorem dX5_slices_19 : decode cX5_slices 19 = .ok (.istore_n 2, 1) := by decide +kernel
theorem dX5_slices_20 : decode cX5_slices 20 = .ok (.aload_n 0, 1) := by decide +kernel
theorem dX5_slices_21 : decode cX5_slices 21 = .ok (.getfield 18, 3) := by decide +kernel
theorem dX5_slices_24 : decode cX5_slices 24 = .ok (.iload_n 1, 1) := by decide +kernel
theorem dX5_slices_25 : decode cX5_slices 25 = .ok (.putfield 120, 3) := by decide +kernel
theorem dX5_slices_28 : decode cX5_slices 28 = .ok (.iload_n 2, 1) := by decide +kernel
theorem dX5_slices_29 : decode cX5_slices 29 = .ok (.ireturn, 1) := by decide +kernel
theorem dX5_eats_0 : decode cX5_eats 0 = .ok (.aload_n 0, 1) := by decide +kernel
theorem dX5_eats_1 : decode cX5_eats 1 = .ok (.getfield 18, 3) := by decide +kernel
theorem dX5_eats_4 : decode cX5_eats 4 = .ok (.iload_n 1, 1) := by decide +kernel
theorem dX5_eats_5 : decode cX5_eats 5 = .ok (.iload_n 2, 1) := by decide +kernel
theorem dX5_eats_6 : decode cX5_eats 6 = .ok (.invokevirtual 123, 3) := by decide +kernel
theorem dX5_eats_9 : decode cX5_eats 9 = .ok (.ifCond .ne 5, 3) := by decide +kernel
theorem dX5_eats_12 : decode cX5_eats 12 = .ok (.iconst (-1), 1) := by decide +kernel
theorem dX5_eats_13 : decode cX5_eats 13 = .ok (.ireturn, 1) := by decide +kernel
theorem dX5_eats_14 : decode cX5_eats 14 = .ok (.aload_n 0, 1) := by decide +kernel
theorem dX5_eats_15 : decode cX5_eats 15 = .ok (.getfield 18, 3) := by decide +kernel
theorem dX5_eats_18 : decode cX5_eats 18 = .ok (.iload_n 1, 1) := by decide +kernel
theorem dX5_eats_19 : decode cX5_eats 19 = .ok (.iload_n 2, 1) := by decide +kernel
theorem dX5_eats_20 : decode cX5_eats 20 = .ok (.invokevirtual 127, 3) := by decide +kernel
theorem dX5_eats_23 : decode cX5_eats 23 = .ok (.ifCond .ne 6, 3) := by decide +kernel
theorem dX5_eats_26 : decode cX5_eats 26 = .ok (.bipush (-3), 2) := by decide +kernel
theorem dX5_eats_28 : decode cX5_eats 28 = .ok (.ireturn, 1) := by decide +kernel
theorem dX5_eats_29 : decode cX5_eats 29 = .ok (.aload_n 0, 1) := by decide +kernel
theorem dX5_eats_30 : decode cX5_eats 30 = .ok (.getfield 18, 3) := by decide +kernel
theorem dX5_eats_33 : decode cX5_eats 33 = .ok (.iload_n 1, 1) := by decide +kernel
theorem dX5_eats_34 : decode cX5_eats 34 = .ok (.iload_n 2, 1) := by decide +kernel
theorem dX5_eats_35 : decode cX5_eats 35 = .ok (.invokevirtual 130, 3) := by decide +kernel
theorem dX5_eats_38 : decode cX5_eats 38 = .ok (.ireturn, 1) := by decide +kernel
theorem dX5_joys_0 : decode cX5_joys 0 = .ok (.aload_n 0, 1) := by decide +kernel
theorem dX5_joys_1 : decode cX5_joys 1 = .ok (.getfield 18, 3) := by decide +kernel
theorem dX5_joys_4 : decode cX5_joys 4 = .ok (.iload_n 1, 1) := by decide +kernel
theorem dX5_joys_5 : decode cX5_joys 5 = .ok (.iload_n 2, 1) := by decide +kernel
theorem dX5_joys_6 : decode cX5_joys 6 = .ok (.invokevirtual 123, 3) := by decide +kernel
theorem dX5_joys_9 : decode cX5_joys 9 = .ok (.ifCond .eq 12, 3) := by decide +kernel
theorem dX5_joys_12 : decode cX5_joys 12 = .ok (.iload_n 3, 1) := by decide +kernel
theorem dX5_joys_13 : decode cX5_joys 13 = .ok (.iconst 0, 1) := by decide +kernel
theorem dX5_joys_14 : decode cX5_joys 14 = .ok (.iconst 2, 1) := by decide +kernel
theorem dX5_joys_15 : decode cX5_joys 15 = .ok (.invokestatic 116, 3) := by decide +kernel
theorem dX5_joys_18 : decode cX5_joys 18 = .ok (.ifCond .ne 5, 3) := by decide +kernel
theorem dX5_joys_21 : decode cX5_joys 21 = .ok (.iconst (-1), 1) := by decide +kernel
theorem dX5_joys_22 : decode cX5_joys 22 = .ok (.ireturn, 1) := by decide +kernel
theorem dX5_joys_23 : decode cX5_joys 23 = .ok (.aload_n 0, 1) := by decide +kernel
theorem dX5_joys_24 : decode cX5_joys 24 = .ok (.getfield 18, 3) := by decide +kernel
theorem dX5_joys_27 : decode cX5_joys 27 = .ok (.iload_n 1, 1) := by decide +kernel
theorem dX5_joys_28 : decode cX5_joys 28 = .ok (.iload_n 2, 1) := by decide +kernel
theorem dX5_joys_29 : decode cX5_joys 29 = .ok (.invokevirtual 134, 3) := by decide +kernel
theorem dX5_joys_32 : decode cX5_joys 32 = .ok (.ifCond .ne 6, 3) := by decide +kernel
theorem dX5_joys_35 : decode cX5_joys 35 = .ok (.bipush (-3), 2) := by decide +kernel
theorem dX5_joys_37 : decode cX5_joys 37 = .ok (.ireturn, 1) := by decide +kernel
theorem dX5_joys_38 : decode cX5_joys 38 = .ok (.iload_n 3, 1) := by decide +kernel
theorem dX5_joys_39 : decode cX5_joys 39 = .ok (.ifCond .ne 13, 3) := by decide +kernel
theorem dX5_joys_42 : decode cX5_joys 42 = .ok (.aload_n 0, 1) := by decide +kernel
theorem dX5_joys_43 : decode cX5_joys 43 = .ok (.getfield 18, 3) := by decide +kernel
theorem dX5_joys_46 : decode cX5_joys 46 = .ok (.iload_n 1, 1) := by decide +kernel
theorem dX5_joys_47 : decode cX5_joys 47 = .ok (.iload_n 2, 1) := by decide +kernel
theorem dX5_joys_48 : decode cX5_joys 48 = .ok (.invokevirtual 137, 3) := by decide +kernel
theorem dX5_joys_51 : decode cX5_joys 51 = .ok (.ireturn, 1) := by decide +kernel
theorem dX5_joys_52 : decode cX5_joys 52 = .ok (.iload_n 3, 1) := by decide +kernel
theorem dX5_joys_53 : decode cX5_joys 53 = .ok (.iconst 1, 1) := by decide +kernel
theorem dX5_joys_54 : decode cX5_joys 54 = .ok (.if_icmp .ne 15, 3) := by decide +kernel
theorem dX5_joys_57 : decode cX5_joys 57 = .ok (.aload_n 0, 1) := by decide +kernel
theorem dX5_joys_58 : decode cX5_joys 58 = .ok (.getfield 18, 3) := by decide +kernel
theorem dX5_joys_61 : decode cX5_joys 61 = .ok (.iload_n 1, 1) := by decide +kernel
theorem dX5_joys_62 : decode cX5_joys 62 = .ok (.iload_n 2, 1) := by decide +kernel
theorem dX5_joys_63 : decode cX5_joys 63 = .ok (.invokevirtual 140, 3) := by decide +kernel
theorem dX5_joys_66 : decode cX5_joys 66 = .ok (.goto 11, 3) := by decide +kernel
theorem dX5_joys_69 : decode cX5_joys 69 = .ok (.aload_n 0, 1) := by decide +kernel
theorem dX5_joys_70 : decode cX5_joys 70 = .ok (.getfield 18, 3) := by decide +kernel
theorem dX5_joys_73 : decode cX5_joys 73 = .ok (.iload_n 2, 1) := by decide +kernel
theorem dX5_joys_74 : decode cX5_joys 74 = .ok (.invokevirtual 143, 3) := by decide +kernel
theorem dX5_joys_77 : decode cX5_joys 77 = .ok (.ireturn, 1) := by decide +kernel
theorem dX5_who_0 : decode cX5_who 0 = .ok (.iload_n 1, 1) := by decide +kernel
theorem dX5_who_1 : decode cX5_who 1 = .ok (.invokestatic 113, 3) := by decide +kernel
theorem dX5_who_4 : decode cX5_who 4 = .ok (.ifCond .ne 5, 3) := by decide +kernel
theorem dX5_who_7 : decode cX5_who 7 = .ok (.iconst (-1), 1) := by decide +kernel
theorem dX5_who_8 : decode cX5_who 8 = .ok (.ireturn, 1) := by decide +kernel
theorem dX5_who_9 : decode cX5_who 9 = .ok (.iconst 0, 1) := by decide +kernel
theorem dX5_who_10 : decode cX5_who 10 = .ok (.istore_n 2, 1) := by decide +kernel
theorem dX5_who_11 : decode cX5_who 11 = .ok (.iconst 0, 1) := by decide +kernel
theorem dX5_who_12 : decode cX5_who 12 = .ok (.istore_n 3, 1) := by decide +kernel
theorem dX5_who_13 : decode cX5_who 13 = .ok (.iload_n 3, 1) := by decide +kernel
theorem dX5_who_14 : decode cX5_who 14 = .ok (.aload_n 0, 1) := by decide +kernel
theorem dX5_who_15 : decode cX5_who 15 = .ok (.getfield 18, 3) := by decide +kernel
theorem dX5_who_18 : decode cX5_who 18 = .ok (.getfield 104, 3) := by decide +kernel
theorem dX5_who_21 : decode cX5_who 21 = .ok (.if_icmp .ge 58, 3) := by decide +kernel
theorem dX5_who_24 : decode cX5_who 24 = .ok (.iconst 0, 1) := by decide +kernel
theorem dX5_who_25 : decode cX5_who 25 = .ok (.istore 4, 2) := by decide +kernel
theorem dX5_who_27 : decode cX5_who 27 = .ok (.iload 4, 2) := by decide +kernel
theorem dX5_who_29 : decode cX5_who 29 = .ok (.aload_n 0, 1) := by decide +kernel
theorem dX5_who_30 : decode cX5_who 30 = .ok (.getfield 18, 3) := by decide +kernel
theorem dX5_who_33 : decode cX5_who 33 = .ok (.getfield 104, 3) := by decide +kernel
theorem dX5_who_36 : decode cX5_who 36 = .ok (.if_icmp .ge 37, 3) := by decide +kernel
theorem dX5_who_39 : decode cX5_who 39 = .ok (.aload_n 0, 1) := by decide +kernel
theorem dX5_who_40 : decode cX5_who 40 = .ok (.getfield 18, 3) := by decide +kernel
theorem dX5_who_43 : decode cX5_who 43 = .ok (.iload_n 3, 1) := by decide +kernel
theorem dX5_who_44 : decode cX5_who 44 = .ok (.iload 4, 2) := by decide +kernel
theorem dX5_who_46 : decode cX5_who 46 = .ok (.invokevirtual 134, 3) := by decide +kernel
theorem dX5_who_49 : decode cX5_who 49 = .ok (.ifCond .eq 18, 3) := by decide +kernel
theorem dX5_who_52 : decode cX5_who 52 = .ok (.iload_n 2, 1) := by decide +kernel
theorem dX5_who_53 : decode cX5_who 53 = .ok (.iconst 1, 1) := by decide +kernel
theorem dX5_who_54 : decode cX5_who 54 = .ok (.iload_n 1, 1) := by decide +kernel
theorem dX5_who_55 : decode cX5_who 55 = .ok (.ifCond .ne 7, 3) := by decide +kernel
theorem dX5_who_58 : decode cX5_who 58 = .ok (.iload_n 3, 1) := by decide +kernel
theorem dX5_who_59 : decode cX5_who 59 = .ok (.goto 5, 3) := by decide +kernel
theorem dX5_who_62 : decode cX5_who 62 = .ok (.iload 4, 2) := by decide +kernel
theorem dX5_who_64 : decode cX5_who 64 = .ok (.ishl, 1) := by decide +kernel
theorem dX5_who_65 : decode cX5_who 65 = .ok (.ior, 1) := by decide +kernel
theorem dX5_who_66 : decode cX5_who 66 = .ok (.istore_n 2, 1) := by decide +kernel
theorem dX5_who_67 : decode cX5_who 67 = .ok (.iinc 4 1, 3) := by decide +kernel
theorem dX5_who_70 : decode cX5_who 70 = .ok (.goto (-43), 3) := by decide +kernel
theorem dX5_who_73 : decode cX5_who 73 = .ok (.iinc 3 1, 3) := by decide +kernel
theorem dX5_who_76 : decode cX5_who 76 = .ok (.goto (-63), 3) := by decide +kernel
theorem dX5_who_79 : decode cX5_who 79 = .ok (.iload_n 2, 1) := by decide +kernel
theorem dX5_who_80 : decode cX5_who 80 = .ok (.ireturn, 1) := by decide +kernel
theorem dX5_bestPair_0 : decode cX5_bestPair 0 = .ok (.iload_n 1, 1) := by decide +kernel
theorem dX5_bestPair_1 : decode cX5_bestPair 1 = .ok (.invokestatic 113, 3) := by decide +kernel
theorem dX5_bestPair_4 : decode cX5_bestPair 4 = .ok (.ifCond .ne 5, 3) := by decide +kernel
theorem dX5_bestPair_7 : decode cX5_bestPair 7 = .ok (.iconst (-1), 1) := by decide +kernel
theorem dX5_bestPair_8 : decode cX5_bestPair 8 = .ok (.ireturn, 1) := by decide +kernel
theorem dX5_bestPair_9 : decode cX5_bestPair 9 = .ok (.aload_n 0, 1) := by decide +kernel
theorem dX5_bestPair_10 : decode cX5_bestPair 10 = .ok (.getfield 18, 3) := by decide +kernel
theorem dX5_bestPair_13 : decode cX5_bestPair 13 = .ok (.invokevirtual 146, 3) := by decide +kernel
theorem dX5_bestPair_16 : decode cX5_bestPair 16 = .ok (.istore_n 2, 1) := by decide +kernel
theorem dX5_bestPair_17 : decode cX5_bestPair 17 = .ok (.iload_n 2, 1) := by decide +kernel
theorem dX5_bestPair_18 : decode cX5_bestPair 18 = .ok (.ifCond .lt 7, 3) := by decide +kernel
theorem dX5_bestPair_21 : decode cX5_bestPair 21 = .ok (.iload_n 1, 1) := by decide +kernel
theorem dX5_bestPair_22 : decode cX5_bestPair 22 = .ok (.ifCond .ne 5, 3) := by decide +kernel
theorem dX5_bestPair_25 : decode cX5_bestPair 25 = .ok (.iload_n 2, 1) := by decide +kernel
theorem dX5_bestPair_26 : decode cX5_bestPair 26 = .ok (.ireturn, 1) := by decide +kernel
theorem dX5_bestPair_27 : decode cX5_bestPair 27 = .ok (.aload_n 0, 1) := by decide +kernel
theorem dX5_bestPair_28 : decode cX5_bestPair 28 = .ok (.getfield 18, 3) := by decide +kernel
theorem dX5_bestPair_31 : decode cX5_bestPair 31 = .ok (.iload_n 2, 1) := by decide +kernel
theorem dX5_bestPair_32 : decode cX5_bestPair 32 = .ok (.bipush 10, 2) := by decide +kernel
theorem dX5_bestPair_34 : decode cX5_bestPair 34 = .ok (.idiv, 1) := by decide +kernel
theorem dX5_bestPair_35 : decode cX5_bestPair 35 = .ok (.iload_n 2, 1) := by decide +kernel
theorem dX5_bestPair_36 : decode cX5_bestPair 36 = .ok (.bipush 10, 2) := by decide +kernel
theorem dX5_bestPair_38 : decode cX5_bestPair 38 = .ok (.irem, 1) := by decide +kernel
theorem dX5_bestPair_39 : decode cX5_bestPair 39 = .ok (.invokevirtual 137, 3) := by decide +kernel
theorem dX5_bestPair_42 : decode cX5_bestPair 42 = .ok (.ireturn, 1) := by decide +kernel
theorem dX5_bestLooker_0 : decode cX5_bestLooker 0 = .ok (.aload_n 0, 1) := by decide +kernel
theorem dX5_bestLooker_1 : decode cX5_bestLooker 1 = .ok (.getfield 18, 3) := by decide +kernel
theorem dX5_bestLooker_4 : decode cX5_bestLooker 4 = .ok (.iload_n 1, 1) := by decide +kernel
theorem dX5_bestLooker_5 : decode cX5_bestLooker 5 = .ok (.invokevirtual 51, 3) := by decide +kernel
theorem dX5_bestLooker_8 : decode cX5_bestLooker 8 = .ok (.ifCond .eq 14, 3) := by decide +kernel
theorem dX5_bestLooker_11 : decode cX5_bestLooker 11 = .ok (.aload_n 0, 1) := by decide +kernel
theorem dX5_bestLooker_12 : decode cX5_bestLooker 12 = .ok (.getfield 18, 3) := by decide +kernel
theorem dX5_bestLooker_15 : decode cX5_bestLooker 15 = .ok (.iload_n 1, 1) := by decide +kernel
theorem dX5_bestLooker_16 : decode cX5_bestLooker 16 = .ok (.invokevirtual 149, 3) := by decide +kernel
theorem dX5_bestLooker_19 : decode cX5_bestLooker 19 = .ok (.goto 4, 3) := by decide +kernel
theorem dX5_bestLooker_22 : decode cX5_bestLooker 22 = .ok (.iconst (-1), 1) := by decide +kernel
theorem dX5_bestLooker_23 : decode cX5_bestLooker 23 = .ok (.ireturn, 1) := by decide +kernel
theorem dX5_twoTurns_0 : decode cX5_twoTurns 0 = .ok (.iload_n 1, 1) := by decide +kernel
theorem dX5_twoTurns_1 : decode cX5_twoTurns 1 = .ok (.invokestatic 113, 3) := by decide +kernel
theorem dX5_twoTurns_4 : decode cX5_twoTurns 4 = .ok (.ifCond .ne 5, 3) := by decide +kernel
theorem dX5_twoTurns_7 : decode cX5_twoTurns 7 = .ok (.iconst (-1), 1) := by decide +kernel
theorem dX5_twoTurns_8 : decode cX5_twoTurns 8 = .ok (.ireturn, 1) := by decide +kernel
theorem dX5_twoTurns_9 : decode cX5_twoTurns 9 = .ok (.iconst 0, 1) := by decide +kernel
theorem dX5_twoTurns_10 : decode cX5_twoTurns 10 = .ok (.istore_n 2, 1) := by decide +kernel
theorem dX5_twoTurns_11 : decode cX5_twoTurns 11 = .ok (.bipush (-4), 2) := by decide +kernel
theorem dX5_twoTurns_13 : decode cX5_twoTurns 13 = .ok (.istore_n 3, 1) := by decide +kernel
theorem dX5_twoTurns_14 : decode cX5_twoTurns 14 = .ok (.iconst 0, 1) := by decide +kernel
theorem dX5_twoTurns_15 : decode cX5_twoTurns 15 = .ok (.istore 4, 2) := by decide +kernel
theorem dX5_twoTurns_17 : decode cX5_twoTurns 17 = .ok (.iload 4, 2) := by decide +kernel
theorem dX5_twoTurns_19 : decode cX5_twoTurns 19 = .ok (.aload_n 0, 1) := by decide +kernel
theorem dX5_twoTurns_20 : decode cX5_twoTurns 20 = .ok (.getfield 18, 3) := by decide +kernel
theorem dX5_twoTurns_23 : decode cX5_twoTurns 23 = .ok (.getfield 104, 3) := by decide +kernel
theorem dX5_twoTurns_26 : decode cX5_twoTurns 26 = .ok (.if_icmp .ge 76, 3) := by decide +kernel
theorem dX5_twoTurns_29 : decode cX5_twoTurns 29 = .ok (.iconst 0, 1) := by decide +kernel
theorem dX5_twoTurns_30 : decode cX5_twoTurns 30 = .ok (.istore 5, 2) := by decide +kernel
theorem dX5_twoTurns_32 : decode cX5_twoTurns 32 = .ok (.iload 5, 2) := by decide +kernel
theorem dX5_twoTurns_34 : decode cX5_twoTurns 34 = .ok (.aload_n 0, 1) := by decide +kernel
theorem dX5_twoTurns_35 : decode cX5_twoTurns 35 = .ok (.getfield 18, 3) := by decide +kernel
theorem dX5_twoTurns_38 : decode cX5_twoTurns 38 = .ok (.getfield 104, 3) := by decide +kernel
theorem dX5_twoTurns_41 : decode cX5_twoTurns 41 = .ok (.if_icmp .ge 55, 3) := by decide +kernel
theorem dX5_twoTurns_44 : decode cX5_twoTurns 44 = .ok (.aload_n 0, 1) := by decide +kernel
theorem dX5_twoTurns_45 : decode cX5_twoTurns 45 = .ok (.getfield 18, 3) := by decide +kernel
theorem dX5_twoTurns_48 : decode cX5_twoTurns 48 = .ok (.iload 4, 2) := by decide +kernel
theorem dX5_twoTurns_50 : decode cX5_twoTurns 50 = .ok (.iload 5, 2) := by decide +kernel
theorem dX5_twoTurns_52 : decode cX5_twoTurns 52 = .ok (.invokevirtual 134, 3) := by decide +kernel
theorem dX5_twoTurns_55 : decode cX5_twoTurns 55 = .ok (.ifCond .eq 35, 3) := by decide +kernel
theorem dX5_twoTurns_58 : decode cX5_twoTurns 58 = .ok (.aload_n 0, 1) := by decide +kernel
theorem dX5_twoTurns_59 : decode cX5_twoTurns 59 = .ok (.iload 4, 2) := by decide +kernel
theorem dX5_twoTurns_61 : decode cX5_twoTurns 61 = .ok (.iload 5, 2) := by decide +kernel
theorem dX5_twoTurns_63 : decode cX5_twoTurns 63 = .ok (.invokevirtual 152, 3) := by decide +kernel
theorem dX5_twoTurns_66 : decode cX5_twoTurns 66 = .ok (.istore 6, 2) := by decide +kernel
theorem dX5_twoTurns_68 : decode cX5_twoTurns 68 = .ok (.iload_n 3, 1) := by decide +kernel
theorem dX5_twoTurns_69 : decode cX5_twoTurns 69 = .ok (.ifCond .lt 9, 3) := by decide +kernel
theorem dX5_twoTurns_72 : decode cX5_twoTurns 72 = .ok (.iload 6, 2) := by decide +kernel
theorem dX5_twoTurns_74 : decode cX5_twoTurns 74 = .ok (.iload_n 2, 1) := by decide +kernel
theorem dX5_twoTurns_75 : decode cX5_twoTurns 75 = .ok (.if_icmp .le 15, 3) := by decide +kernel
theorem dX5_twoTurns_78 : decode cX5_twoTurns 78 = .ok (.iload 6, 2) := by decide +kernel
theorem dX5_twoTurns_80 : decode cX5_twoTurns 80 = .ok (.istore_n 2, 1) := by decide +kernel
theorem dX5_twoTurns_81 : decode cX5_twoTurns 81 = .ok (.bipush 10, 2) := by decide +kernel
theorem dX5_twoTurns_83 : decode cX5_twoTurns 83 = .ok (.iload 4, 2) := by decide +kernel
theorem dX5_twoTurns_85 : decode cX5_twoTurns 85 = .ok (.imul, 1) := by decide +kernel
theorem dX5_twoTurns_86 : decode cX5_twoTurns 86 = .ok (.iload 5, 2) := by decide +kernel
theorem dX5_twoTurns_88 : decode cX5_twoTurns 88 = .ok (.iadd, 1) := by decide +kernel
theorem dX5_twoTurns_89 : decode cX5_twoTurns 89 = .ok (.istore_n 3, 1) := by decide +kernel
theorem dX5_twoTurns_90 : decode cX5_twoTurns 90 = .ok (.iinc 5 1, 3) := by decide +kernel
theorem dX5_twoTurns_93 : decode cX5_twoTurns 93 = .ok (.goto (-61), 3) := by decide +kernel
theorem dX5_twoTurns_96 : decode cX5_twoTurns 96 = .ok (.iinc 4 1, 3) := by decide +kernel
theorem dX5_twoTurns_99 : decode cX5_twoTurns 99 = .ok (.goto (-82), 3) := by decide +kernel
theorem dX5_twoTurns_102 : decode cX5_twoTurns 102 = .ok (.iload_n 1, 1) := by decide +kernel
theorem dX5_twoTurns_103 : decode cX5_twoTurns 103 = .ok (.ifCond .ne 7, 3) := by decide +kernel
theorem dX5_twoTurns_106 : decode cX5_twoTurns 106 = .ok (.iload_n 2, 1) := by decide +kernel
theorem dX5_twoTurns_107 : decode cX5_twoTurns 107 = .ok (.goto 4, 3) := by decide +kernel
theorem dX5_twoTurns_110 : decode cX5_twoTurns 110 = .ok (.iload_n 3, 1) := by decide +kernel
theorem dX5_twoTurns_111 : decode cX5_twoTurns 111 = .ok (.ireturn, 1) := by decide +kernel
theorem dX5_pairs_0 : decode cX5_pairs 0 = .ok (.iload_n 1, 1) := by decide +kernel
theorem dX5_pairs_1 : decode cX5_pairs 1 = .ok (.iconst (-1), 1) := by decide +kernel
theorem dX5_pairs_2 : decode cX5_pairs 2 = .ok (.if_icmp .lt 14, 3) := by decide +kernel
theorem dX5_pairs_5 : decode cX5_pairs 5 = .ok (.iload_n 1, 1) := by decide +kernel
theorem dX5_pairs_6 : decode cX5_pairs 6 = .ok (.aload_n 0, 1) := by decide +kernel
theorem dX5_pairs_7 : decode cX5_pairs 7 = .ok (.getfield 18, 3) := by decide +kernel
theorem dX5_pairs_10 : decode cX5_pairs 10 = .ok (.getfield 104, 3) := by decide +kernel
theorem dX5_pairs_13 : decode cX5_pairs 13 = .ok (.if_icmp .lt 5, 3) := by decide +kernel
theorem dX5_pairs_16 : decode cX5_pairs 16 = .ok (.iconst (-1), 1) := by decide +kernel
theorem dX5_pairs_17 : decode cX5_pairs 17 = .ok (.ireturn, 1) := by decide +kernel
theorem dX5_pairs_18 : decode cX5_pairs 18 = .ok (.aload_n 0, 1) := by decide +kernel
theorem dX5_pairs_19 : decode cX5_pairs 19 = .ok (.getfield 31, 3) := by decide +kernel
theorem dX5_pairs_22 : decode cX5_pairs 22 = .ok (.aload_n 0, 1) := by decide +kernel
theorem dX5_pairs_23 : decode cX5_pairs 23 = .ok (.getfield 18, 3) := by decide +kernel
theorem dX5_pairs_26 : decode cX5_pairs 26 = .ok (.invokevirtual 155, 3) := by decide +kernel
theorem dX5_pairs_29 : decode cX5_pairs 29 = .ok (.iload_n 1, 1) := by decide +kernel
theorem dX5_pairs_30 : decode cX5_pairs 30 = .ok (.ifCond .ge 13, 3) := by decide +kernel
theorem dX5_pairs_33 : decode cX5_pairs 33 = .ok (.aload_n 0, 1) := by decide +kernel
theorem dX5_pairs_34 : decode cX5_pairs 34 = .ok (.getfield 31, 3) := by decide +kernel
theorem dX5_pairs_37 : decode cX5_pairs 37 = .ok (.getfield 159, 3) := by decide +kernel
theorem dX5_pairs_40 : decode cX5_pairs 40 = .ok (.goto 12, 3) := by decide +kernel
theorem dX5_pairs_43 : decode cX5_pairs 43 = .ok (.aload_n 0, 1) := by decide +kernel
theorem dX5_pairs_44 : decode cX5_pairs 44 = .ok (.getfield 31, 3) := by decide +kernel
theorem dX5_pairs_47 : decode cX5_pairs 47 = .ok (.getfield 162, 3) := by decide +kernel
theorem dX5_pairs_50 : decode cX5_pairs 50 = .ok (.iload_n 1, 1) := by decide +kernel
theorem dX5_pairs_51 : decode cX5_pairs 51 = .ok (.iaload, 1) := by decide +kernel
theorem dX5_pairs_52 : decode cX5_pairs 52 = .ok (.ireturn, 1) := by decide +kernel
theorem dX5_greedily_0 : decode cX5_greedily 0 = .ok (.iload_n 1, 1) := by decide +kernel
theorem dX5_greedily_1 : decode cX5_greedily 1 = .ok (.iconst 0, 1) := by decide +kernel
theorem dX5_greedily_2 : decode cX5_greedily 2 = .ok (.bipush 30, 2) := by decide +kernel
theorem dX5_greedily_4 : decode cX5_greedily 4 = .ok (.invokestatic 116, 3) := by decide +kernel
theorem dX5_greedily_7 : decode cX5_greedily 7 = .ok (.ifCond .eq 10, 3) := by decide +kernel
theorem dX5_greedily_10 : decode cX5_greedily 10 = .ok (.iload_n 2, 1) := by decide +kernel
theorem dX5_greedily_11 : decode cX5_greedily 11 = .ok (.invokestatic 113, 3) := by decide +kernel
theorem dX5_greedily_14 : decode cX5_greedily 14 = .ok (.ifCond .ne 5, 3) := by decide +kernel
theorem dX5_greedily_17 : decode cX5_greedily 17 = .ok (.iconst (-1), 1) := by decide +kernel
theorem dX5_greedily_18 : decode cX5_greedily 18 = .ok (.ireturn, 1) := by decide +kernel
theorem dX5_greedily_19 : decode cX5_greedily 19 = .ok (.aload_n 0, 1) := by decide +kernel
theorem dX5_greedily_20 : decode cX5_greedily 20 = .ok (.getfield 25, 3) := by decide +kernel
theorem dX5_greedily_23 : decode cX5_greedily 23 = .ok (.aload_n 0, 1) := by decide +kernel
theorem dX5_greedily_24 : decode cX5_greedily 24 = .ok (.getfield 18, 3) := by decide +kernel
theorem dX5_greedily_27 : decode cX5_greedily 27 = .ok (.invokevirtual 166, 3) := by decide +kernel
theorem dX5_greedily_30 : decode cX5_greedily 30 = .ok (.iconst 0, 1) := by decide +kernel
theorem dX5_greedily_31 : decode cX5_greedily 31 = .ok (.istore_n 3, 1) := by decide +kernel
theorem dX5_greedily_32 : decode cX5_greedily 32 = .ok (.iconst 0, 1) := by decide +kernel
theorem dX5_greedily_33 : decode cX5_greedily 33 = .ok (.istore 4, 2) := by decide +kernel
theorem dX5_greedily_35 : decode cX5_greedily 35 = .ok (.aload_n 0, 1) := by decide +kernel
theorem dX5_greedily_36 : decode cX5_greedily 36 = .ok (.getfield 25, 3) := by decide +kernel
theorem dX5_greedily_39 : decode cX5_greedily 39 = .ok (.invokevirtual 146, 3) := by decide +kernel
theorem dX5_greedily_42 : decode cX5_greedily 42 = .ok (.istore 5, 2) := by decide +kernel
theorem dX5_greedily_44 : decode cX5_greedily 44 = .ok (.iload 4, 2) := by decide +kernel
theorem dX5_greedily_46 : decode cX5_greedily 46 = .ok (.iload_n 1, 1) := by decide +kernel
theorem dX5_greedily_47 : decode cX5_greedily 47 = .ok (.if_icmp .ge 43, 3) := by decide +kernel
theorem dX5_greedily_50 : decode cX5_greedily 50 = .ok (.iload 5, 2) := by decide +kernel
theorem dX5_greedily_52 : decode cX5_greedily 52 = .ok (.ifCond .lt 38, 3) := by decide +kernel
theorem dX5_greedily_55 : decode cX5_greedily 55 = .ok (.iload_n 3, 1) := by decide +kernel
theorem dX5_greedily_56 : decode cX5_greedily 56 = .ok (.aload_n 0, 1) := by decide +kernel
theorem dX5_greedily_57 : decode cX5_greedily 57 = .ok (.getfield 25, 3) := by decide +kernel
theorem dX5_greedily_60 : decode cX5_greedily 60 = .ok (.iload 5, 2) := by decide +kernel
theorem dX5_greedily_62 : decode cX5_greedily 62 = .ok (.bipush 10, 2) := by decide +kernel
theorem dX5_greedily_64 : decode cX5_greedily 64 = .ok (.idiv, 1) := by decide +kernel
theorem dX5_greedily_65 : decode cX5_greedily 65 = .ok (.iload 5, 2) := by decide +kernel
theorem dX5_greedily_67 : decode cX5_greedily 67 = .ok (.bipush 10, 2) := by decide +kernel
theorem dX5_greedily_69 : decode cX5_greedily 69 = .ok (.irem, 1) := by decide +kernel
theorem dX5_greedily_70 : decode cX5_greedily 70 = .ok (.invokevirtual 130, 3) := by decide +kernel
theorem dX5_greedily_73 : decode cX5_greedily 73 = .ok (.iadd, 1) := by decide +kernel
theorem dX5_greedily_74 : decode cX5_greedily 74 = .ok (.istore_n 3, 1) := by decide +kernel
theorem dX5_greedily_75 : decode cX5_greedily 75 = .ok (.iinc 4 1, 3) := by decide +kernel
theorem dX5_greedily_78 : decode cX5_greedily 78 = .ok (.aload_n 0, 1) := by decide +kernel
theorem dX5_greedily_79 : decode cX5_greedily 79 = .ok (.getfield 25, 3) := by decide +kernel
theorem dX5_greedily_82 : decode cX5_greedily 82 = .ok (.invokevirtual 146, 3) := by decide +kernel
theorem dX5_greedily_85 : decode cX5_greedily 85 = .ok (.istore 5, 2) := by decide +kernel
theorem dX5_greedily_87 : decode cX5_greedily 87 = .ok (.goto (-43), 3) := by decide +kernel
theorem dX5_greedily_90 : decode cX5_greedily 90 = .ok (.iload_n 2, 1) := by decide +kernel
theorem dX5_greedily_91 : decode cX5_greedily 91 = .ok (.ifCond .ne 7, 3) := by decide +kernel
theorem dX5_greedily_94 : decode cX5_greedily 94 = .ok (.iload_n 3, 1) := by decide +kernel
theorem dX5_greedily_95 : decode cX5_greedily 95 = .ok (.goto 5, 3) := by decide +kernel
theorem dX5_greedily_98 : decode cX5_greedily 98 = .ok (.iload 4, 2) := by decide +kernel
theorem dX5_greedily_100 : decode cX5_greedily 100 = .ok (.ireturn, 1) := by decide +kernel
theorem dX5_atAll_0 : decode cX5_atAll 0 = .ok (.iload_n 1, 1) := by decide +kernel
theorem dX5_atAll_1 : decode cX5_atAll 1 = .ok (.invokestatic 113, 3) := by decide +kernel
theorem dX5_atAll_4 : decode cX5_atAll 4 = .ok (.ifCond .ne 5, 3) := by decide +kernel
theorem dX5_atAll_7 : decode cX5_atAll 7 = .ok (.iconst (-1), 1) := by decide +kernel
theorem dX5_atAll_8 : decode cX5_atAll 8 = .ok (.ireturn, 1) := by decide +kernel
theorem dX5_atAll_9 : decode cX5_atAll 9 = .ok (.iload_n 1, 1) := by decide +kernel
theorem dX5_atAll_10 : decode cX5_atAll 10 = .ok (.ifCond .ne 10, 3) := by decide +kernel
theorem dX5_atAll_13 : decode cX5_atAll 13 = .ok (.aload_n 0, 1) := by decide +kernel
theorem dX5_atAll_14 : decode cX5_atAll 14 = .ok (.invokevirtual 169, 3) := by decide +kernel
theorem dX5_atAll_17 : decode cX5_atAll 17 = .ok (.goto 7, 3) := by decide +kernel
theorem dX5_atAll_20 : decode cX5_atAll 20 = .ok (.aload_n 0, 1) := by decide +kernel
theorem dX5_atAll_21 : decode cX5_atAll 21 = .ok (.invokevirtual 172, 3) := by decide +kernel
theorem dX5_atAll_24 : decode cX5_atAll 24 = .ok (.ireturn, 1) := by decide +kernel
theorem dX5_stuck_0 : decode cX5_stuck 0 = .ok (.aload_n 0, 1) := by decide +kernel
theorem dX5_stuck_1 : decode cX5_stuck 1 = .ok (.getfield 18, 3) := by decide +kernel
theorem dX5_stuck_4 : decode cX5_stuck 4 = .ok (.getfield 120, 3) := by decide +kernel
theorem dX5_stuck_7 : decode cX5_stuck 7 = .ok (.ifCond .le 17, 3) := by decide +kernel
theorem dX5_stuck_10 : decode cX5_stuck 10 = .ok (.aload_n 0, 1) := by decide +kernel
theorem dX5_stuck_11 : decode cX5_stuck 11 = .ok (.getfield 18, 3) := by decide +kernel
theorem dX5_stuck_14 : decode cX5_stuck 14 = .ok (.invokevirtual 175, 3) := by decide +kernel
theorem dX5_stuck_17 : decode cX5_stuck 17 = .ok (.ifCond .le 7, 3) := by decide +kernel
theorem dX5_stuck_20 : decode cX5_stuck 20 = .ok (.iconst 1, 1) := by decide +kernel
theorem dX5_stuck_21 : decode cX5_stuck 21 = .ok (.goto 4, 3) := by decide +kernel
theorem dX5_stuck_24 : decode cX5_stuck 24 = .ok (.iconst 0, 1) := by decide +kernel
theorem dX5_stuck_25 : decode cX5_stuck 25 = .ok (.istore_n 1, 1) := by decide +kernel
theorem dX5_stuck_26 : decode cX5_stuck 26 = .ok (.iload_n 1, 1) := by decide +kernel
theorem dX5_stuck_27 : decode cX5_stuck 27 = .ok (.ifCond .eq 17, 3) := by decide +kernel
theorem dX5_stuck_30 : decode cX5_stuck 30 = .ok (.aload_n 0, 1) := by decide +kernel
theorem dX5_stuck_31 : decode cX5_stuck 31 = .ok (.getfield 18, 3) := by decide +kernel
theorem dX5_stuck_34 : decode cX5_stuck 34 = .ok (.invokevirtual 146, 3) := by decide +kernel
theorem dX5_stuck_37 : decode cX5_stuck 37 = .ok (.ifCond .ge 7, 3) := by decide +kernel
theorem dX5_stuck_40 : decode cX5_stuck 40 = .ok (.iconst 1, 1) := by decide +kernel
theorem dX5_stuck_41 : decode cX5_stuck 41 = .ok (.goto 4, 3) := by decide +kernel
theorem dX5_stuck_44 : decode cX5_stuck 44 = .ok (.iconst 0, 1) := by decide +kernel
theorem dX5_stuck_45 : decode cX5_stuck 45 = .ok (.ireturn, 1) := by decide +kernel
theorem dX5_bring_0 : decode cX5_bring 0 = .ok (.iload_n 1, 1) := by decide +kernel
theorem dX5_bring_1 : decode cX5_bring 1 = .ok (.invokestatic 178, 3) := by decide +kernel
theorem dX5_bring_4 : decode cX5_bring 4 = .ok (.ifCond .ne 5, 3) := by decide +kernel
theorem dX5_bring_7 : decode cX5_bring 7 = .ok (.iconst (-1), 1) := by decide +kernel
theorem dX5_bring_8 : decode cX5_bring 8 = .ok (.ireturn, 1) := by decide +kernel
theorem dX5_bring_9 : decode cX5_bring 9 = .ok (.aload_n 0, 1) := by decide +kernel
theorem dX5_bring_10 : decode cX5_bring 10 = .ok (.getfield 18, 3) := by decide +kernel
theorem dX5_bring_13 : decode cX5_bring 13 = .ok (.invokevirtual 146, 3) := by decide +kernel
theorem dX5_bring_16 : decode cX5_bring 16 = .ok (.istore_n 2, 1) := by decide +kernel
theorem dX5_bring_17 : decode cX5_bring 17 = .ok (.iload_n 2, 1) := by decide +kernel
theorem dX5_bring_18 : decode cX5_bring 18 = .ok (.ifCond .ge 7, 3) := by decide +kernel
theorem dX5_bring_21 : decode cX5_bring 21 = .ok (.iconst 0, 1) := by decide +kernel
theorem dX5_bring_22 : decode cX5_bring 22 = .ok (.goto 18, 3) := by decide +kernel
theorem dX5_bring_25 : decode cX5_bring 25 = .ok (.aload_n 0, 1) := by decide +kernel
theorem dX5_bring_26 : decode cX5_bring 26 = .ok (.getfield 18, 3) := by decide +kernel
theorem dX5_bring_29 : decode cX5_bring 29 = .ok (.iload_n 2, 1) := by decide +kernel
theorem dX5_bring_30 : decode cX5_bring 30 = .ok (.bipush 10, 2) := by decide +kernel
theorem dX5_bring_32 : decode cX5_bring 32 = .ok (.idiv, 1) := by decide +kernel
theorem dX5_bring_33 : decode cX5_bring 33 = .ok (.iload_n 2, 1) := by decide +kernel
theorem dX5_bring_34 : decode cX5_bring 34 = .ok (.bipush 10, 2) := by decide +kernel
theorem dX5_bring_36 : decode cX5_bring 36 = .ok (.irem, 1) := by decide +kernel
theorem dX5_bring_37 : decode cX5_bring 37 = .ok (.invokevirtual 137, 3) := by decide +kernel
theorem dX5_bring_40 : decode cX5_bring 40 = .ok (.istore_n 3, 1) := by decide +kernel
theorem dX5_bring_41 : decode cX5_bring 41 = .ok (.bipush (-4), 2) := by decide +kernel
theorem dX5_bring_43 : decode cX5_bring 43 = .ok (.istore 4, 2) := by decide +kernel
theorem dX5_bring_45 : decode cX5_bring 45 = .ok (.iconst 0, 1) := by decide +kernel
theorem dX5_bring_46 : decode cX5_bring 46 = .ok (.istore 5, 2) := by decide +kernel
theorem dX5_bring_48 : decode cX5_bring 48 = .ok (.iload 5, 2) := by decide +kernel
theorem dX5_bring_50 : decode cX5_bring 50 = .ok (.getstatic 181, 3) := by decide +kernel
theorem dX5_bring_53 : decode cX5_bring 53 = .ok (.arraylength, 1) := by decide +kernel
theorem dX5_bring_54 : decode cX5_bring 54 = .ok (.if_icmp .ge 35, 3) := by decide +kernel
theorem dX5_bring_57 : decode cX5_bring 57 = .ok (.aload_n 0, 1) := by decide +kernel
theorem dX5_bring_58 : decode cX5_bring 58 = .ok (.getstatic 181, 3) := by decide +kernel
theorem dX5_bring_61 : decode cX5_bring 61 = .ok (.iload 5, 2) := by decide +kernel
theorem dX5_bring_63 : decode cX5_bring 63 = .ok (.aaload, 1) := by decide +kernel
theorem dX5_bring_64 : decode cX5_bring 64 = .ok (.iload_n 1, 1) := by decide +kernel
theorem dX5_bring_65 : decode cX5_bring 65 = .ok (.invokevirtual 185, 3) := by decide +kernel
theorem dX5_bring_68 : decode cX5_bring 68 = .ok (.istore 6, 2) := by decide +kernel
theorem dX5_bring_70 : decode cX5_bring 70 = .ok (.iload 6, 2) := by decide +kernel
theorem dX5_bring_72 : decode cX5_bring 72 = .ok (.iload_n 3, 1) := by decide +kernel
theorem dX5_bring_73 : decode cX5_bring 73 = .ok (.if_icmp .le 10, 3) := by decide +kernel
theorem dX5_bring_76 : decode cX5_bring 76 = .ok (.iload 6, 2) := by decide +kernel
theorem dX5_bring_78 : decode cX5_bring 78 = .ok (.istore_n 3, 1) := by decide +kernel
theorem dX5_bring_79 : decode cX5_bring 79 = .ok (.iload 5, 2) := by decide +kernel
theorem dX5_bring_81 : decode cX5_bring 81 = .ok (.istore 4, 2) := by decide +kernel
theorem dX5_bring_83 : decode cX5_bring 83 = .ok (.iinc 5 1, 3) := by decide +kernel
theorem dX5_bring_86 : decode cX5_bring 86 = .ok (.goto (-38), 3) := by decide +kernel
theorem dX5_bring_89 : decode cX5_bring 89 = .ok (.iload 4, 2) := by decide +kernel
theorem dX5_bring_91 : decode cX5_bring 91 = .ok (.ireturn, 1) := by decide +kernel
theorem dX5_feeds_0 : decode cX5_feeds 0 = .ok (.aload_n 0, 1) := by decide +kernel
theorem dX5_feeds_1 : decode cX5_feeds 1 = .ok (.getfield 18, 3) := by decide +kernel
theorem dX5_feeds_4 : decode cX5_feeds 4 = .ok (.iload_n 1, 1) := by decide +kernel
theorem dX5_feeds_5 : decode cX5_feeds 5 = .ok (.invokevirtual 51, 3) := by decide +kernel
theorem dX5_feeds_8 : decode cX5_feeds 8 = .ok (.ifCond .ne 5, 3) := by decide +kernel
theorem dX5_feeds_11 : decode cX5_feeds 11 = .ok (.iconst (-1), 1) := by decide +kernel
theorem dX5_feeds_12 : decode cX5_feeds 12 = .ok (.ireturn, 1) := by decide +kernel
theorem dX5_feeds_13 : decode cX5_feeds 13 = .ok (.aload_n 0, 1) := by decide +kernel
theorem dX5_feeds_14 : decode cX5_feeds 14 = .ok (.getfield 18, 3) := by decide +kernel
theorem dX5_feeds_17 : decode cX5_feeds 17 = .ok (.getfield 55, 3) := by decide +kernel
theorem dX5_feeds_20 : decode cX5_feeds 20 = .ok (.iload_n 1, 1) := by decide +kernel
theorem dX5_feeds_21 : decode cX5_feeds 21 = .ok (.aaload, 1) := by decide +kernel
theorem dX5_feeds_22 : decode cX5_feeds 22 = .ok (.astore_n 2, 1) := by decide +kernel
theorem dX5_feeds_23 : decode cX5_feeds 23 = .ok (.aload_n 2, 1) := by decide +kernel
theorem dX5_feeds_24 : decode cX5_feeds 24 = .ok (.getfield 86, 3) := by decide +kernel
theorem dX5_feeds_27 : decode cX5_feeds 27 = .ok (.ifCond .le 22, 3) := by decide +kernel
theorem dX5_feeds_30 : decode cX5_feeds 30 = .ok (.aload_n 2, 1) := by decide +kernel
theorem dX5_feeds_31 : decode cX5_feeds 31 = .ok (.getfield 74, 3) := by decide +kernel
theorem dX5_feeds_34 : decode cX5_feeds 34 = .ok (.aload_n 2, 1) := by decide +kernel
theorem dX5_feeds_35 : decode cX5_feeds 35 = .ok (.getfield 86, 3) := by decide +kernel
theorem dX5_feeds_38 : decode cX5_feeds 38 = .ok (.iadd, 1) := by decide +kernel
theorem dX5_feeds_39 : decode cX5_feeds 39 = .ok (.iconst 1, 1) := by decide +kernel
theorem dX5_feeds_40 : decode cX5_feeds 40 = .ok (.isub, 1) := by decide +kernel
theorem dX5_feeds_41 : decode cX5_feeds 41 = .ok (.aload_n 2, 1) := by decide +kernel
theorem dX5_feeds_42 : decode cX5_feeds 42 = .ok (.getfield 86, 3) := by decide +kernel
theorem dX5_feeds_45 : decode cX5_feeds 45 = .ok (.idiv, 1) := by decide +kernel
theorem dX5_feeds_46 : decode cX5_feeds 46 = .ok (.goto 4, 3) := by decide +kernel
theorem dX5_feeds_49 : decode cX5_feeds 49 = .ok (.iconst 0, 1) := by decide +kernel
theorem dX5_feeds_50 : decode cX5_feeds 50 = .ok (.ireturn, 1) := by decide +kernel
theorem dX5_prices_0 : decode cX5_prices 0 = .ok (.iload_n 1, 1) := by decide +kernel
theorem dX5_prices_1 : decode cX5_prices 1 = .ok (.invokestatic 189, 3) := by decide +kernel
theorem dX5_prices_4 : decode cX5_prices 4 = .ok (.ifCond .eq 10, 3) := by decide +kernel
theorem dX5_prices_7 : decode cX5_prices 7 = .ok (.iload_n 2, 1) := by decide +kernel
theorem dX5_prices_8 : decode cX5_prices 8 = .ok (.invokestatic 113, 3) := by decide +kernel
theorem dX5_prices_11 : decode cX5_prices 11 = .ok (.ifCond .ne 5, 3) := by decide +kernel
theorem dX5_prices_14 : decode cX5_prices 14 = .ok (.iconst (-1), 1) := by decide +kernel
theorem dX5_prices_15 : decode cX5_prices 15 = .ok (.ireturn, 1) := by decide +kernel
theorem dX5_prices_16 : decode cX5_prices 16 = .ok (.iload_n 2, 1) := by decide +kernel
theorem dX5_prices_17 : decode cX5_prices 17 = .ok (.ifCond .ne 11, 3) := by decide +kernel
theorem dX5_prices_20 : decode cX5_prices 20 = .ok (.aload_n 0, 1) := by decide +kernel
theorem dX5_prices_21 : decode cX5_prices 21 = .ok (.iload_n 1, 1) := by decide +kernel
theorem dX5_prices_22 : decode cX5_prices 22 = .ok (.invokevirtual 192, 3) := by decide +kernel
theorem dX5_prices_25 : decode cX5_prices 25 = .ok (.goto 8, 3) := by decide +kernel
theorem dX5_prices_28 : decode cX5_prices 28 = .ok (.aload_n 0, 1) := by decide +kernel
theorem dX5_prices_29 : decode cX5_prices 29 = .ok (.iload_n 1, 1) := by decide +kernel
theorem dX5_prices_30 : decode cX5_prices 30 = .ok (.invokevirtual 195, 3) := by decide +kernel
theorem dX5_prices_33 : decode cX5_prices 33 = .ok (.ireturn, 1) := by decide +kernel
theorem dX5_clears_0 : decode cX5_clears 0 = .ok (.iload_n 1, 1) := by decide +kernel
theorem dX5_clears_1 : decode cX5_clears 1 = .ok (.invokestatic 189, 3) := by decide +kernel
theorem dX5_clears_4 : decode cX5_clears 4 = .ok (.ifCond .ne 5, 3) := by decide +kernel
theorem dX5_clears_7 : decode cX5_clears 7 = .ok (.iconst (-1), 1) := by decide +kernel
theorem dX5_clears_8 : decode cX5_clears 8 = .ok (.ireturn, 1) := by decide +kernel
theorem dX5_clears_9 : decode cX5_clears 9 = .ok (.aload_n 0, 1) := by decide +kernel
theorem dX5_clears_10 : decode cX5_clears 10 = .ok (.getfield 18, 3) := by decide +kernel
theorem dX5_clears_13 : decode cX5_clears 13 = .ok (.getfield 120, 3) := by decide +kernel
theorem dX5_clears_16 : decode cX5_clears 16 = .ok (.aload_n 0, 1) := by decide +kernel
theorem dX5_clears_17 : decode cX5_clears 17 = .ok (.iload_n 1, 1) := by decide +kernel
theorem dX5_clears_18 : decode cX5_clears 18 = .ok (.invokevirtual 195, 3) := by decide +kernel
theorem dX5_clears_21 : decode cX5_clears 21 = .ok (.invokestatic 198, 3) := by decide +kernel
theorem dX5_clears_24 : decode cX5_clears 24 = .ok (.istore_n 2, 1) := by decide +kernel
theorem dX5_clears_25 : decode cX5_clears 25 = .ok (.iconst 0, 1) := by decide +kernel
theorem dX5_clears_26 : decode cX5_clears 26 = .ok (.istore_n 3, 1) := by decide +kernel
theorem dX5_clears_27 : decode cX5_clears 27 = .ok (.iload_n 3, 1) := by decide +kernel
theorem dX5_clears_28 : decode cX5_clears 28 = .ok (.bipush 31, 2) := by decide +kernel
theorem dX5_clears_30 : decode cX5_clears 30 = .ok (.if_icmp .gt 20, 3) := by decide +kernel
theorem dX5_clears_33 : decode cX5_clears 33 = .ok (.aload_n 0, 1) := by decide +kernel
theorem dX5_clears_34 : decode cX5_clears 34 = .ok (.iload_n 3, 1) := by decide +kernel
theorem dX5_clears_35 : decode cX5_clears 35 = .ok (.invokevirtual 192, 3) := by decide +kernel
theorem dX5_clears_38 : decode cX5_clears 38 = .ok (.iload_n 2, 1) := by decide +kernel
theorem dX5_clears_39 : decode cX5_clears 39 = .ok (.if_icmp .gt 5, 3) := by decide +kernel
theorem dX5_clears_42 : decode cX5_clears 42 = .ok (.iload_n 3, 1) := by decide +kernel
theorem dX5_clears_43 : decode cX5_clears 43 = .ok (.ireturn, 1) := by decide +kernel
theorem dX5_clears_44 : decode cX5_clears 44 = .ok (.iinc 3 1, 3) := by decide +kernel
theorem dX5_clears_47 : decode cX5_clears 47 = .ok (.goto (-20), 3) := by decide +kernel
theorem dX5_clears_50 : decode cX5_clears 50 = .ok (.bipush (-4), 2) := by decide +kernel
theorem dX5_clears_52 : decode cX5_clears 52 = .ok (.ireturn, 1) := by decide +kernel
theorem dX5_swap_0 : decode cX5_swap 0 = .ok (.aload_n 0, 1) := by decide +kernel
theorem dX5_swap_1 : decode cX5_swap 1 = .ok (.iload_n 1, 1) := by decide +kernel
theorem dX5_swap_2 : decode cX5_swap 2 = .ok (.invokevirtual 36, 3) := by decide +kernel
theorem dX5_swap_5 : decode cX5_swap 5 = .ok (.istore_n 2, 1) := by decide +kernel
theorem dX5_swap_6 : decode cX5_swap 6 = .ok (.iload_n 2, 1) := by decide +kernel
theorem dX5_swap_7 : decode cX5_swap 7 = .ok (.ifCond .eq 5, 3) := by decide +kernel
theorem dX5_swap_10 : decode cX5_swap 10 = .ok (.iload_n 2, 1) := by decide +kernel
theorem dX5_swap_11 : decode cX5_swap 11 = .ok (.ireturn, 1) := by decide +kernel
theorem dX5_swap_12 : decode cX5_swap 12 = .ok (.aload_n 0, 1) := by decide +kernel
theorem dX5_swap_13 : decode cX5_swap 13 = .ok (.getfield 11, 3) := by decide +kernel
theorem dX5_swap_16 : decode cX5_swap 16 = .ok (.iload_n 1, 1) := by decide +kernel
theorem dX5_swap_17 : decode cX5_swap 17 = .ok (.aaload, 1) := by decide +kernel
theorem dX5_swap_18 : decode cX5_swap 18 = .ok (.astore_n 3, 1) := by decide +kernel
theorem dX5_swap_19 : decode cX5_swap 19 = .ok (.aload_n 0, 1) := by decide +kernel
theorem dX5_swap_20 : decode cX5_swap 20 = .ok (.aload_n 3, 1) := by decide +kernel
theorem dX5_swap_21 : decode cX5_swap 21 = .ok (.invokevirtual 203, 3) := by decide +kernel
theorem dX5_swap_24 : decode cX5_swap 24 = .ok (.ifCond .ne 6, 3) := by decide +kernel
theorem dX5_swap_27 : decode cX5_swap 27 = .ok (.bipush (-13), 2) := by decide +kernel
theorem dX5_swap_29 : decode cX5_swap 29 = .ok (.ireturn, 1) := by decide +kernel
theorem dX5_swap_30 : decode cX5_swap 30 = .ok (.iconst 0, 1) := by decide +kernel
theorem dX5_swap_31 : decode cX5_swap 31 = .ok (.istore 4, 2) := by decide +kernel
theorem dX5_swap_33 : decode cX5_swap 33 = .ok (.bipush (-4), 2) := by decide +kernel
theorem dX5_swap_35 : decode cX5_swap 35 = .ok (.istore 5, 2) := by decide +kernel
theorem dX5_swap_37 : decode cX5_swap 37 = .ok (.iconst 0, 1) := by decide +kernel
theorem dX5_swap_38 : decode cX5_swap 38 = .ok (.istore 6, 2) := by decide +kernel
theorem dX5_swap_40 : decode cX5_swap 40 = .ok (.iload 6, 2) := by decide +kernel
theorem dX5_swap_42 : decode cX5_swap 42 = .ok (.aload_n 3, 1) := by decide +kernel
theorem dX5_swap_43 : decode cX5_swap 43 = .ok (.getfield 207, 3) := by decide +kernel
theorem dX5_swap_46 : decode cX5_swap 46 = .ok (.iconst 2, 1) := by decide +kernel
theorem dX5_swap_47 : decode cX5_swap 47 = .ok (.idiv, 1) := by decide +kernel
theorem dX5_swap_48 : decode cX5_swap 48 = .ok (.if_icmp .ge 64, 3) := by decide +kernel
theorem dX5_swap_51 : decode cX5_swap 51 = .ok (.iload 6, 2) := by decide +kernel
theorem dX5_swap_53 : decode cX5_swap 53 = .ok (.iconst 1, 1) := by decide +kernel
theorem dX5_swap_54 : decode cX5_swap 54 = .ok (.iadd, 1) := by decide +kernel
theorem dX5_swap_55 : decode cX5_swap 55 = .ok (.istore 7, 2) := by decide +kernel
theorem dX5_swap_57 : decode cX5_swap 57 = .ok (.iload 7, 2) := by decide +kernel
theorem dX5_swap_59 : decode cX5_swap 59 = .ok (.aload_n 3, 1) := by decide +kernel
theorem dX5_swap_60 : decode cX5_swap 60 = .ok (.getfield 207, 3) := by decide +kernel
theorem dX5_swap_63 : decode cX5_swap 63 = .ok (.iconst 2, 1) := by decide +kernel
theorem dX5_swap_64 : decode cX5_swap 64 = .ok (.idiv, 1) := by decide +kernel
theorem dX5_swap_65 : decode cX5_swap 65 = .ok (.if_icmp .ge 41, 3) := by decide +kernel
theorem dX5_swap_68 : decode cX5_swap 68 = .ok (.aload_n 0, 1) := by decide +kernel
theorem dX5_swap_69 : decode cX5_swap 69 = .ok (.aload_n 3, 1) := by decide +kernel
theorem dX5_swap_70 : decode cX5_swap 70 = .ok (.iload 6, 2) := by decide +kernel
theorem dX5_swap_72 : decode cX5_swap 72 = .ok (.iload 7, 2) := by decide +kernel
theorem dX5_swap_74 : decode cX5_swap 74 = .ok (.invokevirtual 210, 3) := by decide +kernel
theorem dX5_swap_77 : decode cX5_swap 77 = .ok (.istore 8, 2) := by decide +kernel
theorem dX5_swap_79 : decode cX5_swap 79 = .ok (.iload 8, 2) := by decide +kernel
theorem dX5_swap_81 : decode cX5_swap 81 = .ok (.iload 4, 2) := by decide +kernel
theorem dX5_swap_83 : decode cX5_swap 83 = .ok (.if_icmp .le 17, 3) := by decide +kernel
theorem dX5_swap_86 : decode cX5_swap 86 = .ok (.iload 8, 2) := by decide +kernel
theorem dX5_swap_88 : decode cX5_swap 88 = .ok (.istore 4, 2) := by decide +kernel
theorem dX5_swap_90 : decode cX5_swap 90 = .ok (.bipush 10, 2) := by decide +kernel
theorem dX5_swap_92 : decode cX5_swap 92 = .ok (.iload 6, 2) := by decide +kernel
theorem dX5_swap_94 : decode cX5_swap 94 = .ok (.imul, 1) := by decide +kernel
theorem dX5_swap_95 : decode cX5_swap 95 = .ok (.iload 7, 2) := by decide +kernel
theorem dX5_swap_97 : decode cX5_swap 97 = .ok (.iadd, 1) := by decide +kernel
theorem dX5_swap_98 : decode cX5_swap 98 = .ok (.istore 5, 2) := by decide +kernel
theorem dX5_swap_100 : decode cX5_swap 100 = .ok (.iinc 7 1, 3) := by decide +kernel
theorem dX5_swap_103 : decode cX5_swap 103 = .ok (.goto (-46), 3) := by decide +kernel
theorem dX5_swap_106 : decode cX5_swap 106 = .ok (.iinc 6 1, 3) := by decide +kernel
theorem dX5_swap_109 : decode cX5_swap 109 = .ok (.goto (-69), 3) := by decide +kernel
theorem dX5_swap_112 : decode cX5_swap 112 = .ok (.iload 5, 2) := by decide +kernel
theorem dX5_swap_114 : decode cX5_swap 114 = .ok (.ireturn, 1) := by decide +kernel
theorem dX5_throat_0 : decode cX5_throat 0 = .ok (.iload_n 1, 1) := by decide +kernel
theorem dX5_throat_1 : decode cX5_throat 1 = .ok (.invokestatic 95, 3) := by decide +kernel
theorem dX5_throat_4 : decode cX5_throat 4 = .ok (.ifCond .eq 25, 3) := by decide +kernel
theorem dX5_throat_7 : decode cX5_throat 7 = .ok (.iload_n 2, 1) := by decide +kernel
theorem dX5_throat_8 : decode cX5_throat 8 = .ok (.invokestatic 98, 3) := by decide +kernel
theorem dX5_throat_11 : decode cX5_throat 11 = .ok (.ifCond .eq 18, 3) := by decide +kernel
theorem dX5_throat_14 : decode cX5_throat 14 = .ok (.iload_n 3, 1) := by decide +kernel
theorem dX5_throat_15 : decode cX5_throat 15 = .ok (.invokestatic 178, 3) := by decide +kernel
theorem dX5_throat_18 : decode cX5_throat 18 = .ok (.ifCond .eq 11, 3) := by decide +kernel
theorem dX5_throat_21 : decode cX5_throat 21 = .ok (.iload 4, 2) := by decide +kernel
theorem dX5_throat_23 : decode cX5_throat 23 = .ok (.invokestatic 113, 3) := by decide +kernel
theorem dX5_throat_26 : decode cX5_throat 26 = .ok (.ifCond .ne 5, 3) := by decide +kernel
theorem dX5_throat_29 : decode cX5_throat 29 = .ok (.iconst (-1), 1) := by decide +kernel
theorem dX5_throat_30 : decode cX5_throat 30 = .ok (.ireturn, 1) := by decide +kernel
theorem dX5_throat_31 : decode cX5_throat 31 = .ok (.aload_n 0, 1) := by decide +kernel
theorem dX5_throat_32 : decode cX5_throat 32 = .ok (.iload_n 1, 1) := by decide +kernel
theorem dX5_throat_33 : decode cX5_throat 33 = .ok (.invokevirtual 36, 3) := by decide +kernel
theorem dX5_throat_36 : decode cX5_throat 36 = .ok (.istore 5, 2) := by decide +kernel
theorem dX5_throat_38 : decode cX5_throat 38 = .ok (.iload 5, 2) := by decide +kernel
theorem dX5_throat_40 : decode cX5_throat 40 = .ok (.ifCond .eq 6, 3) := by decide +kernel
theorem dX5_throat_43 : decode cX5_throat 43 = .ok (.iload 5, 2) := by decide +kernel
theorem dX5_throat_45 : decode cX5_throat 45 = .ok (.ireturn, 1) := by decide +kernel
theorem dX5_throat_46 : decode cX5_throat 46 = .ok (.iconst 0, 1) := by decide +kernel
theorem dX5_throat_47 : decode cX5_throat 47 = .ok (.istore 6, 2) := by decide +kernel
theorem dX5_throat_49 : decode cX5_throat 49 = .ok (.iconst 0, 1) := by decide +kernel
theorem dX5_throat_50 : decode cX5_throat 50 = .ok (.istore 7, 2) := by decide +kernel
theorem dX5_throat_52 : decode cX5_throat 52 = .ok (.iload 7, 2) := by decide +kernel
theorem dX5_throat_54 : decode cX5_throat 54 = .ok (.getstatic 181, 3) := by decide +kernel
theorem dX5_throat_57 : decode cX5_throat 57 = .ok (.arraylength, 1) := by decide +kernel
theorem dX5_throat_58 : decode cX5_throat 58 = .ok (.if_icmp .ge 41, 3) := by decide +kernel
theorem dX5_throat_61 : decode cX5_throat 61 = .ok (.aload_n 0, 1) := by decide +kernel
theorem dX5_throat_62 : decode cX5_throat 62 = .ok (.getfield 11, 3) := by decide +kernel
theorem dX5_throat_65 : decode cX5_throat 65 = .ok (.iload_n 1, 1) := by decide +kernel
theorem dX5_throat_66 : decode cX5_throat 66 = .ok (.aaload, 1) := by decide +kernel
theorem dX5_throat_67 : decode cX5_throat 67 = .ok (.iload_n 2, 1) := by decide +kernel
theorem dX5_throat_68 : decode cX5_throat 68 = .ok (.getstatic 181, 3) := by decide +kernel
theorem dX5_throat_71 : decode cX5_throat 71 = .ok (.iload 7, 2) := by decide +kernel
theorem dX5_throat_73 : decode cX5_throat 73 = .ok (.aaload, 1) := by decide +kernel
theorem dX5_throat_74 : decode cX5_throat 74 = .ok (.iload_n 3, 1) := by decide +kernel
theorem dX5_throat_75 : decode cX5_throat 75 = .ok (.invokevirtual 214, 3) := by decide +kernel
theorem dX5_throat_78 : decode cX5_throat 78 = .ok (.invokestatic 217, 3) := by decide +kernel
theorem dX5_throat_81 : decode cX5_throat 81 = .ok (.ifCond .eq 12, 3) := by decide +kernel
theorem dX5_throat_84 : decode cX5_throat 84 = .ok (.iload 6, 2) := by decide +kernel
theorem dX5_throat_86 : decode cX5_throat 86 = .ok (.iconst 1, 1) := by decide +kernel
theorem dX5_throat_87 : decode cX5_throat 87 = .ok (.iload 7, 2) := by decide +kernel
theorem dX5_throat_89 : decode cX5_throat 89 = .ok (.ishl, 1) := by decide +kernel
theorem dX5_throat_90 : decode cX5_throat 90 = .ok (.ior, 1) := by decide +kernel
theorem dX5_throat_91 : decode cX5_throat 91 = .ok (.istore 6, 2) := by decide +kernel
theorem dX5_throat_93 : decode cX5_throat 93 = .ok (.iinc 7 1, 3) := by decide +kernel
theorem dX5_throat_96 : decode cX5_throat 96 = .ok (.goto (-44), 3) := by decide +kernel
theorem dX5_throat_99 : decode cX5_throat 99 = .ok (.iload 4, 2) := by decide +kernel
theorem dX5_throat_101 : decode cX5_throat 101 = .ok (.ifCond .ne 8, 3) := by decide +kernel
theorem dX5_throat_104 : decode cX5_throat 104 = .ok (.iload 6, 2) := by decide +kernel
theorem dX5_throat_106 : decode cX5_throat 106 = .ok (.goto 8, 3) := by decide +kernel
theorem dX5_throat_109 : decode cX5_throat 109 = .ok (.iload 6, 2) := by decide +kernel
theorem dX5_throat_111 : decode cX5_throat 111 = .ok (.invokestatic 221, 3) := by decide +kernel
theorem dX5_throat_114 : decode cX5_throat 114 = .ok (.ireturn, 1) := by decide +kernel
theorem dX5_lastOnes_0 : decode cX5_lastOnes 0 = .ok (.iload_n 1, 1) := by decide +kernel
theorem dX5_lastOnes_1 : decode cX5_lastOnes 1 = .ok (.iconst 0, 1) := by decide +kernel
theorem dX5_lastOnes_2 : decode cX5_lastOnes 2 = .ok (.bipush 99, 2) := by decide +kernel
theorem dX5_lastOnes_4 : decode cX5_lastOnes 4 = .ok (.invokestatic 116, 3) := by decide +kernel
theorem dX5_lastOnes_7 : decode cX5_lastOnes 7 = .ok (.ifCond .eq 20, 3) := by decide +kernel
theorem dX5_lastOnes_10 : decode cX5_lastOnes 10 = .ok (.iload_n 2, 1) := by decide +kernel
theorem dX5_lastOnes_11 : decode cX5_lastOnes 11 = .ok (.iconst 1, 1) := by decide +kernel
theorem dX5_lastOnes_12 : decode cX5_lastOnes 12 = .ok (.bipush 9, 2) := by decide +kernel
theorem dX5_lastOnes_14 : decode cX5_lastOnes 14 = .ok (.invokestatic 116, 3) := by decide +kernel
theorem dX5_lastOnes_17 : decode cX5_lastOnes 17 = .ok (.ifCond .eq 10, 3) := by decide +kernel
theorem dX5_lastOnes_20 : decode cX5_lastOnes 20 = .ok (.iload_n 3, 1) := by decide +kernel
theorem dX5_lastOnes_21 : decode cX5_lastOnes 21 = .ok (.invokestatic 113, 3) := by decide +kernel
theorem dX5_lastOnes_24 : decode cX5_lastOnes 24 = .ok (.ifCond .ne 5, 3) := by decide +kernel
theorem dX5_lastOnes_27 : decode cX5_lastOnes 27 = .ok (.iconst (-1), 1) := by decide +kernel
theorem dX5_lastOnes_28 : decode cX5_lastOnes 28 = .ok (.ireturn, 1) := by decide +kernel
theorem dX5_lastOnes_29 : decode cX5_lastOnes 29 = .ok (.iload_n 1, 1) := by decide +kernel
theorem dX5_lastOnes_30 : decode cX5_lastOnes 30 = .ok (.iload_n 2, 1) := by decide +kernel
theorem dX5_lastOnes_31 : decode cX5_lastOnes 31 = .ok (.iconst 1, 1) := by decide +kernel
theorem dX5_lastOnes_32 : decode cX5_lastOnes 32 = .ok (.iadd, 1) := by decide +kernel
theorem dX5_lastOnes_33 : decode cX5_lastOnes 33 = .ok (.irem, 1) := by decide +kernel
theorem dX5_lastOnes_34 : decode cX5_lastOnes 34 = .ok (.istore 4, 2) := by decide +kernel
theorem dX5_lastOnes_36 : decode cX5_lastOnes 36 = .ok (.iload_n 3, 1) := by decide +kernel
theorem dX5_lastOnes_37 : decode cX5_lastOnes 37 = .ok (.iconst 1, 1) := by decide +kernel
theorem dX5_lastOnes_38 : decode cX5_lastOnes 38 = .ok (.if_icmp .ne 8, 3) := by decide +kernel
theorem dX5_lastOnes_41 : decode cX5_lastOnes 41 = .ok (.iload 4, 2) := by decide +kernel
theorem dX5_lastOnes_43 : decode cX5_lastOnes 43 = .ok (.goto 9, 3) := by decide +kernel
theorem dX5_lastOnes_46 : decode cX5_lastOnes 46 = .ok (.iload 4, 2) := by decide +kernel
theorem dX5_lastOnes_48 : decode cX5_lastOnes 48 = .ok (.iconst 1, 1) := by decide +kernel
theorem dX5_lastOnes_49 : decode cX5_lastOnes 49 = .ok (.invokestatic 198, 3) := by decide +kernel
theorem dX5_lastOnes_52 : decode cX5_lastOnes 52 = .ok (.ireturn, 1) := by decide +kernel
theorem dX5_shares_0 : decode cX5_shares 0 = .ok (.iload_n 1, 1) := by decide +kernel
theorem dX5_shares_1 : decode cX5_shares 1 = .ok (.iconst (-1), 1) := by decide +kernel
theorem dX5_shares_2 : decode cX5_shares 2 = .ok (.if_icmp .lt 14, 3) := by decide +kernel
theorem dX5_shares_5 : decode cX5_shares 5 = .ok (.iload_n 1, 1) := by decide +kernel
theorem dX5_shares_6 : decode cX5_shares 6 = .ok (.aload_n 0, 1) := by decide +kernel
theorem dX5_shares_7 : decode cX5_shares 7 = .ok (.getfield 18, 3) := by decide +kernel
theorem dX5_shares_10 : decode cX5_shares 10 = .ok (.getfield 104, 3) := by decide +kernel
theorem dX5_shares_13 : decode cX5_shares 13 = .ok (.if_icmp .lt 5, 3) := by decide +kernel
theorem dX5_shares_16 : decode cX5_shares 16 = .ok (.iconst (-1), 1) := by decide +kernel
theorem dX5_shares_17 : decode cX5_shares 17 = .ok (.ireturn, 1) := by decide +kernel
theorem dX5_shares_18 : decode cX5_shares 18 = .ok (.iload_n 1, 1) := by decide +kernel
theorem dX5_shares_19 : decode cX5_shares 19 = .ok (.ifCond .lt 9, 3) := by decide +kernel
theorem dX5_shares_22 : decode cX5_shares 22 = .ok (.aload_n 0, 1) := by decide +kernel
theorem dX5_shares_23 : decode cX5_shares 23 = .ok (.iload_n 1, 1) := by decide +kernel
theorem dX5_shares_24 : decode cX5_shares 24 = .ok (.invokevirtual 226, 3) := by decide +kernel
theorem dX5_shares_27 : decode cX5_shares 27 = .ok (.ireturn, 1) := by decide +kernel
theorem dX5_shares_28 : decode cX5_shares 28 = .ok (.aload_n 0, 1) := by decide +kernel
theorem dX5_shares_29 : decode cX5_shares 29 = .ok (.getfield 18, 3) := by decide +kernel
theorem dX5_shares_32 : decode cX5_shares 32 = .ok (.getfield 120, 3) := by decide +kernel
theorem dX5_shares_35 : decode cX5_shares 35 = .ok (.istore_n 2, 1) := by decide +kernel
theorem dX5_shares_36 : decode cX5_shares 36 = .ok (.iconst 0, 1) := by decide +kernel
theorem dX5_shares_37 : decode cX5_shares 37 = .ok (.istore_n 3, 1) := by decide +kernel
theorem dX5_shares_38 : decode cX5_shares 38 = .ok (.iload_n 3, 1) := by decide +kernel
theorem dX5_shares_39 : decode cX5_shares 39 = .ok (.aload_n 0, 1) := by decide +kernel
theorem dX5_shares_40 : decode cX5_shares 40 = .ok (.getfield 18, 3) := by decide +kernel
theorem dX5_shares_43 : decode cX5_shares 43 = .ok (.getfield 104, 3) := by decide +kernel
theorem dX5_shares_46 : decode cX5_shares 46 = .ok (.if_icmp .ge 17, 3) := by decide +kernel
theorem dX5_shares_49 : decode cX5_shares 49 = .ok (.iload_n 2, 1) := by decide +kernel
theorem dX5_shares_50 : decode cX5_shares 50 = .ok (.aload_n 0, 1) := by decide +kernel
theorem dX5_shares_51 : decode cX5_shares 51 = .ok (.iload_n 3, 1) := by decide +kernel
theorem dX5_shares_52 : decode cX5_shares 52 = .ok (.invokevirtual 226, 3) := by decide +kernel
theorem dX5_shares_55 : decode cX5_shares 55 = .ok (.isub, 1) := by decide +kernel
theorem dX5_shares_56 : decode cX5_shares 56 = .ok (.istore_n 2, 1) := by decide +kernel
theorem dX5_shares_57 : decode cX5_shares 57 = .ok (.iinc 3 1, 3) := by decide +kernel
theorem dX5_shares_60 : decode cX5_shares 60 = .ok (.goto (-22), 3) := by decide +kernel
theorem dX5_shares_63 : decode cX5_shares 63 = .ok (.iload_n 2, 1) := by decide +kernel
theorem dX5_shares_64 : decode cX5_shares 64 = .ok (.ireturn, 1) := by decide +kernel
theorem dX5_crowd_0 : decode cX5_crowd 0 = .ok (.iload_n 1, 1) := by decide +kernel
theorem dX5_crowd_1 : decode cX5_crowd 1 = .ok (.iconst 0, 1) := by decide +kernel
theorem dX5_crowd_2 : decode cX5_crowd 2 = .ok (.bipush 8, 2) := by decide +kernel
theorem dX5_crowd_4 : decode cX5_crowd 4 = .ok (.invokestatic 116, 3) := by decide +kernel
theorem dX5_crowd_7 : decode cX5_crowd 7 = .ok (.ifCond .eq 26, 3) := by decide +kernel
theorem dX5_crowd_10 : decode cX5_crowd 10 = .ok (.iload_n 2, 1) := by decide +kernel
theorem dX5_crowd_11 : decode cX5_crowd 11 = .ok (.iconst 2, 1) := by decide +kernel
theorem dX5_crowd_12 : decode cX5_crowd 12 = .ok (.bipush 20, 2) := by decide +kernel
theorem dX5_crowd_14 : decode cX5_crowd 14 = .ok (.invokestatic 116, 3) := by decide +kernel
theorem dX5_crowd_17 : decode cX5_crowd 17 = .ok (.ifCond .eq 16, 3) := by decide +kernel
theorem dX5_crowd_20 : decode cX5_crowd 20 = .ok (.iload_n 3, 1) := by decide +kernel
theorem dX5_crowd_21 : decode cX5_crowd 21 = .ok (.iconst 0, 1) := by decide +kernel
theorem dX5_crowd_22 : decode cX5_crowd 22 = .ok (.iconst 4, 1) := by decide +kernel
theorem dX5_crowd_23 : decode cX5_crowd 23 = .ok (.invokestatic 116, 3) := by decide +kernel
theorem dX5_crowd_26 : decode cX5_crowd 26 = .ok (.ifCond .eq 7, 3) := by decide +kernel
theorem dX5_crowd_29 : decode cX5_crowd 29 = .ok (.iconst 1, 1) := by decide +kernel
theorem dX5_crowd_30 : decode cX5_crowd 30 = .ok (.goto 4, 3) := by decide +kernel
theorem dX5_crowd_33 : decode cX5_crowd 33 = .ok (.iconst 0, 1) := by decide +kernel
theorem dX5_crowd_34 : decode cX5_crowd 34 = .ok (.istore 5, 2) := by decide +kernel
theorem dX5_crowd_36 : decode cX5_crowd 36 = .ok (.iload 5, 2) := by decide +kernel
theorem dX5_crowd_38 : decode cX5_crowd 38 = .ok (.ifCond .eq 11, 3) := by decide +kernel
theorem dX5_crowd_41 : decode cX5_crowd 41 = .ok (.iload 4, 2) := by decide +kernel
theorem dX5_crowd_43 : decode cX5_crowd 43 = .ok (.invokestatic 113, 3) := by decide +kernel
theorem dX5_crowd_46 : decode cX5_crowd 46 = .ok (.ifCond .ne 7, 3) := by decide +kernel
theorem dX5_crowd_49 : decode cX5_crowd 49 = .ok (.ldc2_w 229, 3) := by decide +kernel
theorem dX5_crowd_52 : decode cX5_crowd 52 = .ok (.lreturn, 1) := by decide +kernel
theorem dX5_crowd_53 : decode cX5_crowd 53 = .ok (.lconst 0, 1) := by decide +kernel
theorem dX5_crowd_54 : decode cX5_crowd 54 = .ok (.lstore 6, 2) := by decide +kernel
theorem dX5_crowd_56 : decode cX5_crowd 56 = .ok (.iconst 2, 1) := by decide +kernel
theorem dX5_crowd_57 : decode cX5_crowd 57 = .ok (.iload_n 3, 1) := by decide +kernel
theorem dX5_crowd_58 : decode cX5_crowd 58 = .ok (.imul, 1) := by decide +kernel
theorem dX5_crowd_59 : decode cX5_crowd 59 = .ok (.istore 8, 2) := by decide +kernel
theorem dX5_crowd_61 : decode cX5_crowd 61 = .ok (.iload 8, 2) := by decide +kernel
theorem dX5_crowd_63 : decode cX5_crowd 63 = .ok (.iload_n 1, 1) := by decide +kernel
theorem dX5_crowd_64 : decode cX5_crowd 64 = .ok (.if_icmp .gt 31, 3) := by decide +kernel
theorem dX5_crowd_67 : decode cX5_crowd 67 = .ok (.lload 6, 2) := by decide +kernel
theorem dX5_crowd_69 : decode cX5_crowd 69 = .ok (.iload_n 1, 1) := by decide +kernel
theorem dX5_crowd_70 : decode cX5_crowd 70 = .ok (.iload 8, 2) := by decide +kernel
theorem dX5_crowd_72 : decode cX5_crowd 72 = .ok (.invokestatic 231, 3) := by decide +kernel
theorem dX5_crowd_75 : decode cX5_crowd 75 = .ok (.iload_n 2, 1) := by decide +kernel
theorem dX5_crowd_76 : decode cX5_crowd 76 = .ok (.iconst 1, 1) := by decide +kernel
theorem dX5_crowd_77 : decode cX5_crowd 77 = .ok (.isub, 1) := by decide +kernel
theorem dX5_crowd_78 : decode cX5_crowd 78 = .ok (.iload_n 1, 1) := by decide +kernel
theorem dX5_crowd_79 : decode cX5_crowd 79 = .ok (.iload 8, 2) := by decide +kernel
theorem dX5_crowd_81 : decode cX5_crowd 81 = .ok (.isub, 1) := by decide +kernel
theorem dX5_crowd_82 : decode cX5_crowd 82 = .ok (.invokestatic 235, 3) := by decide +kernel
theorem dX5_crowd_85 : decode cX5_crowd 85 = .ok (.lmul, 1) := by decide +kernel
theorem dX5_crowd_86 : decode cX5_crowd 86 = .ok (.ladd, 1) := by decide +kernel
theorem dX5_crowd_87 : decode cX5_crowd 87 = .ok (.lstore 6, 2) := by decide +kernel
theorem dX5_crowd_89 : decode cX5_crowd 89 = .ok (.iinc 8 1, 3) := by decide +kernel
theorem dX5_crowd_92 : decode cX5_crowd 92 = .ok (.goto (-31), 3) := by decide +kernel
theorem dX5_crowd_95 : decode cX5_crowd 95 = .ok (.lload 6, 2) := by decide +kernel
theorem dX5_crowd_97 : decode cX5_crowd 97 = .ok (.iload_n 2, 1) := by decide +kernel
theorem dX5_crowd_98 : decode cX5_crowd 98 = .ok (.iload_n 1, 1) := by decide +kernel
theorem dX5_crowd_99 : decode cX5_crowd 99 = .ok (.invokestatic 235, 3) := by decide +kernel
theorem dX5_crowd_102 : decode cX5_crowd 102 = .ok (.iload 4, 2) := by decide +kernel
theorem dX5_crowd_104 : decode cX5_crowd 104 = .ok (.invokestatic 238, 3) := by decide +kernel
theorem dX5_crowd_107 : decode cX5_crowd 107 = .ok (.lreturn, 1) := by decide +kernel
theorem dX5_mean_0 : decode cX5_mean 0 = .ok (.iload_n 1, 1) := by decide +kernel
theorem dX5_mean_1 : decode cX5_mean 1 = .ok (.invokestatic 113, 3) := by decide +kernel
theorem dX5_mean_4 : decode cX5_mean 4 = .ok (.ifCond .ne 7, 3) := by decide +kernel
theorem dX5_mean_7 : decode cX5_mean 7 = .ok (.ldc2_w 229, 3) := by decide +kernel
theorem dX5_mean_10 : decode cX5_mean 10 = .ok (.lreturn, 1) := by decide +kernel
theorem dX5_mean_11 : decode cX5_mean 11 = .ok (.aload_n 0, 1) := by decide +kernel
theorem dX5_mean_12 : decode cX5_mean 12 = .ok (.getfield 18, 3) := by decide +kernel
theorem dX5_mean_15 : decode cX5_mean 15 = .ok (.invokevirtual 175, 3) := by decide +kernel
theorem dX5_mean_18 : decode cX5_mean 18 = .ok (.i2l, 1) := by decide +kernel
theorem dX5_mean_19 : decode cX5_mean 19 = .ok (.aload_n 0, 1) := by decide +kernel
theorem dX5_mean_20 : decode cX5_mean 20 = .ok (.getfield 18, 3) := by decide +kernel
theorem dX5_mean_23 : decode cX5_mean 23 = .ok (.getfield 104, 3) := by decide +kernel
theorem dX5_mean_26 : decode cX5_mean 26 = .ok (.iconst 1, 1) := by decide +kernel
theorem dX5_mean_27 : decode cX5_mean 27 = .ok (.invokestatic 242, 3) := by decide +kernel
theorem dX5_mean_30 : decode cX5_mean 30 = .ok (.i2l, 1) := by decide +kernel
theorem dX5_mean_31 : decode cX5_mean 31 = .ok (.iload_n 1, 1) := by decide +kernel
theorem dX5_mean_32 : decode cX5_mean 32 = .ok (.invokestatic 238, 3) := by decide +kernel
theorem dX5_mean_35 : decode cX5_mean 35 = .ok (.lreturn, 1) := by decide +kernel
theorem dX5_joyless_0 : decode cX5_joyless 0 = .ok (.iconst 0, 1) := by decide +kernel
theorem dX5_joyless_1 : decode cX5_joyless 1 = .ok (.istore_n 1, 1) := by decide +kernel
theorem dX5_joyless_2 : decode cX5_joyless 2 = .ok (.iconst 0, 1) := by decide +kernel
theorem dX5_joyless_3 : decode cX5_joyless 3 = .ok (.istore_n 2, 1) := by decide +kernel
theorem dX5_joyless_4 : decode cX5_joyless 4 = .ok (.iload_n 2, 1) := by decide +kernel
theorem dX5_joyless_5 : decode cX5_joyless 5 = .ok (.aload_n 0, 1) := by decide +kernel
theorem dX5_joyless_6 : decode cX5_joyless 6 = .ok (.getfield 18, 3) := by decide +kernel
theorem dX5_joyless_9 : decode cX5_joyless 9 = .ok (.getfield 104, 3) := by decide +kernel
theorem dX5_joyless_12 : decode cX5_joyless 12 = .ok (.if_icmp .ge 55, 3) := by decide +kernel
theorem dX5_joyless_15 : decode cX5_joyless 15 = .ok (.iconst 0, 1) := by decide +kernel
theorem dX5_joyless_16 : decode cX5_joyless 16 = .ok (.istore_n 3, 1) := by decide +kernel
theorem dX5_joyless_17 : decode cX5_joyless 17 = .ok (.iload_n 3, 1) := by decide +kernel
theorem dX5_joyless_18 : decode cX5_joyless 18 = .ok (.aload_n 0, 1) := by decide +kernel
theorem dX5_joyless_19 : decode cX5_joyless 19 = .ok (.getfield 18, 3) := by decide +kernel
theorem dX5_joyless_22 : decode cX5_joyless 22 = .ok (.getfield 104, 3) := by decide +kernel
theorem dX5_joyless_25 : decode cX5_joyless 25 = .ok (.if_icmp .ge 36, 3) := by decide +kernel
theorem dX5_joyless_28 : decode cX5_joyless 28 = .ok (.aload_n 0, 1) := by decide +kernel
theorem dX5_joyless_29 : decode cX5_joyless 29 = .ok (.getfield 18, 3) := by decide +kernel
theorem dX5_joyless_32 : decode cX5_joyless 32 = .ok (.iload_n 2, 1) := by decide +kernel
theorem dX5_joyless_33 : decode cX5_joyless 33 = .ok (.iload_n 3, 1) := by decide +kernel
theorem dX5_joyless_34 : decode cX5_joyless 34 = .ok (.invokevirtual 134, 3) := by decide +kernel
theorem dX5_joyless_37 : decode cX5_joyless 37 = .ok (.ifCond .eq 18, 3) := by decide +kernel
theorem dX5_joyless_40 : decode cX5_joyless 40 = .ok (.aload_n 0, 1) := by decide +kernel
theorem dX5_joyless_41 : decode cX5_joyless 41 = .ok (.getfield 18, 3) := by decide +kernel
theorem dX5_joyless_44 : decode cX5_joyless 44 = .ok (.iload_n 2, 1) := by decide +kernel
theorem dX5_joyless_45 : decode cX5_joyless 45 = .ok (.iload_n 3, 1) := by decide +kernel
theorem dX5_joyless_46 : decode cX5_joyless 46 = .ok (.invokevirtual 137, 3) := by decide +kernel
theorem dX5_joyless_49 : decode cX5_joyless 49 = .ok (.ifCond .ne 6, 3) := by decide +kernel
theorem dX5_joyless_52 : decode cX5_joyless 52 = .ok (.iinc 1 1, 3) := by decide +kernel
theorem dX5_joyless_55 : decode cX5_joyless 55 = .ok (.iinc 3 1, 3) := by decide +kernel
theorem dX5_joyless_58 : decode cX5_joyless 58 = .ok (.goto (-41), 3) := by decide +kernel
theorem dX5_joyless_61 : decode cX5_joyless 61 = .ok (.iinc 2 1, 3) := by decide +kernel
theorem dX5_joyless_64 : decode cX5_joyless 64 = .ok (.goto (-60), 3) := by decide +kernel
theorem dX5_joyless_67 : decode cX5_joyless 67 = .ok (.iload_n 1, 1) := by decide +kernel
theorem dX5_joyless_68 : decode cX5_joyless 68 = .ok (.ireturn, 1) := by decide +kernel
theorem dX5_seen_0 : decode cX5_seen 0 = .ok (.iload_n 1, 1) := by decide +kernel
theorem dX5_seen_1 : decode cX5_seen 1 = .ok (.ifCond .lt 16, 3) := by decide +kernel
theorem dX5_seen_4 : decode cX5_seen 4 = .ok (.iload_n 1, 1) := by decide +kernel
theorem dX5_seen_5 : decode cX5_seen 5 = .ok (.iconst 1, 1) := by decide +kernel
theorem dX5_seen_6 : decode cX5_seen 6 = .ok (.aload_n 0, 1) := by decide +kernel
theorem dX5_seen_7 : decode cX5_seen 7 = .ok (.getfield 18, 3) := by decide +kernel
theorem dX5_seen_10 : decode cX5_seen 10 = .ok (.getfield 104, 3) := by decide +kernel
theorem dX5_seen_13 : decode cX5_seen 13 = .ok (.ishl, 1) := by decide +kernel
theorem dX5_seen_14 : decode cX5_seen 14 = .ok (.if_icmp .lt 5, 3) := by decide +kernel
theorem dX5_seen_17 : decode cX5_seen 17 = .ok (.iconst (-1), 1) := by decide +kernel
theorem dX5_seen_18 : decode cX5_seen 18 = .ok (.ireturn, 1) := by decide +kernel
theorem dX5_seen_19 : decode cX5_seen 19 = .ok (.iconst 0, 1) := by decide +kernel
theorem dX5_seen_20 : decode cX5_seen 20 = .ok (.istore_n 2, 1) := by decide +kernel
theorem dX5_seen_21 : decode cX5_seen 21 = .ok (.iconst 0, 1) := by decide +kernel
theorem dX5_seen_22 : decode cX5_seen 22 = .ok (.istore_n 3, 1) := by decide +kernel
theorem dX5_seen_23 : decode cX5_seen 23 = .ok (.iload_n 3, 1) := by decide +kernel
theorem dX5_seen_24 : decode cX5_seen 24 = .ok (.aload_n 0, 1) := by decide +kernel
theorem dX5_seen_25 : decode cX5_seen 25 = .ok (.getfield 18, 3) := by decide +kernel
theorem dX5_seen_28 : decode cX5_seen 28 = .ok (.getfield 104, 3) := by decide +kernel
theorem dX5_seen_31 : decode cX5_seen 31 = .ok (.if_icmp .ge 64, 3) := by decide +kernel
theorem dX5_seen_34 : decode cX5_seen 34 = .ok (.iload_n 1, 1) := by decide +kernel
theorem dX5_seen_35 : decode cX5_seen 35 = .ok (.iload_n 3, 1) := by decide +kernel
theorem dX5_seen_36 : decode cX5_seen 36 = .ok (.ishr, 1) := by decide +kernel
theorem dX5_seen_37 : decode cX5_seen 37 = .ok (.iconst 1, 1) := by decide +kernel
theorem dX5_seen_38 : decode cX5_seen 38 = .ok (.iand, 1) := by decide +kernel
theorem dX5_seen_39 : decode cX5_seen 39 = .ok (.iconst 1, 1) := by decide +kernel
theorem dX5_seen_40 : decode cX5_seen 40 = .ok (.if_icmp .ne 7, 3) := by decide +kernel
theorem dX5_seen_43 : decode cX5_seen 43 = .ok (.iconst 1, 1) := by decide +kernel
theorem dX5_seen_44 : decode cX5_seen 44 = .ok (.goto 4, 3) := by decide +kernel
theorem dX5_seen_47 : decode cX5_seen 47 = .ok (.iconst 0, 1) := by decide +kernel
theorem dX5_seen_48 : decode cX5_seen 48 = .ok (.istore 4, 2) := by decide +kernel
theorem dX5_seen_50 : decode cX5_seen 50 = .ok (.iload 4, 2) := by decide +kernel
theorem dX5_seen_52 : decode cX5_seen 52 = .ok (.ifCond .eq 14, 3) := by decide +kernel
theorem dX5_seen_55 : decode cX5_seen 55 = .ok (.aload_n 0, 1) := by decide +kernel
theorem dX5_seen_56 : decode cX5_seen 56 = .ok (.iload_n 3, 1) := by decide +kernel
theorem dX5_seen_57 : decode cX5_seen 57 = .ok (.iload_n 1, 1) := by decide +kernel
theorem dX5_seen_58 : decode cX5_seen 58 = .ok (.invokevirtual 245, 3) := by decide +kernel
theorem dX5_seen_61 : decode cX5_seen 61 = .ok (.ifCond .ne 5, 3) := by decide +kernel
theorem dX5_seen_64 : decode cX5_seen 64 = .ok (.iconst 0, 1) := by decide +kernel
theorem dX5_seen_65 : decode cX5_seen 65 = .ok (.ireturn, 1) := by decide +kernel
theorem dX5_seen_66 : decode cX5_seen 66 = .ok (.iload 4, 2) := by decide +kernel
theorem dX5_seen_68 : decode cX5_seen 68 = .ok (.ifCond .ne 21, 3) := by decide +kernel
theorem dX5_seen_71 : decode cX5_seen 71 = .ok (.aload_n 0, 1) := by decide +kernel
theorem dX5_seen_72 : decode cX5_seen 72 = .ok (.getfield 18, 3) := by decide +kernel
theorem dX5_seen_75 : decode cX5_seen 75 = .ok (.getfield 55, 3) := by decide +kernel
theorem dX5_seen_78 : decode cX5_seen 78 = .ok (.iload_n 3, 1) := by decide +kernel
theorem dX5_seen_79 : decode cX5_seen 79 = .ok (.aaload, 1) := by decide +kernel
theorem dX5_seen_80 : decode cX5_seen 80 = .ok (.invokevirtual 248, 3) := by decide +kernel
theorem dX5_seen_83 : decode cX5_seen 83 = .ok (.ifCond .eq 6, 3) := by decide +kernel
theorem dX5_seen_86 : decode cX5_seen 86 = .ok (.iinc 2 1, 3) := by decide +kernel
theorem dX5_seen_89 : decode cX5_seen 89 = .ok (.iinc 3 1, 3) := by decide +kernel
theorem dX5_seen_92 : decode cX5_seen 92 = .ok (.goto (-69), 3) := by decide +kernel
theorem dX5_seen_95 : decode cX5_seen 95 = .ok (.iload_n 2, 1) := by decide +kernel
theorem dX5_seen_96 : decode cX5_seen 96 = .ok (.ireturn, 1) := by decide +kernel
theorem dX5_forged_0 : decode cX5_forged 0 = .ok (.aload_n 0, 1) := by decide +kernel
theorem dX5_forged_1 : decode cX5_forged 1 = .ok (.iload_n 1, 1) := by decide +kernel
theorem dX5_forged_2 : decode cX5_forged 2 = .ok (.invokevirtual 36, 3) := by decide +kernel
theorem dX5_forged_5 : decode cX5_forged 5 = .ok (.istore_n 2, 1) := by decide +kernel
theorem dX5_forged_6 : decode cX5_forged 6 = .ok (.iload_n 2, 1) := by decide +kernel
theorem dX5_forged_7 : decode cX5_forged 7 = .ok (.ifCond .eq 5, 3) := by decide +kernel
theorem dX5_forged_10 : decode cX5_forged 10 = .ok (.iload_n 2, 1) := by decide +kernel
theorem dX5_forged_11 : decode cX5_forged 11 = .ok (.ireturn, 1) := by decide +kernel
theorem dX5_forged_12 : decode cX5_forged 12 = .ok (.aload_n 0, 1) := by decide +kernel
theorem dX5_forged_13 : decode cX5_forged 13 = .ok (.getfield 11, 3) := by decide +kernel
theorem dX5_forged_16 : decode cX5_forged 16 = .ok (.iload_n 1, 1) := by decide +kernel
theorem dX5_forged_17 : decode cX5_forged 17 = .ok (.aaload, 1) := by decide +kernel
theorem dX5_forged_18 : decode cX5_forged 18 = .ok (.astore_n 3, 1) := by decide +kernel
theorem dX5_forged_19 : decode cX5_forged 19 = .ok (.aload_n 3, 1) := by decide +kernel
theorem dX5_forged_20 : decode cX5_forged 20 = .ok (.getfield 207, 3) := by decide +kernel
theorem dX5_forged_23 : decode cX5_forged 23 = .ok (.iconst 2, 1) := by decide +kernel
theorem dX5_forged_24 : decode cX5_forged 24 = .ok (.irem, 1) := by decide +kernel
theorem dX5_forged_25 : decode cX5_forged 25 = .ok (.ifCond .eq 6, 3) := by decide +kernel
theorem dX5_forged_28 : decode cX5_forged 28 = .ok (.bipush (-13), 2) := by decide +kernel
theorem dX5_forged_30 : decode cX5_forged 30 = .ok (.ireturn, 1) := by decide +kernel
theorem dX5_forged_31 : decode cX5_forged 31 = .ok (.aload_n 0, 1) := by decide +kernel
theorem dX5_forged_32 : decode cX5_forged 32 = .ok (.getfield 25, 3) := by decide +kernel
theorem dX5_forged_35 : decode cX5_forged 35 = .ok (.aload_n 0, 1) := by decide +kernel
theorem dX5_forged_36 : decode cX5_forged 36 = .ok (.getfield 18, 3) := by decide +kernel
theorem dX5_forged_39 : decode cX5_forged 39 = .ok (.invokevirtual 166, 3) := by decide +kernel
theorem dX5_forged_42 : decode cX5_forged 42 = .ok (.iconst 0, 1) := by decide +kernel
theorem dX5_forged_43 : decode cX5_forged 43 = .ok (.istore 4, 2) := by decide +kernel
theorem dX5_forged_45 : decode cX5_forged 45 = .ok (.iload 4, 2) := by decide +kernel
theorem dX5_forged_47 : decode cX5_forged 47 = .ok (.aload_n 3, 1) := by decide +kernel
theorem dX5_forged_48 : decode cX5_forged 48 = .ok (.getfield 207, 3) := by decide +kernel
theorem dX5_forged_51 : decode cX5_forged 51 = .ok (.iconst 2, 1) := by decide +kernel
theorem dX5_forged_52 : decode cX5_forged 52 = .ok (.idiv, 1) := by decide +kernel
theorem dX5_forged_53 : decode cX5_forged 53 = .ok (.if_icmp .ge 60, 3) := by decide +kernel
theorem dX5_forged_56 : decode cX5_forged 56 = .ok (.aload_n 3, 1) := by decide +kernel
theorem dX5_forged_57 : decode cX5_forged 57 = .ok (.iconst 2, 1) := by decide +kernel
theorem dX5_forged_58 : decode cX5_forged 58 = .ok (.iload 4, 2) := by decide +kernel
theorem dX5_forged_60 : decode cX5_forged 60 = .ok (.imul, 1) := by decide +kernel
theorem dX5_forged_61 : decode cX5_forged 61 = .ok (.invokevirtual 252, 3) := by decide +kernel
theorem dX5_forged_64 : decode cX5_forged 64 = .ok (.istore 5, 2) := by decide +kernel
theorem dX5_forged_66 : decode cX5_forged 66 = .ok (.aload_n 3, 1) := by decide +kernel
theorem dX5_forged_67 : decode cX5_forged 67 = .ok (.iconst 2, 1) := by decide +kernel
theorem dX5_forged_68 : decode cX5_forged 68 = .ok (.iload 4, 2) := by decide +kernel
theorem dX5_forged_70 : decode cX5_forged 70 = .ok (.imul, 1) := by decide +kernel
theorem dX5_forged_71 : decode cX5_forged 71 = .ok (.iconst 1, 1) := by decide +kernel
theorem dX5_forged_72 : decode cX5_forged 72 = .ok (.iadd, 1) := by decide +kernel
theorem dX5_forged_73 : decode cX5_forged 73 = .ok (.invokevirtual 252, 3) := by decide +kernel
theorem dX5_forged_76 : decode cX5_forged 76 = .ok (.istore 6, 2) := by decide +kernel
theorem dX5_forged_78 : decode cX5_forged 78 = .ok (.aload_n 0, 1) := by decide +kernel
theorem dX5_forged_79 : decode cX5_forged 79 = .ok (.getfield 25, 3) := by decide +kernel
theorem dX5_forged_82 : decode cX5_forged 82 = .ok (.iload 5, 2) := by decide +kernel
theorem dX5_forged_84 : decode cX5_forged 84 = .ok (.iload 6, 2) := by decide +kernel
theorem dX5_forged_86 : decode cX5_forged 86 = .ok (.invokevirtual 134, 3) := by decide +kernel
theorem dX5_forged_89 : decode cX5_forged 89 = .ok (.ifCond .ne 6, 3) := by decide +kernel
theorem dX5_forged_92 : decode cX5_forged 92 = .ok (.iload 4, 2) := by decide +kernel
theorem dX5_forged_94 : decode cX5_forged 94 = .ok (.ireturn, 1) := by decide +kernel
theorem dX5_forged_95 : decode cX5_forged 95 = .ok (.aload_n 0, 1) := by decide +kernel
theorem dX5_forged_96 : decode cX5_forged 96 = .ok (.getfield 25, 3) := by decide +kernel
theorem dX5_forged_99 : decode cX5_forged 99 = .ok (.iload 5, 2) := by decide +kernel
theorem dX5_forged_101 : decode cX5_forged 101 = .ok (.iload 6, 2) := by decide +kernel
theorem dX5_forged_103 : decode cX5_forged 103 = .ok (.invokevirtual 130, 3) := by decide +kernel
theorem dX5_forged_106 : decode cX5_forged 106 = .ok (.pop, 1) := by decide +kernel
theorem dX5_forged_107 : decode cX5_forged 107 = .ok (.iinc 4 1, 3) := by decide +kernel
theorem dX5_forged_110 : decode cX5_forged 110 = .ok (.goto (-65), 3) := by decide +kernel
theorem dX5_forged_113 : decode cX5_forged 113 = .ok (.bipush (-4), 2) := by decide +kernel
theorem dX5_forged_115 : decode cX5_forged 115 = .ok (.ireturn, 1) := by decide +kernel
theorem dX5_judge_0 : decode cX5_judge 0 = .ok (.aload_n 0, 1) := by decide +kernel
theorem dX5_judge_1 : decode cX5_judge 1 = .ok (.iload_n 1, 1) := by decide +kernel
theorem dX5_judge_2 : decode cX5_judge 2 = .ok (.invokevirtual 36, 3) := by decide +kernel
theorem dX5_judge_5 : decode cX5_judge 5 = .ok (.istore_n 2, 1) := by decide +kernel
theorem dX5_judge_6 : decode cX5_judge 6 = .ok (.iload_n 2, 1) := by decide +kernel
theorem dX5_judge_7 : decode cX5_judge 7 = .ok (.ifCond .eq 5, 3) := by decide +kernel
theorem dX5_judge_10 : decode cX5_judge 10 = .ok (.iload_n 2, 1) := by decide +kernel
theorem dX5_judge_11 : decode cX5_judge 11 = .ok (.ireturn, 1) := by decide +kernel
theorem dX5_judge_12 : decode cX5_judge 12 = .ok (.aload_n 0, 1) := by decide +kernel
theorem dX5_judge_13 : decode cX5_judge 13 = .ok (.getfield 11, 3) := by decide +kernel
theorem dX5_judge_16 : decode cX5_judge 16 = .ok (.iload_n 1, 1) := by decide +kernel
theorem dX5_judge_17 : decode cX5_judge 17 = .ok (.aaload, 1) := by decide +kernel
theorem dX5_judge_18 : decode cX5_judge 18 = .ok (.astore_n 3, 1) := by decide +kernel
theorem dX5_judge_19 : decode cX5_judge 19 = .ok (.aload_n 3, 1) := by decide +kernel
theorem dX5_judge_20 : decode cX5_judge 20 = .ok (.invokevirtual 255, 3) := by decide +kernel
theorem dX5_judge_23 : decode cX5_judge 23 = .ok (.istore 4, 2) := by decide +kernel
theorem dX5_judge_25 : decode cX5_judge 25 = .ok (.aload_n 0, 1) := by decide +kernel
theorem dX5_judge_26 : decode cX5_judge 26 = .ok (.getfield 25, 3) := by decide +kernel
theorem dX5_judge_29 : decode cX5_judge 29 = .ok (.aload_n 0, 1) := by decide +kernel
theorem dX5_judge_30 : decode cX5_judge 30 = .ok (.getfield 18, 3) := by decide +kernel
theorem dX5_judge_33 : decode cX5_judge 33 = .ok (.invokevirtual 166, 3) := by decide +kernel
theorem dX5_judge_36 : decode cX5_judge 36 = .ok (.iconst 0, 1) := by decide +kernel
theorem dX5_judge_37 : decode cX5_judge 37 = .ok (.istore 5, 2) := by decide +kernel
theorem dX5_judge_39 : decode cX5_judge 39 = .ok (.iload 5, 2) := by decide +kernel
theorem dX5_judge_41 : decode cX5_judge 41 = .ok (.aload_n 3, 1) := by decide +kernel
theorem dX5_judge_42 : decode cX5_judge 42 = .ok (.getfield 207, 3) := by decide +kernel
theorem dX5_judge_45 : decode cX5_judge 45 = .ok (.if_icmp .ge 89, 3) := by decide +kernel
theorem dX5_judge_48 : decode cX5_judge 48 = .ok (.aload_n 0, 1) := by decide +kernel
theorem dX5_judge_49 : decode cX5_judge 49 = .ok (.getfield 25, 3) := by decide +kernel
theorem dX5_judge_52 : decode cX5_judge 52 = .ok (.invokevirtual 146, 3) := by decide +kernel
theorem dX5_judge_55 : decode cX5_judge 55 = .ok (.istore 6, 2) := by decide +kernel
theorem dX5_judge_57 : decode cX5_judge 57 = .ok (.iload 6, 2) := by decide +kernel
theorem dX5_judge_59 : decode cX5_judge 59 = .ok (.ifCond .ge 8, 3) := by decide +kernel
theorem dX5_judge_62 : decode cX5_judge 62 = .ok (.bipush (-4), 2) := by decide +kernel
theorem dX5_judge_64 : decode cX5_judge 64 = .ok (.goto 20, 3) := by decide +kernel
theorem dX5_judge_67 : decode cX5_judge 67 = .ok (.aload_n 0, 1) := by decide +kernel
theorem dX5_judge_68 : decode cX5_judge 68 = .ok (.getfield 25, 3) := by decide +kernel
theorem dX5_judge_71 : decode cX5_judge 71 = .ok (.iload 6, 2) := by decide +kernel
theorem dX5_judge_73 : decode cX5_judge 73 = .ok (.bipush 10, 2) := by decide +kernel
theorem dX5_judge_75 : decode cX5_judge 75 = .ok (.idiv, 1) := by decide +kernel
theorem dX5_judge_76 : decode cX5_judge 76 = .ok (.iload 6, 2) := by decide +kernel
theorem dX5_judge_78 : decode cX5_judge 78 = .ok (.bipush 10, 2) := by decide +kernel
theorem dX5_judge_80 : decode cX5_judge 80 = .ok (.irem, 1) := by decide +kernel
theorem dX5_judge_81 : decode cX5_judge 81 = .ok (.invokevirtual 130, 3) := by decide +kernel
theorem dX5_judge_84 : decode cX5_judge 84 = .ok (.istore 7, 2) := by decide +kernel
theorem dX5_judge_86 : decode cX5_judge 86 = .ok (.iload 6, 2) := by decide +kernel
theorem dX5_judge_88 : decode cX5_judge 88 = .ok (.ifCond .lt 18, 3) := by decide +kernel
theorem dX5_judge_91 : decode cX5_judge 91 = .ok (.iload 7, 2) := by decide +kernel
theorem dX5_judge_93 : decode cX5_judge 93 = .ok (.aload_n 3, 1) := by decide +kernel
theorem dX5_judge_94 : decode cX5_judge 94 = .ok (.iload 5, 2) := by decide +kernel
theorem dX5_judge_96 : decode cX5_judge 96 = .ok (.invokevirtual 252, 3) := by decide +kernel
theorem dX5_judge_99 : decode cX5_judge 99 = .ok (.if_icmp .ne 7, 3) := by decide +kernel
theorem dX5_judge_102 : decode cX5_judge 102 = .ok (.iconst 1, 1) := by decide +kernel
theorem dX5_judge_103 : decode cX5_judge 103 = .ok (.goto 4, 3) := by decide +kernel
theorem dX5_judge_106 : decode cX5_judge 106 = .ok (.iconst 0, 1) := by decide +kernel
theorem dX5_judge_107 : decode cX5_judge 107 = .ok (.istore 8, 2) := by decide +kernel
theorem dX5_judge_109 : decode cX5_judge 109 = .ok (.iload 8, 2) := by decide +kernel
theorem dX5_judge_111 : decode cX5_judge 111 = .ok (.ifCond .ne 17, 3) := by decide +kernel
theorem dX5_judge_114 : decode cX5_judge 114 = .ok (.aload_n 3, 1) := by decide +kernel
theorem dX5_judge_115 : decode cX5_judge 115 = .ok (.iload 5, 2) := by decide +kernel
theorem dX5_judge_117 : decode cX5_judge 117 = .ok (.invokevirtual 252, 3) := by decide +kernel
theorem dX5_judge_120 : decode cX5_judge 120 = .ok (.iload 4, 2) := by decide +kernel
theorem dX5_judge_122 : decode cX5_judge 122 = .ok (.if_icmp .eq 6, 3) := by decide +kernel
theorem dX5_judge_125 : decode cX5_judge 125 = .ok (.iload 5, 2) := by decide +kernel
theorem dX5_judge_127 : decode cX5_judge 127 = .ok (.ireturn, 1) := by decide +kernel
theorem dX5_judge_128 : decode cX5_judge 128 = .ok (.iinc 5 1, 3) := by decide +kernel
theorem dX5_judge_131 : decode cX5_judge 131 = .ok (.goto (-92), 3) := by decide +kernel
theorem dX5_judge_134 : decode cX5_judge 134 = .ok (.bipush (-4), 2) := by decide +kernel
theorem dX5_judge_136 : decode cX5_judge 136 = .ok (.ireturn, 1) := by decide +kernel
theorem dX5_fetes_0 : decode cX5_fetes 0 = .ok (.iload_n 1, 1) := by decide +kernel
theorem dX5_fetes_1 : decode cX5_fetes 1 = .ok (.iconst 1, 1) := by decide +kernel
theorem dX5_fetes_2 : decode cX5_fetes 2 = .ok (.bipush 20, 2) := by decide +kernel
theorem dX5_fetes_4 : decode cX5_fetes 4 = .ok (.invokestatic 116, 3) := by decide +kernel
theorem dX5_fetes_7 : decode cX5_fetes 7 = .ok (.ifCond .eq 10, 3) := by decide +kernel
theorem dX5_fetes_10 : decode cX5_fetes 10 = .ok (.iload_n 3, 1) := by decide +kernel
theorem dX5_fetes_11 : decode cX5_fetes 11 = .ok (.invokestatic 113, 3) := by decide +kernel
theorem dX5_fetes_14 : decode cX5_fetes 14 = .ok (.ifCond .ne 5, 3) := by decide +kernel
theorem dX5_fetes_17 : decode cX5_fetes 17 = .ok (.iconst (-1), 1) := by decide +kernel
theorem dX5_fetes_18 : decode cX5_fetes 18 = .ok (.ireturn, 1) := by decide +kernel
theorem dX5_fetes_19 : decode cX5_fetes 19 = .ok (.aload_n 0, 1) := by decide +kernel
theorem dX5_fetes_20 : decode cX5_fetes 20 = .ok (.getfield 18, 3) := by decide +kernel
theorem dX5_fetes_23 : decode cX5_fetes 23 = .ok (.getfield 104, 3) := by decide +kernel
theorem dX5_fetes_26 : decode cX5_fetes 26 = .ok (.ifCond .ne 6, 3) := by decide +kernel
theorem dX5_fetes_29 : decode cX5_fetes 29 = .ok (.bipush (-3), 2) := by decide +kernel
theorem dX5_fetes_31 : decode cX5_fetes 31 = .ok (.ireturn, 1) := by decide +kernel
theorem dX5_fetes_32 : decode cX5_fetes 32 = .ok (.iload_n 2, 1) := by decide +kernel
theorem dX5_fetes_33 : decode cX5_fetes 33 = .ok (.istore 4, 2) := by decide +kernel
theorem dX5_fetes_35 : decode cX5_fetes 35 = .ok (.iconst 0, 1) := by decide +kernel
theorem dX5_fetes_36 : decode cX5_fetes 36 = .ok (.istore 5, 2) := by decide +kernel
theorem dX5_fetes_38 : decode cX5_fetes 38 = .ok (.iconst 0, 1) := by decide +kernel
theorem dX5_fetes_39 : decode cX5_fetes 39 = .ok (.istore 6, 2) := by decide +kernel
theorem dX5_fetes_41 : decode cX5_fetes 41 = .ok (.iconst 0, 1) := by decide +kernel
theorem dX5_fetes_42 : decode cX5_fetes 42 = .ok (.istore 7, 2) := by decide +kernel
theorem dX5_fetes_44 : decode cX5_fetes 44 = .ok (.iload 7, 2) := by decide +kernel
theorem dX5_fetes_46 : decode cX5_fetes 46 = .ok (.iload_n 1, 1) := by decide +kernel
theorem dX5_fetes_47 : decode cX5_fetes 47 = .ok (.if_icmp .ge 111, 3) := by decide +kernel
theorem dX5_fetes_50 : decode cX5_fetes 50 = .ok (.aload_n 0, 1) := by decide +kernel
theorem dX5_fetes_51 : decode cX5_fetes 51 = .ok (.getfield 25, 3) := by decide +kernel
theorem dX5_fetes_54 : decode cX5_fetes 54 = .ok (.aload_n 0, 1) := by decide +kernel
theorem dX5_fetes_55 : decode cX5_fetes 55 = .ok (.getfield 18, 3) := by decide +kernel
theorem dX5_fetes_58 : decode cX5_fetes 58 = .ok (.invokevirtual 166, 3) := by decide +kernel
theorem dX5_fetes_61 : decode cX5_fetes 61 = .ok (.iconst 0, 1) := by decide +kernel
theorem dX5_fetes_62 : decode cX5_fetes 62 = .ok (.istore 8, 2) := by decide +kernel
theorem dX5_fetes_64 : decode cX5_fetes 64 = .ok (.iload 8, 2) := by decide +kernel
theorem dX5_fetes_66 : decode cX5_fetes 66 = .ok (.bipush 10, 2) := by decide +kernel
theorem dX5_fetes_68 : decode cX5_fetes 68 = .ok (.if_icmp .ge 84, 3) := by decide +kernel
theorem dX5_fetes_71 : decode cX5_fetes 71 = .ok (.iload 4, 2) := by decide +kernel
theorem dX5_fetes_73 : decode cX5_fetes 73 = .ok (.invokestatic 258, 3) := by decide +kernel
theorem dX5_fetes_76 : decode cX5_fetes 76 = .ok (.istore 4, 2) := by decide +kernel
theorem dX5_fetes_78 : decode cX5_fetes 78 = .ok (.iload 4, 2) := by decide +kernel
theorem dX5_fetes_80 : decode cX5_fetes 80 = .ok (.aload_n 0, 1) := by decide +kernel
theorem dX5_fetes_81 : decode cX5_fetes 81 = .ok (.getfield 18, 3) := by decide +kernel
theorem dX5_fetes_84 : decode cX5_fetes 84 = .ok (.getfield 104, 3) := by decide +kernel
theorem dX5_fetes_87 : decode cX5_fetes 87 = .ok (.invokestatic 261, 3) := by decide +kernel
theorem dX5_fetes_90 : decode cX5_fetes 90 = .ok (.istore 9, 2) := by decide +kernel
theorem dX5_fetes_92 : decode cX5_fetes 92 = .ok (.iload 4, 2) := by decide +kernel
theorem dX5_fetes_94 : decode cX5_fetes 94 = .ok (.invokestatic 258, 3) := by decide +kernel
theorem dX5_fetes_97 : decode cX5_fetes 97 = .ok (.istore 4, 2) := by decide +kernel
theorem dX5_fetes_99 : decode cX5_fetes 99 = .ok (.iload 4, 2) := by decide +kernel
theorem dX5_fetes_101 : decode cX5_fetes 101 = .ok (.aload_n 0, 1) := by decide +kernel
theorem dX5_fetes_102 : decode cX5_fetes 102 = .ok (.getfield 18, 3) := by decide +kernel
theorem dX5_fetes_105 : decode cX5_fetes 105 = .ok (.getfield 104, 3) := by decide +kernel
theorem dX5_fetes_108 : decode cX5_fetes 108 = .ok (.invokestatic 261, 3) := by decide +kernel
theorem dX5_fetes_111 : decode cX5_fetes 111 = .ok (.istore 10, 2) := by decide +kernel
theorem dX5_fetes_113 : decode cX5_fetes 113 = .ok (.aload_n 0, 1) := by decide +kernel
theorem dX5_fetes_114 : decode cX5_fetes 114 = .ok (.getfield 25, 3) := by decide +kernel
theorem dX5_fetes_117 : decode cX5_fetes 117 = .ok (.iload 9, 2) := by decide +kernel
theorem dX5_fetes_119 : decode cX5_fetes 119 = .ok (.iload 10, 2) := by decide +kernel
theorem dX5_fetes_121 : decode cX5_fetes 121 = .ok (.invokevirtual 134, 3) := by decide +kernel
theorem dX5_fetes_124 : decode cX5_fetes 124 = .ok (.ifCond .eq 22, 3) := by decide +kernel
theorem dX5_fetes_127 : decode cX5_fetes 127 = .ok (.iload 5, 2) := by decide +kernel
theorem dX5_fetes_129 : decode cX5_fetes 129 = .ok (.aload_n 0, 1) := by decide +kernel
theorem dX5_fetes_130 : decode cX5_fetes 130 = .ok (.getfield 25, 3) := by decide +kernel
theorem dX5_fetes_133 : decode cX5_fetes 133 = .ok (.iload 9, 2) := by decide +kernel
theorem dX5_fetes_135 : decode cX5_fetes 135 = .ok (.iload 10, 2) := by decide +kernel
theorem dX5_fetes_137 : decode cX5_fetes 137 = .ok (.invokevirtual 130, 3) := by decide +kernel
theorem dX5_fetes_140 : decode cX5_fetes 140 = .ok (.iadd, 1) := by decide +kernel
theorem dX5_fetes_141 : decode cX5_fetes 141 = .ok (.istore 5, 2) := by decide +kernel
theorem dX5_fetes_143 : decode cX5_fetes 143 = .ok (.iinc 6 1, 3) := by decide +kernel
theorem dX5_fetes_146 : decode cX5_fetes 146 = .ok (.iinc 8 1, 3) := by decide +kernel
theorem dX5_fetes_149 : decode cX5_fetes 149 = .ok (.goto (-85), 3) := by decide +kernel
theorem dX5_fetes_152 : decode cX5_fetes 152 = .ok (.iinc 7 1, 3) := by decide +kernel
theorem dX5_fetes_155 : decode cX5_fetes 155 = .ok (.goto (-111), 3) := by decide +kernel
theorem dX5_fetes_158 : decode cX5_fetes 158 = .ok (.iload_n 3, 1) := by decide +kernel
theorem dX5_fetes_159 : decode cX5_fetes 159 = .ok (.ifCond .ne 8, 3) := by decide +kernel
theorem dX5_fetes_162 : decode cX5_fetes 162 = .ok (.iload 5, 2) := by decide +kernel
theorem dX5_fetes_164 : decode cX5_fetes 164 = .ok (.goto 5, 3) := by decide +kernel
theorem dX5_fetes_167 : decode cX5_fetes 167 = .ok (.iload 6, 2) := by decide +kernel
theorem dX5_fetes_169 : decode cX5_fetes 169 = .ok (.ireturn, 1) := by decide +kernel
theorem dX5_image_0 : decode cX5_image 0 = .ok (.aload_n 0, 1) := by decide +kernel
theorem dX5_image_1 : decode cX5_image 1 = .ok (.getfield 22, 3) := by decide +kernel
theorem dX5_image_4 : decode cX5_image 4 = .ok (.aload_n 0, 1) := by decide +kernel
theorem dX5_image_5 : decode cX5_image 5 = .ok (.getfield 18, 3) := by decide +kernel
theorem dX5_image_8 : decode cX5_image 8 = .ok (.invokevirtual 166, 3) := by decide +kernel
theorem dX5_image_11 : decode cX5_image 11 = .ok (.aload_n 0, 1) := by decide +kernel
theorem dX5_image_12 : decode cX5_image 12 = .ok (.iconst 1, 1) := by decide +kernel
theorem dX5_image_13 : decode cX5_image 13 = .ok (.putfield 264, 3) := by decide +kernel
theorem dX5_image_16 : decode cX5_image 16 = .ok (.aload_n 0, 1) := by decide +kernel
theorem dX5_image_17 : decode cX5_image 17 = .ok (.getfield 18, 3) := by decide +kernel
theorem dX5_image_20 : decode cX5_image 20 = .ok (.getfield 268, 3) := by decide +kernel
theorem dX5_image_23 : decode cX5_image 23 = .ok (.ireturn, 1) := by decide +kernel
theorem dX5_restore_0 : decode cX5_restore 0 = .ok (.aload_n 0, 1) := by decide +kernel
theorem dX5_restore_1 : decode cX5_restore 1 = .ok (.getfield 264, 3) := by decide +kernel
theorem dX5_restore_4 : decode cX5_restore 4 = .ok (.ifCond .ne 6, 3) := by decide +kernel
theorem dX5_restore_7 : decode cX5_restore 7 = .ok (.bipush (-3), 2) := by decide +kernel
theorem dX5_restore_9 : decode cX5_restore 9 = .ok (.ireturn, 1) := by decide +kernel
theorem dX5_restore_10 : decode cX5_restore 10 = .ok (.aload_n 0, 1) := by decide +kernel
theorem dX5_restore_11 : decode cX5_restore 11 = .ok (.getfield 18, 3) := by decide +kernel
theorem dX5_restore_14 : decode cX5_restore 14 = .ok (.aload_n 0, 1) := by decide +kernel
theorem dX5_restore_15 : decode cX5_restore 15 = .ok (.getfield 22, 3) := by decide +kernel
theorem dX5_restore_18 : decode cX5_restore 18 = .ok (.invokevirtual 166, 3) := by decide +kernel
theorem dX5_restore_21 : decode cX5_restore 21 = .ok (.aload_n 0, 1) := by decide +kernel
theorem dX5_restore_22 : decode cX5_restore 22 = .ok (.getfield 18, 3) := by decide +kernel
theorem dX5_restore_25 : decode cX5_restore 25 = .ok (.getfield 268, 3) := by decide +kernel
theorem dX5_restore_28 : decode cX5_restore 28 = .ok (.ireturn, 1) := by decide +kernel
theorem dX5_count_0 : decode cX5_count 0 = .ok (.iload_n 1, 1) := by decide +kernel
theorem dX5_count_1 : decode cX5_count 1 = .ok (.tableswitch 99 0 6 #[43, 51, 59, 67, 75, 83, 91], 43) := by decide +kernel
theorem dX5_count_44 : decode cX5_count 44 = .ok (.aload_n 0, 1) := by decide +kernel
theorem dX5_count_45 : decode cX5_count 45 = .ok (.getfield 18, 3) := by decide +kernel
theorem dX5_count_48 : decode cX5_count 48 = .ok (.getfield 104, 3) := by decide +kernel
theorem dX5_count_51 : decode cX5_count 51 = .ok (.ireturn, 1) := by decide +kernel
theorem dX5_count_52 : decode cX5_count 52 = .ok (.aload_n 0, 1) := by decide +kernel
theorem dX5_count_53 : decode cX5_count 53 = .ok (.getfield 18, 3) := by decide +kernel
theorem dX5_count_56 : decode cX5_count 56 = .ok (.getfield 120, 3) := by decide +kernel
theorem dX5_count_59 : decode cX5_count 59 = .ok (.ireturn, 1) := by decide +kernel
theorem dX5_count_60 : decode cX5_count 60 = .ok (.aload_n 0, 1) := by decide +kernel
theorem dX5_count_61 : decode cX5_count 61 = .ok (.getfield 18, 3) := by decide +kernel
theorem dX5_count_64 : decode cX5_count 64 = .ok (.getfield 268, 3) := by decide +kernel
theorem dX5_count_67 : decode cX5_count 67 = .ok (.ireturn, 1) := by decide +kernel
theorem dX5_count_68 : decode cX5_count 68 = .ok (.aload_n 0, 1) := by decide +kernel
theorem dX5_count_69 : decode cX5_count 69 = .ok (.getfield 18, 3) := by decide +kernel
theorem dX5_count_72 : decode cX5_count 72 = .ok (.invokevirtual 175, 3) := by decide +kernel
theorem dX5_count_75 : decode cX5_count 75 = .ok (.ireturn, 1) := by decide +kernel
theorem dX5_count_76 : decode cX5_count 76 = .ok (.aload_n 0, 1) := by decide +kernel
theorem dX5_count_77 : decode cX5_count 77 = .ok (.getfield 18, 3) := by decide +kernel
theorem dX5_count_80 : decode cX5_count 80 = .ok (.invokevirtual 271, 3) := by decide +kernel
theorem dX5_count_83 : decode cX5_count 83 = .ok (.ireturn, 1) := by decide +kernel
theorem dX5_count_84 : decode cX5_count 84 = .ok (.aload_n 0, 1) := by decide +kernel
theorem dX5_count_85 : decode cX5_count 85 = .ok (.getfield 18, 3) := by decide +kernel
theorem dX5_count_88 : decode cX5_count 88 = .ok (.invokevirtual 274, 3) := by decide +kernel
theorem dX5_count_91 : decode cX5_count 91 = .ok (.ireturn, 1) := by decide +kernel
theorem dX5_count_92 : decode cX5_count 92 = .ok (.aload_n 0, 1) := by decide +kernel
theorem dX5_count_93 : decode cX5_count 93 = .ok (.getfield 18, 3) := by decide +kernel
theorem dX5_count_96 : decode cX5_count 96 = .ok (.invokevirtual 277, 3) := by decide +kernel
theorem dX5_count_99 : decode cX5_count 99 = .ok (.ireturn, 1) := by decide +kernel
theorem dX5_count_100 : decode cX5_count 100 = .ok (.iconst (-1), 1) := by decide +kernel
theorem dX5_count_101 : decode cX5_count 101 = .ok (.ireturn, 1) := by decide +kernel
theorem dX5_keep_0 : decode cX5_keep 0 = .ok (.iload_n 1, 1) := by decide +kernel
theorem dX5_keep_1 : decode cX5_keep 1 = .ok (.invokestatic 95, 3) := by decide +kernel
theorem dX5_keep_4 : decode cX5_keep 4 = .ok (.ifCond .eq 10, 3) := by decide +kernel
theorem dX5_keep_7 : decode cX5_keep 7 = .ok (.iload_n 2, 1) := by decide +kernel
theorem dX5_keep_8 : decode cX5_keep 8 = .ok (.invokestatic 113, 3) := by decide +kernel
theorem dX5_keep_11 : decode cX5_keep 11 = .ok (.ifCond .ne 5, 3) := by decide +kernel
theorem dX5_keep_14 : decode cX5_keep 14 = .ok (.iconst (-1), 1) := by decide +kernel
theorem dX5_keep_15 : decode cX5_keep 15 = .ok (.ireturn, 1) := by decide +kernel
theorem dX5_keep_16 : decode cX5_keep 16 = .ok (.iload_n 2, 1) := by decide +kernel
theorem dX5_keep_17 : decode cX5_keep 17 = .ok (.ifCond .ne 15, 3) := by decide +kernel
theorem dX5_keep_20 : decode cX5_keep 20 = .ok (.aload_n 0, 1) := by decide +kernel
theorem dX5_keep_21 : decode cX5_keep 21 = .ok (.getfield 11, 3) := by decide +kernel
theorem dX5_keep_24 : decode cX5_keep 24 = .ok (.iload_n 1, 1) := by decide +kernel
theorem dX5_keep_25 : decode cX5_keep 25 = .ok (.aaload, 1) := by decide +kernel
theorem dX5_keep_26 : decode cX5_keep 26 = .ok (.iconst 0, 1) := by decide +kernel
theorem dX5_keep_27 : decode cX5_keep 27 = .ok (.putfield 280, 3) := by decide +kernel
theorem dX5_keep_30 : decode cX5_keep 30 = .ok (.iconst 0, 1) := by decide +kernel
theorem dX5_keep_31 : decode cX5_keep 31 = .ok (.ireturn, 1) := by decide +kernel
theorem dX5_keep_32 : decode cX5_keep 32 = .ok (.iload_n 3, 1) := by decide +kernel
theorem dX5_keep_33 : decode cX5_keep 33 = .ok (.invokestatic 283, 3) := by decide +kernel
theorem dX5_keep_36 : decode cX5_keep 36 = .ok (.ifCond .eq 11, 3) := by decide +kernel
theorem dX5_keep_39 : decode cX5_keep 39 = .ok (.iload 4, 2) := by decide +kernel
theorem dX5_keep_41 : decode cX5_keep 41 = .ok (.invokestatic 178, 3) := by decide +kernel
theorem dX5_keep_44 : decode cX5_keep 44 = .ok (.ifCond .ne 5, 3) := by decide +kernel
theorem dX5_keep_47 : decode cX5_keep 47 = .ok (.iconst (-1), 1) := by decide +kernel
theorem dX5_keep_48 : decode cX5_keep 48 = .ok (.ireturn, 1) := by decide +kernel
theorem dX5_keep_49 : decode cX5_keep 49 = .ok (.aload_n 0, 1) := by decide +kernel
theorem dX5_keep_50 : decode cX5_keep 50 = .ok (.getfield 11, 3) := by decide +kernel
theorem dX5_keep_53 : decode cX5_keep 53 = .ok (.iload_n 1, 1) := by decide +kernel
theorem dX5_keep_54 : decode cX5_keep 54 = .ok (.aaload, 1) := by decide +kernel
theorem dX5_keep_55 : decode cX5_keep 55 = .ok (.getstatic 181, 3) := by decide +kernel
theorem dX5_keep_58 : decode cX5_keep 58 = .ok (.iload_n 3, 1) := by decide +kernel
theorem dX5_keep_59 : decode cX5_keep 59 = .ok (.aaload, 1) := by decide +kernel
theorem dX5_keep_60 : decode cX5_keep 60 = .ok (.iload 4, 2) := by decide +kernel
theorem dX5_keep_62 : decode cX5_keep 62 = .ok (.invokevirtual 286, 3) := by decide +kernel
theorem dX5_keep_65 : decode cX5_keep 65 = .ok (.iconst 0, 1) := by decide +kernel
theorem dX5_keep_66 : decode cX5_keep 66 = .ok (.ireturn, 1) := by decide +kernel
theorem dX5_row_0 : decode cX5_row 0 = .ok (.iload_n 1, 1) := by decide +kernel
theorem dX5_row_1 : decode cX5_row 1 = .ok (.invokestatic 95, 3) := by decide +kernel
theorem dX5_row_4 : decode cX5_row 4 = .ok (.ifCond .eq 18, 3) := by decide +kernel
theorem dX5_row_7 : decode cX5_row 7 = .ok (.iload_n 2, 1) := by decide +kernel
theorem dX5_row_8 : decode cX5_row 8 = .ok (.iconst 0, 1) := by decide +kernel
theorem dX5_row_9 : decode cX5_row 9 = .ok (.iconst 2, 1) := by decide +kernel
theorem dX5_row_10 : decode cX5_row 10 = .ok (.invokestatic 116, 3) := by decide +kernel
theorem dX5_row_13 : decode cX5_row 13 = .ok (.ifCond .eq 9, 3) := by decide +kernel
theorem dX5_row_16 : decode cX5_row 16 = .ok (.iload_n 3, 1) := by decide +kernel
theorem dX5_row_17 : decode cX5_row 17 = .ok (.bipush 100, 2) := by decide +kernel
theorem dX5_row_19 : decode cX5_row 19 = .ok (.if_icmp .le 5, 3) := by decide +kernel
theorem dX5_row_22 : decode cX5_row 22 = .ok (.iconst (-1), 1) := by decide +kernel
theorem dX5_row_23 : decode cX5_row 23 = .ok (.ireturn, 1) := by decide +kernel
theorem dX5_row_24 : decode cX5_row 24 = .ok (.iload_n 3, 1) := by decide +kernel
theorem dX5_row_25 : decode cX5_row 25 = .ok (.ifCond .ge 6, 3) := by decide +kernel
theorem dX5_row_28 : decode cX5_row 28 = .ok (.bipush (-14), 2) := by decide +kernel
theorem dX5_row_30 : decode cX5_row 30 = .ok (.ireturn, 1) := by decide +kernel
theorem dX5_row_31 : decode cX5_row 31 = .ok (.aload_n 0, 1) := by decide +kernel
theorem dX5_row_32 : decode cX5_row 32 = .ok (.getfield 11, 3) := by decide +kernel
theorem dX5_row_35 : decode cX5_row 35 = .ok (.iload_n 1, 1) := by decide +kernel
theorem dX5_row_36 : decode cX5_row 36 = .ok (.aaload, 1) := by decide +kernel
theorem dX5_row_37 : decode cX5_row 37 = .ok (.iload_n 2, 1) := by decide +kernel
theorem dX5_row_38 : decode cX5_row 38 = .ok (.iload_n 3, 1) := by decide +kernel
theorem dX5_row_39 : decode cX5_row 39 = .ok (.invokevirtual 290, 3) := by decide +kernel
theorem dX5_row_42 : decode cX5_row 42 = .ok (.iconst 0, 1) := by decide +kernel
theorem dX5_row_43 : decode cX5_row 43 = .ok (.ireturn, 1) := by decide +kernel
theorem dX5_put_0 : decode cX5_put 0 = .ok (.aload_n 0, 1) := by decide +kernel
theorem dX5_put_1 : decode cX5_put 1 = .ok (.iload_n 1, 1) := by decide +kernel
theorem dX5_put_2 : decode cX5_put 2 = .ok (.invokevirtual 36, 3) := by decide +kernel
theorem dX5_put_5 : decode cX5_put 5 = .ok (.istore 4, 2) := by decide +kernel
theorem dX5_put_7 : decode cX5_put 7 = .ok (.iload 4, 2) := by decide +kernel
theorem dX5_put_9 : decode cX5_put 9 = .ok (.ifCond .eq 6, 3) := by decide +kernel
theorem dX5_put_12 : decode cX5_put 12 = .ok (.iload 4, 2) := by decide +kernel
theorem dX5_put_14 : decode cX5_put 14 = .ok (.ireturn, 1) := by decide +kernel
theorem dX5_put_15 : decode cX5_put 15 = .ok (.aload_n 0, 1) := by decide +kernel
theorem dX5_put_16 : decode cX5_put 16 = .ok (.getfield 11, 3) := by decide +kernel
theorem dX5_put_19 : decode cX5_put 19 = .ok (.iload_n 1, 1) := by decide +kernel
theorem dX5_put_20 : decode cX5_put 20 = .ok (.aaload, 1) := by decide +kernel
theorem dX5_put_21 : decode cX5_put 21 = .ok (.astore 5, 2) := by decide +kernel
theorem dX5_put_23 : decode cX5_put 23 = .ok (.aload 5, 2) := by decide +kernel
theorem dX5_put_25 : decode cX5_put 25 = .ok (.iload_n 2, 1) := by decide +kernel
theorem dX5_put_26 : decode cX5_put 26 = .ok (.invokevirtual 294, 3) := by decide +kernel
theorem dX5_put_29 : decode cX5_put 29 = .ok (.ifCond .ne 6, 3) := by decide +kernel
theorem dX5_put_32 : decode cX5_put 32 = .ok (.bipush (-13), 2) := by decide +kernel
theorem dX5_put_34 : decode cX5_put 34 = .ok (.ireturn, 1) := by decide +kernel
theorem dX5_put_35 : decode cX5_put 35 = .ok (.aload 5, 2) := by decide +kernel
theorem dX5_put_37 : decode cX5_put 37 = .ok (.getfield 297, 3) := by decide +kernel
theorem dX5_put_40 : decode cX5_put 40 = .ok (.iload_n 2, 1) := by decide +kernel
theorem dX5_put_41 : decode cX5_put 41 = .ok (.aload 5, 2) := by decide +kernel
theorem dX5_put_43 : decode cX5_put 43 = .ok (.iload_n 3, 1) := by decide +kernel
theorem dX5_put_44 : decode cX5_put 44 = .ok (.invokevirtual 300, 3) := by decide +kernel
theorem dX5_put_47 : decode cX5_put 47 = .ok (.iastore, 1) := by decide +kernel
theorem dX5_put_48 : decode cX5_put 48 = .ok (.iconst 0, 1) := by decide +kernel
theorem dX5_put_49 : decode cX5_put 49 = .ok (.ireturn, 1) := by decide +kernel
theorem dX5_element_0 : decode cX5_element 0 = .ok (.iload_n 1, 1) := by decide +kernel
theorem dX5_element_1 : decode cX5_element 1 = .ok (.invokestatic 95, 3) := by decide +kernel
theorem dX5_element_4 : decode cX5_element 4 = .ok (.ifCond .ne 14, 3) := by decide +kernel
theorem dX5_element_7 : decode cX5_element 7 = .ok (.new 303, 3) := by decide +kernel
theorem dX5_element_10 : decode cX5_element 10 = .ok (.dup, 1) := by decide +kernel
theorem dX5_element_11 : decode cX5_element 11 = .ok (.ldc_w 305, 3) := by decide +kernel
theorem dX5_element_14 : decode cX5_element 14 = .ok (.invokespecial 307, 3) := by decide +kernel
theorem dX5_element_17 : decode cX5_element 17 = .ok (.athrow, 1) := by decide +kernel
theorem dX5_element_18 : decode cX5_element 18 = .ok (.aload_n 0, 1) := by decide +kernel
theorem dX5_element_19 : decode cX5_element 19 = .ok (.iload_n 1, 1) := by decide +kernel
theorem dX5_element_20 : decode cX5_element 20 = .ok (.invokevirtual 36, 3) := by decide +kernel
theorem dX5_element_23 : decode cX5_element 23 = .ok (.ifCond .ne 16, 3) := by decide +kernel
theorem dX5_element_26 : decode cX5_element 26 = .ok (.aload_n 0, 1) := by decide +kernel
theorem dX5_element_27 : decode cX5_element 27 = .ok (.getfield 11, 3) := by decide +kernel
theorem dX5_element_30 : decode cX5_element 30 = .ok (.iload_n 1, 1) := by decide +kernel
theorem dX5_element_31 : decode cX5_element 31 = .ok (.aaload, 1) := by decide +kernel
theorem dX5_element_32 : decode cX5_element 32 = .ok (.iload_n 2, 1) := by decide +kernel
theorem dX5_element_33 : decode cX5_element 33 = .ok (.invokevirtual 294, 3) := by decide +kernel
theorem dX5_element_36 : decode cX5_element 36 = .ok (.ifCond .ne 14, 3) := by decide +kernel
theorem dX5_element_39 : decode cX5_element 39 = .ok (.new 310, 3) := by decide +kernel
theorem dX5_element_42 : decode cX5_element 42 = .ok (.dup, 1) := by decide +kernel
theorem dX5_element_43 : decode cX5_element 43 = .ok (.ldc_w 312, 3) := by decide +kernel
theorem dX5_element_46 : decode cX5_element 46 = .ok (.invokespecial 314, 3) := by decide +kernel
theorem dX5_element_49 : decode cX5_element 49 = .ok (.athrow, 1) := by decide +kernel
theorem dX5_element_50 : decode cX5_element 50 = .ok (.aload_n 0, 1) := by decide +kernel
theorem dX5_element_51 : decode cX5_element 51 = .ok (.getfield 11, 3) := by decide +kernel
theorem dX5_element_54 : decode cX5_element 54 = .ok (.iload_n 1, 1) := by decide +kernel
theorem dX5_element_55 : decode cX5_element 55 = .ok (.aaload, 1) := by decide +kernel
theorem dX5_element_56 : decode cX5_element 56 = .ok (.iload_n 2, 1) := by decide +kernel
theorem dX5_element_57 : decode cX5_element 57 = .ok (.invokevirtual 252, 3) := by decide +kernel
theorem dX5_element_60 : decode cX5_element 60 = .ok (.i2l, 1) := by decide +kernel
theorem dX5_element_61 : decode cX5_element 61 = .ok (.lreturn, 1) := by decide +kernel
theorem dX5_copy_0 : decode cX5_copy 0 = .ok (.iload_n 1, 1) := by decide +kernel
theorem dX5_copy_1 : decode cX5_copy 1 = .ok (.invokestatic 95, 3) := by decide +kernel
theorem dX5_copy_4 : decode cX5_copy 4 = .ok (.ifCond .eq 10, 3) := by decide +kernel
theorem dX5_copy_7 : decode cX5_copy 7 = .ok (.iload_n 3, 1) := by decide +kernel
theorem dX5_copy_8 : decode cX5_copy 8 = .ok (.invokestatic 95, 3) := by decide +kernel
theorem dX5_copy_11 : decode cX5_copy 11 = .ok (.ifCond .ne 5, 3) := by decide +kernel
theorem dX5_copy_14 : decode cX5_copy 14 = .ok (.iconst (-1), 1) := by decide +kernel
theorem dX5_copy_15 : decode cX5_copy 15 = .ok (.ireturn, 1) := by decide +kernel
theorem dX5_copy_16 : decode cX5_copy 16 = .ok (.aload_n 0, 1) := by decide +kernel
theorem dX5_copy_17 : decode cX5_copy 17 = .ok (.getfield 11, 3) := by decide +kernel
theorem dX5_copy_20 : decode cX5_copy 20 = .ok (.iload_n 1, 1) := by decide +kernel
theorem dX5_copy_21 : decode cX5_copy 21 = .ok (.aaload, 1) := by decide +kernel
theorem dX5_copy_22 : decode cX5_copy 22 = .ok (.astore 6, 2) := by decide +kernel
theorem dX5_copy_24 : decode cX5_copy 24 = .ok (.aload_n 0, 1) := by decide +kernel
theorem dX5_copy_25 : decode cX5_copy 25 = .ok (.getfield 11, 3) := by decide +kernel
theorem dX5_copy_28 : decode cX5_copy 28 = .ok (.iload_n 3, 1) := by decide +kernel
theorem dX5_copy_29 : decode cX5_copy 29 = .ok (.aaload, 1) := by decide +kernel
theorem dX5_copy_30 : decode cX5_copy 30 = .ok (.astore 7, 2) := by decide +kernel
theorem dX5_copy_32 : decode cX5_copy 32 = .ok (.aload 6, 2) := by decide +kernel
theorem dX5_copy_34 : decode cX5_copy 34 = .ok (.getfield 280, 3) := by decide +kernel
theorem dX5_copy_37 : decode cX5_copy 37 = .ok (.ifCond .eq 11, 3) := by decide +kernel
theorem dX5_copy_40 : decode cX5_copy 40 = .ok (.aload 7, 2) := by decide +kernel
theorem dX5_copy_42 : decode cX5_copy 42 = .ok (.getfield 280, 3) := by decide +kernel
theorem dX5_copy_45 : decode cX5_copy 45 = .ok (.ifCond .ne 6, 3) := by decide +kernel
theorem dX5_copy_48 : decode cX5_copy 48 = .ok (.bipush (-11), 2) := by decide +kernel
theorem dX5_copy_50 : decode cX5_copy 50 = .ok (.ireturn, 1) := by decide +kernel
theorem dX5_copy_51 : decode cX5_copy 51 = .ok (.aload 6, 2) := by decide +kernel
theorem dX5_copy_53 : decode cX5_copy 53 = .ok (.getfield 280, 3) := by decide +kernel
theorem dX5_copy_56 : decode cX5_copy 56 = .ok (.iconst 2, 1) := by decide +kernel
theorem dX5_copy_57 : decode cX5_copy 57 = .ok (.if_icmp .ne 25, 3) := by decide +kernel
theorem dX5_copy_60 : decode cX5_copy 60 = .ok (.aload 7, 2) := by decide +kernel
theorem dX5_copy_62 : decode cX5_copy 62 = .ok (.getfield 280, 3) := by decide +kernel
theorem dX5_copy_65 : decode cX5_copy 65 = .ok (.iconst 2, 1) := by decide +kernel
theorem dX5_copy_66 : decode cX5_copy 66 = .ok (.if_icmp .ne 16, 3) := by decide +kernel
theorem dX5_copy_69 : decode cX5_copy 69 = .ok (.aload 6, 2) := by decide +kernel
theorem dX5_copy_71 : decode cX5_copy 71 = .ok (.getfield 40, 3) := by decide +kernel
theorem dX5_copy_74 : decode cX5_copy 74 = .ok (.aload 7, 2) := by decide +kernel
theorem dX5_copy_76 : decode cX5_copy 76 = .ok (.getfield 40, 3) := by decide +kernel
theorem dX5_copy_79 : decode cX5_copy 79 = .ok (.if_icmp .eq 6, 3) := by decide +kernel
theorem dX5_copy_82 : decode cX5_copy 82 = .ok (.bipush (-12), 2) := by decide +kernel
theorem dX5_copy_84 : decode cX5_copy 84 = .ok (.ireturn, 1) := by decide +kernel
theorem dX5_copy_85 : decode cX5_copy 85 = .ok (.iload 5, 2) := by decide +kernel
theorem dX5_copy_87 : decode cX5_copy 87 = .ok (.ifCond .lt 26, 3) := by decide +kernel
theorem dX5_copy_90 : decode cX5_copy 90 = .ok (.aload 6, 2) := by decide +kernel
theorem dX5_copy_92 : decode cX5_copy 92 = .ok (.iload_n 2, 1) := by decide +kernel
theorem dX5_copy_93 : decode cX5_copy 93 = .ok (.iload 5, 2) := by decide +kernel
theorem dX5_copy_95 : decode cX5_copy 95 = .ok (.invokevirtual 315, 3) := by decide +kernel
theorem dX5_copy_98 : decode cX5_copy 98 = .ok (.ifCond .eq 15, 3) := by decide +kernel
theorem dX5_copy_101 : decode cX5_copy 101 = .ok (.aload 7, 2) := by decide +kernel
theorem dX5_copy_103 : decode cX5_copy 103 = .ok (.iload 4, 2) := by decide +kernel
theorem dX5_copy_105 : decode cX5_copy 105 = .ok (.iload 5, 2) := by decide +kernel
theorem dX5_copy_107 : decode cX5_copy 107 = .ok (.invokevirtual 315, 3) := by decide +kernel
theorem dX5_copy_110 : decode cX5_copy 110 = .ok (.ifCond .ne 6, 3) := by decide +kernel
theorem dX5_copy_113 : decode cX5_copy 113 = .ok (.bipush (-13), 2) := by decide +kernel
theorem dX5_copy_115 : decode cX5_copy 115 = .ok (.ireturn, 1) := by decide +kernel
theorem dX5_copy_116 : decode cX5_copy 116 = .ok (.aload 6, 2) := by decide +kernel
theorem dX5_copy_118 : decode cX5_copy 118 = .ok (.getfield 297, 3) := by decide +kernel
theorem dX5_copy_121 : decode cX5_copy 121 = .ok (.iload_n 2, 1) := by decide +kernel
theorem dX5_copy_122 : decode cX5_copy 122 = .ok (.aload 7, 2) := by decide +kernel
theorem dX5_copy_124 : decode cX5_copy 124 = .ok (.getfield 297, 3) := by decide +kernel
theorem dX5_copy_127 : decode cX5_copy 127 = .ok (.iload 4, 2) := by decide +kernel
theorem dX5_copy_129 : decode cX5_copy 129 = .ok (.iload 5, 2) := by decide +kernel
theorem dX5_copy_131 : decode cX5_copy 131 = .ok (.invokestatic 318, 3) := by decide +kernel
theorem dX5_copy_134 : decode cX5_copy 134 = .ok (.iload 5, 2) := by decide +kernel
theorem dX5_copy_136 : decode cX5_copy 136 = .ok (.ireturn, 1) := by decide +kernel
theorem dX5_cost_0 : decode cX5_cost 0 = .ok (.aload_n 0, 1) := by decide +kernel
theorem dX5_cost_1 : decode cX5_cost 1 = .ok (.iload_n 1, 1) := by decide +kernel
theorem dX5_cost_2 : decode cX5_cost 2 = .ok (.invokevirtual 101, 3) := by decide +kernel
theorem dX5_cost_5 : decode cX5_cost 5 = .ok (.istore_n 2, 1) := by decide +kernel
theorem dX5_cost_6 : decode cX5_cost 6 = .ok (.iload_n 2, 1) := by decide +kernel
theorem dX5_cost_7 : decode cX5_cost 7 = .ok (.ifCond .eq 5, 3) := by decide +kernel
theorem dX5_cost_10 : decode cX5_cost 10 = .ok (.iload_n 2, 1) := by decide +kernel
theorem dX5_cost_11 : decode cX5_cost 11 = .ok (.ireturn, 1) := by decide +kernel
theorem dX5_cost_12 : decode cX5_cost 12 = .ok (.aload_n 0, 1) := by decide +kernel
theorem dX5_cost_13 : decode cX5_cost 13 = .ok (.getfield 11, 3) := by decide +kernel
theorem dX5_cost_16 : decode cX5_cost 16 = .ok (.iload_n 1, 1) := by decide +kernel
theorem dX5_cost_17 : decode cX5_cost 17 = .ok (.aaload, 1) := by decide +kernel
theorem dX5_cost_18 : decode cX5_cost 18 = .ok (.getfield 107, 3) := by decide +kernel
theorem dX5_cost_21 : decode cX5_cost 21 = .ok (.aload_n 0, 1) := by decide +kernel
theorem dX5_cost_22 : decode cX5_cost 22 = .ok (.getfield 11, 3) := by decide +kernel
theorem dX5_cost_25 : decode cX5_cost 25 = .ok (.iload_n 1, 1) := by decide +kernel
theorem dX5_cost_26 : decode cX5_cost 26 = .ok (.aaload, 1) := by decide +kernel
theorem dX5_cost_27 : decode cX5_cost 27 = .ok (.getfield 108, 3) := by decide +kernel
theorem dX5_cost_30 : decode cX5_cost 30 = .ok (.invokevirtual 324, 3) := by decide +kernel
theorem dX5_cost_33 : decode cX5_cost 33 = .ok (.ireturn, 1) := by decide +kernel
theorem dX5_toss_0 : decode cX5_toss 0 = .ok (.aload_n 0, 1) := by decide +kernel
theorem dX5_toss_1 : decode cX5_toss 1 = .ok (.iload_n 1, 1) := by decide +kernel
theorem dX5_toss_2 : decode cX5_toss 2 = .ok (.invokevirtual 101, 3) := by decide +kernel
theorem dX5_toss_5 : decode cX5_toss 5 = .ok (.istore_n 2, 1) := by decide +kernel
theorem dX5_toss_6 : decode cX5_toss 6 = .ok (.iload_n 2, 1) := by decide +kernel
theorem dX5_toss_7 : decode cX5_toss 7 = .ok (.ifCond .eq 5, 3) := by decide +kernel
theorem dX5_toss_10 : decode cX5_toss 10 = .ok (.iload_n 2, 1) := by decide +kernel
theorem dX5_toss_11 : decode cX5_toss 11 = .ok (.ireturn, 1) := by decide +kernel
theorem dX5_toss_12 : decode cX5_toss 12 = .ok (.aload_n 0, 1) := by decide +kernel
theorem dX5_toss_13 : decode cX5_toss 13 = .ok (.getfield 11, 3) := by decide +kernel
theorem dX5_toss_16 : decode cX5_toss 16 = .ok (.iload_n 1, 1) := by decide +kernel
theorem dX5_toss_17 : decode cX5_toss 17 = .ok (.aaload, 1) := by decide +kernel
theorem dX5_toss_18 : decode cX5_toss 18 = .ok (.getfield 107, 3) := by decide +kernel
theorem dX5_toss_21 : decode cX5_toss 21 = .ok (.astore_n 3, 1) := by decide +kernel
theorem dX5_toss_22 : decode cX5_toss 22 = .ok (.aload_n 0, 1) := by decide +kernel
theorem dX5_toss_23 : decode cX5_toss 23 = .ok (.getfield 11, 3) := by decide +kernel
theorem dX5_toss_26 : decode cX5_toss 26 = .ok (.iload_n 1, 1) := by decide +kernel
theorem dX5_toss_27 : decode cX5_toss 27 = .ok (.aaload, 1) := by decide +kernel
theorem dX5_toss_28 : decode cX5_toss 28 = .ok (.getfield 108, 3) := by decide +kernel
theorem dX5_toss_31 : decode cX5_toss 31 = .ok (.istore 4, 2) := by decide +kernel
theorem dX5_toss_33 : decode cX5_toss 33 = .ok (.aload_n 3, 1) := by decide +kernel
theorem dX5_toss_34 : decode cX5_toss 34 = .ok (.iload 4, 2) := by decide +kernel
theorem dX5_toss_36 : decode cX5_toss 36 = .ok (.invokevirtual 327, 3) := by decide +kernel
theorem dX5_toss_39 : decode cX5_toss 39 = .ok (.bipush (-15), 2) := by decide +kernel
theorem dX5_toss_41 : decode cX5_toss 41 = .ok (.ireturn, 1) := by decide +kernel
theorem dX5_toss_42 : decode cX5_toss 42 = .ok (.astore 5, 2) := by decide +kernel
theorem dX5_toss_44 : decode cX5_toss 44 = .ok (.sipush 200, 3) := by decide +kernel
theorem dX5_toss_47 : decode cX5_toss 47 = .ok (.aload_n 3, 1) := by decide +kernel
theorem dX5_toss_48 : decode cX5_toss 48 = .ok (.iload 4, 2) := by decide +kernel
theorem dX5_toss_50 : decode cX5_toss 50 = .ok (.invokevirtual 324, 3) := by decide +kernel
theorem dX5_toss_53 : decode cX5_toss 53 = .ok (.iadd, 1) := by decide +kernel
theorem dX5_toss_54 : decode cX5_toss 54 = .ok (.ireturn, 1) := by decide +kernel
theorem dX5_toss_55 : decode cX5_toss 55 = .ok (.astore 5, 2) := by decide +kernel
theorem dX5_toss_57 : decode cX5_toss 57 = .ok (.bipush 100, 2) := by decide +kernel
theorem dX5_toss_59 : decode cX5_toss 59 = .ok (.iload 4, 2) := by decide +kernel
theorem dX5_toss_61 : decode cX5_toss 61 = .ok (.iadd, 1) := by decide +kernel
theorem dX5_toss_62 : decode cX5_toss 62 = .ok (.ireturn, 1) := by decide +kernel
theorem dX5_toss_63 : decode cX5_toss 63 = .ok (.astore 5, 2) := by decide +kernel
theorem dX5_toss_65 : decode cX5_toss 65 = .ok (.iload 4, 2) := by decide +kernel
theorem dX5_toss_67 : decode cX5_toss 67 = .ok (.ireturn, 1) := by decide +kernel
theorem dX5_isWithin_0 : decode cX5_isWithin 0 = .ok (.iload_n 0, 1) := by decide +kernel
theorem dX5_isWithin_1 : decode cX5_isWithin 1 = .ok (.iload_n 1, 1) := by decide +kernel
theorem dX5_isWithin_2 : decode cX5_isWithin 2 = .ok (.if_icmp .lt 12, 3) := by decide +kernel
theorem dX5_isWithin_5 : decode cX5_isWithin 5 = .ok (.iload_n 0, 1) := by decide +kernel
theorem dX5_isWithin_6 : decode cX5_isWithin 6 = .ok (.iload_n 2, 1) := by decide +kernel
theorem dX5_isWithin_7 : decode cX5_isWithin 7 = .ok (.if_icmp .gt 7, 3) := by decide +kernel
theorem dX5_isWithin_10 : decode cX5_isWithin 10 = .ok (.iconst 1, 1) := by decide +kernel
theorem dX5_isWithin_11 : decode cX5_isWithin 11 = .ok (.goto 4, 3) := by decide +kernel
theorem dX5_isWithin_14 : decode cX5_isWithin 14 = .ok (.iconst 0, 1) := by decide +kernel
theorem dX5_isWithin_15 : decode cX5_isWithin 15 = .ok (.ireturn, 1) := by decide +kernel
theorem dX5_isOneOfTwo_0 : decode cX5_isOneOfTwo 0 = .ok (.iload_n 0, 1) := by decide +kernel
theorem dX5_isOneOfTwo_1 : decode cX5_isOneOfTwo 1 = .ok (.iconst 0, 1) := by decide +kernel
theorem dX5_isOneOfTwo_2 : decode cX5_isOneOfTwo 2 = .ok (.iconst 1, 1) := by decide +kernel
theorem dX5_isOneOfTwo_3 : decode cX5_isOneOfTwo 3 = .ok (.invokestatic 116, 3) := by decide +kernel
theorem dX5_isOneOfTwo_6 : decode cX5_isOneOfTwo 6 = .ok (.ireturn, 1) := by decide +kernel
theorem dX5_isShelf_0 : decode cX5_isShelf 0 = .ok (.iload_n 0, 1) := by decide +kernel
theorem dX5_isShelf_1 : decode cX5_isShelf 1 = .ok (.iconst 0, 1) := by decide +kernel
theorem dX5_isShelf_2 : decode cX5_isShelf 2 = .ok (.bipush 7, 2) := by decide +kernel
theorem dX5_isShelf_4 : decode cX5_isShelf 4 = .ok (.invokestatic 116, 3) := by decide +kernel
theorem dX5_isShelf_7 : decode cX5_isShelf 7 = .ok (.ireturn, 1) := by decide +kernel
theorem dX5_isKind_0 : decode cX5_isKind 0 = .ok (.iload_n 0, 1) := by decide +kernel
theorem dX5_isKind_1 : decode cX5_isKind 1 = .ok (.iconst 0, 1) := by decide +kernel
theorem dX5_isKind_2 : decode cX5_isKind 2 = .ok (.getstatic 181, 3) := by decide +kernel
theorem dX5_isKind_5 : decode cX5_isKind 5 = .ok (.arraylength, 1) := by decide +kernel
theorem dX5_isKind_6 : decode cX5_isKind 6 = .ok (.iconst 1, 1) := by decide +kernel
theorem dX5_isKind_7 : decode cX5_isKind 7 = .ok (.isub, 1) := by decide +kernel
theorem dX5_isKind_8 : decode cX5_isKind 8 = .ok (.invokestatic 116, 3) := by decide +kernel
theorem dX5_isKind_11 : decode cX5_isKind 11 = .ok (.ireturn, 1) := by decide +kernel
theorem dX5_isFigure_0 : decode cX5_isFigure 0 = .ok (.iload_n 0, 1) := by decide +kernel
theorem dX5_isFigure_1 : decode cX5_isFigure 1 = .ok (.iconst 0, 1) := by decide +kernel
theorem dX5_isFigure_2 : decode cX5_isFigure 2 = .ok (.bipush 9, 2) := by decide +kernel
theorem dX5_isFigure_4 : decode cX5_isFigure 4 = .ok (.invokestatic 116, 3) := by decide +kernel
theorem dX5_isFigure_7 : decode cX5_isFigure 7 = .ok (.ireturn, 1) := by decide +kernel
theorem dX5_isFeeling_0 : decode cX5_isFeeling 0 = .ok (.iload_n 0, 1) := by decide +kernel
theorem dX5_isFeeling_1 : decode cX5_isFeeling 1 = .ok (.iconst 0, 1) := by decide +kernel
theorem dX5_isFeeling_2 : decode cX5_isFeeling 2 = .ok (.bipush 30, 2) := by decide +kernel
theorem dX5_isFeeling_4 : decode cX5_isFeeling 4 = .ok (.invokestatic 116, 3) := by decide +kernel
theorem dX5_isFeeling_7 : decode cX5_isFeeling 7 = .ok (.ireturn, 1) := by decide +kernel
theorem dX5_isPrice_0 : decode cX5_isPrice 0 = .ok (.iload_n 0, 1) := by decide +kernel
theorem dX5_isPrice_1 : decode cX5_isPrice 1 = .ok (.iconst 0, 1) := by decide +kernel
theorem dX5_isPrice_2 : decode cX5_isPrice 2 = .ok (.bipush 31, 2) := by decide +kernel
theorem dX5_isPrice_4 : decode cX5_isPrice 4 = .ok (.invokestatic 116, 3) := by decide +kernel
theorem dX5_isPrice_7 : decode cX5_isPrice 7 = .ok (.ireturn, 1) := by decide +kernel
theorem dX5_refusalOfRow_0 : decode cX5_refusalOfRow 0 = .ok (.aload_n 0, 1) := by decide +kernel
theorem dX5_refusalOfRow_1 : decode cX5_refusalOfRow 1 = .ok (.iload_n 1, 1) := by decide +kernel
theorem dX5_refusalOfRow_2 : decode cX5_refusalOfRow 2 = .ok (.iconst 2, 1) := by decide +kernel
theorem dX5_refusalOfRow_3 : decode cX5_refusalOfRow 3 = .ok (.invokevirtual 333, 3) := by decide +kernel
theorem dX5_refusalOfRow_6 : decode cX5_refusalOfRow 6 = .ok (.ireturn, 1) := by decide +kernel
theorem dX5_refusalOfKind_0 : decode cX5_refusalOfKind 0 = .ok (.aload_n 0, 1) := by decide +kernel
theorem dX5_refusalOfKind_1 : decode cX5_refusalOfKind 1 = .ok (.iload_n 1, 1) := by decide +kernel
theorem dX5_refusalOfKind_2 : decode cX5_refusalOfKind 2 = .ok (.iconst 1, 1) := by decide +kernel
theorem dX5_refusalOfKind_3 : decode cX5_refusalOfKind 3 = .ok (.invokevirtual 333, 3) := by decide +kernel
theorem dX5_refusalOfKind_6 : decode cX5_refusalOfKind 6 = .ok (.ireturn, 1) := by decide +kernel
theorem dX5_refusalUnlessHeld_0 : decode cX5_refusalUnlessHeld 0 = .ok (.iload_n 1, 1) := by decide +kernel
theorem dX5_refusalUnlessHeld_1 : decode cX5_refusalUnlessHeld 1 = .ok (.invokestatic 95, 3) := by decide +kernel
theorem dX5_refusalUnlessHeld_4 : decode cX5_refusalUnlessHeld 4 = .ok (.ifCond .ne 5, 3) := by decide +kernel
theorem dX5_refusalUnlessHeld_7 : decode cX5_refusalUnlessHeld 7 = .ok (.iconst (-1), 1) := by decide +kernel
theorem dX5_refusalUnlessHeld_8 : decode cX5_refusalUnlessHeld 8 = .ok (.ireturn, 1) := by decide +kernel
theorem dX5_refusalUnlessHeld_9 : decode cX5_refusalUnlessHeld 9 = .ok (.aload_n 0, 1) := by decide +kernel
theorem dX5_refusalUnlessHeld_10 : decode cX5_refusalUnlessHeld 10 = .ok (.getfield 11, 3) := by decide +kernel
theorem dX5_refusalUnlessHeld_13 : decode cX5_refusalUnlessHeld 13 = .ok (.iload_n 1, 1) := by decide +kernel
theorem dX5_refusalUnlessHeld_14 : decode cX5_refusalUnlessHeld 14 = .ok (.aaload, 1) := by decide +kernel
theorem dX5_refusalUnlessHeld_15 : decode cX5_refusalUnlessHeld 15 = .ok (.getfield 280, 3) := by decide +kernel
theorem dX5_refusalUnlessHeld_18 : decode cX5_refusalUnlessHeld 18 = .ok (.istore_n 3, 1) := by decide +kernel
theorem dX5_refusalUnlessHeld_19 : decode cX5_refusalUnlessHeld 19 = .ok (.iload_n 3, 1) := by decide +kernel
theorem dX5_refusalUnlessHeld_20 : decode cX5_refusalUnlessHeld 20 = .ok (.ifCond .ne 6, 3) := by decide +kernel
theorem dX5_refusalUnlessHeld_23 : decode cX5_refusalUnlessHeld 23 = .ok (.bipush (-11), 2) := by decide +kernel
theorem dX5_refusalUnlessHeld_25 : decode cX5_refusalUnlessHeld 25 = .ok (.ireturn, 1) := by decide +kernel
theorem dX5_refusalUnlessHeld_26 : decode cX5_refusalUnlessHeld 26 = .ok (.iload_n 3, 1) := by decide +kernel
theorem dX5_refusalUnlessHeld_27 : decode cX5_refusalUnlessHeld 27 = .ok (.iload_n 2, 1) := by decide +kernel
theorem dX5_refusalUnlessHeld_28 : decode cX5_refusalUnlessHeld 28 = .ok (.if_icmp .ne 7, 3) := by decide +kernel
theorem dX5_refusalUnlessHeld_31 : decode cX5_refusalUnlessHeld 31 = .ok (.iconst 0, 1) := by decide +kernel
theorem dX5_refusalUnlessHeld_32 : decode cX5_refusalUnlessHeld 32 = .ok (.goto 5, 3) := by decide +kernel
theorem dX5_refusalUnlessHeld_35 : decode cX5_refusalUnlessHeld 35 = .ok (.bipush (-12), 2) := by decide +kernel
theorem dX5_refusalUnlessHeld_37 : decode cX5_refusalUnlessHeld 37 = .ok (.ireturn, 1) := by decide +kernel
theorem dX5_placeOfBrokenForm_0 : decode cX5_placeOfBrokenForm 0 = .ok (.iconst 0, 1) := by decide +kernel
theorem dX5_placeOfBrokenForm_1 : decode cX5_placeOfBrokenForm 1 = .ok (.istore_n 1, 1) := by decide +kernel
theorem dX5_placeOfBrokenForm_2 : decode cX5_placeOfBrokenForm 2 = .ok (.aload_n 0, 1) := by decide +kernel
theorem dX5_placeOfBrokenForm_3 : decode cX5_placeOfBrokenForm 3 = .ok (.iload_n 1, 1) := by decide +kernel
theorem dX5_placeOfBrokenForm_4 : decode cX5_placeOfBrokenForm 4 = .ok (.invokevirtual 252, 3) := by decide +kernel
theorem dX5_placeOfBrokenForm_7 : decode cX5_placeOfBrokenForm 7 = .ok (.invokestatic 336, 3) := by decide +kernel
theorem dX5_placeOfBrokenForm_10 : decode cX5_placeOfBrokenForm 10 = .ok (.istore_n 2, 1) := by decide +kernel
theorem dX5_placeOfBrokenForm_11 : decode cX5_placeOfBrokenForm 11 = .ok (.iload_n 2, 1) := by decide +kernel
theorem dX5_placeOfBrokenForm_12 : decode cX5_placeOfBrokenForm 12 = .ok (.ifCond .ge 5, 3) := by decide +kernel
theorem dX5_placeOfBrokenForm_15 : decode cX5_placeOfBrokenForm 15 = .ok (.iload_n 1, 1) := by decide +kernel
theorem dX5_placeOfBrokenForm_16 : decode cX5_placeOfBrokenForm 16 = .ok (.ireturn, 1) := by decide +kernel
theorem dX5_placeOfBrokenForm_17 : decode cX5_placeOfBrokenForm 17 = .ok (.iconst 1, 1) := by decide +kernel
theorem dX5_placeOfBrokenForm_18 : decode cX5_placeOfBrokenForm 18 = .ok (.istore_n 3, 1) := by decide +kernel
theorem dX5_placeOfBrokenForm_19 : decode cX5_placeOfBrokenForm 19 = .ok (.iload_n 3, 1) := by decide +kernel
theorem dX5_placeOfBrokenForm_20 : decode cX5_placeOfBrokenForm 20 = .ok (.iload_n 2, 1) := by decide +kernel
theorem dX5_placeOfBrokenForm_21 : decode cX5_placeOfBrokenForm 21 = .ok (.if_icmp .gt 30, 3) := by decide +kernel
theorem dX5_placeOfBrokenForm_24 : decode cX5_placeOfBrokenForm 24 = .ok (.aload_n 0, 1) := by decide +kernel
theorem dX5_placeOfBrokenForm_25 : decode cX5_placeOfBrokenForm 25 = .ok (.iload_n 1, 1) := by decide +kernel
theorem dX5_placeOfBrokenForm_26 : decode cX5_placeOfBrokenForm 26 = .ok (.iload_n 3, 1) := by decide +kernel
theorem dX5_placeOfBrokenForm_27 : decode cX5_placeOfBrokenForm 27 = .ok (.iadd, 1) := by decide +kernel
theorem dX5_placeOfBrokenForm_28 : decode cX5_placeOfBrokenForm 28 = .ok (.invokevirtual 252, 3) := by decide +kernel
theorem dX5_placeOfBrokenForm_31 : decode cX5_placeOfBrokenForm 31 = .ok (.bipush 48, 2) := by decide +kernel
theorem dX5_placeOfBrokenForm_33 : decode cX5_placeOfBrokenForm 33 = .ok (.bipush 57, 2) := by decide +kernel
theorem dX5_placeOfBrokenForm_35 : decode cX5_placeOfBrokenForm 35 = .ok (.invokestatic 116, 3) := by decide +kernel
theorem dX5_placeOfBrokenForm_38 : decode cX5_placeOfBrokenForm 38 = .ok (.ifCond .ne 7, 3) := by decide +kernel
theorem dX5_placeOfBrokenForm_41 : decode cX5_placeOfBrokenForm 41 = .ok (.iload_n 1, 1) := by decide +kernel
theorem dX5_placeOfBrokenForm_42 : decode cX5_placeOfBrokenForm 42 = .ok (.iload_n 3, 1) := by decide +kernel
theorem dX5_placeOfBrokenForm_43 : decode cX5_placeOfBrokenForm 43 = .ok (.iadd, 1) := by decide +kernel
theorem dX5_placeOfBrokenForm_44 : decode cX5_placeOfBrokenForm 44 = .ok (.ireturn, 1) := by decide +kernel
theorem dX5_placeOfBrokenForm_45 : decode cX5_placeOfBrokenForm 45 = .ok (.iinc 3 1, 3) := by decide +kernel
theorem dX5_placeOfBrokenForm_48 : decode cX5_placeOfBrokenForm 48 = .ok (.goto (-29), 3) := by decide +kernel
theorem dX5_placeOfBrokenForm_51 : decode cX5_placeOfBrokenForm 51 = .ok (.aload_n 0, 1) := by decide +kernel
theorem dX5_placeOfBrokenForm_52 : decode cX5_placeOfBrokenForm 52 = .ok (.iload_n 1, 1) := by decide +kernel
theorem dX5_placeOfBrokenForm_53 : decode cX5_placeOfBrokenForm 53 = .ok (.iload_n 2, 1) := by decide +kernel
theorem dX5_placeOfBrokenForm_54 : decode cX5_placeOfBrokenForm 54 = .ok (.iadd, 1) := by decide +kernel
theorem dX5_placeOfBrokenForm_55 : decode cX5_placeOfBrokenForm 55 = .ok (.iconst 1, 1) := by decide +kernel
theorem dX5_placeOfBrokenForm_56 : decode cX5_placeOfBrokenForm 56 = .ok (.iadd, 1) := by decide +kernel
theorem dX5_placeOfBrokenForm_57 : decode cX5_placeOfBrokenForm 57 = .ok (.invokevirtual 252, 3) := by decide +kernel
theorem dX5_placeOfBrokenForm_60 : decode cX5_placeOfBrokenForm 60 = .ok (.bipush 59, 2) := by decide +kernel
theorem dX5_placeOfBrokenForm_62 : decode cX5_placeOfBrokenForm 62 = .ok (.if_icmp .eq 9, 3) := by decide +kernel
theorem dX5_placeOfBrokenForm_65 : decode cX5_placeOfBrokenForm 65 = .ok (.iload_n 1, 1) := by decide +kernel
theorem dX5_placeOfBrokenForm_66 : decode cX5_placeOfBrokenForm 66 = .ok (.iload_n 2, 1) := by decide +kernel
theorem dX5_placeOfBrokenForm_67 : decode cX5_placeOfBrokenForm 67 = .ok (.iadd, 1) := by decide +kernel
theorem dX5_placeOfBrokenForm_68 : decode cX5_placeOfBrokenForm 68 = .ok (.iconst 1, 1) := by decide +kernel
theorem dX5_placeOfBrokenForm_69 : decode cX5_placeOfBrokenForm 69 = .ok (.iadd, 1) := by decide +kernel
theorem dX5_placeOfBrokenForm_70 : decode cX5_placeOfBrokenForm 70 = .ok (.ireturn, 1) := by decide +kernel
theorem dX5_placeOfBrokenForm_71 : decode cX5_placeOfBrokenForm 71 = .ok (.iload_n 1, 1) := by decide +kernel
theorem dX5_placeOfBrokenForm_72 : decode cX5_placeOfBrokenForm 72 = .ok (.iload_n 2, 1) := by decide +kernel
theorem dX5_placeOfBrokenForm_73 : decode cX5_placeOfBrokenForm 73 = .ok (.iconst 2, 1) := by decide +kernel
theorem dX5_placeOfBrokenForm_74 : decode cX5_placeOfBrokenForm 74 = .ok (.iadd, 1) := by decide +kernel
theorem dX5_placeOfBrokenForm_75 : decode cX5_placeOfBrokenForm 75 = .ok (.iadd, 1) := by decide +kernel
theorem dX5_placeOfBrokenForm_76 : decode cX5_placeOfBrokenForm 76 = .ok (.istore_n 1, 1) := by decide +kernel
theorem dX5_placeOfBrokenForm_77 : decode cX5_placeOfBrokenForm 77 = .ok (.iload_n 1, 1) := by decide +kernel
theorem dX5_placeOfBrokenForm_78 : decode cX5_placeOfBrokenForm 78 = .ok (.aload_n 0, 1) := by decide +kernel
theorem dX5_placeOfBrokenForm_79 : decode cX5_placeOfBrokenForm 79 = .ok (.getfield 207, 3) := by decide +kernel
theorem dX5_placeOfBrokenForm_82 : decode cX5_placeOfBrokenForm 82 = .ok (.if_icmp .lt (-80), 3) := by decide +kernel
theorem dX5_placeOfBrokenForm_85 : decode cX5_placeOfBrokenForm 85 = .ok (.bipush (-4), 2) := by decide +kernel
theorem dX5_placeOfBrokenForm_87 : decode cX5_placeOfBrokenForm 87 = .ok (.ireturn, 1) := by decide +kernel
theorem dX5_digitsBehind_0 : decode cX5_digitsBehind 0 = .ok (.iload_n 0, 1) := by decide +kernel
theorem dX5_digitsBehind_1 : decode cX5_digitsBehind 1 = .ok (.lookupswitch 62 #[(99, 54), (104, 58), (108, 60), (112, 51), (116, 56)], 51) := by decide +kernel
theorem dX5_digitsBehind_52 : decode cX5_digitsBehind 52 = .ok (.bipush 6, 2) := by decide +kernel
theorem dX5_digitsBehind_54 : decode cX5_digitsBehind 54 = .ok (.ireturn, 1) := by decide +kernel
theorem dX5_digitsBehind_55 : decode cX5_digitsBehind 55 = .ok (.iconst 2, 1) := by decide +kernel
theorem dX5_digitsBehind_56 : decode cX5_digitsBehind 56 = .ok (.ireturn, 1) := by decide +kernel
theorem dX5_digitsBehind_57 : decode cX5_digitsBehind 57 = .ok (.iconst 2, 1) := by decide +kernel
theorem dX5_digitsBehind_58 : decode cX5_digitsBehind 58 = .ok (.ireturn, 1) := by decide +kernel
theorem dX5_digitsBehind_59 : decode cX5_digitsBehind 59 = .ok (.iconst 3, 1) := by decide +kernel
theorem dX5_digitsBehind_60 : decode cX5_digitsBehind 60 = .ok (.ireturn, 1) := by decide +kernel
theorem dX5_digitsBehind_61 : decode cX5_digitsBehind 61 = .ok (.iconst 3, 1) := by decide +kernel
theorem dX5_digitsBehind_62 : decode cX5_digitsBehind 62 = .ok (.ireturn, 1) := by decide +kernel
theorem dX5_digitsBehind_63 : decode cX5_digitsBehind 63 = .ok (.bipush (-4), 2) := by decide +kernel
theorem dX5_digitsBehind_65 : decode cX5_digitsBehind 65 = .ok (.ireturn, 1) := by decide +kernel
theorem dX5_tellStatements_0 : decode cX5_tellStatements 0 = .ok (.aload_n 0, 1) := by decide +kernel
theorem dX5_tellStatements_1 : decode cX5_tellStatements 1 = .ok (.getfield 25, 3) := by decide +kernel
theorem dX5_tellStatements_4 : decode cX5_tellStatements 4 = .ok (.aload_n 0, 1) := by decide +kernel
theorem dX5_tellStatements_5 : decode cX5_tellStatements 5 = .ok (.getfield 18, 3) := by decide +kernel
theorem dX5_tellStatements_8 : decode cX5_tellStatements 8 = .ok (.invokevirtual 166, 3) := by decide +kernel
theorem dX5_tellStatements_11 : decode cX5_tellStatements 11 = .ok (.iconst 0, 1) := by decide +kernel
theorem dX5_tellStatements_12 : decode cX5_tellStatements 12 = .ok (.istore_n 2, 1) := by decide +kernel
theorem dX5_tellStatements_13 : decode cX5_tellStatements 13 = .ok (.iconst 0, 1) := by decide +kernel
theorem dX5_tellStatements_14 : decode cX5_tellStatements 14 = .ok (.istore_n 3, 1) := by decide +kernel
theorem dX5_tellStatements_15 : decode cX5_tellStatements 15 = .ok (.iload_n 3, 1) := by decide +kernel
theorem dX5_tellStatements_16 : decode cX5_tellStatements 16 = .ok (.aload_n 1, 1) := by decide +kernel
theorem dX5_tellStatements_17 : decode cX5_tellStatements 17 = .ok (.getfield 207, 3) := by decide +kernel
theorem dX5_tellStatements_20 : decode cX5_tellStatements 20 = .ok (.if_icmp .ge 41, 3) := by decide +kernel
theorem dX5_tellStatements_23 : decode cX5_tellStatements 23 = .ok (.aload_n 0, 1) := by decide +kernel
theorem dX5_tellStatements_24 : decode cX5_tellStatements 24 = .ok (.aload_n 1, 1) := by decide +kernel
theorem dX5_tellStatements_25 : decode cX5_tellStatements 25 = .ok (.iload_n 3, 1) := by decide +kernel
theorem dX5_tellStatements_26 : decode cX5_tellStatements 26 = .ok (.invokevirtual 339, 3) := by decide +kernel
theorem dX5_tellStatements_29 : decode cX5_tellStatements 29 = .ok (.ifCond .ne 9, 3) := by decide +kernel
theorem dX5_tellStatements_32 : decode cX5_tellStatements 32 = .ok (.sipush (-2000), 3) := by decide +kernel
theorem dX5_tellStatements_35 : decode cX5_tellStatements 35 = .ok (.iload_n 3, 1) := by decide +kernel
theorem dX5_tellStatements_36 : decode cX5_tellStatements 36 = .ok (.isub, 1) := by decide +kernel
theorem dX5_tellStatements_37 : decode cX5_tellStatements 37 = .ok (.ireturn, 1) := by decide +kernel
theorem dX5_tellStatements_38 : decode cX5_tellStatements 38 = .ok (.iinc 2 1, 3) := by decide +kernel
theorem dX5_tellStatements_41 : decode cX5_tellStatements 41 = .ok (.iload_n 3, 1) := by decide +kernel
theorem dX5_tellStatements_42 : decode cX5_tellStatements 42 = .ok (.aload_n 1, 1) := by decide +kernel
theorem dX5_tellStatements_43 : decode cX5_tellStatements 43 = .ok (.iload_n 3, 1) := by decide +kernel
theorem dX5_tellStatements_44 : decode cX5_tellStatements 44 = .ok (.invokevirtual 252, 3) := by decide +kernel
theorem dX5_tellStatements_47 : decode cX5_tellStatements 47 = .ok (.invokestatic 336, 3) := by decide +kernel
theorem dX5_tellStatements_50 : decode cX5_tellStatements 50 = .ok (.iconst 0, 1) := by decide +kernel
theorem dX5_tellStatements_51 : decode cX5_tellStatements 51 = .ok (.invokestatic 242, 3) := by decide +kernel
theorem dX5_tellStatements_54 : decode cX5_tellStatements 54 = .ok (.iconst 2, 1) := by decide +kernel
theorem dX5_tellStatements_55 : decode cX5_tellStatements 55 = .ok (.iadd, 1) := by decide +kernel
theorem dX5_tellStatements_56 : decode cX5_tellStatements 56 = .ok (.iadd, 1) := by decide +kernel
theorem dX5_tellStatements_57 : decode cX5_tellStatements 57 = .ok (.istore_n 3, 1) := by decide +kernel
theorem dX5_tellStatements_58 : decode cX5_tellStatements 58 = .ok (.goto (-43), 3) := by decide +kernel
theorem dX5_tellStatements_61 : decode cX5_tellStatements 61 = .ok (.aload_n 0, 1) := by decide +kernel
theorem dX5_tellStatements_62 : decode cX5_tellStatements 62 = .ok (.getfield 18, 3) := by decide +kernel
theorem dX5_tellStatements_65 : decode cX5_tellStatements 65 = .ok (.aload_n 0, 1) := by decide +kernel
theorem dX5_tellStatements_66 : decode cX5_tellStatements 66 = .ok (.getfield 25, 3) := by decide +kernel
theorem dX5_tellStatements_69 : decode cX5_tellStatements 69 = .ok (.invokevirtual 166, 3) := by decide +kernel
theorem dX5_tellStatements_72 : decode cX5_tellStatements 72 = .ok (.iload_n 2, 1) := by decide +kernel
theorem dX5_tellStatements_73 : decode cX5_tellStatements 73 = .ok (.ireturn, 1) := by decide +kernel
theorem dX5_tellStatement_0 : decode cX5_tellStatement 0 = .ok (.aload_n 1, 1) := by decide +kernel
theorem dX5_tellStatement_1 : decode cX5_tellStatement 1 = .ok (.iload_n 2, 1) := by decide +kernel
theorem dX5_tellStatement_2 : decode cX5_tellStatement 2 = .ok (.iconst 1, 1) := by decide +kernel
theorem dX5_tellStatement_3 : decode cX5_tellStatement 3 = .ok (.iadd, 1) := by decide +kernel
theorem dX5_tellStatement_4 : decode cX5_tellStatement 4 = .ok (.invokevirtual 343, 3) := by decide +kernel
theorem dX5_tellStatement_7 : decode cX5_tellStatement 7 = .ok (.istore_n 3, 1) := by decide +kernel
theorem dX5_tellStatement_8 : decode cX5_tellStatement 8 = .ok (.aload_n 1, 1) := by decide +kernel
theorem dX5_tellStatement_9 : decode cX5_tellStatement 9 = .ok (.iload_n 2, 1) := by decide +kernel
theorem dX5_tellStatement_10 : decode cX5_tellStatement 10 = .ok (.iconst 2, 1) := by decide +kernel
theorem dX5_tellStatement_11 : decode cX5_tellStatement 11 = .ok (.iadd, 1) := by decide +kernel
theorem dX5_tellStatement_12 : decode cX5_tellStatement 12 = .ok (.invokevirtual 343, 3) := by decide +kernel
theorem dX5_tellStatement_15 : decode cX5_tellStatement 15 = .ok (.istore 4, 2) := by decide +kernel
theorem dX5_tellStatement_17 : decode cX5_tellStatement 17 = .ok (.aload_n 1, 1) := by decide +kernel
theorem dX5_tellStatement_18 : decode cX5_tellStatement 18 = .ok (.iload_n 2, 1) := by decide +kernel
theorem dX5_tellStatement_19 : decode cX5_tellStatement 19 = .ok (.invokevirtual 252, 3) := by decide +kernel
theorem dX5_tellStatement_22 : decode cX5_tellStatement 22 = .ok (.lookupswitch 142 #[(99, 72), (104, 116), (108, 129), (112, 50), (116, 84)], 50) := by decide +kernel
theorem dX5_tellStatement_72 : decode cX5_tellStatement 72 = .ok (.aload_n 0, 1) := by decide +kernel
theorem dX5_tellStatement_73 : decode cX5_tellStatement 73 = .ok (.iload_n 3, 1) := by decide +kernel
theorem dX5_tellStatement_74 : decode cX5_tellStatement 74 = .ok (.iload 4, 2) := by decide +kernel
theorem dX5_tellStatement_76 : decode cX5_tellStatement 76 = .ok (.aload_n 1, 1) := by decide +kernel
theorem dX5_tellStatement_77 : decode cX5_tellStatement 77 = .ok (.iload_n 2, 1) := by decide +kernel
theorem dX5_tellStatement_78 : decode cX5_tellStatement 78 = .ok (.iconst 3, 1) := by decide +kernel
theorem dX5_tellStatement_79 : decode cX5_tellStatement 79 = .ok (.iadd, 1) := by decide +kernel
theorem dX5_tellStatement_80 : decode cX5_tellStatement 80 = .ok (.invokevirtual 346, 3) := by decide +kernel
theorem dX5_tellStatement_83 : decode cX5_tellStatement 83 = .ok (.aload_n 1, 1) := by decide +kernel
theorem dX5_tellStatement_84 : decode cX5_tellStatement 84 = .ok (.iload_n 2, 1) := by decide +kernel
theorem dX5_tellStatement_85 : decode cX5_tellStatement 85 = .ok (.iconst 5, 1) := by decide +kernel
theorem dX5_tellStatement_86 : decode cX5_tellStatement 86 = .ok (.iadd, 1) := by decide +kernel
theorem dX5_tellStatement_87 : decode cX5_tellStatement 87 = .ok (.invokevirtual 346, 3) := by decide +kernel
theorem dX5_tellStatement_90 : decode cX5_tellStatement 90 = .ok (.invokevirtual 349, 3) := by decide +kernel
theorem dX5_tellStatement_93 : decode cX5_tellStatement 93 = .ok (.ireturn, 1) := by decide +kernel
theorem dX5_tellStatement_94 : decode cX5_tellStatement 94 = .ok (.aload_n 0, 1) := by decide +kernel
theorem dX5_tellStatement_95 : decode cX5_tellStatement 95 = .ok (.aload_n 1, 1) := by decide +kernel
theorem dX5_tellStatement_96 : decode cX5_tellStatement 96 = .ok (.iload_n 2, 1) := by decide +kernel
theorem dX5_tellStatement_97 : decode cX5_tellStatement 97 = .ok (.iconst 1, 1) := by decide +kernel
theorem dX5_tellStatement_98 : decode cX5_tellStatement 98 = .ok (.iadd, 1) := by decide +kernel
theorem dX5_tellStatement_99 : decode cX5_tellStatement 99 = .ok (.invokevirtual 346, 3) := by decide +kernel
theorem dX5_tellStatement_102 : decode cX5_tellStatement 102 = .ok (.invokevirtual 353, 3) := by decide +kernel
theorem dX5_tellStatement_105 : decode cX5_tellStatement 105 = .ok (.ireturn, 1) := by decide +kernel
theorem dX5_tellStatement_106 : decode cX5_tellStatement 106 = .ok (.aload_n 0, 1) := by decide +kernel
theorem dX5_tellStatement_107 : decode cX5_tellStatement 107 = .ok (.getfield 25, 3) := by decide +kernel
theorem dX5_tellStatement_110 : decode cX5_tellStatement 110 = .ok (.iload_n 3, 1) := by decide +kernel
theorem dX5_tellStatement_111 : decode cX5_tellStatement 111 = .ok (.iload 4, 2) := by decide +kernel
theorem dX5_tellStatement_113 : decode cX5_tellStatement 113 = .ok (.invokevirtual 127, 3) := by decide +kernel
theorem dX5_tellStatement_116 : decode cX5_tellStatement 116 = .ok (.ifCond .eq 20, 3) := by decide +kernel
theorem dX5_tellStatement_119 : decode cX5_tellStatement 119 = .ok (.aload_n 0, 1) := by decide +kernel
theorem dX5_tellStatement_120 : decode cX5_tellStatement 120 = .ok (.getfield 25, 3) := by decide +kernel
theorem dX5_tellStatement_123 : decode cX5_tellStatement 123 = .ok (.iload_n 3, 1) := by decide +kernel
theorem dX5_tellStatement_124 : decode cX5_tellStatement 124 = .ok (.iload 4, 2) := by decide +kernel
theorem dX5_tellStatement_126 : decode cX5_tellStatement 126 = .ok (.invokevirtual 130, 3) := by decide +kernel
theorem dX5_tellStatement_129 : decode cX5_tellStatement 129 = .ok (.ifCond .lt 7, 3) := by decide +kernel
theorem dX5_tellStatement_132 : decode cX5_tellStatement 132 = .ok (.iconst 1, 1) := by decide +kernel
theorem dX5_tellStatement_133 : decode cX5_tellStatement 133 = .ok (.goto 4, 3) := by decide +kernel
theorem dX5_tellStatement_136 : decode cX5_tellStatement 136 = .ok (.iconst 0, 1) := by decide +kernel
theorem dX5_tellStatement_137 : decode cX5_tellStatement 137 = .ok (.ireturn, 1) := by decide +kernel
theorem dX5_tellStatement_138 : decode cX5_tellStatement 138 = .ok (.aload_n 0, 1) := by decide +kernel
theorem dX5_tellStatement_139 : decode cX5_tellStatement 139 = .ok (.iload_n 3, 1) := by decide +kernel
theorem dX5_tellStatement_140 : decode cX5_tellStatement 140 = .ok (.aload_n 1, 1) := by decide +kernel
theorem dX5_tellStatement_141 : decode cX5_tellStatement 141 = .ok (.iload_n 2, 1) := by decide +kernel
theorem dX5_tellStatement_142 : decode cX5_tellStatement 142 = .ok (.iconst 2, 1) := by decide +kernel
theorem dX5_tellStatement_143 : decode cX5_tellStatement 143 = .ok (.iadd, 1) := by decide +kernel
theorem dX5_tellStatement_144 : decode cX5_tellStatement 144 = .ok (.invokevirtual 346, 3) := by decide +kernel
theorem dX5_tellStatement_147 : decode cX5_tellStatement 147 = .ok (.invokevirtual 356, 3) := by decide +kernel
theorem dX5_tellStatement_150 : decode cX5_tellStatement 150 = .ok (.ireturn, 1) := by decide +kernel
theorem dX5_tellStatement_151 : decode cX5_tellStatement 151 = .ok (.aload_n 0, 1) := by decide +kernel
theorem dX5_tellStatement_152 : decode cX5_tellStatement 152 = .ok (.iload_n 3, 1) := by decide +kernel
theorem dX5_tellStatement_153 : decode cX5_tellStatement 153 = .ok (.aload_n 1, 1) := by decide +kernel
theorem dX5_tellStatement_154 : decode cX5_tellStatement 154 = .ok (.iload_n 2, 1) := by decide +kernel
theorem dX5_tellStatement_155 : decode cX5_tellStatement 155 = .ok (.iconst 2, 1) := by decide +kernel
theorem dX5_tellStatement_156 : decode cX5_tellStatement 156 = .ok (.iadd, 1) := by decide +kernel
theorem dX5_tellStatement_157 : decode cX5_tellStatement 157 = .ok (.invokevirtual 346, 3) := by decide +kernel
theorem dX5_tellStatement_160 : decode cX5_tellStatement 160 = .ok (.invokevirtual 359, 3) := by decide +kernel
theorem dX5_tellStatement_163 : decode cX5_tellStatement 163 = .ok (.ireturn, 1) := by decide +kernel
theorem dX5_tellStatement_164 : decode cX5_tellStatement 164 = .ok (.iconst 0, 1) := by decide +kernel
theorem dX5_tellStatement_165 : decode cX5_tellStatement 165 = .ok (.ireturn, 1) := by decide +kernel
theorem dX5_tellPerson_0 : decode cX5_tellPerson 0 = .ok (.iload_n 1, 1) := by decide +kernel
theorem dX5_tellPerson_1 : decode cX5_tellPerson 1 = .ok (.invokestatic 283, 3) := by decide +kernel
theorem dX5_tellPerson_4 : decode cX5_tellPerson 4 = .ok (.ifCond .eq 29, 3) := by decide +kernel
theorem dX5_tellPerson_7 : decode cX5_tellPerson 7 = .ok (.iload_n 2, 1) := by decide +kernel
theorem dX5_tellPerson_8 : decode cX5_tellPerson 8 = .ok (.invokestatic 178, 3) := by decide +kernel
theorem dX5_tellPerson_11 : decode cX5_tellPerson 11 = .ok (.ifCond .eq 22, 3) := by decide +kernel
theorem dX5_tellPerson_14 : decode cX5_tellPerson 14 = .ok (.iload_n 3, 1) := by decide +kernel
theorem dX5_tellPerson_15 : decode cX5_tellPerson 15 = .ok (.invokestatic 98, 3) := by decide +kernel
theorem dX5_tellPerson_18 : decode cX5_tellPerson 18 = .ok (.ifCond .eq 15, 3) := by decide +kernel
theorem dX5_tellPerson_21 : decode cX5_tellPerson 21 = .ok (.iload 4, 2) := by decide +kernel
theorem dX5_tellPerson_23 : decode cX5_tellPerson 23 = .ok (.invokestatic 98, 3) := by decide +kernel
theorem dX5_tellPerson_26 : decode cX5_tellPerson 26 = .ok (.ifCond .eq 7, 3) := by decide +kernel
theorem dX5_tellPerson_29 : decode cX5_tellPerson 29 = .ok (.iconst 1, 1) := by decide +kernel
theorem dX5_tellPerson_30 : decode cX5_tellPerson 30 = .ok (.goto 4, 3) := by decide +kernel
theorem dX5_tellPerson_33 : decode cX5_tellPerson 33 = .ok (.iconst 0, 1) := by decide +kernel
theorem dX5_tellPerson_34 : decode cX5_tellPerson 34 = .ok (.istore 5, 2) := by decide +kernel
theorem dX5_tellPerson_36 : decode cX5_tellPerson 36 = .ok (.iload 5, 2) := by decide +kernel
theorem dX5_tellPerson_38 : decode cX5_tellPerson 38 = .ok (.ifCond .eq 26, 3) := by decide +kernel
theorem dX5_tellPerson_41 : decode cX5_tellPerson 41 = .ok (.aload_n 0, 1) := by decide +kernel
theorem dX5_tellPerson_42 : decode cX5_tellPerson 42 = .ok (.getfield 25, 3) := by decide +kernel
theorem dX5_tellPerson_45 : decode cX5_tellPerson 45 = .ok (.getstatic 181, 3) := by decide +kernel
theorem dX5_tellPerson_48 : decode cX5_tellPerson 48 = .ok (.iload_n 1, 1) := by decide +kernel
theorem dX5_tellPerson_49 : decode cX5_tellPerson 49 = .ok (.aaload, 1) := by decide +kernel
theorem dX5_tellPerson_50 : decode cX5_tellPerson 50 = .ok (.iload_n 2, 1) := by decide +kernel
theorem dX5_tellPerson_51 : decode cX5_tellPerson 51 = .ok (.iload_n 3, 1) := by decide +kernel
theorem dX5_tellPerson_52 : decode cX5_tellPerson 52 = .ok (.iload 4, 2) := by decide +kernel
theorem dX5_tellPerson_54 : decode cX5_tellPerson 54 = .ok (.invokevirtual 109, 3) := by decide +kernel
theorem dX5_tellPerson_57 : decode cX5_tellPerson 57 = .ok (.ifCond .eq 7, 3) := by decide +kernel
theorem dX5_tellPerson_60 : decode cX5_tellPerson 60 = .ok (.iconst 1, 1) := by decide +kernel
theorem dX5_tellPerson_61 : decode cX5_tellPerson 61 = .ok (.goto 4, 3) := by decide +kernel
theorem dX5_tellPerson_64 : decode cX5_tellPerson 64 = .ok (.iconst 0, 1) := by decide +kernel
theorem dX5_tellPerson_65 : decode cX5_tellPerson 65 = .ok (.ireturn, 1) := by decide +kernel
theorem dX5_tellSlices_0 : decode cX5_tellSlices 0 = .ok (.iload_n 1, 1) := by decide +kernel
theorem dX5_tellSlices_1 : decode cX5_tellSlices 1 = .ok (.iconst 0, 1) := by decide +kernel
theorem dX5_tellSlices_2 : decode cX5_tellSlices 2 = .ok (.bipush 99, 2) := by decide +kernel
theorem dX5_tellSlices_4 : decode cX5_tellSlices 4 = .ok (.invokestatic 116, 3) := by decide +kernel
theorem dX5_tellSlices_7 : decode cX5_tellSlices 7 = .ok (.ifCond .ne 5, 3) := by decide +kernel
theorem dX5_tellSlices_10 : decode cX5_tellSlices 10 = .ok (.iconst 0, 1) := by decide +kernel
theorem dX5_tellSlices_11 : decode cX5_tellSlices 11 = .ok (.ireturn, 1) := by decide +kernel
theorem dX5_tellSlices_12 : decode cX5_tellSlices 12 = .ok (.aload_n 0, 1) := by decide +kernel
theorem dX5_tellSlices_13 : decode cX5_tellSlices 13 = .ok (.getfield 25, 3) := by decide +kernel
theorem dX5_tellSlices_16 : decode cX5_tellSlices 16 = .ok (.iload_n 1, 1) := by decide +kernel
theorem dX5_tellSlices_17 : decode cX5_tellSlices 17 = .ok (.putfield 120, 3) := by decide +kernel
theorem dX5_tellSlices_20 : decode cX5_tellSlices 20 = .ok (.iconst 1, 1) := by decide +kernel
theorem dX5_tellSlices_21 : decode cX5_tellSlices 21 = .ok (.ireturn, 1) := by decide +kernel
theorem dX5_tellHunger_0 : decode cX5_tellHunger 0 = .ok (.aload_n 0, 1) := by decide +kernel
theorem dX5_tellHunger_1 : decode cX5_tellHunger 1 = .ok (.getfield 25, 3) := by decide +kernel
theorem dX5_tellHunger_4 : decode cX5_tellHunger 4 = .ok (.iload_n 1, 1) := by decide +kernel
theorem dX5_tellHunger_5 : decode cX5_tellHunger 5 = .ok (.invokevirtual 51, 3) := by decide +kernel
theorem dX5_tellHunger_8 : decode cX5_tellHunger 8 = .ok (.ifCond .eq 10, 3) := by decide +kernel
theorem dX5_tellHunger_11 : decode cX5_tellHunger 11 = .ok (.iload_n 2, 1) := by decide +kernel
theorem dX5_tellHunger_12 : decode cX5_tellHunger 12 = .ok (.invokestatic 98, 3) := by decide +kernel
theorem dX5_tellHunger_15 : decode cX5_tellHunger 15 = .ok (.ifCond .ne 5, 3) := by decide +kernel
theorem dX5_tellHunger_18 : decode cX5_tellHunger 18 = .ok (.iconst 0, 1) := by decide +kernel
theorem dX5_tellHunger_19 : decode cX5_tellHunger 19 = .ok (.ireturn, 1) := by decide +kernel
theorem dX5_tellHunger_20 : decode cX5_tellHunger 20 = .ok (.aload_n 0, 1) := by decide +kernel
theorem dX5_tellHunger_21 : decode cX5_tellHunger 21 = .ok (.getfield 25, 3) := by decide +kernel
theorem dX5_tellHunger_24 : decode cX5_tellHunger 24 = .ok (.getfield 55, 3) := by decide +kernel
theorem dX5_tellHunger_27 : decode cX5_tellHunger 27 = .ok (.iload_n 1, 1) := by decide +kernel
theorem dX5_tellHunger_28 : decode cX5_tellHunger 28 = .ok (.aaload, 1) := by decide +kernel
theorem dX5_tellHunger_29 : decode cX5_tellHunger 29 = .ok (.iload_n 2, 1) := by decide +kernel
theorem dX5_tellHunger_30 : decode cX5_tellHunger 30 = .ok (.putfield 74, 3) := by decide +kernel
theorem dX5_tellHunger_33 : decode cX5_tellHunger 33 = .ok (.iconst 1, 1) := by decide +kernel
theorem dX5_tellHunger_34 : decode cX5_tellHunger 34 = .ok (.ireturn, 1) := by decide +kernel
theorem dX5_tellWish_0 : decode cX5_tellWish 0 = .ok (.aload_n 0, 1) := by decide +kernel
theorem dX5_tellWish_1 : decode cX5_tellWish 1 = .ok (.getfield 25, 3) := by decide +kernel
theorem dX5_tellWish_4 : decode cX5_tellWish 4 = .ok (.iload_n 1, 1) := by decide +kernel
theorem dX5_tellWish_5 : decode cX5_tellWish 5 = .ok (.invokevirtual 51, 3) := by decide +kernel
theorem dX5_tellWish_8 : decode cX5_tellWish 8 = .ok (.ifCond .eq 10, 3) := by decide +kernel
theorem dX5_tellWish_11 : decode cX5_tellWish 11 = .ok (.iload_n 2, 1) := by decide +kernel
theorem dX5_tellWish_12 : decode cX5_tellWish 12 = .ok (.invokestatic 98, 3) := by decide +kernel
theorem dX5_tellWish_15 : decode cX5_tellWish 15 = .ok (.ifCond .ne 5, 3) := by decide +kernel
theorem dX5_tellWish_18 : decode cX5_tellWish 18 = .ok (.iconst 0, 1) := by decide +kernel
theorem dX5_tellWish_19 : decode cX5_tellWish 19 = .ok (.ireturn, 1) := by decide +kernel
theorem dX5_tellWish_20 : decode cX5_tellWish 20 = .ok (.aload_n 0, 1) := by decide +kernel
theorem dX5_tellWish_21 : decode cX5_tellWish 21 = .ok (.getfield 25, 3) := by decide +kernel
theorem dX5_tellWish_24 : decode cX5_tellWish 24 = .ok (.getfield 55, 3) := by decide +kernel
theorem dX5_tellWish_27 : decode cX5_tellWish 27 = .ok (.iload_n 1, 1) := by decide +kernel
theorem dX5_tellWish_28 : decode cX5_tellWish 28 = .ok (.aaload, 1) := by decide +kernel
theorem dX5_tellWish_29 : decode cX5_tellWish 29 = .ok (.iload_n 2, 1) := by decide +kernel
theorem dX5_tellWish_30 : decode cX5_tellWish 30 = .ok (.putfield 77, 3) := by decide +kernel
theorem dX5_tellWish_33 : decode cX5_tellWish 33 = .ok (.iconst 1, 1) := by decide +kernel
theorem dX5_tellWish_34 : decode cX5_tellWish 34 = .ok (.ireturn, 1) := by decide +kernel
theorem dX5_joysWithASecond_0 : decode cX5_joysWithASecond 0 = .ok (.aload_n 0, 1) := by decide +kernel
theorem dX5_joysWithASecond_1 : decode cX5_joysWithASecond 1 = .ok (.getfield 25, 3) := by decide +kernel
theorem dX5_joysWithASecond_4 : decode cX5_joysWithASecond 4 = .ok (.aload_n 0, 1) := by decide +kernel
theorem dX5_joysWithASecond_5 : decode cX5_joysWithASecond 5 = .ok (.getfield 18, 3) := by decide +kernel
theorem dX5_joysWithASecond_8 : decode cX5_joysWithASecond 8 = .ok (.invokevirtual 166, 3) := by decide +kernel
theorem dX5_joysWithASecond_11 : decode cX5_joysWithASecond 11 = .ok (.aload_n 0, 1) := by decide +kernel
theorem dX5_joysWithASecond_12 : decode cX5_joysWithASecond 12 = .ok (.getfield 25, 3) := by decide +kernel
theorem dX5_joysWithASecond_15 : decode cX5_joysWithASecond 15 = .ok (.iload_n 1, 1) := by decide +kernel
theorem dX5_joysWithASecond_16 : decode cX5_joysWithASecond 16 = .ok (.iload_n 2, 1) := by decide +kernel
theorem dX5_joysWithASecond_17 : decode cX5_joysWithASecond 17 = .ok (.invokevirtual 130, 3) := by decide +kernel
theorem dX5_joysWithASecond_20 : decode cX5_joysWithASecond 20 = .ok (.istore_n 3, 1) := by decide +kernel
theorem dX5_joysWithASecond_21 : decode cX5_joysWithASecond 21 = .ok (.aload_n 0, 1) := by decide +kernel
theorem dX5_joysWithASecond_22 : decode cX5_joysWithASecond 22 = .ok (.getfield 25, 3) := by decide +kernel
theorem dX5_joysWithASecond_25 : decode cX5_joysWithASecond 25 = .ok (.invokevirtual 146, 3) := by decide +kernel
theorem dX5_joysWithASecond_28 : decode cX5_joysWithASecond 28 = .ok (.istore 4, 2) := by decide +kernel
theorem dX5_joysWithASecond_30 : decode cX5_joysWithASecond 30 = .ok (.iload 4, 2) := by decide +kernel
theorem dX5_joysWithASecond_32 : decode cX5_joysWithASecond 32 = .ok (.ifCond .ge 7, 3) := by decide +kernel
theorem dX5_joysWithASecond_35 : decode cX5_joysWithASecond 35 = .ok (.iload_n 3, 1) := by decide +kernel
theorem dX5_joysWithASecond_36 : decode cX5_joysWithASecond 36 = .ok (.goto 22, 3) := by decide +kernel
theorem dX5_joysWithASecond_39 : decode cX5_joysWithASecond 39 = .ok (.iload_n 3, 1) := by decide +kernel
theorem dX5_joysWithASecond_40 : decode cX5_joysWithASecond 40 = .ok (.aload_n 0, 1) := by decide +kernel
theorem dX5_joysWithASecond_41 : decode cX5_joysWithASecond 41 = .ok (.getfield 25, 3) := by decide +kernel
theorem dX5_joysWithASecond_44 : decode cX5_joysWithASecond 44 = .ok (.iload 4, 2) := by decide +kernel
theorem dX5_joysWithASecond_46 : decode cX5_joysWithASecond 46 = .ok (.bipush 10, 2) := by decide +kernel
theorem dX5_joysWithASecond_48 : decode cX5_joysWithASecond 48 = .ok (.idiv, 1) := by decide +kernel
theorem dX5_joysWithASecond_49 : decode cX5_joysWithASecond 49 = .ok (.iload 4, 2) := by decide +kernel
theorem dX5_joysWithASecond_51 : decode cX5_joysWithASecond 51 = .ok (.bipush 10, 2) := by decide +kernel
theorem dX5_joysWithASecond_53 : decode cX5_joysWithASecond 53 = .ok (.irem, 1) := by decide +kernel
theorem dX5_joysWithASecond_54 : decode cX5_joysWithASecond 54 = .ok (.invokevirtual 137, 3) := by decide +kernel
theorem dX5_joysWithASecond_57 : decode cX5_joysWithASecond 57 = .ok (.iadd, 1) := by decide +kernel
theorem dX5_joysWithASecond_58 : decode cX5_joysWithASecond 58 = .ok (.ireturn, 1) := by decide +kernel
theorem dX5_howManyEatAtAll_0 : decode cX5_howManyEatAtAll 0 = .ok (.iconst 0, 1) := by decide +kernel
theorem dX5_howManyEatAtAll_1 : decode cX5_howManyEatAtAll 1 = .ok (.istore_n 1, 1) := by decide +kernel
theorem dX5_howManyEatAtAll_2 : decode cX5_howManyEatAtAll 2 = .ok (.iconst 0, 1) := by decide +kernel
theorem dX5_howManyEatAtAll_3 : decode cX5_howManyEatAtAll 3 = .ok (.istore_n 2, 1) := by decide +kernel
theorem dX5_howManyEatAtAll_4 : decode cX5_howManyEatAtAll 4 = .ok (.iconst 0, 1) := by decide +kernel
theorem dX5_howManyEatAtAll_5 : decode cX5_howManyEatAtAll 5 = .ok (.istore_n 3, 1) := by decide +kernel
theorem dX5_howManyEatAtAll_6 : decode cX5_howManyEatAtAll 6 = .ok (.iconst 0, 1) := by decide +kernel
theorem dX5_howManyEatAtAll_7 : decode cX5_howManyEatAtAll 7 = .ok (.istore 4, 2) := by decide +kernel
theorem dX5_howManyEatAtAll_9 : decode cX5_howManyEatAtAll 9 = .ok (.iload 4, 2) := by decide +kernel
theorem dX5_howManyEatAtAll_11 : decode cX5_howManyEatAtAll 11 = .ok (.aload_n 0, 1) := by decide +kernel
theorem dX5_howManyEatAtAll_12 : decode cX5_howManyEatAtAll 12 = .ok (.getfield 18, 3) := by decide +kernel
theorem dX5_howManyEatAtAll_15 : decode cX5_howManyEatAtAll 15 = .ok (.getfield 104, 3) := by decide +kernel
theorem dX5_howManyEatAtAll_18 : decode cX5_howManyEatAtAll 18 = .ok (.if_icmp .ge 78, 3) := by decide +kernel
theorem dX5_howManyEatAtAll_21 : decode cX5_howManyEatAtAll 21 = .ok (.aload_n 0, 1) := by decide +kernel
theorem dX5_howManyEatAtAll_22 : decode cX5_howManyEatAtAll 22 = .ok (.getfield 18, 3) := by decide +kernel
theorem dX5_howManyEatAtAll_25 : decode cX5_howManyEatAtAll 25 = .ok (.getfield 55, 3) := by decide +kernel
theorem dX5_howManyEatAtAll_28 : decode cX5_howManyEatAtAll 28 = .ok (.iload 4, 2) := by decide +kernel
theorem dX5_howManyEatAtAll_30 : decode cX5_howManyEatAtAll 30 = .ok (.aaload, 1) := by decide +kernel
theorem dX5_howManyEatAtAll_31 : decode cX5_howManyEatAtAll 31 = .ok (.astore 5, 2) := by decide +kernel
theorem dX5_howManyEatAtAll_33 : decode cX5_howManyEatAtAll 33 = .ok (.aload 5, 2) := by decide +kernel
theorem dX5_howManyEatAtAll_35 : decode cX5_howManyEatAtAll 35 = .ok (.getfield 74, 3) := by decide +kernel
theorem dX5_howManyEatAtAll_38 : decode cX5_howManyEatAtAll 38 = .ok (.ifCond .le 15, 3) := by decide +kernel
theorem dX5_howManyEatAtAll_41 : decode cX5_howManyEatAtAll 41 = .ok (.aload 5, 2) := by decide +kernel
theorem dX5_howManyEatAtAll_43 : decode cX5_howManyEatAtAll 43 = .ok (.getfield 80, 3) := by decide +kernel
theorem dX5_howManyEatAtAll_46 : decode cX5_howManyEatAtAll 46 = .ok (.ifCond .ne 7, 3) := by decide +kernel
theorem dX5_howManyEatAtAll_49 : decode cX5_howManyEatAtAll 49 = .ok (.iconst 1, 1) := by decide +kernel
theorem dX5_howManyEatAtAll_50 : decode cX5_howManyEatAtAll 50 = .ok (.goto 4, 3) := by decide +kernel
theorem dX5_howManyEatAtAll_53 : decode cX5_howManyEatAtAll 53 = .ok (.iconst 0, 1) := by decide +kernel
theorem dX5_howManyEatAtAll_54 : decode cX5_howManyEatAtAll 54 = .ok (.istore 6, 2) := by decide +kernel
theorem dX5_howManyEatAtAll_56 : decode cX5_howManyEatAtAll 56 = .ok (.iload 6, 2) := by decide +kernel
theorem dX5_howManyEatAtAll_58 : decode cX5_howManyEatAtAll 58 = .ok (.ifCond .eq 6, 3) := by decide +kernel
theorem dX5_howManyEatAtAll_61 : decode cX5_howManyEatAtAll 61 = .ok (.iinc 1 1, 3) := by decide +kernel
theorem dX5_howManyEatAtAll_64 : decode cX5_howManyEatAtAll 64 = .ok (.aload 5, 2) := by decide +kernel
theorem dX5_howManyEatAtAll_66 : decode cX5_howManyEatAtAll 66 = .ok (.invokevirtual 248, 3) := by decide +kernel
theorem dX5_howManyEatAtAll_69 : decode cX5_howManyEatAtAll 69 = .ok (.ifCond .eq 21, 3) := by decide +kernel
theorem dX5_howManyEatAtAll_72 : decode cX5_howManyEatAtAll 72 = .ok (.iinc 2 1, 3) := by decide +kernel
theorem dX5_howManyEatAtAll_75 : decode cX5_howManyEatAtAll 75 = .ok (.iload_n 3, 1) := by decide +kernel
theorem dX5_howManyEatAtAll_76 : decode cX5_howManyEatAtAll 76 = .ok (.ifCond .ne 8, 3) := by decide +kernel
theorem dX5_howManyEatAtAll_79 : decode cX5_howManyEatAtAll 79 = .ok (.iload 6, 2) := by decide +kernel
theorem dX5_howManyEatAtAll_81 : decode cX5_howManyEatAtAll 81 = .ok (.ifCond .ne 7, 3) := by decide +kernel
theorem dX5_howManyEatAtAll_84 : decode cX5_howManyEatAtAll 84 = .ok (.iconst 1, 1) := by decide +kernel
theorem dX5_howManyEatAtAll_85 : decode cX5_howManyEatAtAll 85 = .ok (.goto 4, 3) := by decide +kernel
theorem dX5_howManyEatAtAll_88 : decode cX5_howManyEatAtAll 88 = .ok (.iconst 0, 1) := by decide +kernel
theorem dX5_howManyEatAtAll_89 : decode cX5_howManyEatAtAll 89 = .ok (.istore_n 3, 1) := by decide +kernel
theorem dX5_howManyEatAtAll_90 : decode cX5_howManyEatAtAll 90 = .ok (.iinc 4 1, 3) := by decide +kernel
theorem dX5_howManyEatAtAll_93 : decode cX5_howManyEatAtAll 93 = .ok (.goto (-84), 3) := by decide +kernel
theorem dX5_howManyEatAtAll_96 : decode cX5_howManyEatAtAll 96 = .ok (.iload_n 2, 1) := by decide +kernel
theorem dX5_howManyEatAtAll_97 : decode cX5_howManyEatAtAll 97 = .ok (.ifCond .ne 5, 3) := by decide +kernel
theorem dX5_howManyEatAtAll_100 : decode cX5_howManyEatAtAll 100 = .ok (.iconst 0, 1) := by decide +kernel
theorem dX5_howManyEatAtAll_101 : decode cX5_howManyEatAtAll 101 = .ok (.ireturn, 1) := by decide +kernel
theorem dX5_howManyEatAtAll_102 : decode cX5_howManyEatAtAll 102 = .ok (.iload_n 3, 1) := by decide +kernel
theorem dX5_howManyEatAtAll_103 : decode cX5_howManyEatAtAll 103 = .ok (.ifCond .eq 7, 3) := by decide +kernel
theorem dX5_howManyEatAtAll_106 : decode cX5_howManyEatAtAll 106 = .ok (.iload_n 1, 1) := by decide +kernel
theorem dX5_howManyEatAtAll_107 : decode cX5_howManyEatAtAll 107 = .ok (.goto 6, 3) := by decide +kernel
theorem dX5_howManyEatAtAll_110 : decode cX5_howManyEatAtAll 110 = .ok (.iload_n 1, 1) := by decide +kernel
theorem dX5_howManyEatAtAll_111 : decode cX5_howManyEatAtAll 111 = .ok (.iconst 1, 1) := by decide +kernel
theorem dX5_howManyEatAtAll_112 : decode cX5_howManyEatAtAll 112 = .ok (.isub, 1) := by decide +kernel
theorem dX5_howManyEatAtAll_113 : decode cX5_howManyEatAtAll 113 = .ok (.istore 4, 2) := by decide +kernel
theorem dX5_howManyEatAtAll_115 : decode cX5_howManyEatAtAll 115 = .ok (.iload 4, 2) := by decide +kernel
theorem dX5_howManyEatAtAll_117 : decode cX5_howManyEatAtAll 117 = .ok (.aload_n 0, 1) := by decide +kernel
theorem dX5_howManyEatAtAll_118 : decode cX5_howManyEatAtAll 118 = .ok (.getfield 18, 3) := by decide +kernel
theorem dX5_howManyEatAtAll_121 : decode cX5_howManyEatAtAll 121 = .ok (.getfield 120, 3) := by decide +kernel
theorem dX5_howManyEatAtAll_124 : decode cX5_howManyEatAtAll 124 = .ok (.invokestatic 198, 3) := by decide +kernel
theorem dX5_howManyEatAtAll_127 : decode cX5_howManyEatAtAll 127 = .ok (.ireturn, 1) := by decide +kernel
theorem dX5_whoIsLeft_0 : decode cX5_whoIsLeft 0 = .ok (.bipush (-4), 2) := by decide +kernel
theorem dX5_whoIsLeft_2 : decode cX5_whoIsLeft 2 = .ok (.istore_n 1, 1) := by decide +kernel
theorem dX5_whoIsLeft_3 : decode cX5_whoIsLeft 3 = .ok (.bipush 31, 2) := by decide +kernel
theorem dX5_whoIsLeft_5 : decode cX5_whoIsLeft 5 = .ok (.istore_n 2, 1) := by decide +kernel
theorem dX5_whoIsLeft_6 : decode cX5_whoIsLeft 6 = .ok (.iconst 0, 1) := by decide +kernel
theorem dX5_whoIsLeft_7 : decode cX5_whoIsLeft 7 = .ok (.istore_n 3, 1) := by decide +kernel
theorem dX5_whoIsLeft_8 : decode cX5_whoIsLeft 8 = .ok (.iload_n 3, 1) := by decide +kernel
theorem dX5_whoIsLeft_9 : decode cX5_whoIsLeft 9 = .ok (.aload_n 0, 1) := by decide +kernel
theorem dX5_whoIsLeft_10 : decode cX5_whoIsLeft 10 = .ok (.getfield 18, 3) := by decide +kernel
theorem dX5_whoIsLeft_13 : decode cX5_whoIsLeft 13 = .ok (.getfield 104, 3) := by decide +kernel
theorem dX5_whoIsLeft_16 : decode cX5_whoIsLeft 16 = .ok (.if_icmp .ge 45, 3) := by decide +kernel
theorem dX5_whoIsLeft_19 : decode cX5_whoIsLeft 19 = .ok (.aload_n 0, 1) := by decide +kernel
theorem dX5_whoIsLeft_20 : decode cX5_whoIsLeft 20 = .ok (.getfield 18, 3) := by decide +kernel
theorem dX5_whoIsLeft_23 : decode cX5_whoIsLeft 23 = .ok (.getfield 55, 3) := by decide +kernel
theorem dX5_whoIsLeft_26 : decode cX5_whoIsLeft 26 = .ok (.iload_n 3, 1) := by decide +kernel
theorem dX5_whoIsLeft_27 : decode cX5_whoIsLeft 27 = .ok (.aaload, 1) := by decide +kernel
theorem dX5_whoIsLeft_28 : decode cX5_whoIsLeft 28 = .ok (.astore 4, 2) := by decide +kernel
theorem dX5_whoIsLeft_30 : decode cX5_whoIsLeft 30 = .ok (.aload 4, 2) := by decide +kernel
theorem dX5_whoIsLeft_32 : decode cX5_whoIsLeft 32 = .ok (.invokevirtual 248, 3) := by decide +kernel
theorem dX5_whoIsLeft_35 : decode cX5_whoIsLeft 35 = .ok (.ifCond .eq 20, 3) := by decide +kernel
theorem dX5_whoIsLeft_38 : decode cX5_whoIsLeft 38 = .ok (.aload 4, 2) := by decide +kernel
theorem dX5_whoIsLeft_40 : decode cX5_whoIsLeft 40 = .ok (.getfield 74, 3) := by decide +kernel
theorem dX5_whoIsLeft_43 : decode cX5_whoIsLeft 43 = .ok (.iload_n 2, 1) := by decide +kernel
theorem dX5_whoIsLeft_44 : decode cX5_whoIsLeft 44 = .ok (.if_icmp .ge 11, 3) := by decide +kernel
theorem dX5_whoIsLeft_47 : decode cX5_whoIsLeft 47 = .ok (.aload 4, 2) := by decide +kernel
theorem dX5_whoIsLeft_49 : decode cX5_whoIsLeft 49 = .ok (.getfield 74, 3) := by decide +kernel
theorem dX5_whoIsLeft_52 : decode cX5_whoIsLeft 52 = .ok (.istore_n 2, 1) := by decide +kernel
theorem dX5_whoIsLeft_53 : decode cX5_whoIsLeft 53 = .ok (.iload_n 3, 1) := by decide +kernel
theorem dX5_whoIsLeft_54 : decode cX5_whoIsLeft 54 = .ok (.istore_n 1, 1) := by decide +kernel
theorem dX5_whoIsLeft_55 : decode cX5_whoIsLeft 55 = .ok (.iinc 3 1, 3) := by decide +kernel
theorem dX5_whoIsLeft_58 : decode cX5_whoIsLeft 58 = .ok (.goto (-50), 3) := by decide +kernel
theorem dX5_whoIsLeft_61 : decode cX5_whoIsLeft 61 = .ok (.iload_n 1, 1) := by decide +kernel
theorem dX5_whoIsLeft_62 : decode cX5_whoIsLeft 62 = .ok (.ireturn, 1) := by decide +kernel
theorem dX5_mostJoysWatchedBy_0 : decode cX5_mostJoysWatchedBy 0 = .ok (.aload_n 1, 1) := by decide +kernel
theorem dX5_mostJoysWatchedBy_1 : decode cX5_mostJoysWatchedBy 1 = .ok (.getstatic 362, 3) := by decide +kernel
theorem dX5_mostJoysWatchedBy_4 : decode cX5_mostJoysWatchedBy 4 = .ok (.if_acmp .eq 13, 3) := by decide +kernel
theorem dX5_mostJoysWatchedBy_7 : decode cX5_mostJoysWatchedBy 7 = .ok (.aload_n 0, 1) := by decide +kernel
theorem dX5_mostJoysWatchedBy_8 : decode cX5_mostJoysWatchedBy 8 = .ok (.getfield 18, 3) := by decide +kernel
theorem dX5_mostJoysWatchedBy_11 : decode cX5_mostJoysWatchedBy 11 = .ok (.getfield 120, 3) := by decide +kernel
theorem dX5_mostJoysWatchedBy_14 : decode cX5_mostJoysWatchedBy 14 = .ok (.ifCond .ne 5, 3) := by decide +kernel
theorem dX5_mostJoysWatchedBy_17 : decode cX5_mostJoysWatchedBy 17 = .ok (.iconst (-1), 1) := by decide +kernel
theorem dX5_mostJoysWatchedBy_18 : decode cX5_mostJoysWatchedBy 18 = .ok (.ireturn, 1) := by decide +kernel
theorem dX5_mostJoysWatchedBy_19 : decode cX5_mostJoysWatchedBy 19 = .ok (.aload_n 1, 1) := by decide +kernel
theorem dX5_mostJoysWatchedBy_20 : decode cX5_mostJoysWatchedBy 20 = .ok (.iload_n 2, 1) := by decide +kernel
theorem dX5_mostJoysWatchedBy_21 : decode cX5_mostJoysWatchedBy 21 = .ok (.invokevirtual 365, 3) := by decide +kernel
theorem dX5_mostJoysWatchedBy_24 : decode cX5_mostJoysWatchedBy 24 = .ok (.bipush 9, 2) := by decide +kernel
theorem dX5_mostJoysWatchedBy_26 : decode cX5_mostJoysWatchedBy 26 = .ok (.invokestatic 198, 3) := by decide +kernel
theorem dX5_mostJoysWatchedBy_29 : decode cX5_mostJoysWatchedBy 29 = .ok (.istore_n 3, 1) := by decide +kernel
theorem dX5_mostJoysWatchedBy_30 : decode cX5_mostJoysWatchedBy 30 = .ok (.iconst (-1), 1) := by decide +kernel
theorem dX5_mostJoysWatchedBy_31 : decode cX5_mostJoysWatchedBy 31 = .ok (.istore 4, 2) := by decide +kernel
theorem dX5_mostJoysWatchedBy_33 : decode cX5_mostJoysWatchedBy 33 = .ok (.iconst 0, 1) := by decide +kernel
theorem dX5_mostJoysWatchedBy_34 : decode cX5_mostJoysWatchedBy 34 = .ok (.istore 5, 2) := by decide +kernel
theorem dX5_mostJoysWatchedBy_36 : decode cX5_mostJoysWatchedBy 36 = .ok (.iload 5, 2) := by decide +kernel
theorem dX5_mostJoysWatchedBy_38 : decode cX5_mostJoysWatchedBy 38 = .ok (.aload_n 0, 1) := by decide +kernel
theorem dX5_mostJoysWatchedBy_39 : decode cX5_mostJoysWatchedBy 39 = .ok (.getfield 18, 3) := by decide +kernel
theorem dX5_mostJoysWatchedBy_42 : decode cX5_mostJoysWatchedBy 42 = .ok (.getfield 104, 3) := by decide +kernel
theorem dX5_mostJoysWatchedBy_45 : decode cX5_mostJoysWatchedBy 45 = .ok (.if_icmp .ge 47, 3) := by decide +kernel
theorem dX5_mostJoysWatchedBy_48 : decode cX5_mostJoysWatchedBy 48 = .ok (.aload_n 0, 1) := by decide +kernel
theorem dX5_mostJoysWatchedBy_49 : decode cX5_mostJoysWatchedBy 49 = .ok (.getfield 18, 3) := by decide +kernel
theorem dX5_mostJoysWatchedBy_52 : decode cX5_mostJoysWatchedBy 52 = .ok (.getfield 55, 3) := by decide +kernel
theorem dX5_mostJoysWatchedBy_55 : decode cX5_mostJoysWatchedBy 55 = .ok (.iload 5, 2) := by decide +kernel
theorem dX5_mostJoysWatchedBy_57 : decode cX5_mostJoysWatchedBy 57 = .ok (.aaload, 1) := by decide +kernel
theorem dX5_mostJoysWatchedBy_58 : decode cX5_mostJoysWatchedBy 58 = .ok (.getfield 74, 3) := by decide +kernel
theorem dX5_mostJoysWatchedBy_61 : decode cX5_mostJoysWatchedBy 61 = .ok (.ifCond .le 25, 3) := by decide +kernel
theorem dX5_mostJoysWatchedBy_64 : decode cX5_mostJoysWatchedBy 64 = .ok (.iload 4, 2) := by decide +kernel
theorem dX5_mostJoysWatchedBy_66 : decode cX5_mostJoysWatchedBy 66 = .ok (.aload_n 0, 1) := by decide +kernel
theorem dX5_mostJoysWatchedBy_67 : decode cX5_mostJoysWatchedBy 67 = .ok (.getfield 18, 3) := by decide +kernel
theorem dX5_mostJoysWatchedBy_70 : decode cX5_mostJoysWatchedBy 70 = .ok (.getfield 55, 3) := by decide +kernel
theorem dX5_mostJoysWatchedBy_73 : decode cX5_mostJoysWatchedBy 73 = .ok (.iload 5, 2) := by decide +kernel
theorem dX5_mostJoysWatchedBy_75 : decode cX5_mostJoysWatchedBy 75 = .ok (.aaload, 1) := by decide +kernel
theorem dX5_mostJoysWatchedBy_76 : decode cX5_mostJoysWatchedBy 76 = .ok (.invokevirtual 368, 3) := by decide +kernel
theorem dX5_mostJoysWatchedBy_79 : decode cX5_mostJoysWatchedBy 79 = .ok (.iload_n 3, 1) := by decide +kernel
theorem dX5_mostJoysWatchedBy_80 : decode cX5_mostJoysWatchedBy 80 = .ok (.iadd, 1) := by decide +kernel
theorem dX5_mostJoysWatchedBy_81 : decode cX5_mostJoysWatchedBy 81 = .ok (.invokestatic 242, 3) := by decide +kernel
theorem dX5_mostJoysWatchedBy_84 : decode cX5_mostJoysWatchedBy 84 = .ok (.istore 4, 2) := by decide +kernel
theorem dX5_mostJoysWatchedBy_86 : decode cX5_mostJoysWatchedBy 86 = .ok (.iinc 5 1, 3) := by decide +kernel
theorem dX5_mostJoysWatchedBy_89 : decode cX5_mostJoysWatchedBy 89 = .ok (.goto (-53), 3) := by decide +kernel
theorem dX5_mostJoysWatchedBy_92 : decode cX5_mostJoysWatchedBy 92 = .ok (.iload 4, 2) := by decide +kernel
theorem dX5_mostJoysWatchedBy_94 : decode cX5_mostJoysWatchedBy 94 = .ok (.ireturn, 1) := by decide +kernel
theorem dX5_howManyBuy_0 : decode cX5_howManyBuy 0 = .ok (.iconst 0, 1) := by decide +kernel
theorem dX5_howManyBuy_1 : decode cX5_howManyBuy 1 = .ok (.istore_n 2, 1) := by decide +kernel
theorem dX5_howManyBuy_2 : decode cX5_howManyBuy 2 = .ok (.iconst 0, 1) := by decide +kernel
theorem dX5_howManyBuy_3 : decode cX5_howManyBuy 3 = .ok (.istore_n 3, 1) := by decide +kernel
theorem dX5_howManyBuy_4 : decode cX5_howManyBuy 4 = .ok (.iload_n 3, 1) := by decide +kernel
theorem dX5_howManyBuy_5 : decode cX5_howManyBuy 5 = .ok (.aload_n 0, 1) := by decide +kernel
theorem dX5_howManyBuy_6 : decode cX5_howManyBuy 6 = .ok (.getfield 18, 3) := by decide +kernel
theorem dX5_howManyBuy_9 : decode cX5_howManyBuy 9 = .ok (.getfield 104, 3) := by decide +kernel
theorem dX5_howManyBuy_12 : decode cX5_howManyBuy 12 = .ok (.if_icmp .ge 40, 3) := by decide +kernel
theorem dX5_howManyBuy_15 : decode cX5_howManyBuy 15 = .ok (.aload_n 0, 1) := by decide +kernel
theorem dX5_howManyBuy_16 : decode cX5_howManyBuy 16 = .ok (.getfield 18, 3) := by decide +kernel
theorem dX5_howManyBuy_19 : decode cX5_howManyBuy 19 = .ok (.getfield 55, 3) := by decide +kernel
theorem dX5_howManyBuy_22 : decode cX5_howManyBuy 22 = .ok (.iload_n 3, 1) := by decide +kernel
theorem dX5_howManyBuy_23 : decode cX5_howManyBuy 23 = .ok (.aaload, 1) := by decide +kernel
theorem dX5_howManyBuy_24 : decode cX5_howManyBuy 24 = .ok (.astore 4, 2) := by decide +kernel
theorem dX5_howManyBuy_26 : decode cX5_howManyBuy 26 = .ok (.aload 4, 2) := by decide +kernel
theorem dX5_howManyBuy_28 : decode cX5_howManyBuy 28 = .ok (.getfield 74, 3) := by decide +kernel
theorem dX5_howManyBuy_31 : decode cX5_howManyBuy 31 = .ok (.ifCond .le 15, 3) := by decide +kernel
theorem dX5_howManyBuy_34 : decode cX5_howManyBuy 34 = .ok (.aload 4, 2) := by decide +kernel
theorem dX5_howManyBuy_36 : decode cX5_howManyBuy 36 = .ok (.invokevirtual 368, 3) := by decide +kernel
theorem dX5_howManyBuy_39 : decode cX5_howManyBuy 39 = .ok (.iload_n 1, 1) := by decide +kernel
theorem dX5_howManyBuy_40 : decode cX5_howManyBuy 40 = .ok (.if_icmp .lt 6, 3) := by decide +kernel
theorem dX5_howManyBuy_43 : decode cX5_howManyBuy 43 = .ok (.iinc 2 1, 3) := by decide +kernel
theorem dX5_howManyBuy_46 : decode cX5_howManyBuy 46 = .ok (.iinc 3 1, 3) := by decide +kernel
theorem dX5_howManyBuy_49 : decode cX5_howManyBuy 49 = .ok (.goto (-45), 3) := by decide +kernel
theorem dX5_howManyBuy_52 : decode cX5_howManyBuy 52 = .ok (.iload_n 2, 1) := by decide +kernel
theorem dX5_howManyBuy_53 : decode cX5_howManyBuy 53 = .ok (.ireturn, 1) := by decide +kernel
theorem dX5_howManySell_0 : decode cX5_howManySell 0 = .ok (.iconst 0, 1) := by decide +kernel
theorem dX5_howManySell_1 : decode cX5_howManySell 1 = .ok (.istore_n 2, 1) := by decide +kernel
theorem dX5_howManySell_2 : decode cX5_howManySell 2 = .ok (.iconst 0, 1) := by decide +kernel
theorem dX5_howManySell_3 : decode cX5_howManySell 3 = .ok (.istore_n 3, 1) := by decide +kernel
theorem dX5_howManySell_4 : decode cX5_howManySell 4 = .ok (.iload_n 3, 1) := by decide +kernel
theorem dX5_howManySell_5 : decode cX5_howManySell 5 = .ok (.aload_n 0, 1) := by decide +kernel
theorem dX5_howManySell_6 : decode cX5_howManySell 6 = .ok (.getfield 18, 3) := by decide +kernel
theorem dX5_howManySell_9 : decode cX5_howManySell 9 = .ok (.getfield 104, 3) := by decide +kernel
theorem dX5_howManySell_12 : decode cX5_howManySell 12 = .ok (.if_icmp .ge 40, 3) := by decide +kernel
theorem dX5_howManySell_15 : decode cX5_howManySell 15 = .ok (.aload_n 0, 1) := by decide +kernel
theorem dX5_howManySell_16 : decode cX5_howManySell 16 = .ok (.getfield 18, 3) := by decide +kernel
theorem dX5_howManySell_19 : decode cX5_howManySell 19 = .ok (.getfield 55, 3) := by decide +kernel
theorem dX5_howManySell_22 : decode cX5_howManySell 22 = .ok (.iload_n 3, 1) := by decide +kernel
theorem dX5_howManySell_23 : decode cX5_howManySell 23 = .ok (.aaload, 1) := by decide +kernel
theorem dX5_howManySell_24 : decode cX5_howManySell 24 = .ok (.astore 4, 2) := by decide +kernel
theorem dX5_howManySell_26 : decode cX5_howManySell 26 = .ok (.aload 4, 2) := by decide +kernel
theorem dX5_howManySell_28 : decode cX5_howManySell 28 = .ok (.invokevirtual 248, 3) := by decide +kernel
theorem dX5_howManySell_31 : decode cX5_howManySell 31 = .ok (.ifCond .eq 15, 3) := by decide +kernel
theorem dX5_howManySell_34 : decode cX5_howManySell 34 = .ok (.aload 4, 2) := by decide +kernel
theorem dX5_howManySell_36 : decode cX5_howManySell 36 = .ok (.invokevirtual 371, 3) := by decide +kernel
theorem dX5_howManySell_39 : decode cX5_howManySell 39 = .ok (.iload_n 1, 1) := by decide +kernel
theorem dX5_howManySell_40 : decode cX5_howManySell 40 = .ok (.if_icmp .ge 6, 3) := by decide +kernel
theorem dX5_howManySell_43 : decode cX5_howManySell 43 = .ok (.iinc 2 1, 3) := by decide +kernel
theorem dX5_howManySell_46 : decode cX5_howManySell 46 = .ok (.iinc 3 1, 3) := by decide +kernel
theorem dX5_howManySell_49 : decode cX5_howManySell 49 = .ok (.goto (-45), 3) := by decide +kernel
theorem dX5_howManySell_52 : decode cX5_howManySell 52 = .ok (.iload_n 2, 1) := by decide +kernel
theorem dX5_howManySell_53 : decode cX5_howManySell 53 = .ok (.ireturn, 1) := by decide +kernel
theorem dX5_arePairsApart_0 : decode cX5_arePairsApart 0 = .ok (.aload_n 1, 1) := by decide +kernel
theorem dX5_arePairsApart_1 : decode cX5_arePairsApart 1 = .ok (.getfield 207, 3) := by decide +kernel
theorem dX5_arePairsApart_4 : decode cX5_arePairsApart 4 = .ok (.iconst 2, 1) := by decide +kernel
theorem dX5_arePairsApart_5 : decode cX5_arePairsApart 5 = .ok (.irem, 1) := by decide +kernel
theorem dX5_arePairsApart_6 : decode cX5_arePairsApart 6 = .ok (.ifCond .ne 12, 3) := by decide +kernel
theorem dX5_arePairsApart_9 : decode cX5_arePairsApart 9 = .ok (.aload_n 1, 1) := by decide +kernel
theorem dX5_arePairsApart_10 : decode cX5_arePairsApart 10 = .ok (.getfield 207, 3) := by decide +kernel
theorem dX5_arePairsApart_13 : decode cX5_arePairsApart 13 = .ok (.bipush 8, 2) := by decide +kernel
theorem dX5_arePairsApart_15 : decode cX5_arePairsApart 15 = .ok (.if_icmp .le 5, 3) := by decide +kernel
theorem dX5_arePairsApart_18 : decode cX5_arePairsApart 18 = .ok (.iconst 0, 1) := by decide +kernel
theorem dX5_arePairsApart_19 : decode cX5_arePairsApart 19 = .ok (.ireturn, 1) := by decide +kernel
theorem dX5_arePairsApart_20 : decode cX5_arePairsApart 20 = .ok (.iconst 0, 1) := by decide +kernel
theorem dX5_arePairsApart_21 : decode cX5_arePairsApart 21 = .ok (.istore_n 2, 1) := by decide +kernel
theorem dX5_arePairsApart_22 : decode cX5_arePairsApart 22 = .ok (.iconst 0, 1) := by decide +kernel
theorem dX5_arePairsApart_23 : decode cX5_arePairsApart 23 = .ok (.istore_n 3, 1) := by decide +kernel
theorem dX5_arePairsApart_24 : decode cX5_arePairsApart 24 = .ok (.iload_n 3, 1) := by decide +kernel
theorem dX5_arePairsApart_25 : decode cX5_arePairsApart 25 = .ok (.aload_n 1, 1) := by decide +kernel
theorem dX5_arePairsApart_26 : decode cX5_arePairsApart 26 = .ok (.getfield 207, 3) := by decide +kernel
theorem dX5_arePairsApart_29 : decode cX5_arePairsApart 29 = .ok (.if_icmp .ge 47, 3) := by decide +kernel
theorem dX5_arePairsApart_32 : decode cX5_arePairsApart 32 = .ok (.aload_n 1, 1) := by decide +kernel
theorem dX5_arePairsApart_33 : decode cX5_arePairsApart 33 = .ok (.iload_n 3, 1) := by decide +kernel
theorem dX5_arePairsApart_34 : decode cX5_arePairsApart 34 = .ok (.invokevirtual 252, 3) := by decide +kernel
theorem dX5_arePairsApart_37 : decode cX5_arePairsApart 37 = .ok (.istore 4, 2) := by decide +kernel
theorem dX5_arePairsApart_39 : decode cX5_arePairsApart 39 = .ok (.aload_n 0, 1) := by decide +kernel
theorem dX5_arePairsApart_40 : decode cX5_arePairsApart 40 = .ok (.getfield 18, 3) := by decide +kernel
theorem dX5_arePairsApart_43 : decode cX5_arePairsApart 43 = .ok (.iload 4, 2) := by decide +kernel
theorem dX5_arePairsApart_45 : decode cX5_arePairsApart 45 = .ok (.invokevirtual 51, 3) := by decide +kernel
theorem dX5_arePairsApart_48 : decode cX5_arePairsApart 48 = .ok (.ifCond .eq 13, 3) := by decide +kernel
theorem dX5_arePairsApart_51 : decode cX5_arePairsApart 51 = .ok (.iload_n 2, 1) := by decide +kernel
theorem dX5_arePairsApart_52 : decode cX5_arePairsApart 52 = .ok (.iload 4, 2) := by decide +kernel
theorem dX5_arePairsApart_54 : decode cX5_arePairsApart 54 = .ok (.ishr, 1) := by decide +kernel
theorem dX5_arePairsApart_55 : decode cX5_arePairsApart 55 = .ok (.iconst 1, 1) := by decide +kernel
theorem dX5_arePairsApart_56 : decode cX5_arePairsApart 56 = .ok (.iand, 1) := by decide +kernel
theorem dX5_arePairsApart_57 : decode cX5_arePairsApart 57 = .ok (.iconst 1, 1) := by decide +kernel
theorem dX5_arePairsApart_58 : decode cX5_arePairsApart 58 = .ok (.if_icmp .ne 5, 3) := by decide +kernel
theorem dX5_arePairsApart_61 : decode cX5_arePairsApart 61 = .ok (.iconst 0, 1) := by decide +kernel
theorem dX5_arePairsApart_62 : decode cX5_arePairsApart 62 = .ok (.ireturn, 1) := by decide +kernel
theorem dX5_arePairsApart_63 : decode cX5_arePairsApart 63 = .ok (.iload_n 2, 1) := by decide +kernel
theorem dX5_arePairsApart_64 : decode cX5_arePairsApart 64 = .ok (.iconst 1, 1) := by decide +kernel
theorem dX5_arePairsApart_65 : decode cX5_arePairsApart 65 = .ok (.iload 4, 2) := by decide +kernel
theorem dX5_arePairsApart_67 : decode cX5_arePairsApart 67 = .ok (.ishl, 1) := by decide +kernel
theorem dX5_arePairsApart_68 : decode cX5_arePairsApart 68 = .ok (.ior, 1) := by decide +kernel
theorem dX5_arePairsApart_69 : decode cX5_arePairsApart 69 = .ok (.istore_n 2, 1) := by decide +kernel
theorem dX5_arePairsApart_70 : decode cX5_arePairsApart 70 = .ok (.iinc 3 1, 3) := by decide +kernel
theorem dX5_arePairsApart_73 : decode cX5_arePairsApart 73 = .ok (.goto (-49), 3) := by decide +kernel
theorem dX5_arePairsApart_76 : decode cX5_arePairsApart 76 = .ok (.iconst 0, 1) := by decide +kernel
theorem dX5_arePairsApart_77 : decode cX5_arePairsApart 77 = .ok (.istore_n 3, 1) := by decide +kernel
theorem dX5_arePairsApart_78 : decode cX5_arePairsApart 78 = .ok (.iload_n 3, 1) := by decide +kernel
theorem dX5_arePairsApart_79 : decode cX5_arePairsApart 79 = .ok (.aload_n 1, 1) := by decide +kernel
theorem dX5_arePairsApart_80 : decode cX5_arePairsApart 80 = .ok (.getfield 207, 3) := by decide +kernel
theorem dX5_arePairsApart_83 : decode cX5_arePairsApart 83 = .ok (.if_icmp .ge 33, 3) := by decide +kernel
theorem dX5_arePairsApart_86 : decode cX5_arePairsApart 86 = .ok (.aload_n 0, 1) := by decide +kernel
theorem dX5_arePairsApart_87 : decode cX5_arePairsApart 87 = .ok (.getfield 18, 3) := by decide +kernel
theorem dX5_arePairsApart_90 : decode cX5_arePairsApart 90 = .ok (.aload_n 1, 1) := by decide +kernel
theorem dX5_arePairsApart_91 : decode cX5_arePairsApart 91 = .ok (.iload_n 3, 1) := by decide +kernel
theorem dX5_arePairsApart_92 : decode cX5_arePairsApart 92 = .ok (.invokevirtual 252, 3) := by decide +kernel
theorem dX5_arePairsApart_95 : decode cX5_arePairsApart 95 = .ok (.aload_n 1, 1) := by decide +kernel
theorem dX5_arePairsApart_96 : decode cX5_arePairsApart 96 = .ok (.iload_n 3, 1) := by decide +kernel
theorem dX5_arePairsApart_97 : decode cX5_arePairsApart 97 = .ok (.iconst 1, 1) := by decide +kernel
theorem dX5_arePairsApart_98 : decode cX5_arePairsApart 98 = .ok (.iadd, 1) := by decide +kernel
theorem dX5_arePairsApart_99 : decode cX5_arePairsApart 99 = .ok (.invokevirtual 252, 3) := by decide +kernel
theorem dX5_arePairsApart_102 : decode cX5_arePairsApart 102 = .ok (.invokevirtual 134, 3) := by decide +kernel
theorem dX5_arePairsApart_105 : decode cX5_arePairsApart 105 = .ok (.ifCond .ne 5, 3) := by decide +kernel
theorem dX5_arePairsApart_108 : decode cX5_arePairsApart 108 = .ok (.iconst 0, 1) := by decide +kernel
theorem dX5_arePairsApart_109 : decode cX5_arePairsApart 109 = .ok (.ireturn, 1) := by decide +kernel
theorem dX5_arePairsApart_110 : decode cX5_arePairsApart 110 = .ok (.iinc 3 2, 3) := by decide +kernel
theorem dX5_arePairsApart_113 : decode cX5_arePairsApart 113 = .ok (.goto (-35), 3) := by decide +kernel
theorem dX5_arePairsApart_116 : decode cX5_arePairsApart 116 = .ok (.iconst 1, 1) := by decide +kernel
theorem dX5_arePairsApart_117 : decode cX5_arePairsApart 117 = .ok (.ireturn, 1) := by decide +kernel
theorem dX5_gainOfSwap_0 : decode cX5_gainOfSwap 0 = .ok (.aload_n 1, 1) := by decide +kernel
theorem dX5_gainOfSwap_1 : decode cX5_gainOfSwap 1 = .ok (.iconst 2, 1) := by decide +kernel
theorem dX5_gainOfSwap_2 : decode cX5_gainOfSwap 2 = .ok (.iload_n 2, 1) := by decide +kernel
theorem dX5_gainOfSwap_3 : decode cX5_gainOfSwap 3 = .ok (.imul, 1) := by decide +kernel
theorem dX5_gainOfSwap_4 : decode cX5_gainOfSwap 4 = .ok (.invokevirtual 252, 3) := by decide +kernel
theorem dX5_gainOfSwap_7 : decode cX5_gainOfSwap 7 = .ok (.istore 4, 2) := by decide +kernel
theorem dX5_gainOfSwap_9 : decode cX5_gainOfSwap 9 = .ok (.aload_n 1, 1) := by decide +kernel
theorem dX5_gainOfSwap_10 : decode cX5_gainOfSwap 10 = .ok (.iconst 2, 1) := by decide +kernel
theorem dX5_gainOfSwap_11 : decode cX5_gainOfSwap 11 = .ok (.iload_n 2, 1) := by decide +kernel
theorem dX5_gainOfSwap_12 : decode cX5_gainOfSwap 12 = .ok (.imul, 1) := by decide +kernel
theorem dX5_gainOfSwap_13 : decode cX5_gainOfSwap 13 = .ok (.iconst 1, 1) := by decide +kernel
theorem dX5_gainOfSwap_14 : decode cX5_gainOfSwap 14 = .ok (.iadd, 1) := by decide +kernel
theorem dX5_gainOfSwap_15 : decode cX5_gainOfSwap 15 = .ok (.invokevirtual 252, 3) := by decide +kernel
theorem dX5_gainOfSwap_18 : decode cX5_gainOfSwap 18 = .ok (.istore 5, 2) := by decide +kernel
theorem dX5_gainOfSwap_20 : decode cX5_gainOfSwap 20 = .ok (.aload_n 1, 1) := by decide +kernel
theorem dX5_gainOfSwap_21 : decode cX5_gainOfSwap 21 = .ok (.iconst 2, 1) := by decide +kernel
theorem dX5_gainOfSwap_22 : decode cX5_gainOfSwap 22 = .ok (.iload_n 3, 1) := by decide +kernel
theorem dX5_gainOfSwap_23 : decode cX5_gainOfSwap 23 = .ok (.imul, 1) := by decide +kernel
theorem dX5_gainOfSwap_24 : decode cX5_gainOfSwap 24 = .ok (.invokevirtual 252, 3) := by decide +kernel
theorem dX5_gainOfSwap_27 : decode cX5_gainOfSwap 27 = .ok (.istore 6, 2) := by decide +kernel
theorem dX5_gainOfSwap_29 : decode cX5_gainOfSwap 29 = .ok (.aload_n 1, 1) := by decide +kernel
theorem dX5_gainOfSwap_30 : decode cX5_gainOfSwap 30 = .ok (.iconst 2, 1) := by decide +kernel
theorem dX5_gainOfSwap_31 : decode cX5_gainOfSwap 31 = .ok (.iload_n 3, 1) := by decide +kernel
theorem dX5_gainOfSwap_32 : decode cX5_gainOfSwap 32 = .ok (.imul, 1) := by decide +kernel
theorem dX5_gainOfSwap_33 : decode cX5_gainOfSwap 33 = .ok (.iconst 1, 1) := by decide +kernel
theorem dX5_gainOfSwap_34 : decode cX5_gainOfSwap 34 = .ok (.iadd, 1) := by decide +kernel
theorem dX5_gainOfSwap_35 : decode cX5_gainOfSwap 35 = .ok (.invokevirtual 252, 3) := by decide +kernel
theorem dX5_gainOfSwap_38 : decode cX5_gainOfSwap 38 = .ok (.istore 7, 2) := by decide +kernel
theorem dX5_gainOfSwap_40 : decode cX5_gainOfSwap 40 = .ok (.aload_n 0, 1) := by decide +kernel
theorem dX5_gainOfSwap_41 : decode cX5_gainOfSwap 41 = .ok (.getfield 18, 3) := by decide +kernel
theorem dX5_gainOfSwap_44 : decode cX5_gainOfSwap 44 = .ok (.iload 4, 2) := by decide +kernel
theorem dX5_gainOfSwap_46 : decode cX5_gainOfSwap 46 = .ok (.iload 5, 2) := by decide +kernel
theorem dX5_gainOfSwap_48 : decode cX5_gainOfSwap 48 = .ok (.invokevirtual 137, 3) := by decide +kernel
theorem dX5_gainOfSwap_51 : decode cX5_gainOfSwap 51 = .ok (.aload_n 0, 1) := by decide +kernel
theorem dX5_gainOfSwap_52 : decode cX5_gainOfSwap 52 = .ok (.getfield 18, 3) := by decide +kernel
theorem dX5_gainOfSwap_55 : decode cX5_gainOfSwap 55 = .ok (.iload 6, 2) := by decide +kernel
theorem dX5_gainOfSwap_57 : decode cX5_gainOfSwap 57 = .ok (.iload 7, 2) := by decide +kernel
theorem dX5_gainOfSwap_59 : decode cX5_gainOfSwap 59 = .ok (.invokevirtual 137, 3) := by decide +kernel
theorem dX5_gainOfSwap_62 : decode cX5_gainOfSwap 62 = .ok (.iadd, 1) := by decide +kernel
theorem dX5_gainOfSwap_63 : decode cX5_gainOfSwap 63 = .ok (.istore 8, 2) := by decide +kernel
theorem dX5_gainOfSwap_65 : decode cX5_gainOfSwap 65 = .ok (.aload_n 0, 1) := by decide +kernel
theorem dX5_gainOfSwap_66 : decode cX5_gainOfSwap 66 = .ok (.getfield 18, 3) := by decide +kernel
theorem dX5_gainOfSwap_69 : decode cX5_gainOfSwap 69 = .ok (.iload 4, 2) := by decide +kernel
theorem dX5_gainOfSwap_71 : decode cX5_gainOfSwap 71 = .ok (.iload 7, 2) := by decide +kernel
theorem dX5_gainOfSwap_73 : decode cX5_gainOfSwap 73 = .ok (.invokevirtual 137, 3) := by decide +kernel
theorem dX5_gainOfSwap_76 : decode cX5_gainOfSwap 76 = .ok (.aload_n 0, 1) := by decide +kernel
theorem dX5_gainOfSwap_77 : decode cX5_gainOfSwap 77 = .ok (.getfield 18, 3) := by decide +kernel
theorem dX5_gainOfSwap_80 : decode cX5_gainOfSwap 80 = .ok (.iload 6, 2) := by decide +kernel
theorem dX5_gainOfSwap_82 : decode cX5_gainOfSwap 82 = .ok (.iload 5, 2) := by decide +kernel
theorem dX5_gainOfSwap_84 : decode cX5_gainOfSwap 84 = .ok (.invokevirtual 137, 3) := by decide +kernel
theorem dX5_gainOfSwap_87 : decode cX5_gainOfSwap 87 = .ok (.iadd, 1) := by decide +kernel
theorem dX5_gainOfSwap_88 : decode cX5_gainOfSwap 88 = .ok (.iload 8, 2) := by decide +kernel
theorem dX5_gainOfSwap_90 : decode cX5_gainOfSwap 90 = .ok (.isub, 1) := by decide +kernel
theorem dX5_gainOfSwap_91 : decode cX5_gainOfSwap 91 = .ok (.ireturn, 1) := by decide +kernel
theorem dX5_hungerFellSo_0 : decode cX5_hungerFellSo 0 = .ok (.iload_n 1, 1) := by decide +kernel
theorem dX5_hungerFellSo_1 : decode cX5_hungerFellSo 1 = .ok (.istore_n 3, 1) := by decide +kernel
theorem dX5_hungerFellSo_2 : decode cX5_hungerFellSo 2 = .ok (.iconst 0, 1) := by decide +kernel
theorem dX5_hungerFellSo_3 : decode cX5_hungerFellSo 3 = .ok (.istore 4, 2) := by decide +kernel
theorem dX5_hungerFellSo_5 : decode cX5_hungerFellSo 5 = .ok (.iload 4, 2) := by decide +kernel
theorem dX5_hungerFellSo_7 : decode cX5_hungerFellSo 7 = .ok (.aload_n 0, 1) := by decide +kernel
theorem dX5_hungerFellSo_8 : decode cX5_hungerFellSo 8 = .ok (.getfield 207, 3) := by decide +kernel
theorem dX5_hungerFellSo_11 : decode cX5_hungerFellSo 11 = .ok (.if_icmp .ge 34, 3) := by decide +kernel
theorem dX5_hungerFellSo_14 : decode cX5_hungerFellSo 14 = .ok (.iload_n 2, 1) := by decide +kernel
theorem dX5_hungerFellSo_15 : decode cX5_hungerFellSo 15 = .ok (.iload_n 3, 1) := by decide +kernel
theorem dX5_hungerFellSo_16 : decode cX5_hungerFellSo 16 = .ok (.invokestatic 198, 3) := by decide +kernel
theorem dX5_hungerFellSo_19 : decode cX5_hungerFellSo 19 = .ok (.istore 5, 2) := by decide +kernel
theorem dX5_hungerFellSo_21 : decode cX5_hungerFellSo 21 = .ok (.aload_n 0, 1) := by decide +kernel
theorem dX5_hungerFellSo_22 : decode cX5_hungerFellSo 22 = .ok (.iload 4, 2) := by decide +kernel
theorem dX5_hungerFellSo_24 : decode cX5_hungerFellSo 24 = .ok (.invokevirtual 252, 3) := by decide +kernel
theorem dX5_hungerFellSo_27 : decode cX5_hungerFellSo 27 = .ok (.iload 5, 2) := by decide +kernel
theorem dX5_hungerFellSo_29 : decode cX5_hungerFellSo 29 = .ok (.if_icmp .eq 5, 3) := by decide +kernel
theorem dX5_hungerFellSo_32 : decode cX5_hungerFellSo 32 = .ok (.iconst 0, 1) := by decide +kernel
theorem dX5_hungerFellSo_33 : decode cX5_hungerFellSo 33 = .ok (.ireturn, 1) := by decide +kernel
theorem dX5_hungerFellSo_34 : decode cX5_hungerFellSo 34 = .ok (.iload_n 3, 1) := by decide +kernel
theorem dX5_hungerFellSo_35 : decode cX5_hungerFellSo 35 = .ok (.iload 5, 2) := by decide +kernel
theorem dX5_hungerFellSo_37 : decode cX5_hungerFellSo 37 = .ok (.isub, 1) := by decide +kernel
theorem dX5_hungerFellSo_38 : decode cX5_hungerFellSo 38 = .ok (.istore_n 3, 1) := by decide +kernel
theorem dX5_hungerFellSo_39 : decode cX5_hungerFellSo 39 = .ok (.iinc 4 1, 3) := by decide +kernel
theorem dX5_hungerFellSo_42 : decode cX5_hungerFellSo 42 = .ok (.goto (-37), 3) := by decide +kernel
theorem dX5_hungerFellSo_45 : decode cX5_hungerFellSo 45 = .ok (.iconst 1, 1) := by decide +kernel
theorem dX5_hungerFellSo_46 : decode cX5_hungerFellSo 46 = .ok (.ireturn, 1) := by decide +kernel
theorem dX5_shareOf_0 : decode cX5_shareOf 0 = .ok (.aload_n 0, 1) := by decide +kernel
theorem dX5_shareOf_1 : decode cX5_shareOf 1 = .ok (.getfield 18, 3) := by decide +kernel
theorem dX5_shareOf_4 : decode cX5_shareOf 4 = .ok (.invokevirtual 175, 3) := by decide +kernel
theorem dX5_shareOf_7 : decode cX5_shareOf 7 = .ok (.istore_n 2, 1) := by decide +kernel
theorem dX5_shareOf_8 : decode cX5_shareOf 8 = .ok (.iload_n 2, 1) := by decide +kernel
theorem dX5_shareOf_9 : decode cX5_shareOf 9 = .ok (.ifCond .le 39, 3) := by decide +kernel
theorem dX5_shareOf_12 : decode cX5_shareOf 12 = .ok (.aload_n 0, 1) := by decide +kernel
theorem dX5_shareOf_13 : decode cX5_shareOf 13 = .ok (.getfield 18, 3) := by decide +kernel
theorem dX5_shareOf_16 : decode cX5_shareOf 16 = .ok (.iload_n 1, 1) := by decide +kernel
theorem dX5_shareOf_17 : decode cX5_shareOf 17 = .ok (.invokevirtual 51, 3) := by decide +kernel
theorem dX5_shareOf_20 : decode cX5_shareOf 20 = .ok (.ifCond .eq 28, 3) := by decide +kernel
theorem dX5_shareOf_23 : decode cX5_shareOf 23 = .ok (.aload_n 0, 1) := by decide +kernel
theorem dX5_shareOf_24 : decode cX5_shareOf 24 = .ok (.getfield 18, 3) := by decide +kernel
theorem dX5_shareOf_27 : decode cX5_shareOf 27 = .ok (.getfield 120, 3) := by decide +kernel
theorem dX5_shareOf_30 : decode cX5_shareOf 30 = .ok (.aload_n 0, 1) := by decide +kernel
theorem dX5_shareOf_31 : decode cX5_shareOf 31 = .ok (.getfield 18, 3) := by decide +kernel
theorem dX5_shareOf_34 : decode cX5_shareOf 34 = .ok (.getfield 55, 3) := by decide +kernel
theorem dX5_shareOf_37 : decode cX5_shareOf 37 = .ok (.iload_n 1, 1) := by decide +kernel
theorem dX5_shareOf_38 : decode cX5_shareOf 38 = .ok (.aaload, 1) := by decide +kernel
theorem dX5_shareOf_39 : decode cX5_shareOf 39 = .ok (.getfield 74, 3) := by decide +kernel
theorem dX5_shareOf_42 : decode cX5_shareOf 42 = .ok (.imul, 1) := by decide +kernel
theorem dX5_shareOf_43 : decode cX5_shareOf 43 = .ok (.iload_n 2, 1) := by decide +kernel
theorem dX5_shareOf_44 : decode cX5_shareOf 44 = .ok (.idiv, 1) := by decide +kernel
theorem dX5_shareOf_45 : decode cX5_shareOf 45 = .ok (.goto 4, 3) := by decide +kernel
theorem dX5_shareOf_48 : decode cX5_shareOf 48 = .ok (.iconst 0, 1) := by decide +kernel
theorem dX5_shareOf_49 : decode cX5_shareOf 49 = .ok (.ireturn, 1) := by decide +kernel
theorem dX5_canEatWatchedFromOutside_0 : decode cX5_canEatWatchedFromOutside 0 = .ok (.iconst 0, 1) := by decide +kernel
theorem dX5_canEatWatchedFromOutside_1 : decode cX5_canEatWatchedFromOutside 1 = .ok (.istore_n 3, 1) := by decide +kernel
theorem dX5_canEatWatchedFromOutside_2 : decode cX5_canEatWatchedFromOutside 2 = .ok (.iload_n 3, 1) := by decide +kernel
theorem dX5_canEatWatchedFromOutside_3 : decode cX5_canEatWatchedFromOutside 3 = .ok (.aload_n 0, 1) := by decide +kernel
theorem dX5_canEatWatchedFromOutside_4 : decode cX5_canEatWatchedFromOutside 4 = .ok (.getfield 18, 3) := by decide +kernel
theorem dX5_canEatWatchedFromOutside_7 : decode cX5_canEatWatchedFromOutside 7 = .ok (.getfield 104, 3) := by decide +kernel
theorem dX5_canEatWatchedFromOutside_10 : decode cX5_canEatWatchedFromOutside 10 = .ok (.if_icmp .ge 31, 3) := by decide +kernel
theorem dX5_canEatWatchedFromOutside_13 : decode cX5_canEatWatchedFromOutside 13 = .ok (.iload_n 2, 1) := by decide +kernel
theorem dX5_canEatWatchedFromOutside_14 : decode cX5_canEatWatchedFromOutside 14 = .ok (.iload_n 3, 1) := by decide +kernel
theorem dX5_canEatWatchedFromOutside_15 : decode cX5_canEatWatchedFromOutside 15 = .ok (.ishr, 1) := by decide +kernel
theorem dX5_canEatWatchedFromOutside_16 : decode cX5_canEatWatchedFromOutside 16 = .ok (.iconst 1, 1) := by decide +kernel
theorem dX5_canEatWatchedFromOutside_17 : decode cX5_canEatWatchedFromOutside 17 = .ok (.iand, 1) := by decide +kernel
theorem dX5_canEatWatchedFromOutside_18 : decode cX5_canEatWatchedFromOutside 18 = .ok (.ifCond .ne 17, 3) := by decide +kernel
theorem dX5_canEatWatchedFromOutside_21 : decode cX5_canEatWatchedFromOutside 21 = .ok (.aload_n 0, 1) := by decide +kernel
theorem dX5_canEatWatchedFromOutside_22 : decode cX5_canEatWatchedFromOutside 22 = .ok (.getfield 18, 3) := by decide +kernel
theorem dX5_canEatWatchedFromOutside_25 : decode cX5_canEatWatchedFromOutside 25 = .ok (.iload_n 1, 1) := by decide +kernel
theorem dX5_canEatWatchedFromOutside_26 : decode cX5_canEatWatchedFromOutside 26 = .ok (.iload_n 3, 1) := by decide +kernel
theorem dX5_canEatWatchedFromOutside_27 : decode cX5_canEatWatchedFromOutside 27 = .ok (.invokevirtual 134, 3) := by decide +kernel
theorem dX5_canEatWatchedFromOutside_30 : decode cX5_canEatWatchedFromOutside 30 = .ok (.ifCond .eq 5, 3) := by decide +kernel
theorem dX5_canEatWatchedFromOutside_33 : decode cX5_canEatWatchedFromOutside 33 = .ok (.iconst 1, 1) := by decide +kernel
theorem dX5_canEatWatchedFromOutside_34 : decode cX5_canEatWatchedFromOutside 34 = .ok (.ireturn, 1) := by decide +kernel
theorem dX5_canEatWatchedFromOutside_35 : decode cX5_canEatWatchedFromOutside 35 = .ok (.iinc 3 1, 3) := by decide +kernel
theorem dX5_canEatWatchedFromOutside_38 : decode cX5_canEatWatchedFromOutside 38 = .ok (.goto (-36), 3) := by decide +kernel
theorem dX5_canEatWatchedFromOutside_41 : decode cX5_canEatWatchedFromOutside 41 = .ok (.iconst 0, 1) := by decide +kernel
theorem dX5_canEatWatchedFromOutside_42 : decode cX5_canEatWatchedFromOutside 42 = .ok (.ireturn, 1) := by decide +kernel
theorem dX5_choices_0 : decode cX5_choices 0 = .ok (.lconst 1, 1) := by decide +kernel
theorem dX5_choices_1 : decode cX5_choices 1 = .ok (.lstore_n 2, 1) := by decide +kernel
theorem dX5_choices_2 : decode cX5_choices 2 = .ok (.iconst 1, 1) := by decide +kernel
theorem dX5_choices_3 : decode cX5_choices 3 = .ok (.istore 4, 2) := by decide +kernel
theorem dX5_choices_5 : decode cX5_choices 5 = .ok (.iload 4, 2) := by decide +kernel
theorem dX5_choices_7 : decode cX5_choices 7 = .ok (.iload_n 1, 1) := by decide +kernel
theorem dX5_choices_8 : decode cX5_choices 8 = .ok (.if_icmp .gt 23, 3) := by decide +kernel
theorem dX5_choices_11 : decode cX5_choices 11 = .ok (.lload_n 2, 1) := by decide +kernel
theorem dX5_choices_12 : decode cX5_choices 12 = .ok (.iload_n 0, 1) := by decide +kernel
theorem dX5_choices_13 : decode cX5_choices 13 = .ok (.iload_n 1, 1) := by decide +kernel
theorem dX5_choices_14 : decode cX5_choices 14 = .ok (.isub, 1) := by decide +kernel
theorem dX5_choices_15 : decode cX5_choices 15 = .ok (.iload 4, 2) := by decide +kernel
theorem dX5_choices_17 : decode cX5_choices 17 = .ok (.iadd, 1) := by decide +kernel
theorem dX5_choices_18 : decode cX5_choices 18 = .ok (.i2l, 1) := by decide +kernel
theorem dX5_choices_19 : decode cX5_choices 19 = .ok (.lmul, 1) := by decide +kernel
theorem dX5_choices_20 : decode cX5_choices 20 = .ok (.iload 4, 2) := by decide +kernel
theorem dX5_choices_22 : decode cX5_choices 22 = .ok (.i2l, 1) := by decide +kernel
theorem dX5_choices_23 : decode cX5_choices 23 = .ok (.ldiv, 1) := by decide +kernel
theorem dX5_choices_24 : decode cX5_choices 24 = .ok (.lstore_n 2, 1) := by decide +kernel
theorem dX5_choices_25 : decode cX5_choices 25 = .ok (.iinc 4 1, 3) := by decide +kernel
theorem dX5_choices_28 : decode cX5_choices 28 = .ok (.goto (-23), 3) := by decide +kernel
theorem dX5_choices_31 : decode cX5_choices 31 = .ok (.lload_n 2, 1) := by decide +kernel
theorem dX5_choices_32 : decode cX5_choices 32 = .ok (.lreturn, 1) := by decide +kernel
theorem dX5_power_0 : decode cX5_power 0 = .ok (.lconst 1, 1) := by decide +kernel
theorem dX5_power_1 : decode cX5_power 1 = .ok (.lstore_n 2, 1) := by decide +kernel
theorem dX5_power_2 : decode cX5_power 2 = .ok (.iconst 0, 1) := by decide +kernel
theorem dX5_power_3 : decode cX5_power 3 = .ok (.istore 4, 2) := by decide +kernel
theorem dX5_power_5 : decode cX5_power 5 = .ok (.iload 4, 2) := by decide +kernel
theorem dX5_power_7 : decode cX5_power 7 = .ok (.iload_n 1, 1) := by decide +kernel
theorem dX5_power_8 : decode cX5_power 8 = .ok (.if_icmp .ge 14, 3) := by decide +kernel
theorem dX5_power_11 : decode cX5_power 11 = .ok (.lload_n 2, 1) := by decide +kernel
theorem dX5_power_12 : decode cX5_power 12 = .ok (.iload_n 0, 1) := by decide +kernel
theorem dX5_power_13 : decode cX5_power 13 = .ok (.i2l, 1) := by decide +kernel
theorem dX5_power_14 : decode cX5_power 14 = .ok (.lmul, 1) := by decide +kernel
theorem dX5_power_15 : decode cX5_power 15 = .ok (.lstore_n 2, 1) := by decide +kernel
theorem dX5_power_16 : decode cX5_power 16 = .ok (.iinc 4 1, 3) := by decide +kernel
theorem dX5_power_19 : decode cX5_power 19 = .ok (.goto (-14), 3) := by decide +kernel
theorem dX5_power_22 : decode cX5_power 22 = .ok (.lload_n 2, 1) := by decide +kernel
theorem dX5_power_23 : decode cX5_power 23 = .ok (.lreturn, 1) := by decide +kernel
theorem dX5_partInLeastTerms_0 : decode cX5_partInLeastTerms 0 = .ok (.lload_n 0, 1) := by decide +kernel
theorem dX5_partInLeastTerms_1 : decode cX5_partInLeastTerms 1 = .ok (.lload_n 2, 1) := by decide +kernel
theorem dX5_partInLeastTerms_2 : decode cX5_partInLeastTerms 2 = .ok (.invokestatic 374, 3) := by decide +kernel
theorem dX5_partInLeastTerms_5 : decode cX5_partInLeastTerms 5 = .ok (.lconst 1, 1) := by decide +kernel
theorem dX5_partInLeastTerms_6 : decode cX5_partInLeastTerms 6 = .ok (.invokestatic 378, 3) := by decide +kernel
theorem dX5_partInLeastTerms_9 : decode cX5_partInLeastTerms 9 = .ok (.lstore 5, 2) := by decide +kernel
theorem dX5_partInLeastTerms_11 : decode cX5_partInLeastTerms 11 = .ok (.iload 4, 2) := by decide +kernel
theorem dX5_partInLeastTerms_13 : decode cX5_partInLeastTerms 13 = .ok (.ifCond .ne 7, 3) := by decide +kernel
theorem dX5_partInLeastTerms_16 : decode cX5_partInLeastTerms 16 = .ok (.lload_n 0, 1) := by decide +kernel
theorem dX5_partInLeastTerms_17 : decode cX5_partInLeastTerms 17 = .ok (.goto 4, 3) := by decide +kernel
theorem dX5_partInLeastTerms_20 : decode cX5_partInLeastTerms 20 = .ok (.lload_n 2, 1) := by decide +kernel
theorem dX5_partInLeastTerms_21 : decode cX5_partInLeastTerms 21 = .ok (.lload 5, 2) := by decide +kernel
theorem dX5_partInLeastTerms_23 : decode cX5_partInLeastTerms 23 = .ok (.ldiv, 1) := by decide +kernel
theorem dX5_partInLeastTerms_24 : decode cX5_partInLeastTerms 24 = .ok (.lreturn, 1) := by decide +kernel
theorem dX5_commonDivisor_0 : decode cX5_commonDivisor 0 = .ok (.lload_n 0, 1) := by decide +kernel
theorem dX5_commonDivisor_1 : decode cX5_commonDivisor 1 = .ok (.lstore 4, 2) := by decide +kernel
theorem dX5_commonDivisor_3 : decode cX5_commonDivisor 3 = .ok (.lload_n 2, 1) := by decide +kernel
theorem dX5_commonDivisor_4 : decode cX5_commonDivisor 4 = .ok (.lstore 6, 2) := by decide +kernel
theorem dX5_commonDivisor_6 : decode cX5_commonDivisor 6 = .ok (.iconst 0, 1) := by decide +kernel
theorem dX5_commonDivisor_7 : decode cX5_commonDivisor 7 = .ok (.istore 8, 2) := by decide +kernel
theorem dX5_commonDivisor_9 : decode cX5_commonDivisor 9 = .ok (.iload 8, 2) := by decide +kernel
theorem dX5_commonDivisor_11 : decode cX5_commonDivisor 11 = .ok (.bipush 100, 2) := by decide +kernel
theorem dX5_commonDivisor_13 : decode cX5_commonDivisor 13 = .ok (.if_icmp .ge 31, 3) := by decide +kernel
theorem dX5_commonDivisor_16 : decode cX5_commonDivisor 16 = .ok (.lload 6, 2) := by decide +kernel
theorem dX5_commonDivisor_18 : decode cX5_commonDivisor 18 = .ok (.lconst 0, 1) := by decide +kernel
theorem dX5_commonDivisor_19 : decode cX5_commonDivisor 19 = .ok (.lcmp, 1) := by decide +kernel
theorem dX5_commonDivisor_20 : decode cX5_commonDivisor 20 = .ok (.ifCond .eq 24, 3) := by decide +kernel
theorem dX5_commonDivisor_23 : decode cX5_commonDivisor 23 = .ok (.lload 4, 2) := by decide +kernel
theorem dX5_commonDivisor_25 : decode cX5_commonDivisor 25 = .ok (.lload 6, 2) := by decide +kernel
theorem dX5_commonDivisor_27 : decode cX5_commonDivisor 27 = .ok (.lrem, 1) := by decide +kernel
theorem dX5_commonDivisor_28 : decode cX5_commonDivisor 28 = .ok (.lstore 9, 2) := by decide +kernel
theorem dX5_commonDivisor_30 : decode cX5_commonDivisor 30 = .ok (.lload 6, 2) := by decide +kernel
theorem dX5_commonDivisor_32 : decode cX5_commonDivisor 32 = .ok (.lstore 4, 2) := by decide +kernel
theorem dX5_commonDivisor_34 : decode cX5_commonDivisor 34 = .ok (.lload 9, 2) := by decide +kernel
theorem dX5_commonDivisor_36 : decode cX5_commonDivisor 36 = .ok (.lstore 6, 2) := by decide +kernel
theorem dX5_commonDivisor_38 : decode cX5_commonDivisor 38 = .ok (.iinc 8 1, 3) := by decide +kernel
theorem dX5_commonDivisor_41 : decode cX5_commonDivisor 41 = .ok (.goto (-32), 3) := by decide +kernel
theorem dX5_commonDivisor_44 : decode cX5_commonDivisor 44 = .ok (.lload 4, 2) := by decide +kernel
theorem dX5_commonDivisor_46 : decode cX5_commonDivisor 46 = .ok (.lreturn, 1) := by decide +kernel
theorem dX5_nextSeed_0 : decode cX5_nextSeed 0 = .ok (.iload_n 0, 1) := by decide +kernel
theorem dX5_nextSeed_1 : decode cX5_nextSeed 1 = .ok (.ldc_w 380, 3) := by decide +kernel
theorem dX5_nextSeed_4 : decode cX5_nextSeed 4 = .ok (.imul, 1) := by decide +kernel
theorem dX5_nextSeed_5 : decode cX5_nextSeed 5 = .ok (.sipush 12345, 3) := by decide +kernel
theorem dX5_nextSeed_8 : decode cX5_nextSeed 8 = .ok (.iadd, 1) := by decide +kernel
theorem dX5_nextSeed_9 : decode cX5_nextSeed 9 = .ok (.ireturn, 1) := by decide +kernel
theorem dX5_drawn_0 : decode cX5_drawn 0 = .ok (.iload_n 1, 1) := by decide +kernel
theorem dX5_drawn_1 : decode cX5_drawn 1 = .ok (.ifCond .le 17, 3) := by decide +kernel
theorem dX5_drawn_4 : decode cX5_drawn 4 = .ok (.iload_n 0, 1) := by decide +kernel
theorem dX5_drawn_5 : decode cX5_drawn 5 = .ok (.ldc_w 381, 3) := by decide +kernel
theorem dX5_drawn_8 : decode cX5_drawn 8 = .ok (.iand, 1) := by decide +kernel
theorem dX5_drawn_9 : decode cX5_drawn 9 = .ok (.ldc_w 382, 3) := by decide +kernel
theorem dX5_drawn_12 : decode cX5_drawn 12 = .ok (.idiv, 1) := by decide +kernel
theorem dX5_drawn_13 : decode cX5_drawn 13 = .ok (.iload_n 1, 1) := by decide +kernel
theorem dX5_drawn_14 : decode cX5_drawn 14 = .ok (.irem, 1) := by decide +kernel
theorem dX5_drawn_15 : decode cX5_drawn 15 = .ok (.goto 4, 3) := by decide +kernel
theorem dX5_drawn_18 : decode cX5_drawn 18 = .ok (.iconst 0, 1) := by decide +kernel
theorem dX5_drawn_19 : decode cX5_drawn 19 = .ok (.ireturn, 1) := by decide +kernel
end
section
theorem dX6_init_0 : decode cX6_init 0 = .ok (.aload_n 0, 1) := by decide +kernel
theorem dX6_init_1 : decode cX6_init 1 = .ok (.invokespecial 1, 3) := by decide +kernel
theorem dX6_init_4 : decode cX6_init 4 = .ok (.aload_n 0, 1) := by decide +kernel
theorem dX6_init_5 : decode cX6_init 5 = .ok (.bipush 57, 2) := by decide +kernel
theorem dX6_init_7 : decode cX6_init 7 = .ok (.newarray .int, 2) := by decide +kernel
theorem dX6_init_9 : decode cX6_init 9 = .ok (.putfield 9, 3) := by decide +kernel
theorem dX6_init_12 : decode cX6_init 12 = .ok (.aload_n 0, 1) := by decide +kernel
theorem dX6_init_13 : decode cX6_init 13 = .ok (.bipush 57, 2) := by decide +kernel
theorem dX6_init_15 : decode cX6_init 15 = .ok (.newarray .int, 2) := by decide +kernel
theorem dX6_init_17 : decode cX6_init 17 = .ok (.putfield 13, 3) := by decide +kernel
theorem dX6_init_20 : decode cX6_init 20 = .ok (.aload_n 0, 1) := by decide +kernel
theorem dX6_init_21 : decode cX6_init 21 = .ok (.bipush 57, 2) := by decide +kernel
theorem dX6_init_23 : decode cX6_init 23 = .ok (.newarray .int, 2) := by decide +kernel
theorem dX6_init_25 : decode cX6_init 25 = .ok (.putfield 16, 3) := by decide +kernel
theorem dX6_init_28 : decode cX6_init 28 = .ok (.aload_n 0, 1) := by decide +kernel
theorem dX6_init_29 : decode cX6_init 29 = .ok (.bipush 57, 2) := by decide +kernel
theorem dX6_init_31 : decode cX6_init 31 = .ok (.newarray .int, 2) := by decide +kernel
theorem dX6_init_33 : decode cX6_init 33 = .ok (.putfield 19, 3) := by decide +kernel
theorem dX6_init_36 : decode cX6_init 36 = .ok (.aload_n 0, 1) := by decide +kernel
theorem dX6_init_37 : decode cX6_init 37 = .ok (.iconst 4, 1) := by decide +kernel
theorem dX6_init_38 : decode cX6_init 38 = .ok (.newarray .int, 2) := by decide +kernel
theorem dX6_init_40 : decode cX6_init 40 = .ok (.putfield 22, 3) := by decide +kernel
theorem dX6_init_43 : decode cX6_init 43 = .ok (.aload_n 0, 1) := by decide +kernel
theorem dX6_init_44 : decode cX6_init 44 = .ok (.bipush 8, 2) := by decide +kernel
theorem dX6_init_46 : decode cX6_init 46 = .ok (.newarray .int, 2) := by decide +kernel
theorem dX6_init_48 : decode cX6_init 48 = .ok (.putfield 25, 3) := by decide +kernel
theorem dX6_init_51 : decode cX6_init 51 = .ok (.aload_n 0, 1) := by decide +kernel
theorem dX6_init_52 : decode cX6_init 52 = .ok (.bipush 8, 2) := by decide +kernel
theorem dX6_init_54 : decode cX6_init 54 = .ok (.newarray .int, 2) := by decide +kernel
theorem dX6_init_56 : decode cX6_init 56 = .ok (.putfield 28, 3) := by decide +kernel
theorem dX6_init_59 : decode cX6_init 59 = .ok (.aload_n 0, 1) := by decide +kernel
theorem dX6_init_60 : decode cX6_init 60 = .ok (.bipush 8, 2) := by decide +kernel
theorem dX6_init_62 : decode cX6_init 62 = .ok (.newarray .int, 2) := by decide +kernel
theorem dX6_init_64 : decode cX6_init 64 = .ok (.putfield 31, 3) := by decide +kernel
theorem dX6_init_67 : decode cX6_init 67 = .ok (.aload_n 0, 1) := by decide +kernel
theorem dX6_init_68 : decode cX6_init 68 = .ok (.bipush 8, 2) := by decide +kernel
theorem dX6_init_70 : decode cX6_init 70 = .ok (.newarray .int, 2) := by decide +kernel
theorem dX6_init_72 : decode cX6_init 72 = .ok (.putfield 34, 3) := by decide +kernel
theorem dX6_init_75 : decode cX6_init 75 = .ok (.aload_n 0, 1) := by decide +kernel
theorem dX6_init_76 : decode cX6_init 76 = .ok (.bipush 8, 2) := by decide +kernel
theorem dX6_init_78 : decode cX6_init 78 = .ok (.newarray .int, 2) := by decide +kernel
theorem dX6_init_80 : decode cX6_init 80 = .ok (.putfield 37, 3) := by decide +kernel
theorem dX6_init_83 : decode cX6_init 83 = .ok (.aload_n 0, 1) := by decide +kernel
theorem dX6_init_84 : decode cX6_init 84 = .ok (.bipush 8, 2) := by decide +kernel
theorem dX6_init_86 : decode cX6_init 86 = .ok (.newarray .int, 2) := by decide +kernel
theorem dX6_init_88 : decode cX6_init 88 = .ok (.putfield 40, 3) := by decide +kernel
theorem dX6_init_91 : decode cX6_init 91 = .ok (.aload_n 0, 1) := by decide +kernel
theorem dX6_init_92 : decode cX6_init 92 = .ok (.bipush 8, 2) := by decide +kernel
theorem dX6_init_94 : decode cX6_init 94 = .ok (.newarray .int, 2) := by decide +kernel
theorem dX6_init_96 : decode cX6_init 96 = .ok (.putfield 43, 3) := by decide +kernel
theorem dX6_init_99 : decode cX6_init 99 = .ok (.aload_n 0, 1) := by decide +kernel
theorem dX6_init_100 : decode cX6_init 100 = .ok (.sipush 800, 3) := by decide +kernel
theorem dX6_init_103 : decode cX6_init 103 = .ok (.newarray .int, 2) := by decide +kernel
theorem dX6_init_105 : decode cX6_init 105 = .ok (.putfield 46, 3) := by decide +kernel
theorem dX6_init_108 : decode cX6_init 108 = .ok (.return_, 1) := by decide +kernel
theorem dX6_isIn_0 : decode cX6_isIn 0 = .ok (.iload_n 0, 1) := by decide +kernel
theorem dX6_isIn_1 : decode cX6_isIn 1 = .ok (.iload_n 1, 1) := by decide +kernel
theorem dX6_isIn_2 : decode cX6_isIn 2 = .ok (.if_icmp .lt 12, 3) := by decide +kernel
theorem dX6_isIn_5 : decode cX6_isIn 5 = .ok (.iload_n 0, 1) := by decide +kernel
theorem dX6_isIn_6 : decode cX6_isIn 6 = .ok (.iload_n 2, 1) := by decide +kernel
theorem dX6_isIn_7 : decode cX6_isIn 7 = .ok (.if_icmp .gt 7, 3) := by decide +kernel
theorem dX6_isIn_10 : decode cX6_isIn 10 = .ok (.iconst 1, 1) := by decide +kernel
theorem dX6_isIn_11 : decode cX6_isIn 11 = .ok (.goto 4, 3) := by decide +kernel
theorem dX6_isIn_14 : decode cX6_isIn 14 = .ok (.iconst 0, 1) := by decide +kernel
theorem dX6_isIn_15 : decode cX6_isIn 15 = .ok (.ireturn, 1) := by decide +kernel
theorem dX6_least_0 : decode cX6_least 0 = .ok (.iload_n 0, 1) := by decide +kernel
theorem dX6_least_1 : decode cX6_least 1 = .ok (.iload_n 1, 1) := by decide +kernel
theorem dX6_least_2 : decode cX6_least 2 = .ok (.if_icmp .ge 7, 3) := by decide +kernel
theorem dX6_least_5 : decode cX6_least 5 = .ok (.iload_n 0, 1) := by decide +kernel
theorem dX6_least_6 : decode cX6_least 6 = .ok (.goto 4, 3) := by decide +kernel
theorem dX6_least_9 : decode cX6_least 9 = .ok (.iload_n 1, 1) := by decide +kernel
theorem dX6_least_10 : decode cX6_least 10 = .ok (.ireturn, 1) := by decide +kernel
theorem dX6_most_0 : decode cX6_most 0 = .ok (.iload_n 0, 1) := by decide +kernel
theorem dX6_most_1 : decode cX6_most 1 = .ok (.iload_n 1, 1) := by decide +kernel
theorem dX6_most_2 : decode cX6_most 2 = .ok (.if_icmp .le 7, 3) := by decide +kernel
theorem dX6_most_5 : decode cX6_most 5 = .ok (.iload_n 0, 1) := by decide +kernel
theorem dX6_most_6 : decode cX6_most 6 = .ok (.goto 4, 3) := by decide +kernel
theorem dX6_most_9 : decode cX6_most 9 = .ok (.iload_n 1, 1) := by decide +kernel
theorem dX6_most_10 : decode cX6_most 10 = .ok (.ireturn, 1) := by decide +kernel
theorem dX6_copies_0 : decode cX6_copies 0 = .ok (.iconst 0, 1) := by decide +kernel
theorem dX6_copies_1 : decode cX6_copies 1 = .ok (.istore_n 2, 1) := by decide +kernel
theorem dX6_copies_2 : decode cX6_copies 2 = .ok (.iload_n 2, 1) := by decide +kernel
theorem dX6_copies_3 : decode cX6_copies 3 = .ok (.bipush 57, 2) := by decide +kernel
theorem dX6_copies_5 : decode cX6_copies 5 = .ok (.if_icmp .ge 15, 3) := by decide +kernel
theorem dX6_copies_8 : decode cX6_copies 8 = .ok (.aload_n 1, 1) := by decide +kernel
theorem dX6_copies_9 : decode cX6_copies 9 = .ok (.iload_n 2, 1) := by decide +kernel
theorem dX6_copies_10 : decode cX6_copies 10 = .ok (.aload_n 0, 1) := by decide +kernel
theorem dX6_copies_11 : decode cX6_copies 11 = .ok (.iload_n 2, 1) := by decide +kernel
theorem dX6_copies_12 : decode cX6_copies 12 = .ok (.iaload, 1) := by decide +kernel
theorem dX6_copies_13 : decode cX6_copies 13 = .ok (.iastore, 1) := by decide +kernel
theorem dX6_copies_14 : decode cX6_copies 14 = .ok (.iinc 2 1, 3) := by decide +kernel
theorem dX6_copies_17 : decode cX6_copies 17 = .ok (.goto (-15), 3) := by decide +kernel
theorem dX6_copies_20 : decode cX6_copies 20 = .ok (.return_, 1) := by decide +kernel
theorem dX6_of_0 : decode cX6_of 0 = .ok (.iconst 3, 1) := by decide +kernel
theorem dX6_of_1 : decode cX6_of 1 = .ok (.bipush 6, 2) := by decide +kernel
theorem dX6_of_3 : decode cX6_of 3 = .ok (.iload_n 0, 1) := by decide +kernel
theorem dX6_of_4 : decode cX6_of 4 = .ok (.imul, 1) := by decide +kernel
theorem dX6_of_5 : decode cX6_of 5 = .ok (.iadd, 1) := by decide +kernel
theorem dX6_of_6 : decode cX6_of 6 = .ok (.iload_n 1, 1) := by decide +kernel
theorem dX6_of_7 : decode cX6_of 7 = .ok (.iadd, 1) := by decide +kernel
theorem dX6_of_8 : decode cX6_of 8 = .ok (.ireturn, 1) := by decide +kernel
theorem dX6_isPerson_0 : decode cX6_isPerson 0 = .ok (.iload_n 1, 1) := by decide +kernel
theorem dX6_isPerson_1 : decode cX6_isPerson 1 = .ok (.iconst 0, 1) := by decide +kernel
theorem dX6_isPerson_2 : decode cX6_isPerson 2 = .ok (.aload_n 0, 1) := by decide +kernel
theorem dX6_isPerson_3 : decode cX6_isPerson 3 = .ok (.getfield 9, 3) := by decide +kernel
theorem dX6_isPerson_6 : decode cX6_isPerson 6 = .ok (.iconst 0, 1) := by decide +kernel
theorem dX6_isPerson_7 : decode cX6_isPerson 7 = .ok (.iaload, 1) := by decide +kernel
theorem dX6_isPerson_8 : decode cX6_isPerson 8 = .ok (.iconst 1, 1) := by decide +kernel
theorem dX6_isPerson_9 : decode cX6_isPerson 9 = .ok (.isub, 1) := by decide +kernel
theorem dX6_isPerson_10 : decode cX6_isPerson 10 = .ok (.invokestatic 49, 3) := by decide +kernel
theorem dX6_isPerson_13 : decode cX6_isPerson 13 = .ok (.ireturn, 1) := by decide +kernel
theorem dX6_bits_0 : decode cX6_bits 0 = .ok (.iconst 0, 1) := by decide +kernel
theorem dX6_bits_1 : decode cX6_bits 1 = .ok (.istore_n 1, 1) := by decide +kernel
theorem dX6_bits_2 : decode cX6_bits 2 = .ok (.iconst 0, 1) := by decide +kernel
theorem dX6_bits_3 : decode cX6_bits 3 = .ok (.istore_n 2, 1) := by decide +kernel
theorem dX6_bits_4 : decode cX6_bits 4 = .ok (.iload_n 2, 1) := by decide +kernel
theorem dX6_bits_5 : decode cX6_bits 5 = .ok (.bipush 10, 2) := by decide +kernel
theorem dX6_bits_7 : decode cX6_bits 7 = .ok (.if_icmp .ge 17, 3) := by decide +kernel
theorem dX6_bits_10 : decode cX6_bits 10 = .ok (.iload_n 1, 1) := by decide +kernel
theorem dX6_bits_11 : decode cX6_bits 11 = .ok (.iload_n 0, 1) := by decide +kernel
theorem dX6_bits_12 : decode cX6_bits 12 = .ok (.iload_n 2, 1) := by decide +kernel
theorem dX6_bits_13 : decode cX6_bits 13 = .ok (.ishr, 1) := by decide +kernel
theorem dX6_bits_14 : decode cX6_bits 14 = .ok (.iconst 1, 1) := by decide +kernel
theorem dX6_bits_15 : decode cX6_bits 15 = .ok (.iand, 1) := by decide +kernel
theorem dX6_bits_16 : decode cX6_bits 16 = .ok (.iadd, 1) := by decide +kernel
theorem dX6_bits_17 : decode cX6_bits 17 = .ok (.istore_n 1, 1) := by decide +kernel
theorem dX6_bits_18 : decode cX6_bits 18 = .ok (.iinc 2 1, 3) := by decide +kernel
theorem dX6_bits_21 : decode cX6_bits 21 = .ok (.goto (-17), 3) := by decide +kernel
theorem dX6_bits_24 : decode cX6_bits 24 = .ok (.iload_n 1, 1) := by decide +kernel
theorem dX6_bits_25 : decode cX6_bits 25 = .ok (.ireturn, 1) := by decide +kernel
theorem dX6_bite_0 : decode cX6_bite 0 = .ok (.iload_n 0, 1) := by decide +kernel
theorem dX6_bite_1 : decode cX6_bite 1 = .ok (.tableswitch 58 1 7 #[43, 45, 51, 58, 53, 53, 55], 43) := by decide +kernel
theorem dX6_bite_44 : decode cX6_bite 44 = .ok (.iconst 5, 1) := by decide +kernel
theorem dX6_bite_45 : decode cX6_bite 45 = .ok (.ireturn, 1) := by decide +kernel
theorem dX6_bite_46 : decode cX6_bite 46 = .ok (.iconst 3, 1) := by decide +kernel
theorem dX6_bite_47 : decode cX6_bite 47 = .ok (.iload_n 1, 1) := by decide +kernel
theorem dX6_bite_48 : decode cX6_bite 48 = .ok (.iconst 2, 1) := by decide +kernel
theorem dX6_bite_49 : decode cX6_bite 49 = .ok (.idiv, 1) := by decide +kernel
theorem dX6_bite_50 : decode cX6_bite 50 = .ok (.iadd, 1) := by decide +kernel
theorem dX6_bite_51 : decode cX6_bite 51 = .ok (.ireturn, 1) := by decide +kernel
theorem dX6_bite_52 : decode cX6_bite 52 = .ok (.iconst 1, 1) := by decide +kernel
theorem dX6_bite_53 : decode cX6_bite 53 = .ok (.ireturn, 1) := by decide +kernel
theorem dX6_bite_54 : decode cX6_bite 54 = .ok (.iconst 2, 1) := by decide +kernel
theorem dX6_bite_55 : decode cX6_bite 55 = .ok (.ireturn, 1) := by decide +kernel
theorem dX6_bite_56 : decode cX6_bite 56 = .ok (.bipush 9, 2) := by decide +kernel
theorem dX6_bite_58 : decode cX6_bite 58 = .ok (.ireturn, 1) := by decide +kernel
theorem dX6_bite_59 : decode cX6_bite 59 = .ok (.iconst 3, 1) := by decide +kernel
theorem dX6_bite_60 : decode cX6_bite 60 = .ok (.ireturn, 1) := by decide +kernel
theorem dX6_gaze_0 : decode cX6_gaze 0 = .ok (.iload_n 0, 1) := by decide +kernel
theorem dX6_gaze_1 : decode cX6_gaze 1 = .ok (.tableswitch 63 1 7 #[43, 45, 47, 61, 53, 43, 61], 43) := by decide +kernel
theorem dX6_gaze_44 : decode cX6_gaze 44 = .ok (.iconst 1, 1) := by decide +kernel
theorem dX6_gaze_45 : decode cX6_gaze 45 = .ok (.ireturn, 1) := by decide +kernel
theorem dX6_gaze_46 : decode cX6_gaze 46 = .ok (.iconst 4, 1) := by decide +kernel
theorem dX6_gaze_47 : decode cX6_gaze 47 = .ok (.ireturn, 1) := by decide +kernel
theorem dX6_gaze_48 : decode cX6_gaze 48 = .ok (.iconst 2, 1) := by decide +kernel
theorem dX6_gaze_49 : decode cX6_gaze 49 = .ok (.iload_n 1, 1) := by decide +kernel
theorem dX6_gaze_50 : decode cX6_gaze 50 = .ok (.iconst 3, 1) := by decide +kernel
theorem dX6_gaze_51 : decode cX6_gaze 51 = .ok (.idiv, 1) := by decide +kernel
theorem dX6_gaze_52 : decode cX6_gaze 52 = .ok (.iadd, 1) := by decide +kernel
theorem dX6_gaze_53 : decode cX6_gaze 53 = .ok (.ireturn, 1) := by decide +kernel
theorem dX6_gaze_54 : decode cX6_gaze 54 = .ok (.iconst 2, 1) := by decide +kernel
theorem dX6_gaze_55 : decode cX6_gaze 55 = .ok (.iconst 2, 1) := by decide +kernel
theorem dX6_gaze_56 : decode cX6_gaze 56 = .ok (.iload_n 1, 1) := by decide +kernel
theorem dX6_gaze_57 : decode cX6_gaze 57 = .ok (.iconst 3, 1) := by decide +kernel
theorem dX6_gaze_58 : decode cX6_gaze 58 = .ok (.idiv, 1) := by decide +kernel
theorem dX6_gaze_59 : decode cX6_gaze 59 = .ok (.iadd, 1) := by decide +kernel
theorem dX6_gaze_60 : decode cX6_gaze 60 = .ok (.imul, 1) := by decide +kernel
theorem dX6_gaze_61 : decode cX6_gaze 61 = .ok (.ireturn, 1) := by decide +kernel
theorem dX6_gaze_62 : decode cX6_gaze 62 = .ok (.iconst 0, 1) := by decide +kernel
theorem dX6_gaze_63 : decode cX6_gaze 63 = .ok (.ireturn, 1) := by decide +kernel
theorem dX6_gaze_64 : decode cX6_gaze 64 = .ok (.iconst 2, 1) := by decide +kernel
theorem dX6_gaze_65 : decode cX6_gaze 65 = .ok (.ireturn, 1) := by decide +kernel
theorem dX6_shy_0 : decode cX6_shy 0 = .ok (.iload_n 0, 1) := by decide +kernel
theorem dX6_shy_1 : decode cX6_shy 1 = .ok (.bipush 6, 2) := by decide +kernel
theorem dX6_shy_3 : decode cX6_shy 3 = .ok (.if_icmp .ne 7, 3) := by decide +kernel
theorem dX6_shy_6 : decode cX6_shy 6 = .ok (.iconst 2, 1) := by decide +kernel
theorem dX6_shy_7 : decode cX6_shy 7 = .ok (.goto 18, 3) := by decide +kernel
theorem dX6_shy_10 : decode cX6_shy 10 = .ok (.iload_n 0, 1) := by decide +kernel
theorem dX6_shy_11 : decode cX6_shy 11 = .ok (.iconst 1, 1) := by decide +kernel
theorem dX6_shy_12 : decode cX6_shy 12 = .ok (.if_icmp .eq 8, 3) := by decide +kernel
theorem dX6_shy_15 : decode cX6_shy 15 = .ok (.iload_n 0, 1) := by decide +kernel
theorem dX6_shy_16 : decode cX6_shy 16 = .ok (.iconst 2, 1) := by decide +kernel
theorem dX6_shy_17 : decode cX6_shy 17 = .ok (.if_icmp .ne 7, 3) := by decide +kernel
theorem dX6_shy_20 : decode cX6_shy 20 = .ok (.iconst 1, 1) := by decide +kernel
theorem dX6_shy_21 : decode cX6_shy 21 = .ok (.goto 4, 3) := by decide +kernel
theorem dX6_shy_24 : decode cX6_shy 24 = .ok (.iconst 0, 1) := by decide +kernel
theorem dX6_shy_25 : decode cX6_shy 25 = .ok (.ireturn, 1) := by decide +kernel
theorem dX6_bites_0 : decode cX6_bites 0 = .ok (.aload_n 0, 1) := by decide +kernel
theorem dX6_bites_1 : decode cX6_bites 1 = .ok (.iload_n 1, 1) := by decide +kernel
theorem dX6_bites_2 : decode cX6_bites 2 = .ok (.iconst 2, 1) := by decide +kernel
theorem dX6_bites_3 : decode cX6_bites 3 = .ok (.invokestatic 53, 3) := by decide +kernel
theorem dX6_bites_6 : decode cX6_bites 6 = .ok (.iaload, 1) := by decide +kernel
theorem dX6_bites_7 : decode cX6_bites 7 = .ok (.aload_n 0, 1) := by decide +kernel
theorem dX6_bites_8 : decode cX6_bites 8 = .ok (.iload_n 1, 1) := by decide +kernel
theorem dX6_bites_9 : decode cX6_bites 9 = .ok (.iconst 0, 1) := by decide +kernel
theorem dX6_bites_10 : decode cX6_bites 10 = .ok (.invokestatic 53, 3) := by decide +kernel
theorem dX6_bites_13 : decode cX6_bites 13 = .ok (.iaload, 1) := by decide +kernel
theorem dX6_bites_14 : decode cX6_bites 14 = .ok (.aload_n 0, 1) := by decide +kernel
theorem dX6_bites_15 : decode cX6_bites 15 = .ok (.iload_n 1, 1) := by decide +kernel
theorem dX6_bites_16 : decode cX6_bites 16 = .ok (.iconst 1, 1) := by decide +kernel
theorem dX6_bites_17 : decode cX6_bites 17 = .ok (.invokestatic 53, 3) := by decide +kernel
theorem dX6_bites_20 : decode cX6_bites 20 = .ok (.iaload, 1) := by decide +kernel
theorem dX6_bites_21 : decode cX6_bites 21 = .ok (.invokestatic 57, 3) := by decide +kernel
theorem dX6_bites_24 : decode cX6_bites 24 = .ok (.invokestatic 60, 3) := by decide +kernel
theorem dX6_bites_27 : decode cX6_bites 27 = .ok (.ireturn, 1) := by decide +kernel
theorem dX6_gazes_0 : decode cX6_gazes 0 = .ok (.aload_n 0, 1) := by decide +kernel
theorem dX6_gazes_1 : decode cX6_gazes 1 = .ok (.iload_n 1, 1) := by decide +kernel
theorem dX6_gazes_2 : decode cX6_gazes 2 = .ok (.iconst 3, 1) := by decide +kernel
theorem dX6_gazes_3 : decode cX6_gazes 3 = .ok (.invokestatic 53, 3) := by decide +kernel
theorem dX6_gazes_6 : decode cX6_gazes 6 = .ok (.iaload, 1) := by decide +kernel
theorem dX6_gazes_7 : decode cX6_gazes 7 = .ok (.aload_n 0, 1) := by decide +kernel
theorem dX6_gazes_8 : decode cX6_gazes 8 = .ok (.iload_n 1, 1) := by decide +kernel
theorem dX6_gazes_9 : decode cX6_gazes 9 = .ok (.iconst 0, 1) := by decide +kernel
theorem dX6_gazes_10 : decode cX6_gazes 10 = .ok (.invokestatic 53, 3) := by decide +kernel
theorem dX6_gazes_13 : decode cX6_gazes 13 = .ok (.iaload, 1) := by decide +kernel
theorem dX6_gazes_14 : decode cX6_gazes 14 = .ok (.aload_n 0, 1) := by decide +kernel
theorem dX6_gazes_15 : decode cX6_gazes 15 = .ok (.iload_n 1, 1) := by decide +kernel
theorem dX6_gazes_16 : decode cX6_gazes 16 = .ok (.iconst 1, 1) := by decide +kernel
theorem dX6_gazes_17 : decode cX6_gazes 17 = .ok (.invokestatic 53, 3) := by decide +kernel
theorem dX6_gazes_20 : decode cX6_gazes 20 = .ok (.iaload, 1) := by decide +kernel
theorem dX6_gazes_21 : decode cX6_gazes 21 = .ok (.invokestatic 63, 3) := by decide +kernel
theorem dX6_gazes_24 : decode cX6_gazes 24 = .ok (.invokestatic 60, 3) := by decide +kernel
theorem dX6_gazes_27 : decode cX6_gazes 27 = .ok (.ireturn, 1) := by decide +kernel
theorem dX6_canLook_0 : decode cX6_canLook 0 = .ok (.aload_n 0, 1) := by decide +kernel
theorem dX6_canLook_1 : decode cX6_canLook 1 = .ok (.iload_n 1, 1) := by decide +kernel
theorem dX6_canLook_2 : decode cX6_canLook 2 = .ok (.iconst 4, 1) := by decide +kernel
theorem dX6_canLook_3 : decode cX6_canLook 3 = .ok (.invokestatic 53, 3) := by decide +kernel
theorem dX6_canLook_6 : decode cX6_canLook 6 = .ok (.iaload, 1) := by decide +kernel
theorem dX6_canLook_7 : decode cX6_canLook 7 = .ok (.ifCond .ne 18, 3) := by decide +kernel
theorem dX6_canLook_10 : decode cX6_canLook 10 = .ok (.aload_n 0, 1) := by decide +kernel
theorem dX6_canLook_11 : decode cX6_canLook 11 = .ok (.iload_n 1, 1) := by decide +kernel
theorem dX6_canLook_12 : decode cX6_canLook 12 = .ok (.iconst 0, 1) := by decide +kernel
theorem dX6_canLook_13 : decode cX6_canLook 13 = .ok (.invokestatic 53, 3) := by decide +kernel
theorem dX6_canLook_16 : decode cX6_canLook 16 = .ok (.iaload, 1) := by decide +kernel
theorem dX6_canLook_17 : decode cX6_canLook 17 = .ok (.iconst 4, 1) := by decide +kernel
theorem dX6_canLook_18 : decode cX6_canLook 18 = .ok (.if_icmp .eq 7, 3) := by decide +kernel
theorem dX6_canLook_21 : decode cX6_canLook 21 = .ok (.iconst 1, 1) := by decide +kernel
theorem dX6_canLook_22 : decode cX6_canLook 22 = .ok (.goto 4, 3) := by decide +kernel
theorem dX6_canLook_25 : decode cX6_canLook 25 = .ok (.iconst 0, 1) := by decide +kernel
theorem dX6_canLook_26 : decode cX6_canLook 26 = .ok (.ireturn, 1) := by decide +kernel
theorem dX6_canEat_0 : decode cX6_canEat 0 = .ok (.iload_n 1, 1) := by decide +kernel
theorem dX6_canEat_1 : decode cX6_canEat 1 = .ok (.iload_n 2, 1) := by decide +kernel
theorem dX6_canEat_2 : decode cX6_canEat 2 = .ok (.if_icmp .eq 31, 3) := by decide +kernel
theorem dX6_canEat_5 : decode cX6_canEat 5 = .ok (.aload_n 0, 1) := by decide +kernel
theorem dX6_canEat_6 : decode cX6_canEat 6 = .ok (.iconst 1, 1) := by decide +kernel
theorem dX6_canEat_7 : decode cX6_canEat 7 = .ok (.iaload, 1) := by decide +kernel
theorem dX6_canEat_8 : decode cX6_canEat 8 = .ok (.ifCond .le 25, 3) := by decide +kernel
theorem dX6_canEat_11 : decode cX6_canEat 11 = .ok (.aload_n 0, 1) := by decide +kernel
theorem dX6_canEat_12 : decode cX6_canEat 12 = .ok (.iload_n 1, 1) := by decide +kernel
theorem dX6_canEat_13 : decode cX6_canEat 13 = .ok (.iconst 2, 1) := by decide +kernel
theorem dX6_canEat_14 : decode cX6_canEat 14 = .ok (.invokestatic 53, 3) := by decide +kernel
theorem dX6_canEat_17 : decode cX6_canEat 17 = .ok (.iaload, 1) := by decide +kernel
theorem dX6_canEat_18 : decode cX6_canEat 18 = .ok (.ifCond .le 15, 3) := by decide +kernel
theorem dX6_canEat_21 : decode cX6_canEat 21 = .ok (.aload_n 0, 1) := by decide +kernel
theorem dX6_canEat_22 : decode cX6_canEat 22 = .ok (.iload_n 2, 1) := by decide +kernel
theorem dX6_canEat_23 : decode cX6_canEat 23 = .ok (.invokestatic 66, 3) := by decide +kernel
theorem dX6_canEat_26 : decode cX6_canEat 26 = .ok (.ifCond .eq 7, 3) := by decide +kernel
theorem dX6_canEat_29 : decode cX6_canEat 29 = .ok (.iconst 1, 1) := by decide +kernel
theorem dX6_canEat_30 : decode cX6_canEat 30 = .ok (.goto 4, 3) := by decide +kernel
theorem dX6_canEat_33 : decode cX6_canEat 33 = .ok (.iconst 0, 1) := by decide +kernel
theorem dX6_canEat_34 : decode cX6_canEat 34 = .ok (.ireturn, 1) := by decide +kernel
theorem dX6_eaterJoy_0 : decode cX6_eaterJoy 0 = .ok (.iconst 0, 1) := by decide +kernel
theorem dX6_eaterJoy_1 : decode cX6_eaterJoy 1 = .ok (.aload_n 0, 1) := by decide +kernel
theorem dX6_eaterJoy_2 : decode cX6_eaterJoy 2 = .ok (.iload_n 1, 1) := by decide +kernel
theorem dX6_eaterJoy_3 : decode cX6_eaterJoy 3 = .ok (.invokestatic 70, 3) := by decide +kernel
theorem dX6_eaterJoy_6 : decode cX6_eaterJoy 6 = .ok (.aload_n 0, 1) := by decide +kernel
theorem dX6_eaterJoy_7 : decode cX6_eaterJoy 7 = .ok (.iload_n 1, 1) := by decide +kernel
theorem dX6_eaterJoy_8 : decode cX6_eaterJoy 8 = .ok (.iconst 0, 1) := by decide +kernel
theorem dX6_eaterJoy_9 : decode cX6_eaterJoy 9 = .ok (.invokestatic 53, 3) := by decide +kernel
theorem dX6_eaterJoy_12 : decode cX6_eaterJoy 12 = .ok (.iaload, 1) := by decide +kernel
theorem dX6_eaterJoy_13 : decode cX6_eaterJoy 13 = .ok (.invokestatic 74, 3) := by decide +kernel
theorem dX6_eaterJoy_16 : decode cX6_eaterJoy 16 = .ok (.aload_n 0, 1) := by decide +kernel
theorem dX6_eaterJoy_17 : decode cX6_eaterJoy 17 = .ok (.iload_n 2, 1) := by decide +kernel
theorem dX6_eaterJoy_18 : decode cX6_eaterJoy 18 = .ok (.iconst 5, 1) := by decide +kernel
theorem dX6_eaterJoy_19 : decode cX6_eaterJoy 19 = .ok (.invokestatic 53, 3) := by decide +kernel
theorem dX6_eaterJoy_22 : decode cX6_eaterJoy 22 = .ok (.iaload, 1) := by decide +kernel
theorem dX6_eaterJoy_23 : decode cX6_eaterJoy 23 = .ok (.imul, 1) := by decide +kernel
theorem dX6_eaterJoy_24 : decode cX6_eaterJoy 24 = .ok (.isub, 1) := by decide +kernel
theorem dX6_eaterJoy_25 : decode cX6_eaterJoy 25 = .ok (.invokestatic 78, 3) := by decide +kernel
theorem dX6_eaterJoy_28 : decode cX6_eaterJoy 28 = .ok (.ireturn, 1) := by decide +kernel
theorem dX6_joysOf_0 : decode cX6_joysOf 0 = .ok (.aload_n 0, 1) := by decide +kernel
theorem dX6_joysOf_1 : decode cX6_joysOf 1 = .ok (.iload_n 1, 1) := by decide +kernel
theorem dX6_joysOf_2 : decode cX6_joysOf 2 = .ok (.iload_n 2, 1) := by decide +kernel
theorem dX6_joysOf_3 : decode cX6_joysOf 3 = .ok (.invokestatic 81, 3) := by decide +kernel
theorem dX6_joysOf_6 : decode cX6_joysOf 6 = .ok (.aload_n 0, 1) := by decide +kernel
theorem dX6_joysOf_7 : decode cX6_joysOf 7 = .ok (.iload_n 2, 1) := by decide +kernel
theorem dX6_joysOf_8 : decode cX6_joysOf 8 = .ok (.invokestatic 85, 3) := by decide +kernel
theorem dX6_joysOf_11 : decode cX6_joysOf 11 = .ok (.iadd, 1) := by decide +kernel
theorem dX6_joysOf_12 : decode cX6_joysOf 12 = .ok (.ireturn, 1) := by decide +kernel
theorem dX6_turn_0 : decode cX6_turn 0 = .ok (.aload_n 0, 1) := by decide +kernel
theorem dX6_turn_1 : decode cX6_turn 1 = .ok (.iload_n 1, 1) := by decide +kernel
theorem dX6_turn_2 : decode cX6_turn 2 = .ok (.iload_n 2, 1) := by decide +kernel
theorem dX6_turn_3 : decode cX6_turn 3 = .ok (.invokestatic 88, 3) := by decide +kernel
theorem dX6_turn_6 : decode cX6_turn 6 = .ok (.istore_n 3, 1) := by decide +kernel
theorem dX6_turn_7 : decode cX6_turn 7 = .ok (.aload_n 0, 1) := by decide +kernel
theorem dX6_turn_8 : decode cX6_turn 8 = .ok (.iload_n 1, 1) := by decide +kernel
theorem dX6_turn_9 : decode cX6_turn 9 = .ok (.iconst 2, 1) := by decide +kernel
theorem dX6_turn_10 : decode cX6_turn 10 = .ok (.invokestatic 53, 3) := by decide +kernel
theorem dX6_turn_13 : decode cX6_turn 13 = .ok (.dup2, 1) := by decide +kernel
theorem dX6_turn_14 : decode cX6_turn 14 = .ok (.iaload, 1) := by decide +kernel
theorem dX6_turn_15 : decode cX6_turn 15 = .ok (.aload_n 0, 1) := by decide +kernel
theorem dX6_turn_16 : decode cX6_turn 16 = .ok (.iload_n 1, 1) := by decide +kernel
theorem dX6_turn_17 : decode cX6_turn 17 = .ok (.invokestatic 70, 3) := by decide +kernel
theorem dX6_turn_20 : decode cX6_turn 20 = .ok (.isub, 1) := by decide +kernel
theorem dX6_turn_21 : decode cX6_turn 21 = .ok (.iastore, 1) := by decide +kernel
theorem dX6_turn_22 : decode cX6_turn 22 = .ok (.aload_n 0, 1) := by decide +kernel
theorem dX6_turn_23 : decode cX6_turn 23 = .ok (.iload_n 2, 1) := by decide +kernel
theorem dX6_turn_24 : decode cX6_turn 24 = .ok (.iconst 3, 1) := by decide +kernel
theorem dX6_turn_25 : decode cX6_turn 25 = .ok (.invokestatic 53, 3) := by decide +kernel
theorem dX6_turn_28 : decode cX6_turn 28 = .ok (.dup2, 1) := by decide +kernel
theorem dX6_turn_29 : decode cX6_turn 29 = .ok (.iaload, 1) := by decide +kernel
theorem dX6_turn_30 : decode cX6_turn 30 = .ok (.aload_n 0, 1) := by decide +kernel
theorem dX6_turn_31 : decode cX6_turn 31 = .ok (.iload_n 2, 1) := by decide +kernel
theorem dX6_turn_32 : decode cX6_turn 32 = .ok (.invokestatic 85, 3) := by decide +kernel
theorem dX6_turn_35 : decode cX6_turn 35 = .ok (.isub, 1) := by decide +kernel
theorem dX6_turn_36 : decode cX6_turn 36 = .ok (.iastore, 1) := by decide +kernel
theorem dX6_turn_37 : decode cX6_turn 37 = .ok (.aload_n 0, 1) := by decide +kernel
theorem dX6_turn_38 : decode cX6_turn 38 = .ok (.iload_n 1, 1) := by decide +kernel
theorem dX6_turn_39 : decode cX6_turn 39 = .ok (.iconst 4, 1) := by decide +kernel
theorem dX6_turn_40 : decode cX6_turn 40 = .ok (.invokestatic 53, 3) := by decide +kernel
theorem dX6_turn_43 : decode cX6_turn 43 = .ok (.bipush 99, 2) := by decide +kernel
theorem dX6_turn_45 : decode cX6_turn 45 = .ok (.aload_n 0, 1) := by decide +kernel
theorem dX6_turn_46 : decode cX6_turn 46 = .ok (.iload_n 1, 1) := by decide +kernel
theorem dX6_turn_47 : decode cX6_turn 47 = .ok (.iconst 4, 1) := by decide +kernel
theorem dX6_turn_48 : decode cX6_turn 48 = .ok (.invokestatic 53, 3) := by decide +kernel
theorem dX6_turn_51 : decode cX6_turn 51 = .ok (.iaload, 1) := by decide +kernel
theorem dX6_turn_52 : decode cX6_turn 52 = .ok (.iconst 1, 1) := by decide +kernel
theorem dX6_turn_53 : decode cX6_turn 53 = .ok (.iadd, 1) := by decide +kernel
theorem dX6_turn_54 : decode cX6_turn 54 = .ok (.invokestatic 60, 3) := by decide +kernel
theorem dX6_turn_57 : decode cX6_turn 57 = .ok (.iastore, 1) := by decide +kernel
theorem dX6_turn_58 : decode cX6_turn 58 = .ok (.aload_n 0, 1) := by decide +kernel
theorem dX6_turn_59 : decode cX6_turn 59 = .ok (.iload_n 2, 1) := by decide +kernel
theorem dX6_turn_60 : decode cX6_turn 60 = .ok (.iconst 5, 1) := by decide +kernel
theorem dX6_turn_61 : decode cX6_turn 61 = .ok (.invokestatic 53, 3) := by decide +kernel
theorem dX6_turn_64 : decode cX6_turn 64 = .ok (.bipush 99, 2) := by decide +kernel
theorem dX6_turn_66 : decode cX6_turn 66 = .ok (.aload_n 0, 1) := by decide +kernel
theorem dX6_turn_67 : decode cX6_turn 67 = .ok (.iload_n 2, 1) := by decide +kernel
theorem dX6_turn_68 : decode cX6_turn 68 = .ok (.iconst 5, 1) := by decide +kernel
theorem dX6_turn_69 : decode cX6_turn 69 = .ok (.invokestatic 53, 3) := by decide +kernel
theorem dX6_turn_72 : decode cX6_turn 72 = .ok (.iaload, 1) := by decide +kernel
theorem dX6_turn_73 : decode cX6_turn 73 = .ok (.iconst 1, 1) := by decide +kernel
theorem dX6_turn_74 : decode cX6_turn 74 = .ok (.iadd, 1) := by decide +kernel
theorem dX6_turn_75 : decode cX6_turn 75 = .ok (.invokestatic 60, 3) := by decide +kernel
theorem dX6_turn_78 : decode cX6_turn 78 = .ok (.iastore, 1) := by decide +kernel
theorem dX6_turn_79 : decode cX6_turn 79 = .ok (.aload_n 0, 1) := by decide +kernel
theorem dX6_turn_80 : decode cX6_turn 80 = .ok (.iconst 1, 1) := by decide +kernel
theorem dX6_turn_81 : decode cX6_turn 81 = .ok (.dup2, 1) := by decide +kernel
theorem dX6_turn_82 : decode cX6_turn 82 = .ok (.iaload, 1) := by decide +kernel
theorem dX6_turn_83 : decode cX6_turn 83 = .ok (.iconst 1, 1) := by decide +kernel
theorem dX6_turn_84 : decode cX6_turn 84 = .ok (.isub, 1) := by decide +kernel
theorem dX6_turn_85 : decode cX6_turn 85 = .ok (.iastore, 1) := by decide +kernel
theorem dX6_turn_86 : decode cX6_turn 86 = .ok (.aload_n 0, 1) := by decide +kernel
theorem dX6_turn_87 : decode cX6_turn 87 = .ok (.iconst 2, 1) := by decide +kernel
theorem dX6_turn_88 : decode cX6_turn 88 = .ok (.dup2, 1) := by decide +kernel
theorem dX6_turn_89 : decode cX6_turn 89 = .ok (.iaload, 1) := by decide +kernel
theorem dX6_turn_90 : decode cX6_turn 90 = .ok (.iconst 1, 1) := by decide +kernel
theorem dX6_turn_91 : decode cX6_turn 91 = .ok (.iadd, 1) := by decide +kernel
theorem dX6_turn_92 : decode cX6_turn 92 = .ok (.iastore, 1) := by decide +kernel
theorem dX6_turn_93 : decode cX6_turn 93 = .ok (.iload_n 3, 1) := by decide +kernel
theorem dX6_turn_94 : decode cX6_turn 94 = .ok (.ireturn, 1) := by decide +kernel
theorem dX6_bestIn_0 : decode cX6_bestIn 0 = .ok (.bipush (-4), 2) := by decide +kernel
theorem dX6_bestIn_2 : decode cX6_bestIn 2 = .ok (.istore_n 1, 1) := by decide +kernel
theorem dX6_bestIn_3 : decode cX6_bestIn 3 = .ok (.iconst (-1), 1) := by decide +kernel
theorem dX6_bestIn_4 : decode cX6_bestIn 4 = .ok (.istore_n 2, 1) := by decide +kernel
theorem dX6_bestIn_5 : decode cX6_bestIn 5 = .ok (.iconst 0, 1) := by decide +kernel
theorem dX6_bestIn_6 : decode cX6_bestIn 6 = .ok (.istore_n 3, 1) := by decide +kernel
theorem dX6_bestIn_7 : decode cX6_bestIn 7 = .ok (.iload_n 3, 1) := by decide +kernel
theorem dX6_bestIn_8 : decode cX6_bestIn 8 = .ok (.aload_n 0, 1) := by decide +kernel
theorem dX6_bestIn_9 : decode cX6_bestIn 9 = .ok (.iconst 0, 1) := by decide +kernel
theorem dX6_bestIn_10 : decode cX6_bestIn 10 = .ok (.iaload, 1) := by decide +kernel
theorem dX6_bestIn_11 : decode cX6_bestIn 11 = .ok (.if_icmp .ge 66, 3) := by decide +kernel
theorem dX6_bestIn_14 : decode cX6_bestIn 14 = .ok (.iconst 0, 1) := by decide +kernel
theorem dX6_bestIn_15 : decode cX6_bestIn 15 = .ok (.istore 4, 2) := by decide +kernel
theorem dX6_bestIn_17 : decode cX6_bestIn 17 = .ok (.iload 4, 2) := by decide +kernel
theorem dX6_bestIn_19 : decode cX6_bestIn 19 = .ok (.aload_n 0, 1) := by decide +kernel
theorem dX6_bestIn_20 : decode cX6_bestIn 20 = .ok (.iconst 0, 1) := by decide +kernel
theorem dX6_bestIn_21 : decode cX6_bestIn 21 = .ok (.iaload, 1) := by decide +kernel
theorem dX6_bestIn_22 : decode cX6_bestIn 22 = .ok (.if_icmp .ge 49, 3) := by decide +kernel
theorem dX6_bestIn_25 : decode cX6_bestIn 25 = .ok (.aload_n 0, 1) := by decide +kernel
theorem dX6_bestIn_26 : decode cX6_bestIn 26 = .ok (.iload_n 3, 1) := by decide +kernel
theorem dX6_bestIn_27 : decode cX6_bestIn 27 = .ok (.iload 4, 2) := by decide +kernel
theorem dX6_bestIn_29 : decode cX6_bestIn 29 = .ok (.invokestatic 91, 3) := by decide +kernel
theorem dX6_bestIn_32 : decode cX6_bestIn 32 = .ok (.ifCond .eq 33, 3) := by decide +kernel
theorem dX6_bestIn_35 : decode cX6_bestIn 35 = .ok (.aload_n 0, 1) := by decide +kernel
theorem dX6_bestIn_36 : decode cX6_bestIn 36 = .ok (.iload_n 3, 1) := by decide +kernel
theorem dX6_bestIn_37 : decode cX6_bestIn 37 = .ok (.iload 4, 2) := by decide +kernel
theorem dX6_bestIn_39 : decode cX6_bestIn 39 = .ok (.invokestatic 88, 3) := by decide +kernel
theorem dX6_bestIn_42 : decode cX6_bestIn 42 = .ok (.iload_n 2, 1) := by decide +kernel
theorem dX6_bestIn_43 : decode cX6_bestIn 43 = .ok (.if_icmp .gt 6, 3) := by decide +kernel
theorem dX6_bestIn_46 : decode cX6_bestIn 46 = .ok (.goto 19, 3) := by decide +kernel
theorem dX6_bestIn_49 : decode cX6_bestIn 49 = .ok (.bipush 10, 2) := by decide +kernel
theorem dX6_bestIn_51 : decode cX6_bestIn 51 = .ok (.iload_n 3, 1) := by decide +kernel
theorem dX6_bestIn_52 : decode cX6_bestIn 52 = .ok (.imul, 1) := by decide +kernel
theorem dX6_bestIn_53 : decode cX6_bestIn 53 = .ok (.iload 4, 2) := by decide +kernel
theorem dX6_bestIn_55 : decode cX6_bestIn 55 = .ok (.iadd, 1) := by decide +kernel
theorem dX6_bestIn_56 : decode cX6_bestIn 56 = .ok (.istore_n 1, 1) := by decide +kernel
theorem dX6_bestIn_57 : decode cX6_bestIn 57 = .ok (.aload_n 0, 1) := by decide +kernel
theorem dX6_bestIn_58 : decode cX6_bestIn 58 = .ok (.iload_n 3, 1) := by decide +kernel
theorem dX6_bestIn_59 : decode cX6_bestIn 59 = .ok (.iload 4, 2) := by decide +kernel
theorem dX6_bestIn_61 : decode cX6_bestIn 61 = .ok (.invokestatic 88, 3) := by decide +kernel
theorem dX6_bestIn_64 : decode cX6_bestIn 64 = .ok (.istore_n 2, 1) := by decide +kernel
theorem dX6_bestIn_65 : decode cX6_bestIn 65 = .ok (.iinc 4 1, 3) := by decide +kernel
theorem dX6_bestIn_68 : decode cX6_bestIn 68 = .ok (.goto (-51), 3) := by decide +kernel
theorem dX6_bestIn_71 : decode cX6_bestIn 71 = .ok (.iinc 3 1, 3) := by decide +kernel
theorem dX6_bestIn_74 : decode cX6_bestIn 74 = .ok (.goto (-67), 3) := by decide +kernel
theorem dX6_bestIn_77 : decode cX6_bestIn 77 = .ok (.iload_n 1, 1) := by decide +kernel
theorem dX6_bestIn_78 : decode cX6_bestIn 78 = .ok (.ireturn, 1) := by decide +kernel
theorem dX6_bestJoys_0 : decode cX6_bestJoys 0 = .ok (.aload_n 0, 1) := by decide +kernel
theorem dX6_bestJoys_1 : decode cX6_bestJoys 1 = .ok (.invokestatic 95, 3) := by decide +kernel
theorem dX6_bestJoys_4 : decode cX6_bestJoys 4 = .ok (.istore_n 1, 1) := by decide +kernel
theorem dX6_bestJoys_5 : decode cX6_bestJoys 5 = .ok (.iload_n 1, 1) := by decide +kernel
theorem dX6_bestJoys_6 : decode cX6_bestJoys 6 = .ok (.ifCond .ge 7, 3) := by decide +kernel
theorem dX6_bestJoys_9 : decode cX6_bestJoys 9 = .ok (.iconst 0, 1) := by decide +kernel
theorem dX6_bestJoys_10 : decode cX6_bestJoys 10 = .ok (.goto 15, 3) := by decide +kernel
theorem dX6_bestJoys_13 : decode cX6_bestJoys 13 = .ok (.aload_n 0, 1) := by decide +kernel
theorem dX6_bestJoys_14 : decode cX6_bestJoys 14 = .ok (.iload_n 1, 1) := by decide +kernel
theorem dX6_bestJoys_15 : decode cX6_bestJoys 15 = .ok (.bipush 10, 2) := by decide +kernel
theorem dX6_bestJoys_17 : decode cX6_bestJoys 17 = .ok (.idiv, 1) := by decide +kernel
theorem dX6_bestJoys_18 : decode cX6_bestJoys 18 = .ok (.iload_n 1, 1) := by decide +kernel
theorem dX6_bestJoys_19 : decode cX6_bestJoys 19 = .ok (.bipush 10, 2) := by decide +kernel
theorem dX6_bestJoys_21 : decode cX6_bestJoys 21 = .ok (.irem, 1) := by decide +kernel
theorem dX6_bestJoys_22 : decode cX6_bestJoys 22 = .ok (.invokestatic 88, 3) := by decide +kernel
theorem dX6_bestJoys_25 : decode cX6_bestJoys 25 = .ok (.ireturn, 1) := by decide +kernel
theorem dX6_here_0 : decode cX6_here 0 = .ok (.aload_n 0, 1) := by decide +kernel
theorem dX6_here_1 : decode cX6_here 1 = .ok (.getfield 99, 3) := by decide +kernel
theorem dX6_here_4 : decode cX6_here 4 = .ok (.aload_n 0, 1) := by decide +kernel
theorem dX6_here_5 : decode cX6_here 5 = .ok (.getfield 103, 3) := by decide +kernel
theorem dX6_here_8 : decode cX6_here 8 = .ok (.if_icmp .ge 24, 3) := by decide +kernel
theorem dX6_here_11 : decode cX6_here 11 = .ok (.aload_n 0, 1) := by decide +kernel
theorem dX6_here_12 : decode cX6_here 12 = .ok (.getfield 46, 3) := by decide +kernel
theorem dX6_here_15 : decode cX6_here 15 = .ok (.aload_n 0, 1) := by decide +kernel
theorem dX6_here_16 : decode cX6_here 16 = .ok (.getfield 106, 3) := by decide +kernel
theorem dX6_here_19 : decode cX6_here 19 = .ok (.aload_n 0, 1) := by decide +kernel
theorem dX6_here_20 : decode cX6_here 20 = .ok (.getfield 99, 3) := by decide +kernel
theorem dX6_here_23 : decode cX6_here 23 = .ok (.iadd, 1) := by decide +kernel
theorem dX6_here_24 : decode cX6_here 24 = .ok (.iaload, 1) := by decide +kernel
theorem dX6_here_25 : decode cX6_here 25 = .ok (.sipush 255, 3) := by decide +kernel
theorem dX6_here_28 : decode cX6_here 28 = .ok (.iand, 1) := by decide +kernel
theorem dX6_here_29 : decode cX6_here 29 = .ok (.goto 4, 3) := by decide +kernel
theorem dX6_here_32 : decode cX6_here 32 = .ok (.iconst (-1), 1) := by decide +kernel
theorem dX6_here_33 : decode cX6_here 33 = .ok (.ireturn, 1) := by decide +kernel
theorem dX6_readsNumber_0 : decode cX6_readsNumber 0 = .ok (.aload_n 0, 1) := by decide +kernel
theorem dX6_readsNumber_1 : decode cX6_readsNumber 1 = .ok (.getfield 22, 3) := by decide +kernel
theorem dX6_readsNumber_4 : decode cX6_readsNumber 4 = .ok (.iload_n 1, 1) := by decide +kernel
theorem dX6_readsNumber_5 : decode cX6_readsNumber 5 = .ok (.iconst 0, 1) := by decide +kernel
theorem dX6_readsNumber_6 : decode cX6_readsNumber 6 = .ok (.iastore, 1) := by decide +kernel
theorem dX6_readsNumber_7 : decode cX6_readsNumber 7 = .ok (.iconst 0, 1) := by decide +kernel
theorem dX6_readsNumber_8 : decode cX6_readsNumber 8 = .ok (.istore_n 3, 1) := by decide +kernel
theorem dX6_readsNumber_9 : decode cX6_readsNumber 9 = .ok (.iload_n 3, 1) := by decide +kernel
theorem dX6_readsNumber_10 : decode cX6_readsNumber 10 = .ok (.iload_n 2, 1) := by decide +kernel
theorem dX6_readsNumber_11 : decode cX6_readsNumber 11 = .ok (.if_icmp .ge 58, 3) := by decide +kernel
theorem dX6_readsNumber_14 : decode cX6_readsNumber 14 = .ok (.aload_n 0, 1) := by decide +kernel
theorem dX6_readsNumber_15 : decode cX6_readsNumber 15 = .ok (.invokevirtual 109, 3) := by decide +kernel
theorem dX6_readsNumber_18 : decode cX6_readsNumber 18 = .ok (.bipush 48, 2) := by decide +kernel
theorem dX6_readsNumber_20 : decode cX6_readsNumber 20 = .ok (.bipush 57, 2) := by decide +kernel
theorem dX6_readsNumber_22 : decode cX6_readsNumber 22 = .ok (.invokestatic 49, 3) := by decide +kernel
theorem dX6_readsNumber_25 : decode cX6_readsNumber 25 = .ok (.ifCond .ne 5, 3) := by decide +kernel
theorem dX6_readsNumber_28 : decode cX6_readsNumber 28 = .ok (.iconst 0, 1) := by decide +kernel
theorem dX6_readsNumber_29 : decode cX6_readsNumber 29 = .ok (.ireturn, 1) := by decide +kernel
theorem dX6_readsNumber_30 : decode cX6_readsNumber 30 = .ok (.aload_n 0, 1) := by decide +kernel
theorem dX6_readsNumber_31 : decode cX6_readsNumber 31 = .ok (.getfield 22, 3) := by decide +kernel
theorem dX6_readsNumber_34 : decode cX6_readsNumber 34 = .ok (.iload_n 1, 1) := by decide +kernel
theorem dX6_readsNumber_35 : decode cX6_readsNumber 35 = .ok (.bipush 10, 2) := by decide +kernel
theorem dX6_readsNumber_37 : decode cX6_readsNumber 37 = .ok (.aload_n 0, 1) := by decide +kernel
theorem dX6_readsNumber_38 : decode cX6_readsNumber 38 = .ok (.getfield 22, 3) := by decide +kernel
theorem dX6_readsNumber_41 : decode cX6_readsNumber 41 = .ok (.iload_n 1, 1) := by decide +kernel
theorem dX6_readsNumber_42 : decode cX6_readsNumber 42 = .ok (.iaload, 1) := by decide +kernel
theorem dX6_readsNumber_43 : decode cX6_readsNumber 43 = .ok (.imul, 1) := by decide +kernel
theorem dX6_readsNumber_44 : decode cX6_readsNumber 44 = .ok (.aload_n 0, 1) := by decide +kernel
theorem dX6_readsNumber_45 : decode cX6_readsNumber 45 = .ok (.invokevirtual 109, 3) := by decide +kernel
theorem dX6_readsNumber_48 : decode cX6_readsNumber 48 = .ok (.iadd, 1) := by decide +kernel
theorem dX6_readsNumber_49 : decode cX6_readsNumber 49 = .ok (.bipush 48, 2) := by decide +kernel
theorem dX6_readsNumber_51 : decode cX6_readsNumber 51 = .ok (.isub, 1) := by decide +kernel
theorem dX6_readsNumber_52 : decode cX6_readsNumber 52 = .ok (.iastore, 1) := by decide +kernel
theorem dX6_readsNumber_53 : decode cX6_readsNumber 53 = .ok (.aload_n 0, 1) := by decide +kernel
theorem dX6_readsNumber_54 : decode cX6_readsNumber 54 = .ok (.dup, 1) := by decide +kernel
theorem dX6_readsNumber_55 : decode cX6_readsNumber 55 = .ok (.getfield 99, 3) := by decide +kernel
theorem dX6_readsNumber_58 : decode cX6_readsNumber 58 = .ok (.iconst 1, 1) := by decide +kernel
theorem dX6_readsNumber_59 : decode cX6_readsNumber 59 = .ok (.iadd, 1) := by decide +kernel
theorem dX6_readsNumber_60 : decode cX6_readsNumber 60 = .ok (.putfield 99, 3) := by decide +kernel
theorem dX6_readsNumber_63 : decode cX6_readsNumber 63 = .ok (.iinc 3 1, 3) := by decide +kernel
theorem dX6_readsNumber_66 : decode cX6_readsNumber 66 = .ok (.goto (-57), 3) := by decide +kernel
theorem dX6_readsNumber_69 : decode cX6_readsNumber 69 = .ok (.iconst 1, 1) := by decide +kernel
theorem dX6_readsNumber_70 : decode cX6_readsNumber 70 = .ok (.ireturn, 1) := by decide +kernel
theorem dX6_readsStatement_0 : decode cX6_readsStatement 0 = .ok (.aload_n 0, 1) := by decide +kernel
theorem dX6_readsStatement_1 : decode cX6_readsStatement 1 = .ok (.invokevirtual 109, 3) := by decide +kernel
theorem dX6_readsStatement_4 : decode cX6_readsStatement 4 = .ok (.istore_n 1, 1) := by decide +kernel
theorem dX6_readsStatement_5 : decode cX6_readsStatement 5 = .ok (.aload_n 0, 1) := by decide +kernel
theorem dX6_readsStatement_6 : decode cX6_readsStatement 6 = .ok (.dup, 1) := by decide +kernel
theorem dX6_readsStatement_7 : decode cX6_readsStatement 7 = .ok (.getfield 99, 3) := by decide +kernel
theorem dX6_readsStatement_10 : decode cX6_readsStatement 10 = .ok (.iconst 1, 1) := by decide +kernel
theorem dX6_readsStatement_11 : decode cX6_readsStatement 11 = .ok (.iadd, 1) := by decide +kernel
theorem dX6_readsStatement_12 : decode cX6_readsStatement 12 = .ok (.putfield 99, 3) := by decide +kernel
theorem dX6_readsStatement_15 : decode cX6_readsStatement 15 = .ok (.iload_n 1, 1) := by decide +kernel
theorem dX6_readsStatement_16 : decode cX6_readsStatement 16 = .ok (.lookupswitch 161 #[(99, 97), (104, 134), (108, 134), (112, 52), (116, 107)], 52) := by decide +kernel
theorem dX6_readsStatement_68 : decode cX6_readsStatement 68 = .ok (.aload_n 0, 1) := by decide +kernel
theorem dX6_readsStatement_69 : decode cX6_readsStatement 69 = .ok (.iconst 0, 1) := by decide +kernel
theorem dX6_readsStatement_70 : decode cX6_readsStatement 70 = .ok (.iconst 1, 1) := by decide +kernel
theorem dX6_readsStatement_71 : decode cX6_readsStatement 71 = .ok (.invokevirtual 113, 3) := by decide +kernel
theorem dX6_readsStatement_74 : decode cX6_readsStatement 74 = .ok (.ifCond .eq 34, 3) := by decide +kernel
theorem dX6_readsStatement_77 : decode cX6_readsStatement 77 = .ok (.aload_n 0, 1) := by decide +kernel
theorem dX6_readsStatement_78 : decode cX6_readsStatement 78 = .ok (.iconst 1, 1) := by decide +kernel
theorem dX6_readsStatement_79 : decode cX6_readsStatement 79 = .ok (.iconst 1, 1) := by decide +kernel
theorem dX6_readsStatement_80 : decode cX6_readsStatement 80 = .ok (.invokevirtual 113, 3) := by decide +kernel
theorem dX6_readsStatement_83 : decode cX6_readsStatement 83 = .ok (.ifCond .eq 25, 3) := by decide +kernel
theorem dX6_readsStatement_86 : decode cX6_readsStatement 86 = .ok (.aload_n 0, 1) := by decide +kernel
theorem dX6_readsStatement_87 : decode cX6_readsStatement 87 = .ok (.iconst 2, 1) := by decide +kernel
theorem dX6_readsStatement_88 : decode cX6_readsStatement 88 = .ok (.iconst 2, 1) := by decide +kernel
theorem dX6_readsStatement_89 : decode cX6_readsStatement 89 = .ok (.invokevirtual 113, 3) := by decide +kernel
theorem dX6_readsStatement_92 : decode cX6_readsStatement 92 = .ok (.ifCond .eq 16, 3) := by decide +kernel
theorem dX6_readsStatement_95 : decode cX6_readsStatement 95 = .ok (.aload_n 0, 1) := by decide +kernel
theorem dX6_readsStatement_96 : decode cX6_readsStatement 96 = .ok (.iconst 3, 1) := by decide +kernel
theorem dX6_readsStatement_97 : decode cX6_readsStatement 97 = .ok (.iconst 2, 1) := by decide +kernel
theorem dX6_readsStatement_98 : decode cX6_readsStatement 98 = .ok (.invokevirtual 113, 3) := by decide +kernel
theorem dX6_readsStatement_101 : decode cX6_readsStatement 101 = .ok (.ifCond .eq 7, 3) := by decide +kernel
theorem dX6_readsStatement_104 : decode cX6_readsStatement 104 = .ok (.iconst 1, 1) := by decide +kernel
theorem dX6_readsStatement_105 : decode cX6_readsStatement 105 = .ok (.goto 4, 3) := by decide +kernel
theorem dX6_readsStatement_108 : decode cX6_readsStatement 108 = .ok (.iconst 0, 1) := by decide +kernel
theorem dX6_readsStatement_109 : decode cX6_readsStatement 109 = .ok (.istore_n 2, 1) := by decide +kernel
theorem dX6_readsStatement_110 : decode cX6_readsStatement 110 = .ok (.goto 79, 3) := by decide +kernel
theorem dX6_readsStatement_113 : decode cX6_readsStatement 113 = .ok (.aload_n 0, 1) := by decide +kernel
theorem dX6_readsStatement_114 : decode cX6_readsStatement 114 = .ok (.iconst 0, 1) := by decide +kernel
theorem dX6_readsStatement_115 : decode cX6_readsStatement 115 = .ok (.iconst 2, 1) := by decide +kernel
theorem dX6_readsStatement_116 : decode cX6_readsStatement 116 = .ok (.invokevirtual 113, 3) := by decide +kernel
theorem dX6_readsStatement_119 : decode cX6_readsStatement 119 = .ok (.istore_n 2, 1) := by decide +kernel
theorem dX6_readsStatement_120 : decode cX6_readsStatement 120 = .ok (.goto 69, 3) := by decide +kernel
theorem dX6_readsStatement_123 : decode cX6_readsStatement 123 = .ok (.aload_n 0, 1) := by decide +kernel
theorem dX6_readsStatement_124 : decode cX6_readsStatement 124 = .ok (.iconst 0, 1) := by decide +kernel
theorem dX6_readsStatement_125 : decode cX6_readsStatement 125 = .ok (.iconst 1, 1) := by decide +kernel
theorem dX6_readsStatement_126 : decode cX6_readsStatement 126 = .ok (.invokevirtual 113, 3) := by decide +kernel
theorem dX6_readsStatement_129 : decode cX6_readsStatement 129 = .ok (.ifCond .eq 16, 3) := by decide +kernel
theorem dX6_readsStatement_132 : decode cX6_readsStatement 132 = .ok (.aload_n 0, 1) := by decide +kernel
theorem dX6_readsStatement_133 : decode cX6_readsStatement 133 = .ok (.iconst 1, 1) := by decide +kernel
theorem dX6_readsStatement_134 : decode cX6_readsStatement 134 = .ok (.iconst 1, 1) := by decide +kernel
theorem dX6_readsStatement_135 : decode cX6_readsStatement 135 = .ok (.invokevirtual 113, 3) := by decide +kernel
theorem dX6_readsStatement_138 : decode cX6_readsStatement 138 = .ok (.ifCond .eq 7, 3) := by decide +kernel
theorem dX6_readsStatement_141 : decode cX6_readsStatement 141 = .ok (.iconst 1, 1) := by decide +kernel
theorem dX6_readsStatement_142 : decode cX6_readsStatement 142 = .ok (.goto 4, 3) := by decide +kernel
theorem dX6_readsStatement_145 : decode cX6_readsStatement 145 = .ok (.iconst 0, 1) := by decide +kernel
theorem dX6_readsStatement_146 : decode cX6_readsStatement 146 = .ok (.istore_n 2, 1) := by decide +kernel
theorem dX6_readsStatement_147 : decode cX6_readsStatement 147 = .ok (.goto 42, 3) := by decide +kernel
theorem dX6_readsStatement_150 : decode cX6_readsStatement 150 = .ok (.aload_n 0, 1) := by decide +kernel
theorem dX6_readsStatement_151 : decode cX6_readsStatement 151 = .ok (.iconst 0, 1) := by decide +kernel
theorem dX6_readsStatement_152 : decode cX6_readsStatement 152 = .ok (.iconst 1, 1) := by decide +kernel
theorem dX6_readsStatement_153 : decode cX6_readsStatement 153 = .ok (.invokevirtual 113, 3) := by decide +kernel
theorem dX6_readsStatement_156 : decode cX6_readsStatement 156 = .ok (.ifCond .eq 16, 3) := by decide +kernel
theorem dX6_readsStatement_159 : decode cX6_readsStatement 159 = .ok (.aload_n 0, 1) := by decide +kernel
theorem dX6_readsStatement_160 : decode cX6_readsStatement 160 = .ok (.iconst 1, 1) := by decide +kernel
theorem dX6_readsStatement_161 : decode cX6_readsStatement 161 = .ok (.iconst 2, 1) := by decide +kernel
theorem dX6_readsStatement_162 : decode cX6_readsStatement 162 = .ok (.invokevirtual 113, 3) := by decide +kernel
theorem dX6_readsStatement_165 : decode cX6_readsStatement 165 = .ok (.ifCond .eq 7, 3) := by decide +kernel
theorem dX6_readsStatement_168 : decode cX6_readsStatement 168 = .ok (.iconst 1, 1) := by decide +kernel
theorem dX6_readsStatement_169 : decode cX6_readsStatement 169 = .ok (.goto 4, 3) := by decide +kernel
theorem dX6_readsStatement_172 : decode cX6_readsStatement 172 = .ok (.iconst 0, 1) := by decide +kernel
theorem dX6_readsStatement_173 : decode cX6_readsStatement 173 = .ok (.istore_n 2, 1) := by decide +kernel
theorem dX6_readsStatement_174 : decode cX6_readsStatement 174 = .ok (.goto 15, 3) := by decide +kernel
theorem dX6_readsStatement_177 : decode cX6_readsStatement 177 = .ok (.aload_n 0, 1) := by decide +kernel
theorem dX6_readsStatement_178 : decode cX6_readsStatement 178 = .ok (.dup, 1) := by decide +kernel
theorem dX6_readsStatement_179 : decode cX6_readsStatement 179 = .ok (.getfield 99, 3) := by decide +kernel
theorem dX6_readsStatement_182 : decode cX6_readsStatement 182 = .ok (.iconst 1, 1) := by decide +kernel
theorem dX6_readsStatement_183 : decode cX6_readsStatement 183 = .ok (.isub, 1) := by decide +kernel
theorem dX6_readsStatement_184 : decode cX6_readsStatement 184 = .ok (.putfield 99, 3) := by decide +kernel
theorem dX6_readsStatement_187 : decode cX6_readsStatement 187 = .ok (.iconst 0, 1) := by decide +kernel
theorem dX6_readsStatement_188 : decode cX6_readsStatement 188 = .ok (.ireturn, 1) := by decide +kernel
theorem dX6_readsStatement_189 : decode cX6_readsStatement 189 = .ok (.iload_n 2, 1) := by decide +kernel
theorem dX6_readsStatement_190 : decode cX6_readsStatement 190 = .ok (.ifCond .eq 12, 3) := by decide +kernel
theorem dX6_readsStatement_193 : decode cX6_readsStatement 193 = .ok (.aload_n 0, 1) := by decide +kernel
theorem dX6_readsStatement_194 : decode cX6_readsStatement 194 = .ok (.invokevirtual 109, 3) := by decide +kernel
theorem dX6_readsStatement_197 : decode cX6_readsStatement 197 = .ok (.bipush 59, 2) := by decide +kernel
theorem dX6_readsStatement_199 : decode cX6_readsStatement 199 = .ok (.if_icmp .eq 5, 3) := by decide +kernel
theorem dX6_readsStatement_202 : decode cX6_readsStatement 202 = .ok (.iconst 0, 1) := by decide +kernel
theorem dX6_readsStatement_203 : decode cX6_readsStatement 203 = .ok (.ireturn, 1) := by decide +kernel
theorem dX6_readsStatement_204 : decode cX6_readsStatement 204 = .ok (.aload_n 0, 1) := by decide +kernel
theorem dX6_readsStatement_205 : decode cX6_readsStatement 205 = .ok (.dup, 1) := by decide +kernel
theorem dX6_readsStatement_206 : decode cX6_readsStatement 206 = .ok (.getfield 99, 3) := by decide +kernel
theorem dX6_readsStatement_209 : decode cX6_readsStatement 209 = .ok (.iconst 1, 1) := by decide +kernel
theorem dX6_readsStatement_210 : decode cX6_readsStatement 210 = .ok (.iadd, 1) := by decide +kernel
theorem dX6_readsStatement_211 : decode cX6_readsStatement 211 = .ok (.putfield 99, 3) := by decide +kernel
theorem dX6_readsStatement_214 : decode cX6_readsStatement 214 = .ok (.iconst 1, 1) := by decide +kernel
theorem dX6_readsStatement_215 : decode cX6_readsStatement 215 = .ok (.ireturn, 1) := by decide +kernel
theorem dX6_adds_0 : decode cX6_adds 0 = .ok (.aload_n 0, 1) := by decide +kernel
theorem dX6_adds_1 : decode cX6_adds 1 = .ok (.iconst 0, 1) := by decide +kernel
theorem dX6_adds_2 : decode cX6_adds 2 = .ok (.iaload, 1) := by decide +kernel
theorem dX6_adds_3 : decode cX6_adds 3 = .ok (.istore 5, 2) := by decide +kernel
theorem dX6_adds_5 : decode cX6_adds 5 = .ok (.aload_n 0, 1) := by decide +kernel
theorem dX6_adds_6 : decode cX6_adds 6 = .ok (.iload 5, 2) := by decide +kernel
theorem dX6_adds_8 : decode cX6_adds 8 = .ok (.iconst 0, 1) := by decide +kernel
theorem dX6_adds_9 : decode cX6_adds 9 = .ok (.invokestatic 53, 3) := by decide +kernel
theorem dX6_adds_12 : decode cX6_adds 12 = .ok (.iload_n 1, 1) := by decide +kernel
theorem dX6_adds_13 : decode cX6_adds 13 = .ok (.iastore, 1) := by decide +kernel
theorem dX6_adds_14 : decode cX6_adds 14 = .ok (.aload_n 0, 1) := by decide +kernel
theorem dX6_adds_15 : decode cX6_adds 15 = .ok (.iload 5, 2) := by decide +kernel
theorem dX6_adds_17 : decode cX6_adds 17 = .ok (.iconst 1, 1) := by decide +kernel
theorem dX6_adds_18 : decode cX6_adds 18 = .ok (.invokestatic 53, 3) := by decide +kernel
theorem dX6_adds_21 : decode cX6_adds 21 = .ok (.iload_n 2, 1) := by decide +kernel
theorem dX6_adds_22 : decode cX6_adds 22 = .ok (.iastore, 1) := by decide +kernel
theorem dX6_adds_23 : decode cX6_adds 23 = .ok (.aload_n 0, 1) := by decide +kernel
theorem dX6_adds_24 : decode cX6_adds 24 = .ok (.iload 5, 2) := by decide +kernel
theorem dX6_adds_26 : decode cX6_adds 26 = .ok (.iconst 2, 1) := by decide +kernel
theorem dX6_adds_27 : decode cX6_adds 27 = .ok (.invokestatic 53, 3) := by decide +kernel
theorem dX6_adds_30 : decode cX6_adds 30 = .ok (.iload_n 3, 1) := by decide +kernel
theorem dX6_adds_31 : decode cX6_adds 31 = .ok (.iastore, 1) := by decide +kernel
theorem dX6_adds_32 : decode cX6_adds 32 = .ok (.aload_n 0, 1) := by decide +kernel
theorem dX6_adds_33 : decode cX6_adds 33 = .ok (.iload 5, 2) := by decide +kernel
theorem dX6_adds_35 : decode cX6_adds 35 = .ok (.iconst 3, 1) := by decide +kernel
theorem dX6_adds_36 : decode cX6_adds 36 = .ok (.invokestatic 53, 3) := by decide +kernel
theorem dX6_adds_39 : decode cX6_adds 39 = .ok (.iload 4, 2) := by decide +kernel
theorem dX6_adds_41 : decode cX6_adds 41 = .ok (.iastore, 1) := by decide +kernel
theorem dX6_adds_42 : decode cX6_adds 42 = .ok (.aload_n 0, 1) := by decide +kernel
theorem dX6_adds_43 : decode cX6_adds 43 = .ok (.iload 5, 2) := by decide +kernel
theorem dX6_adds_45 : decode cX6_adds 45 = .ok (.iconst 4, 1) := by decide +kernel
theorem dX6_adds_46 : decode cX6_adds 46 = .ok (.invokestatic 53, 3) := by decide +kernel
theorem dX6_adds_49 : decode cX6_adds 49 = .ok (.iconst 0, 1) := by decide +kernel
theorem dX6_adds_50 : decode cX6_adds 50 = .ok (.iastore, 1) := by decide +kernel
theorem dX6_adds_51 : decode cX6_adds 51 = .ok (.aload_n 0, 1) := by decide +kernel
theorem dX6_adds_52 : decode cX6_adds 52 = .ok (.iload 5, 2) := by decide +kernel
theorem dX6_adds_54 : decode cX6_adds 54 = .ok (.iconst 5, 1) := by decide +kernel
theorem dX6_adds_55 : decode cX6_adds 55 = .ok (.invokestatic 53, 3) := by decide +kernel
theorem dX6_adds_58 : decode cX6_adds 58 = .ok (.iconst 0, 1) := by decide +kernel
theorem dX6_adds_59 : decode cX6_adds 59 = .ok (.iastore, 1) := by decide +kernel
theorem dX6_adds_60 : decode cX6_adds 60 = .ok (.aload_n 0, 1) := by decide +kernel
theorem dX6_adds_61 : decode cX6_adds 61 = .ok (.iconst 0, 1) := by decide +kernel
theorem dX6_adds_62 : decode cX6_adds 62 = .ok (.dup2, 1) := by decide +kernel
theorem dX6_adds_63 : decode cX6_adds 63 = .ok (.iaload, 1) := by decide +kernel
theorem dX6_adds_64 : decode cX6_adds 64 = .ok (.iconst 1, 1) := by decide +kernel
theorem dX6_adds_65 : decode cX6_adds 65 = .ok (.iadd, 1) := by decide +kernel
theorem dX6_adds_66 : decode cX6_adds 66 = .ok (.iastore, 1) := by decide +kernel
theorem dX6_adds_67 : decode cX6_adds 67 = .ok (.return_, 1) := by decide +kernel
theorem dX6_isDone_0 : decode cX6_isDone 0 = .ok (.aload_n 0, 1) := by decide +kernel
theorem dX6_isDone_1 : decode cX6_isDone 1 = .ok (.getfield 22, 3) := by decide +kernel
theorem dX6_isDone_4 : decode cX6_isDone 4 = .ok (.iconst 0, 1) := by decide +kernel
theorem dX6_isDone_5 : decode cX6_isDone 5 = .ok (.iaload, 1) := by decide +kernel
theorem dX6_isDone_6 : decode cX6_isDone 6 = .ok (.istore_n 2, 1) := by decide +kernel
theorem dX6_isDone_7 : decode cX6_isDone 7 = .ok (.aload_n 0, 1) := by decide +kernel
theorem dX6_isDone_8 : decode cX6_isDone 8 = .ok (.getfield 22, 3) := by decide +kernel
theorem dX6_isDone_11 : decode cX6_isDone 11 = .ok (.iconst 1, 1) := by decide +kernel
theorem dX6_isDone_12 : decode cX6_isDone 12 = .ok (.iaload, 1) := by decide +kernel
theorem dX6_isDone_13 : decode cX6_isDone 13 = .ok (.istore_n 3, 1) := by decide +kernel
theorem dX6_isDone_14 : decode cX6_isDone 14 = .ok (.iload_n 1, 1) := by decide +kernel
theorem dX6_isDone_15 : decode cX6_isDone 15 = .ok (.lookupswitch 161 #[(99, 97), (112, 33), (116, 106)], 33) := by decide +kernel
theorem dX6_isDone_48 : decode cX6_isDone 48 = .ok (.iload_n 2, 1) := by decide +kernel
theorem dX6_isDone_49 : decode cX6_isDone 49 = .ok (.bipush 8, 2) := by decide +kernel
theorem dX6_isDone_51 : decode cX6_isDone 51 = .ok (.if_icmp .ge 36, 3) := by decide +kernel
theorem dX6_isDone_54 : decode cX6_isDone 54 = .ok (.aload_n 0, 1) := by decide +kernel
theorem dX6_isDone_55 : decode cX6_isDone 55 = .ok (.getfield 22, 3) := by decide +kernel
theorem dX6_isDone_58 : decode cX6_isDone 58 = .ok (.iconst 2, 1) := by decide +kernel
theorem dX6_isDone_59 : decode cX6_isDone 59 = .ok (.iaload, 1) := by decide +kernel
theorem dX6_isDone_60 : decode cX6_isDone 60 = .ok (.bipush 30, 2) := by decide +kernel
theorem dX6_isDone_62 : decode cX6_isDone 62 = .ok (.if_icmp .gt 25, 3) := by decide +kernel
theorem dX6_isDone_65 : decode cX6_isDone 65 = .ok (.aload_n 0, 1) := by decide +kernel
theorem dX6_isDone_66 : decode cX6_isDone 66 = .ok (.getfield 22, 3) := by decide +kernel
theorem dX6_isDone_69 : decode cX6_isDone 69 = .ok (.iconst 3, 1) := by decide +kernel
theorem dX6_isDone_70 : decode cX6_isDone 70 = .ok (.iaload, 1) := by decide +kernel
theorem dX6_isDone_71 : decode cX6_isDone 71 = .ok (.bipush 30, 2) := by decide +kernel
theorem dX6_isDone_73 : decode cX6_isDone 73 = .ok (.if_icmp .gt 14, 3) := by decide +kernel
theorem dX6_isDone_76 : decode cX6_isDone 76 = .ok (.aload_n 0, 1) := by decide +kernel
theorem dX6_isDone_77 : decode cX6_isDone 77 = .ok (.getfield 9, 3) := by decide +kernel
theorem dX6_isDone_80 : decode cX6_isDone 80 = .ok (.iconst 0, 1) := by decide +kernel
theorem dX6_isDone_81 : decode cX6_isDone 81 = .ok (.iaload, 1) := by decide +kernel
theorem dX6_isDone_82 : decode cX6_isDone 82 = .ok (.bipush 8, 2) := by decide +kernel
theorem dX6_isDone_84 : decode cX6_isDone 84 = .ok (.if_icmp .ne 5, 3) := by decide +kernel
theorem dX6_isDone_87 : decode cX6_isDone 87 = .ok (.iconst 0, 1) := by decide +kernel
theorem dX6_isDone_88 : decode cX6_isDone 88 = .ok (.ireturn, 1) := by decide +kernel
theorem dX6_isDone_89 : decode cX6_isDone 89 = .ok (.aload_n 0, 1) := by decide +kernel
theorem dX6_isDone_90 : decode cX6_isDone 90 = .ok (.getfield 9, 3) := by decide +kernel
theorem dX6_isDone_93 : decode cX6_isDone 93 = .ok (.iload_n 2, 1) := by decide +kernel
theorem dX6_isDone_94 : decode cX6_isDone 94 = .ok (.iload_n 3, 1) := by decide +kernel
theorem dX6_isDone_95 : decode cX6_isDone 95 = .ok (.aload_n 0, 1) := by decide +kernel
theorem dX6_isDone_96 : decode cX6_isDone 96 = .ok (.getfield 22, 3) := by decide +kernel
theorem dX6_isDone_99 : decode cX6_isDone 99 = .ok (.iconst 2, 1) := by decide +kernel
theorem dX6_isDone_100 : decode cX6_isDone 100 = .ok (.iaload, 1) := by decide +kernel
theorem dX6_isDone_101 : decode cX6_isDone 101 = .ok (.aload_n 0, 1) := by decide +kernel
theorem dX6_isDone_102 : decode cX6_isDone 102 = .ok (.getfield 22, 3) := by decide +kernel
theorem dX6_isDone_105 : decode cX6_isDone 105 = .ok (.iconst 3, 1) := by decide +kernel
theorem dX6_isDone_106 : decode cX6_isDone 106 = .ok (.iaload, 1) := by decide +kernel
theorem dX6_isDone_107 : decode cX6_isDone 107 = .ok (.invokestatic 117, 3) := by decide +kernel
theorem dX6_isDone_110 : decode cX6_isDone 110 = .ok (.iconst 1, 1) := by decide +kernel
theorem dX6_isDone_111 : decode cX6_isDone 111 = .ok (.ireturn, 1) := by decide +kernel
theorem dX6_isDone_112 : decode cX6_isDone 112 = .ok (.aload_n 0, 1) := by decide +kernel
theorem dX6_isDone_113 : decode cX6_isDone 113 = .ok (.getfield 9, 3) := by decide +kernel
theorem dX6_isDone_116 : decode cX6_isDone 116 = .ok (.iconst 1, 1) := by decide +kernel
theorem dX6_isDone_117 : decode cX6_isDone 117 = .ok (.iload_n 2, 1) := by decide +kernel
theorem dX6_isDone_118 : decode cX6_isDone 118 = .ok (.iastore, 1) := by decide +kernel
theorem dX6_isDone_119 : decode cX6_isDone 119 = .ok (.iconst 1, 1) := by decide +kernel
theorem dX6_isDone_120 : decode cX6_isDone 120 = .ok (.ireturn, 1) := by decide +kernel
theorem dX6_isDone_121 : decode cX6_isDone 121 = .ok (.aload_n 0, 1) := by decide +kernel
theorem dX6_isDone_122 : decode cX6_isDone 122 = .ok (.iload_n 2, 1) := by decide +kernel
theorem dX6_isDone_123 : decode cX6_isDone 123 = .ok (.invokevirtual 121, 3) := by decide +kernel
theorem dX6_isDone_126 : decode cX6_isDone 126 = .ok (.ifCond .eq 35, 3) := by decide +kernel
theorem dX6_isDone_129 : decode cX6_isDone 129 = .ok (.aload_n 0, 1) := by decide +kernel
theorem dX6_isDone_130 : decode cX6_isDone 130 = .ok (.iload_n 3, 1) := by decide +kernel
theorem dX6_isDone_131 : decode cX6_isDone 131 = .ok (.invokevirtual 121, 3) := by decide +kernel
theorem dX6_isDone_134 : decode cX6_isDone 134 = .ok (.ifCond .eq 27, 3) := by decide +kernel
theorem dX6_isDone_137 : decode cX6_isDone 137 = .ok (.aload_n 0, 1) := by decide +kernel
theorem dX6_isDone_138 : decode cX6_isDone 138 = .ok (.getfield 9, 3) := by decide +kernel
theorem dX6_isDone_141 : decode cX6_isDone 141 = .ok (.iload_n 2, 1) := by decide +kernel
theorem dX6_isDone_142 : decode cX6_isDone 142 = .ok (.iload_n 3, 1) := by decide +kernel
theorem dX6_isDone_143 : decode cX6_isDone 143 = .ok (.invokestatic 91, 3) := by decide +kernel
theorem dX6_isDone_146 : decode cX6_isDone 146 = .ok (.ifCond .eq 15, 3) := by decide +kernel
theorem dX6_isDone_149 : decode cX6_isDone 149 = .ok (.aload_n 0, 1) := by decide +kernel
theorem dX6_isDone_150 : decode cX6_isDone 150 = .ok (.getfield 9, 3) := by decide +kernel
theorem dX6_isDone_153 : decode cX6_isDone 153 = .ok (.iconst 2, 1) := by decide +kernel
theorem dX6_isDone_154 : decode cX6_isDone 154 = .ok (.iaload, 1) := by decide +kernel
theorem dX6_isDone_155 : decode cX6_isDone 155 = .ok (.sipush 999, 3) := by decide +kernel
theorem dX6_isDone_158 : decode cX6_isDone 158 = .ok (.if_icmp .ne 5, 3) := by decide +kernel
theorem dX6_isDone_161 : decode cX6_isDone 161 = .ok (.iconst 0, 1) := by decide +kernel
theorem dX6_isDone_162 : decode cX6_isDone 162 = .ok (.ireturn, 1) := by decide +kernel
theorem dX6_isDone_163 : decode cX6_isDone 163 = .ok (.aload_n 0, 1) := by decide +kernel
theorem dX6_isDone_164 : decode cX6_isDone 164 = .ok (.getfield 9, 3) := by decide +kernel
theorem dX6_isDone_167 : decode cX6_isDone 167 = .ok (.iload_n 2, 1) := by decide +kernel
theorem dX6_isDone_168 : decode cX6_isDone 168 = .ok (.iload_n 3, 1) := by decide +kernel
theorem dX6_isDone_169 : decode cX6_isDone 169 = .ok (.invokestatic 125, 3) := by decide +kernel
theorem dX6_isDone_172 : decode cX6_isDone 172 = .ok (.istore 4, 2) := by decide +kernel
theorem dX6_isDone_174 : decode cX6_isDone 174 = .ok (.iconst 1, 1) := by decide +kernel
theorem dX6_isDone_175 : decode cX6_isDone 175 = .ok (.ireturn, 1) := by decide +kernel
theorem dX6_isDone_176 : decode cX6_isDone 176 = .ok (.aload_n 0, 1) := by decide +kernel
theorem dX6_isDone_177 : decode cX6_isDone 177 = .ok (.iload_n 2, 1) := by decide +kernel
theorem dX6_isDone_178 : decode cX6_isDone 178 = .ok (.invokevirtual 121, 3) := by decide +kernel
theorem dX6_isDone_181 : decode cX6_isDone 181 = .ok (.ifCond .eq 9, 3) := by decide +kernel
theorem dX6_isDone_184 : decode cX6_isDone 184 = .ok (.iload_n 3, 1) := by decide +kernel
theorem dX6_isDone_185 : decode cX6_isDone 185 = .ok (.bipush 30, 2) := by decide +kernel
theorem dX6_isDone_187 : decode cX6_isDone 187 = .ok (.if_icmp .le 5, 3) := by decide +kernel
theorem dX6_isDone_190 : decode cX6_isDone 190 = .ok (.iconst 0, 1) := by decide +kernel
theorem dX6_isDone_191 : decode cX6_isDone 191 = .ok (.ireturn, 1) := by decide +kernel
theorem dX6_isDone_192 : decode cX6_isDone 192 = .ok (.aload_n 0, 1) := by decide +kernel
theorem dX6_isDone_193 : decode cX6_isDone 193 = .ok (.getfield 9, 3) := by decide +kernel
theorem dX6_isDone_196 : decode cX6_isDone 196 = .ok (.iload_n 2, 1) := by decide +kernel
theorem dX6_isDone_197 : decode cX6_isDone 197 = .ok (.iload_n 1, 1) := by decide +kernel
theorem dX6_isDone_198 : decode cX6_isDone 198 = .ok (.bipush 104, 2) := by decide +kernel
theorem dX6_isDone_200 : decode cX6_isDone 200 = .ok (.if_icmp .ne 7, 3) := by decide +kernel
theorem dX6_isDone_203 : decode cX6_isDone 203 = .ok (.iconst 2, 1) := by decide +kernel
theorem dX6_isDone_204 : decode cX6_isDone 204 = .ok (.goto 4, 3) := by decide +kernel
theorem dX6_isDone_207 : decode cX6_isDone 207 = .ok (.iconst 3, 1) := by decide +kernel
theorem dX6_isDone_208 : decode cX6_isDone 208 = .ok (.invokestatic 53, 3) := by decide +kernel
theorem dX6_isDone_211 : decode cX6_isDone 211 = .ok (.iload_n 3, 1) := by decide +kernel
theorem dX6_isDone_212 : decode cX6_isDone 212 = .ok (.iastore, 1) := by decide +kernel
theorem dX6_isDone_213 : decode cX6_isDone 213 = .ok (.iconst 1, 1) := by decide +kernel
theorem dX6_isDone_214 : decode cX6_isDone 214 = .ok (.ireturn, 1) := by decide +kernel
theorem dX6_fete_0 : decode cX6_fete 0 = .ok (.aload_n 0, 1) := by decide +kernel
theorem dX6_fete_1 : decode cX6_fete 1 = .ok (.iload_n 1, 1) := by decide +kernel
theorem dX6_fete_2 : decode cX6_fete 2 = .ok (.iconst 0, 1) := by decide +kernel
theorem dX6_fete_3 : decode cX6_fete 3 = .ok (.invokevirtual 128, 3) := by decide +kernel
theorem dX6_fete_6 : decode cX6_fete 6 = .ok (.istore_n 2, 1) := by decide +kernel
theorem dX6_fete_7 : decode cX6_fete 7 = .ok (.iload_n 2, 1) := by decide +kernel
theorem dX6_fete_8 : decode cX6_fete 8 = .ok (.ifCond .eq 5, 3) := by decide +kernel
theorem dX6_fete_11 : decode cX6_fete 11 = .ok (.iload_n 2, 1) := by decide +kernel
theorem dX6_fete_12 : decode cX6_fete 12 = .ok (.ireturn, 1) := by decide +kernel
theorem dX6_fete_13 : decode cX6_fete 13 = .ok (.aload_n 0, 1) := by decide +kernel
theorem dX6_fete_14 : decode cX6_fete 14 = .ok (.bipush 100, 2) := by decide +kernel
theorem dX6_fete_16 : decode cX6_fete 16 = .ok (.iload_n 1, 1) := by decide +kernel
theorem dX6_fete_17 : decode cX6_fete 17 = .ok (.imul, 1) := by decide +kernel
theorem dX6_fete_18 : decode cX6_fete 18 = .ok (.putfield 106, 3) := by decide +kernel
theorem dX6_fete_21 : decode cX6_fete 21 = .ok (.aload_n 0, 1) := by decide +kernel
theorem dX6_fete_22 : decode cX6_fete 22 = .ok (.aload_n 0, 1) := by decide +kernel
theorem dX6_fete_23 : decode cX6_fete 23 = .ok (.getfield 43, 3) := by decide +kernel
theorem dX6_fete_26 : decode cX6_fete 26 = .ok (.iload_n 1, 1) := by decide +kernel
theorem dX6_fete_27 : decode cX6_fete 27 = .ok (.iaload, 1) := by decide +kernel
theorem dX6_fete_28 : decode cX6_fete 28 = .ok (.putfield 103, 3) := by decide +kernel
theorem dX6_fete_31 : decode cX6_fete 31 = .ok (.aload_n 0, 1) := by decide +kernel
theorem dX6_fete_32 : decode cX6_fete 32 = .ok (.iconst 0, 1) := by decide +kernel
theorem dX6_fete_33 : decode cX6_fete 33 = .ok (.putfield 99, 3) := by decide +kernel
theorem dX6_fete_36 : decode cX6_fete 36 = .ok (.iconst 0, 1) := by decide +kernel
theorem dX6_fete_37 : decode cX6_fete 37 = .ok (.istore_n 3, 1) := by decide +kernel
theorem dX6_fete_38 : decode cX6_fete 38 = .ok (.iconst 0, 1) := by decide +kernel
theorem dX6_fete_39 : decode cX6_fete 39 = .ok (.istore 4, 2) := by decide +kernel
theorem dX6_fete_41 : decode cX6_fete 41 = .ok (.aload_n 0, 1) := by decide +kernel
theorem dX6_fete_42 : decode cX6_fete 42 = .ok (.invokevirtual 131, 3) := by decide +kernel
theorem dX6_fete_45 : decode cX6_fete 45 = .ok (.ifCond .ne 13, 3) := by decide +kernel
theorem dX6_fete_48 : decode cX6_fete 48 = .ok (.sipush (-1000), 3) := by decide +kernel
theorem dX6_fete_51 : decode cX6_fete 51 = .ok (.aload_n 0, 1) := by decide +kernel
theorem dX6_fete_52 : decode cX6_fete 52 = .ok (.getfield 99, 3) := by decide +kernel
theorem dX6_fete_55 : decode cX6_fete 55 = .ok (.isub, 1) := by decide +kernel
theorem dX6_fete_56 : decode cX6_fete 56 = .ok (.istore 4, 2) := by decide +kernel
theorem dX6_fete_58 : decode cX6_fete 58 = .ok (.iinc 3 1, 3) := by decide +kernel
theorem dX6_fete_61 : decode cX6_fete 61 = .ok (.iload 4, 2) := by decide +kernel
theorem dX6_fete_63 : decode cX6_fete 63 = .ok (.ifCond .ne 14, 3) := by decide +kernel
theorem dX6_fete_66 : decode cX6_fete 66 = .ok (.aload_n 0, 1) := by decide +kernel
theorem dX6_fete_67 : decode cX6_fete 67 = .ok (.getfield 99, 3) := by decide +kernel
theorem dX6_fete_70 : decode cX6_fete 70 = .ok (.aload_n 0, 1) := by decide +kernel
theorem dX6_fete_71 : decode cX6_fete 71 = .ok (.getfield 103, 3) := by decide +kernel
theorem dX6_fete_74 : decode cX6_fete 74 = .ok (.if_icmp .lt (-33), 3) := by decide +kernel
theorem dX6_fete_77 : decode cX6_fete 77 = .ok (.aload_n 0, 1) := by decide +kernel
theorem dX6_fete_78 : decode cX6_fete 78 = .ok (.getfield 9, 3) := by decide +kernel
theorem dX6_fete_81 : decode cX6_fete 81 = .ok (.aload_n 0, 1) := by decide +kernel
theorem dX6_fete_82 : decode cX6_fete 82 = .ok (.getfield 19, 3) := by decide +kernel
theorem dX6_fete_85 : decode cX6_fete 85 = .ok (.invokestatic 135, 3) := by decide +kernel
theorem dX6_fete_88 : decode cX6_fete 88 = .ok (.aload_n 0, 1) := by decide +kernel
theorem dX6_fete_89 : decode cX6_fete 89 = .ok (.iconst 0, 1) := by decide +kernel
theorem dX6_fete_90 : decode cX6_fete 90 = .ok (.putfield 99, 3) := by decide +kernel
theorem dX6_fete_93 : decode cX6_fete 93 = .ok (.iload 4, 2) := by decide +kernel
theorem dX6_fete_95 : decode cX6_fete 95 = .ok (.ifCond .ne 66, 3) := by decide +kernel
theorem dX6_fete_98 : decode cX6_fete 98 = .ok (.aload_n 0, 1) := by decide +kernel
theorem dX6_fete_99 : decode cX6_fete 99 = .ok (.getfield 99, 3) := by decide +kernel
theorem dX6_fete_102 : decode cX6_fete 102 = .ok (.aload_n 0, 1) := by decide +kernel
theorem dX6_fete_103 : decode cX6_fete 103 = .ok (.getfield 103, 3) := by decide +kernel
theorem dX6_fete_106 : decode cX6_fete 106 = .ok (.if_icmp .ge 55, 3) := by decide +kernel
theorem dX6_fete_109 : decode cX6_fete 109 = .ok (.aload_n 0, 1) := by decide +kernel
theorem dX6_fete_110 : decode cX6_fete 110 = .ok (.getfield 99, 3) := by decide +kernel
theorem dX6_fete_113 : decode cX6_fete 113 = .ok (.istore 5, 2) := by decide +kernel
theorem dX6_fete_115 : decode cX6_fete 115 = .ok (.aload_n 0, 1) := by decide +kernel
theorem dX6_fete_116 : decode cX6_fete 116 = .ok (.invokevirtual 109, 3) := by decide +kernel
theorem dX6_fete_119 : decode cX6_fete 119 = .ok (.istore 6, 2) := by decide +kernel
theorem dX6_fete_121 : decode cX6_fete 121 = .ok (.aload_n 0, 1) := by decide +kernel
theorem dX6_fete_122 : decode cX6_fete 122 = .ok (.invokevirtual 131, 3) := by decide +kernel
theorem dX6_fete_125 : decode cX6_fete 125 = .ok (.istore 7, 2) := by decide +kernel
theorem dX6_fete_127 : decode cX6_fete 127 = .ok (.aload_n 0, 1) := by decide +kernel
theorem dX6_fete_128 : decode cX6_fete 128 = .ok (.iload 6, 2) := by decide +kernel
theorem dX6_fete_130 : decode cX6_fete 130 = .ok (.invokevirtual 139, 3) := by decide +kernel
theorem dX6_fete_133 : decode cX6_fete 133 = .ok (.ifCond .eq 6, 3) := by decide +kernel
theorem dX6_fete_136 : decode cX6_fete 136 = .ok (.goto (-43), 3) := by decide +kernel
theorem dX6_fete_139 : decode cX6_fete 139 = .ok (.sipush (-2000), 3) := by decide +kernel
theorem dX6_fete_142 : decode cX6_fete 142 = .ok (.iload 5, 2) := by decide +kernel
theorem dX6_fete_144 : decode cX6_fete 144 = .ok (.isub, 1) := by decide +kernel
theorem dX6_fete_145 : decode cX6_fete 145 = .ok (.istore 4, 2) := by decide +kernel
theorem dX6_fete_147 : decode cX6_fete 147 = .ok (.aload_n 0, 1) := by decide +kernel
theorem dX6_fete_148 : decode cX6_fete 148 = .ok (.getfield 19, 3) := by decide +kernel
theorem dX6_fete_151 : decode cX6_fete 151 = .ok (.aload_n 0, 1) := by decide +kernel
theorem dX6_fete_152 : decode cX6_fete 152 = .ok (.getfield 9, 3) := by decide +kernel
theorem dX6_fete_155 : decode cX6_fete 155 = .ok (.invokestatic 135, 3) := by decide +kernel
theorem dX6_fete_158 : decode cX6_fete 158 = .ok (.goto (-65), 3) := by decide +kernel
theorem dX6_fete_161 : decode cX6_fete 161 = .ok (.iload 4, 2) := by decide +kernel
theorem dX6_fete_163 : decode cX6_fete 163 = .ok (.ifCond .ne 7, 3) := by decide +kernel
theorem dX6_fete_166 : decode cX6_fete 166 = .ok (.iload_n 3, 1) := by decide +kernel
theorem dX6_fete_167 : decode cX6_fete 167 = .ok (.goto 5, 3) := by decide +kernel
theorem dX6_fete_170 : decode cX6_fete 170 = .ok (.iload 4, 2) := by decide +kernel
theorem dX6_fete_172 : decode cX6_fete 172 = .ok (.ireturn, 1) := by decide +kernel
theorem dX6_person_0 : decode cX6_person 0 = .ok (.aload_n 0, 1) := by decide +kernel
theorem dX6_person_1 : decode cX6_person 1 = .ok (.iload_n 1, 1) := by decide +kernel
theorem dX6_person_2 : decode cX6_person 2 = .ok (.invokevirtual 121, 3) := by decide +kernel
theorem dX6_person_5 : decode cX6_person 5 = .ok (.ifCond .eq 13, 3) := by decide +kernel
theorem dX6_person_8 : decode cX6_person 8 = .ok (.iload_n 2, 1) := by decide +kernel
theorem dX6_person_9 : decode cX6_person 9 = .ok (.iconst 0, 1) := by decide +kernel
theorem dX6_person_10 : decode cX6_person 10 = .ok (.bipush 8, 2) := by decide +kernel
theorem dX6_person_12 : decode cX6_person 12 = .ok (.invokestatic 49, 3) := by decide +kernel
theorem dX6_person_15 : decode cX6_person 15 = .ok (.ifCond .ne 5, 3) := by decide +kernel
theorem dX6_person_18 : decode cX6_person 18 = .ok (.iconst (-1), 1) := by decide +kernel
theorem dX6_person_19 : decode cX6_person 19 = .ok (.ireturn, 1) := by decide +kernel
theorem dX6_person_20 : decode cX6_person 20 = .ok (.aload_n 0, 1) := by decide +kernel
theorem dX6_person_21 : decode cX6_person 21 = .ok (.getfield 9, 3) := by decide +kernel
theorem dX6_person_24 : decode cX6_person 24 = .ok (.iload_n 1, 1) := by decide +kernel
theorem dX6_person_25 : decode cX6_person 25 = .ok (.iconst 0, 1) := by decide +kernel
theorem dX6_person_26 : decode cX6_person 26 = .ok (.invokestatic 53, 3) := by decide +kernel
theorem dX6_person_29 : decode cX6_person 29 = .ok (.iaload, 1) := by decide +kernel
theorem dX6_person_30 : decode cX6_person 30 = .ok (.istore_n 3, 1) := by decide +kernel
theorem dX6_person_31 : decode cX6_person 31 = .ok (.aload_n 0, 1) := by decide +kernel
theorem dX6_person_32 : decode cX6_person 32 = .ok (.getfield 9, 3) := by decide +kernel
theorem dX6_person_35 : decode cX6_person 35 = .ok (.iload_n 1, 1) := by decide +kernel
theorem dX6_person_36 : decode cX6_person 36 = .ok (.iconst 1, 1) := by decide +kernel
theorem dX6_person_37 : decode cX6_person 37 = .ok (.invokestatic 53, 3) := by decide +kernel
theorem dX6_person_40 : decode cX6_person 40 = .ok (.iaload, 1) := by decide +kernel
theorem dX6_person_41 : decode cX6_person 41 = .ok (.istore 4, 2) := by decide +kernel
theorem dX6_person_43 : decode cX6_person 43 = .ok (.iload_n 2, 1) := by decide +kernel
theorem dX6_person_44 : decode cX6_person 44 = .ok (.bipush 6, 2) := by decide +kernel
theorem dX6_person_46 : decode cX6_person 46 = .ok (.if_icmp .ge 16, 3) := by decide +kernel
theorem dX6_person_49 : decode cX6_person 49 = .ok (.aload_n 0, 1) := by decide +kernel
theorem dX6_person_50 : decode cX6_person 50 = .ok (.getfield 9, 3) := by decide +kernel
theorem dX6_person_53 : decode cX6_person 53 = .ok (.iload_n 1, 1) := by decide +kernel
theorem dX6_person_54 : decode cX6_person 54 = .ok (.iload_n 2, 1) := by decide +kernel
theorem dX6_person_55 : decode cX6_person 55 = .ok (.invokestatic 53, 3) := by decide +kernel
theorem dX6_person_58 : decode cX6_person 58 = .ok (.iaload, 1) := by decide +kernel
theorem dX6_person_59 : decode cX6_person 59 = .ok (.goto 37, 3) := by decide +kernel
theorem dX6_person_62 : decode cX6_person 62 = .ok (.iload_n 2, 1) := by decide +kernel
theorem dX6_person_63 : decode cX6_person 63 = .ok (.bipush 6, 2) := by decide +kernel
theorem dX6_person_65 : decode cX6_person 65 = .ok (.if_icmp .ne 12, 3) := by decide +kernel
theorem dX6_person_68 : decode cX6_person 68 = .ok (.iload_n 3, 1) := by decide +kernel
theorem dX6_person_69 : decode cX6_person 69 = .ok (.iload 4, 2) := by decide +kernel
theorem dX6_person_71 : decode cX6_person 71 = .ok (.invokestatic 57, 3) := by decide +kernel
theorem dX6_person_74 : decode cX6_person 74 = .ok (.goto 22, 3) := by decide +kernel
theorem dX6_person_77 : decode cX6_person 77 = .ok (.iload_n 2, 1) := by decide +kernel
theorem dX6_person_78 : decode cX6_person 78 = .ok (.bipush 7, 2) := by decide +kernel
theorem dX6_person_80 : decode cX6_person 80 = .ok (.if_icmp .ne 12, 3) := by decide +kernel
theorem dX6_person_83 : decode cX6_person 83 = .ok (.iload_n 3, 1) := by decide +kernel
theorem dX6_person_84 : decode cX6_person 84 = .ok (.iload 4, 2) := by decide +kernel
theorem dX6_person_86 : decode cX6_person 86 = .ok (.invokestatic 63, 3) := by decide +kernel
theorem dX6_person_89 : decode cX6_person 89 = .ok (.goto 7, 3) := by decide +kernel
theorem dX6_person_92 : decode cX6_person 92 = .ok (.iload_n 3, 1) := by decide +kernel
theorem dX6_person_93 : decode cX6_person 93 = .ok (.invokestatic 74, 3) := by decide +kernel
theorem dX6_person_96 : decode cX6_person 96 = .ok (.ireturn, 1) := by decide +kernel
theorem dX6_comes_0 : decode cX6_comes 0 = .ok (.iload_n 2, 1) := by decide +kernel
theorem dX6_comes_1 : decode cX6_comes 1 = .ok (.iconst 0, 1) := by decide +kernel
theorem dX6_comes_2 : decode cX6_comes 2 = .ok (.bipush 30, 2) := by decide +kernel
theorem dX6_comes_4 : decode cX6_comes 4 = .ok (.invokestatic 49, 3) := by decide +kernel
theorem dX6_comes_7 : decode cX6_comes 7 = .ok (.ifCond .eq 13, 3) := by decide +kernel
theorem dX6_comes_10 : decode cX6_comes 10 = .ok (.iload_n 3, 1) := by decide +kernel
theorem dX6_comes_11 : decode cX6_comes 11 = .ok (.iconst 0, 1) := by decide +kernel
theorem dX6_comes_12 : decode cX6_comes 12 = .ok (.bipush 30, 2) := by decide +kernel
theorem dX6_comes_14 : decode cX6_comes 14 = .ok (.invokestatic 49, 3) := by decide +kernel
theorem dX6_comes_17 : decode cX6_comes 17 = .ok (.ifCond .ne 5, 3) := by decide +kernel
theorem dX6_comes_20 : decode cX6_comes 20 = .ok (.iconst (-1), 1) := by decide +kernel
theorem dX6_comes_21 : decode cX6_comes 21 = .ok (.ireturn, 1) := by decide +kernel
theorem dX6_comes_22 : decode cX6_comes 22 = .ok (.aload_n 0, 1) := by decide +kernel
theorem dX6_comes_23 : decode cX6_comes 23 = .ok (.iload_n 1, 1) := by decide +kernel
theorem dX6_comes_24 : decode cX6_comes 24 = .ok (.invokevirtual 142, 3) := by decide +kernel
theorem dX6_comes_27 : decode cX6_comes 27 = .ok (.istore 4, 2) := by decide +kernel
theorem dX6_comes_29 : decode cX6_comes 29 = .ok (.iload 4, 2) := by decide +kernel
theorem dX6_comes_31 : decode cX6_comes 31 = .ok (.ifCond .eq 6, 3) := by decide +kernel
theorem dX6_comes_34 : decode cX6_comes 34 = .ok (.iload 4, 2) := by decide +kernel
theorem dX6_comes_36 : decode cX6_comes 36 = .ok (.ireturn, 1) := by decide +kernel
theorem dX6_comes_37 : decode cX6_comes 37 = .ok (.aload_n 0, 1) := by decide +kernel
theorem dX6_comes_38 : decode cX6_comes 38 = .ok (.getfield 9, 3) := by decide +kernel
theorem dX6_comes_41 : decode cX6_comes 41 = .ok (.iconst 0, 1) := by decide +kernel
theorem dX6_comes_42 : decode cX6_comes 42 = .ok (.iaload, 1) := by decide +kernel
theorem dX6_comes_43 : decode cX6_comes 43 = .ok (.bipush 8, 2) := by decide +kernel
theorem dX6_comes_45 : decode cX6_comes 45 = .ok (.if_icmp .ne 6, 3) := by decide +kernel
theorem dX6_comes_48 : decode cX6_comes 48 = .ok (.bipush (-2), 2) := by decide +kernel
theorem dX6_comes_50 : decode cX6_comes 50 = .ok (.ireturn, 1) := by decide +kernel
theorem dX6_comes_51 : decode cX6_comes 51 = .ok (.aload_n 0, 1) := by decide +kernel
theorem dX6_comes_52 : decode cX6_comes 52 = .ok (.getfield 9, 3) := by decide +kernel
theorem dX6_comes_55 : decode cX6_comes 55 = .ok (.aload_n 0, 1) := by decide +kernel
theorem dX6_comes_56 : decode cX6_comes 56 = .ok (.getfield 34, 3) := by decide +kernel
theorem dX6_comes_59 : decode cX6_comes 59 = .ok (.iload_n 1, 1) := by decide +kernel
theorem dX6_comes_60 : decode cX6_comes 60 = .ok (.iaload, 1) := by decide +kernel
theorem dX6_comes_61 : decode cX6_comes 61 = .ok (.aload_n 0, 1) := by decide +kernel
theorem dX6_comes_62 : decode cX6_comes 62 = .ok (.getfield 37, 3) := by decide +kernel
theorem dX6_comes_65 : decode cX6_comes 65 = .ok (.iload_n 1, 1) := by decide +kernel
theorem dX6_comes_66 : decode cX6_comes 66 = .ok (.iaload, 1) := by decide +kernel
theorem dX6_comes_67 : decode cX6_comes 67 = .ok (.iload_n 2, 1) := by decide +kernel
theorem dX6_comes_68 : decode cX6_comes 68 = .ok (.iload_n 3, 1) := by decide +kernel
theorem dX6_comes_69 : decode cX6_comes 69 = .ok (.invokestatic 117, 3) := by decide +kernel
theorem dX6_comes_72 : decode cX6_comes 72 = .ok (.aload_n 0, 1) := by decide +kernel
theorem dX6_comes_73 : decode cX6_comes 73 = .ok (.getfield 9, 3) := by decide +kernel
theorem dX6_comes_76 : decode cX6_comes 76 = .ok (.iconst 0, 1) := by decide +kernel
theorem dX6_comes_77 : decode cX6_comes 77 = .ok (.iaload, 1) := by decide +kernel
theorem dX6_comes_78 : decode cX6_comes 78 = .ok (.iconst 1, 1) := by decide +kernel
theorem dX6_comes_79 : decode cX6_comes 79 = .ok (.isub, 1) := by decide +kernel
theorem dX6_comes_80 : decode cX6_comes 80 = .ok (.ireturn, 1) := by decide +kernel
theorem dX6_feels_0 : decode cX6_feels 0 = .ok (.aload_n 0, 1) := by decide +kernel
theorem dX6_feels_1 : decode cX6_feels 1 = .ok (.iload_n 1, 1) := by decide +kernel
theorem dX6_feels_2 : decode cX6_feels 2 = .ok (.invokevirtual 121, 3) := by decide +kernel
theorem dX6_feels_5 : decode cX6_feels 5 = .ok (.ifCond .eq 22, 3) := by decide +kernel
theorem dX6_feels_8 : decode cX6_feels 8 = .ok (.iload_n 2, 1) := by decide +kernel
theorem dX6_feels_9 : decode cX6_feels 9 = .ok (.iconst 0, 1) := by decide +kernel
theorem dX6_feels_10 : decode cX6_feels 10 = .ok (.iconst 1, 1) := by decide +kernel
theorem dX6_feels_11 : decode cX6_feels 11 = .ok (.invokestatic 49, 3) := by decide +kernel
theorem dX6_feels_14 : decode cX6_feels 14 = .ok (.ifCond .eq 13, 3) := by decide +kernel
theorem dX6_feels_17 : decode cX6_feels 17 = .ok (.iload_n 3, 1) := by decide +kernel
theorem dX6_feels_18 : decode cX6_feels 18 = .ok (.iconst 0, 1) := by decide +kernel
theorem dX6_feels_19 : decode cX6_feels 19 = .ok (.bipush 30, 2) := by decide +kernel
theorem dX6_feels_21 : decode cX6_feels 21 = .ok (.invokestatic 49, 3) := by decide +kernel
theorem dX6_feels_24 : decode cX6_feels 24 = .ok (.ifCond .ne 5, 3) := by decide +kernel
theorem dX6_feels_27 : decode cX6_feels 27 = .ok (.iconst (-1), 1) := by decide +kernel
theorem dX6_feels_28 : decode cX6_feels 28 = .ok (.ireturn, 1) := by decide +kernel
theorem dX6_feels_29 : decode cX6_feels 29 = .ok (.iload_n 1, 1) := by decide +kernel
theorem dX6_feels_30 : decode cX6_feels 30 = .ok (.iload_n 2, 1) := by decide +kernel
theorem dX6_feels_31 : decode cX6_feels 31 = .ok (.ifCond .ne 7, 3) := by decide +kernel
theorem dX6_feels_34 : decode cX6_feels 34 = .ok (.iconst 2, 1) := by decide +kernel
theorem dX6_feels_35 : decode cX6_feels 35 = .ok (.goto 4, 3) := by decide +kernel
theorem dX6_feels_38 : decode cX6_feels 38 = .ok (.iconst 3, 1) := by decide +kernel
theorem dX6_feels_39 : decode cX6_feels 39 = .ok (.invokestatic 53, 3) := by decide +kernel
theorem dX6_feels_42 : decode cX6_feels 42 = .ok (.istore 4, 2) := by decide +kernel
theorem dX6_feels_44 : decode cX6_feels 44 = .ok (.aload_n 0, 1) := by decide +kernel
theorem dX6_feels_45 : decode cX6_feels 45 = .ok (.getfield 9, 3) := by decide +kernel
theorem dX6_feels_48 : decode cX6_feels 48 = .ok (.iload 4, 2) := by decide +kernel
theorem dX6_feels_50 : decode cX6_feels 50 = .ok (.iaload, 1) := by decide +kernel
theorem dX6_feels_51 : decode cX6_feels 51 = .ok (.istore 5, 2) := by decide +kernel
theorem dX6_feels_53 : decode cX6_feels 53 = .ok (.aload_n 0, 1) := by decide +kernel
theorem dX6_feels_54 : decode cX6_feels 54 = .ok (.getfield 9, 3) := by decide +kernel
theorem dX6_feels_57 : decode cX6_feels 57 = .ok (.iload 4, 2) := by decide +kernel
theorem dX6_feels_59 : decode cX6_feels 59 = .ok (.iload_n 3, 1) := by decide +kernel
theorem dX6_feels_60 : decode cX6_feels 60 = .ok (.iastore, 1) := by decide +kernel
theorem dX6_feels_61 : decode cX6_feels 61 = .ok (.iload 5, 2) := by decide +kernel
theorem dX6_feels_63 : decode cX6_feels 63 = .ok (.ireturn, 1) := by decide +kernel
theorem dX6_slices_0 : decode cX6_slices 0 = .ok (.iload_n 1, 1) := by decide +kernel
theorem dX6_slices_1 : decode cX6_slices 1 = .ok (.iconst 0, 1) := by decide +kernel
theorem dX6_slices_2 : decode cX6_slices 2 = .ok (.bipush 99, 2) := by decide +kernel
theorem dX6_slices_4 : decode cX6_slices 4 = .ok (.invokestatic 49, 3) := by decide +kernel
theorem dX6_slices_7 : decode cX6_slices 7 = .ok (.ifCond .ne 5, 3) := by decide +kernel
theorem dX6_slices_10 : decode cX6_slices 10 = .ok (.iconst (-1), 1) := by decide +kernel
theorem dX6_slices_11 : decode cX6_slices 11 = .ok (.ireturn, 1) := by decide +kernel
theorem dX6_slices_12 : decode cX6_slices 12 = .ok (.aload_n 0, 1) := by decide +kernel
theorem dX6_slices_13 : decode cX6_slices 13 = .ok (.getfield 9, 3) := by decide +kernel
theorem dX6_slices_16 : decode cX6_slices 16 = .ok (.iconst 1, 1) := by decide +kernel
theorem dX6_slices_17 : decode cX6_slices 17 = .ok (.iaload, 1) := by decide +kernel
theorem dX6_slices_18 : decode cX6_slices 18 = .ok (.istore_n 2, 1) := by decide +kernel
theorem dX6_slices_19 : decode cX6_slices 19 = .ok (.aload_n 0, 1) := by decide +kernel
theorem dX6_slices_20 : decode cX6_slices 20 = .ok (.getfield 9, 3) := by decide +kernel
theorem dX6_slices_23 : decode cX6_slices 23 = .ok (.iconst 1, 1) := by decide +kernel
theorem dX6_slices_24 : decode cX6_slices 24 = .ok (.iload_n 1, 1) := by decide +kernel
theorem dX6_slices_25 : decode cX6_slices 25 = .ok (.iastore, 1) := by decide +kernel
theorem dX6_slices_26 : decode cX6_slices 26 = .ok (.iload_n 2, 1) := by decide +kernel
theorem dX6_slices_27 : decode cX6_slices 27 = .ok (.ireturn, 1) := by decide +kernel
theorem dX6_wrongTurn_0 : decode cX6_wrongTurn 0 = .ok (.aload_n 0, 1) := by decide +kernel
theorem dX6_wrongTurn_1 : decode cX6_wrongTurn 1 = .ok (.iload_n 1, 1) := by decide +kernel
theorem dX6_wrongTurn_2 : decode cX6_wrongTurn 2 = .ok (.invokevirtual 121, 3) := by decide +kernel
theorem dX6_wrongTurn_5 : decode cX6_wrongTurn 5 = .ok (.ifCond .eq 16, 3) := by decide +kernel
theorem dX6_wrongTurn_8 : decode cX6_wrongTurn 8 = .ok (.aload_n 0, 1) := by decide +kernel
theorem dX6_wrongTurn_9 : decode cX6_wrongTurn 9 = .ok (.iload_n 2, 1) := by decide +kernel
theorem dX6_wrongTurn_10 : decode cX6_wrongTurn 10 = .ok (.invokevirtual 121, 3) := by decide +kernel
theorem dX6_wrongTurn_13 : decode cX6_wrongTurn 13 = .ok (.ifCond .eq 8, 3) := by decide +kernel
theorem dX6_wrongTurn_16 : decode cX6_wrongTurn 16 = .ok (.iload_n 1, 1) := by decide +kernel
theorem dX6_wrongTurn_17 : decode cX6_wrongTurn 17 = .ok (.iload_n 2, 1) := by decide +kernel
theorem dX6_wrongTurn_18 : decode cX6_wrongTurn 18 = .ok (.if_icmp .ne 7, 3) := by decide +kernel
theorem dX6_wrongTurn_21 : decode cX6_wrongTurn 21 = .ok (.iconst (-1), 1) := by decide +kernel
theorem dX6_wrongTurn_22 : decode cX6_wrongTurn 22 = .ok (.goto 21, 3) := by decide +kernel
theorem dX6_wrongTurn_25 : decode cX6_wrongTurn 25 = .ok (.aload_n 0, 1) := by decide +kernel
theorem dX6_wrongTurn_26 : decode cX6_wrongTurn 26 = .ok (.getfield 9, 3) := by decide +kernel
theorem dX6_wrongTurn_29 : decode cX6_wrongTurn 29 = .ok (.iload_n 1, 1) := by decide +kernel
theorem dX6_wrongTurn_30 : decode cX6_wrongTurn 30 = .ok (.iload_n 2, 1) := by decide +kernel
theorem dX6_wrongTurn_31 : decode cX6_wrongTurn 31 = .ok (.invokestatic 91, 3) := by decide +kernel
theorem dX6_wrongTurn_34 : decode cX6_wrongTurn 34 = .ok (.ifCond .eq 7, 3) := by decide +kernel
theorem dX6_wrongTurn_37 : decode cX6_wrongTurn 37 = .ok (.iconst 0, 1) := by decide +kernel
theorem dX6_wrongTurn_38 : decode cX6_wrongTurn 38 = .ok (.goto 5, 3) := by decide +kernel
theorem dX6_wrongTurn_41 : decode cX6_wrongTurn 41 = .ok (.bipush (-3), 2) := by decide +kernel
theorem dX6_wrongTurn_43 : decode cX6_wrongTurn 43 = .ok (.ireturn, 1) := by decide +kernel
theorem dX6_eats_0 : decode cX6_eats 0 = .ok (.aload_n 0, 1) := by decide +kernel
theorem dX6_eats_1 : decode cX6_eats 1 = .ok (.iload_n 1, 1) := by decide +kernel
theorem dX6_eats_2 : decode cX6_eats 2 = .ok (.iload_n 2, 1) := by decide +kernel
theorem dX6_eats_3 : decode cX6_eats 3 = .ok (.invokevirtual 145, 3) := by decide +kernel
theorem dX6_eats_6 : decode cX6_eats 6 = .ok (.istore_n 3, 1) := by decide +kernel
theorem dX6_eats_7 : decode cX6_eats 7 = .ok (.iload_n 3, 1) := by decide +kernel
theorem dX6_eats_8 : decode cX6_eats 8 = .ok (.ifCond .ne 18, 3) := by decide +kernel
theorem dX6_eats_11 : decode cX6_eats 11 = .ok (.aload_n 0, 1) := by decide +kernel
theorem dX6_eats_12 : decode cX6_eats 12 = .ok (.getfield 9, 3) := by decide +kernel
theorem dX6_eats_15 : decode cX6_eats 15 = .ok (.iconst 2, 1) := by decide +kernel
theorem dX6_eats_16 : decode cX6_eats 16 = .ok (.iaload, 1) := by decide +kernel
theorem dX6_eats_17 : decode cX6_eats 17 = .ok (.sipush 999, 3) := by decide +kernel
theorem dX6_eats_20 : decode cX6_eats 20 = .ok (.if_icmp .ne 6, 3) := by decide +kernel
theorem dX6_eats_23 : decode cX6_eats 23 = .ok (.bipush (-3), 2) := by decide +kernel
theorem dX6_eats_25 : decode cX6_eats 25 = .ok (.istore_n 3, 1) := by decide +kernel
theorem dX6_eats_26 : decode cX6_eats 26 = .ok (.iload_n 3, 1) := by decide +kernel
theorem dX6_eats_27 : decode cX6_eats 27 = .ok (.ifCond .eq 7, 3) := by decide +kernel
theorem dX6_eats_30 : decode cX6_eats 30 = .ok (.iload_n 3, 1) := by decide +kernel
theorem dX6_eats_31 : decode cX6_eats 31 = .ok (.goto 12, 3) := by decide +kernel
theorem dX6_eats_34 : decode cX6_eats 34 = .ok (.aload_n 0, 1) := by decide +kernel
theorem dX6_eats_35 : decode cX6_eats 35 = .ok (.getfield 9, 3) := by decide +kernel
theorem dX6_eats_38 : decode cX6_eats 38 = .ok (.iload_n 1, 1) := by decide +kernel
theorem dX6_eats_39 : decode cX6_eats 39 = .ok (.iload_n 2, 1) := by decide +kernel
theorem dX6_eats_40 : decode cX6_eats 40 = .ok (.invokestatic 125, 3) := by decide +kernel
theorem dX6_eats_43 : decode cX6_eats 43 = .ok (.ireturn, 1) := by decide +kernel
theorem dX6_joys_0 : decode cX6_joys 0 = .ok (.iload_n 3, 1) := by decide +kernel
theorem dX6_joys_1 : decode cX6_joys 1 = .ok (.iconst 0, 1) := by decide +kernel
theorem dX6_joys_2 : decode cX6_joys 2 = .ok (.iconst 2, 1) := by decide +kernel
theorem dX6_joys_3 : decode cX6_joys 3 = .ok (.invokestatic 49, 3) := by decide +kernel
theorem dX6_joys_6 : decode cX6_joys 6 = .ok (.ifCond .ne 5, 3) := by decide +kernel
theorem dX6_joys_9 : decode cX6_joys 9 = .ok (.iconst (-1), 1) := by decide +kernel
theorem dX6_joys_10 : decode cX6_joys 10 = .ok (.ireturn, 1) := by decide +kernel
theorem dX6_joys_11 : decode cX6_joys 11 = .ok (.aload_n 0, 1) := by decide +kernel
theorem dX6_joys_12 : decode cX6_joys 12 = .ok (.iload_n 1, 1) := by decide +kernel
theorem dX6_joys_13 : decode cX6_joys 13 = .ok (.iload_n 2, 1) := by decide +kernel
theorem dX6_joys_14 : decode cX6_joys 14 = .ok (.invokevirtual 145, 3) := by decide +kernel
theorem dX6_joys_17 : decode cX6_joys 17 = .ok (.istore 4, 2) := by decide +kernel
theorem dX6_joys_19 : decode cX6_joys 19 = .ok (.iload 4, 2) := by decide +kernel
theorem dX6_joys_21 : decode cX6_joys 21 = .ok (.ifCond .eq 6, 3) := by decide +kernel
theorem dX6_joys_24 : decode cX6_joys 24 = .ok (.iload 4, 2) := by decide +kernel
theorem dX6_joys_26 : decode cX6_joys 26 = .ok (.ireturn, 1) := by decide +kernel
theorem dX6_joys_27 : decode cX6_joys 27 = .ok (.iload_n 3, 1) := by decide +kernel
theorem dX6_joys_28 : decode cX6_joys 28 = .ok (.ifCond .ne 15, 3) := by decide +kernel
theorem dX6_joys_31 : decode cX6_joys 31 = .ok (.aload_n 0, 1) := by decide +kernel
theorem dX6_joys_32 : decode cX6_joys 32 = .ok (.getfield 9, 3) := by decide +kernel
theorem dX6_joys_35 : decode cX6_joys 35 = .ok (.iload_n 1, 1) := by decide +kernel
theorem dX6_joys_36 : decode cX6_joys 36 = .ok (.iload_n 2, 1) := by decide +kernel
theorem dX6_joys_37 : decode cX6_joys 37 = .ok (.invokestatic 88, 3) := by decide +kernel
theorem dX6_joys_40 : decode cX6_joys 40 = .ok (.goto 28, 3) := by decide +kernel
theorem dX6_joys_43 : decode cX6_joys 43 = .ok (.iload_n 3, 1) := by decide +kernel
theorem dX6_joys_44 : decode cX6_joys 44 = .ok (.iconst 1, 1) := by decide +kernel
theorem dX6_joys_45 : decode cX6_joys 45 = .ok (.if_icmp .ne 15, 3) := by decide +kernel
theorem dX6_joys_48 : decode cX6_joys 48 = .ok (.aload_n 0, 1) := by decide +kernel
theorem dX6_joys_49 : decode cX6_joys 49 = .ok (.getfield 9, 3) := by decide +kernel
theorem dX6_joys_52 : decode cX6_joys 52 = .ok (.iload_n 1, 1) := by decide +kernel
theorem dX6_joys_53 : decode cX6_joys 53 = .ok (.iload_n 2, 1) := by decide +kernel
theorem dX6_joys_54 : decode cX6_joys 54 = .ok (.invokestatic 81, 3) := by decide +kernel
theorem dX6_joys_57 : decode cX6_joys 57 = .ok (.goto 11, 3) := by decide +kernel
theorem dX6_joys_60 : decode cX6_joys 60 = .ok (.aload_n 0, 1) := by decide +kernel
theorem dX6_joys_61 : decode cX6_joys 61 = .ok (.getfield 9, 3) := by decide +kernel
theorem dX6_joys_64 : decode cX6_joys 64 = .ok (.iload_n 2, 1) := by decide +kernel
theorem dX6_joys_65 : decode cX6_joys 65 = .ok (.invokestatic 85, 3) := by decide +kernel
theorem dX6_joys_68 : decode cX6_joys 68 = .ok (.ireturn, 1) := by decide +kernel
theorem dX6_who_0 : decode cX6_who 0 = .ok (.iload_n 1, 1) := by decide +kernel
theorem dX6_who_1 : decode cX6_who 1 = .ok (.iconst 0, 1) := by decide +kernel
theorem dX6_who_2 : decode cX6_who 2 = .ok (.iconst 1, 1) := by decide +kernel
theorem dX6_who_3 : decode cX6_who 3 = .ok (.invokestatic 49, 3) := by decide +kernel
theorem dX6_who_6 : decode cX6_who 6 = .ok (.ifCond .ne 5, 3) := by decide +kernel
theorem dX6_who_9 : decode cX6_who 9 = .ok (.iconst (-1), 1) := by decide +kernel
theorem dX6_who_10 : decode cX6_who 10 = .ok (.ireturn, 1) := by decide +kernel
theorem dX6_who_11 : decode cX6_who 11 = .ok (.iconst 0, 1) := by decide +kernel
theorem dX6_who_12 : decode cX6_who 12 = .ok (.istore_n 2, 1) := by decide +kernel
theorem dX6_who_13 : decode cX6_who 13 = .ok (.iconst 0, 1) := by decide +kernel
theorem dX6_who_14 : decode cX6_who 14 = .ok (.istore_n 3, 1) := by decide +kernel
theorem dX6_who_15 : decode cX6_who 15 = .ok (.iload_n 3, 1) := by decide +kernel
theorem dX6_who_16 : decode cX6_who 16 = .ok (.aload_n 0, 1) := by decide +kernel
theorem dX6_who_17 : decode cX6_who 17 = .ok (.getfield 9, 3) := by decide +kernel
theorem dX6_who_20 : decode cX6_who 20 = .ok (.iconst 0, 1) := by decide +kernel
theorem dX6_who_21 : decode cX6_who 21 = .ok (.iaload, 1) := by decide +kernel
theorem dX6_who_22 : decode cX6_who 22 = .ok (.if_icmp .ge 61, 3) := by decide +kernel
theorem dX6_who_25 : decode cX6_who 25 = .ok (.iconst 0, 1) := by decide +kernel
theorem dX6_who_26 : decode cX6_who 26 = .ok (.istore 4, 2) := by decide +kernel
theorem dX6_who_28 : decode cX6_who 28 = .ok (.iload 4, 2) := by decide +kernel
theorem dX6_who_30 : decode cX6_who 30 = .ok (.aload_n 0, 1) := by decide +kernel
theorem dX6_who_31 : decode cX6_who 31 = .ok (.getfield 9, 3) := by decide +kernel
theorem dX6_who_34 : decode cX6_who 34 = .ok (.iconst 0, 1) := by decide +kernel
theorem dX6_who_35 : decode cX6_who 35 = .ok (.iaload, 1) := by decide +kernel
theorem dX6_who_36 : decode cX6_who 36 = .ok (.if_icmp .ge 41, 3) := by decide +kernel
theorem dX6_who_39 : decode cX6_who 39 = .ok (.iload_n 2, 1) := by decide +kernel
theorem dX6_who_40 : decode cX6_who 40 = .ok (.aload_n 0, 1) := by decide +kernel
theorem dX6_who_41 : decode cX6_who 41 = .ok (.getfield 9, 3) := by decide +kernel
theorem dX6_who_44 : decode cX6_who 44 = .ok (.iload_n 3, 1) := by decide +kernel
theorem dX6_who_45 : decode cX6_who 45 = .ok (.iload 4, 2) := by decide +kernel
theorem dX6_who_47 : decode cX6_who 47 = .ok (.invokestatic 91, 3) := by decide +kernel
theorem dX6_who_50 : decode cX6_who 50 = .ok (.ifCond .eq 18, 3) := by decide +kernel
theorem dX6_who_53 : decode cX6_who 53 = .ok (.iconst 1, 1) := by decide +kernel
theorem dX6_who_54 : decode cX6_who 54 = .ok (.iload_n 1, 1) := by decide +kernel
theorem dX6_who_55 : decode cX6_who 55 = .ok (.ifCond .ne 7, 3) := by decide +kernel
theorem dX6_who_58 : decode cX6_who 58 = .ok (.iload_n 3, 1) := by decide +kernel
theorem dX6_who_59 : decode cX6_who 59 = .ok (.goto 5, 3) := by decide +kernel
theorem dX6_who_62 : decode cX6_who 62 = .ok (.iload 4, 2) := by decide +kernel
theorem dX6_who_64 : decode cX6_who 64 = .ok (.ishl, 1) := by decide +kernel
theorem dX6_who_65 : decode cX6_who 65 = .ok (.goto 4, 3) := by decide +kernel
theorem dX6_who_68 : decode cX6_who 68 = .ok (.iconst 0, 1) := by decide +kernel
theorem dX6_who_69 : decode cX6_who 69 = .ok (.ior, 1) := by decide +kernel
theorem dX6_who_70 : decode cX6_who 70 = .ok (.istore_n 2, 1) := by decide +kernel
theorem dX6_who_71 : decode cX6_who 71 = .ok (.iinc 4 1, 3) := by decide +kernel
theorem dX6_who_74 : decode cX6_who 74 = .ok (.goto (-46), 3) := by decide +kernel
theorem dX6_who_77 : decode cX6_who 77 = .ok (.iinc 3 1, 3) := by decide +kernel
theorem dX6_who_80 : decode cX6_who 80 = .ok (.goto (-65), 3) := by decide +kernel
theorem dX6_who_83 : decode cX6_who 83 = .ok (.iload_n 2, 1) := by decide +kernel
theorem dX6_who_84 : decode cX6_who 84 = .ok (.ireturn, 1) := by decide +kernel
theorem dX6_bestPair_0 : decode cX6_bestPair 0 = .ok (.iload_n 1, 1) := by decide +kernel
theorem dX6_bestPair_1 : decode cX6_bestPair 1 = .ok (.iconst 0, 1) := by decide +kernel
theorem dX6_bestPair_2 : decode cX6_bestPair 2 = .ok (.iconst 1, 1) := by decide +kernel
theorem dX6_bestPair_3 : decode cX6_bestPair 3 = .ok (.invokestatic 49, 3) := by decide +kernel
theorem dX6_bestPair_6 : decode cX6_bestPair 6 = .ok (.ifCond .ne 5, 3) := by decide +kernel
theorem dX6_bestPair_9 : decode cX6_bestPair 9 = .ok (.iconst (-1), 1) := by decide +kernel
theorem dX6_bestPair_10 : decode cX6_bestPair 10 = .ok (.ireturn, 1) := by decide +kernel
theorem dX6_bestPair_11 : decode cX6_bestPair 11 = .ok (.aload_n 0, 1) := by decide +kernel
theorem dX6_bestPair_12 : decode cX6_bestPair 12 = .ok (.getfield 9, 3) := by decide +kernel
theorem dX6_bestPair_15 : decode cX6_bestPair 15 = .ok (.invokestatic 95, 3) := by decide +kernel
theorem dX6_bestPair_18 : decode cX6_bestPair 18 = .ok (.istore_n 2, 1) := by decide +kernel
theorem dX6_bestPair_19 : decode cX6_bestPair 19 = .ok (.iload_n 2, 1) := by decide +kernel
theorem dX6_bestPair_20 : decode cX6_bestPair 20 = .ok (.ifCond .lt 7, 3) := by decide +kernel
theorem dX6_bestPair_23 : decode cX6_bestPair 23 = .ok (.iload_n 1, 1) := by decide +kernel
theorem dX6_bestPair_24 : decode cX6_bestPair 24 = .ok (.ifCond .ne 7, 3) := by decide +kernel
theorem dX6_bestPair_27 : decode cX6_bestPair 27 = .ok (.iload_n 2, 1) := by decide +kernel
theorem dX6_bestPair_28 : decode cX6_bestPair 28 = .ok (.goto 10, 3) := by decide +kernel
theorem dX6_bestPair_31 : decode cX6_bestPair 31 = .ok (.aload_n 0, 1) := by decide +kernel
theorem dX6_bestPair_32 : decode cX6_bestPair 32 = .ok (.getfield 9, 3) := by decide +kernel
theorem dX6_bestPair_35 : decode cX6_bestPair 35 = .ok (.invokestatic 148, 3) := by decide +kernel
theorem dX6_bestPair_38 : decode cX6_bestPair 38 = .ok (.ireturn, 1) := by decide +kernel
theorem dX6_bestLooker_0 : decode cX6_bestLooker 0 = .ok (.aload_n 0, 1) := by decide +kernel
theorem dX6_bestLooker_1 : decode cX6_bestLooker 1 = .ok (.iload_n 1, 1) := by decide +kernel
theorem dX6_bestLooker_2 : decode cX6_bestLooker 2 = .ok (.invokevirtual 121, 3) := by decide +kernel
theorem dX6_bestLooker_5 : decode cX6_bestLooker 5 = .ok (.ifCond .ne 5, 3) := by decide +kernel
theorem dX6_bestLooker_8 : decode cX6_bestLooker 8 = .ok (.iconst (-1), 1) := by decide +kernel
theorem dX6_bestLooker_9 : decode cX6_bestLooker 9 = .ok (.ireturn, 1) := by decide +kernel
theorem dX6_bestLooker_10 : decode cX6_bestLooker 10 = .ok (.bipush (-4), 2) := by decide +kernel
theorem dX6_bestLooker_12 : decode cX6_bestLooker 12 = .ok (.istore_n 2, 1) := by decide +kernel
theorem dX6_bestLooker_13 : decode cX6_bestLooker 13 = .ok (.iconst 0, 1) := by decide +kernel
theorem dX6_bestLooker_14 : decode cX6_bestLooker 14 = .ok (.istore_n 3, 1) := by decide +kernel
theorem dX6_bestLooker_15 : decode cX6_bestLooker 15 = .ok (.iload_n 3, 1) := by decide +kernel
theorem dX6_bestLooker_16 : decode cX6_bestLooker 16 = .ok (.aload_n 0, 1) := by decide +kernel
theorem dX6_bestLooker_17 : decode cX6_bestLooker 17 = .ok (.getfield 9, 3) := by decide +kernel
theorem dX6_bestLooker_20 : decode cX6_bestLooker 20 = .ok (.iconst 0, 1) := by decide +kernel
theorem dX6_bestLooker_21 : decode cX6_bestLooker 21 = .ok (.iaload, 1) := by decide +kernel
theorem dX6_bestLooker_22 : decode cX6_bestLooker 22 = .ok (.if_icmp .ge 48, 3) := by decide +kernel
theorem dX6_bestLooker_25 : decode cX6_bestLooker 25 = .ok (.aload_n 0, 1) := by decide +kernel
theorem dX6_bestLooker_26 : decode cX6_bestLooker 26 = .ok (.getfield 9, 3) := by decide +kernel
theorem dX6_bestLooker_29 : decode cX6_bestLooker 29 = .ok (.iload_n 1, 1) := by decide +kernel
theorem dX6_bestLooker_30 : decode cX6_bestLooker 30 = .ok (.iload_n 3, 1) := by decide +kernel
theorem dX6_bestLooker_31 : decode cX6_bestLooker 31 = .ok (.invokestatic 91, 3) := by decide +kernel
theorem dX6_bestLooker_34 : decode cX6_bestLooker 34 = .ok (.ifCond .eq 30, 3) := by decide +kernel
theorem dX6_bestLooker_37 : decode cX6_bestLooker 37 = .ok (.iload_n 2, 1) := by decide +kernel
theorem dX6_bestLooker_38 : decode cX6_bestLooker 38 = .ok (.ifCond .lt 24, 3) := by decide +kernel
theorem dX6_bestLooker_41 : decode cX6_bestLooker 41 = .ok (.aload_n 0, 1) := by decide +kernel
theorem dX6_bestLooker_42 : decode cX6_bestLooker 42 = .ok (.getfield 9, 3) := by decide +kernel
theorem dX6_bestLooker_45 : decode cX6_bestLooker 45 = .ok (.iload_n 1, 1) := by decide +kernel
theorem dX6_bestLooker_46 : decode cX6_bestLooker 46 = .ok (.iload_n 3, 1) := by decide +kernel
theorem dX6_bestLooker_47 : decode cX6_bestLooker 47 = .ok (.invokestatic 88, 3) := by decide +kernel
theorem dX6_bestLooker_50 : decode cX6_bestLooker 50 = .ok (.aload_n 0, 1) := by decide +kernel
theorem dX6_bestLooker_51 : decode cX6_bestLooker 51 = .ok (.getfield 9, 3) := by decide +kernel
theorem dX6_bestLooker_54 : decode cX6_bestLooker 54 = .ok (.iload_n 1, 1) := by decide +kernel
theorem dX6_bestLooker_55 : decode cX6_bestLooker 55 = .ok (.iload_n 2, 1) := by decide +kernel
theorem dX6_bestLooker_56 : decode cX6_bestLooker 56 = .ok (.invokestatic 88, 3) := by decide +kernel
theorem dX6_bestLooker_59 : decode cX6_bestLooker 59 = .ok (.if_icmp .le 5, 3) := by decide +kernel
theorem dX6_bestLooker_62 : decode cX6_bestLooker 62 = .ok (.iload_n 3, 1) := by decide +kernel
theorem dX6_bestLooker_63 : decode cX6_bestLooker 63 = .ok (.istore_n 2, 1) := by decide +kernel
theorem dX6_bestLooker_64 : decode cX6_bestLooker 64 = .ok (.iinc 3 1, 3) := by decide +kernel
theorem dX6_bestLooker_67 : decode cX6_bestLooker 67 = .ok (.goto (-52), 3) := by decide +kernel
theorem dX6_bestLooker_70 : decode cX6_bestLooker 70 = .ok (.iload_n 2, 1) := by decide +kernel
theorem dX6_bestLooker_71 : decode cX6_bestLooker 71 = .ok (.ireturn, 1) := by decide +kernel
theorem dX6_twoTurns_0 : decode cX6_twoTurns 0 = .ok (.iload_n 1, 1) := by decide +kernel
theorem dX6_twoTurns_1 : decode cX6_twoTurns 1 = .ok (.iconst 0, 1) := by decide +kernel
theorem dX6_twoTurns_2 : decode cX6_twoTurns 2 = .ok (.iconst 1, 1) := by decide +kernel
theorem dX6_twoTurns_3 : decode cX6_twoTurns 3 = .ok (.invokestatic 49, 3) := by decide +kernel
theorem dX6_twoTurns_6 : decode cX6_twoTurns 6 = .ok (.ifCond .ne 5, 3) := by decide +kernel
theorem dX6_twoTurns_9 : decode cX6_twoTurns 9 = .ok (.iconst (-1), 1) := by decide +kernel
theorem dX6_twoTurns_10 : decode cX6_twoTurns 10 = .ok (.ireturn, 1) := by decide +kernel
theorem dX6_twoTurns_11 : decode cX6_twoTurns 11 = .ok (.bipush (-4), 2) := by decide +kernel
theorem dX6_twoTurns_13 : decode cX6_twoTurns 13 = .ok (.istore_n 2, 1) := by decide +kernel
theorem dX6_twoTurns_14 : decode cX6_twoTurns 14 = .ok (.iconst (-1), 1) := by decide +kernel
theorem dX6_twoTurns_15 : decode cX6_twoTurns 15 = .ok (.istore_n 3, 1) := by decide +kernel
theorem dX6_twoTurns_16 : decode cX6_twoTurns 16 = .ok (.iconst 0, 1) := by decide +kernel
theorem dX6_twoTurns_17 : decode cX6_twoTurns 17 = .ok (.istore 4, 2) := by decide +kernel
theorem dX6_twoTurns_19 : decode cX6_twoTurns 19 = .ok (.iload 4, 2) := by decide +kernel
theorem dX6_twoTurns_21 : decode cX6_twoTurns 21 = .ok (.aload_n 0, 1) := by decide +kernel
theorem dX6_twoTurns_22 : decode cX6_twoTurns 22 = .ok (.getfield 9, 3) := by decide +kernel
theorem dX6_twoTurns_25 : decode cX6_twoTurns 25 = .ok (.iconst 0, 1) := by decide +kernel
theorem dX6_twoTurns_26 : decode cX6_twoTurns 26 = .ok (.iaload, 1) := by decide +kernel
theorem dX6_twoTurns_27 : decode cX6_twoTurns 27 = .ok (.if_icmp .ge 103, 3) := by decide +kernel
theorem dX6_twoTurns_30 : decode cX6_twoTurns 30 = .ok (.iconst 0, 1) := by decide +kernel
theorem dX6_twoTurns_31 : decode cX6_twoTurns 31 = .ok (.istore 5, 2) := by decide +kernel
theorem dX6_twoTurns_33 : decode cX6_twoTurns 33 = .ok (.iload 5, 2) := by decide +kernel
theorem dX6_twoTurns_35 : decode cX6_twoTurns 35 = .ok (.aload_n 0, 1) := by decide +kernel
theorem dX6_twoTurns_36 : decode cX6_twoTurns 36 = .ok (.getfield 9, 3) := by decide +kernel
theorem dX6_twoTurns_39 : decode cX6_twoTurns 39 = .ok (.iconst 0, 1) := by decide +kernel
theorem dX6_twoTurns_40 : decode cX6_twoTurns 40 = .ok (.iaload, 1) := by decide +kernel
theorem dX6_twoTurns_41 : decode cX6_twoTurns 41 = .ok (.if_icmp .ge 83, 3) := by decide +kernel
theorem dX6_twoTurns_44 : decode cX6_twoTurns 44 = .ok (.aload_n 0, 1) := by decide +kernel
theorem dX6_twoTurns_45 : decode cX6_twoTurns 45 = .ok (.getfield 9, 3) := by decide +kernel
theorem dX6_twoTurns_48 : decode cX6_twoTurns 48 = .ok (.iload 4, 2) := by decide +kernel
theorem dX6_twoTurns_50 : decode cX6_twoTurns 50 = .ok (.iload 5, 2) := by decide +kernel
theorem dX6_twoTurns_52 : decode cX6_twoTurns 52 = .ok (.invokestatic 91, 3) := by decide +kernel
theorem dX6_twoTurns_55 : decode cX6_twoTurns 55 = .ok (.ifCond .ne 6, 3) := by decide +kernel
theorem dX6_twoTurns_58 : decode cX6_twoTurns 58 = .ok (.goto 60, 3) := by decide +kernel
theorem dX6_twoTurns_61 : decode cX6_twoTurns 61 = .ok (.aload_n 0, 1) := by decide +kernel
theorem dX6_twoTurns_62 : decode cX6_twoTurns 62 = .ok (.getfield 9, 3) := by decide +kernel
theorem dX6_twoTurns_65 : decode cX6_twoTurns 65 = .ok (.aload_n 0, 1) := by decide +kernel
theorem dX6_twoTurns_66 : decode cX6_twoTurns 66 = .ok (.getfield 13, 3) := by decide +kernel
theorem dX6_twoTurns_69 : decode cX6_twoTurns 69 = .ok (.invokestatic 135, 3) := by decide +kernel
theorem dX6_twoTurns_72 : decode cX6_twoTurns 72 = .ok (.aload_n 0, 1) := by decide +kernel
theorem dX6_twoTurns_73 : decode cX6_twoTurns 73 = .ok (.getfield 13, 3) := by decide +kernel
theorem dX6_twoTurns_76 : decode cX6_twoTurns 76 = .ok (.iload 4, 2) := by decide +kernel
theorem dX6_twoTurns_78 : decode cX6_twoTurns 78 = .ok (.iload 5, 2) := by decide +kernel
theorem dX6_twoTurns_80 : decode cX6_twoTurns 80 = .ok (.invokestatic 125, 3) := by decide +kernel
theorem dX6_twoTurns_83 : decode cX6_twoTurns 83 = .ok (.istore 6, 2) := by decide +kernel
theorem dX6_twoTurns_85 : decode cX6_twoTurns 85 = .ok (.iload 6, 2) := by decide +kernel
theorem dX6_twoTurns_87 : decode cX6_twoTurns 87 = .ok (.aload_n 0, 1) := by decide +kernel
theorem dX6_twoTurns_88 : decode cX6_twoTurns 88 = .ok (.getfield 13, 3) := by decide +kernel
theorem dX6_twoTurns_91 : decode cX6_twoTurns 91 = .ok (.invokestatic 148, 3) := by decide +kernel
theorem dX6_twoTurns_94 : decode cX6_twoTurns 94 = .ok (.iadd, 1) := by decide +kernel
theorem dX6_twoTurns_95 : decode cX6_twoTurns 95 = .ok (.istore 6, 2) := by decide +kernel
theorem dX6_twoTurns_97 : decode cX6_twoTurns 97 = .ok (.iload 6, 2) := by decide +kernel
theorem dX6_twoTurns_99 : decode cX6_twoTurns 99 = .ok (.iload_n 3, 1) := by decide +kernel
theorem dX6_twoTurns_100 : decode cX6_twoTurns 100 = .ok (.if_icmp .gt 6, 3) := by decide +kernel
theorem dX6_twoTurns_103 : decode cX6_twoTurns 103 = .ok (.goto 15, 3) := by decide +kernel
theorem dX6_twoTurns_106 : decode cX6_twoTurns 106 = .ok (.bipush 10, 2) := by decide +kernel
theorem dX6_twoTurns_108 : decode cX6_twoTurns 108 = .ok (.iload 4, 2) := by decide +kernel
theorem dX6_twoTurns_110 : decode cX6_twoTurns 110 = .ok (.imul, 1) := by decide +kernel
theorem dX6_twoTurns_111 : decode cX6_twoTurns 111 = .ok (.iload 5, 2) := by decide +kernel
theorem dX6_twoTurns_113 : decode cX6_twoTurns 113 = .ok (.iadd, 1) := by decide +kernel
theorem dX6_twoTurns_114 : decode cX6_twoTurns 114 = .ok (.istore_n 2, 1) := by decide +kernel
theorem dX6_twoTurns_115 : decode cX6_twoTurns 115 = .ok (.iload 6, 2) := by decide +kernel
theorem dX6_twoTurns_117 : decode cX6_twoTurns 117 = .ok (.istore_n 3, 1) := by decide +kernel
theorem dX6_twoTurns_118 : decode cX6_twoTurns 118 = .ok (.iinc 5 1, 3) := by decide +kernel
theorem dX6_twoTurns_121 : decode cX6_twoTurns 121 = .ok (.goto (-88), 3) := by decide +kernel
theorem dX6_twoTurns_124 : decode cX6_twoTurns 124 = .ok (.iinc 4 1, 3) := by decide +kernel
theorem dX6_twoTurns_127 : decode cX6_twoTurns 127 = .ok (.goto (-108), 3) := by decide +kernel
theorem dX6_twoTurns_130 : decode cX6_twoTurns 130 = .ok (.iload_n 1, 1) := by decide +kernel
theorem dX6_twoTurns_131 : decode cX6_twoTurns 131 = .ok (.iconst 1, 1) := by decide +kernel
theorem dX6_twoTurns_132 : decode cX6_twoTurns 132 = .ok (.if_icmp .ne 7, 3) := by decide +kernel
theorem dX6_twoTurns_135 : decode cX6_twoTurns 135 = .ok (.iload_n 2, 1) := by decide +kernel
theorem dX6_twoTurns_136 : decode cX6_twoTurns 136 = .ok (.goto 8, 3) := by decide +kernel
theorem dX6_twoTurns_139 : decode cX6_twoTurns 139 = .ok (.iconst 0, 1) := by decide +kernel
theorem dX6_twoTurns_140 : decode cX6_twoTurns 140 = .ok (.iload_n 3, 1) := by decide +kernel
theorem dX6_twoTurns_141 : decode cX6_twoTurns 141 = .ok (.invokestatic 78, 3) := by decide +kernel
theorem dX6_twoTurns_144 : decode cX6_twoTurns 144 = .ok (.ireturn, 1) := by decide +kernel
theorem dX6_pairsFrom_0 : decode cX6_pairsFrom 0 = .ok (.iload_n 1, 1) := by decide +kernel
theorem dX6_pairsFrom_1 : decode cX6_pairsFrom 1 = .ok (.aload_n 0, 1) := by decide +kernel
theorem dX6_pairsFrom_2 : decode cX6_pairsFrom 2 = .ok (.getfield 9, 3) := by decide +kernel
theorem dX6_pairsFrom_5 : decode cX6_pairsFrom 5 = .ok (.iconst 0, 1) := by decide +kernel
theorem dX6_pairsFrom_6 : decode cX6_pairsFrom 6 = .ok (.iaload, 1) := by decide +kernel
theorem dX6_pairsFrom_7 : decode cX6_pairsFrom 7 = .ok (.if_icmp .ne 56, 3) := by decide +kernel
theorem dX6_pairsFrom_10 : decode cX6_pairsFrom 10 = .ok (.iload 4, 2) := by decide +kernel
theorem dX6_pairsFrom_12 : decode cX6_pairsFrom 12 = .ok (.aload_n 0, 1) := by decide +kernel
theorem dX6_pairsFrom_13 : decode cX6_pairsFrom 13 = .ok (.getfield 151, 3) := by decide +kernel
theorem dX6_pairsFrom_16 : decode cX6_pairsFrom 16 = .ok (.if_icmp .le 33, 3) := by decide +kernel
theorem dX6_pairsFrom_19 : decode cX6_pairsFrom 19 = .ok (.iconst 0, 1) := by decide +kernel
theorem dX6_pairsFrom_20 : decode cX6_pairsFrom 20 = .ok (.istore 5, 2) := by decide +kernel
theorem dX6_pairsFrom_22 : decode cX6_pairsFrom 22 = .ok (.iload 5, 2) := by decide +kernel
theorem dX6_pairsFrom_24 : decode cX6_pairsFrom 24 = .ok (.bipush 8, 2) := by decide +kernel
theorem dX6_pairsFrom_26 : decode cX6_pairsFrom 26 = .ok (.if_icmp .ge 23, 3) := by decide +kernel
theorem dX6_pairsFrom_29 : decode cX6_pairsFrom 29 = .ok (.aload_n 0, 1) := by decide +kernel
theorem dX6_pairsFrom_30 : decode cX6_pairsFrom 30 = .ok (.getfield 28, 3) := by decide +kernel
theorem dX6_pairsFrom_33 : decode cX6_pairsFrom 33 = .ok (.iload 5, 2) := by decide +kernel
theorem dX6_pairsFrom_35 : decode cX6_pairsFrom 35 = .ok (.aload_n 0, 1) := by decide +kernel
theorem dX6_pairsFrom_36 : decode cX6_pairsFrom 36 = .ok (.getfield 25, 3) := by decide +kernel
theorem dX6_pairsFrom_39 : decode cX6_pairsFrom 39 = .ok (.iload 5, 2) := by decide +kernel
theorem dX6_pairsFrom_41 : decode cX6_pairsFrom 41 = .ok (.iaload, 1) := by decide +kernel
theorem dX6_pairsFrom_42 : decode cX6_pairsFrom 42 = .ok (.iastore, 1) := by decide +kernel
theorem dX6_pairsFrom_43 : decode cX6_pairsFrom 43 = .ok (.iinc 5 1, 3) := by decide +kernel
theorem dX6_pairsFrom_46 : decode cX6_pairsFrom 46 = .ok (.goto (-24), 3) := by decide +kernel
theorem dX6_pairsFrom_49 : decode cX6_pairsFrom 49 = .ok (.aload_n 0, 1) := by decide +kernel
theorem dX6_pairsFrom_50 : decode cX6_pairsFrom 50 = .ok (.aload_n 0, 1) := by decide +kernel
theorem dX6_pairsFrom_51 : decode cX6_pairsFrom 51 = .ok (.getfield 151, 3) := by decide +kernel
theorem dX6_pairsFrom_54 : decode cX6_pairsFrom 54 = .ok (.iload 4, 2) := by decide +kernel
theorem dX6_pairsFrom_56 : decode cX6_pairsFrom 56 = .ok (.invokestatic 78, 3) := by decide +kernel
theorem dX6_pairsFrom_59 : decode cX6_pairsFrom 59 = .ok (.putfield 151, 3) := by decide +kernel
theorem dX6_pairsFrom_62 : decode cX6_pairsFrom 62 = .ok (.return_, 1) := by decide +kernel
theorem dX6_pairsFrom_63 : decode cX6_pairsFrom 63 = .ok (.iload_n 2, 1) := by decide +kernel
theorem dX6_pairsFrom_64 : decode cX6_pairsFrom 64 = .ok (.iload_n 1, 1) := by decide +kernel
theorem dX6_pairsFrom_65 : decode cX6_pairsFrom 65 = .ok (.ishr, 1) := by decide +kernel
theorem dX6_pairsFrom_66 : decode cX6_pairsFrom 66 = .ok (.iconst 1, 1) := by decide +kernel
theorem dX6_pairsFrom_67 : decode cX6_pairsFrom 67 = .ok (.iand, 1) := by decide +kernel
theorem dX6_pairsFrom_68 : decode cX6_pairsFrom 68 = .ok (.iconst 1, 1) := by decide +kernel
theorem dX6_pairsFrom_69 : decode cX6_pairsFrom 69 = .ok (.if_icmp .ne 15, 3) := by decide +kernel
theorem dX6_pairsFrom_72 : decode cX6_pairsFrom 72 = .ok (.aload_n 0, 1) := by decide +kernel
theorem dX6_pairsFrom_73 : decode cX6_pairsFrom 73 = .ok (.iload_n 1, 1) := by decide +kernel
theorem dX6_pairsFrom_74 : decode cX6_pairsFrom 74 = .ok (.iconst 1, 1) := by decide +kernel
theorem dX6_pairsFrom_75 : decode cX6_pairsFrom 75 = .ok (.iadd, 1) := by decide +kernel
theorem dX6_pairsFrom_76 : decode cX6_pairsFrom 76 = .ok (.iload_n 2, 1) := by decide +kernel
theorem dX6_pairsFrom_77 : decode cX6_pairsFrom 77 = .ok (.iload_n 3, 1) := by decide +kernel
theorem dX6_pairsFrom_78 : decode cX6_pairsFrom 78 = .ok (.iload 4, 2) := by decide +kernel
theorem dX6_pairsFrom_80 : decode cX6_pairsFrom 80 = .ok (.invokevirtual 154, 3) := by decide +kernel
theorem dX6_pairsFrom_83 : decode cX6_pairsFrom 83 = .ok (.return_, 1) := by decide +kernel
theorem dX6_pairsFrom_84 : decode cX6_pairsFrom 84 = .ok (.iconst 0, 1) := by decide +kernel
theorem dX6_pairsFrom_85 : decode cX6_pairsFrom 85 = .ok (.istore 5, 2) := by decide +kernel
theorem dX6_pairsFrom_87 : decode cX6_pairsFrom 87 = .ok (.iload 5, 2) := by decide +kernel
theorem dX6_pairsFrom_89 : decode cX6_pairsFrom 89 = .ok (.iconst 2, 1) := by decide +kernel
theorem dX6_pairsFrom_90 : decode cX6_pairsFrom 90 = .ok (.if_icmp .ge 140, 3) := by decide +kernel
theorem dX6_pairsFrom_93 : decode cX6_pairsFrom 93 = .ok (.iload_n 3, 1) := by decide +kernel
theorem dX6_pairsFrom_94 : decode cX6_pairsFrom 94 = .ok (.ifCond .le 136, 3) := by decide +kernel
theorem dX6_pairsFrom_97 : decode cX6_pairsFrom 97 = .ok (.iload_n 1, 1) := by decide +kernel
theorem dX6_pairsFrom_98 : decode cX6_pairsFrom 98 = .ok (.iconst 1, 1) := by decide +kernel
theorem dX6_pairsFrom_99 : decode cX6_pairsFrom 99 = .ok (.iadd, 1) := by decide +kernel
theorem dX6_pairsFrom_100 : decode cX6_pairsFrom 100 = .ok (.istore 6, 2) := by decide +kernel
theorem dX6_pairsFrom_102 : decode cX6_pairsFrom 102 = .ok (.iload 6, 2) := by decide +kernel
theorem dX6_pairsFrom_104 : decode cX6_pairsFrom 104 = .ok (.aload_n 0, 1) := by decide +kernel
theorem dX6_pairsFrom_105 : decode cX6_pairsFrom 105 = .ok (.getfield 9, 3) := by decide +kernel
theorem dX6_pairsFrom_108 : decode cX6_pairsFrom 108 = .ok (.iconst 0, 1) := by decide +kernel
theorem dX6_pairsFrom_109 : decode cX6_pairsFrom 109 = .ok (.iaload, 1) := by decide +kernel
theorem dX6_pairsFrom_110 : decode cX6_pairsFrom 110 = .ok (.if_icmp .ge 114, 3) := by decide +kernel
theorem dX6_pairsFrom_113 : decode cX6_pairsFrom 113 = .ok (.iload 5, 2) := by decide +kernel
theorem dX6_pairsFrom_115 : decode cX6_pairsFrom 115 = .ok (.ifCond .ne 7, 3) := by decide +kernel
theorem dX6_pairsFrom_118 : decode cX6_pairsFrom 118 = .ok (.iload_n 1, 1) := by decide +kernel
theorem dX6_pairsFrom_119 : decode cX6_pairsFrom 119 = .ok (.goto 5, 3) := by decide +kernel
theorem dX6_pairsFrom_122 : decode cX6_pairsFrom 122 = .ok (.iload 6, 2) := by decide +kernel
theorem dX6_pairsFrom_124 : decode cX6_pairsFrom 124 = .ok (.istore 7, 2) := by decide +kernel
theorem dX6_pairsFrom_126 : decode cX6_pairsFrom 126 = .ok (.iload 5, 2) := by decide +kernel
theorem dX6_pairsFrom_128 : decode cX6_pairsFrom 128 = .ok (.ifCond .ne 8, 3) := by decide +kernel
theorem dX6_pairsFrom_131 : decode cX6_pairsFrom 131 = .ok (.iload 6, 2) := by decide +kernel
theorem dX6_pairsFrom_133 : decode cX6_pairsFrom 133 = .ok (.goto 4, 3) := by decide +kernel
theorem dX6_pairsFrom_136 : decode cX6_pairsFrom 136 = .ok (.iload_n 1, 1) := by decide +kernel
theorem dX6_pairsFrom_137 : decode cX6_pairsFrom 137 = .ok (.istore 8, 2) := by decide +kernel
theorem dX6_pairsFrom_139 : decode cX6_pairsFrom 139 = .ok (.iload_n 2, 1) := by decide +kernel
theorem dX6_pairsFrom_140 : decode cX6_pairsFrom 140 = .ok (.iload 6, 2) := by decide +kernel
theorem dX6_pairsFrom_142 : decode cX6_pairsFrom 142 = .ok (.ishr, 1) := by decide +kernel
theorem dX6_pairsFrom_143 : decode cX6_pairsFrom 143 = .ok (.iconst 1, 1) := by decide +kernel
theorem dX6_pairsFrom_144 : decode cX6_pairsFrom 144 = .ok (.iand, 1) := by decide +kernel
theorem dX6_pairsFrom_145 : decode cX6_pairsFrom 145 = .ok (.iconst 1, 1) := by decide +kernel
theorem dX6_pairsFrom_146 : decode cX6_pairsFrom 146 = .ok (.if_icmp .eq 72, 3) := by decide +kernel
theorem dX6_pairsFrom_149 : decode cX6_pairsFrom 149 = .ok (.aload_n 0, 1) := by decide +kernel
theorem dX6_pairsFrom_150 : decode cX6_pairsFrom 150 = .ok (.getfield 9, 3) := by decide +kernel
theorem dX6_pairsFrom_153 : decode cX6_pairsFrom 153 = .ok (.iload 7, 2) := by decide +kernel
theorem dX6_pairsFrom_155 : decode cX6_pairsFrom 155 = .ok (.iload 8, 2) := by decide +kernel
theorem dX6_pairsFrom_157 : decode cX6_pairsFrom 157 = .ok (.invokestatic 91, 3) := by decide +kernel
theorem dX6_pairsFrom_160 : decode cX6_pairsFrom 160 = .ok (.ifCond .ne 6, 3) := by decide +kernel
theorem dX6_pairsFrom_163 : decode cX6_pairsFrom 163 = .ok (.goto 55, 3) := by decide +kernel
theorem dX6_pairsFrom_166 : decode cX6_pairsFrom 166 = .ok (.aload_n 0, 1) := by decide +kernel
theorem dX6_pairsFrom_167 : decode cX6_pairsFrom 167 = .ok (.getfield 25, 3) := by decide +kernel
theorem dX6_pairsFrom_170 : decode cX6_pairsFrom 170 = .ok (.iload 7, 2) := by decide +kernel
theorem dX6_pairsFrom_172 : decode cX6_pairsFrom 172 = .ok (.iload 8, 2) := by decide +kernel
theorem dX6_pairsFrom_174 : decode cX6_pairsFrom 174 = .ok (.iastore, 1) := by decide +kernel
theorem dX6_pairsFrom_175 : decode cX6_pairsFrom 175 = .ok (.aload_n 0, 1) := by decide +kernel
theorem dX6_pairsFrom_176 : decode cX6_pairsFrom 176 = .ok (.iload_n 1, 1) := by decide +kernel
theorem dX6_pairsFrom_177 : decode cX6_pairsFrom 177 = .ok (.iconst 1, 1) := by decide +kernel
theorem dX6_pairsFrom_178 : decode cX6_pairsFrom 178 = .ok (.iadd, 1) := by decide +kernel
theorem dX6_pairsFrom_179 : decode cX6_pairsFrom 179 = .ok (.iload_n 2, 1) := by decide +kernel
theorem dX6_pairsFrom_180 : decode cX6_pairsFrom 180 = .ok (.iconst 1, 1) := by decide +kernel
theorem dX6_pairsFrom_181 : decode cX6_pairsFrom 181 = .ok (.iload_n 1, 1) := by decide +kernel
theorem dX6_pairsFrom_182 : decode cX6_pairsFrom 182 = .ok (.ishl, 1) := by decide +kernel
theorem dX6_pairsFrom_183 : decode cX6_pairsFrom 183 = .ok (.ior, 1) := by decide +kernel
theorem dX6_pairsFrom_184 : decode cX6_pairsFrom 184 = .ok (.iconst 1, 1) := by decide +kernel
theorem dX6_pairsFrom_185 : decode cX6_pairsFrom 185 = .ok (.iload 6, 2) := by decide +kernel
theorem dX6_pairsFrom_187 : decode cX6_pairsFrom 187 = .ok (.ishl, 1) := by decide +kernel
theorem dX6_pairsFrom_188 : decode cX6_pairsFrom 188 = .ok (.ior, 1) := by decide +kernel
theorem dX6_pairsFrom_189 : decode cX6_pairsFrom 189 = .ok (.iload_n 3, 1) := by decide +kernel
theorem dX6_pairsFrom_190 : decode cX6_pairsFrom 190 = .ok (.iconst 1, 1) := by decide +kernel
theorem dX6_pairsFrom_191 : decode cX6_pairsFrom 191 = .ok (.isub, 1) := by decide +kernel
theorem dX6_pairsFrom_192 : decode cX6_pairsFrom 192 = .ok (.iload 4, 2) := by decide +kernel
theorem dX6_pairsFrom_194 : decode cX6_pairsFrom 194 = .ok (.aload_n 0, 1) := by decide +kernel
theorem dX6_pairsFrom_195 : decode cX6_pairsFrom 195 = .ok (.getfield 9, 3) := by decide +kernel
theorem dX6_pairsFrom_198 : decode cX6_pairsFrom 198 = .ok (.iload 7, 2) := by decide +kernel
theorem dX6_pairsFrom_200 : decode cX6_pairsFrom 200 = .ok (.iload 8, 2) := by decide +kernel
theorem dX6_pairsFrom_202 : decode cX6_pairsFrom 202 = .ok (.invokestatic 88, 3) := by decide +kernel
theorem dX6_pairsFrom_205 : decode cX6_pairsFrom 205 = .ok (.iadd, 1) := by decide +kernel
theorem dX6_pairsFrom_206 : decode cX6_pairsFrom 206 = .ok (.invokevirtual 154, 3) := by decide +kernel
theorem dX6_pairsFrom_209 : decode cX6_pairsFrom 209 = .ok (.aload_n 0, 1) := by decide +kernel
theorem dX6_pairsFrom_210 : decode cX6_pairsFrom 210 = .ok (.getfield 25, 3) := by decide +kernel
theorem dX6_pairsFrom_213 : decode cX6_pairsFrom 213 = .ok (.iload 7, 2) := by decide +kernel
theorem dX6_pairsFrom_215 : decode cX6_pairsFrom 215 = .ok (.bipush 9, 2) := by decide +kernel
theorem dX6_pairsFrom_217 : decode cX6_pairsFrom 217 = .ok (.iastore, 1) := by decide +kernel
theorem dX6_pairsFrom_218 : decode cX6_pairsFrom 218 = .ok (.iinc 6 1, 3) := by decide +kernel
theorem dX6_pairsFrom_221 : decode cX6_pairsFrom 221 = .ok (.goto (-119), 3) := by decide +kernel
theorem dX6_pairsFrom_224 : decode cX6_pairsFrom 224 = .ok (.iinc 5 1, 3) := by decide +kernel
theorem dX6_pairsFrom_227 : decode cX6_pairsFrom 227 = .ok (.goto (-140), 3) := by decide +kernel
theorem dX6_pairsFrom_230 : decode cX6_pairsFrom 230 = .ok (.aload_n 0, 1) := by decide +kernel
theorem dX6_pairsFrom_231 : decode cX6_pairsFrom 231 = .ok (.iload_n 1, 1) := by decide +kernel
theorem dX6_pairsFrom_232 : decode cX6_pairsFrom 232 = .ok (.iconst 1, 1) := by decide +kernel
theorem dX6_pairsFrom_233 : decode cX6_pairsFrom 233 = .ok (.iadd, 1) := by decide +kernel
theorem dX6_pairsFrom_234 : decode cX6_pairsFrom 234 = .ok (.iload_n 2, 1) := by decide +kernel
theorem dX6_pairsFrom_235 : decode cX6_pairsFrom 235 = .ok (.iload_n 3, 1) := by decide +kernel
theorem dX6_pairsFrom_236 : decode cX6_pairsFrom 236 = .ok (.iload 4, 2) := by decide +kernel
theorem dX6_pairsFrom_238 : decode cX6_pairsFrom 238 = .ok (.invokevirtual 154, 3) := by decide +kernel
theorem dX6_pairsFrom_241 : decode cX6_pairsFrom 241 = .ok (.return_, 1) := by decide +kernel
theorem dX6_pairs_0 : decode cX6_pairs 0 = .ok (.iload_n 1, 1) := by decide +kernel
theorem dX6_pairs_1 : decode cX6_pairs 1 = .ok (.iconst (-1), 1) := by decide +kernel
theorem dX6_pairs_2 : decode cX6_pairs 2 = .ok (.if_icmp .eq 13, 3) := by decide +kernel
theorem dX6_pairs_5 : decode cX6_pairs 5 = .ok (.aload_n 0, 1) := by decide +kernel
theorem dX6_pairs_6 : decode cX6_pairs 6 = .ok (.iload_n 1, 1) := by decide +kernel
theorem dX6_pairs_7 : decode cX6_pairs 7 = .ok (.invokevirtual 121, 3) := by decide +kernel
theorem dX6_pairs_10 : decode cX6_pairs 10 = .ok (.ifCond .ne 5, 3) := by decide +kernel
theorem dX6_pairs_13 : decode cX6_pairs 13 = .ok (.iconst (-1), 1) := by decide +kernel
theorem dX6_pairs_14 : decode cX6_pairs 14 = .ok (.ireturn, 1) := by decide +kernel
theorem dX6_pairs_15 : decode cX6_pairs 15 = .ok (.iconst 0, 1) := by decide +kernel
theorem dX6_pairs_16 : decode cX6_pairs 16 = .ok (.istore_n 2, 1) := by decide +kernel
theorem dX6_pairs_17 : decode cX6_pairs 17 = .ok (.iload_n 2, 1) := by decide +kernel
theorem dX6_pairs_18 : decode cX6_pairs 18 = .ok (.bipush 8, 2) := by decide +kernel
theorem dX6_pairs_20 : decode cX6_pairs 20 = .ok (.if_icmp .ge 17, 3) := by decide +kernel
theorem dX6_pairs_23 : decode cX6_pairs 23 = .ok (.aload_n 0, 1) := by decide +kernel
theorem dX6_pairs_24 : decode cX6_pairs 24 = .ok (.getfield 25, 3) := by decide +kernel
theorem dX6_pairs_27 : decode cX6_pairs 27 = .ok (.iload_n 2, 1) := by decide +kernel
theorem dX6_pairs_28 : decode cX6_pairs 28 = .ok (.bipush 9, 2) := by decide +kernel
theorem dX6_pairs_30 : decode cX6_pairs 30 = .ok (.iastore, 1) := by decide +kernel
theorem dX6_pairs_31 : decode cX6_pairs 31 = .ok (.iinc 2 1, 3) := by decide +kernel
theorem dX6_pairs_34 : decode cX6_pairs 34 = .ok (.goto (-17), 3) := by decide +kernel
theorem dX6_pairs_37 : decode cX6_pairs 37 = .ok (.aload_n 0, 1) := by decide +kernel
theorem dX6_pairs_38 : decode cX6_pairs 38 = .ok (.iconst (-1), 1) := by decide +kernel
theorem dX6_pairs_39 : decode cX6_pairs 39 = .ok (.putfield 151, 3) := by decide +kernel
theorem dX6_pairs_42 : decode cX6_pairs 42 = .ok (.aload_n 0, 1) := by decide +kernel
theorem dX6_pairs_43 : decode cX6_pairs 43 = .ok (.iconst 0, 1) := by decide +kernel
theorem dX6_pairs_44 : decode cX6_pairs 44 = .ok (.iconst 0, 1) := by decide +kernel
theorem dX6_pairs_45 : decode cX6_pairs 45 = .ok (.aload_n 0, 1) := by decide +kernel
theorem dX6_pairs_46 : decode cX6_pairs 46 = .ok (.getfield 9, 3) := by decide +kernel
theorem dX6_pairs_49 : decode cX6_pairs 49 = .ok (.iconst 1, 1) := by decide +kernel
theorem dX6_pairs_50 : decode cX6_pairs 50 = .ok (.iaload, 1) := by decide +kernel
theorem dX6_pairs_51 : decode cX6_pairs 51 = .ok (.iconst 0, 1) := by decide +kernel
theorem dX6_pairs_52 : decode cX6_pairs 52 = .ok (.invokevirtual 154, 3) := by decide +kernel
theorem dX6_pairs_55 : decode cX6_pairs 55 = .ok (.iload_n 1, 1) := by decide +kernel
theorem dX6_pairs_56 : decode cX6_pairs 56 = .ok (.ifCond .ge 10, 3) := by decide +kernel
theorem dX6_pairs_59 : decode cX6_pairs 59 = .ok (.aload_n 0, 1) := by decide +kernel
theorem dX6_pairs_60 : decode cX6_pairs 60 = .ok (.getfield 151, 3) := by decide +kernel
theorem dX6_pairs_63 : decode cX6_pairs 63 = .ok (.goto 9, 3) := by decide +kernel
theorem dX6_pairs_66 : decode cX6_pairs 66 = .ok (.aload_n 0, 1) := by decide +kernel
theorem dX6_pairs_67 : decode cX6_pairs 67 = .ok (.getfield 28, 3) := by decide +kernel
theorem dX6_pairs_70 : decode cX6_pairs 70 = .ok (.iload_n 1, 1) := by decide +kernel
theorem dX6_pairs_71 : decode cX6_pairs 71 = .ok (.iaload, 1) := by decide +kernel
theorem dX6_pairs_72 : decode cX6_pairs 72 = .ok (.ireturn, 1) := by decide +kernel
theorem dX6_greedily_0 : decode cX6_greedily 0 = .ok (.iload_n 1, 1) := by decide +kernel
theorem dX6_greedily_1 : decode cX6_greedily 1 = .ok (.iconst 0, 1) := by decide +kernel
theorem dX6_greedily_2 : decode cX6_greedily 2 = .ok (.bipush 30, 2) := by decide +kernel
theorem dX6_greedily_4 : decode cX6_greedily 4 = .ok (.invokestatic 49, 3) := by decide +kernel
theorem dX6_greedily_7 : decode cX6_greedily 7 = .ok (.ifCond .eq 12, 3) := by decide +kernel
theorem dX6_greedily_10 : decode cX6_greedily 10 = .ok (.iload_n 2, 1) := by decide +kernel
theorem dX6_greedily_11 : decode cX6_greedily 11 = .ok (.iconst 0, 1) := by decide +kernel
theorem dX6_greedily_12 : decode cX6_greedily 12 = .ok (.iconst 1, 1) := by decide +kernel
theorem dX6_greedily_13 : decode cX6_greedily 13 = .ok (.invokestatic 49, 3) := by decide +kernel
theorem dX6_greedily_16 : decode cX6_greedily 16 = .ok (.ifCond .ne 5, 3) := by decide +kernel
theorem dX6_greedily_19 : decode cX6_greedily 19 = .ok (.iconst (-1), 1) := by decide +kernel
theorem dX6_greedily_20 : decode cX6_greedily 20 = .ok (.ireturn, 1) := by decide +kernel
theorem dX6_greedily_21 : decode cX6_greedily 21 = .ok (.aload_n 0, 1) := by decide +kernel
theorem dX6_greedily_22 : decode cX6_greedily 22 = .ok (.getfield 9, 3) := by decide +kernel
theorem dX6_greedily_25 : decode cX6_greedily 25 = .ok (.aload_n 0, 1) := by decide +kernel
theorem dX6_greedily_26 : decode cX6_greedily 26 = .ok (.getfield 13, 3) := by decide +kernel
theorem dX6_greedily_29 : decode cX6_greedily 29 = .ok (.invokestatic 135, 3) := by decide +kernel
theorem dX6_greedily_32 : decode cX6_greedily 32 = .ok (.iconst 0, 1) := by decide +kernel
theorem dX6_greedily_33 : decode cX6_greedily 33 = .ok (.istore_n 3, 1) := by decide +kernel
theorem dX6_greedily_34 : decode cX6_greedily 34 = .ok (.iconst 0, 1) := by decide +kernel
theorem dX6_greedily_35 : decode cX6_greedily 35 = .ok (.istore 4, 2) := by decide +kernel
theorem dX6_greedily_37 : decode cX6_greedily 37 = .ok (.iload 4, 2) := by decide +kernel
theorem dX6_greedily_39 : decode cX6_greedily 39 = .ok (.iload_n 1, 1) := by decide +kernel
theorem dX6_greedily_40 : decode cX6_greedily 40 = .ok (.if_icmp .ge 48, 3) := by decide +kernel
theorem dX6_greedily_43 : decode cX6_greedily 43 = .ok (.aload_n 0, 1) := by decide +kernel
theorem dX6_greedily_44 : decode cX6_greedily 44 = .ok (.getfield 13, 3) := by decide +kernel
theorem dX6_greedily_47 : decode cX6_greedily 47 = .ok (.invokestatic 95, 3) := by decide +kernel
theorem dX6_greedily_50 : decode cX6_greedily 50 = .ok (.ifCond .lt 38, 3) := by decide +kernel
theorem dX6_greedily_53 : decode cX6_greedily 53 = .ok (.aload_n 0, 1) := by decide +kernel
theorem dX6_greedily_54 : decode cX6_greedily 54 = .ok (.getfield 13, 3) := by decide +kernel
theorem dX6_greedily_57 : decode cX6_greedily 57 = .ok (.invokestatic 95, 3) := by decide +kernel
theorem dX6_greedily_60 : decode cX6_greedily 60 = .ok (.istore 5, 2) := by decide +kernel
theorem dX6_greedily_62 : decode cX6_greedily 62 = .ok (.iload_n 3, 1) := by decide +kernel
theorem dX6_greedily_63 : decode cX6_greedily 63 = .ok (.aload_n 0, 1) := by decide +kernel
theorem dX6_greedily_64 : decode cX6_greedily 64 = .ok (.getfield 13, 3) := by decide +kernel
theorem dX6_greedily_67 : decode cX6_greedily 67 = .ok (.iload 5, 2) := by decide +kernel
theorem dX6_greedily_69 : decode cX6_greedily 69 = .ok (.bipush 10, 2) := by decide +kernel
theorem dX6_greedily_71 : decode cX6_greedily 71 = .ok (.idiv, 1) := by decide +kernel
theorem dX6_greedily_72 : decode cX6_greedily 72 = .ok (.iload 5, 2) := by decide +kernel
theorem dX6_greedily_74 : decode cX6_greedily 74 = .ok (.bipush 10, 2) := by decide +kernel
theorem dX6_greedily_76 : decode cX6_greedily 76 = .ok (.irem, 1) := by decide +kernel
theorem dX6_greedily_77 : decode cX6_greedily 77 = .ok (.invokestatic 125, 3) := by decide +kernel
theorem dX6_greedily_80 : decode cX6_greedily 80 = .ok (.iadd, 1) := by decide +kernel
theorem dX6_greedily_81 : decode cX6_greedily 81 = .ok (.istore_n 3, 1) := by decide +kernel
theorem dX6_greedily_82 : decode cX6_greedily 82 = .ok (.iinc 4 1, 3) := by decide +kernel
theorem dX6_greedily_85 : decode cX6_greedily 85 = .ok (.goto (-48), 3) := by decide +kernel
theorem dX6_greedily_88 : decode cX6_greedily 88 = .ok (.iload_n 2, 1) := by decide +kernel
theorem dX6_greedily_89 : decode cX6_greedily 89 = .ok (.ifCond .ne 7, 3) := by decide +kernel
theorem dX6_greedily_92 : decode cX6_greedily 92 = .ok (.iload_n 3, 1) := by decide +kernel
theorem dX6_greedily_93 : decode cX6_greedily 93 = .ok (.goto 5, 3) := by decide +kernel
theorem dX6_greedily_96 : decode cX6_greedily 96 = .ok (.iload 4, 2) := by decide +kernel
theorem dX6_greedily_98 : decode cX6_greedily 98 = .ok (.ireturn, 1) := by decide +kernel
theorem dX6_atAll_0 : decode cX6_atAll 0 = .ok (.iload_n 1, 1) := by decide +kernel
theorem dX6_atAll_1 : decode cX6_atAll 1 = .ok (.iconst 0, 1) := by decide +kernel
theorem dX6_atAll_2 : decode cX6_atAll 2 = .ok (.iconst 1, 1) := by decide +kernel
theorem dX6_atAll_3 : decode cX6_atAll 3 = .ok (.invokestatic 49, 3) := by decide +kernel
theorem dX6_atAll_6 : decode cX6_atAll 6 = .ok (.ifCond .ne 5, 3) := by decide +kernel
theorem dX6_atAll_9 : decode cX6_atAll 9 = .ok (.iconst (-1), 1) := by decide +kernel
theorem dX6_atAll_10 : decode cX6_atAll 10 = .ok (.ireturn, 1) := by decide +kernel
theorem dX6_atAll_11 : decode cX6_atAll 11 = .ok (.bipush (-4), 2) := by decide +kernel
theorem dX6_atAll_13 : decode cX6_atAll 13 = .ok (.istore_n 2, 1) := by decide +kernel
theorem dX6_atAll_14 : decode cX6_atAll 14 = .ok (.iconst 0, 1) := by decide +kernel
theorem dX6_atAll_15 : decode cX6_atAll 15 = .ok (.istore_n 3, 1) := by decide +kernel
theorem dX6_atAll_16 : decode cX6_atAll 16 = .ok (.iconst 0, 1) := by decide +kernel
theorem dX6_atAll_17 : decode cX6_atAll 17 = .ok (.istore 4, 2) := by decide +kernel
theorem dX6_atAll_19 : decode cX6_atAll 19 = .ok (.iconst 0, 1) := by decide +kernel
theorem dX6_atAll_20 : decode cX6_atAll 20 = .ok (.istore 5, 2) := by decide +kernel
theorem dX6_atAll_22 : decode cX6_atAll 22 = .ok (.iconst 0, 1) := by decide +kernel
theorem dX6_atAll_23 : decode cX6_atAll 23 = .ok (.istore 6, 2) := by decide +kernel
theorem dX6_atAll_25 : decode cX6_atAll 25 = .ok (.iload 6, 2) := by decide +kernel
theorem dX6_atAll_27 : decode cX6_atAll 27 = .ok (.aload_n 0, 1) := by decide +kernel
theorem dX6_atAll_28 : decode cX6_atAll 28 = .ok (.getfield 9, 3) := by decide +kernel
theorem dX6_atAll_31 : decode cX6_atAll 31 = .ok (.iconst 0, 1) := by decide +kernel
theorem dX6_atAll_32 : decode cX6_atAll 32 = .ok (.iaload, 1) := by decide +kernel
theorem dX6_atAll_33 : decode cX6_atAll 33 = .ok (.if_icmp .ge 133, 3) := by decide +kernel
theorem dX6_atAll_36 : decode cX6_atAll 36 = .ok (.aload_n 0, 1) := by decide +kernel
theorem dX6_atAll_37 : decode cX6_atAll 37 = .ok (.getfield 9, 3) := by decide +kernel
theorem dX6_atAll_40 : decode cX6_atAll 40 = .ok (.iload 6, 2) := by decide +kernel
theorem dX6_atAll_42 : decode cX6_atAll 42 = .ok (.iconst 2, 1) := by decide +kernel
theorem dX6_atAll_43 : decode cX6_atAll 43 = .ok (.invokestatic 53, 3) := by decide +kernel
theorem dX6_atAll_46 : decode cX6_atAll 46 = .ok (.iaload, 1) := by decide +kernel
theorem dX6_atAll_47 : decode cX6_atAll 47 = .ok (.ifCond .le 21, 3) := by decide +kernel
theorem dX6_atAll_50 : decode cX6_atAll 50 = .ok (.aload_n 0, 1) := by decide +kernel
theorem dX6_atAll_51 : decode cX6_atAll 51 = .ok (.getfield 9, 3) := by decide +kernel
theorem dX6_atAll_54 : decode cX6_atAll 54 = .ok (.iload 6, 2) := by decide +kernel
theorem dX6_atAll_56 : decode cX6_atAll 56 = .ok (.iconst 4, 1) := by decide +kernel
theorem dX6_atAll_57 : decode cX6_atAll 57 = .ok (.invokestatic 53, 3) := by decide +kernel
theorem dX6_atAll_60 : decode cX6_atAll 60 = .ok (.iaload, 1) := by decide +kernel
theorem dX6_atAll_61 : decode cX6_atAll 61 = .ok (.ifCond .ne 7, 3) := by decide +kernel
theorem dX6_atAll_64 : decode cX6_atAll 64 = .ok (.iconst 1, 1) := by decide +kernel
theorem dX6_atAll_65 : decode cX6_atAll 65 = .ok (.goto 4, 3) := by decide +kernel
theorem dX6_atAll_68 : decode cX6_atAll 68 = .ok (.iconst 0, 1) := by decide +kernel
theorem dX6_atAll_69 : decode cX6_atAll 69 = .ok (.istore 7, 2) := by decide +kernel
theorem dX6_atAll_71 : decode cX6_atAll 71 = .ok (.iload_n 3, 1) := by decide +kernel
theorem dX6_atAll_72 : decode cX6_atAll 72 = .ok (.iload 7, 2) := by decide +kernel
theorem dX6_atAll_74 : decode cX6_atAll 74 = .ok (.ifCond .eq 7, 3) := by decide +kernel
theorem dX6_atAll_77 : decode cX6_atAll 77 = .ok (.iconst 1, 1) := by decide +kernel
theorem dX6_atAll_78 : decode cX6_atAll 78 = .ok (.goto 4, 3) := by decide +kernel
theorem dX6_atAll_81 : decode cX6_atAll 81 = .ok (.iconst 0, 1) := by decide +kernel
theorem dX6_atAll_82 : decode cX6_atAll 82 = .ok (.iadd, 1) := by decide +kernel
theorem dX6_atAll_83 : decode cX6_atAll 83 = .ok (.istore_n 3, 1) := by decide +kernel
theorem dX6_atAll_84 : decode cX6_atAll 84 = .ok (.aload_n 0, 1) := by decide +kernel
theorem dX6_atAll_85 : decode cX6_atAll 85 = .ok (.getfield 9, 3) := by decide +kernel
theorem dX6_atAll_88 : decode cX6_atAll 88 = .ok (.iload 6, 2) := by decide +kernel
theorem dX6_atAll_90 : decode cX6_atAll 90 = .ok (.invokestatic 66, 3) := by decide +kernel
theorem dX6_atAll_93 : decode cX6_atAll 93 = .ok (.ifCond .ne 6, 3) := by decide +kernel
theorem dX6_atAll_96 : decode cX6_atAll 96 = .ok (.goto 64, 3) := by decide +kernel
theorem dX6_atAll_99 : decode cX6_atAll 99 = .ok (.iload 4, 2) := by decide +kernel
theorem dX6_atAll_101 : decode cX6_atAll 101 = .ok (.iload 7, 2) := by decide +kernel
theorem dX6_atAll_103 : decode cX6_atAll 103 = .ok (.ifCond .eq 7, 3) := by decide +kernel
theorem dX6_atAll_106 : decode cX6_atAll 106 = .ok (.iconst 1, 1) := by decide +kernel
theorem dX6_atAll_107 : decode cX6_atAll 107 = .ok (.goto 4, 3) := by decide +kernel
theorem dX6_atAll_110 : decode cX6_atAll 110 = .ok (.iconst 0, 1) := by decide +kernel
theorem dX6_atAll_111 : decode cX6_atAll 111 = .ok (.iadd, 1) := by decide +kernel
theorem dX6_atAll_112 : decode cX6_atAll 112 = .ok (.istore 4, 2) := by decide +kernel
theorem dX6_atAll_114 : decode cX6_atAll 114 = .ok (.iload 5, 2) := by decide +kernel
theorem dX6_atAll_116 : decode cX6_atAll 116 = .ok (.iload 7, 2) := by decide +kernel
theorem dX6_atAll_118 : decode cX6_atAll 118 = .ok (.ifCond .eq 7, 3) := by decide +kernel
theorem dX6_atAll_121 : decode cX6_atAll 121 = .ok (.iconst 0, 1) := by decide +kernel
theorem dX6_atAll_122 : decode cX6_atAll 122 = .ok (.goto 4, 3) := by decide +kernel
theorem dX6_atAll_125 : decode cX6_atAll 125 = .ok (.iconst 1, 1) := by decide +kernel
theorem dX6_atAll_126 : decode cX6_atAll 126 = .ok (.iadd, 1) := by decide +kernel
theorem dX6_atAll_127 : decode cX6_atAll 127 = .ok (.istore 5, 2) := by decide +kernel
theorem dX6_atAll_129 : decode cX6_atAll 129 = .ok (.iload_n 2, 1) := by decide +kernel
theorem dX6_atAll_130 : decode cX6_atAll 130 = .ok (.ifCond .lt 27, 3) := by decide +kernel
theorem dX6_atAll_133 : decode cX6_atAll 133 = .ok (.aload_n 0, 1) := by decide +kernel
theorem dX6_atAll_134 : decode cX6_atAll 134 = .ok (.getfield 9, 3) := by decide +kernel
theorem dX6_atAll_137 : decode cX6_atAll 137 = .ok (.iload 6, 2) := by decide +kernel
theorem dX6_atAll_139 : decode cX6_atAll 139 = .ok (.iconst 2, 1) := by decide +kernel
theorem dX6_atAll_140 : decode cX6_atAll 140 = .ok (.invokestatic 53, 3) := by decide +kernel
theorem dX6_atAll_143 : decode cX6_atAll 143 = .ok (.iaload, 1) := by decide +kernel
theorem dX6_atAll_144 : decode cX6_atAll 144 = .ok (.aload_n 0, 1) := by decide +kernel
theorem dX6_atAll_145 : decode cX6_atAll 145 = .ok (.getfield 9, 3) := by decide +kernel
theorem dX6_atAll_148 : decode cX6_atAll 148 = .ok (.iload_n 2, 1) := by decide +kernel
theorem dX6_atAll_149 : decode cX6_atAll 149 = .ok (.iconst 2, 1) := by decide +kernel
theorem dX6_atAll_150 : decode cX6_atAll 150 = .ok (.invokestatic 53, 3) := by decide +kernel
theorem dX6_atAll_153 : decode cX6_atAll 153 = .ok (.iaload, 1) := by decide +kernel
theorem dX6_atAll_154 : decode cX6_atAll 154 = .ok (.if_icmp .ge 6, 3) := by decide +kernel
theorem dX6_atAll_157 : decode cX6_atAll 157 = .ok (.iload 6, 2) := by decide +kernel
theorem dX6_atAll_159 : decode cX6_atAll 159 = .ok (.istore_n 2, 1) := by decide +kernel
theorem dX6_atAll_160 : decode cX6_atAll 160 = .ok (.iinc 6 1, 3) := by decide +kernel
theorem dX6_atAll_163 : decode cX6_atAll 163 = .ok (.goto (-138), 3) := by decide +kernel
theorem dX6_atAll_166 : decode cX6_atAll 166 = .ok (.iload_n 1, 1) := by decide +kernel
theorem dX6_atAll_167 : decode cX6_atAll 167 = .ok (.iconst 1, 1) := by decide +kernel
theorem dX6_atAll_168 : decode cX6_atAll 168 = .ok (.if_icmp .ne 5, 3) := by decide +kernel
theorem dX6_atAll_171 : decode cX6_atAll 171 = .ok (.iload_n 2, 1) := by decide +kernel
theorem dX6_atAll_172 : decode cX6_atAll 172 = .ok (.ireturn, 1) := by decide +kernel
theorem dX6_atAll_173 : decode cX6_atAll 173 = .ok (.aload_n 0, 1) := by decide +kernel
theorem dX6_atAll_174 : decode cX6_atAll 174 = .ok (.getfield 9, 3) := by decide +kernel
theorem dX6_atAll_177 : decode cX6_atAll 177 = .ok (.iconst 1, 1) := by decide +kernel
theorem dX6_atAll_178 : decode cX6_atAll 178 = .ok (.iaload, 1) := by decide +kernel
theorem dX6_atAll_179 : decode cX6_atAll 179 = .ok (.iload 5, 2) := by decide +kernel
theorem dX6_atAll_181 : decode cX6_atAll 181 = .ok (.ifCond .le 7, 3) := by decide +kernel
theorem dX6_atAll_184 : decode cX6_atAll 184 = .ok (.iload_n 3, 1) := by decide +kernel
theorem dX6_atAll_185 : decode cX6_atAll 185 = .ok (.goto 15, 3) := by decide +kernel
theorem dX6_atAll_188 : decode cX6_atAll 188 = .ok (.iload 4, 2) := by decide +kernel
theorem dX6_atAll_190 : decode cX6_atAll 190 = .ok (.ifCond .le 9, 3) := by decide +kernel
theorem dX6_atAll_193 : decode cX6_atAll 193 = .ok (.iload_n 3, 1) := by decide +kernel
theorem dX6_atAll_194 : decode cX6_atAll 194 = .ok (.iconst 1, 1) := by decide +kernel
theorem dX6_atAll_195 : decode cX6_atAll 195 = .ok (.isub, 1) := by decide +kernel
theorem dX6_atAll_196 : decode cX6_atAll 196 = .ok (.goto 4, 3) := by decide +kernel
theorem dX6_atAll_199 : decode cX6_atAll 199 = .ok (.iconst 0, 1) := by decide +kernel
theorem dX6_atAll_200 : decode cX6_atAll 200 = .ok (.invokestatic 60, 3) := by decide +kernel
theorem dX6_atAll_203 : decode cX6_atAll 203 = .ok (.ireturn, 1) := by decide +kernel
theorem dX6_stuck_0 : decode cX6_stuck 0 = .ok (.iconst 0, 1) := by decide +kernel
theorem dX6_stuck_1 : decode cX6_stuck 1 = .ok (.istore_n 1, 1) := by decide +kernel
theorem dX6_stuck_2 : decode cX6_stuck 2 = .ok (.iconst 0, 1) := by decide +kernel
theorem dX6_stuck_3 : decode cX6_stuck 3 = .ok (.istore_n 2, 1) := by decide +kernel
theorem dX6_stuck_4 : decode cX6_stuck 4 = .ok (.iload_n 2, 1) := by decide +kernel
theorem dX6_stuck_5 : decode cX6_stuck 5 = .ok (.aload_n 0, 1) := by decide +kernel
theorem dX6_stuck_6 : decode cX6_stuck 6 = .ok (.getfield 9, 3) := by decide +kernel
theorem dX6_stuck_9 : decode cX6_stuck 9 = .ok (.iconst 0, 1) := by decide +kernel
theorem dX6_stuck_10 : decode cX6_stuck 10 = .ok (.iaload, 1) := by decide +kernel
theorem dX6_stuck_11 : decode cX6_stuck 11 = .ok (.if_icmp .ge 22, 3) := by decide +kernel
theorem dX6_stuck_14 : decode cX6_stuck 14 = .ok (.iload_n 1, 1) := by decide +kernel
theorem dX6_stuck_15 : decode cX6_stuck 15 = .ok (.aload_n 0, 1) := by decide +kernel
theorem dX6_stuck_16 : decode cX6_stuck 16 = .ok (.getfield 9, 3) := by decide +kernel
theorem dX6_stuck_19 : decode cX6_stuck 19 = .ok (.iload_n 2, 1) := by decide +kernel
theorem dX6_stuck_20 : decode cX6_stuck 20 = .ok (.iconst 2, 1) := by decide +kernel
theorem dX6_stuck_21 : decode cX6_stuck 21 = .ok (.invokestatic 53, 3) := by decide +kernel
theorem dX6_stuck_24 : decode cX6_stuck 24 = .ok (.iaload, 1) := by decide +kernel
theorem dX6_stuck_25 : decode cX6_stuck 25 = .ok (.iadd, 1) := by decide +kernel
theorem dX6_stuck_26 : decode cX6_stuck 26 = .ok (.istore_n 1, 1) := by decide +kernel
theorem dX6_stuck_27 : decode cX6_stuck 27 = .ok (.iinc 2 1, 3) := by decide +kernel
theorem dX6_stuck_30 : decode cX6_stuck 30 = .ok (.goto (-26), 3) := by decide +kernel
theorem dX6_stuck_33 : decode cX6_stuck 33 = .ok (.aload_n 0, 1) := by decide +kernel
theorem dX6_stuck_34 : decode cX6_stuck 34 = .ok (.getfield 9, 3) := by decide +kernel
theorem dX6_stuck_37 : decode cX6_stuck 37 = .ok (.iconst 1, 1) := by decide +kernel
theorem dX6_stuck_38 : decode cX6_stuck 38 = .ok (.iaload, 1) := by decide +kernel
theorem dX6_stuck_39 : decode cX6_stuck 39 = .ok (.ifCond .le 21, 3) := by decide +kernel
theorem dX6_stuck_42 : decode cX6_stuck 42 = .ok (.iload_n 1, 1) := by decide +kernel
theorem dX6_stuck_43 : decode cX6_stuck 43 = .ok (.ifCond .le 17, 3) := by decide +kernel
theorem dX6_stuck_46 : decode cX6_stuck 46 = .ok (.aload_n 0, 1) := by decide +kernel
theorem dX6_stuck_47 : decode cX6_stuck 47 = .ok (.getfield 9, 3) := by decide +kernel
theorem dX6_stuck_50 : decode cX6_stuck 50 = .ok (.invokestatic 95, 3) := by decide +kernel
theorem dX6_stuck_53 : decode cX6_stuck 53 = .ok (.ifCond .ge 7, 3) := by decide +kernel
theorem dX6_stuck_56 : decode cX6_stuck 56 = .ok (.iconst 1, 1) := by decide +kernel
theorem dX6_stuck_57 : decode cX6_stuck 57 = .ok (.goto 4, 3) := by decide +kernel
theorem dX6_stuck_60 : decode cX6_stuck 60 = .ok (.iconst 0, 1) := by decide +kernel
theorem dX6_stuck_61 : decode cX6_stuck 61 = .ok (.ireturn, 1) := by decide +kernel
theorem dX6_bring_0 : decode cX6_bring 0 = .ok (.iload_n 1, 1) := by decide +kernel
theorem dX6_bring_1 : decode cX6_bring 1 = .ok (.iconst 0, 1) := by decide +kernel
theorem dX6_bring_2 : decode cX6_bring 2 = .ok (.bipush 9, 2) := by decide +kernel
theorem dX6_bring_4 : decode cX6_bring 4 = .ok (.invokestatic 49, 3) := by decide +kernel
theorem dX6_bring_7 : decode cX6_bring 7 = .ok (.ifCond .ne 5, 3) := by decide +kernel
theorem dX6_bring_10 : decode cX6_bring 10 = .ok (.iconst (-1), 1) := by decide +kernel
theorem dX6_bring_11 : decode cX6_bring 11 = .ok (.ireturn, 1) := by decide +kernel
theorem dX6_bring_12 : decode cX6_bring 12 = .ok (.bipush (-4), 2) := by decide +kernel
theorem dX6_bring_14 : decode cX6_bring 14 = .ok (.istore_n 2, 1) := by decide +kernel
theorem dX6_bring_15 : decode cX6_bring 15 = .ok (.aload_n 0, 1) := by decide +kernel
theorem dX6_bring_16 : decode cX6_bring 16 = .ok (.getfield 9, 3) := by decide +kernel
theorem dX6_bring_19 : decode cX6_bring 19 = .ok (.invokestatic 148, 3) := by decide +kernel
theorem dX6_bring_22 : decode cX6_bring 22 = .ok (.istore_n 3, 1) := by decide +kernel
theorem dX6_bring_23 : decode cX6_bring 23 = .ok (.iconst 0, 1) := by decide +kernel
theorem dX6_bring_24 : decode cX6_bring 24 = .ok (.istore 4, 2) := by decide +kernel
theorem dX6_bring_26 : decode cX6_bring 26 = .ok (.iload 4, 2) := by decide +kernel
theorem dX6_bring_28 : decode cX6_bring 28 = .ok (.bipush 8, 2) := by decide +kernel
theorem dX6_bring_30 : decode cX6_bring 30 = .ok (.if_icmp .ge 57, 3) := by decide +kernel
theorem dX6_bring_33 : decode cX6_bring 33 = .ok (.aload_n 0, 1) := by decide +kernel
theorem dX6_bring_34 : decode cX6_bring 34 = .ok (.getfield 9, 3) := by decide +kernel
theorem dX6_bring_37 : decode cX6_bring 37 = .ok (.aload_n 0, 1) := by decide +kernel
theorem dX6_bring_38 : decode cX6_bring 38 = .ok (.getfield 13, 3) := by decide +kernel
theorem dX6_bring_41 : decode cX6_bring 41 = .ok (.invokestatic 135, 3) := by decide +kernel
theorem dX6_bring_44 : decode cX6_bring 44 = .ok (.aload_n 0, 1) := by decide +kernel
theorem dX6_bring_45 : decode cX6_bring 45 = .ok (.getfield 13, 3) := by decide +kernel
theorem dX6_bring_48 : decode cX6_bring 48 = .ok (.iload 4, 2) := by decide +kernel
theorem dX6_bring_50 : decode cX6_bring 50 = .ok (.iload_n 1, 1) := by decide +kernel
theorem dX6_bring_51 : decode cX6_bring 51 = .ok (.iconst 0, 1) := by decide +kernel
theorem dX6_bring_52 : decode cX6_bring 52 = .ok (.bipush 9, 2) := by decide +kernel
theorem dX6_bring_54 : decode cX6_bring 54 = .ok (.invokestatic 117, 3) := by decide +kernel
theorem dX6_bring_57 : decode cX6_bring 57 = .ok (.aload_n 0, 1) := by decide +kernel
theorem dX6_bring_58 : decode cX6_bring 58 = .ok (.getfield 13, 3) := by decide +kernel
theorem dX6_bring_61 : decode cX6_bring 61 = .ok (.invokestatic 148, 3) := by decide +kernel
theorem dX6_bring_64 : decode cX6_bring 64 = .ok (.istore 5, 2) := by decide +kernel
theorem dX6_bring_66 : decode cX6_bring 66 = .ok (.iload 5, 2) := by decide +kernel
theorem dX6_bring_68 : decode cX6_bring 68 = .ok (.iload_n 3, 1) := by decide +kernel
theorem dX6_bring_69 : decode cX6_bring 69 = .ok (.if_icmp .gt 6, 3) := by decide +kernel
theorem dX6_bring_72 : decode cX6_bring 72 = .ok (.goto 9, 3) := by decide +kernel
theorem dX6_bring_75 : decode cX6_bring 75 = .ok (.iload 4, 2) := by decide +kernel
theorem dX6_bring_77 : decode cX6_bring 77 = .ok (.istore_n 2, 1) := by decide +kernel
theorem dX6_bring_78 : decode cX6_bring 78 = .ok (.iload 5, 2) := by decide +kernel
theorem dX6_bring_80 : decode cX6_bring 80 = .ok (.istore_n 3, 1) := by decide +kernel
theorem dX6_bring_81 : decode cX6_bring 81 = .ok (.iinc 4 1, 3) := by decide +kernel
theorem dX6_bring_84 : decode cX6_bring 84 = .ok (.goto (-58), 3) := by decide +kernel
theorem dX6_bring_87 : decode cX6_bring 87 = .ok (.iload_n 2, 1) := by decide +kernel
theorem dX6_bring_88 : decode cX6_bring 88 = .ok (.ireturn, 1) := by decide +kernel
theorem dX6_feeds_0 : decode cX6_feeds 0 = .ok (.aload_n 0, 1) := by decide +kernel
theorem dX6_feeds_1 : decode cX6_feeds 1 = .ok (.iload_n 1, 1) := by decide +kernel
theorem dX6_feeds_2 : decode cX6_feeds 2 = .ok (.invokevirtual 121, 3) := by decide +kernel
theorem dX6_feeds_5 : decode cX6_feeds 5 = .ok (.ifCond .ne 5, 3) := by decide +kernel
theorem dX6_feeds_8 : decode cX6_feeds 8 = .ok (.iconst (-1), 1) := by decide +kernel
theorem dX6_feeds_9 : decode cX6_feeds 9 = .ok (.ireturn, 1) := by decide +kernel
theorem dX6_feeds_10 : decode cX6_feeds 10 = .ok (.aload_n 0, 1) := by decide +kernel
theorem dX6_feeds_11 : decode cX6_feeds 11 = .ok (.getfield 9, 3) := by decide +kernel
theorem dX6_feeds_14 : decode cX6_feeds 14 = .ok (.iload_n 1, 1) := by decide +kernel
theorem dX6_feeds_15 : decode cX6_feeds 15 = .ok (.iconst 0, 1) := by decide +kernel
theorem dX6_feeds_16 : decode cX6_feeds 16 = .ok (.invokestatic 53, 3) := by decide +kernel
theorem dX6_feeds_19 : decode cX6_feeds 19 = .ok (.iaload, 1) := by decide +kernel
theorem dX6_feeds_20 : decode cX6_feeds 20 = .ok (.aload_n 0, 1) := by decide +kernel
theorem dX6_feeds_21 : decode cX6_feeds 21 = .ok (.getfield 9, 3) := by decide +kernel
theorem dX6_feeds_24 : decode cX6_feeds 24 = .ok (.iload_n 1, 1) := by decide +kernel
theorem dX6_feeds_25 : decode cX6_feeds 25 = .ok (.iconst 1, 1) := by decide +kernel
theorem dX6_feeds_26 : decode cX6_feeds 26 = .ok (.invokestatic 53, 3) := by decide +kernel
theorem dX6_feeds_29 : decode cX6_feeds 29 = .ok (.iaload, 1) := by decide +kernel
theorem dX6_feeds_30 : decode cX6_feeds 30 = .ok (.invokestatic 57, 3) := by decide +kernel
theorem dX6_feeds_33 : decode cX6_feeds 33 = .ok (.istore_n 2, 1) := by decide +kernel
theorem dX6_feeds_34 : decode cX6_feeds 34 = .ok (.aload_n 0, 1) := by decide +kernel
theorem dX6_feeds_35 : decode cX6_feeds 35 = .ok (.getfield 9, 3) := by decide +kernel
theorem dX6_feeds_38 : decode cX6_feeds 38 = .ok (.iload_n 1, 1) := by decide +kernel
theorem dX6_feeds_39 : decode cX6_feeds 39 = .ok (.iconst 2, 1) := by decide +kernel
theorem dX6_feeds_40 : decode cX6_feeds 40 = .ok (.invokestatic 53, 3) := by decide +kernel
theorem dX6_feeds_43 : decode cX6_feeds 43 = .ok (.iaload, 1) := by decide +kernel
theorem dX6_feeds_44 : decode cX6_feeds 44 = .ok (.iload_n 2, 1) := by decide +kernel
theorem dX6_feeds_45 : decode cX6_feeds 45 = .ok (.iadd, 1) := by decide +kernel
theorem dX6_feeds_46 : decode cX6_feeds 46 = .ok (.iconst 1, 1) := by decide +kernel
theorem dX6_feeds_47 : decode cX6_feeds 47 = .ok (.isub, 1) := by decide +kernel
theorem dX6_feeds_48 : decode cX6_feeds 48 = .ok (.iload_n 2, 1) := by decide +kernel
theorem dX6_feeds_49 : decode cX6_feeds 49 = .ok (.idiv, 1) := by decide +kernel
theorem dX6_feeds_50 : decode cX6_feeds 50 = .ok (.ireturn, 1) := by decide +kernel
theorem dX6_buyers_0 : decode cX6_buyers 0 = .ok (.iconst 0, 1) := by decide +kernel
theorem dX6_buyers_1 : decode cX6_buyers 1 = .ok (.istore_n 2, 1) := by decide +kernel
theorem dX6_buyers_2 : decode cX6_buyers 2 = .ok (.iconst 0, 1) := by decide +kernel
theorem dX6_buyers_3 : decode cX6_buyers 3 = .ok (.istore_n 3, 1) := by decide +kernel
theorem dX6_buyers_4 : decode cX6_buyers 4 = .ok (.iload_n 3, 1) := by decide +kernel
theorem dX6_buyers_5 : decode cX6_buyers 5 = .ok (.aload_n 0, 1) := by decide +kernel
theorem dX6_buyers_6 : decode cX6_buyers 6 = .ok (.getfield 9, 3) := by decide +kernel
theorem dX6_buyers_9 : decode cX6_buyers 9 = .ok (.iconst 0, 1) := by decide +kernel
theorem dX6_buyers_10 : decode cX6_buyers 10 = .ok (.iaload, 1) := by decide +kernel
theorem dX6_buyers_11 : decode cX6_buyers 11 = .ok (.if_icmp .ge 42, 3) := by decide +kernel
theorem dX6_buyers_14 : decode cX6_buyers 14 = .ok (.iload_n 2, 1) := by decide +kernel
theorem dX6_buyers_15 : decode cX6_buyers 15 = .ok (.aload_n 0, 1) := by decide +kernel
theorem dX6_buyers_16 : decode cX6_buyers 16 = .ok (.getfield 9, 3) := by decide +kernel
theorem dX6_buyers_19 : decode cX6_buyers 19 = .ok (.iload_n 3, 1) := by decide +kernel
theorem dX6_buyers_20 : decode cX6_buyers 20 = .ok (.iconst 2, 1) := by decide +kernel
theorem dX6_buyers_21 : decode cX6_buyers 21 = .ok (.invokestatic 53, 3) := by decide +kernel
theorem dX6_buyers_24 : decode cX6_buyers 24 = .ok (.iaload, 1) := by decide +kernel
theorem dX6_buyers_25 : decode cX6_buyers 25 = .ok (.ifCond .le 19, 3) := by decide +kernel
theorem dX6_buyers_28 : decode cX6_buyers 28 = .ok (.aload_n 0, 1) := by decide +kernel
theorem dX6_buyers_29 : decode cX6_buyers 29 = .ok (.getfield 9, 3) := by decide +kernel
theorem dX6_buyers_32 : decode cX6_buyers 32 = .ok (.iload_n 3, 1) := by decide +kernel
theorem dX6_buyers_33 : decode cX6_buyers 33 = .ok (.invokestatic 70, 3) := by decide +kernel
theorem dX6_buyers_36 : decode cX6_buyers 36 = .ok (.iload_n 1, 1) := by decide +kernel
theorem dX6_buyers_37 : decode cX6_buyers 37 = .ok (.if_icmp .lt 7, 3) := by decide +kernel
theorem dX6_buyers_40 : decode cX6_buyers 40 = .ok (.iconst 1, 1) := by decide +kernel
theorem dX6_buyers_41 : decode cX6_buyers 41 = .ok (.goto 4, 3) := by decide +kernel
theorem dX6_buyers_44 : decode cX6_buyers 44 = .ok (.iconst 0, 1) := by decide +kernel
theorem dX6_buyers_45 : decode cX6_buyers 45 = .ok (.iadd, 1) := by decide +kernel
theorem dX6_buyers_46 : decode cX6_buyers 46 = .ok (.istore_n 2, 1) := by decide +kernel
theorem dX6_buyers_47 : decode cX6_buyers 47 = .ok (.iinc 3 1, 3) := by decide +kernel
theorem dX6_buyers_50 : decode cX6_buyers 50 = .ok (.goto (-46), 3) := by decide +kernel
theorem dX6_buyers_53 : decode cX6_buyers 53 = .ok (.iload_n 2, 1) := by decide +kernel
theorem dX6_buyers_54 : decode cX6_buyers 54 = .ok (.ireturn, 1) := by decide +kernel
theorem dX6_sellers_0 : decode cX6_sellers 0 = .ok (.iconst 0, 1) := by decide +kernel
theorem dX6_sellers_1 : decode cX6_sellers 1 = .ok (.istore_n 2, 1) := by decide +kernel
theorem dX6_sellers_2 : decode cX6_sellers 2 = .ok (.iconst 0, 1) := by decide +kernel
theorem dX6_sellers_3 : decode cX6_sellers 3 = .ok (.istore_n 3, 1) := by decide +kernel
theorem dX6_sellers_4 : decode cX6_sellers 4 = .ok (.iload_n 3, 1) := by decide +kernel
theorem dX6_sellers_5 : decode cX6_sellers 5 = .ok (.aload_n 0, 1) := by decide +kernel
theorem dX6_sellers_6 : decode cX6_sellers 6 = .ok (.getfield 9, 3) := by decide +kernel
theorem dX6_sellers_9 : decode cX6_sellers 9 = .ok (.iconst 0, 1) := by decide +kernel
theorem dX6_sellers_10 : decode cX6_sellers 10 = .ok (.iaload, 1) := by decide +kernel
theorem dX6_sellers_11 : decode cX6_sellers 11 = .ok (.if_icmp .ge 40, 3) := by decide +kernel
theorem dX6_sellers_14 : decode cX6_sellers 14 = .ok (.iload_n 2, 1) := by decide +kernel
theorem dX6_sellers_15 : decode cX6_sellers 15 = .ok (.aload_n 0, 1) := by decide +kernel
theorem dX6_sellers_16 : decode cX6_sellers 16 = .ok (.getfield 9, 3) := by decide +kernel
theorem dX6_sellers_19 : decode cX6_sellers 19 = .ok (.iload_n 3, 1) := by decide +kernel
theorem dX6_sellers_20 : decode cX6_sellers 20 = .ok (.invokestatic 66, 3) := by decide +kernel
theorem dX6_sellers_23 : decode cX6_sellers 23 = .ok (.ifCond .eq 19, 3) := by decide +kernel
theorem dX6_sellers_26 : decode cX6_sellers 26 = .ok (.aload_n 0, 1) := by decide +kernel
theorem dX6_sellers_27 : decode cX6_sellers 27 = .ok (.getfield 9, 3) := by decide +kernel
theorem dX6_sellers_30 : decode cX6_sellers 30 = .ok (.iload_n 3, 1) := by decide +kernel
theorem dX6_sellers_31 : decode cX6_sellers 31 = .ok (.invokestatic 85, 3) := by decide +kernel
theorem dX6_sellers_34 : decode cX6_sellers 34 = .ok (.iload_n 1, 1) := by decide +kernel
theorem dX6_sellers_35 : decode cX6_sellers 35 = .ok (.if_icmp .ge 7, 3) := by decide +kernel
theorem dX6_sellers_38 : decode cX6_sellers 38 = .ok (.iconst 1, 1) := by decide +kernel
theorem dX6_sellers_39 : decode cX6_sellers 39 = .ok (.goto 4, 3) := by decide +kernel
theorem dX6_sellers_42 : decode cX6_sellers 42 = .ok (.iconst 0, 1) := by decide +kernel
theorem dX6_sellers_43 : decode cX6_sellers 43 = .ok (.iadd, 1) := by decide +kernel
theorem dX6_sellers_44 : decode cX6_sellers 44 = .ok (.istore_n 2, 1) := by decide +kernel
theorem dX6_sellers_45 : decode cX6_sellers 45 = .ok (.iinc 3 1, 3) := by decide +kernel
theorem dX6_sellers_48 : decode cX6_sellers 48 = .ok (.goto (-44), 3) := by decide +kernel
theorem dX6_sellers_51 : decode cX6_sellers 51 = .ok (.iload_n 2, 1) := by decide +kernel
theorem dX6_sellers_52 : decode cX6_sellers 52 = .ok (.ireturn, 1) := by decide +kernel
theorem dX6_prices_0 : decode cX6_prices 0 = .ok (.iload_n 1, 1) := by decide +kernel
theorem dX6_prices_1 : decode cX6_prices 1 = .ok (.iconst 0, 1) := by decide +kernel
theorem dX6_prices_2 : decode cX6_prices 2 = .ok (.bipush 31, 2) := by decide +kernel
theorem dX6_prices_4 : decode cX6_prices 4 = .ok (.invokestatic 49, 3) := by decide +kernel
theorem dX6_prices_7 : decode cX6_prices 7 = .ok (.ifCond .eq 12, 3) := by decide +kernel
theorem dX6_prices_10 : decode cX6_prices 10 = .ok (.iload_n 2, 1) := by decide +kernel
theorem dX6_prices_11 : decode cX6_prices 11 = .ok (.iconst 0, 1) := by decide +kernel
theorem dX6_prices_12 : decode cX6_prices 12 = .ok (.iconst 1, 1) := by decide +kernel
theorem dX6_prices_13 : decode cX6_prices 13 = .ok (.invokestatic 49, 3) := by decide +kernel
theorem dX6_prices_16 : decode cX6_prices 16 = .ok (.ifCond .ne 5, 3) := by decide +kernel
theorem dX6_prices_19 : decode cX6_prices 19 = .ok (.iconst (-1), 1) := by decide +kernel
theorem dX6_prices_20 : decode cX6_prices 20 = .ok (.ireturn, 1) := by decide +kernel
theorem dX6_prices_21 : decode cX6_prices 21 = .ok (.iload_n 2, 1) := by decide +kernel
theorem dX6_prices_22 : decode cX6_prices 22 = .ok (.ifCond .ne 11, 3) := by decide +kernel
theorem dX6_prices_25 : decode cX6_prices 25 = .ok (.aload_n 0, 1) := by decide +kernel
theorem dX6_prices_26 : decode cX6_prices 26 = .ok (.iload_n 1, 1) := by decide +kernel
theorem dX6_prices_27 : decode cX6_prices 27 = .ok (.invokevirtual 158, 3) := by decide +kernel
theorem dX6_prices_30 : decode cX6_prices 30 = .ok (.goto 8, 3) := by decide +kernel
theorem dX6_prices_33 : decode cX6_prices 33 = .ok (.aload_n 0, 1) := by decide +kernel
theorem dX6_prices_34 : decode cX6_prices 34 = .ok (.iload_n 1, 1) := by decide +kernel
theorem dX6_prices_35 : decode cX6_prices 35 = .ok (.invokevirtual 161, 3) := by decide +kernel
theorem dX6_prices_38 : decode cX6_prices 38 = .ok (.ireturn, 1) := by decide +kernel
theorem dX6_clears_0 : decode cX6_clears 0 = .ok (.iload_n 1, 1) := by decide +kernel
theorem dX6_clears_1 : decode cX6_clears 1 = .ok (.iconst 0, 1) := by decide +kernel
theorem dX6_clears_2 : decode cX6_clears 2 = .ok (.bipush 31, 2) := by decide +kernel
theorem dX6_clears_4 : decode cX6_clears 4 = .ok (.invokestatic 49, 3) := by decide +kernel
theorem dX6_clears_7 : decode cX6_clears 7 = .ok (.ifCond .ne 5, 3) := by decide +kernel
theorem dX6_clears_10 : decode cX6_clears 10 = .ok (.iconst (-1), 1) := by decide +kernel
theorem dX6_clears_11 : decode cX6_clears 11 = .ok (.ireturn, 1) := by decide +kernel
theorem dX6_clears_12 : decode cX6_clears 12 = .ok (.iconst 0, 1) := by decide +kernel
theorem dX6_clears_13 : decode cX6_clears 13 = .ok (.istore_n 2, 1) := by decide +kernel
theorem dX6_clears_14 : decode cX6_clears 14 = .ok (.iload_n 2, 1) := by decide +kernel
theorem dX6_clears_15 : decode cX6_clears 15 = .ok (.bipush 31, 2) := by decide +kernel
theorem dX6_clears_17 : decode cX6_clears 17 = .ok (.if_icmp .gt 38, 3) := by decide +kernel
theorem dX6_clears_20 : decode cX6_clears 20 = .ok (.aload_n 0, 1) := by decide +kernel
theorem dX6_clears_21 : decode cX6_clears 21 = .ok (.iload_n 2, 1) := by decide +kernel
theorem dX6_clears_22 : decode cX6_clears 22 = .ok (.invokevirtual 158, 3) := by decide +kernel
theorem dX6_clears_25 : decode cX6_clears 25 = .ok (.aload_n 0, 1) := by decide +kernel
theorem dX6_clears_26 : decode cX6_clears 26 = .ok (.getfield 9, 3) := by decide +kernel
theorem dX6_clears_29 : decode cX6_clears 29 = .ok (.iconst 1, 1) := by decide +kernel
theorem dX6_clears_30 : decode cX6_clears 30 = .ok (.iaload, 1) := by decide +kernel
theorem dX6_clears_31 : decode cX6_clears 31 = .ok (.if_icmp .gt 18, 3) := by decide +kernel
theorem dX6_clears_34 : decode cX6_clears 34 = .ok (.aload_n 0, 1) := by decide +kernel
theorem dX6_clears_35 : decode cX6_clears 35 = .ok (.iload_n 2, 1) := by decide +kernel
theorem dX6_clears_36 : decode cX6_clears 36 = .ok (.invokevirtual 158, 3) := by decide +kernel
theorem dX6_clears_39 : decode cX6_clears 39 = .ok (.aload_n 0, 1) := by decide +kernel
theorem dX6_clears_40 : decode cX6_clears 40 = .ok (.iload_n 1, 1) := by decide +kernel
theorem dX6_clears_41 : decode cX6_clears 41 = .ok (.invokevirtual 161, 3) := by decide +kernel
theorem dX6_clears_44 : decode cX6_clears 44 = .ok (.if_icmp .gt 5, 3) := by decide +kernel
theorem dX6_clears_47 : decode cX6_clears 47 = .ok (.iload_n 2, 1) := by decide +kernel
theorem dX6_clears_48 : decode cX6_clears 48 = .ok (.ireturn, 1) := by decide +kernel
theorem dX6_clears_49 : decode cX6_clears 49 = .ok (.iinc 2 1, 3) := by decide +kernel
theorem dX6_clears_52 : decode cX6_clears 52 = .ok (.goto (-38), 3) := by decide +kernel
theorem dX6_clears_55 : decode cX6_clears 55 = .ok (.bipush (-4), 2) := by decide +kernel
theorem dX6_clears_57 : decode cX6_clears 57 = .ok (.ireturn, 1) := by decide +kernel
theorem dX6_wrongPairs_0 : decode cX6_wrongPairs 0 = .ok (.aload_n 0, 1) := by decide +kernel
theorem dX6_wrongPairs_1 : decode cX6_wrongPairs 1 = .ok (.iload_n 1, 1) := by decide +kernel
theorem dX6_wrongPairs_2 : decode cX6_wrongPairs 2 = .ok (.iconst (-1), 1) := by decide +kernel
theorem dX6_wrongPairs_3 : decode cX6_wrongPairs 3 = .ok (.invokevirtual 128, 3) := by decide +kernel
theorem dX6_wrongPairs_6 : decode cX6_wrongPairs 6 = .ok (.istore_n 2, 1) := by decide +kernel
theorem dX6_wrongPairs_7 : decode cX6_wrongPairs 7 = .ok (.iload_n 2, 1) := by decide +kernel
theorem dX6_wrongPairs_8 : decode cX6_wrongPairs 8 = .ok (.ifCond .eq 5, 3) := by decide +kernel
theorem dX6_wrongPairs_11 : decode cX6_wrongPairs 11 = .ok (.iload_n 2, 1) := by decide +kernel
theorem dX6_wrongPairs_12 : decode cX6_wrongPairs 12 = .ok (.ireturn, 1) := by decide +kernel
theorem dX6_wrongPairs_13 : decode cX6_wrongPairs 13 = .ok (.aload_n 0, 1) := by decide +kernel
theorem dX6_wrongPairs_14 : decode cX6_wrongPairs 14 = .ok (.getfield 43, 3) := by decide +kernel
theorem dX6_wrongPairs_17 : decode cX6_wrongPairs 17 = .ok (.iload_n 1, 1) := by decide +kernel
theorem dX6_wrongPairs_18 : decode cX6_wrongPairs 18 = .ok (.iaload, 1) := by decide +kernel
theorem dX6_wrongPairs_19 : decode cX6_wrongPairs 19 = .ok (.istore_n 3, 1) := by decide +kernel
theorem dX6_wrongPairs_20 : decode cX6_wrongPairs 20 = .ok (.iload_n 3, 1) := by decide +kernel
theorem dX6_wrongPairs_21 : decode cX6_wrongPairs 21 = .ok (.iconst 2, 1) := by decide +kernel
theorem dX6_wrongPairs_22 : decode cX6_wrongPairs 22 = .ok (.irem, 1) := by decide +kernel
theorem dX6_wrongPairs_23 : decode cX6_wrongPairs 23 = .ok (.iconst 1, 1) := by decide +kernel
theorem dX6_wrongPairs_24 : decode cX6_wrongPairs 24 = .ok (.if_icmp .eq 9, 3) := by decide +kernel
theorem dX6_wrongPairs_27 : decode cX6_wrongPairs 27 = .ok (.iload_n 3, 1) := by decide +kernel
theorem dX6_wrongPairs_28 : decode cX6_wrongPairs 28 = .ok (.bipush 8, 2) := by decide +kernel
theorem dX6_wrongPairs_30 : decode cX6_wrongPairs 30 = .ok (.if_icmp .le 6, 3) := by decide +kernel
theorem dX6_wrongPairs_33 : decode cX6_wrongPairs 33 = .ok (.bipush (-13), 2) := by decide +kernel
theorem dX6_wrongPairs_35 : decode cX6_wrongPairs 35 = .ok (.ireturn, 1) := by decide +kernel
theorem dX6_wrongPairs_36 : decode cX6_wrongPairs 36 = .ok (.iconst 0, 1) := by decide +kernel
theorem dX6_wrongPairs_37 : decode cX6_wrongPairs 37 = .ok (.istore 4, 2) := by decide +kernel
theorem dX6_wrongPairs_39 : decode cX6_wrongPairs 39 = .ok (.iconst 0, 1) := by decide +kernel
theorem dX6_wrongPairs_40 : decode cX6_wrongPairs 40 = .ok (.istore 5, 2) := by decide +kernel
theorem dX6_wrongPairs_42 : decode cX6_wrongPairs 42 = .ok (.iload 5, 2) := by decide +kernel
theorem dX6_wrongPairs_44 : decode cX6_wrongPairs 44 = .ok (.iload_n 3, 1) := by decide +kernel
theorem dX6_wrongPairs_45 : decode cX6_wrongPairs 45 = .ok (.if_icmp .ge 55, 3) := by decide +kernel
theorem dX6_wrongPairs_48 : decode cX6_wrongPairs 48 = .ok (.aload_n 0, 1) := by decide +kernel
theorem dX6_wrongPairs_49 : decode cX6_wrongPairs 49 = .ok (.getfield 46, 3) := by decide +kernel
theorem dX6_wrongPairs_52 : decode cX6_wrongPairs 52 = .ok (.bipush 100, 2) := by decide +kernel
theorem dX6_wrongPairs_54 : decode cX6_wrongPairs 54 = .ok (.iload_n 1, 1) := by decide +kernel
theorem dX6_wrongPairs_55 : decode cX6_wrongPairs 55 = .ok (.imul, 1) := by decide +kernel
theorem dX6_wrongPairs_56 : decode cX6_wrongPairs 56 = .ok (.iload 5, 2) := by decide +kernel
theorem dX6_wrongPairs_58 : decode cX6_wrongPairs 58 = .ok (.iadd, 1) := by decide +kernel
theorem dX6_wrongPairs_59 : decode cX6_wrongPairs 59 = .ok (.iaload, 1) := by decide +kernel
theorem dX6_wrongPairs_60 : decode cX6_wrongPairs 60 = .ok (.istore 6, 2) := by decide +kernel
theorem dX6_wrongPairs_62 : decode cX6_wrongPairs 62 = .ok (.aload_n 0, 1) := by decide +kernel
theorem dX6_wrongPairs_63 : decode cX6_wrongPairs 63 = .ok (.iload 6, 2) := by decide +kernel
theorem dX6_wrongPairs_65 : decode cX6_wrongPairs 65 = .ok (.invokevirtual 121, 3) := by decide +kernel
theorem dX6_wrongPairs_68 : decode cX6_wrongPairs 68 = .ok (.ifCond .eq 14, 3) := by decide +kernel
theorem dX6_wrongPairs_71 : decode cX6_wrongPairs 71 = .ok (.iload 4, 2) := by decide +kernel
theorem dX6_wrongPairs_73 : decode cX6_wrongPairs 73 = .ok (.iload 6, 2) := by decide +kernel
theorem dX6_wrongPairs_75 : decode cX6_wrongPairs 75 = .ok (.ishr, 1) := by decide +kernel
theorem dX6_wrongPairs_76 : decode cX6_wrongPairs 76 = .ok (.iconst 1, 1) := by decide +kernel
theorem dX6_wrongPairs_77 : decode cX6_wrongPairs 77 = .ok (.iand, 1) := by decide +kernel
theorem dX6_wrongPairs_78 : decode cX6_wrongPairs 78 = .ok (.iconst 1, 1) := by decide +kernel
theorem dX6_wrongPairs_79 : decode cX6_wrongPairs 79 = .ok (.if_icmp .ne 6, 3) := by decide +kernel
theorem dX6_wrongPairs_82 : decode cX6_wrongPairs 82 = .ok (.bipush (-13), 2) := by decide +kernel
theorem dX6_wrongPairs_84 : decode cX6_wrongPairs 84 = .ok (.ireturn, 1) := by decide +kernel
theorem dX6_wrongPairs_85 : decode cX6_wrongPairs 85 = .ok (.iload 4, 2) := by decide +kernel
theorem dX6_wrongPairs_87 : decode cX6_wrongPairs 87 = .ok (.iconst 1, 1) := by decide +kernel
theorem dX6_wrongPairs_88 : decode cX6_wrongPairs 88 = .ok (.iload 6, 2) := by decide +kernel
theorem dX6_wrongPairs_90 : decode cX6_wrongPairs 90 = .ok (.ishl, 1) := by decide +kernel
theorem dX6_wrongPairs_91 : decode cX6_wrongPairs 91 = .ok (.ior, 1) := by decide +kernel
theorem dX6_wrongPairs_92 : decode cX6_wrongPairs 92 = .ok (.istore 4, 2) := by decide +kernel
theorem dX6_wrongPairs_94 : decode cX6_wrongPairs 94 = .ok (.iinc 5 1, 3) := by decide +kernel
theorem dX6_wrongPairs_97 : decode cX6_wrongPairs 97 = .ok (.goto (-55), 3) := by decide +kernel
theorem dX6_wrongPairs_100 : decode cX6_wrongPairs 100 = .ok (.iconst 0, 1) := by decide +kernel
theorem dX6_wrongPairs_101 : decode cX6_wrongPairs 101 = .ok (.istore 5, 2) := by decide +kernel
theorem dX6_wrongPairs_103 : decode cX6_wrongPairs 103 = .ok (.iload 5, 2) := by decide +kernel
theorem dX6_wrongPairs_105 : decode cX6_wrongPairs 105 = .ok (.iload_n 3, 1) := by decide +kernel
theorem dX6_wrongPairs_106 : decode cX6_wrongPairs 106 = .ok (.if_icmp .ge 48, 3) := by decide +kernel
theorem dX6_wrongPairs_109 : decode cX6_wrongPairs 109 = .ok (.aload_n 0, 1) := by decide +kernel
theorem dX6_wrongPairs_110 : decode cX6_wrongPairs 110 = .ok (.getfield 9, 3) := by decide +kernel
theorem dX6_wrongPairs_113 : decode cX6_wrongPairs 113 = .ok (.aload_n 0, 1) := by decide +kernel
theorem dX6_wrongPairs_114 : decode cX6_wrongPairs 114 = .ok (.getfield 46, 3) := by decide +kernel
theorem dX6_wrongPairs_117 : decode cX6_wrongPairs 117 = .ok (.bipush 100, 2) := by decide +kernel
theorem dX6_wrongPairs_119 : decode cX6_wrongPairs 119 = .ok (.iload_n 1, 1) := by decide +kernel
theorem dX6_wrongPairs_120 : decode cX6_wrongPairs 120 = .ok (.imul, 1) := by decide +kernel
theorem dX6_wrongPairs_121 : decode cX6_wrongPairs 121 = .ok (.iload 5, 2) := by decide +kernel
theorem dX6_wrongPairs_123 : decode cX6_wrongPairs 123 = .ok (.iadd, 1) := by decide +kernel
theorem dX6_wrongPairs_124 : decode cX6_wrongPairs 124 = .ok (.iaload, 1) := by decide +kernel
theorem dX6_wrongPairs_125 : decode cX6_wrongPairs 125 = .ok (.aload_n 0, 1) := by decide +kernel
theorem dX6_wrongPairs_126 : decode cX6_wrongPairs 126 = .ok (.getfield 46, 3) := by decide +kernel
theorem dX6_wrongPairs_129 : decode cX6_wrongPairs 129 = .ok (.bipush 100, 2) := by decide +kernel
theorem dX6_wrongPairs_131 : decode cX6_wrongPairs 131 = .ok (.iload_n 1, 1) := by decide +kernel
theorem dX6_wrongPairs_132 : decode cX6_wrongPairs 132 = .ok (.imul, 1) := by decide +kernel
theorem dX6_wrongPairs_133 : decode cX6_wrongPairs 133 = .ok (.iload 5, 2) := by decide +kernel
theorem dX6_wrongPairs_135 : decode cX6_wrongPairs 135 = .ok (.iadd, 1) := by decide +kernel
theorem dX6_wrongPairs_136 : decode cX6_wrongPairs 136 = .ok (.iconst 1, 1) := by decide +kernel
theorem dX6_wrongPairs_137 : decode cX6_wrongPairs 137 = .ok (.iadd, 1) := by decide +kernel
theorem dX6_wrongPairs_138 : decode cX6_wrongPairs 138 = .ok (.iaload, 1) := by decide +kernel
theorem dX6_wrongPairs_139 : decode cX6_wrongPairs 139 = .ok (.invokestatic 91, 3) := by decide +kernel
theorem dX6_wrongPairs_142 : decode cX6_wrongPairs 142 = .ok (.ifCond .ne 6, 3) := by decide +kernel
theorem dX6_wrongPairs_145 : decode cX6_wrongPairs 145 = .ok (.bipush (-13), 2) := by decide +kernel
theorem dX6_wrongPairs_147 : decode cX6_wrongPairs 147 = .ok (.ireturn, 1) := by decide +kernel
theorem dX6_wrongPairs_148 : decode cX6_wrongPairs 148 = .ok (.iinc 5 2, 3) := by decide +kernel
theorem dX6_wrongPairs_151 : decode cX6_wrongPairs 151 = .ok (.goto (-48), 3) := by decide +kernel
theorem dX6_wrongPairs_154 : decode cX6_wrongPairs 154 = .ok (.iconst 0, 1) := by decide +kernel
theorem dX6_wrongPairs_155 : decode cX6_wrongPairs 155 = .ok (.ireturn, 1) := by decide +kernel
theorem dX6_swap_0 : decode cX6_swap 0 = .ok (.aload_n 0, 1) := by decide +kernel
theorem dX6_swap_1 : decode cX6_swap 1 = .ok (.iload_n 1, 1) := by decide +kernel
theorem dX6_swap_2 : decode cX6_swap 2 = .ok (.invokevirtual 164, 3) := by decide +kernel
theorem dX6_swap_5 : decode cX6_swap 5 = .ok (.istore_n 2, 1) := by decide +kernel
theorem dX6_swap_6 : decode cX6_swap 6 = .ok (.iload_n 2, 1) := by decide +kernel
theorem dX6_swap_7 : decode cX6_swap 7 = .ok (.ifCond .eq 5, 3) := by decide +kernel
theorem dX6_swap_10 : decode cX6_swap 10 = .ok (.iload_n 2, 1) := by decide +kernel
theorem dX6_swap_11 : decode cX6_swap 11 = .ok (.ireturn, 1) := by decide +kernel
theorem dX6_swap_12 : decode cX6_swap 12 = .ok (.bipush (-4), 2) := by decide +kernel
theorem dX6_swap_14 : decode cX6_swap 14 = .ok (.istore_n 3, 1) := by decide +kernel
theorem dX6_swap_15 : decode cX6_swap 15 = .ok (.iconst 0, 1) := by decide +kernel
theorem dX6_swap_16 : decode cX6_swap 16 = .ok (.istore 4, 2) := by decide +kernel
theorem dX6_swap_18 : decode cX6_swap 18 = .ok (.aload_n 0, 1) := by decide +kernel
theorem dX6_swap_19 : decode cX6_swap 19 = .ok (.getfield 43, 3) := by decide +kernel
theorem dX6_swap_22 : decode cX6_swap 22 = .ok (.iload_n 1, 1) := by decide +kernel
theorem dX6_swap_23 : decode cX6_swap 23 = .ok (.iaload, 1) := by decide +kernel
theorem dX6_swap_24 : decode cX6_swap 24 = .ok (.iconst 2, 1) := by decide +kernel
theorem dX6_swap_25 : decode cX6_swap 25 = .ok (.idiv, 1) := by decide +kernel
theorem dX6_swap_26 : decode cX6_swap 26 = .ok (.istore 5, 2) := by decide +kernel
theorem dX6_swap_28 : decode cX6_swap 28 = .ok (.bipush 100, 2) := by decide +kernel
theorem dX6_swap_30 : decode cX6_swap 30 = .ok (.iload_n 1, 1) := by decide +kernel
theorem dX6_swap_31 : decode cX6_swap 31 = .ok (.imul, 1) := by decide +kernel
theorem dX6_swap_32 : decode cX6_swap 32 = .ok (.istore 6, 2) := by decide +kernel
theorem dX6_swap_34 : decode cX6_swap 34 = .ok (.iconst 0, 1) := by decide +kernel
theorem dX6_swap_35 : decode cX6_swap 35 = .ok (.istore 7, 2) := by decide +kernel
theorem dX6_swap_37 : decode cX6_swap 37 = .ok (.iload 7, 2) := by decide +kernel
theorem dX6_swap_39 : decode cX6_swap 39 = .ok (.iload 5, 2) := by decide +kernel
theorem dX6_swap_41 : decode cX6_swap 41 = .ok (.if_icmp .ge 160, 3) := by decide +kernel
theorem dX6_swap_44 : decode cX6_swap 44 = .ok (.iload 7, 2) := by decide +kernel
theorem dX6_swap_46 : decode cX6_swap 46 = .ok (.iconst 1, 1) := by decide +kernel
theorem dX6_swap_47 : decode cX6_swap 47 = .ok (.iadd, 1) := by decide +kernel
theorem dX6_swap_48 : decode cX6_swap 48 = .ok (.istore 8, 2) := by decide +kernel
theorem dX6_swap_50 : decode cX6_swap 50 = .ok (.iload 8, 2) := by decide +kernel
theorem dX6_swap_52 : decode cX6_swap 52 = .ok (.iload 5, 2) := by decide +kernel
theorem dX6_swap_54 : decode cX6_swap 54 = .ok (.if_icmp .ge 141, 3) := by decide +kernel
theorem dX6_swap_57 : decode cX6_swap 57 = .ok (.aload_n 0, 1) := by decide +kernel
theorem dX6_swap_58 : decode cX6_swap 58 = .ok (.getfield 46, 3) := by decide +kernel
theorem dX6_swap_61 : decode cX6_swap 61 = .ok (.iload 6, 2) := by decide +kernel
theorem dX6_swap_63 : decode cX6_swap 63 = .ok (.iconst 2, 1) := by decide +kernel
theorem dX6_swap_64 : decode cX6_swap 64 = .ok (.iload 7, 2) := by decide +kernel
theorem dX6_swap_66 : decode cX6_swap 66 = .ok (.imul, 1) := by decide +kernel
theorem dX6_swap_67 : decode cX6_swap 67 = .ok (.iadd, 1) := by decide +kernel
theorem dX6_swap_68 : decode cX6_swap 68 = .ok (.iaload, 1) := by decide +kernel
theorem dX6_swap_69 : decode cX6_swap 69 = .ok (.istore 9, 2) := by decide +kernel
theorem dX6_swap_71 : decode cX6_swap 71 = .ok (.aload_n 0, 1) := by decide +kernel
theorem dX6_swap_72 : decode cX6_swap 72 = .ok (.getfield 46, 3) := by decide +kernel
theorem dX6_swap_75 : decode cX6_swap 75 = .ok (.iload 6, 2) := by decide +kernel
theorem dX6_swap_77 : decode cX6_swap 77 = .ok (.iconst 2, 1) := by decide +kernel
theorem dX6_swap_78 : decode cX6_swap 78 = .ok (.iload 7, 2) := by decide +kernel
theorem dX6_swap_80 : decode cX6_swap 80 = .ok (.imul, 1) := by decide +kernel
theorem dX6_swap_81 : decode cX6_swap 81 = .ok (.iadd, 1) := by decide +kernel
theorem dX6_swap_82 : decode cX6_swap 82 = .ok (.iconst 1, 1) := by decide +kernel
theorem dX6_swap_83 : decode cX6_swap 83 = .ok (.iadd, 1) := by decide +kernel
theorem dX6_swap_84 : decode cX6_swap 84 = .ok (.iaload, 1) := by decide +kernel
theorem dX6_swap_85 : decode cX6_swap 85 = .ok (.istore 10, 2) := by decide +kernel
theorem dX6_swap_87 : decode cX6_swap 87 = .ok (.aload_n 0, 1) := by decide +kernel
theorem dX6_swap_88 : decode cX6_swap 88 = .ok (.getfield 46, 3) := by decide +kernel
theorem dX6_swap_91 : decode cX6_swap 91 = .ok (.iload 6, 2) := by decide +kernel
theorem dX6_swap_93 : decode cX6_swap 93 = .ok (.iconst 2, 1) := by decide +kernel
theorem dX6_swap_94 : decode cX6_swap 94 = .ok (.iload 8, 2) := by decide +kernel
theorem dX6_swap_96 : decode cX6_swap 96 = .ok (.imul, 1) := by decide +kernel
theorem dX6_swap_97 : decode cX6_swap 97 = .ok (.iadd, 1) := by decide +kernel
theorem dX6_swap_98 : decode cX6_swap 98 = .ok (.iaload, 1) := by decide +kernel
theorem dX6_swap_99 : decode cX6_swap 99 = .ok (.istore 11, 2) := by decide +kernel
theorem dX6_swap_101 : decode cX6_swap 101 = .ok (.aload_n 0, 1) := by decide +kernel
theorem dX6_swap_102 : decode cX6_swap 102 = .ok (.getfield 46, 3) := by decide +kernel
theorem dX6_swap_105 : decode cX6_swap 105 = .ok (.iload 6, 2) := by decide +kernel
theorem dX6_swap_107 : decode cX6_swap 107 = .ok (.iconst 2, 1) := by decide +kernel
theorem dX6_swap_108 : decode cX6_swap 108 = .ok (.iload 8, 2) := by decide +kernel
theorem dX6_swap_110 : decode cX6_swap 110 = .ok (.imul, 1) := by decide +kernel
theorem dX6_swap_111 : decode cX6_swap 111 = .ok (.iadd, 1) := by decide +kernel
theorem dX6_swap_112 : decode cX6_swap 112 = .ok (.iconst 1, 1) := by decide +kernel
theorem dX6_swap_113 : decode cX6_swap 113 = .ok (.iadd, 1) := by decide +kernel
theorem dX6_swap_114 : decode cX6_swap 114 = .ok (.iaload, 1) := by decide +kernel
theorem dX6_swap_115 : decode cX6_swap 115 = .ok (.istore 12, 2) := by decide +kernel
theorem dX6_swap_117 : decode cX6_swap 117 = .ok (.aload_n 0, 1) := by decide +kernel
theorem dX6_swap_118 : decode cX6_swap 118 = .ok (.getfield 9, 3) := by decide +kernel
theorem dX6_swap_121 : decode cX6_swap 121 = .ok (.iload 9, 2) := by decide +kernel
theorem dX6_swap_123 : decode cX6_swap 123 = .ok (.iload 12, 2) := by decide +kernel
theorem dX6_swap_125 : decode cX6_swap 125 = .ok (.invokestatic 88, 3) := by decide +kernel
theorem dX6_swap_128 : decode cX6_swap 128 = .ok (.aload_n 0, 1) := by decide +kernel
theorem dX6_swap_129 : decode cX6_swap 129 = .ok (.getfield 9, 3) := by decide +kernel
theorem dX6_swap_132 : decode cX6_swap 132 = .ok (.iload 11, 2) := by decide +kernel
theorem dX6_swap_134 : decode cX6_swap 134 = .ok (.iload 10, 2) := by decide +kernel
theorem dX6_swap_136 : decode cX6_swap 136 = .ok (.invokestatic 88, 3) := by decide +kernel
theorem dX6_swap_139 : decode cX6_swap 139 = .ok (.iadd, 1) := by decide +kernel
theorem dX6_swap_140 : decode cX6_swap 140 = .ok (.aload_n 0, 1) := by decide +kernel
theorem dX6_swap_141 : decode cX6_swap 141 = .ok (.getfield 9, 3) := by decide +kernel
theorem dX6_swap_144 : decode cX6_swap 144 = .ok (.iload 9, 2) := by decide +kernel
theorem dX6_swap_146 : decode cX6_swap 146 = .ok (.iload 10, 2) := by decide +kernel
theorem dX6_swap_148 : decode cX6_swap 148 = .ok (.invokestatic 88, 3) := by decide +kernel
theorem dX6_swap_151 : decode cX6_swap 151 = .ok (.isub, 1) := by decide +kernel
theorem dX6_swap_152 : decode cX6_swap 152 = .ok (.aload_n 0, 1) := by decide +kernel
theorem dX6_swap_153 : decode cX6_swap 153 = .ok (.getfield 9, 3) := by decide +kernel
theorem dX6_swap_156 : decode cX6_swap 156 = .ok (.iload 11, 2) := by decide +kernel
theorem dX6_swap_158 : decode cX6_swap 158 = .ok (.iload 12, 2) := by decide +kernel
theorem dX6_swap_160 : decode cX6_swap 160 = .ok (.invokestatic 88, 3) := by decide +kernel
theorem dX6_swap_163 : decode cX6_swap 163 = .ok (.isub, 1) := by decide +kernel
theorem dX6_swap_164 : decode cX6_swap 164 = .ok (.istore 13, 2) := by decide +kernel
theorem dX6_swap_166 : decode cX6_swap 166 = .ok (.iload 13, 2) := by decide +kernel
theorem dX6_swap_168 : decode cX6_swap 168 = .ok (.iload 4, 2) := by decide +kernel
theorem dX6_swap_170 : decode cX6_swap 170 = .ok (.if_icmp .gt 6, 3) := by decide +kernel
theorem dX6_swap_173 : decode cX6_swap 173 = .ok (.goto 16, 3) := by decide +kernel
theorem dX6_swap_176 : decode cX6_swap 176 = .ok (.bipush 10, 2) := by decide +kernel
theorem dX6_swap_178 : decode cX6_swap 178 = .ok (.iload 7, 2) := by decide +kernel
theorem dX6_swap_180 : decode cX6_swap 180 = .ok (.imul, 1) := by decide +kernel
theorem dX6_swap_181 : decode cX6_swap 181 = .ok (.iload 8, 2) := by decide +kernel
theorem dX6_swap_183 : decode cX6_swap 183 = .ok (.iadd, 1) := by decide +kernel
theorem dX6_swap_184 : decode cX6_swap 184 = .ok (.istore_n 3, 1) := by decide +kernel
theorem dX6_swap_185 : decode cX6_swap 185 = .ok (.iload 13, 2) := by decide +kernel
theorem dX6_swap_187 : decode cX6_swap 187 = .ok (.istore 4, 2) := by decide +kernel
theorem dX6_swap_189 : decode cX6_swap 189 = .ok (.iinc 8 1, 3) := by decide +kernel
theorem dX6_swap_192 : decode cX6_swap 192 = .ok (.goto (-142), 3) := by decide +kernel
theorem dX6_swap_195 : decode cX6_swap 195 = .ok (.iinc 7 1, 3) := by decide +kernel
theorem dX6_swap_198 : decode cX6_swap 198 = .ok (.goto (-161), 3) := by decide +kernel
theorem dX6_swap_201 : decode cX6_swap 201 = .ok (.iload_n 3, 1) := by decide +kernel
theorem dX6_swap_202 : decode cX6_swap 202 = .ok (.ireturn, 1) := by decide +kernel
theorem dX6_throat_0 : decode cX6_throat 0 = .ok (.iload_n 2, 1) := by decide +kernel
theorem dX6_throat_1 : decode cX6_throat 1 = .ok (.iconst 0, 1) := by decide +kernel
theorem dX6_throat_2 : decode cX6_throat 2 = .ok (.bipush 30, 2) := by decide +kernel
theorem dX6_throat_4 : decode cX6_throat 4 = .ok (.invokestatic 49, 3) := by decide +kernel
theorem dX6_throat_7 : decode cX6_throat 7 = .ok (.ifCond .eq 23, 3) := by decide +kernel
theorem dX6_throat_10 : decode cX6_throat 10 = .ok (.iload_n 3, 1) := by decide +kernel
theorem dX6_throat_11 : decode cX6_throat 11 = .ok (.iconst 0, 1) := by decide +kernel
theorem dX6_throat_12 : decode cX6_throat 12 = .ok (.bipush 9, 2) := by decide +kernel
theorem dX6_throat_14 : decode cX6_throat 14 = .ok (.invokestatic 49, 3) := by decide +kernel
theorem dX6_throat_17 : decode cX6_throat 17 = .ok (.ifCond .eq 13, 3) := by decide +kernel
theorem dX6_throat_20 : decode cX6_throat 20 = .ok (.iload 4, 2) := by decide +kernel
theorem dX6_throat_22 : decode cX6_throat 22 = .ok (.iconst 0, 1) := by decide +kernel
theorem dX6_throat_23 : decode cX6_throat 23 = .ok (.iconst 1, 1) := by decide +kernel
theorem dX6_throat_24 : decode cX6_throat 24 = .ok (.invokestatic 49, 3) := by decide +kernel
theorem dX6_throat_27 : decode cX6_throat 27 = .ok (.ifCond .ne 5, 3) := by decide +kernel
theorem dX6_throat_30 : decode cX6_throat 30 = .ok (.iconst (-1), 1) := by decide +kernel
theorem dX6_throat_31 : decode cX6_throat 31 = .ok (.ireturn, 1) := by decide +kernel
theorem dX6_throat_32 : decode cX6_throat 32 = .ok (.aload_n 0, 1) := by decide +kernel
theorem dX6_throat_33 : decode cX6_throat 33 = .ok (.iload_n 1, 1) := by decide +kernel
theorem dX6_throat_34 : decode cX6_throat 34 = .ok (.iconst (-1), 1) := by decide +kernel
theorem dX6_throat_35 : decode cX6_throat 35 = .ok (.invokevirtual 128, 3) := by decide +kernel
theorem dX6_throat_38 : decode cX6_throat 38 = .ok (.istore 5, 2) := by decide +kernel
theorem dX6_throat_40 : decode cX6_throat 40 = .ok (.iload 5, 2) := by decide +kernel
theorem dX6_throat_42 : decode cX6_throat 42 = .ok (.ifCond .eq 6, 3) := by decide +kernel
theorem dX6_throat_45 : decode cX6_throat 45 = .ok (.iload 5, 2) := by decide +kernel
theorem dX6_throat_47 : decode cX6_throat 47 = .ok (.ireturn, 1) := by decide +kernel
theorem dX6_throat_48 : decode cX6_throat 48 = .ok (.iconst 0, 1) := by decide +kernel
theorem dX6_throat_49 : decode cX6_throat 49 = .ok (.istore 6, 2) := by decide +kernel
theorem dX6_throat_51 : decode cX6_throat 51 = .ok (.iconst 0, 1) := by decide +kernel
theorem dX6_throat_52 : decode cX6_throat 52 = .ok (.istore 7, 2) := by decide +kernel
theorem dX6_throat_54 : decode cX6_throat 54 = .ok (.iload 7, 2) := by decide +kernel
theorem dX6_throat_56 : decode cX6_throat 56 = .ok (.bipush 8, 2) := by decide +kernel
theorem dX6_throat_58 : decode cX6_throat 58 = .ok (.if_icmp .ge 100, 3) := by decide +kernel
theorem dX6_throat_61 : decode cX6_throat 61 = .ok (.iload_n 2, 1) := by decide +kernel
theorem dX6_throat_62 : decode cX6_throat 62 = .ok (.istore 8, 2) := by decide +kernel
theorem dX6_throat_64 : decode cX6_throat 64 = .ok (.iconst 1, 1) := by decide +kernel
theorem dX6_throat_65 : decode cX6_throat 65 = .ok (.istore 9, 2) := by decide +kernel
theorem dX6_throat_67 : decode cX6_throat 67 = .ok (.iconst 0, 1) := by decide +kernel
theorem dX6_throat_68 : decode cX6_throat 68 = .ok (.istore 10, 2) := by decide +kernel
theorem dX6_throat_70 : decode cX6_throat 70 = .ok (.iload 10, 2) := by decide +kernel
theorem dX6_throat_72 : decode cX6_throat 72 = .ok (.aload_n 0, 1) := by decide +kernel
theorem dX6_throat_73 : decode cX6_throat 73 = .ok (.getfield 43, 3) := by decide +kernel
theorem dX6_throat_76 : decode cX6_throat 76 = .ok (.iload_n 1, 1) := by decide +kernel
theorem dX6_throat_77 : decode cX6_throat 77 = .ok (.iaload, 1) := by decide +kernel
theorem dX6_throat_78 : decode cX6_throat 78 = .ok (.if_icmp .ge 56, 3) := by decide +kernel
theorem dX6_throat_81 : decode cX6_throat 81 = .ok (.iload 8, 2) := by decide +kernel
theorem dX6_throat_83 : decode cX6_throat 83 = .ok (.iload 7, 2) := by decide +kernel
theorem dX6_throat_85 : decode cX6_throat 85 = .ok (.iload_n 3, 1) := by decide +kernel
theorem dX6_throat_86 : decode cX6_throat 86 = .ok (.invokestatic 57, 3) := by decide +kernel
theorem dX6_throat_89 : decode cX6_throat 89 = .ok (.invokestatic 60, 3) := by decide +kernel
theorem dX6_throat_92 : decode cX6_throat 92 = .ok (.istore 11, 2) := by decide +kernel
theorem dX6_throat_94 : decode cX6_throat 94 = .ok (.iload 9, 2) := by decide +kernel
theorem dX6_throat_96 : decode cX6_throat 96 = .ok (.aload_n 0, 1) := by decide +kernel
theorem dX6_throat_97 : decode cX6_throat 97 = .ok (.getfield 46, 3) := by decide +kernel
theorem dX6_throat_100 : decode cX6_throat 100 = .ok (.bipush 100, 2) := by decide +kernel
theorem dX6_throat_102 : decode cX6_throat 102 = .ok (.iload_n 1, 1) := by decide +kernel
theorem dX6_throat_103 : decode cX6_throat 103 = .ok (.imul, 1) := by decide +kernel
theorem dX6_throat_104 : decode cX6_throat 104 = .ok (.iload 10, 2) := by decide +kernel
theorem dX6_throat_106 : decode cX6_throat 106 = .ok (.iadd, 1) := by decide +kernel
theorem dX6_throat_107 : decode cX6_throat 107 = .ok (.iaload, 1) := by decide +kernel
theorem dX6_throat_108 : decode cX6_throat 108 = .ok (.iload 11, 2) := by decide +kernel
theorem dX6_throat_110 : decode cX6_throat 110 = .ok (.if_icmp .ne 7, 3) := by decide +kernel
theorem dX6_throat_113 : decode cX6_throat 113 = .ok (.iconst 1, 1) := by decide +kernel
theorem dX6_throat_114 : decode cX6_throat 114 = .ok (.goto 4, 3) := by decide +kernel
theorem dX6_throat_117 : decode cX6_throat 117 = .ok (.iconst 0, 1) := by decide +kernel
theorem dX6_throat_118 : decode cX6_throat 118 = .ok (.iand, 1) := by decide +kernel
theorem dX6_throat_119 : decode cX6_throat 119 = .ok (.istore 9, 2) := by decide +kernel
theorem dX6_throat_121 : decode cX6_throat 121 = .ok (.iload 8, 2) := by decide +kernel
theorem dX6_throat_123 : decode cX6_throat 123 = .ok (.iload 11, 2) := by decide +kernel
theorem dX6_throat_125 : decode cX6_throat 125 = .ok (.isub, 1) := by decide +kernel
theorem dX6_throat_126 : decode cX6_throat 126 = .ok (.istore 8, 2) := by decide +kernel
theorem dX6_throat_128 : decode cX6_throat 128 = .ok (.iinc 10 1, 3) := by decide +kernel
theorem dX6_throat_131 : decode cX6_throat 131 = .ok (.goto (-61), 3) := by decide +kernel
theorem dX6_throat_134 : decode cX6_throat 134 = .ok (.iload 6, 2) := by decide +kernel
theorem dX6_throat_136 : decode cX6_throat 136 = .ok (.iload 9, 2) := by decide +kernel
theorem dX6_throat_138 : decode cX6_throat 138 = .ok (.ifCond .eq 10, 3) := by decide +kernel
theorem dX6_throat_141 : decode cX6_throat 141 = .ok (.iconst 1, 1) := by decide +kernel
theorem dX6_throat_142 : decode cX6_throat 142 = .ok (.iload 7, 2) := by decide +kernel
theorem dX6_throat_144 : decode cX6_throat 144 = .ok (.ishl, 1) := by decide +kernel
theorem dX6_throat_145 : decode cX6_throat 145 = .ok (.goto 4, 3) := by decide +kernel
theorem dX6_throat_148 : decode cX6_throat 148 = .ok (.iconst 0, 1) := by decide +kernel
theorem dX6_throat_149 : decode cX6_throat 149 = .ok (.ior, 1) := by decide +kernel
theorem dX6_throat_150 : decode cX6_throat 150 = .ok (.istore 6, 2) := by decide +kernel
theorem dX6_throat_152 : decode cX6_throat 152 = .ok (.iinc 7 1, 3) := by decide +kernel
theorem dX6_throat_155 : decode cX6_throat 155 = .ok (.goto (-101), 3) := by decide +kernel
theorem dX6_throat_158 : decode cX6_throat 158 = .ok (.iload 4, 2) := by decide +kernel
theorem dX6_throat_160 : decode cX6_throat 160 = .ok (.ifCond .ne 8, 3) := by decide +kernel
theorem dX6_throat_163 : decode cX6_throat 163 = .ok (.iload 6, 2) := by decide +kernel
theorem dX6_throat_165 : decode cX6_throat 165 = .ok (.goto 8, 3) := by decide +kernel
theorem dX6_throat_168 : decode cX6_throat 168 = .ok (.iload 6, 2) := by decide +kernel
theorem dX6_throat_170 : decode cX6_throat 170 = .ok (.invokestatic 167, 3) := by decide +kernel
theorem dX6_throat_173 : decode cX6_throat 173 = .ok (.ireturn, 1) := by decide +kernel
theorem dX6_lastOnes_0 : decode cX6_lastOnes 0 = .ok (.iload_n 1, 1) := by decide +kernel
theorem dX6_lastOnes_1 : decode cX6_lastOnes 1 = .ok (.iconst 0, 1) := by decide +kernel
theorem dX6_lastOnes_2 : decode cX6_lastOnes 2 = .ok (.bipush 99, 2) := by decide +kernel
theorem dX6_lastOnes_4 : decode cX6_lastOnes 4 = .ok (.invokestatic 49, 3) := by decide +kernel
theorem dX6_lastOnes_7 : decode cX6_lastOnes 7 = .ok (.ifCond .eq 22, 3) := by decide +kernel
theorem dX6_lastOnes_10 : decode cX6_lastOnes 10 = .ok (.iload_n 2, 1) := by decide +kernel
theorem dX6_lastOnes_11 : decode cX6_lastOnes 11 = .ok (.iconst 1, 1) := by decide +kernel
theorem dX6_lastOnes_12 : decode cX6_lastOnes 12 = .ok (.bipush 9, 2) := by decide +kernel
theorem dX6_lastOnes_14 : decode cX6_lastOnes 14 = .ok (.invokestatic 49, 3) := by decide +kernel
theorem dX6_lastOnes_17 : decode cX6_lastOnes 17 = .ok (.ifCond .eq 12, 3) := by decide +kernel
theorem dX6_lastOnes_20 : decode cX6_lastOnes 20 = .ok (.iload_n 3, 1) := by decide +kernel
theorem dX6_lastOnes_21 : decode cX6_lastOnes 21 = .ok (.iconst 0, 1) := by decide +kernel
theorem dX6_lastOnes_22 : decode cX6_lastOnes 22 = .ok (.iconst 1, 1) := by decide +kernel
theorem dX6_lastOnes_23 : decode cX6_lastOnes 23 = .ok (.invokestatic 49, 3) := by decide +kernel
theorem dX6_lastOnes_26 : decode cX6_lastOnes 26 = .ok (.ifCond .ne 5, 3) := by decide +kernel
theorem dX6_lastOnes_29 : decode cX6_lastOnes 29 = .ok (.iconst (-1), 1) := by decide +kernel
theorem dX6_lastOnes_30 : decode cX6_lastOnes 30 = .ok (.ireturn, 1) := by decide +kernel
theorem dX6_lastOnes_31 : decode cX6_lastOnes 31 = .ok (.iload_n 1, 1) := by decide +kernel
theorem dX6_lastOnes_32 : decode cX6_lastOnes 32 = .ok (.iload_n 2, 1) := by decide +kernel
theorem dX6_lastOnes_33 : decode cX6_lastOnes 33 = .ok (.iconst 1, 1) := by decide +kernel
theorem dX6_lastOnes_34 : decode cX6_lastOnes 34 = .ok (.iadd, 1) := by decide +kernel
theorem dX6_lastOnes_35 : decode cX6_lastOnes 35 = .ok (.irem, 1) := by decide +kernel
theorem dX6_lastOnes_36 : decode cX6_lastOnes 36 = .ok (.istore 4, 2) := by decide +kernel
theorem dX6_lastOnes_38 : decode cX6_lastOnes 38 = .ok (.iload_n 3, 1) := by decide +kernel
theorem dX6_lastOnes_39 : decode cX6_lastOnes 39 = .ok (.iconst 1, 1) := by decide +kernel
theorem dX6_lastOnes_40 : decode cX6_lastOnes 40 = .ok (.if_icmp .ne 8, 3) := by decide +kernel
theorem dX6_lastOnes_43 : decode cX6_lastOnes 43 = .ok (.iload 4, 2) := by decide +kernel
theorem dX6_lastOnes_45 : decode cX6_lastOnes 45 = .ok (.goto 13, 3) := by decide +kernel
theorem dX6_lastOnes_48 : decode cX6_lastOnes 48 = .ok (.iload 4, 2) := by decide +kernel
theorem dX6_lastOnes_50 : decode cX6_lastOnes 50 = .ok (.ifCond .le 7, 3) := by decide +kernel
theorem dX6_lastOnes_53 : decode cX6_lastOnes 53 = .ok (.iconst 1, 1) := by decide +kernel
theorem dX6_lastOnes_54 : decode cX6_lastOnes 54 = .ok (.goto 4, 3) := by decide +kernel
theorem dX6_lastOnes_57 : decode cX6_lastOnes 57 = .ok (.iconst 0, 1) := by decide +kernel
theorem dX6_lastOnes_58 : decode cX6_lastOnes 58 = .ok (.ireturn, 1) := by decide +kernel
theorem dX6_hungerAll_0 : decode cX6_hungerAll 0 = .ok (.iconst 0, 1) := by decide +kernel
theorem dX6_hungerAll_1 : decode cX6_hungerAll 1 = .ok (.istore_n 1, 1) := by decide +kernel
theorem dX6_hungerAll_2 : decode cX6_hungerAll 2 = .ok (.iconst 0, 1) := by decide +kernel
theorem dX6_hungerAll_3 : decode cX6_hungerAll 3 = .ok (.istore_n 2, 1) := by decide +kernel
theorem dX6_hungerAll_4 : decode cX6_hungerAll 4 = .ok (.iload_n 2, 1) := by decide +kernel
theorem dX6_hungerAll_5 : decode cX6_hungerAll 5 = .ok (.aload_n 0, 1) := by decide +kernel
theorem dX6_hungerAll_6 : decode cX6_hungerAll 6 = .ok (.getfield 9, 3) := by decide +kernel
theorem dX6_hungerAll_9 : decode cX6_hungerAll 9 = .ok (.iconst 0, 1) := by decide +kernel
theorem dX6_hungerAll_10 : decode cX6_hungerAll 10 = .ok (.iaload, 1) := by decide +kernel
theorem dX6_hungerAll_11 : decode cX6_hungerAll 11 = .ok (.if_icmp .ge 22, 3) := by decide +kernel
theorem dX6_hungerAll_14 : decode cX6_hungerAll 14 = .ok (.iload_n 1, 1) := by decide +kernel
theorem dX6_hungerAll_15 : decode cX6_hungerAll 15 = .ok (.aload_n 0, 1) := by decide +kernel
theorem dX6_hungerAll_16 : decode cX6_hungerAll 16 = .ok (.getfield 9, 3) := by decide +kernel
theorem dX6_hungerAll_19 : decode cX6_hungerAll 19 = .ok (.iload_n 2, 1) := by decide +kernel
theorem dX6_hungerAll_20 : decode cX6_hungerAll 20 = .ok (.iconst 2, 1) := by decide +kernel
theorem dX6_hungerAll_21 : decode cX6_hungerAll 21 = .ok (.invokestatic 53, 3) := by decide +kernel
theorem dX6_hungerAll_24 : decode cX6_hungerAll 24 = .ok (.iaload, 1) := by decide +kernel
theorem dX6_hungerAll_25 : decode cX6_hungerAll 25 = .ok (.iadd, 1) := by decide +kernel
theorem dX6_hungerAll_26 : decode cX6_hungerAll 26 = .ok (.istore_n 1, 1) := by decide +kernel
theorem dX6_hungerAll_27 : decode cX6_hungerAll 27 = .ok (.iinc 2 1, 3) := by decide +kernel
theorem dX6_hungerAll_30 : decode cX6_hungerAll 30 = .ok (.goto (-26), 3) := by decide +kernel
theorem dX6_hungerAll_33 : decode cX6_hungerAll 33 = .ok (.iload_n 1, 1) := by decide +kernel
theorem dX6_hungerAll_34 : decode cX6_hungerAll 34 = .ok (.ireturn, 1) := by decide +kernel
theorem dX6_partOfSlices_0 : decode cX6_partOfSlices 0 = .ok (.aload_n 0, 1) := by decide +kernel
theorem dX6_partOfSlices_1 : decode cX6_partOfSlices 1 = .ok (.invokevirtual 170, 3) := by decide +kernel
theorem dX6_partOfSlices_4 : decode cX6_partOfSlices 4 = .ok (.ifCond .ne 7, 3) := by decide +kernel
theorem dX6_partOfSlices_7 : decode cX6_partOfSlices 7 = .ok (.iconst 0, 1) := by decide +kernel
theorem dX6_partOfSlices_8 : decode cX6_partOfSlices 8 = .ok (.goto 25, 3) := by decide +kernel
theorem dX6_partOfSlices_11 : decode cX6_partOfSlices 11 = .ok (.aload_n 0, 1) := by decide +kernel
theorem dX6_partOfSlices_12 : decode cX6_partOfSlices 12 = .ok (.getfield 9, 3) := by decide +kernel
theorem dX6_partOfSlices_15 : decode cX6_partOfSlices 15 = .ok (.iconst 1, 1) := by decide +kernel
theorem dX6_partOfSlices_16 : decode cX6_partOfSlices 16 = .ok (.iaload, 1) := by decide +kernel
theorem dX6_partOfSlices_17 : decode cX6_partOfSlices 17 = .ok (.aload_n 0, 1) := by decide +kernel
theorem dX6_partOfSlices_18 : decode cX6_partOfSlices 18 = .ok (.getfield 9, 3) := by decide +kernel
theorem dX6_partOfSlices_21 : decode cX6_partOfSlices 21 = .ok (.iload_n 1, 1) := by decide +kernel
theorem dX6_partOfSlices_22 : decode cX6_partOfSlices 22 = .ok (.iconst 2, 1) := by decide +kernel
theorem dX6_partOfSlices_23 : decode cX6_partOfSlices 23 = .ok (.invokestatic 53, 3) := by decide +kernel
theorem dX6_partOfSlices_26 : decode cX6_partOfSlices 26 = .ok (.iaload, 1) := by decide +kernel
theorem dX6_partOfSlices_27 : decode cX6_partOfSlices 27 = .ok (.imul, 1) := by decide +kernel
theorem dX6_partOfSlices_28 : decode cX6_partOfSlices 28 = .ok (.aload_n 0, 1) := by decide +kernel
theorem dX6_partOfSlices_29 : decode cX6_partOfSlices 29 = .ok (.invokevirtual 170, 3) := by decide +kernel
theorem dX6_partOfSlices_32 : decode cX6_partOfSlices 32 = .ok (.idiv, 1) := by decide +kernel
theorem dX6_partOfSlices_33 : decode cX6_partOfSlices 33 = .ok (.ireturn, 1) := by decide +kernel
theorem dX6_shares_0 : decode cX6_shares 0 = .ok (.iload_n 1, 1) := by decide +kernel
theorem dX6_shares_1 : decode cX6_shares 1 = .ok (.iconst (-1), 1) := by decide +kernel
theorem dX6_shares_2 : decode cX6_shares 2 = .ok (.if_icmp .eq 13, 3) := by decide +kernel
theorem dX6_shares_5 : decode cX6_shares 5 = .ok (.aload_n 0, 1) := by decide +kernel
theorem dX6_shares_6 : decode cX6_shares 6 = .ok (.iload_n 1, 1) := by decide +kernel
theorem dX6_shares_7 : decode cX6_shares 7 = .ok (.invokevirtual 121, 3) := by decide +kernel
theorem dX6_shares_10 : decode cX6_shares 10 = .ok (.ifCond .ne 5, 3) := by decide +kernel
theorem dX6_shares_13 : decode cX6_shares 13 = .ok (.iconst (-1), 1) := by decide +kernel
theorem dX6_shares_14 : decode cX6_shares 14 = .ok (.ireturn, 1) := by decide +kernel
theorem dX6_shares_15 : decode cX6_shares 15 = .ok (.iload_n 1, 1) := by decide +kernel
theorem dX6_shares_16 : decode cX6_shares 16 = .ok (.ifCond .lt 9, 3) := by decide +kernel
theorem dX6_shares_19 : decode cX6_shares 19 = .ok (.aload_n 0, 1) := by decide +kernel
theorem dX6_shares_20 : decode cX6_shares 20 = .ok (.iload_n 1, 1) := by decide +kernel
theorem dX6_shares_21 : decode cX6_shares 21 = .ok (.invokevirtual 173, 3) := by decide +kernel
theorem dX6_shares_24 : decode cX6_shares 24 = .ok (.ireturn, 1) := by decide +kernel
theorem dX6_shares_25 : decode cX6_shares 25 = .ok (.aload_n 0, 1) := by decide +kernel
theorem dX6_shares_26 : decode cX6_shares 26 = .ok (.getfield 9, 3) := by decide +kernel
theorem dX6_shares_29 : decode cX6_shares 29 = .ok (.iconst 1, 1) := by decide +kernel
theorem dX6_shares_30 : decode cX6_shares 30 = .ok (.iaload, 1) := by decide +kernel
theorem dX6_shares_31 : decode cX6_shares 31 = .ok (.istore_n 2, 1) := by decide +kernel
theorem dX6_shares_32 : decode cX6_shares 32 = .ok (.iconst 0, 1) := by decide +kernel
theorem dX6_shares_33 : decode cX6_shares 33 = .ok (.istore_n 3, 1) := by decide +kernel
theorem dX6_shares_34 : decode cX6_shares 34 = .ok (.iload_n 3, 1) := by decide +kernel
theorem dX6_shares_35 : decode cX6_shares 35 = .ok (.aload_n 0, 1) := by decide +kernel
theorem dX6_shares_36 : decode cX6_shares 36 = .ok (.getfield 9, 3) := by decide +kernel
theorem dX6_shares_39 : decode cX6_shares 39 = .ok (.iconst 0, 1) := by decide +kernel
theorem dX6_shares_40 : decode cX6_shares 40 = .ok (.iaload, 1) := by decide +kernel
theorem dX6_shares_41 : decode cX6_shares 41 = .ok (.if_icmp .ge 17, 3) := by decide +kernel
theorem dX6_shares_44 : decode cX6_shares 44 = .ok (.iload_n 2, 1) := by decide +kernel
theorem dX6_shares_45 : decode cX6_shares 45 = .ok (.aload_n 0, 1) := by decide +kernel
theorem dX6_shares_46 : decode cX6_shares 46 = .ok (.iload_n 3, 1) := by decide +kernel
theorem dX6_shares_47 : decode cX6_shares 47 = .ok (.invokevirtual 173, 3) := by decide +kernel
theorem dX6_shares_50 : decode cX6_shares 50 = .ok (.isub, 1) := by decide +kernel
theorem dX6_shares_51 : decode cX6_shares 51 = .ok (.istore_n 2, 1) := by decide +kernel
theorem dX6_shares_52 : decode cX6_shares 52 = .ok (.iinc 3 1, 3) := by decide +kernel
theorem dX6_shares_55 : decode cX6_shares 55 = .ok (.goto (-21), 3) := by decide +kernel
theorem dX6_shares_58 : decode cX6_shares 58 = .ok (.iload_n 2, 1) := by decide +kernel
theorem dX6_shares_59 : decode cX6_shares 59 = .ok (.ireturn, 1) := by decide +kernel
theorem dX6_gcd_0 : decode cX6_gcd 0 = .ok (.lload_n 0, 1) := by decide +kernel
theorem dX6_gcd_1 : decode cX6_gcd 1 = .ok (.lstore 4, 2) := by decide +kernel
theorem dX6_gcd_3 : decode cX6_gcd 3 = .ok (.lload_n 2, 1) := by decide +kernel
theorem dX6_gcd_4 : decode cX6_gcd 4 = .ok (.lstore 6, 2) := by decide +kernel
theorem dX6_gcd_6 : decode cX6_gcd 6 = .ok (.lload 6, 2) := by decide +kernel
theorem dX6_gcd_8 : decode cX6_gcd 8 = .ok (.lconst 0, 1) := by decide +kernel
theorem dX6_gcd_9 : decode cX6_gcd 9 = .ok (.lcmp, 1) := by decide +kernel
theorem dX6_gcd_10 : decode cX6_gcd 10 = .ok (.ifCond .eq 21, 3) := by decide +kernel
theorem dX6_gcd_13 : decode cX6_gcd 13 = .ok (.lload 4, 2) := by decide +kernel
theorem dX6_gcd_15 : decode cX6_gcd 15 = .ok (.lload 6, 2) := by decide +kernel
theorem dX6_gcd_17 : decode cX6_gcd 17 = .ok (.lrem, 1) := by decide +kernel
theorem dX6_gcd_18 : decode cX6_gcd 18 = .ok (.lstore 8, 2) := by decide +kernel
theorem dX6_gcd_20 : decode cX6_gcd 20 = .ok (.lload 6, 2) := by decide +kernel
theorem dX6_gcd_22 : decode cX6_gcd 22 = .ok (.lstore 4, 2) := by decide +kernel
theorem dX6_gcd_24 : decode cX6_gcd 24 = .ok (.lload 8, 2) := by decide +kernel
theorem dX6_gcd_26 : decode cX6_gcd 26 = .ok (.lstore 6, 2) := by decide +kernel
theorem dX6_gcd_28 : decode cX6_gcd 28 = .ok (.goto (-22), 3) := by decide +kernel
theorem dX6_gcd_31 : decode cX6_gcd 31 = .ok (.lload 4, 2) := by decide +kernel
theorem dX6_gcd_33 : decode cX6_gcd 33 = .ok (.lreturn, 1) := by decide +kernel
theorem dX6_partOf_0 : decode cX6_partOf 0 = .ok (.lload_n 0, 1) := by decide +kernel
theorem dX6_partOf_1 : decode cX6_partOf 1 = .ok (.lconst 0, 1) := by decide +kernel
theorem dX6_partOf_2 : decode cX6_partOf 2 = .ok (.lcmp, 1) := by decide +kernel
theorem dX6_partOf_3 : decode cX6_partOf 3 = .ok (.ifCond .ne 7, 3) := by decide +kernel
theorem dX6_partOf_6 : decode cX6_partOf 6 = .ok (.iload 4, 2) := by decide +kernel
theorem dX6_partOf_8 : decode cX6_partOf 8 = .ok (.i2l, 1) := by decide +kernel
theorem dX6_partOf_9 : decode cX6_partOf 9 = .ok (.lreturn, 1) := by decide +kernel
theorem dX6_partOf_10 : decode cX6_partOf 10 = .ok (.iload 4, 2) := by decide +kernel
theorem dX6_partOf_12 : decode cX6_partOf 12 = .ok (.ifCond .ne 7, 3) := by decide +kernel
theorem dX6_partOf_15 : decode cX6_partOf 15 = .ok (.lload_n 0, 1) := by decide +kernel
theorem dX6_partOf_16 : decode cX6_partOf 16 = .ok (.goto 4, 3) := by decide +kernel
theorem dX6_partOf_19 : decode cX6_partOf 19 = .ok (.lload_n 2, 1) := by decide +kernel
theorem dX6_partOf_20 : decode cX6_partOf 20 = .ok (.lload_n 0, 1) := by decide +kernel
theorem dX6_partOf_21 : decode cX6_partOf 21 = .ok (.lload_n 2, 1) := by decide +kernel
theorem dX6_partOf_22 : decode cX6_partOf 22 = .ok (.invokestatic 176, 3) := by decide +kernel
theorem dX6_partOf_25 : decode cX6_partOf 25 = .ok (.ldiv, 1) := by decide +kernel
theorem dX6_partOf_26 : decode cX6_partOf 26 = .ok (.lreturn, 1) := by decide +kernel
theorem dX6_crowd_0 : decode cX6_crowd 0 = .ok (.iload_n 1, 1) := by decide +kernel
theorem dX6_crowd_1 : decode cX6_crowd 1 = .ok (.iconst 0, 1) := by decide +kernel
theorem dX6_crowd_2 : decode cX6_crowd 2 = .ok (.bipush 8, 2) := by decide +kernel
theorem dX6_crowd_4 : decode cX6_crowd 4 = .ok (.invokestatic 49, 3) := by decide +kernel
theorem dX6_crowd_7 : decode cX6_crowd 7 = .ok (.ifCond .eq 32, 3) := by decide +kernel
theorem dX6_crowd_10 : decode cX6_crowd 10 = .ok (.iload_n 2, 1) := by decide +kernel
theorem dX6_crowd_11 : decode cX6_crowd 11 = .ok (.iconst 2, 1) := by decide +kernel
theorem dX6_crowd_12 : decode cX6_crowd 12 = .ok (.bipush 20, 2) := by decide +kernel
theorem dX6_crowd_14 : decode cX6_crowd 14 = .ok (.invokestatic 49, 3) := by decide +kernel
theorem dX6_crowd_17 : decode cX6_crowd 17 = .ok (.ifCond .eq 22, 3) := by decide +kernel
theorem dX6_crowd_20 : decode cX6_crowd 20 = .ok (.iload_n 3, 1) := by decide +kernel
theorem dX6_crowd_21 : decode cX6_crowd 21 = .ok (.iconst 0, 1) := by decide +kernel
theorem dX6_crowd_22 : decode cX6_crowd 22 = .ok (.iconst 4, 1) := by decide +kernel
theorem dX6_crowd_23 : decode cX6_crowd 23 = .ok (.invokestatic 49, 3) := by decide +kernel
theorem dX6_crowd_26 : decode cX6_crowd 26 = .ok (.ifCond .eq 13, 3) := by decide +kernel
theorem dX6_crowd_29 : decode cX6_crowd 29 = .ok (.iload 4, 2) := by decide +kernel
theorem dX6_crowd_31 : decode cX6_crowd 31 = .ok (.iconst 0, 1) := by decide +kernel
theorem dX6_crowd_32 : decode cX6_crowd 32 = .ok (.iconst 1, 1) := by decide +kernel
theorem dX6_crowd_33 : decode cX6_crowd 33 = .ok (.invokestatic 49, 3) := by decide +kernel
theorem dX6_crowd_36 : decode cX6_crowd 36 = .ok (.ifCond .ne 7, 3) := by decide +kernel
theorem dX6_crowd_39 : decode cX6_crowd 39 = .ok (.ldc2_w 180, 3) := by decide +kernel
theorem dX6_crowd_42 : decode cX6_crowd 42 = .ok (.lreturn, 1) := by decide +kernel
theorem dX6_crowd_43 : decode cX6_crowd 43 = .ok (.lconst 0, 1) := by decide +kernel
theorem dX6_crowd_44 : decode cX6_crowd 44 = .ok (.lstore 5, 2) := by decide +kernel
theorem dX6_crowd_46 : decode cX6_crowd 46 = .ok (.lconst 1, 1) := by decide +kernel
theorem dX6_crowd_47 : decode cX6_crowd 47 = .ok (.lstore 7, 2) := by decide +kernel
theorem dX6_crowd_49 : decode cX6_crowd 49 = .ok (.iconst 0, 1) := by decide +kernel
theorem dX6_crowd_50 : decode cX6_crowd 50 = .ok (.istore 9, 2) := by decide +kernel
theorem dX6_crowd_52 : decode cX6_crowd 52 = .ok (.iload 9, 2) := by decide +kernel
theorem dX6_crowd_54 : decode cX6_crowd 54 = .ok (.iload_n 1, 1) := by decide +kernel
theorem dX6_crowd_55 : decode cX6_crowd 55 = .ok (.if_icmp .ge 16, 3) := by decide +kernel
theorem dX6_crowd_58 : decode cX6_crowd 58 = .ok (.lload 7, 2) := by decide +kernel
theorem dX6_crowd_60 : decode cX6_crowd 60 = .ok (.iload_n 2, 1) := by decide +kernel
theorem dX6_crowd_61 : decode cX6_crowd 61 = .ok (.i2l, 1) := by decide +kernel
theorem dX6_crowd_62 : decode cX6_crowd 62 = .ok (.lmul, 1) := by decide +kernel
theorem dX6_crowd_63 : decode cX6_crowd 63 = .ok (.lstore 7, 2) := by decide +kernel
theorem dX6_crowd_65 : decode cX6_crowd 65 = .ok (.iinc 9 1, 3) := by decide +kernel
theorem dX6_crowd_68 : decode cX6_crowd 68 = .ok (.goto (-16), 3) := by decide +kernel
theorem dX6_crowd_71 : decode cX6_crowd 71 = .ok (.iconst 0, 1) := by decide +kernel
theorem dX6_crowd_72 : decode cX6_crowd 72 = .ok (.istore 9, 2) := by decide +kernel
theorem dX6_crowd_74 : decode cX6_crowd 74 = .ok (.iload 9, 2) := by decide +kernel
theorem dX6_crowd_76 : decode cX6_crowd 76 = .ok (.iconst 1, 1) := by decide +kernel
theorem dX6_crowd_77 : decode cX6_crowd 77 = .ok (.iload_n 1, 1) := by decide +kernel
theorem dX6_crowd_78 : decode cX6_crowd 78 = .ok (.ishl, 1) := by decide +kernel
theorem dX6_crowd_79 : decode cX6_crowd 79 = .ok (.if_icmp .ge 62, 3) := by decide +kernel
theorem dX6_crowd_82 : decode cX6_crowd 82 = .ok (.lconst 1, 1) := by decide +kernel
theorem dX6_crowd_83 : decode cX6_crowd 83 = .ok (.lstore 10, 2) := by decide +kernel
theorem dX6_crowd_85 : decode cX6_crowd 85 = .ok (.iload 9, 2) := by decide +kernel
theorem dX6_crowd_87 : decode cX6_crowd 87 = .ok (.invokestatic 167, 3) := by decide +kernel
theorem dX6_crowd_90 : decode cX6_crowd 90 = .ok (.istore 12, 2) := by decide +kernel
theorem dX6_crowd_92 : decode cX6_crowd 92 = .ok (.iload 12, 2) := by decide +kernel
theorem dX6_crowd_94 : decode cX6_crowd 94 = .ok (.iload_n 1, 1) := by decide +kernel
theorem dX6_crowd_95 : decode cX6_crowd 95 = .ok (.if_icmp .ge 18, 3) := by decide +kernel
theorem dX6_crowd_98 : decode cX6_crowd 98 = .ok (.lload 10, 2) := by decide +kernel
theorem dX6_crowd_100 : decode cX6_crowd 100 = .ok (.iload_n 2, 1) := by decide +kernel
theorem dX6_crowd_101 : decode cX6_crowd 101 = .ok (.iconst 1, 1) := by decide +kernel
theorem dX6_crowd_102 : decode cX6_crowd 102 = .ok (.isub, 1) := by decide +kernel
theorem dX6_crowd_103 : decode cX6_crowd 103 = .ok (.i2l, 1) := by decide +kernel
theorem dX6_crowd_104 : decode cX6_crowd 104 = .ok (.lmul, 1) := by decide +kernel
theorem dX6_crowd_105 : decode cX6_crowd 105 = .ok (.lstore 10, 2) := by decide +kernel
theorem dX6_crowd_107 : decode cX6_crowd 107 = .ok (.iinc 12 1, 3) := by decide +kernel
theorem dX6_crowd_110 : decode cX6_crowd 110 = .ok (.goto (-18), 3) := by decide +kernel
theorem dX6_crowd_113 : decode cX6_crowd 113 = .ok (.lload 5, 2) := by decide +kernel
theorem dX6_crowd_115 : decode cX6_crowd 115 = .ok (.iload 9, 2) := by decide +kernel
theorem dX6_crowd_117 : decode cX6_crowd 117 = .ok (.invokestatic 167, 3) := by decide +kernel
theorem dX6_crowd_120 : decode cX6_crowd 120 = .ok (.iconst 2, 1) := by decide +kernel
theorem dX6_crowd_121 : decode cX6_crowd 121 = .ok (.idiv, 1) := by decide +kernel
theorem dX6_crowd_122 : decode cX6_crowd 122 = .ok (.iload_n 3, 1) := by decide +kernel
theorem dX6_crowd_123 : decode cX6_crowd 123 = .ok (.if_icmp .lt 8, 3) := by decide +kernel
theorem dX6_crowd_126 : decode cX6_crowd 126 = .ok (.lload 10, 2) := by decide +kernel
theorem dX6_crowd_128 : decode cX6_crowd 128 = .ok (.goto 4, 3) := by decide +kernel
theorem dX6_crowd_131 : decode cX6_crowd 131 = .ok (.lconst 0, 1) := by decide +kernel
theorem dX6_crowd_132 : decode cX6_crowd 132 = .ok (.ladd, 1) := by decide +kernel
theorem dX6_crowd_133 : decode cX6_crowd 133 = .ok (.lstore 5, 2) := by decide +kernel
theorem dX6_crowd_135 : decode cX6_crowd 135 = .ok (.iinc 9 1, 3) := by decide +kernel
theorem dX6_crowd_138 : decode cX6_crowd 138 = .ok (.goto (-64), 3) := by decide +kernel
theorem dX6_crowd_141 : decode cX6_crowd 141 = .ok (.lload 5, 2) := by decide +kernel
theorem dX6_crowd_143 : decode cX6_crowd 143 = .ok (.lload 7, 2) := by decide +kernel
theorem dX6_crowd_145 : decode cX6_crowd 145 = .ok (.iload 4, 2) := by decide +kernel
theorem dX6_crowd_147 : decode cX6_crowd 147 = .ok (.invokestatic 182, 3) := by decide +kernel
theorem dX6_crowd_150 : decode cX6_crowd 150 = .ok (.lreturn, 1) := by decide +kernel
theorem dX6_mean_0 : decode cX6_mean 0 = .ok (.iload_n 1, 1) := by decide +kernel
theorem dX6_mean_1 : decode cX6_mean 1 = .ok (.iconst 0, 1) := by decide +kernel
theorem dX6_mean_2 : decode cX6_mean 2 = .ok (.iconst 1, 1) := by decide +kernel
theorem dX6_mean_3 : decode cX6_mean 3 = .ok (.invokestatic 49, 3) := by decide +kernel
theorem dX6_mean_6 : decode cX6_mean 6 = .ok (.ifCond .eq 22, 3) := by decide +kernel
theorem dX6_mean_9 : decode cX6_mean 9 = .ok (.aload_n 0, 1) := by decide +kernel
theorem dX6_mean_10 : decode cX6_mean 10 = .ok (.invokevirtual 170, 3) := by decide +kernel
theorem dX6_mean_13 : decode cX6_mean 13 = .ok (.i2l, 1) := by decide +kernel
theorem dX6_mean_14 : decode cX6_mean 14 = .ok (.aload_n 0, 1) := by decide +kernel
theorem dX6_mean_15 : decode cX6_mean 15 = .ok (.getfield 9, 3) := by decide +kernel
theorem dX6_mean_18 : decode cX6_mean 18 = .ok (.iconst 0, 1) := by decide +kernel
theorem dX6_mean_19 : decode cX6_mean 19 = .ok (.iaload, 1) := by decide +kernel
theorem dX6_mean_20 : decode cX6_mean 20 = .ok (.i2l, 1) := by decide +kernel
theorem dX6_mean_21 : decode cX6_mean 21 = .ok (.iload_n 1, 1) := by decide +kernel
theorem dX6_mean_22 : decode cX6_mean 22 = .ok (.invokestatic 182, 3) := by decide +kernel
theorem dX6_mean_25 : decode cX6_mean 25 = .ok (.goto 6, 3) := by decide +kernel
theorem dX6_mean_28 : decode cX6_mean 28 = .ok (.ldc2_w 180, 3) := by decide +kernel
theorem dX6_mean_31 : decode cX6_mean 31 = .ok (.lreturn, 1) := by decide +kernel
theorem dX6_joyless_0 : decode cX6_joyless 0 = .ok (.iconst 0, 1) := by decide +kernel
theorem dX6_joyless_1 : decode cX6_joyless 1 = .ok (.istore_n 1, 1) := by decide +kernel
theorem dX6_joyless_2 : decode cX6_joyless 2 = .ok (.iconst 0, 1) := by decide +kernel
theorem dX6_joyless_3 : decode cX6_joyless 3 = .ok (.istore_n 2, 1) := by decide +kernel
theorem dX6_joyless_4 : decode cX6_joyless 4 = .ok (.iload_n 2, 1) := by decide +kernel
theorem dX6_joyless_5 : decode cX6_joyless 5 = .ok (.aload_n 0, 1) := by decide +kernel
theorem dX6_joyless_6 : decode cX6_joyless 6 = .ok (.getfield 9, 3) := by decide +kernel
theorem dX6_joyless_9 : decode cX6_joyless 9 = .ok (.iconst 0, 1) := by decide +kernel
theorem dX6_joyless_10 : decode cX6_joyless 10 = .ok (.iaload, 1) := by decide +kernel
theorem dX6_joyless_11 : decode cX6_joyless 11 = .ok (.if_icmp .ge 59, 3) := by decide +kernel
theorem dX6_joyless_14 : decode cX6_joyless 14 = .ok (.iconst 0, 1) := by decide +kernel
theorem dX6_joyless_15 : decode cX6_joyless 15 = .ok (.istore_n 3, 1) := by decide +kernel
theorem dX6_joyless_16 : decode cX6_joyless 16 = .ok (.iload_n 3, 1) := by decide +kernel
theorem dX6_joyless_17 : decode cX6_joyless 17 = .ok (.aload_n 0, 1) := by decide +kernel
theorem dX6_joyless_18 : decode cX6_joyless 18 = .ok (.getfield 9, 3) := by decide +kernel
theorem dX6_joyless_21 : decode cX6_joyless 21 = .ok (.iconst 0, 1) := by decide +kernel
theorem dX6_joyless_22 : decode cX6_joyless 22 = .ok (.iaload, 1) := by decide +kernel
theorem dX6_joyless_23 : decode cX6_joyless 23 = .ok (.if_icmp .ge 41, 3) := by decide +kernel
theorem dX6_joyless_26 : decode cX6_joyless 26 = .ok (.iload_n 1, 1) := by decide +kernel
theorem dX6_joyless_27 : decode cX6_joyless 27 = .ok (.aload_n 0, 1) := by decide +kernel
theorem dX6_joyless_28 : decode cX6_joyless 28 = .ok (.getfield 9, 3) := by decide +kernel
theorem dX6_joyless_31 : decode cX6_joyless 31 = .ok (.iload_n 2, 1) := by decide +kernel
theorem dX6_joyless_32 : decode cX6_joyless 32 = .ok (.iload_n 3, 1) := by decide +kernel
theorem dX6_joyless_33 : decode cX6_joyless 33 = .ok (.invokestatic 91, 3) := by decide +kernel
theorem dX6_joyless_36 : decode cX6_joyless 36 = .ok (.ifCond .eq 19, 3) := by decide +kernel
theorem dX6_joyless_39 : decode cX6_joyless 39 = .ok (.aload_n 0, 1) := by decide +kernel
theorem dX6_joyless_40 : decode cX6_joyless 40 = .ok (.getfield 9, 3) := by decide +kernel
theorem dX6_joyless_43 : decode cX6_joyless 43 = .ok (.iload_n 2, 1) := by decide +kernel
theorem dX6_joyless_44 : decode cX6_joyless 44 = .ok (.iload_n 3, 1) := by decide +kernel
theorem dX6_joyless_45 : decode cX6_joyless 45 = .ok (.invokestatic 88, 3) := by decide +kernel
theorem dX6_joyless_48 : decode cX6_joyless 48 = .ok (.ifCond .ne 7, 3) := by decide +kernel
theorem dX6_joyless_51 : decode cX6_joyless 51 = .ok (.iconst 1, 1) := by decide +kernel
theorem dX6_joyless_52 : decode cX6_joyless 52 = .ok (.goto 4, 3) := by decide +kernel
theorem dX6_joyless_55 : decode cX6_joyless 55 = .ok (.iconst 0, 1) := by decide +kernel
theorem dX6_joyless_56 : decode cX6_joyless 56 = .ok (.iadd, 1) := by decide +kernel
theorem dX6_joyless_57 : decode cX6_joyless 57 = .ok (.istore_n 1, 1) := by decide +kernel
theorem dX6_joyless_58 : decode cX6_joyless 58 = .ok (.iinc 3 1, 3) := by decide +kernel
theorem dX6_joyless_61 : decode cX6_joyless 61 = .ok (.goto (-45), 3) := by decide +kernel
theorem dX6_joyless_64 : decode cX6_joyless 64 = .ok (.iinc 2 1, 3) := by decide +kernel
theorem dX6_joyless_67 : decode cX6_joyless 67 = .ok (.goto (-63), 3) := by decide +kernel
theorem dX6_joyless_70 : decode cX6_joyless 70 = .ok (.iload_n 1, 1) := by decide +kernel
theorem dX6_joyless_71 : decode cX6_joyless 71 = .ok (.ireturn, 1) := by decide +kernel
theorem dX6_seen_0 : decode cX6_seen 0 = .ok (.iload_n 1, 1) := by decide +kernel
theorem dX6_seen_1 : decode cX6_seen 1 = .ok (.iconst 0, 1) := by decide +kernel
theorem dX6_seen_2 : decode cX6_seen 2 = .ok (.iconst 1, 1) := by decide +kernel
theorem dX6_seen_3 : decode cX6_seen 3 = .ok (.aload_n 0, 1) := by decide +kernel
theorem dX6_seen_4 : decode cX6_seen 4 = .ok (.getfield 9, 3) := by decide +kernel
theorem dX6_seen_7 : decode cX6_seen 7 = .ok (.iconst 0, 1) := by decide +kernel
theorem dX6_seen_8 : decode cX6_seen 8 = .ok (.iaload, 1) := by decide +kernel
theorem dX6_seen_9 : decode cX6_seen 9 = .ok (.ishl, 1) := by decide +kernel
theorem dX6_seen_10 : decode cX6_seen 10 = .ok (.iconst 1, 1) := by decide +kernel
theorem dX6_seen_11 : decode cX6_seen 11 = .ok (.isub, 1) := by decide +kernel
theorem dX6_seen_12 : decode cX6_seen 12 = .ok (.invokestatic 49, 3) := by decide +kernel
theorem dX6_seen_15 : decode cX6_seen 15 = .ok (.ifCond .ne 5, 3) := by decide +kernel
theorem dX6_seen_18 : decode cX6_seen 18 = .ok (.iconst (-1), 1) := by decide +kernel
theorem dX6_seen_19 : decode cX6_seen 19 = .ok (.ireturn, 1) := by decide +kernel
theorem dX6_seen_20 : decode cX6_seen 20 = .ok (.iconst 0, 1) := by decide +kernel
theorem dX6_seen_21 : decode cX6_seen 21 = .ok (.istore_n 2, 1) := by decide +kernel
theorem dX6_seen_22 : decode cX6_seen 22 = .ok (.iconst 0, 1) := by decide +kernel
theorem dX6_seen_23 : decode cX6_seen 23 = .ok (.istore_n 3, 1) := by decide +kernel
theorem dX6_seen_24 : decode cX6_seen 24 = .ok (.iload_n 3, 1) := by decide +kernel
theorem dX6_seen_25 : decode cX6_seen 25 = .ok (.aload_n 0, 1) := by decide +kernel
theorem dX6_seen_26 : decode cX6_seen 26 = .ok (.getfield 9, 3) := by decide +kernel
theorem dX6_seen_29 : decode cX6_seen 29 = .ok (.iconst 0, 1) := by decide +kernel
theorem dX6_seen_30 : decode cX6_seen 30 = .ok (.iaload, 1) := by decide +kernel
theorem dX6_seen_31 : decode cX6_seen 31 = .ok (.if_icmp .ge 36, 3) := by decide +kernel
theorem dX6_seen_34 : decode cX6_seen 34 = .ok (.iload_n 2, 1) := by decide +kernel
theorem dX6_seen_35 : decode cX6_seen 35 = .ok (.iload_n 1, 1) := by decide +kernel
theorem dX6_seen_36 : decode cX6_seen 36 = .ok (.iload_n 3, 1) := by decide +kernel
theorem dX6_seen_37 : decode cX6_seen 37 = .ok (.ishr, 1) := by decide +kernel
theorem dX6_seen_38 : decode cX6_seen 38 = .ok (.iconst 1, 1) := by decide +kernel
theorem dX6_seen_39 : decode cX6_seen 39 = .ok (.iand, 1) := by decide +kernel
theorem dX6_seen_40 : decode cX6_seen 40 = .ok (.ifCond .ne 18, 3) := by decide +kernel
theorem dX6_seen_43 : decode cX6_seen 43 = .ok (.aload_n 0, 1) := by decide +kernel
theorem dX6_seen_44 : decode cX6_seen 44 = .ok (.getfield 9, 3) := by decide +kernel
theorem dX6_seen_47 : decode cX6_seen 47 = .ok (.iload_n 3, 1) := by decide +kernel
theorem dX6_seen_48 : decode cX6_seen 48 = .ok (.invokestatic 66, 3) := by decide +kernel
theorem dX6_seen_51 : decode cX6_seen 51 = .ok (.ifCond .eq 7, 3) := by decide +kernel
theorem dX6_seen_54 : decode cX6_seen 54 = .ok (.iconst 1, 1) := by decide +kernel
theorem dX6_seen_55 : decode cX6_seen 55 = .ok (.goto 4, 3) := by decide +kernel
theorem dX6_seen_58 : decode cX6_seen 58 = .ok (.iconst 0, 1) := by decide +kernel
theorem dX6_seen_59 : decode cX6_seen 59 = .ok (.iadd, 1) := by decide +kernel
theorem dX6_seen_60 : decode cX6_seen 60 = .ok (.istore_n 2, 1) := by decide +kernel
theorem dX6_seen_61 : decode cX6_seen 61 = .ok (.iinc 3 1, 3) := by decide +kernel
theorem dX6_seen_64 : decode cX6_seen 64 = .ok (.goto (-40), 3) := by decide +kernel
theorem dX6_seen_67 : decode cX6_seen 67 = .ok (.iconst 0, 1) := by decide +kernel
theorem dX6_seen_68 : decode cX6_seen 68 = .ok (.istore_n 3, 1) := by decide +kernel
theorem dX6_seen_69 : decode cX6_seen 69 = .ok (.iload_n 3, 1) := by decide +kernel
theorem dX6_seen_70 : decode cX6_seen 70 = .ok (.aload_n 0, 1) := by decide +kernel
theorem dX6_seen_71 : decode cX6_seen 71 = .ok (.getfield 9, 3) := by decide +kernel
theorem dX6_seen_74 : decode cX6_seen 74 = .ok (.iconst 0, 1) := by decide +kernel
theorem dX6_seen_75 : decode cX6_seen 75 = .ok (.iaload, 1) := by decide +kernel
theorem dX6_seen_76 : decode cX6_seen 76 = .ok (.if_icmp .ge 42, 3) := by decide +kernel
theorem dX6_seen_79 : decode cX6_seen 79 = .ok (.iload_n 1, 1) := by decide +kernel
theorem dX6_seen_80 : decode cX6_seen 80 = .ok (.iload_n 3, 1) := by decide +kernel
theorem dX6_seen_81 : decode cX6_seen 81 = .ok (.ishr, 1) := by decide +kernel
theorem dX6_seen_82 : decode cX6_seen 82 = .ok (.iconst 1, 1) := by decide +kernel
theorem dX6_seen_83 : decode cX6_seen 83 = .ok (.iand, 1) := by decide +kernel
theorem dX6_seen_84 : decode cX6_seen 84 = .ok (.iconst 1, 1) := by decide +kernel
theorem dX6_seen_85 : decode cX6_seen 85 = .ok (.if_icmp .ne 27, 3) := by decide +kernel
theorem dX6_seen_88 : decode cX6_seen 88 = .ok (.aload_n 0, 1) := by decide +kernel
theorem dX6_seen_89 : decode cX6_seen 89 = .ok (.getfield 9, 3) := by decide +kernel
theorem dX6_seen_92 : decode cX6_seen 92 = .ok (.iconst 1, 1) := by decide +kernel
theorem dX6_seen_93 : decode cX6_seen 93 = .ok (.iaload, 1) := by decide +kernel
theorem dX6_seen_94 : decode cX6_seen 94 = .ok (.ifCond .eq 16, 3) := by decide +kernel
theorem dX6_seen_97 : decode cX6_seen 97 = .ok (.aload_n 0, 1) := by decide +kernel
theorem dX6_seen_98 : decode cX6_seen 98 = .ok (.getfield 9, 3) := by decide +kernel
theorem dX6_seen_101 : decode cX6_seen 101 = .ok (.iload_n 3, 1) := by decide +kernel
theorem dX6_seen_102 : decode cX6_seen 102 = .ok (.iconst 2, 1) := by decide +kernel
theorem dX6_seen_103 : decode cX6_seen 103 = .ok (.invokestatic 53, 3) := by decide +kernel
theorem dX6_seen_106 : decode cX6_seen 106 = .ok (.iaload, 1) := by decide +kernel
theorem dX6_seen_107 : decode cX6_seen 107 = .ok (.ifCond .ne 5, 3) := by decide +kernel
theorem dX6_seen_110 : decode cX6_seen 110 = .ok (.iconst 0, 1) := by decide +kernel
theorem dX6_seen_111 : decode cX6_seen 111 = .ok (.istore_n 2, 1) := by decide +kernel
theorem dX6_seen_112 : decode cX6_seen 112 = .ok (.iinc 3 1, 3) := by decide +kernel
theorem dX6_seen_115 : decode cX6_seen 115 = .ok (.goto (-46), 3) := by decide +kernel
theorem dX6_seen_118 : decode cX6_seen 118 = .ok (.iload_n 2, 1) := by decide +kernel
theorem dX6_seen_119 : decode cX6_seen 119 = .ok (.ireturn, 1) := by decide +kernel
theorem dX6_forged_0 : decode cX6_forged 0 = .ok (.aload_n 0, 1) := by decide +kernel
theorem dX6_forged_1 : decode cX6_forged 1 = .ok (.iload_n 1, 1) := by decide +kernel
theorem dX6_forged_2 : decode cX6_forged 2 = .ok (.iconst (-1), 1) := by decide +kernel
theorem dX6_forged_3 : decode cX6_forged 3 = .ok (.invokevirtual 128, 3) := by decide +kernel
theorem dX6_forged_6 : decode cX6_forged 6 = .ok (.istore_n 2, 1) := by decide +kernel
theorem dX6_forged_7 : decode cX6_forged 7 = .ok (.iload_n 2, 1) := by decide +kernel
theorem dX6_forged_8 : decode cX6_forged 8 = .ok (.ifCond .ne 18, 3) := by decide +kernel
theorem dX6_forged_11 : decode cX6_forged 11 = .ok (.aload_n 0, 1) := by decide +kernel
theorem dX6_forged_12 : decode cX6_forged 12 = .ok (.getfield 43, 3) := by decide +kernel
theorem dX6_forged_15 : decode cX6_forged 15 = .ok (.iload_n 1, 1) := by decide +kernel
theorem dX6_forged_16 : decode cX6_forged 16 = .ok (.iaload, 1) := by decide +kernel
theorem dX6_forged_17 : decode cX6_forged 17 = .ok (.iconst 2, 1) := by decide +kernel
theorem dX6_forged_18 : decode cX6_forged 18 = .ok (.irem, 1) := by decide +kernel
theorem dX6_forged_19 : decode cX6_forged 19 = .ok (.iconst 1, 1) := by decide +kernel
theorem dX6_forged_20 : decode cX6_forged 20 = .ok (.if_icmp .ne 6, 3) := by decide +kernel
theorem dX6_forged_23 : decode cX6_forged 23 = .ok (.bipush (-13), 2) := by decide +kernel
theorem dX6_forged_25 : decode cX6_forged 25 = .ok (.istore_n 2, 1) := by decide +kernel
theorem dX6_forged_26 : decode cX6_forged 26 = .ok (.iload_n 2, 1) := by decide +kernel
theorem dX6_forged_27 : decode cX6_forged 27 = .ok (.ifCond .eq 5, 3) := by decide +kernel
theorem dX6_forged_30 : decode cX6_forged 30 = .ok (.iload_n 2, 1) := by decide +kernel
theorem dX6_forged_31 : decode cX6_forged 31 = .ok (.ireturn, 1) := by decide +kernel
theorem dX6_forged_32 : decode cX6_forged 32 = .ok (.aload_n 0, 1) := by decide +kernel
theorem dX6_forged_33 : decode cX6_forged 33 = .ok (.getfield 9, 3) := by decide +kernel
theorem dX6_forged_36 : decode cX6_forged 36 = .ok (.aload_n 0, 1) := by decide +kernel
theorem dX6_forged_37 : decode cX6_forged 37 = .ok (.getfield 13, 3) := by decide +kernel
theorem dX6_forged_40 : decode cX6_forged 40 = .ok (.invokestatic 135, 3) := by decide +kernel
theorem dX6_forged_43 : decode cX6_forged 43 = .ok (.iconst 0, 1) := by decide +kernel
theorem dX6_forged_44 : decode cX6_forged 44 = .ok (.istore_n 3, 1) := by decide +kernel
theorem dX6_forged_45 : decode cX6_forged 45 = .ok (.iload_n 3, 1) := by decide +kernel
theorem dX6_forged_46 : decode cX6_forged 46 = .ok (.aload_n 0, 1) := by decide +kernel
theorem dX6_forged_47 : decode cX6_forged 47 = .ok (.getfield 43, 3) := by decide +kernel
theorem dX6_forged_50 : decode cX6_forged 50 = .ok (.iload_n 1, 1) := by decide +kernel
theorem dX6_forged_51 : decode cX6_forged 51 = .ok (.iaload, 1) := by decide +kernel
theorem dX6_forged_52 : decode cX6_forged 52 = .ok (.if_icmp .ge 86, 3) := by decide +kernel
theorem dX6_forged_55 : decode cX6_forged 55 = .ok (.aload_n 0, 1) := by decide +kernel
theorem dX6_forged_56 : decode cX6_forged 56 = .ok (.getfield 46, 3) := by decide +kernel
theorem dX6_forged_59 : decode cX6_forged 59 = .ok (.bipush 100, 2) := by decide +kernel
theorem dX6_forged_61 : decode cX6_forged 61 = .ok (.iload_n 1, 1) := by decide +kernel
theorem dX6_forged_62 : decode cX6_forged 62 = .ok (.imul, 1) := by decide +kernel
theorem dX6_forged_63 : decode cX6_forged 63 = .ok (.iload_n 3, 1) := by decide +kernel
theorem dX6_forged_64 : decode cX6_forged 64 = .ok (.iadd, 1) := by decide +kernel
theorem dX6_forged_65 : decode cX6_forged 65 = .ok (.iaload, 1) := by decide +kernel
theorem dX6_forged_66 : decode cX6_forged 66 = .ok (.istore 4, 2) := by decide +kernel
theorem dX6_forged_68 : decode cX6_forged 68 = .ok (.aload_n 0, 1) := by decide +kernel
theorem dX6_forged_69 : decode cX6_forged 69 = .ok (.getfield 46, 3) := by decide +kernel
theorem dX6_forged_72 : decode cX6_forged 72 = .ok (.bipush 100, 2) := by decide +kernel
theorem dX6_forged_74 : decode cX6_forged 74 = .ok (.iload_n 1, 1) := by decide +kernel
theorem dX6_forged_75 : decode cX6_forged 75 = .ok (.imul, 1) := by decide +kernel
theorem dX6_forged_76 : decode cX6_forged 76 = .ok (.iload_n 3, 1) := by decide +kernel
theorem dX6_forged_77 : decode cX6_forged 77 = .ok (.iadd, 1) := by decide +kernel
theorem dX6_forged_78 : decode cX6_forged 78 = .ok (.iconst 1, 1) := by decide +kernel
theorem dX6_forged_79 : decode cX6_forged 79 = .ok (.iadd, 1) := by decide +kernel
theorem dX6_forged_80 : decode cX6_forged 80 = .ok (.iaload, 1) := by decide +kernel
theorem dX6_forged_81 : decode cX6_forged 81 = .ok (.istore 5, 2) := by decide +kernel
theorem dX6_forged_83 : decode cX6_forged 83 = .ok (.aload_n 0, 1) := by decide +kernel
theorem dX6_forged_84 : decode cX6_forged 84 = .ok (.iload 4, 2) := by decide +kernel
theorem dX6_forged_86 : decode cX6_forged 86 = .ok (.invokevirtual 121, 3) := by decide +kernel
theorem dX6_forged_89 : decode cX6_forged 89 = .ok (.ifCond .eq 26, 3) := by decide +kernel
theorem dX6_forged_92 : decode cX6_forged 92 = .ok (.aload_n 0, 1) := by decide +kernel
theorem dX6_forged_93 : decode cX6_forged 93 = .ok (.iload 5, 2) := by decide +kernel
theorem dX6_forged_95 : decode cX6_forged 95 = .ok (.invokevirtual 121, 3) := by decide +kernel
theorem dX6_forged_98 : decode cX6_forged 98 = .ok (.ifCond .eq 17, 3) := by decide +kernel
theorem dX6_forged_101 : decode cX6_forged 101 = .ok (.aload_n 0, 1) := by decide +kernel
theorem dX6_forged_102 : decode cX6_forged 102 = .ok (.getfield 13, 3) := by decide +kernel
theorem dX6_forged_105 : decode cX6_forged 105 = .ok (.iload 4, 2) := by decide +kernel
theorem dX6_forged_107 : decode cX6_forged 107 = .ok (.iload 5, 2) := by decide +kernel
theorem dX6_forged_109 : decode cX6_forged 109 = .ok (.invokestatic 91, 3) := by decide +kernel
theorem dX6_forged_112 : decode cX6_forged 112 = .ok (.ifCond .ne 7, 3) := by decide +kernel
theorem dX6_forged_115 : decode cX6_forged 115 = .ok (.iload_n 3, 1) := by decide +kernel
theorem dX6_forged_116 : decode cX6_forged 116 = .ok (.iconst 2, 1) := by decide +kernel
theorem dX6_forged_117 : decode cX6_forged 117 = .ok (.idiv, 1) := by decide +kernel
theorem dX6_forged_118 : decode cX6_forged 118 = .ok (.ireturn, 1) := by decide +kernel
theorem dX6_forged_119 : decode cX6_forged 119 = .ok (.aload_n 0, 1) := by decide +kernel
theorem dX6_forged_120 : decode cX6_forged 120 = .ok (.getfield 13, 3) := by decide +kernel
theorem dX6_forged_123 : decode cX6_forged 123 = .ok (.iload 4, 2) := by decide +kernel
theorem dX6_forged_125 : decode cX6_forged 125 = .ok (.iload 5, 2) := by decide +kernel
theorem dX6_forged_127 : decode cX6_forged 127 = .ok (.invokestatic 125, 3) := by decide +kernel
theorem dX6_forged_130 : decode cX6_forged 130 = .ok (.istore 6, 2) := by decide +kernel
theorem dX6_forged_132 : decode cX6_forged 132 = .ok (.iinc 3 2, 3) := by decide +kernel
theorem dX6_forged_135 : decode cX6_forged 135 = .ok (.goto (-90), 3) := by decide +kernel
theorem dX6_forged_138 : decode cX6_forged 138 = .ok (.bipush (-4), 2) := by decide +kernel
theorem dX6_forged_140 : decode cX6_forged 140 = .ok (.ireturn, 1) := by decide +kernel
theorem dX6_leastOf_0 : decode cX6_leastOf 0 = .ok (.iload_n 0, 1) := by decide +kernel
theorem dX6_leastOf_1 : decode cX6_leastOf 1 = .ok (.ifCond .ne 8, 3) := by decide +kernel
theorem dX6_leastOf_4 : decode cX6_leastOf 4 = .ok (.bipush (-128), 2) := by decide +kernel
theorem dX6_leastOf_6 : decode cX6_leastOf 6 = .ok (.goto 16, 3) := by decide +kernel
theorem dX6_leastOf_9 : decode cX6_leastOf 9 = .ok (.iload_n 0, 1) := by decide +kernel
theorem dX6_leastOf_10 : decode cX6_leastOf 10 = .ok (.iconst 1, 1) := by decide +kernel
theorem dX6_leastOf_11 : decode cX6_leastOf 11 = .ok (.if_icmp .ne 9, 3) := by decide +kernel
theorem dX6_leastOf_14 : decode cX6_leastOf 14 = .ok (.sipush (-32768), 3) := by decide +kernel
theorem dX6_leastOf_17 : decode cX6_leastOf 17 = .ok (.goto 5, 3) := by decide +kernel
theorem dX6_leastOf_20 : decode cX6_leastOf 20 = .ok (.ldc 186, 2) := by decide +kernel
theorem dX6_leastOf_22 : decode cX6_leastOf 22 = .ok (.ireturn, 1) := by decide +kernel
theorem dX6_judge_0 : decode cX6_judge 0 = .ok (.aload_n 0, 1) := by decide +kernel
theorem dX6_judge_1 : decode cX6_judge 1 = .ok (.iload_n 1, 1) := by decide +kernel
theorem dX6_judge_2 : decode cX6_judge 2 = .ok (.iconst (-1), 1) := by decide +kernel
theorem dX6_judge_3 : decode cX6_judge 3 = .ok (.invokevirtual 128, 3) := by decide +kernel
theorem dX6_judge_6 : decode cX6_judge 6 = .ok (.istore_n 2, 1) := by decide +kernel
theorem dX6_judge_7 : decode cX6_judge 7 = .ok (.iload_n 2, 1) := by decide +kernel
theorem dX6_judge_8 : decode cX6_judge 8 = .ok (.ifCond .eq 5, 3) := by decide +kernel
theorem dX6_judge_11 : decode cX6_judge 11 = .ok (.iload_n 2, 1) := by decide +kernel
theorem dX6_judge_12 : decode cX6_judge 12 = .ok (.ireturn, 1) := by decide +kernel
theorem dX6_judge_13 : decode cX6_judge 13 = .ok (.aload_n 0, 1) := by decide +kernel
theorem dX6_judge_14 : decode cX6_judge 14 = .ok (.getfield 9, 3) := by decide +kernel
theorem dX6_judge_17 : decode cX6_judge 17 = .ok (.aload_n 0, 1) := by decide +kernel
theorem dX6_judge_18 : decode cX6_judge 18 = .ok (.getfield 13, 3) := by decide +kernel
theorem dX6_judge_21 : decode cX6_judge 21 = .ok (.invokestatic 135, 3) := by decide +kernel
theorem dX6_judge_24 : decode cX6_judge 24 = .ok (.iconst 0, 1) := by decide +kernel
theorem dX6_judge_25 : decode cX6_judge 25 = .ok (.istore_n 3, 1) := by decide +kernel
theorem dX6_judge_26 : decode cX6_judge 26 = .ok (.iload_n 3, 1) := by decide +kernel
theorem dX6_judge_27 : decode cX6_judge 27 = .ok (.aload_n 0, 1) := by decide +kernel
theorem dX6_judge_28 : decode cX6_judge 28 = .ok (.getfield 43, 3) := by decide +kernel
theorem dX6_judge_31 : decode cX6_judge 31 = .ok (.iload_n 1, 1) := by decide +kernel
theorem dX6_judge_32 : decode cX6_judge 32 = .ok (.iaload, 1) := by decide +kernel
theorem dX6_judge_33 : decode cX6_judge 33 = .ok (.if_icmp .ge 87, 3) := by decide +kernel
theorem dX6_judge_36 : decode cX6_judge 36 = .ok (.aload_n 0, 1) := by decide +kernel
theorem dX6_judge_37 : decode cX6_judge 37 = .ok (.getfield 13, 3) := by decide +kernel
theorem dX6_judge_40 : decode cX6_judge 40 = .ok (.invokestatic 95, 3) := by decide +kernel
theorem dX6_judge_43 : decode cX6_judge 43 = .ok (.istore 4, 2) := by decide +kernel
theorem dX6_judge_45 : decode cX6_judge 45 = .ok (.aload_n 0, 1) := by decide +kernel
theorem dX6_judge_46 : decode cX6_judge 46 = .ok (.getfield 46, 3) := by decide +kernel
theorem dX6_judge_49 : decode cX6_judge 49 = .ok (.bipush 100, 2) := by decide +kernel
theorem dX6_judge_51 : decode cX6_judge 51 = .ok (.iload_n 1, 1) := by decide +kernel
theorem dX6_judge_52 : decode cX6_judge 52 = .ok (.imul, 1) := by decide +kernel
theorem dX6_judge_53 : decode cX6_judge 53 = .ok (.iload_n 3, 1) := by decide +kernel
theorem dX6_judge_54 : decode cX6_judge 54 = .ok (.iadd, 1) := by decide +kernel
theorem dX6_judge_55 : decode cX6_judge 55 = .ok (.iaload, 1) := by decide +kernel
theorem dX6_judge_56 : decode cX6_judge 56 = .ok (.istore 5, 2) := by decide +kernel
theorem dX6_judge_58 : decode cX6_judge 58 = .ok (.iload 4, 2) := by decide +kernel
theorem dX6_judge_60 : decode cX6_judge 60 = .ok (.ifCond .ge 7, 3) := by decide +kernel
theorem dX6_judge_63 : decode cX6_judge 63 = .ok (.iconst 0, 1) := by decide +kernel
theorem dX6_judge_64 : decode cX6_judge 64 = .ok (.goto 20, 3) := by decide +kernel
theorem dX6_judge_67 : decode cX6_judge 67 = .ok (.aload_n 0, 1) := by decide +kernel
theorem dX6_judge_68 : decode cX6_judge 68 = .ok (.getfield 13, 3) := by decide +kernel
theorem dX6_judge_71 : decode cX6_judge 71 = .ok (.iload 4, 2) := by decide +kernel
theorem dX6_judge_73 : decode cX6_judge 73 = .ok (.bipush 10, 2) := by decide +kernel
theorem dX6_judge_75 : decode cX6_judge 75 = .ok (.idiv, 1) := by decide +kernel
theorem dX6_judge_76 : decode cX6_judge 76 = .ok (.iload 4, 2) := by decide +kernel
theorem dX6_judge_78 : decode cX6_judge 78 = .ok (.bipush 10, 2) := by decide +kernel
theorem dX6_judge_80 : decode cX6_judge 80 = .ok (.irem, 1) := by decide +kernel
theorem dX6_judge_81 : decode cX6_judge 81 = .ok (.invokestatic 125, 3) := by decide +kernel
theorem dX6_judge_84 : decode cX6_judge 84 = .ok (.istore 6, 2) := by decide +kernel
theorem dX6_judge_86 : decode cX6_judge 86 = .ok (.iload 5, 2) := by decide +kernel
theorem dX6_judge_88 : decode cX6_judge 88 = .ok (.aload_n 0, 1) := by decide +kernel
theorem dX6_judge_89 : decode cX6_judge 89 = .ok (.getfield 40, 3) := by decide +kernel
theorem dX6_judge_92 : decode cX6_judge 92 = .ok (.iload_n 1, 1) := by decide +kernel
theorem dX6_judge_93 : decode cX6_judge 93 = .ok (.iaload, 1) := by decide +kernel
theorem dX6_judge_94 : decode cX6_judge 94 = .ok (.invokestatic 187, 3) := by decide +kernel
theorem dX6_judge_97 : decode cX6_judge 97 = .ok (.if_icmp .eq 17, 3) := by decide +kernel
theorem dX6_judge_100 : decode cX6_judge 100 = .ok (.iload 4, 2) := by decide +kernel
theorem dX6_judge_102 : decode cX6_judge 102 = .ok (.ifCond .lt 10, 3) := by decide +kernel
theorem dX6_judge_105 : decode cX6_judge 105 = .ok (.iload 5, 2) := by decide +kernel
theorem dX6_judge_107 : decode cX6_judge 107 = .ok (.iload 6, 2) := by decide +kernel
theorem dX6_judge_109 : decode cX6_judge 109 = .ok (.if_icmp .eq 5, 3) := by decide +kernel
theorem dX6_judge_112 : decode cX6_judge 112 = .ok (.iload_n 3, 1) := by decide +kernel
theorem dX6_judge_113 : decode cX6_judge 113 = .ok (.ireturn, 1) := by decide +kernel
theorem dX6_judge_114 : decode cX6_judge 114 = .ok (.iinc 3 1, 3) := by decide +kernel
theorem dX6_judge_117 : decode cX6_judge 117 = .ok (.goto (-91), 3) := by decide +kernel
theorem dX6_judge_120 : decode cX6_judge 120 = .ok (.bipush (-4), 2) := by decide +kernel
theorem dX6_judge_122 : decode cX6_judge 122 = .ok (.ireturn, 1) := by decide +kernel
theorem dX6_drawn_0 : decode cX6_drawn 0 = .ok (.aload_n 0, 1) := by decide +kernel
theorem dX6_drawn_1 : decode cX6_drawn 1 = .ok (.aload_n 0, 1) := by decide +kernel
theorem dX6_drawn_2 : decode cX6_drawn 2 = .ok (.getfield 190, 3) := by decide +kernel
theorem dX6_drawn_5 : decode cX6_drawn 5 = .ok (.ldc 193, 2) := by decide +kernel
theorem dX6_drawn_7 : decode cX6_drawn 7 = .ok (.imul, 1) := by decide +kernel
theorem dX6_drawn_8 : decode cX6_drawn 8 = .ok (.sipush 12345, 3) := by decide +kernel
theorem dX6_drawn_11 : decode cX6_drawn 11 = .ok (.iadd, 1) := by decide +kernel
theorem dX6_drawn_12 : decode cX6_drawn 12 = .ok (.putfield 190, 3) := by decide +kernel
theorem dX6_drawn_15 : decode cX6_drawn 15 = .ok (.aload_n 0, 1) := by decide +kernel
theorem dX6_drawn_16 : decode cX6_drawn 16 = .ok (.getfield 190, 3) := by decide +kernel
theorem dX6_drawn_19 : decode cX6_drawn 19 = .ok (.ldc 194, 2) := by decide +kernel
theorem dX6_drawn_21 : decode cX6_drawn 21 = .ok (.iand, 1) := by decide +kernel
theorem dX6_drawn_22 : decode cX6_drawn 22 = .ok (.ldc 195, 2) := by decide +kernel
theorem dX6_drawn_24 : decode cX6_drawn 24 = .ok (.idiv, 1) := by decide +kernel
theorem dX6_drawn_25 : decode cX6_drawn 25 = .ok (.iload_n 1, 1) := by decide +kernel
theorem dX6_drawn_26 : decode cX6_drawn 26 = .ok (.irem, 1) := by decide +kernel
theorem dX6_drawn_27 : decode cX6_drawn 27 = .ok (.ireturn, 1) := by decide +kernel
theorem dX6_fetes_0 : decode cX6_fetes 0 = .ok (.iload_n 1, 1) := by decide +kernel
theorem dX6_fetes_1 : decode cX6_fetes 1 = .ok (.iconst 1, 1) := by decide +kernel
theorem dX6_fetes_2 : decode cX6_fetes 2 = .ok (.bipush 20, 2) := by decide +kernel
theorem dX6_fetes_4 : decode cX6_fetes 4 = .ok (.invokestatic 49, 3) := by decide +kernel
theorem dX6_fetes_7 : decode cX6_fetes 7 = .ok (.ifCond .eq 12, 3) := by decide +kernel
theorem dX6_fetes_10 : decode cX6_fetes 10 = .ok (.iload_n 3, 1) := by decide +kernel
theorem dX6_fetes_11 : decode cX6_fetes 11 = .ok (.iconst 0, 1) := by decide +kernel
theorem dX6_fetes_12 : decode cX6_fetes 12 = .ok (.iconst 1, 1) := by decide +kernel
theorem dX6_fetes_13 : decode cX6_fetes 13 = .ok (.invokestatic 49, 3) := by decide +kernel
theorem dX6_fetes_16 : decode cX6_fetes 16 = .ok (.ifCond .ne 5, 3) := by decide +kernel
theorem dX6_fetes_19 : decode cX6_fetes 19 = .ok (.iconst (-1), 1) := by decide +kernel
theorem dX6_fetes_20 : decode cX6_fetes 20 = .ok (.ireturn, 1) := by decide +kernel
theorem dX6_fetes_21 : decode cX6_fetes 21 = .ok (.aload_n 0, 1) := by decide +kernel
theorem dX6_fetes_22 : decode cX6_fetes 22 = .ok (.getfield 9, 3) := by decide +kernel
theorem dX6_fetes_25 : decode cX6_fetes 25 = .ok (.iconst 0, 1) := by decide +kernel
theorem dX6_fetes_26 : decode cX6_fetes 26 = .ok (.iaload, 1) := by decide +kernel
theorem dX6_fetes_27 : decode cX6_fetes 27 = .ok (.ifCond .ne 6, 3) := by decide +kernel
theorem dX6_fetes_30 : decode cX6_fetes 30 = .ok (.bipush (-3), 2) := by decide +kernel
theorem dX6_fetes_32 : decode cX6_fetes 32 = .ok (.ireturn, 1) := by decide +kernel
theorem dX6_fetes_33 : decode cX6_fetes 33 = .ok (.aload_n 0, 1) := by decide +kernel
theorem dX6_fetes_34 : decode cX6_fetes 34 = .ok (.iload_n 2, 1) := by decide +kernel
theorem dX6_fetes_35 : decode cX6_fetes 35 = .ok (.putfield 190, 3) := by decide +kernel
theorem dX6_fetes_38 : decode cX6_fetes 38 = .ok (.iconst 0, 1) := by decide +kernel
theorem dX6_fetes_39 : decode cX6_fetes 39 = .ok (.istore 4, 2) := by decide +kernel
theorem dX6_fetes_41 : decode cX6_fetes 41 = .ok (.iconst 0, 1) := by decide +kernel
theorem dX6_fetes_42 : decode cX6_fetes 42 = .ok (.istore 5, 2) := by decide +kernel
theorem dX6_fetes_44 : decode cX6_fetes 44 = .ok (.iconst 0, 1) := by decide +kernel
theorem dX6_fetes_45 : decode cX6_fetes 45 = .ok (.istore 6, 2) := by decide +kernel
theorem dX6_fetes_47 : decode cX6_fetes 47 = .ok (.iload 6, 2) := by decide +kernel
theorem dX6_fetes_49 : decode cX6_fetes 49 = .ok (.iload_n 1, 1) := by decide +kernel
theorem dX6_fetes_50 : decode cX6_fetes 50 = .ok (.if_icmp .ge 96, 3) := by decide +kernel
theorem dX6_fetes_53 : decode cX6_fetes 53 = .ok (.aload_n 0, 1) := by decide +kernel
theorem dX6_fetes_54 : decode cX6_fetes 54 = .ok (.getfield 9, 3) := by decide +kernel
theorem dX6_fetes_57 : decode cX6_fetes 57 = .ok (.aload_n 0, 1) := by decide +kernel
theorem dX6_fetes_58 : decode cX6_fetes 58 = .ok (.getfield 13, 3) := by decide +kernel
theorem dX6_fetes_61 : decode cX6_fetes 61 = .ok (.invokestatic 135, 3) := by decide +kernel
theorem dX6_fetes_64 : decode cX6_fetes 64 = .ok (.iconst 0, 1) := by decide +kernel
theorem dX6_fetes_65 : decode cX6_fetes 65 = .ok (.istore 7, 2) := by decide +kernel
theorem dX6_fetes_67 : decode cX6_fetes 67 = .ok (.iload 7, 2) := by decide +kernel
theorem dX6_fetes_69 : decode cX6_fetes 69 = .ok (.bipush 10, 2) := by decide +kernel
theorem dX6_fetes_71 : decode cX6_fetes 71 = .ok (.if_icmp .ge 69, 3) := by decide +kernel
theorem dX6_fetes_74 : decode cX6_fetes 74 = .ok (.aload_n 0, 1) := by decide +kernel
theorem dX6_fetes_75 : decode cX6_fetes 75 = .ok (.aload_n 0, 1) := by decide +kernel
theorem dX6_fetes_76 : decode cX6_fetes 76 = .ok (.getfield 9, 3) := by decide +kernel
theorem dX6_fetes_79 : decode cX6_fetes 79 = .ok (.iconst 0, 1) := by decide +kernel
theorem dX6_fetes_80 : decode cX6_fetes 80 = .ok (.iaload, 1) := by decide +kernel
theorem dX6_fetes_81 : decode cX6_fetes 81 = .ok (.invokevirtual 196, 3) := by decide +kernel
theorem dX6_fetes_84 : decode cX6_fetes 84 = .ok (.istore 8, 2) := by decide +kernel
theorem dX6_fetes_86 : decode cX6_fetes 86 = .ok (.aload_n 0, 1) := by decide +kernel
theorem dX6_fetes_87 : decode cX6_fetes 87 = .ok (.aload_n 0, 1) := by decide +kernel
theorem dX6_fetes_88 : decode cX6_fetes 88 = .ok (.getfield 9, 3) := by decide +kernel
theorem dX6_fetes_91 : decode cX6_fetes 91 = .ok (.iconst 0, 1) := by decide +kernel
theorem dX6_fetes_92 : decode cX6_fetes 92 = .ok (.iaload, 1) := by decide +kernel
theorem dX6_fetes_93 : decode cX6_fetes 93 = .ok (.invokevirtual 196, 3) := by decide +kernel
theorem dX6_fetes_96 : decode cX6_fetes 96 = .ok (.istore 9, 2) := by decide +kernel
theorem dX6_fetes_98 : decode cX6_fetes 98 = .ok (.aload_n 0, 1) := by decide +kernel
theorem dX6_fetes_99 : decode cX6_fetes 99 = .ok (.getfield 13, 3) := by decide +kernel
theorem dX6_fetes_102 : decode cX6_fetes 102 = .ok (.iload 8, 2) := by decide +kernel
theorem dX6_fetes_104 : decode cX6_fetes 104 = .ok (.iload 9, 2) := by decide +kernel
theorem dX6_fetes_106 : decode cX6_fetes 106 = .ok (.invokestatic 91, 3) := by decide +kernel
theorem dX6_fetes_109 : decode cX6_fetes 109 = .ok (.ifCond .ne 6, 3) := by decide +kernel
theorem dX6_fetes_112 : decode cX6_fetes 112 = .ok (.goto 22, 3) := by decide +kernel
theorem dX6_fetes_115 : decode cX6_fetes 115 = .ok (.iload 4, 2) := by decide +kernel
theorem dX6_fetes_117 : decode cX6_fetes 117 = .ok (.aload_n 0, 1) := by decide +kernel
theorem dX6_fetes_118 : decode cX6_fetes 118 = .ok (.getfield 13, 3) := by decide +kernel
theorem dX6_fetes_121 : decode cX6_fetes 121 = .ok (.iload 8, 2) := by decide +kernel
theorem dX6_fetes_123 : decode cX6_fetes 123 = .ok (.iload 9, 2) := by decide +kernel
theorem dX6_fetes_125 : decode cX6_fetes 125 = .ok (.invokestatic 125, 3) := by decide +kernel
theorem dX6_fetes_128 : decode cX6_fetes 128 = .ok (.iadd, 1) := by decide +kernel
theorem dX6_fetes_129 : decode cX6_fetes 129 = .ok (.istore 4, 2) := by decide +kernel
theorem dX6_fetes_131 : decode cX6_fetes 131 = .ok (.iinc 5 1, 3) := by decide +kernel
theorem dX6_fetes_134 : decode cX6_fetes 134 = .ok (.iinc 7 1, 3) := by decide +kernel
theorem dX6_fetes_137 : decode cX6_fetes 137 = .ok (.goto (-70), 3) := by decide +kernel
theorem dX6_fetes_140 : decode cX6_fetes 140 = .ok (.iinc 6 1, 3) := by decide +kernel
theorem dX6_fetes_143 : decode cX6_fetes 143 = .ok (.goto (-96), 3) := by decide +kernel
theorem dX6_fetes_146 : decode cX6_fetes 146 = .ok (.iload_n 3, 1) := by decide +kernel
theorem dX6_fetes_147 : decode cX6_fetes 147 = .ok (.ifCond .ne 8, 3) := by decide +kernel
theorem dX6_fetes_150 : decode cX6_fetes 150 = .ok (.iload 4, 2) := by decide +kernel
theorem dX6_fetes_152 : decode cX6_fetes 152 = .ok (.goto 5, 3) := by decide +kernel
theorem dX6_fetes_155 : decode cX6_fetes 155 = .ok (.iload 5, 2) := by decide +kernel
theorem dX6_fetes_157 : decode cX6_fetes 157 = .ok (.ireturn, 1) := by decide +kernel
theorem dX6_image_0 : decode cX6_image 0 = .ok (.aload_n 0, 1) := by decide +kernel
theorem dX6_image_1 : decode cX6_image 1 = .ok (.getfield 9, 3) := by decide +kernel
theorem dX6_image_4 : decode cX6_image 4 = .ok (.aload_n 0, 1) := by decide +kernel
theorem dX6_image_5 : decode cX6_image 5 = .ok (.getfield 16, 3) := by decide +kernel
theorem dX6_image_8 : decode cX6_image 8 = .ok (.invokestatic 135, 3) := by decide +kernel
theorem dX6_image_11 : decode cX6_image 11 = .ok (.aload_n 0, 1) := by decide +kernel
theorem dX6_image_12 : decode cX6_image 12 = .ok (.iconst 1, 1) := by decide +kernel
theorem dX6_image_13 : decode cX6_image 13 = .ok (.putfield 199, 3) := by decide +kernel
theorem dX6_image_16 : decode cX6_image 16 = .ok (.aload_n 0, 1) := by decide +kernel
theorem dX6_image_17 : decode cX6_image 17 = .ok (.getfield 9, 3) := by decide +kernel
theorem dX6_image_20 : decode cX6_image 20 = .ok (.iconst 2, 1) := by decide +kernel
theorem dX6_image_21 : decode cX6_image 21 = .ok (.iaload, 1) := by decide +kernel
theorem dX6_image_22 : decode cX6_image 22 = .ok (.ireturn, 1) := by decide +kernel
theorem dX6_restore_0 : decode cX6_restore 0 = .ok (.aload_n 0, 1) := by decide +kernel
theorem dX6_restore_1 : decode cX6_restore 1 = .ok (.getfield 199, 3) := by decide +kernel
theorem dX6_restore_4 : decode cX6_restore 4 = .ok (.ifCond .ne 6, 3) := by decide +kernel
theorem dX6_restore_7 : decode cX6_restore 7 = .ok (.bipush (-3), 2) := by decide +kernel
theorem dX6_restore_9 : decode cX6_restore 9 = .ok (.ireturn, 1) := by decide +kernel
theorem dX6_restore_10 : decode cX6_restore 10 = .ok (.aload_n 0, 1) := by decide +kernel
theorem dX6_restore_11 : decode cX6_restore 11 = .ok (.getfield 16, 3) := by decide +kernel
theorem dX6_restore_14 : decode cX6_restore 14 = .ok (.aload_n 0, 1) := by decide +kernel
theorem dX6_restore_15 : decode cX6_restore 15 = .ok (.getfield 9, 3) := by decide +kernel
theorem dX6_restore_18 : decode cX6_restore 18 = .ok (.invokestatic 135, 3) := by decide +kernel
theorem dX6_restore_21 : decode cX6_restore 21 = .ok (.aload_n 0, 1) := by decide +kernel
theorem dX6_restore_22 : decode cX6_restore 22 = .ok (.getfield 9, 3) := by decide +kernel
theorem dX6_restore_25 : decode cX6_restore 25 = .ok (.iconst 2, 1) := by decide +kernel
theorem dX6_restore_26 : decode cX6_restore 26 = .ok (.iaload, 1) := by decide +kernel
theorem dX6_restore_27 : decode cX6_restore 27 = .ok (.ireturn, 1) := by decide +kernel
theorem dX6_count_0 : decode cX6_count 0 = .ok (.iload_n 1, 1) := by decide +kernel
theorem dX6_count_1 : decode cX6_count 1 = .ok (.iconst 0, 1) := by decide +kernel
theorem dX6_count_2 : decode cX6_count 2 = .ok (.iconst 2, 1) := by decide +kernel
theorem dX6_count_3 : decode cX6_count 3 = .ok (.invokestatic 49, 3) := by decide +kernel
theorem dX6_count_6 : decode cX6_count 6 = .ok (.ifCond .eq 10, 3) := by decide +kernel
theorem dX6_count_9 : decode cX6_count 9 = .ok (.aload_n 0, 1) := by decide +kernel
theorem dX6_count_10 : decode cX6_count 10 = .ok (.getfield 9, 3) := by decide +kernel
theorem dX6_count_13 : decode cX6_count 13 = .ok (.iload_n 1, 1) := by decide +kernel
theorem dX6_count_14 : decode cX6_count 14 = .ok (.iaload, 1) := by decide +kernel
theorem dX6_count_15 : decode cX6_count 15 = .ok (.ireturn, 1) := by decide +kernel
theorem dX6_count_16 : decode cX6_count 16 = .ok (.iload_n 1, 1) := by decide +kernel
theorem dX6_count_17 : decode cX6_count 17 = .ok (.iconst 3, 1) := by decide +kernel
theorem dX6_count_18 : decode cX6_count 18 = .ok (.bipush 6, 2) := by decide +kernel
theorem dX6_count_20 : decode cX6_count 20 = .ok (.invokestatic 49, 3) := by decide +kernel
theorem dX6_count_23 : decode cX6_count 23 = .ok (.ifCond .ne 5, 3) := by decide +kernel
theorem dX6_count_26 : decode cX6_count 26 = .ok (.iconst (-1), 1) := by decide +kernel
theorem dX6_count_27 : decode cX6_count 27 = .ok (.ireturn, 1) := by decide +kernel
theorem dX6_count_28 : decode cX6_count 28 = .ok (.iconst 0, 1) := by decide +kernel
theorem dX6_count_29 : decode cX6_count 29 = .ok (.istore_n 2, 1) := by decide +kernel
theorem dX6_count_30 : decode cX6_count 30 = .ok (.iconst 0, 1) := by decide +kernel
theorem dX6_count_31 : decode cX6_count 31 = .ok (.istore_n 3, 1) := by decide +kernel
theorem dX6_count_32 : decode cX6_count 32 = .ok (.iload_n 3, 1) := by decide +kernel
theorem dX6_count_33 : decode cX6_count 33 = .ok (.aload_n 0, 1) := by decide +kernel
theorem dX6_count_34 : decode cX6_count 34 = .ok (.getfield 9, 3) := by decide +kernel
theorem dX6_count_37 : decode cX6_count 37 = .ok (.iconst 0, 1) := by decide +kernel
theorem dX6_count_38 : decode cX6_count 38 = .ok (.iaload, 1) := by decide +kernel
theorem dX6_count_39 : decode cX6_count 39 = .ok (.if_icmp .ge 86, 3) := by decide +kernel
theorem dX6_count_42 : decode cX6_count 42 = .ok (.iload_n 2, 1) := by decide +kernel
theorem dX6_count_43 : decode cX6_count 43 = .ok (.iload_n 1, 1) := by decide +kernel
theorem dX6_count_44 : decode cX6_count 44 = .ok (.iconst 3, 1) := by decide +kernel
theorem dX6_count_45 : decode cX6_count 45 = .ok (.if_icmp .ne 16, 3) := by decide +kernel
theorem dX6_count_48 : decode cX6_count 48 = .ok (.aload_n 0, 1) := by decide +kernel
theorem dX6_count_49 : decode cX6_count 49 = .ok (.getfield 9, 3) := by decide +kernel
theorem dX6_count_52 : decode cX6_count 52 = .ok (.iload_n 3, 1) := by decide +kernel
theorem dX6_count_53 : decode cX6_count 53 = .ok (.iconst 2, 1) := by decide +kernel
theorem dX6_count_54 : decode cX6_count 54 = .ok (.invokestatic 53, 3) := by decide +kernel
theorem dX6_count_57 : decode cX6_count 57 = .ok (.iaload, 1) := by decide +kernel
theorem dX6_count_58 : decode cX6_count 58 = .ok (.goto 59, 3) := by decide +kernel
theorem dX6_count_61 : decode cX6_count 61 = .ok (.iload_n 1, 1) := by decide +kernel
theorem dX6_count_62 : decode cX6_count 62 = .ok (.iconst 4, 1) := by decide +kernel
theorem dX6_count_63 : decode cX6_count 63 = .ok (.if_icmp .ne 16, 3) := by decide +kernel
theorem dX6_count_66 : decode cX6_count 66 = .ok (.aload_n 0, 1) := by decide +kernel
theorem dX6_count_67 : decode cX6_count 67 = .ok (.getfield 9, 3) := by decide +kernel
theorem dX6_count_70 : decode cX6_count 70 = .ok (.iload_n 3, 1) := by decide +kernel
theorem dX6_count_71 : decode cX6_count 71 = .ok (.iconst 3, 1) := by decide +kernel
theorem dX6_count_72 : decode cX6_count 72 = .ok (.invokestatic 53, 3) := by decide +kernel
theorem dX6_count_75 : decode cX6_count 75 = .ok (.iaload, 1) := by decide +kernel
theorem dX6_count_76 : decode cX6_count 76 = .ok (.goto 41, 3) := by decide +kernel
theorem dX6_count_79 : decode cX6_count 79 = .ok (.iload_n 1, 1) := by decide +kernel
theorem dX6_count_80 : decode cX6_count 80 = .ok (.iconst 5, 1) := by decide +kernel
theorem dX6_count_81 : decode cX6_count 81 = .ok (.if_icmp .ne 16, 3) := by decide +kernel
theorem dX6_count_84 : decode cX6_count 84 = .ok (.aload_n 0, 1) := by decide +kernel
theorem dX6_count_85 : decode cX6_count 85 = .ok (.getfield 9, 3) := by decide +kernel
theorem dX6_count_88 : decode cX6_count 88 = .ok (.iload_n 3, 1) := by decide +kernel
theorem dX6_count_89 : decode cX6_count 89 = .ok (.iconst 4, 1) := by decide +kernel
theorem dX6_count_90 : decode cX6_count 90 = .ok (.invokestatic 53, 3) := by decide +kernel
theorem dX6_count_93 : decode cX6_count 93 = .ok (.iaload, 1) := by decide +kernel
theorem dX6_count_94 : decode cX6_count 94 = .ok (.goto 23, 3) := by decide +kernel
theorem dX6_count_97 : decode cX6_count 97 = .ok (.aload_n 0, 1) := by decide +kernel
theorem dX6_count_98 : decode cX6_count 98 = .ok (.getfield 9, 3) := by decide +kernel
theorem dX6_count_101 : decode cX6_count 101 = .ok (.iload_n 3, 1) := by decide +kernel
theorem dX6_count_102 : decode cX6_count 102 = .ok (.iconst 4, 1) := by decide +kernel
theorem dX6_count_103 : decode cX6_count 103 = .ok (.invokestatic 53, 3) := by decide +kernel
theorem dX6_count_106 : decode cX6_count 106 = .ok (.iaload, 1) := by decide +kernel
theorem dX6_count_107 : decode cX6_count 107 = .ok (.ifCond .ne 9, 3) := by decide +kernel
theorem dX6_count_110 : decode cX6_count 110 = .ok (.iconst 1, 1) := by decide +kernel
theorem dX6_count_111 : decode cX6_count 111 = .ok (.iload_n 3, 1) := by decide +kernel
theorem dX6_count_112 : decode cX6_count 112 = .ok (.ishl, 1) := by decide +kernel
theorem dX6_count_113 : decode cX6_count 113 = .ok (.goto 4, 3) := by decide +kernel
theorem dX6_count_116 : decode cX6_count 116 = .ok (.iconst 0, 1) := by decide +kernel
theorem dX6_count_117 : decode cX6_count 117 = .ok (.iadd, 1) := by decide +kernel
theorem dX6_count_118 : decode cX6_count 118 = .ok (.istore_n 2, 1) := by decide +kernel
theorem dX6_count_119 : decode cX6_count 119 = .ok (.iinc 3 1, 3) := by decide +kernel
theorem dX6_count_122 : decode cX6_count 122 = .ok (.goto (-90), 3) := by decide +kernel
theorem dX6_count_125 : decode cX6_count 125 = .ok (.iload_n 2, 1) := by decide +kernel
theorem dX6_count_126 : decode cX6_count 126 = .ok (.ireturn, 1) := by decide +kernel
theorem dX6_thrown_0 : decode cX6_thrown 0 = .ok (.aload_n 0, 1) := by decide +kernel
theorem dX6_thrown_1 : decode cX6_thrown 1 = .ok (.getfield 203, 3) := by decide +kernel
theorem dX6_thrown_4 : decode cX6_thrown 4 = .ok (.ireturn, 1) := by decide +kernel
theorem dX6_isShelf_0 : decode cX6_isShelf 0 = .ok (.iload_n 0, 1) := by decide +kernel
theorem dX6_isShelf_1 : decode cX6_isShelf 1 = .ok (.iconst 0, 1) := by decide +kernel
theorem dX6_isShelf_2 : decode cX6_isShelf 2 = .ok (.bipush 7, 2) := by decide +kernel
theorem dX6_isShelf_4 : decode cX6_isShelf 4 = .ok (.invokestatic 49, 3) := by decide +kernel
theorem dX6_isShelf_7 : decode cX6_isShelf 7 = .ok (.ireturn, 1) := by decide +kernel
theorem dX6_wrongRow_0 : decode cX6_wrongRow 0 = .ok (.iload_n 1, 1) := by decide +kernel
theorem dX6_wrongRow_1 : decode cX6_wrongRow 1 = .ok (.invokestatic 206, 3) := by decide +kernel
theorem dX6_wrongRow_4 : decode cX6_wrongRow 4 = .ok (.ifCond .ne 7, 3) := by decide +kernel
theorem dX6_wrongRow_7 : decode cX6_wrongRow 7 = .ok (.iconst (-1), 1) := by decide +kernel
theorem dX6_wrongRow_8 : decode cX6_wrongRow 8 = .ok (.goto 47, 3) := by decide +kernel
theorem dX6_wrongRow_11 : decode cX6_wrongRow 11 = .ok (.aload_n 0, 1) := by decide +kernel
theorem dX6_wrongRow_12 : decode cX6_wrongRow 12 = .ok (.getfield 31, 3) := by decide +kernel
theorem dX6_wrongRow_15 : decode cX6_wrongRow 15 = .ok (.iload_n 1, 1) := by decide +kernel
theorem dX6_wrongRow_16 : decode cX6_wrongRow 16 = .ok (.iaload, 1) := by decide +kernel
theorem dX6_wrongRow_17 : decode cX6_wrongRow 17 = .ok (.ifCond .ne 8, 3) := by decide +kernel
theorem dX6_wrongRow_20 : decode cX6_wrongRow 20 = .ok (.bipush (-11), 2) := by decide +kernel
theorem dX6_wrongRow_22 : decode cX6_wrongRow 22 = .ok (.goto 33, 3) := by decide +kernel
theorem dX6_wrongRow_25 : decode cX6_wrongRow 25 = .ok (.aload_n 0, 1) := by decide +kernel
theorem dX6_wrongRow_26 : decode cX6_wrongRow 26 = .ok (.getfield 31, 3) := by decide +kernel
theorem dX6_wrongRow_29 : decode cX6_wrongRow 29 = .ok (.iload_n 1, 1) := by decide +kernel
theorem dX6_wrongRow_30 : decode cX6_wrongRow 30 = .ok (.iaload, 1) := by decide +kernel
theorem dX6_wrongRow_31 : decode cX6_wrongRow 31 = .ok (.iconst 2, 1) := by decide +kernel
theorem dX6_wrongRow_32 : decode cX6_wrongRow 32 = .ok (.if_icmp .ne 17, 3) := by decide +kernel
theorem dX6_wrongRow_35 : decode cX6_wrongRow 35 = .ok (.iload_n 2, 1) := by decide +kernel
theorem dX6_wrongRow_36 : decode cX6_wrongRow 36 = .ok (.ifCond .lt 18, 3) := by decide +kernel
theorem dX6_wrongRow_39 : decode cX6_wrongRow 39 = .ok (.aload_n 0, 1) := by decide +kernel
theorem dX6_wrongRow_40 : decode cX6_wrongRow 40 = .ok (.getfield 40, 3) := by decide +kernel
theorem dX6_wrongRow_43 : decode cX6_wrongRow 43 = .ok (.iload_n 1, 1) := by decide +kernel
theorem dX6_wrongRow_44 : decode cX6_wrongRow 44 = .ok (.iaload, 1) := by decide +kernel
theorem dX6_wrongRow_45 : decode cX6_wrongRow 45 = .ok (.iload_n 2, 1) := by decide +kernel
theorem dX6_wrongRow_46 : decode cX6_wrongRow 46 = .ok (.if_icmp .eq 8, 3) := by decide +kernel
theorem dX6_wrongRow_49 : decode cX6_wrongRow 49 = .ok (.bipush (-12), 2) := by decide +kernel
theorem dX6_wrongRow_51 : decode cX6_wrongRow 51 = .ok (.goto 4, 3) := by decide +kernel
theorem dX6_wrongRow_54 : decode cX6_wrongRow 54 = .ok (.iconst 0, 1) := by decide +kernel
theorem dX6_wrongRow_55 : decode cX6_wrongRow 55 = .ok (.ireturn, 1) := by decide +kernel
theorem dX6_wrongKept_0 : decode cX6_wrongKept 0 = .ok (.iload_n 1, 1) := by decide +kernel
theorem dX6_wrongKept_1 : decode cX6_wrongKept 1 = .ok (.invokestatic 206, 3) := by decide +kernel
theorem dX6_wrongKept_4 : decode cX6_wrongKept 4 = .ok (.ifCond .ne 7, 3) := by decide +kernel
theorem dX6_wrongKept_7 : decode cX6_wrongKept 7 = .ok (.iconst (-1), 1) := by decide +kernel
theorem dX6_wrongKept_8 : decode cX6_wrongKept 8 = .ok (.goto 33, 3) := by decide +kernel
theorem dX6_wrongKept_11 : decode cX6_wrongKept 11 = .ok (.aload_n 0, 1) := by decide +kernel
theorem dX6_wrongKept_12 : decode cX6_wrongKept 12 = .ok (.getfield 31, 3) := by decide +kernel
theorem dX6_wrongKept_15 : decode cX6_wrongKept 15 = .ok (.iload_n 1, 1) := by decide +kernel
theorem dX6_wrongKept_16 : decode cX6_wrongKept 16 = .ok (.iaload, 1) := by decide +kernel
theorem dX6_wrongKept_17 : decode cX6_wrongKept 17 = .ok (.ifCond .ne 8, 3) := by decide +kernel
theorem dX6_wrongKept_20 : decode cX6_wrongKept 20 = .ok (.bipush (-11), 2) := by decide +kernel
theorem dX6_wrongKept_22 : decode cX6_wrongKept 22 = .ok (.goto 19, 3) := by decide +kernel
theorem dX6_wrongKept_25 : decode cX6_wrongKept 25 = .ok (.aload_n 0, 1) := by decide +kernel
theorem dX6_wrongKept_26 : decode cX6_wrongKept 26 = .ok (.getfield 31, 3) := by decide +kernel
theorem dX6_wrongKept_29 : decode cX6_wrongKept 29 = .ok (.iload_n 1, 1) := by decide +kernel
theorem dX6_wrongKept_30 : decode cX6_wrongKept 30 = .ok (.iaload, 1) := by decide +kernel
theorem dX6_wrongKept_31 : decode cX6_wrongKept 31 = .ok (.iconst 2, 1) := by decide +kernel
theorem dX6_wrongKept_32 : decode cX6_wrongKept 32 = .ok (.if_icmp .ne 8, 3) := by decide +kernel
theorem dX6_wrongKept_35 : decode cX6_wrongKept 35 = .ok (.bipush (-12), 2) := by decide +kernel
theorem dX6_wrongKept_37 : decode cX6_wrongKept 37 = .ok (.goto 4, 3) := by decide +kernel
theorem dX6_wrongKept_40 : decode cX6_wrongKept 40 = .ok (.iconst 0, 1) := by decide +kernel
theorem dX6_wrongKept_41 : decode cX6_wrongKept 41 = .ok (.ireturn, 1) := by decide +kernel
theorem dX6_keep_0 : decode cX6_keep 0 = .ok (.iload_n 1, 1) := by decide +kernel
theorem dX6_keep_1 : decode cX6_keep 1 = .ok (.invokestatic 206, 3) := by decide +kernel
theorem dX6_keep_4 : decode cX6_keep 4 = .ok (.ifCond .eq 38, 3) := by decide +kernel
theorem dX6_keep_7 : decode cX6_keep 7 = .ok (.iload_n 2, 1) := by decide +kernel
theorem dX6_keep_8 : decode cX6_keep 8 = .ok (.iconst 0, 1) := by decide +kernel
theorem dX6_keep_9 : decode cX6_keep 9 = .ok (.iconst 1, 1) := by decide +kernel
theorem dX6_keep_10 : decode cX6_keep 10 = .ok (.invokestatic 49, 3) := by decide +kernel
theorem dX6_keep_13 : decode cX6_keep 13 = .ok (.ifCond .eq 29, 3) := by decide +kernel
theorem dX6_keep_16 : decode cX6_keep 16 = .ok (.iload_n 2, 1) := by decide +kernel
theorem dX6_keep_17 : decode cX6_keep 17 = .ok (.iconst 1, 1) := by decide +kernel
theorem dX6_keep_18 : decode cX6_keep 18 = .ok (.if_icmp .ne 26, 3) := by decide +kernel
theorem dX6_keep_21 : decode cX6_keep 21 = .ok (.iload_n 3, 1) := by decide +kernel
theorem dX6_keep_22 : decode cX6_keep 22 = .ok (.iconst 0, 1) := by decide +kernel
theorem dX6_keep_23 : decode cX6_keep 23 = .ok (.bipush 7, 2) := by decide +kernel
theorem dX6_keep_25 : decode cX6_keep 25 = .ok (.invokestatic 49, 3) := by decide +kernel
theorem dX6_keep_28 : decode cX6_keep 28 = .ok (.ifCond .eq 14, 3) := by decide +kernel
theorem dX6_keep_31 : decode cX6_keep 31 = .ok (.iload 4, 2) := by decide +kernel
theorem dX6_keep_33 : decode cX6_keep 33 = .ok (.iconst 0, 1) := by decide +kernel
theorem dX6_keep_34 : decode cX6_keep 34 = .ok (.bipush 9, 2) := by decide +kernel
theorem dX6_keep_36 : decode cX6_keep 36 = .ok (.invokestatic 49, 3) := by decide +kernel
theorem dX6_keep_39 : decode cX6_keep 39 = .ok (.ifCond .ne 5, 3) := by decide +kernel
theorem dX6_keep_42 : decode cX6_keep 42 = .ok (.iconst (-1), 1) := by decide +kernel
theorem dX6_keep_43 : decode cX6_keep 43 = .ok (.ireturn, 1) := by decide +kernel
theorem dX6_keep_44 : decode cX6_keep 44 = .ok (.aload_n 0, 1) := by decide +kernel
theorem dX6_keep_45 : decode cX6_keep 45 = .ok (.getfield 31, 3) := by decide +kernel
theorem dX6_keep_48 : decode cX6_keep 48 = .ok (.iload_n 1, 1) := by decide +kernel
theorem dX6_keep_49 : decode cX6_keep 49 = .ok (.iload_n 2, 1) := by decide +kernel
theorem dX6_keep_50 : decode cX6_keep 50 = .ok (.iastore, 1) := by decide +kernel
theorem dX6_keep_51 : decode cX6_keep 51 = .ok (.aload_n 0, 1) := by decide +kernel
theorem dX6_keep_52 : decode cX6_keep 52 = .ok (.getfield 34, 3) := by decide +kernel
theorem dX6_keep_55 : decode cX6_keep 55 = .ok (.iload_n 1, 1) := by decide +kernel
theorem dX6_keep_56 : decode cX6_keep 56 = .ok (.iload_n 3, 1) := by decide +kernel
theorem dX6_keep_57 : decode cX6_keep 57 = .ok (.iastore, 1) := by decide +kernel
theorem dX6_keep_58 : decode cX6_keep 58 = .ok (.aload_n 0, 1) := by decide +kernel
theorem dX6_keep_59 : decode cX6_keep 59 = .ok (.getfield 37, 3) := by decide +kernel
theorem dX6_keep_62 : decode cX6_keep 62 = .ok (.iload_n 1, 1) := by decide +kernel
theorem dX6_keep_63 : decode cX6_keep 63 = .ok (.iload 4, 2) := by decide +kernel
theorem dX6_keep_65 : decode cX6_keep 65 = .ok (.iastore, 1) := by decide +kernel
theorem dX6_keep_66 : decode cX6_keep 66 = .ok (.iconst 0, 1) := by decide +kernel
theorem dX6_keep_67 : decode cX6_keep 67 = .ok (.ireturn, 1) := by decide +kernel
theorem dX6_row_0 : decode cX6_row 0 = .ok (.iload_n 1, 1) := by decide +kernel
theorem dX6_row_1 : decode cX6_row 1 = .ok (.invokestatic 206, 3) := by decide +kernel
theorem dX6_row_4 : decode cX6_row 4 = .ok (.ifCond .eq 18, 3) := by decide +kernel
theorem dX6_row_7 : decode cX6_row 7 = .ok (.iload_n 2, 1) := by decide +kernel
theorem dX6_row_8 : decode cX6_row 8 = .ok (.iconst 0, 1) := by decide +kernel
theorem dX6_row_9 : decode cX6_row 9 = .ok (.iconst 2, 1) := by decide +kernel
theorem dX6_row_10 : decode cX6_row 10 = .ok (.invokestatic 49, 3) := by decide +kernel
theorem dX6_row_13 : decode cX6_row 13 = .ok (.ifCond .eq 9, 3) := by decide +kernel
theorem dX6_row_16 : decode cX6_row 16 = .ok (.iload_n 3, 1) := by decide +kernel
theorem dX6_row_17 : decode cX6_row 17 = .ok (.bipush 100, 2) := by decide +kernel
theorem dX6_row_19 : decode cX6_row 19 = .ok (.if_icmp .le 5, 3) := by decide +kernel
theorem dX6_row_22 : decode cX6_row 22 = .ok (.iconst (-1), 1) := by decide +kernel
theorem dX6_row_23 : decode cX6_row 23 = .ok (.ireturn, 1) := by decide +kernel
theorem dX6_row_24 : decode cX6_row 24 = .ok (.iload_n 3, 1) := by decide +kernel
theorem dX6_row_25 : decode cX6_row 25 = .ok (.ifCond .ge 6, 3) := by decide +kernel
theorem dX6_row_28 : decode cX6_row 28 = .ok (.bipush (-14), 2) := by decide +kernel
theorem dX6_row_30 : decode cX6_row 30 = .ok (.ireturn, 1) := by decide +kernel
theorem dX6_row_31 : decode cX6_row 31 = .ok (.aload_n 0, 1) := by decide +kernel
theorem dX6_row_32 : decode cX6_row 32 = .ok (.getfield 31, 3) := by decide +kernel
theorem dX6_row_35 : decode cX6_row 35 = .ok (.iload_n 1, 1) := by decide +kernel
theorem dX6_row_36 : decode cX6_row 36 = .ok (.iconst 2, 1) := by decide +kernel
theorem dX6_row_37 : decode cX6_row 37 = .ok (.iastore, 1) := by decide +kernel
theorem dX6_row_38 : decode cX6_row 38 = .ok (.aload_n 0, 1) := by decide +kernel
theorem dX6_row_39 : decode cX6_row 39 = .ok (.getfield 40, 3) := by decide +kernel
theorem dX6_row_42 : decode cX6_row 42 = .ok (.iload_n 1, 1) := by decide +kernel
theorem dX6_row_43 : decode cX6_row 43 = .ok (.iload_n 2, 1) := by decide +kernel
theorem dX6_row_44 : decode cX6_row 44 = .ok (.iastore, 1) := by decide +kernel
theorem dX6_row_45 : decode cX6_row 45 = .ok (.aload_n 0, 1) := by decide +kernel
theorem dX6_row_46 : decode cX6_row 46 = .ok (.getfield 43, 3) := by decide +kernel
theorem dX6_row_49 : decode cX6_row 49 = .ok (.iload_n 1, 1) := by decide +kernel
theorem dX6_row_50 : decode cX6_row 50 = .ok (.iload_n 3, 1) := by decide +kernel
theorem dX6_row_51 : decode cX6_row 51 = .ok (.iastore, 1) := by decide +kernel
theorem dX6_row_52 : decode cX6_row 52 = .ok (.iconst 0, 1) := by decide +kernel
theorem dX6_row_53 : decode cX6_row 53 = .ok (.istore 4, 2) := by decide +kernel
theorem dX6_row_55 : decode cX6_row 55 = .ok (.iload 4, 2) := by decide +kernel
theorem dX6_row_57 : decode cX6_row 57 = .ok (.bipush 100, 2) := by decide +kernel
theorem dX6_row_59 : decode cX6_row 59 = .ok (.if_icmp .ge 22, 3) := by decide +kernel
theorem dX6_row_62 : decode cX6_row 62 = .ok (.aload_n 0, 1) := by decide +kernel
theorem dX6_row_63 : decode cX6_row 63 = .ok (.getfield 46, 3) := by decide +kernel
theorem dX6_row_66 : decode cX6_row 66 = .ok (.bipush 100, 2) := by decide +kernel
theorem dX6_row_68 : decode cX6_row 68 = .ok (.iload_n 1, 1) := by decide +kernel
theorem dX6_row_69 : decode cX6_row 69 = .ok (.imul, 1) := by decide +kernel
theorem dX6_row_70 : decode cX6_row 70 = .ok (.iload 4, 2) := by decide +kernel
theorem dX6_row_72 : decode cX6_row 72 = .ok (.iadd, 1) := by decide +kernel
theorem dX6_row_73 : decode cX6_row 73 = .ok (.iconst 0, 1) := by decide +kernel
theorem dX6_row_74 : decode cX6_row 74 = .ok (.iastore, 1) := by decide +kernel
theorem dX6_row_75 : decode cX6_row 75 = .ok (.iinc 4 1, 3) := by decide +kernel
theorem dX6_row_78 : decode cX6_row 78 = .ok (.goto (-23), 3) := by decide +kernel
theorem dX6_row_81 : decode cX6_row 81 = .ok (.iconst 0, 1) := by decide +kernel
theorem dX6_row_82 : decode cX6_row 82 = .ok (.ireturn, 1) := by decide +kernel
theorem dX6_put_0 : decode cX6_put 0 = .ok (.aload_n 0, 1) := by decide +kernel
theorem dX6_put_1 : decode cX6_put 1 = .ok (.iload_n 1, 1) := by decide +kernel
theorem dX6_put_2 : decode cX6_put 2 = .ok (.iconst (-1), 1) := by decide +kernel
theorem dX6_put_3 : decode cX6_put 3 = .ok (.invokevirtual 128, 3) := by decide +kernel
theorem dX6_put_6 : decode cX6_put 6 = .ok (.istore 4, 2) := by decide +kernel
theorem dX6_put_8 : decode cX6_put 8 = .ok (.iload 4, 2) := by decide +kernel
theorem dX6_put_10 : decode cX6_put 10 = .ok (.ifCond .eq 6, 3) := by decide +kernel
theorem dX6_put_13 : decode cX6_put 13 = .ok (.iload 4, 2) := by decide +kernel
theorem dX6_put_15 : decode cX6_put 15 = .ok (.ireturn, 1) := by decide +kernel
theorem dX6_put_16 : decode cX6_put 16 = .ok (.iload_n 2, 1) := by decide +kernel
theorem dX6_put_17 : decode cX6_put 17 = .ok (.iconst 0, 1) := by decide +kernel
theorem dX6_put_18 : decode cX6_put 18 = .ok (.aload_n 0, 1) := by decide +kernel
theorem dX6_put_19 : decode cX6_put 19 = .ok (.getfield 43, 3) := by decide +kernel
theorem dX6_put_22 : decode cX6_put 22 = .ok (.iload_n 1, 1) := by decide +kernel
theorem dX6_put_23 : decode cX6_put 23 = .ok (.iaload, 1) := by decide +kernel
theorem dX6_put_24 : decode cX6_put 24 = .ok (.iconst 1, 1) := by decide +kernel
theorem dX6_put_25 : decode cX6_put 25 = .ok (.isub, 1) := by decide +kernel
theorem dX6_put_26 : decode cX6_put 26 = .ok (.invokestatic 49, 3) := by decide +kernel
theorem dX6_put_29 : decode cX6_put 29 = .ok (.ifCond .ne 6, 3) := by decide +kernel
theorem dX6_put_32 : decode cX6_put 32 = .ok (.bipush (-13), 2) := by decide +kernel
theorem dX6_put_34 : decode cX6_put 34 = .ok (.ireturn, 1) := by decide +kernel
theorem dX6_put_35 : decode cX6_put 35 = .ok (.aload_n 0, 1) := by decide +kernel
theorem dX6_put_36 : decode cX6_put 36 = .ok (.getfield 46, 3) := by decide +kernel
theorem dX6_put_39 : decode cX6_put 39 = .ok (.bipush 100, 2) := by decide +kernel
theorem dX6_put_41 : decode cX6_put 41 = .ok (.iload_n 1, 1) := by decide +kernel
theorem dX6_put_42 : decode cX6_put 42 = .ok (.imul, 1) := by decide +kernel
theorem dX6_put_43 : decode cX6_put 43 = .ok (.iload_n 2, 1) := by decide +kernel
theorem dX6_put_44 : decode cX6_put 44 = .ok (.iadd, 1) := by decide +kernel
theorem dX6_put_45 : decode cX6_put 45 = .ok (.aload_n 0, 1) := by decide +kernel
theorem dX6_put_46 : decode cX6_put 46 = .ok (.getfield 40, 3) := by decide +kernel
theorem dX6_put_49 : decode cX6_put 49 = .ok (.iload_n 1, 1) := by decide +kernel
theorem dX6_put_50 : decode cX6_put 50 = .ok (.iaload, 1) := by decide +kernel
theorem dX6_put_51 : decode cX6_put 51 = .ok (.ifCond .ne 8, 3) := by decide +kernel
theorem dX6_put_54 : decode cX6_put 54 = .ok (.iload_n 3, 1) := by decide +kernel
theorem dX6_put_55 : decode cX6_put 55 = .ok (.i2b, 1) := by decide +kernel
theorem dX6_put_56 : decode cX6_put 56 = .ok (.goto 19, 3) := by decide +kernel
theorem dX6_put_59 : decode cX6_put 59 = .ok (.aload_n 0, 1) := by decide +kernel
theorem dX6_put_60 : decode cX6_put 60 = .ok (.getfield 40, 3) := by decide +kernel
theorem dX6_put_63 : decode cX6_put 63 = .ok (.iload_n 1, 1) := by decide +kernel
theorem dX6_put_64 : decode cX6_put 64 = .ok (.iaload, 1) := by decide +kernel
theorem dX6_put_65 : decode cX6_put 65 = .ok (.iconst 1, 1) := by decide +kernel
theorem dX6_put_66 : decode cX6_put 66 = .ok (.if_icmp .ne 8, 3) := by decide +kernel
theorem dX6_put_69 : decode cX6_put 69 = .ok (.iload_n 3, 1) := by decide +kernel
theorem dX6_put_70 : decode cX6_put 70 = .ok (.i2s, 1) := by decide +kernel
theorem dX6_put_71 : decode cX6_put 71 = .ok (.goto 4, 3) := by decide +kernel
theorem dX6_put_74 : decode cX6_put 74 = .ok (.iload_n 3, 1) := by decide +kernel
theorem dX6_put_75 : decode cX6_put 75 = .ok (.iastore, 1) := by decide +kernel
theorem dX6_put_76 : decode cX6_put 76 = .ok (.iconst 0, 1) := by decide +kernel
theorem dX6_put_77 : decode cX6_put 77 = .ok (.ireturn, 1) := by decide +kernel
theorem dX6_element_0 : decode cX6_element 0 = .ok (.aload_n 0, 1) := by decide +kernel
theorem dX6_element_1 : decode cX6_element 1 = .ok (.iload_n 1, 1) := by decide +kernel
theorem dX6_element_2 : decode cX6_element 2 = .ok (.invokestatic 206, 3) := by decide +kernel
theorem dX6_element_5 : decode cX6_element 5 = .ok (.ifCond .ne 7, 3) := by decide +kernel
theorem dX6_element_8 : decode cX6_element 8 = .ok (.iconst 1, 1) := by decide +kernel
theorem dX6_element_9 : decode cX6_element 9 = .ok (.goto 34, 3) := by decide +kernel
theorem dX6_element_12 : decode cX6_element 12 = .ok (.aload_n 0, 1) := by decide +kernel
theorem dX6_element_13 : decode cX6_element 13 = .ok (.getfield 31, 3) := by decide +kernel
theorem dX6_element_16 : decode cX6_element 16 = .ok (.iload_n 1, 1) := by decide +kernel
theorem dX6_element_17 : decode cX6_element 17 = .ok (.iaload, 1) := by decide +kernel
theorem dX6_element_18 : decode cX6_element 18 = .ok (.iconst 2, 1) := by decide +kernel
theorem dX6_element_19 : decode cX6_element 19 = .ok (.if_icmp .ne 19, 3) := by decide +kernel
theorem dX6_element_22 : decode cX6_element 22 = .ok (.iload_n 2, 1) := by decide +kernel
theorem dX6_element_23 : decode cX6_element 23 = .ok (.iconst 0, 1) := by decide +kernel
theorem dX6_element_24 : decode cX6_element 24 = .ok (.aload_n 0, 1) := by decide +kernel
theorem dX6_element_25 : decode cX6_element 25 = .ok (.getfield 43, 3) := by decide +kernel
theorem dX6_element_28 : decode cX6_element 28 = .ok (.iload_n 1, 1) := by decide +kernel
theorem dX6_element_29 : decode cX6_element 29 = .ok (.iaload, 1) := by decide +kernel
theorem dX6_element_30 : decode cX6_element 30 = .ok (.iconst 1, 1) := by decide +kernel
theorem dX6_element_31 : decode cX6_element 31 = .ok (.isub, 1) := by decide +kernel
theorem dX6_element_32 : decode cX6_element 32 = .ok (.invokestatic 49, 3) := by decide +kernel
theorem dX6_element_35 : decode cX6_element 35 = .ok (.ifCond .ne 7, 3) := by decide +kernel
theorem dX6_element_38 : decode cX6_element 38 = .ok (.iconst 2, 1) := by decide +kernel
theorem dX6_element_39 : decode cX6_element 39 = .ok (.goto 4, 3) := by decide +kernel
theorem dX6_element_42 : decode cX6_element 42 = .ok (.iconst 0, 1) := by decide +kernel
theorem dX6_element_43 : decode cX6_element 43 = .ok (.putfield 203, 3) := by decide +kernel
theorem dX6_element_46 : decode cX6_element 46 = .ok (.aload_n 0, 1) := by decide +kernel
theorem dX6_element_47 : decode cX6_element 47 = .ok (.getfield 203, 3) := by decide +kernel
theorem dX6_element_50 : decode cX6_element 50 = .ok (.ifCond .ne 18, 3) := by decide +kernel
theorem dX6_element_53 : decode cX6_element 53 = .ok (.aload_n 0, 1) := by decide +kernel
theorem dX6_element_54 : decode cX6_element 54 = .ok (.getfield 46, 3) := by decide +kernel
theorem dX6_element_57 : decode cX6_element 57 = .ok (.bipush 100, 2) := by decide +kernel
theorem dX6_element_59 : decode cX6_element 59 = .ok (.iload_n 1, 1) := by decide +kernel
theorem dX6_element_60 : decode cX6_element 60 = .ok (.imul, 1) := by decide +kernel
theorem dX6_element_61 : decode cX6_element 61 = .ok (.iload_n 2, 1) := by decide +kernel
theorem dX6_element_62 : decode cX6_element 62 = .ok (.iadd, 1) := by decide +kernel
theorem dX6_element_63 : decode cX6_element 63 = .ok (.iaload, 1) := by decide +kernel
theorem dX6_element_64 : decode cX6_element 64 = .ok (.i2l, 1) := by decide +kernel
theorem dX6_element_65 : decode cX6_element 65 = .ok (.goto 4, 3) := by decide +kernel
theorem dX6_element_68 : decode cX6_element 68 = .ok (.lconst 0, 1) := by decide +kernel
theorem dX6_element_69 : decode cX6_element 69 = .ok (.lreturn, 1) := by decide +kernel
theorem dX6_copy_0 : decode cX6_copy 0 = .ok (.iload_n 1, 1) := by decide +kernel
theorem dX6_copy_1 : decode cX6_copy 1 = .ok (.invokestatic 206, 3) := by decide +kernel
theorem dX6_copy_4 : decode cX6_copy 4 = .ok (.ifCond .eq 10, 3) := by decide +kernel
theorem dX6_copy_7 : decode cX6_copy 7 = .ok (.iload_n 3, 1) := by decide +kernel
theorem dX6_copy_8 : decode cX6_copy 8 = .ok (.invokestatic 206, 3) := by decide +kernel
theorem dX6_copy_11 : decode cX6_copy 11 = .ok (.ifCond .ne 5, 3) := by decide +kernel
theorem dX6_copy_14 : decode cX6_copy 14 = .ok (.iconst (-1), 1) := by decide +kernel
theorem dX6_copy_15 : decode cX6_copy 15 = .ok (.ireturn, 1) := by decide +kernel
theorem dX6_copy_16 : decode cX6_copy 16 = .ok (.aload_n 0, 1) := by decide +kernel
theorem dX6_copy_17 : decode cX6_copy 17 = .ok (.getfield 31, 3) := by decide +kernel
theorem dX6_copy_20 : decode cX6_copy 20 = .ok (.iload_n 1, 1) := by decide +kernel
theorem dX6_copy_21 : decode cX6_copy 21 = .ok (.iaload, 1) := by decide +kernel
theorem dX6_copy_22 : decode cX6_copy 22 = .ok (.ifCond .eq 12, 3) := by decide +kernel
theorem dX6_copy_25 : decode cX6_copy 25 = .ok (.aload_n 0, 1) := by decide +kernel
theorem dX6_copy_26 : decode cX6_copy 26 = .ok (.getfield 31, 3) := by decide +kernel
theorem dX6_copy_29 : decode cX6_copy 29 = .ok (.iload_n 3, 1) := by decide +kernel
theorem dX6_copy_30 : decode cX6_copy 30 = .ok (.iaload, 1) := by decide +kernel
theorem dX6_copy_31 : decode cX6_copy 31 = .ok (.ifCond .ne 6, 3) := by decide +kernel
theorem dX6_copy_34 : decode cX6_copy 34 = .ok (.bipush (-11), 2) := by decide +kernel
theorem dX6_copy_36 : decode cX6_copy 36 = .ok (.ireturn, 1) := by decide +kernel
theorem dX6_copy_37 : decode cX6_copy 37 = .ok (.aload_n 0, 1) := by decide +kernel
theorem dX6_copy_38 : decode cX6_copy 38 = .ok (.getfield 31, 3) := by decide +kernel
theorem dX6_copy_41 : decode cX6_copy 41 = .ok (.iload_n 1, 1) := by decide +kernel
theorem dX6_copy_42 : decode cX6_copy 42 = .ok (.iaload, 1) := by decide +kernel
theorem dX6_copy_43 : decode cX6_copy 43 = .ok (.iconst 2, 1) := by decide +kernel
theorem dX6_copy_44 : decode cX6_copy 44 = .ok (.if_icmp .ne 28, 3) := by decide +kernel
theorem dX6_copy_47 : decode cX6_copy 47 = .ok (.aload_n 0, 1) := by decide +kernel
theorem dX6_copy_48 : decode cX6_copy 48 = .ok (.getfield 31, 3) := by decide +kernel
theorem dX6_copy_51 : decode cX6_copy 51 = .ok (.iload_n 3, 1) := by decide +kernel
theorem dX6_copy_52 : decode cX6_copy 52 = .ok (.iaload, 1) := by decide +kernel
theorem dX6_copy_53 : decode cX6_copy 53 = .ok (.iconst 2, 1) := by decide +kernel
theorem dX6_copy_54 : decode cX6_copy 54 = .ok (.if_icmp .ne 18, 3) := by decide +kernel
theorem dX6_copy_57 : decode cX6_copy 57 = .ok (.aload_n 0, 1) := by decide +kernel
theorem dX6_copy_58 : decode cX6_copy 58 = .ok (.getfield 40, 3) := by decide +kernel
theorem dX6_copy_61 : decode cX6_copy 61 = .ok (.iload_n 1, 1) := by decide +kernel
theorem dX6_copy_62 : decode cX6_copy 62 = .ok (.iaload, 1) := by decide +kernel
theorem dX6_copy_63 : decode cX6_copy 63 = .ok (.aload_n 0, 1) := by decide +kernel
theorem dX6_copy_64 : decode cX6_copy 64 = .ok (.getfield 40, 3) := by decide +kernel
theorem dX6_copy_67 : decode cX6_copy 67 = .ok (.iload_n 3, 1) := by decide +kernel
theorem dX6_copy_68 : decode cX6_copy 68 = .ok (.iaload, 1) := by decide +kernel
theorem dX6_copy_69 : decode cX6_copy 69 = .ok (.if_icmp .eq 6, 3) := by decide +kernel
theorem dX6_copy_72 : decode cX6_copy 72 = .ok (.bipush (-12), 2) := by decide +kernel
theorem dX6_copy_74 : decode cX6_copy 74 = .ok (.ireturn, 1) := by decide +kernel
theorem dX6_copy_75 : decode cX6_copy 75 = .ok (.iload 5, 2) := by decide +kernel
theorem dX6_copy_77 : decode cX6_copy 77 = .ok (.ifCond .lt 39, 3) := by decide +kernel
theorem dX6_copy_80 : decode cX6_copy 80 = .ok (.iload_n 2, 1) := by decide +kernel
theorem dX6_copy_81 : decode cX6_copy 81 = .ok (.ifCond .lt 35, 3) := by decide +kernel
theorem dX6_copy_84 : decode cX6_copy 84 = .ok (.iload 4, 2) := by decide +kernel
theorem dX6_copy_86 : decode cX6_copy 86 = .ok (.ifCond .lt 30, 3) := by decide +kernel
theorem dX6_copy_89 : decode cX6_copy 89 = .ok (.iload 5, 2) := by decide +kernel
theorem dX6_copy_91 : decode cX6_copy 91 = .ok (.aload_n 0, 1) := by decide +kernel
theorem dX6_copy_92 : decode cX6_copy 92 = .ok (.getfield 43, 3) := by decide +kernel
theorem dX6_copy_95 : decode cX6_copy 95 = .ok (.iload_n 1, 1) := by decide +kernel
theorem dX6_copy_96 : decode cX6_copy 96 = .ok (.iaload, 1) := by decide +kernel
theorem dX6_copy_97 : decode cX6_copy 97 = .ok (.iload_n 2, 1) := by decide +kernel
theorem dX6_copy_98 : decode cX6_copy 98 = .ok (.isub, 1) := by decide +kernel
theorem dX6_copy_99 : decode cX6_copy 99 = .ok (.if_icmp .gt 17, 3) := by decide +kernel
theorem dX6_copy_102 : decode cX6_copy 102 = .ok (.iload 5, 2) := by decide +kernel
theorem dX6_copy_104 : decode cX6_copy 104 = .ok (.aload_n 0, 1) := by decide +kernel
theorem dX6_copy_105 : decode cX6_copy 105 = .ok (.getfield 43, 3) := by decide +kernel
theorem dX6_copy_108 : decode cX6_copy 108 = .ok (.iload_n 3, 1) := by decide +kernel
theorem dX6_copy_109 : decode cX6_copy 109 = .ok (.iaload, 1) := by decide +kernel
theorem dX6_copy_110 : decode cX6_copy 110 = .ok (.iload 4, 2) := by decide +kernel
theorem dX6_copy_112 : decode cX6_copy 112 = .ok (.isub, 1) := by decide +kernel
theorem dX6_copy_113 : decode cX6_copy 113 = .ok (.if_icmp .le 6, 3) := by decide +kernel
theorem dX6_copy_116 : decode cX6_copy 116 = .ok (.bipush (-13), 2) := by decide +kernel
theorem dX6_copy_118 : decode cX6_copy 118 = .ok (.ireturn, 1) := by decide +kernel
theorem dX6_copy_119 : decode cX6_copy 119 = .ok (.iconst 0, 1) := by decide +kernel
theorem dX6_copy_120 : decode cX6_copy 120 = .ok (.istore 6, 2) := by decide +kernel
theorem dX6_copy_122 : decode cX6_copy 122 = .ok (.iload 6, 2) := by decide +kernel
theorem dX6_copy_124 : decode cX6_copy 124 = .ok (.iload 5, 2) := by decide +kernel
theorem dX6_copy_126 : decode cX6_copy 126 = .ok (.if_icmp .ge 58, 3) := by decide +kernel
theorem dX6_copy_129 : decode cX6_copy 129 = .ok (.iload_n 2, 1) := by decide +kernel
theorem dX6_copy_130 : decode cX6_copy 130 = .ok (.iload 4, 2) := by decide +kernel
theorem dX6_copy_132 : decode cX6_copy 132 = .ok (.if_icmp .le 8, 3) := by decide +kernel
theorem dX6_copy_135 : decode cX6_copy 135 = .ok (.iload 6, 2) := by decide +kernel
theorem dX6_copy_137 : decode cX6_copy 137 = .ok (.goto 10, 3) := by decide +kernel
theorem dX6_copy_140 : decode cX6_copy 140 = .ok (.iload 5, 2) := by decide +kernel
theorem dX6_copy_142 : decode cX6_copy 142 = .ok (.iconst 1, 1) := by decide +kernel
theorem dX6_copy_143 : decode cX6_copy 143 = .ok (.isub, 1) := by decide +kernel
theorem dX6_copy_144 : decode cX6_copy 144 = .ok (.iload 6, 2) := by decide +kernel
theorem dX6_copy_146 : decode cX6_copy 146 = .ok (.isub, 1) := by decide +kernel
theorem dX6_copy_147 : decode cX6_copy 147 = .ok (.istore 7, 2) := by decide +kernel
theorem dX6_copy_149 : decode cX6_copy 149 = .ok (.aload_n 0, 1) := by decide +kernel
theorem dX6_copy_150 : decode cX6_copy 150 = .ok (.getfield 46, 3) := by decide +kernel
theorem dX6_copy_153 : decode cX6_copy 153 = .ok (.bipush 100, 2) := by decide +kernel
theorem dX6_copy_155 : decode cX6_copy 155 = .ok (.iload_n 3, 1) := by decide +kernel
theorem dX6_copy_156 : decode cX6_copy 156 = .ok (.imul, 1) := by decide +kernel
theorem dX6_copy_157 : decode cX6_copy 157 = .ok (.iload 4, 2) := by decide +kernel
theorem dX6_copy_159 : decode cX6_copy 159 = .ok (.iadd, 1) := by decide +kernel
theorem dX6_copy_160 : decode cX6_copy 160 = .ok (.iload 7, 2) := by decide +kernel
theorem dX6_copy_162 : decode cX6_copy 162 = .ok (.iadd, 1) := by decide +kernel
theorem dX6_copy_163 : decode cX6_copy 163 = .ok (.aload_n 0, 1) := by decide +kernel
theorem dX6_copy_164 : decode cX6_copy 164 = .ok (.getfield 46, 3) := by decide +kernel
theorem dX6_copy_167 : decode cX6_copy 167 = .ok (.bipush 100, 2) := by decide +kernel
theorem dX6_copy_169 : decode cX6_copy 169 = .ok (.iload_n 1, 1) := by decide +kernel
theorem dX6_copy_170 : decode cX6_copy 170 = .ok (.imul, 1) := by decide +kernel
theorem dX6_copy_171 : decode cX6_copy 171 = .ok (.iload_n 2, 1) := by decide +kernel
theorem dX6_copy_172 : decode cX6_copy 172 = .ok (.iadd, 1) := by decide +kernel
theorem dX6_copy_173 : decode cX6_copy 173 = .ok (.iload 7, 2) := by decide +kernel
theorem dX6_copy_175 : decode cX6_copy 175 = .ok (.iadd, 1) := by decide +kernel
theorem dX6_copy_176 : decode cX6_copy 176 = .ok (.iaload, 1) := by decide +kernel
theorem dX6_copy_177 : decode cX6_copy 177 = .ok (.iastore, 1) := by decide +kernel
theorem dX6_copy_178 : decode cX6_copy 178 = .ok (.iinc 6 1, 3) := by decide +kernel
theorem dX6_copy_181 : decode cX6_copy 181 = .ok (.goto (-59), 3) := by decide +kernel
theorem dX6_copy_184 : decode cX6_copy 184 = .ok (.iload 5, 2) := by decide +kernel
theorem dX6_copy_186 : decode cX6_copy 186 = .ok (.ireturn, 1) := by decide +kernel
theorem dX6_costBy_0 : decode cX6_costBy 0 = .ok (.iload_n 0, 1) := by decide +kernel
theorem dX6_costBy_1 : decode cX6_costBy 1 = .ok (.tableswitch 64 1 7 #[43, 45, 49, 52, 54, 59, 62], 43) := by decide +kernel
theorem dX6_costBy_44 : decode cX6_costBy 44 = .ok (.iconst 3, 1) := by decide +kernel
theorem dX6_costBy_45 : decode cX6_costBy 45 = .ok (.ireturn, 1) := by decide +kernel
theorem dX6_costBy_46 : decode cX6_costBy 46 = .ok (.iconst 4, 1) := by decide +kernel
theorem dX6_costBy_47 : decode cX6_costBy 47 = .ok (.iload_n 1, 1) := by decide +kernel
theorem dX6_costBy_48 : decode cX6_costBy 48 = .ok (.iadd, 1) := by decide +kernel
theorem dX6_costBy_49 : decode cX6_costBy 49 = .ok (.ireturn, 1) := by decide +kernel
theorem dX6_costBy_50 : decode cX6_costBy 50 = .ok (.bipush 10, 2) := by decide +kernel
theorem dX6_costBy_52 : decode cX6_costBy 52 = .ok (.ireturn, 1) := by decide +kernel
theorem dX6_costBy_53 : decode cX6_costBy 53 = .ok (.iconst 2, 1) := by decide +kernel
theorem dX6_costBy_54 : decode cX6_costBy 54 = .ok (.ireturn, 1) := by decide +kernel
theorem dX6_costBy_55 : decode cX6_costBy 55 = .ok (.bipush 10, 2) := by decide +kernel
theorem dX6_costBy_57 : decode cX6_costBy 57 = .ok (.iload_n 1, 1) := by decide +kernel
theorem dX6_costBy_58 : decode cX6_costBy 58 = .ok (.iadd, 1) := by decide +kernel
theorem dX6_costBy_59 : decode cX6_costBy 59 = .ok (.ireturn, 1) := by decide +kernel
theorem dX6_costBy_60 : decode cX6_costBy 60 = .ok (.bipush 6, 2) := by decide +kernel
theorem dX6_costBy_62 : decode cX6_costBy 62 = .ok (.ireturn, 1) := by decide +kernel
theorem dX6_costBy_63 : decode cX6_costBy 63 = .ok (.iconst 1, 1) := by decide +kernel
theorem dX6_costBy_64 : decode cX6_costBy 64 = .ok (.ireturn, 1) := by decide +kernel
theorem dX6_costBy_65 : decode cX6_costBy 65 = .ok (.iconst 4, 1) := by decide +kernel
theorem dX6_costBy_66 : decode cX6_costBy 66 = .ok (.ireturn, 1) := by decide +kernel
theorem dX6_cost_0 : decode cX6_cost 0 = .ok (.aload_n 0, 1) := by decide +kernel
theorem dX6_cost_1 : decode cX6_cost 1 = .ok (.iload_n 1, 1) := by decide +kernel
theorem dX6_cost_2 : decode cX6_cost 2 = .ok (.invokevirtual 142, 3) := by decide +kernel
theorem dX6_cost_5 : decode cX6_cost 5 = .ok (.istore_n 2, 1) := by decide +kernel
theorem dX6_cost_6 : decode cX6_cost 6 = .ok (.iload_n 2, 1) := by decide +kernel
theorem dX6_cost_7 : decode cX6_cost 7 = .ok (.ifCond .eq 7, 3) := by decide +kernel
theorem dX6_cost_10 : decode cX6_cost 10 = .ok (.iload_n 2, 1) := by decide +kernel
theorem dX6_cost_11 : decode cX6_cost 11 = .ok (.goto 18, 3) := by decide +kernel
theorem dX6_cost_14 : decode cX6_cost 14 = .ok (.aload_n 0, 1) := by decide +kernel
theorem dX6_cost_15 : decode cX6_cost 15 = .ok (.getfield 34, 3) := by decide +kernel
theorem dX6_cost_18 : decode cX6_cost 18 = .ok (.iload_n 1, 1) := by decide +kernel
theorem dX6_cost_19 : decode cX6_cost 19 = .ok (.iaload, 1) := by decide +kernel
theorem dX6_cost_20 : decode cX6_cost 20 = .ok (.aload_n 0, 1) := by decide +kernel
theorem dX6_cost_21 : decode cX6_cost 21 = .ok (.getfield 37, 3) := by decide +kernel
theorem dX6_cost_24 : decode cX6_cost 24 = .ok (.iload_n 1, 1) := by decide +kernel
theorem dX6_cost_25 : decode cX6_cost 25 = .ok (.iaload, 1) := by decide +kernel
theorem dX6_cost_26 : decode cX6_cost 26 = .ok (.invokestatic 209, 3) := by decide +kernel
theorem dX6_cost_29 : decode cX6_cost 29 = .ok (.ireturn, 1) := by decide +kernel
theorem dX6_toss_0 : decode cX6_toss 0 = .ok (.aload_n 0, 1) := by decide +kernel
theorem dX6_toss_1 : decode cX6_toss 1 = .ok (.iload_n 1, 1) := by decide +kernel
theorem dX6_toss_2 : decode cX6_toss 2 = .ok (.invokevirtual 142, 3) := by decide +kernel
theorem dX6_toss_5 : decode cX6_toss 5 = .ok (.istore_n 2, 1) := by decide +kernel
theorem dX6_toss_6 : decode cX6_toss 6 = .ok (.iload_n 2, 1) := by decide +kernel
theorem dX6_toss_7 : decode cX6_toss 7 = .ok (.ifCond .eq 5, 3) := by decide +kernel
theorem dX6_toss_10 : decode cX6_toss 10 = .ok (.iload_n 2, 1) := by decide +kernel
theorem dX6_toss_11 : decode cX6_toss 11 = .ok (.ireturn, 1) := by decide +kernel
theorem dX6_toss_12 : decode cX6_toss 12 = .ok (.aload_n 0, 1) := by decide +kernel
theorem dX6_toss_13 : decode cX6_toss 13 = .ok (.getfield 34, 3) := by decide +kernel
theorem dX6_toss_16 : decode cX6_toss 16 = .ok (.iload_n 1, 1) := by decide +kernel
theorem dX6_toss_17 : decode cX6_toss 17 = .ok (.iaload, 1) := by decide +kernel
theorem dX6_toss_18 : decode cX6_toss 18 = .ok (.istore_n 3, 1) := by decide +kernel
theorem dX6_toss_19 : decode cX6_toss 19 = .ok (.aload_n 0, 1) := by decide +kernel
theorem dX6_toss_20 : decode cX6_toss 20 = .ok (.getfield 37, 3) := by decide +kernel
theorem dX6_toss_23 : decode cX6_toss 23 = .ok (.iload_n 1, 1) := by decide +kernel
theorem dX6_toss_24 : decode cX6_toss 24 = .ok (.iaload, 1) := by decide +kernel
theorem dX6_toss_25 : decode cX6_toss 25 = .ok (.istore 4, 2) := by decide +kernel
theorem dX6_toss_27 : decode cX6_toss 27 = .ok (.iload_n 3, 1) := by decide +kernel
theorem dX6_toss_28 : decode cX6_toss 28 = .ok (.iconst 4, 1) := by decide +kernel
theorem dX6_toss_29 : decode cX6_toss 29 = .ok (.if_icmp .eq 14, 3) := by decide +kernel
theorem dX6_toss_32 : decode cX6_toss 32 = .ok (.iload_n 3, 1) := by decide +kernel
theorem dX6_toss_33 : decode cX6_toss 33 = .ok (.bipush 7, 2) := by decide +kernel
theorem dX6_toss_35 : decode cX6_toss 35 = .ok (.if_icmp .eq 8, 3) := by decide +kernel
theorem dX6_toss_38 : decode cX6_toss 38 = .ok (.iload 4, 2) := by decide +kernel
theorem dX6_toss_40 : decode cX6_toss 40 = .ok (.ifCond .ne 6, 3) := by decide +kernel
theorem dX6_toss_43 : decode cX6_toss 43 = .ok (.bipush (-15), 2) := by decide +kernel
theorem dX6_toss_45 : decode cX6_toss 45 = .ok (.ireturn, 1) := by decide +kernel
theorem dX6_toss_46 : decode cX6_toss 46 = .ok (.iload_n 3, 1) := by decide +kernel
theorem dX6_toss_47 : decode cX6_toss 47 = .ok (.iconst 5, 1) := by decide +kernel
theorem dX6_toss_48 : decode cX6_toss 48 = .ok (.if_icmp .ne 16, 3) := by decide +kernel
theorem dX6_toss_51 : decode cX6_toss 51 = .ok (.sipush 200, 3) := by decide +kernel
theorem dX6_toss_54 : decode cX6_toss 54 = .ok (.iload_n 3, 1) := by decide +kernel
theorem dX6_toss_55 : decode cX6_toss 55 = .ok (.iload 4, 2) := by decide +kernel
theorem dX6_toss_57 : decode cX6_toss 57 = .ok (.invokestatic 209, 3) := by decide +kernel
theorem dX6_toss_60 : decode cX6_toss 60 = .ok (.iadd, 1) := by decide +kernel
theorem dX6_toss_61 : decode cX6_toss 61 = .ok (.goto 18, 3) := by decide +kernel
theorem dX6_toss_64 : decode cX6_toss 64 = .ok (.iload_n 3, 1) := by decide +kernel
theorem dX6_toss_65 : decode cX6_toss 65 = .ok (.iconst 3, 1) := by decide +kernel
theorem dX6_toss_66 : decode cX6_toss 66 = .ok (.if_icmp .ne 11, 3) := by decide +kernel
theorem dX6_toss_69 : decode cX6_toss 69 = .ok (.bipush 100, 2) := by decide +kernel
theorem dX6_toss_71 : decode cX6_toss 71 = .ok (.iload 4, 2) := by decide +kernel
theorem dX6_toss_73 : decode cX6_toss 73 = .ok (.iadd, 1) := by decide +kernel
theorem dX6_toss_74 : decode cX6_toss 74 = .ok (.goto 5, 3) := by decide +kernel
theorem dX6_toss_77 : decode cX6_toss 77 = .ok (.iload 4, 2) := by decide +kernel
theorem dX6_toss_79 : decode cX6_toss 79 = .ok (.ireturn, 1) := by decide +kernel
end
section
theorem dL_element_0 : decode cL_element 0 = .ok (.aload_n 3, 1) := by decide +kernel
theorem dL_element_1 : decode cL_element 1 = .ok (.iconst 0, 1) := by decide +kernel
theorem dL_element_2 : decode cL_element 2 = .ok (.aload_n 0, 1) := by decide +kernel
theorem dL_element_3 : decode cL_element 3 = .ok (.iload_n 1, 1) := by decide +kernel
theorem dL_element_4 : decode cL_element 4 = .ok (.iload_n 2, 1) := by decide +kernel
theorem dL_element_5 : decode cL_element 5 = .ok (.invokevirtual 7, 3) := by decide +kernel
theorem dL_element_8 : decode cL_element 8 = .ok (.lastore, 1) := by decide +kernel
theorem dL_element_9 : decode cL_element 9 = .ok (.goto 11, 3) := by decide +kernel
theorem dL_element_12 : decode cL_element 12 = .ok (.astore 4, 2) := by decide +kernel
theorem dL_element_14 : decode cL_element 14 = .ok (.iconst 1, 1) := by decide +kernel
theorem dL_element_15 : decode cL_element 15 = .ok (.ireturn, 1) := by decide +kernel
theorem dL_element_16 : decode cL_element 16 = .ok (.astore 4, 2) := by decide +kernel
theorem dL_element_18 : decode cL_element 18 = .ok (.iconst 2, 1) := by decide +kernel
theorem dL_element_19 : decode cL_element 19 = .ok (.ireturn, 1) := by decide +kernel
theorem dL_element_20 : decode cL_element 20 = .ok (.iconst 0, 1) := by decide +kernel
theorem dL_element_21 : decode cL_element 21 = .ok (.ireturn, 1) := by decide +kernel
theorem dL_law_0 : decode cL_law 0 = .ok (.new 8, 3) := by decide +kernel
theorem dL_law_3 : decode cL_law 3 = .ok (.dup, 1) := by decide +kernel
theorem dL_law_4 : decode cL_law 4 = .ok (.invokespecial 17, 3) := by decide +kernel
theorem dL_law_7 : decode cL_law 7 = .ok (.astore_n 1, 1) := by decide +kernel
theorem dL_law_8 : decode cL_law 8 = .ok (.new 18, 3) := by decide +kernel
theorem dL_law_11 : decode cL_law 11 = .ok (.dup, 1) := by decide +kernel
theorem dL_law_12 : decode cL_law 12 = .ok (.invokespecial 20, 3) := by decide +kernel
theorem dL_law_15 : decode cL_law 15 = .ok (.astore_n 2, 1) := by decide +kernel
theorem dL_law_16 : decode cL_law 16 = .ok (.iconst 1, 1) := by decide +kernel
theorem dL_law_17 : decode cL_law 17 = .ok (.newarray .long, 2) := by decide +kernel
theorem dL_law_19 : decode cL_law 19 = .ok (.astore_n 3, 1) := by decide +kernel
theorem dL_law_20 : decode cL_law 20 = .ok (.iconst 0, 1) := by decide +kernel
theorem dL_law_21 : decode cL_law 21 = .ok (.istore 4, 2) := by decide +kernel
theorem dL_law_23 : decode cL_law 23 = .ok (.iload 4, 2) := by decide +kernel
theorem dL_law_25 : decode cL_law 25 = .ok (.aload_n 0, 1) := by decide +kernel
theorem dL_law_26 : decode cL_law 26 = .ok (.arraylength, 1) := by decide +kernel
theorem dL_law_27 : decode cL_law 27 = .ok (.bipush 6, 2) := by decide +kernel
theorem dL_law_29 : decode cL_law 29 = .ok (.isub, 1) := by decide +kernel
theorem dL_law_30 : decode cL_law 30 = .ok (.if_icmp .gt 1560, 3) := by decide +kernel
theorem dL_law_33 : decode cL_law 33 = .ok (.aload_n 0, 1) := by decide +kernel
theorem dL_law_34 : decode cL_law 34 = .ok (.iload 4, 2) := by decide +kernel
theorem dL_law_36 : decode cL_law 36 = .ok (.iaload, 1) := by decide +kernel
theorem dL_law_37 : decode cL_law 37 = .ok (.bipush 63, 2) := by decide +kernel
theorem dL_law_39 : decode cL_law 39 = .ok (.iand, 1) := by decide +kernel
theorem dL_law_40 : decode cL_law 40 = .ok (.tableswitch 1544 0 39 #[176, 201, 238, 287, 336, 361, 398, 447, 472, 497, 522, 547, 572, 609, 634, 647, 672, 697, 734, 759, 784, 845, 894, 919, 981, 1007, 1020, 1045, 1070, 1095, 1144, 1157, 1170, 1195, 1256, 1305, 1354, 1421, 1494, 1519], 176) := by decide +kernel
theorem dL_law_216 : decode cL_law 216 = .ok (.aload_n 1, 1) := by decide +kernel
theorem dL_law_217 : decode cL_law 217 = .ok (.aload_n 0, 1) := by decide +kernel
theorem dL_law_218 : decode cL_law 218 = .ok (.iload 4, 2) := by decide +kernel
theorem dL_law_220 : decode cL_law 220 = .ok (.iconst 1, 1) := by decide +kernel
theorem dL_law_221 : decode cL_law 221 = .ok (.iadd, 1) := by decide +kernel
theorem dL_law_222 : decode cL_law 222 = .ok (.iaload, 1) := by decide +kernel
theorem dL_law_223 : decode cL_law 223 = .ok (.invokevirtual 21, 3) := by decide +kernel
theorem dL_law_226 : decode cL_law 226 = .ok (.aload_n 2, 1) := by decide +kernel
theorem dL_law_227 : decode cL_law 227 = .ok (.aload_n 0, 1) := by decide +kernel
theorem dL_law_228 : decode cL_law 228 = .ok (.iload 4, 2) := by decide +kernel
theorem dL_law_230 : decode cL_law 230 = .ok (.iconst 1, 1) := by decide +kernel
theorem dL_law_231 : decode cL_law 231 = .ok (.iadd, 1) := by decide +kernel
theorem dL_law_232 : decode cL_law 232 = .ok (.iaload, 1) := by decide +kernel
theorem dL_law_233 : decode cL_law 233 = .ok (.invokevirtual 25, 3) := by decide +kernel
theorem dL_law_236 : decode cL_law 236 = .ok (.if_icmp .eq 1348, 3) := by decide +kernel
theorem dL_law_239 : decode cL_law 239 = .ok (.iconst 0, 1) := by decide +kernel
theorem dL_law_240 : decode cL_law 240 = .ok (.ireturn, 1) := by decide +kernel
theorem dL_law_241 : decode cL_law 241 = .ok (.aload_n 1, 1) := by decide +kernel
theorem dL_law_242 : decode cL_law 242 = .ok (.aload_n 0, 1) := by decide +kernel
theorem dL_law_243 : decode cL_law 243 = .ok (.iload 4, 2) := by decide +kernel
theorem dL_law_245 : decode cL_law 245 = .ok (.iconst 1, 1) := by decide +kernel
theorem dL_law_246 : decode cL_law 246 = .ok (.iadd, 1) := by decide +kernel
theorem dL_law_247 : decode cL_law 247 = .ok (.iaload, 1) := by decide +kernel
theorem dL_law_248 : decode cL_law 248 = .ok (.aload_n 0, 1) := by decide +kernel
theorem dL_law_249 : decode cL_law 249 = .ok (.iload 4, 2) := by decide +kernel
theorem dL_law_251 : decode cL_law 251 = .ok (.iconst 2, 1) := by decide +kernel
theorem dL_law_252 : decode cL_law 252 = .ok (.iadd, 1) := by decide +kernel
theorem dL_law_253 : decode cL_law 253 = .ok (.iaload, 1) := by decide +kernel
theorem dL_law_254 : decode cL_law 254 = .ok (.invokevirtual 26, 3) := by decide +kernel
theorem dL_law_257 : decode cL_law 257 = .ok (.aload_n 2, 1) := by decide +kernel
theorem dL_law_258 : decode cL_law 258 = .ok (.aload_n 0, 1) := by decide +kernel
theorem dL_law_259 : decode cL_law 259 = .ok (.iload 4, 2) := by decide +kernel
theorem dL_law_261 : decode cL_law 261 = .ok (.iconst 1, 1) := by decide +kernel
theorem dL_law_262 : decode cL_law 262 = .ok (.iadd, 1) := by decide +kernel
theorem dL_law_263 : decode cL_law 263 = .ok (.iaload, 1) := by decide +kernel
theorem dL_law_264 : decode cL_law 264 = .ok (.aload_n 0, 1) := by decide +kernel
theorem dL_law_265 : decode cL_law 265 = .ok (.iload 4, 2) := by decide +kernel
theorem dL_law_267 : decode cL_law 267 = .ok (.iconst 2, 1) := by decide +kernel
theorem dL_law_268 : decode cL_law 268 = .ok (.iadd, 1) := by decide +kernel
theorem dL_law_269 : decode cL_law 269 = .ok (.iaload, 1) := by decide +kernel
theorem dL_law_270 : decode cL_law 270 = .ok (.invokevirtual 30, 3) := by decide +kernel
theorem dL_law_273 : decode cL_law 273 = .ok (.if_icmp .eq 1311, 3) := by decide +kernel
theorem dL_law_276 : decode cL_law 276 = .ok (.iconst 0, 1) := by decide +kernel
theorem dL_law_277 : decode cL_law 277 = .ok (.ireturn, 1) := by decide +kernel
theorem dL_law_278 : decode cL_law 278 = .ok (.aload_n 1, 1) := by decide +kernel
theorem dL_law_279 : decode cL_law 279 = .ok (.aload_n 0, 1) := by decide +kernel
theorem dL_law_280 : decode cL_law 280 = .ok (.iload 4, 2) := by decide +kernel
theorem dL_law_282 : decode cL_law 282 = .ok (.iconst 1, 1) := by decide +kernel
theorem dL_law_283 : decode cL_law 283 = .ok (.iadd, 1) := by decide +kernel
theorem dL_law_284 : decode cL_law 284 = .ok (.iaload, 1) := by decide +kernel
theorem dL_law_285 : decode cL_law 285 = .ok (.aload_n 0, 1) := by decide +kernel
theorem dL_law_286 : decode cL_law 286 = .ok (.iload 4, 2) := by decide +kernel
theorem dL_law_288 : decode cL_law 288 = .ok (.iconst 2, 1) := by decide +kernel
theorem dL_law_289 : decode cL_law 289 = .ok (.iadd, 1) := by decide +kernel
theorem dL_law_290 : decode cL_law 290 = .ok (.iaload, 1) := by decide +kernel
theorem dL_law_291 : decode cL_law 291 = .ok (.aload_n 0, 1) := by decide +kernel
theorem dL_law_292 : decode cL_law 292 = .ok (.iload 4, 2) := by decide +kernel
theorem dL_law_294 : decode cL_law 294 = .ok (.iconst 3, 1) := by decide +kernel
theorem dL_law_295 : decode cL_law 295 = .ok (.iadd, 1) := by decide +kernel
theorem dL_law_296 : decode cL_law 296 = .ok (.iaload, 1) := by decide +kernel
theorem dL_law_297 : decode cL_law 297 = .ok (.invokevirtual 31, 3) := by decide +kernel
theorem dL_law_300 : decode cL_law 300 = .ok (.aload_n 2, 1) := by decide +kernel
theorem dL_law_301 : decode cL_law 301 = .ok (.aload_n 0, 1) := by decide +kernel
theorem dL_law_302 : decode cL_law 302 = .ok (.iload 4, 2) := by decide +kernel
theorem dL_law_304 : decode cL_law 304 = .ok (.iconst 1, 1) := by decide +kernel
theorem dL_law_305 : decode cL_law 305 = .ok (.iadd, 1) := by decide +kernel
theorem dL_law_306 : decode cL_law 306 = .ok (.iaload, 1) := by decide +kernel
theorem dL_law_307 : decode cL_law 307 = .ok (.aload_n 0, 1) := by decide +kernel
theorem dL_law_308 : decode cL_law 308 = .ok (.iload 4, 2) := by decide +kernel
theorem dL_law_310 : decode cL_law 310 = .ok (.iconst 2, 1) := by decide +kernel
theorem dL_law_311 : decode cL_law 311 = .ok (.iadd, 1) := by decide +kernel
theorem dL_law_312 : decode cL_law 312 = .ok (.iaload, 1) := by decide +kernel
theorem dL_law_313 : decode cL_law 313 = .ok (.aload_n 0, 1) := by decide +kernel
theorem dL_law_314 : decode cL_law 314 = .ok (.iload 4, 2) := by decide +kernel
theorem dL_law_316 : decode cL_law 316 = .ok (.iconst 3, 1) := by decide +kernel
theorem dL_law_317 : decode cL_law 317 = .ok (.iadd, 1) := by decide +kernel
theorem dL_law_318 : decode cL_law 318 = .ok (.iaload, 1) := by decide +kernel
theorem dL_law_319 : decode cL_law 319 = .ok (.invokevirtual 35, 3) := by decide +kernel
theorem dL_law_322 : decode cL_law 322 = .ok (.if_icmp .eq 1262, 3) := by decide +kernel
theorem dL_law_325 : decode cL_law 325 = .ok (.iconst 0, 1) := by decide +kernel
theorem dL_law_326 : decode cL_law 326 = .ok (.ireturn, 1) := by decide +kernel
theorem dL_law_327 : decode cL_law 327 = .ok (.aload_n 1, 1) := by decide +kernel
theorem dL_law_328 : decode cL_law 328 = .ok (.aload_n 0, 1) := by decide +kernel
theorem dL_law_329 : decode cL_law 329 = .ok (.iload 4, 2) := by decide +kernel
theorem dL_law_331 : decode cL_law 331 = .ok (.iconst 1, 1) := by decide +kernel
theorem dL_law_332 : decode cL_law 332 = .ok (.iadd, 1) := by decide +kernel
theorem dL_law_333 : decode cL_law 333 = .ok (.iaload, 1) := by decide +kernel
theorem dL_law_334 : decode cL_law 334 = .ok (.aload_n 0, 1) := by decide +kernel
theorem dL_law_335 : decode cL_law 335 = .ok (.iload 4, 2) := by decide +kernel
theorem dL_law_337 : decode cL_law 337 = .ok (.iconst 2, 1) := by decide +kernel
theorem dL_law_338 : decode cL_law 338 = .ok (.iadd, 1) := by decide +kernel
theorem dL_law_339 : decode cL_law 339 = .ok (.iaload, 1) := by decide +kernel
theorem dL_law_340 : decode cL_law 340 = .ok (.aload_n 0, 1) := by decide +kernel
theorem dL_law_341 : decode cL_law 341 = .ok (.iload 4, 2) := by decide +kernel
theorem dL_law_343 : decode cL_law 343 = .ok (.iconst 3, 1) := by decide +kernel
theorem dL_law_344 : decode cL_law 344 = .ok (.iadd, 1) := by decide +kernel
theorem dL_law_345 : decode cL_law 345 = .ok (.iaload, 1) := by decide +kernel
theorem dL_law_346 : decode cL_law 346 = .ok (.invokevirtual 36, 3) := by decide +kernel
theorem dL_law_349 : decode cL_law 349 = .ok (.aload_n 2, 1) := by decide +kernel
theorem dL_law_350 : decode cL_law 350 = .ok (.aload_n 0, 1) := by decide +kernel
theorem dL_law_351 : decode cL_law 351 = .ok (.iload 4, 2) := by decide +kernel
theorem dL_law_353 : decode cL_law 353 = .ok (.iconst 1, 1) := by decide +kernel
theorem dL_law_354 : decode cL_law 354 = .ok (.iadd, 1) := by decide +kernel
theorem dL_law_355 : decode cL_law 355 = .ok (.iaload, 1) := by decide +kernel
theorem dL_law_356 : decode cL_law 356 = .ok (.aload_n 0, 1) := by decide +kernel
theorem dL_law_357 : decode cL_law 357 = .ok (.iload 4, 2) := by decide +kernel
theorem dL_law_359 : decode cL_law 359 = .ok (.iconst 2, 1) := by decide +kernel
theorem dL_law_360 : decode cL_law 360 = .ok (.iadd, 1) := by decide +kernel
theorem dL_law_361 : decode cL_law 361 = .ok (.iaload, 1) := by decide +kernel
theorem dL_law_362 : decode cL_law 362 = .ok (.aload_n 0, 1) := by decide +kernel
theorem dL_law_363 : decode cL_law 363 = .ok (.iload 4, 2) := by decide +kernel
theorem dL_law_365 : decode cL_law 365 = .ok (.iconst 3, 1) := by decide +kernel
theorem dL_law_366 : decode cL_law 366 = .ok (.iadd, 1) := by decide +kernel
theorem dL_law_367 : decode cL_law 367 = .ok (.iaload, 1) := by decide +kernel
theorem dL_law_368 : decode cL_law 368 = .ok (.invokevirtual 39, 3) := by decide +kernel
theorem dL_law_371 : decode cL_law 371 = .ok (.if_icmp .eq 1213, 3) := by decide +kernel
theorem dL_law_374 : decode cL_law 374 = .ok (.iconst 0, 1) := by decide +kernel
theorem dL_law_375 : decode cL_law 375 = .ok (.ireturn, 1) := by decide +kernel
theorem dL_law_376 : decode cL_law 376 = .ok (.aload_n 1, 1) := by decide +kernel
theorem dL_law_377 : decode cL_law 377 = .ok (.aload_n 0, 1) := by decide +kernel
theorem dL_law_378 : decode cL_law 378 = .ok (.iload 4, 2) := by decide +kernel
theorem dL_law_380 : decode cL_law 380 = .ok (.iconst 1, 1) := by decide +kernel
theorem dL_law_381 : decode cL_law 381 = .ok (.iadd, 1) := by decide +kernel
theorem dL_law_382 : decode cL_law 382 = .ok (.iaload, 1) := by decide +kernel
theorem dL_law_383 : decode cL_law 383 = .ok (.invokevirtual 40, 3) := by decide +kernel
theorem dL_law_386 : decode cL_law 386 = .ok (.aload_n 2, 1) := by decide +kernel
theorem dL_law_387 : decode cL_law 387 = .ok (.aload_n 0, 1) := by decide +kernel
theorem dL_law_388 : decode cL_law 388 = .ok (.iload 4, 2) := by decide +kernel
theorem dL_law_390 : decode cL_law 390 = .ok (.iconst 1, 1) := by decide +kernel
theorem dL_law_391 : decode cL_law 391 = .ok (.iadd, 1) := by decide +kernel
theorem dL_law_392 : decode cL_law 392 = .ok (.iaload, 1) := by decide +kernel
theorem dL_law_393 : decode cL_law 393 = .ok (.invokevirtual 43, 3) := by decide +kernel
theorem dL_law_396 : decode cL_law 396 = .ok (.if_icmp .eq 1188, 3) := by decide +kernel
theorem dL_law_399 : decode cL_law 399 = .ok (.iconst 0, 1) := by decide +kernel
theorem dL_law_400 : decode cL_law 400 = .ok (.ireturn, 1) := by decide +kernel
theorem dL_law_401 : decode cL_law 401 = .ok (.aload_n 1, 1) := by decide +kernel
theorem dL_law_402 : decode cL_law 402 = .ok (.aload_n 0, 1) := by decide +kernel
theorem dL_law_403 : decode cL_law 403 = .ok (.iload 4, 2) := by decide +kernel
theorem dL_law_405 : decode cL_law 405 = .ok (.iconst 1, 1) := by decide +kernel
theorem dL_law_406 : decode cL_law 406 = .ok (.iadd, 1) := by decide +kernel
theorem dL_law_407 : decode cL_law 407 = .ok (.iaload, 1) := by decide +kernel
theorem dL_law_408 : decode cL_law 408 = .ok (.aload_n 0, 1) := by decide +kernel
theorem dL_law_409 : decode cL_law 409 = .ok (.iload 4, 2) := by decide +kernel
theorem dL_law_411 : decode cL_law 411 = .ok (.iconst 2, 1) := by decide +kernel
theorem dL_law_412 : decode cL_law 412 = .ok (.iadd, 1) := by decide +kernel
theorem dL_law_413 : decode cL_law 413 = .ok (.iaload, 1) := by decide +kernel
theorem dL_law_414 : decode cL_law 414 = .ok (.invokevirtual 44, 3) := by decide +kernel
theorem dL_law_417 : decode cL_law 417 = .ok (.aload_n 2, 1) := by decide +kernel
theorem dL_law_418 : decode cL_law 418 = .ok (.aload_n 0, 1) := by decide +kernel
theorem dL_law_419 : decode cL_law 419 = .ok (.iload 4, 2) := by decide +kernel
theorem dL_law_421 : decode cL_law 421 = .ok (.iconst 1, 1) := by decide +kernel
theorem dL_law_422 : decode cL_law 422 = .ok (.iadd, 1) := by decide +kernel
theorem dL_law_423 : decode cL_law 423 = .ok (.iaload, 1) := by decide +kernel
theorem dL_law_424 : decode cL_law 424 = .ok (.aload_n 0, 1) := by decide +kernel
theorem dL_law_425 : decode cL_law 425 = .ok (.iload 4, 2) := by decide +kernel
theorem dL_law_427 : decode cL_law 427 = .ok (.iconst 2, 1) := by decide +kernel
theorem dL_law_428 : decode cL_law 428 = .ok (.iadd, 1) := by decide +kernel
theorem dL_law_429 : decode cL_law 429 = .ok (.iaload, 1) := by decide +kernel
theorem dL_law_430 : decode cL_law 430 = .ok (.invokevirtual 47, 3) := by decide +kernel
theorem dL_law_433 : decode cL_law 433 = .ok (.if_icmp .eq 1151, 3) := by decide +kernel
theorem dL_law_436 : decode cL_law 436 = .ok (.iconst 0, 1) := by decide +kernel
theorem dL_law_437 : decode cL_law 437 = .ok (.ireturn, 1) := by decide +kernel
theorem dL_law_438 : decode cL_law 438 = .ok (.aload_n 1, 1) := by decide +kernel
theorem dL_law_439 : decode cL_law 439 = .ok (.aload_n 0, 1) := by decide +kernel
theorem dL_law_440 : decode cL_law 440 = .ok (.iload 4, 2) := by decide +kernel
theorem dL_law_442 : decode cL_law 442 = .ok (.iconst 1, 1) := by decide +kernel
theorem dL_law_443 : decode cL_law 443 = .ok (.iadd, 1) := by decide +kernel
theorem dL_law_444 : decode cL_law 444 = .ok (.iaload, 1) := by decide +kernel
theorem dL_law_445 : decode cL_law 445 = .ok (.aload_n 0, 1) := by decide +kernel
theorem dL_law_446 : decode cL_law 446 = .ok (.iload 4, 2) := by decide +kernel
theorem dL_law_448 : decode cL_law 448 = .ok (.iconst 2, 1) := by decide +kernel
theorem dL_law_449 : decode cL_law 449 = .ok (.iadd, 1) := by decide +kernel
theorem dL_law_450 : decode cL_law 450 = .ok (.iaload, 1) := by decide +kernel
theorem dL_law_451 : decode cL_law 451 = .ok (.aload_n 0, 1) := by decide +kernel
theorem dL_law_452 : decode cL_law 452 = .ok (.iload 4, 2) := by decide +kernel
theorem dL_law_454 : decode cL_law 454 = .ok (.iconst 3, 1) := by decide +kernel
theorem dL_law_455 : decode cL_law 455 = .ok (.iadd, 1) := by decide +kernel
theorem dL_law_456 : decode cL_law 456 = .ok (.iaload, 1) := by decide +kernel
theorem dL_law_457 : decode cL_law 457 = .ok (.invokevirtual 48, 3) := by decide +kernel
theorem dL_law_460 : decode cL_law 460 = .ok (.aload_n 2, 1) := by decide +kernel
theorem dL_law_461 : decode cL_law 461 = .ok (.aload_n 0, 1) := by decide +kernel
theorem dL_law_462 : decode cL_law 462 = .ok (.iload 4, 2) := by decide +kernel
theorem dL_law_464 : decode cL_law 464 = .ok (.iconst 1, 1) := by decide +kernel
theorem dL_law_465 : decode cL_law 465 = .ok (.iadd, 1) := by decide +kernel
theorem dL_law_466 : decode cL_law 466 = .ok (.iaload, 1) := by decide +kernel
theorem dL_law_467 : decode cL_law 467 = .ok (.aload_n 0, 1) := by decide +kernel
theorem dL_law_468 : decode cL_law 468 = .ok (.iload 4, 2) := by decide +kernel
theorem dL_law_470 : decode cL_law 470 = .ok (.iconst 2, 1) := by decide +kernel
theorem dL_law_471 : decode cL_law 471 = .ok (.iadd, 1) := by decide +kernel
theorem dL_law_472 : decode cL_law 472 = .ok (.iaload, 1) := by decide +kernel
theorem dL_law_473 : decode cL_law 473 = .ok (.aload_n 0, 1) := by decide +kernel
theorem dL_law_474 : decode cL_law 474 = .ok (.iload 4, 2) := by decide +kernel
theorem dL_law_476 : decode cL_law 476 = .ok (.iconst 3, 1) := by decide +kernel
theorem dL_law_477 : decode cL_law 477 = .ok (.iadd, 1) := by decide +kernel
theorem dL_law_478 : decode cL_law 478 = .ok (.iaload, 1) := by decide +kernel
theorem dL_law_479 : decode cL_law 479 = .ok (.invokevirtual 51, 3) := by decide +kernel
theorem dL_law_482 : decode cL_law 482 = .ok (.if_icmp .eq 1102, 3) := by decide +kernel
theorem dL_law_485 : decode cL_law 485 = .ok (.iconst 0, 1) := by decide +kernel
theorem dL_law_486 : decode cL_law 486 = .ok (.ireturn, 1) := by decide +kernel
theorem dL_law_487 : decode cL_law 487 = .ok (.aload_n 1, 1) := by decide +kernel
theorem dL_law_488 : decode cL_law 488 = .ok (.aload_n 0, 1) := by decide +kernel
theorem dL_law_489 : decode cL_law 489 = .ok (.iload 4, 2) := by decide +kernel
theorem dL_law_491 : decode cL_law 491 = .ok (.iconst 1, 1) := by decide +kernel
theorem dL_law_492 : decode cL_law 492 = .ok (.iadd, 1) := by decide +kernel
theorem dL_law_493 : decode cL_law 493 = .ok (.iaload, 1) := by decide +kernel
theorem dL_law_494 : decode cL_law 494 = .ok (.invokevirtual 52, 3) := by decide +kernel
theorem dL_law_497 : decode cL_law 497 = .ok (.aload_n 2, 1) := by decide +kernel
theorem dL_law_498 : decode cL_law 498 = .ok (.aload_n 0, 1) := by decide +kernel
theorem dL_law_499 : decode cL_law 499 = .ok (.iload 4, 2) := by decide +kernel
theorem dL_law_501 : decode cL_law 501 = .ok (.iconst 1, 1) := by decide +kernel
theorem dL_law_502 : decode cL_law 502 = .ok (.iadd, 1) := by decide +kernel
theorem dL_law_503 : decode cL_law 503 = .ok (.iaload, 1) := by decide +kernel
theorem dL_law_504 : decode cL_law 504 = .ok (.invokevirtual 55, 3) := by decide +kernel
theorem dL_law_507 : decode cL_law 507 = .ok (.if_icmp .eq 1077, 3) := by decide +kernel
theorem dL_law_510 : decode cL_law 510 = .ok (.iconst 0, 1) := by decide +kernel
theorem dL_law_511 : decode cL_law 511 = .ok (.ireturn, 1) := by decide +kernel
theorem dL_law_512 : decode cL_law 512 = .ok (.aload_n 1, 1) := by decide +kernel
theorem dL_law_513 : decode cL_law 513 = .ok (.aload_n 0, 1) := by decide +kernel
theorem dL_law_514 : decode cL_law 514 = .ok (.iload 4, 2) := by decide +kernel
theorem dL_law_516 : decode cL_law 516 = .ok (.iconst 1, 1) := by decide +kernel
theorem dL_law_517 : decode cL_law 517 = .ok (.iadd, 1) := by decide +kernel
theorem dL_law_518 : decode cL_law 518 = .ok (.iaload, 1) := by decide +kernel
theorem dL_law_519 : decode cL_law 519 = .ok (.invokevirtual 56, 3) := by decide +kernel
theorem dL_law_522 : decode cL_law 522 = .ok (.aload_n 2, 1) := by decide +kernel
theorem dL_law_523 : decode cL_law 523 = .ok (.aload_n 0, 1) := by decide +kernel
theorem dL_law_524 : decode cL_law 524 = .ok (.iload 4, 2) := by decide +kernel
theorem dL_law_526 : decode cL_law 526 = .ok (.iconst 1, 1) := by decide +kernel
theorem dL_law_527 : decode cL_law 527 = .ok (.iadd, 1) := by decide +kernel
theorem dL_law_528 : decode cL_law 528 = .ok (.iaload, 1) := by decide +kernel
theorem dL_law_529 : decode cL_law 529 = .ok (.invokevirtual 59, 3) := by decide +kernel
theorem dL_law_532 : decode cL_law 532 = .ok (.if_icmp .eq 1052, 3) := by decide +kernel
theorem dL_law_535 : decode cL_law 535 = .ok (.iconst 0, 1) := by decide +kernel
theorem dL_law_536 : decode cL_law 536 = .ok (.ireturn, 1) := by decide +kernel
theorem dL_law_537 : decode cL_law 537 = .ok (.aload_n 1, 1) := by decide +kernel
theorem dL_law_538 : decode cL_law 538 = .ok (.aload_n 0, 1) := by decide +kernel
theorem dL_law_539 : decode cL_law 539 = .ok (.iload 4, 2) := by decide +kernel
theorem dL_law_541 : decode cL_law 541 = .ok (.iconst 1, 1) := by decide +kernel
theorem dL_law_542 : decode cL_law 542 = .ok (.iadd, 1) := by decide +kernel
theorem dL_law_543 : decode cL_law 543 = .ok (.iaload, 1) := by decide +kernel
theorem dL_law_544 : decode cL_law 544 = .ok (.invokevirtual 60, 3) := by decide +kernel
theorem dL_law_547 : decode cL_law 547 = .ok (.aload_n 2, 1) := by decide +kernel
theorem dL_law_548 : decode cL_law 548 = .ok (.aload_n 0, 1) := by decide +kernel
theorem dL_law_549 : decode cL_law 549 = .ok (.iload 4, 2) := by decide +kernel
theorem dL_law_551 : decode cL_law 551 = .ok (.iconst 1, 1) := by decide +kernel
theorem dL_law_552 : decode cL_law 552 = .ok (.iadd, 1) := by decide +kernel
theorem dL_law_553 : decode cL_law 553 = .ok (.iaload, 1) := by decide +kernel
theorem dL_law_554 : decode cL_law 554 = .ok (.invokevirtual 63, 3) := by decide +kernel
theorem dL_law_557 : decode cL_law 557 = .ok (.if_icmp .eq 1027, 3) := by decide +kernel
theorem dL_law_560 : decode cL_law 560 = .ok (.iconst 0, 1) := by decide +kernel
theorem dL_law_561 : decode cL_law 561 = .ok (.ireturn, 1) := by decide +kernel
theorem dL_law_562 : decode cL_law 562 = .ok (.aload_n 1, 1) := by decide +kernel
theorem dL_law_563 : decode cL_law 563 = .ok (.aload_n 0, 1) := by decide +kernel
theorem dL_law_564 : decode cL_law 564 = .ok (.iload 4, 2) := by decide +kernel
theorem dL_law_566 : decode cL_law 566 = .ok (.iconst 1, 1) := by decide +kernel
theorem dL_law_567 : decode cL_law 567 = .ok (.iadd, 1) := by decide +kernel
theorem dL_law_568 : decode cL_law 568 = .ok (.iaload, 1) := by decide +kernel
theorem dL_law_569 : decode cL_law 569 = .ok (.invokevirtual 64, 3) := by decide +kernel
theorem dL_law_572 : decode cL_law 572 = .ok (.aload_n 2, 1) := by decide +kernel
theorem dL_law_573 : decode cL_law 573 = .ok (.aload_n 0, 1) := by decide +kernel
theorem dL_law_574 : decode cL_law 574 = .ok (.iload 4, 2) := by decide +kernel
theorem dL_law_576 : decode cL_law 576 = .ok (.iconst 1, 1) := by decide +kernel
theorem dL_law_577 : decode cL_law 577 = .ok (.iadd, 1) := by decide +kernel
theorem dL_law_578 : decode cL_law 578 = .ok (.iaload, 1) := by decide +kernel
theorem dL_law_579 : decode cL_law 579 = .ok (.invokevirtual 67, 3) := by decide +kernel
theorem dL_law_582 : decode cL_law 582 = .ok (.if_icmp .eq 1002, 3) := by decide +kernel
theorem dL_law_585 : decode cL_law 585 = .ok (.iconst 0, 1) := by decide +kernel
theorem dL_law_586 : decode cL_law 586 = .ok (.ireturn, 1) := by decide +kernel
theorem dL_law_587 : decode cL_law 587 = .ok (.aload_n 1, 1) := by decide +kernel
theorem dL_law_588 : decode cL_law 588 = .ok (.aload_n 0, 1) := by decide +kernel
theorem dL_law_589 : decode cL_law 589 = .ok (.iload 4, 2) := by decide +kernel
theorem dL_law_591 : decode cL_law 591 = .ok (.iconst 1, 1) := by decide +kernel
theorem dL_law_592 : decode cL_law 592 = .ok (.iadd, 1) := by decide +kernel
theorem dL_law_593 : decode cL_law 593 = .ok (.iaload, 1) := by decide +kernel
theorem dL_law_594 : decode cL_law 594 = .ok (.invokevirtual 68, 3) := by decide +kernel
theorem dL_law_597 : decode cL_law 597 = .ok (.aload_n 2, 1) := by decide +kernel
theorem dL_law_598 : decode cL_law 598 = .ok (.aload_n 0, 1) := by decide +kernel
theorem dL_law_599 : decode cL_law 599 = .ok (.iload 4, 2) := by decide +kernel
theorem dL_law_601 : decode cL_law 601 = .ok (.iconst 1, 1) := by decide +kernel
theorem dL_law_602 : decode cL_law 602 = .ok (.iadd, 1) := by decide +kernel
theorem dL_law_603 : decode cL_law 603 = .ok (.iaload, 1) := by decide +kernel
theorem dL_law_604 : decode cL_law 604 = .ok (.invokevirtual 71, 3) := by decide +kernel
theorem dL_law_607 : decode cL_law 607 = .ok (.if_icmp .eq 977, 3) := by decide +kernel
theorem dL_law_610 : decode cL_law 610 = .ok (.iconst 0, 1) := by decide +kernel
theorem dL_law_611 : decode cL_law 611 = .ok (.ireturn, 1) := by decide +kernel
theorem dL_law_612 : decode cL_law 612 = .ok (.aload_n 1, 1) := by decide +kernel
theorem dL_law_613 : decode cL_law 613 = .ok (.aload_n 0, 1) := by decide +kernel
theorem dL_law_614 : decode cL_law 614 = .ok (.iload 4, 2) := by decide +kernel
theorem dL_law_616 : decode cL_law 616 = .ok (.iconst 1, 1) := by decide +kernel
theorem dL_law_617 : decode cL_law 617 = .ok (.iadd, 1) := by decide +kernel
theorem dL_law_618 : decode cL_law 618 = .ok (.iaload, 1) := by decide +kernel
theorem dL_law_619 : decode cL_law 619 = .ok (.aload_n 0, 1) := by decide +kernel
theorem dL_law_620 : decode cL_law 620 = .ok (.iload 4, 2) := by decide +kernel
theorem dL_law_622 : decode cL_law 622 = .ok (.iconst 2, 1) := by decide +kernel
theorem dL_law_623 : decode cL_law 623 = .ok (.iadd, 1) := by decide +kernel
theorem dL_law_624 : decode cL_law 624 = .ok (.iaload, 1) := by decide +kernel
theorem dL_law_625 : decode cL_law 625 = .ok (.invokevirtual 72, 3) := by decide +kernel
theorem dL_law_628 : decode cL_law 628 = .ok (.aload_n 2, 1) := by decide +kernel
theorem dL_law_629 : decode cL_law 629 = .ok (.aload_n 0, 1) := by decide +kernel
theorem dL_law_630 : decode cL_law 630 = .ok (.iload 4, 2) := by decide +kernel
theorem dL_law_632 : decode cL_law 632 = .ok (.iconst 1, 1) := by decide +kernel
theorem dL_law_633 : decode cL_law 633 = .ok (.iadd, 1) := by decide +kernel
theorem dL_law_634 : decode cL_law 634 = .ok (.iaload, 1) := by decide +kernel
theorem dL_law_635 : decode cL_law 635 = .ok (.aload_n 0, 1) := by decide +kernel
theorem dL_law_636 : decode cL_law 636 = .ok (.iload 4, 2) := by decide +kernel
theorem dL_law_638 : decode cL_law 638 = .ok (.iconst 2, 1) := by decide +kernel
theorem dL_law_639 : decode cL_law 639 = .ok (.iadd, 1) := by decide +kernel
theorem dL_law_640 : decode cL_law 640 = .ok (.iaload, 1) := by decide +kernel
theorem dL_law_641 : decode cL_law 641 = .ok (.invokevirtual 75, 3) := by decide +kernel
theorem dL_law_644 : decode cL_law 644 = .ok (.if_icmp .eq 940, 3) := by decide +kernel
theorem dL_law_647 : decode cL_law 647 = .ok (.iconst 0, 1) := by decide +kernel
theorem dL_law_648 : decode cL_law 648 = .ok (.ireturn, 1) := by decide +kernel
theorem dL_law_649 : decode cL_law 649 = .ok (.aload_n 1, 1) := by decide +kernel
theorem dL_law_650 : decode cL_law 650 = .ok (.aload_n 0, 1) := by decide +kernel
theorem dL_law_651 : decode cL_law 651 = .ok (.iload 4, 2) := by decide +kernel
theorem dL_law_653 : decode cL_law 653 = .ok (.iconst 1, 1) := by decide +kernel
theorem dL_law_654 : decode cL_law 654 = .ok (.iadd, 1) := by decide +kernel
theorem dL_law_655 : decode cL_law 655 = .ok (.iaload, 1) := by decide +kernel
theorem dL_law_656 : decode cL_law 656 = .ok (.invokevirtual 76, 3) := by decide +kernel
theorem dL_law_659 : decode cL_law 659 = .ok (.aload_n 2, 1) := by decide +kernel
theorem dL_law_660 : decode cL_law 660 = .ok (.aload_n 0, 1) := by decide +kernel
theorem dL_law_661 : decode cL_law 661 = .ok (.iload 4, 2) := by decide +kernel
theorem dL_law_663 : decode cL_law 663 = .ok (.iconst 1, 1) := by decide +kernel
theorem dL_law_664 : decode cL_law 664 = .ok (.iadd, 1) := by decide +kernel
theorem dL_law_665 : decode cL_law 665 = .ok (.iaload, 1) := by decide +kernel
theorem dL_law_666 : decode cL_law 666 = .ok (.invokevirtual 79, 3) := by decide +kernel
theorem dL_law_669 : decode cL_law 669 = .ok (.if_icmp .eq 915, 3) := by decide +kernel
theorem dL_law_672 : decode cL_law 672 = .ok (.iconst 0, 1) := by decide +kernel
theorem dL_law_673 : decode cL_law 673 = .ok (.ireturn, 1) := by decide +kernel
theorem dL_law_674 : decode cL_law 674 = .ok (.aload_n 1, 1) := by decide +kernel
theorem dL_law_675 : decode cL_law 675 = .ok (.invokevirtual 80, 3) := by decide +kernel
theorem dL_law_678 : decode cL_law 678 = .ok (.aload_n 2, 1) := by decide +kernel
theorem dL_law_679 : decode cL_law 679 = .ok (.invokevirtual 84, 3) := by decide +kernel
theorem dL_law_682 : decode cL_law 682 = .ok (.if_icmp .eq 902, 3) := by decide +kernel
theorem dL_law_685 : decode cL_law 685 = .ok (.iconst 0, 1) := by decide +kernel
theorem dL_law_686 : decode cL_law 686 = .ok (.ireturn, 1) := by decide +kernel
theorem dL_law_687 : decode cL_law 687 = .ok (.aload_n 1, 1) := by decide +kernel
theorem dL_law_688 : decode cL_law 688 = .ok (.aload_n 0, 1) := by decide +kernel
theorem dL_law_689 : decode cL_law 689 = .ok (.iload 4, 2) := by decide +kernel
theorem dL_law_691 : decode cL_law 691 = .ok (.iconst 1, 1) := by decide +kernel
theorem dL_law_692 : decode cL_law 692 = .ok (.iadd, 1) := by decide +kernel
theorem dL_law_693 : decode cL_law 693 = .ok (.iaload, 1) := by decide +kernel
theorem dL_law_694 : decode cL_law 694 = .ok (.invokevirtual 85, 3) := by decide +kernel
theorem dL_law_697 : decode cL_law 697 = .ok (.aload_n 2, 1) := by decide +kernel
theorem dL_law_698 : decode cL_law 698 = .ok (.aload_n 0, 1) := by decide +kernel
theorem dL_law_699 : decode cL_law 699 = .ok (.iload 4, 2) := by decide +kernel
theorem dL_law_701 : decode cL_law 701 = .ok (.iconst 1, 1) := by decide +kernel
theorem dL_law_702 : decode cL_law 702 = .ok (.iadd, 1) := by decide +kernel
theorem dL_law_703 : decode cL_law 703 = .ok (.iaload, 1) := by decide +kernel
theorem dL_law_704 : decode cL_law 704 = .ok (.invokevirtual 88, 3) := by decide +kernel
theorem dL_law_707 : decode cL_law 707 = .ok (.if_icmp .eq 877, 3) := by decide +kernel
theorem dL_law_710 : decode cL_law 710 = .ok (.iconst 0, 1) := by decide +kernel
theorem dL_law_711 : decode cL_law 711 = .ok (.ireturn, 1) := by decide +kernel
theorem dL_law_712 : decode cL_law 712 = .ok (.aload_n 1, 1) := by decide +kernel
theorem dL_law_713 : decode cL_law 713 = .ok (.aload_n 0, 1) := by decide +kernel
theorem dL_law_714 : decode cL_law 714 = .ok (.iload 4, 2) := by decide +kernel
theorem dL_law_716 : decode cL_law 716 = .ok (.iconst 1, 1) := by decide +kernel
theorem dL_law_717 : decode cL_law 717 = .ok (.iadd, 1) := by decide +kernel
theorem dL_law_718 : decode cL_law 718 = .ok (.iaload, 1) := by decide +kernel
theorem dL_law_719 : decode cL_law 719 = .ok (.invokevirtual 89, 3) := by decide +kernel
theorem dL_law_722 : decode cL_law 722 = .ok (.aload_n 2, 1) := by decide +kernel
theorem dL_law_723 : decode cL_law 723 = .ok (.aload_n 0, 1) := by decide +kernel
theorem dL_law_724 : decode cL_law 724 = .ok (.iload 4, 2) := by decide +kernel
theorem dL_law_726 : decode cL_law 726 = .ok (.iconst 1, 1) := by decide +kernel
theorem dL_law_727 : decode cL_law 727 = .ok (.iadd, 1) := by decide +kernel
theorem dL_law_728 : decode cL_law 728 = .ok (.iaload, 1) := by decide +kernel
theorem dL_law_729 : decode cL_law 729 = .ok (.invokevirtual 92, 3) := by decide +kernel
theorem dL_law_732 : decode cL_law 732 = .ok (.if_icmp .eq 852, 3) := by decide +kernel
theorem dL_law_735 : decode cL_law 735 = .ok (.iconst 0, 1) := by decide +kernel
theorem dL_law_736 : decode cL_law 736 = .ok (.ireturn, 1) := by decide +kernel
theorem dL_law_737 : decode cL_law 737 = .ok (.aload_n 1, 1) := by decide +kernel
theorem dL_law_738 : decode cL_law 738 = .ok (.aload_n 0, 1) := by decide +kernel
theorem dL_law_739 : decode cL_law 739 = .ok (.iload 4, 2) := by decide +kernel
theorem dL_law_741 : decode cL_law 741 = .ok (.iconst 1, 1) := by decide +kernel
theorem dL_law_742 : decode cL_law 742 = .ok (.iadd, 1) := by decide +kernel
theorem dL_law_743 : decode cL_law 743 = .ok (.iaload, 1) := by decide +kernel
theorem dL_law_744 : decode cL_law 744 = .ok (.aload_n 0, 1) := by decide +kernel
theorem dL_law_745 : decode cL_law 745 = .ok (.iload 4, 2) := by decide +kernel
theorem dL_law_747 : decode cL_law 747 = .ok (.iconst 2, 1) := by decide +kernel
theorem dL_law_748 : decode cL_law 748 = .ok (.iadd, 1) := by decide +kernel
theorem dL_law_749 : decode cL_law 749 = .ok (.iaload, 1) := by decide +kernel
theorem dL_law_750 : decode cL_law 750 = .ok (.invokevirtual 93, 3) := by decide +kernel
theorem dL_law_753 : decode cL_law 753 = .ok (.aload_n 2, 1) := by decide +kernel
theorem dL_law_754 : decode cL_law 754 = .ok (.aload_n 0, 1) := by decide +kernel
theorem dL_law_755 : decode cL_law 755 = .ok (.iload 4, 2) := by decide +kernel
theorem dL_law_757 : decode cL_law 757 = .ok (.iconst 1, 1) := by decide +kernel
theorem dL_law_758 : decode cL_law 758 = .ok (.iadd, 1) := by decide +kernel
theorem dL_law_759 : decode cL_law 759 = .ok (.iaload, 1) := by decide +kernel
theorem dL_law_760 : decode cL_law 760 = .ok (.aload_n 0, 1) := by decide +kernel
theorem dL_law_761 : decode cL_law 761 = .ok (.iload 4, 2) := by decide +kernel
theorem dL_law_763 : decode cL_law 763 = .ok (.iconst 2, 1) := by decide +kernel
theorem dL_law_764 : decode cL_law 764 = .ok (.iadd, 1) := by decide +kernel
theorem dL_law_765 : decode cL_law 765 = .ok (.iaload, 1) := by decide +kernel
theorem dL_law_766 : decode cL_law 766 = .ok (.invokevirtual 96, 3) := by decide +kernel
theorem dL_law_769 : decode cL_law 769 = .ok (.if_icmp .eq 815, 3) := by decide +kernel
theorem dL_law_772 : decode cL_law 772 = .ok (.iconst 0, 1) := by decide +kernel
theorem dL_law_773 : decode cL_law 773 = .ok (.ireturn, 1) := by decide +kernel
theorem dL_law_774 : decode cL_law 774 = .ok (.aload_n 1, 1) := by decide +kernel
theorem dL_law_775 : decode cL_law 775 = .ok (.aload_n 0, 1) := by decide +kernel
theorem dL_law_776 : decode cL_law 776 = .ok (.iload 4, 2) := by decide +kernel
theorem dL_law_778 : decode cL_law 778 = .ok (.iconst 1, 1) := by decide +kernel
theorem dL_law_779 : decode cL_law 779 = .ok (.iadd, 1) := by decide +kernel
theorem dL_law_780 : decode cL_law 780 = .ok (.iaload, 1) := by decide +kernel
theorem dL_law_781 : decode cL_law 781 = .ok (.invokevirtual 97, 3) := by decide +kernel
theorem dL_law_784 : decode cL_law 784 = .ok (.aload_n 2, 1) := by decide +kernel
theorem dL_law_785 : decode cL_law 785 = .ok (.aload_n 0, 1) := by decide +kernel
theorem dL_law_786 : decode cL_law 786 = .ok (.iload 4, 2) := by decide +kernel
theorem dL_law_788 : decode cL_law 788 = .ok (.iconst 1, 1) := by decide +kernel
theorem dL_law_789 : decode cL_law 789 = .ok (.iadd, 1) := by decide +kernel
theorem dL_law_790 : decode cL_law 790 = .ok (.iaload, 1) := by decide +kernel
theorem dL_law_791 : decode cL_law 791 = .ok (.invokevirtual 100, 3) := by decide +kernel
theorem dL_law_794 : decode cL_law 794 = .ok (.if_icmp .eq 790, 3) := by decide +kernel
theorem dL_law_797 : decode cL_law 797 = .ok (.iconst 0, 1) := by decide +kernel
theorem dL_law_798 : decode cL_law 798 = .ok (.ireturn, 1) := by decide +kernel
theorem dL_law_799 : decode cL_law 799 = .ok (.aload_n 1, 1) := by decide +kernel
theorem dL_law_800 : decode cL_law 800 = .ok (.aload_n 0, 1) := by decide +kernel
theorem dL_law_801 : decode cL_law 801 = .ok (.iload 4, 2) := by decide +kernel
theorem dL_law_803 : decode cL_law 803 = .ok (.iconst 1, 1) := by decide +kernel
theorem dL_law_804 : decode cL_law 804 = .ok (.iadd, 1) := by decide +kernel
theorem dL_law_805 : decode cL_law 805 = .ok (.iaload, 1) := by decide +kernel
theorem dL_law_806 : decode cL_law 806 = .ok (.invokevirtual 101, 3) := by decide +kernel
theorem dL_law_809 : decode cL_law 809 = .ok (.aload_n 2, 1) := by decide +kernel
theorem dL_law_810 : decode cL_law 810 = .ok (.aload_n 0, 1) := by decide +kernel
theorem dL_law_811 : decode cL_law 811 = .ok (.iload 4, 2) := by decide +kernel
theorem dL_law_813 : decode cL_law 813 = .ok (.iconst 1, 1) := by decide +kernel
theorem dL_law_814 : decode cL_law 814 = .ok (.iadd, 1) := by decide +kernel
theorem dL_law_815 : decode cL_law 815 = .ok (.iaload, 1) := by decide +kernel
theorem dL_law_816 : decode cL_law 816 = .ok (.invokevirtual 104, 3) := by decide +kernel
theorem dL_law_819 : decode cL_law 819 = .ok (.if_icmp .eq 765, 3) := by decide +kernel
theorem dL_law_822 : decode cL_law 822 = .ok (.iconst 0, 1) := by decide +kernel
theorem dL_law_823 : decode cL_law 823 = .ok (.ireturn, 1) := by decide +kernel
theorem dL_law_824 : decode cL_law 824 = .ok (.aload_n 1, 1) := by decide +kernel
theorem dL_law_825 : decode cL_law 825 = .ok (.aload_n 0, 1) := by decide +kernel
theorem dL_law_826 : decode cL_law 826 = .ok (.iload 4, 2) := by decide +kernel
theorem dL_law_828 : decode cL_law 828 = .ok (.iconst 1, 1) := by decide +kernel
theorem dL_law_829 : decode cL_law 829 = .ok (.iadd, 1) := by decide +kernel
theorem dL_law_830 : decode cL_law 830 = .ok (.iaload, 1) := by decide +kernel
theorem dL_law_831 : decode cL_law 831 = .ok (.aload_n 0, 1) := by decide +kernel
theorem dL_law_832 : decode cL_law 832 = .ok (.iload 4, 2) := by decide +kernel
theorem dL_law_834 : decode cL_law 834 = .ok (.iconst 2, 1) := by decide +kernel
theorem dL_law_835 : decode cL_law 835 = .ok (.iadd, 1) := by decide +kernel
theorem dL_law_836 : decode cL_law 836 = .ok (.iaload, 1) := by decide +kernel
theorem dL_law_837 : decode cL_law 837 = .ok (.aload_n 0, 1) := by decide +kernel
theorem dL_law_838 : decode cL_law 838 = .ok (.iload 4, 2) := by decide +kernel
theorem dL_law_840 : decode cL_law 840 = .ok (.iconst 3, 1) := by decide +kernel
theorem dL_law_841 : decode cL_law 841 = .ok (.iadd, 1) := by decide +kernel
theorem dL_law_842 : decode cL_law 842 = .ok (.iaload, 1) := by decide +kernel
theorem dL_law_843 : decode cL_law 843 = .ok (.aload_n 0, 1) := by decide +kernel
theorem dL_law_844 : decode cL_law 844 = .ok (.iload 4, 2) := by decide +kernel
theorem dL_law_846 : decode cL_law 846 = .ok (.iconst 4, 1) := by decide +kernel
theorem dL_law_847 : decode cL_law 847 = .ok (.iadd, 1) := by decide +kernel
theorem dL_law_848 : decode cL_law 848 = .ok (.iaload, 1) := by decide +kernel
theorem dL_law_849 : decode cL_law 849 = .ok (.invokevirtual 105, 3) := by decide +kernel
theorem dL_law_852 : decode cL_law 852 = .ok (.aload_n 2, 1) := by decide +kernel
theorem dL_law_853 : decode cL_law 853 = .ok (.aload_n 0, 1) := by decide +kernel
theorem dL_law_854 : decode cL_law 854 = .ok (.iload 4, 2) := by decide +kernel
theorem dL_law_856 : decode cL_law 856 = .ok (.iconst 1, 1) := by decide +kernel
theorem dL_law_857 : decode cL_law 857 = .ok (.iadd, 1) := by decide +kernel
theorem dL_law_858 : decode cL_law 858 = .ok (.iaload, 1) := by decide +kernel
theorem dL_law_859 : decode cL_law 859 = .ok (.aload_n 0, 1) := by decide +kernel
theorem dL_law_860 : decode cL_law 860 = .ok (.iload 4, 2) := by decide +kernel
theorem dL_law_862 : decode cL_law 862 = .ok (.iconst 2, 1) := by decide +kernel
theorem dL_law_863 : decode cL_law 863 = .ok (.iadd, 1) := by decide +kernel
theorem dL_law_864 : decode cL_law 864 = .ok (.iaload, 1) := by decide +kernel
theorem dL_law_865 : decode cL_law 865 = .ok (.aload_n 0, 1) := by decide +kernel
theorem dL_law_866 : decode cL_law 866 = .ok (.iload 4, 2) := by decide +kernel
theorem dL_law_868 : decode cL_law 868 = .ok (.iconst 3, 1) := by decide +kernel
theorem dL_law_869 : decode cL_law 869 = .ok (.iadd, 1) := by decide +kernel
theorem dL_law_870 : decode cL_law 870 = .ok (.iaload, 1) := by decide +kernel
theorem dL_law_871 : decode cL_law 871 = .ok (.aload_n 0, 1) := by decide +kernel
theorem dL_law_872 : decode cL_law 872 = .ok (.iload 4, 2) := by decide +kernel
theorem dL_law_874 : decode cL_law 874 = .ok (.iconst 4, 1) := by decide +kernel
theorem dL_law_875 : decode cL_law 875 = .ok (.iadd, 1) := by decide +kernel
theorem dL_law_876 : decode cL_law 876 = .ok (.iaload, 1) := by decide +kernel
theorem dL_law_877 : decode cL_law 877 = .ok (.invokevirtual 109, 3) := by decide +kernel
theorem dL_law_880 : decode cL_law 880 = .ok (.if_icmp .eq 704, 3) := by decide +kernel
theorem dL_law_883 : decode cL_law 883 = .ok (.iconst 0, 1) := by decide +kernel
theorem dL_law_884 : decode cL_law 884 = .ok (.ireturn, 1) := by decide +kernel
theorem dL_law_885 : decode cL_law 885 = .ok (.aload_n 1, 1) := by decide +kernel
theorem dL_law_886 : decode cL_law 886 = .ok (.aload_n 0, 1) := by decide +kernel
theorem dL_law_887 : decode cL_law 887 = .ok (.iload 4, 2) := by decide +kernel
theorem dL_law_889 : decode cL_law 889 = .ok (.iconst 1, 1) := by decide +kernel
theorem dL_law_890 : decode cL_law 890 = .ok (.iadd, 1) := by decide +kernel
theorem dL_law_891 : decode cL_law 891 = .ok (.iaload, 1) := by decide +kernel
theorem dL_law_892 : decode cL_law 892 = .ok (.aload_n 0, 1) := by decide +kernel
theorem dL_law_893 : decode cL_law 893 = .ok (.iload 4, 2) := by decide +kernel
theorem dL_law_895 : decode cL_law 895 = .ok (.iconst 2, 1) := by decide +kernel
theorem dL_law_896 : decode cL_law 896 = .ok (.iadd, 1) := by decide +kernel
theorem dL_law_897 : decode cL_law 897 = .ok (.iaload, 1) := by decide +kernel
theorem dL_law_898 : decode cL_law 898 = .ok (.aload_n 0, 1) := by decide +kernel
theorem dL_law_899 : decode cL_law 899 = .ok (.iload 4, 2) := by decide +kernel
theorem dL_law_901 : decode cL_law 901 = .ok (.iconst 3, 1) := by decide +kernel
theorem dL_law_902 : decode cL_law 902 = .ok (.iadd, 1) := by decide +kernel
theorem dL_law_903 : decode cL_law 903 = .ok (.iaload, 1) := by decide +kernel
theorem dL_law_904 : decode cL_law 904 = .ok (.invokevirtual 110, 3) := by decide +kernel
theorem dL_law_907 : decode cL_law 907 = .ok (.aload_n 2, 1) := by decide +kernel
theorem dL_law_908 : decode cL_law 908 = .ok (.aload_n 0, 1) := by decide +kernel
theorem dL_law_909 : decode cL_law 909 = .ok (.iload 4, 2) := by decide +kernel
theorem dL_law_911 : decode cL_law 911 = .ok (.iconst 1, 1) := by decide +kernel
theorem dL_law_912 : decode cL_law 912 = .ok (.iadd, 1) := by decide +kernel
theorem dL_law_913 : decode cL_law 913 = .ok (.iaload, 1) := by decide +kernel
theorem dL_law_914 : decode cL_law 914 = .ok (.aload_n 0, 1) := by decide +kernel
theorem dL_law_915 : decode cL_law 915 = .ok (.iload 4, 2) := by decide +kernel
theorem dL_law_917 : decode cL_law 917 = .ok (.iconst 2, 1) := by decide +kernel
theorem dL_law_918 : decode cL_law 918 = .ok (.iadd, 1) := by decide +kernel
theorem dL_law_919 : decode cL_law 919 = .ok (.iaload, 1) := by decide +kernel
theorem dL_law_920 : decode cL_law 920 = .ok (.aload_n 0, 1) := by decide +kernel
theorem dL_law_921 : decode cL_law 921 = .ok (.iload 4, 2) := by decide +kernel
theorem dL_law_923 : decode cL_law 923 = .ok (.iconst 3, 1) := by decide +kernel
theorem dL_law_924 : decode cL_law 924 = .ok (.iadd, 1) := by decide +kernel
theorem dL_law_925 : decode cL_law 925 = .ok (.iaload, 1) := by decide +kernel
theorem dL_law_926 : decode cL_law 926 = .ok (.invokevirtual 113, 3) := by decide +kernel
theorem dL_law_929 : decode cL_law 929 = .ok (.if_icmp .eq 655, 3) := by decide +kernel
theorem dL_law_932 : decode cL_law 932 = .ok (.iconst 0, 1) := by decide +kernel
theorem dL_law_933 : decode cL_law 933 = .ok (.ireturn, 1) := by decide +kernel
theorem dL_law_934 : decode cL_law 934 = .ok (.aload_n 1, 1) := by decide +kernel
theorem dL_law_935 : decode cL_law 935 = .ok (.aload_n 0, 1) := by decide +kernel
theorem dL_law_936 : decode cL_law 936 = .ok (.iload 4, 2) := by decide +kernel
theorem dL_law_938 : decode cL_law 938 = .ok (.iconst 1, 1) := by decide +kernel
theorem dL_law_939 : decode cL_law 939 = .ok (.iadd, 1) := by decide +kernel
theorem dL_law_940 : decode cL_law 940 = .ok (.iaload, 1) := by decide +kernel
theorem dL_law_941 : decode cL_law 941 = .ok (.invokevirtual 114, 3) := by decide +kernel
theorem dL_law_944 : decode cL_law 944 = .ok (.aload_n 2, 1) := by decide +kernel
theorem dL_law_945 : decode cL_law 945 = .ok (.aload_n 0, 1) := by decide +kernel
theorem dL_law_946 : decode cL_law 946 = .ok (.iload 4, 2) := by decide +kernel
theorem dL_law_948 : decode cL_law 948 = .ok (.iconst 1, 1) := by decide +kernel
theorem dL_law_949 : decode cL_law 949 = .ok (.iadd, 1) := by decide +kernel
theorem dL_law_950 : decode cL_law 950 = .ok (.iaload, 1) := by decide +kernel
theorem dL_law_951 : decode cL_law 951 = .ok (.invokevirtual 117, 3) := by decide +kernel
theorem dL_law_954 : decode cL_law 954 = .ok (.if_icmp .eq 630, 3) := by decide +kernel
theorem dL_law_957 : decode cL_law 957 = .ok (.iconst 0, 1) := by decide +kernel
theorem dL_law_958 : decode cL_law 958 = .ok (.ireturn, 1) := by decide +kernel
theorem dL_law_959 : decode cL_law 959 = .ok (.aload_n 1, 1) := by decide +kernel
theorem dL_law_960 : decode cL_law 960 = .ok (.aload_n 0, 1) := by decide +kernel
theorem dL_law_961 : decode cL_law 961 = .ok (.iload 4, 2) := by decide +kernel
theorem dL_law_963 : decode cL_law 963 = .ok (.iconst 1, 1) := by decide +kernel
theorem dL_law_964 : decode cL_law 964 = .ok (.iadd, 1) := by decide +kernel
theorem dL_law_965 : decode cL_law 965 = .ok (.iaload, 1) := by decide +kernel
theorem dL_law_966 : decode cL_law 966 = .ok (.aload_n 0, 1) := by decide +kernel
theorem dL_law_967 : decode cL_law 967 = .ok (.iload 4, 2) := by decide +kernel
theorem dL_law_969 : decode cL_law 969 = .ok (.iconst 2, 1) := by decide +kernel
theorem dL_law_970 : decode cL_law 970 = .ok (.iadd, 1) := by decide +kernel
theorem dL_law_971 : decode cL_law 971 = .ok (.iaload, 1) := by decide +kernel
theorem dL_law_972 : decode cL_law 972 = .ok (.aload_n 0, 1) := by decide +kernel
theorem dL_law_973 : decode cL_law 973 = .ok (.iload 4, 2) := by decide +kernel
theorem dL_law_975 : decode cL_law 975 = .ok (.iconst 3, 1) := by decide +kernel
theorem dL_law_976 : decode cL_law 976 = .ok (.iadd, 1) := by decide +kernel
theorem dL_law_977 : decode cL_law 977 = .ok (.iaload, 1) := by decide +kernel
theorem dL_law_978 : decode cL_law 978 = .ok (.aload_n 0, 1) := by decide +kernel
theorem dL_law_979 : decode cL_law 979 = .ok (.iload 4, 2) := by decide +kernel
theorem dL_law_981 : decode cL_law 981 = .ok (.iconst 4, 1) := by decide +kernel
theorem dL_law_982 : decode cL_law 982 = .ok (.iadd, 1) := by decide +kernel
theorem dL_law_983 : decode cL_law 983 = .ok (.iaload, 1) := by decide +kernel
theorem dL_law_984 : decode cL_law 984 = .ok (.invokevirtual 118, 3) := by decide +kernel
theorem dL_law_987 : decode cL_law 987 = .ok (.aload_n 2, 1) := by decide +kernel
theorem dL_law_988 : decode cL_law 988 = .ok (.aload_n 0, 1) := by decide +kernel
theorem dL_law_989 : decode cL_law 989 = .ok (.iload 4, 2) := by decide +kernel
theorem dL_law_991 : decode cL_law 991 = .ok (.iconst 1, 1) := by decide +kernel
theorem dL_law_992 : decode cL_law 992 = .ok (.iadd, 1) := by decide +kernel
theorem dL_law_993 : decode cL_law 993 = .ok (.iaload, 1) := by decide +kernel
theorem dL_law_994 : decode cL_law 994 = .ok (.aload_n 0, 1) := by decide +kernel
theorem dL_law_995 : decode cL_law 995 = .ok (.iload 4, 2) := by decide +kernel
theorem dL_law_997 : decode cL_law 997 = .ok (.iconst 2, 1) := by decide +kernel
theorem dL_law_998 : decode cL_law 998 = .ok (.iadd, 1) := by decide +kernel
theorem dL_law_999 : decode cL_law 999 = .ok (.iaload, 1) := by decide +kernel
theorem dL_law_1000 : decode cL_law 1000 = .ok (.aload_n 0, 1) := by decide +kernel
theorem dL_law_1001 : decode cL_law 1001 = .ok (.iload 4, 2) := by decide +kernel
theorem dL_law_1003 : decode cL_law 1003 = .ok (.iconst 3, 1) := by decide +kernel
theorem dL_law_1004 : decode cL_law 1004 = .ok (.iadd, 1) := by decide +kernel
theorem dL_law_1005 : decode cL_law 1005 = .ok (.iaload, 1) := by decide +kernel
theorem dL_law_1006 : decode cL_law 1006 = .ok (.aload_n 0, 1) := by decide +kernel
theorem dL_law_1007 : decode cL_law 1007 = .ok (.iload 4, 2) := by decide +kernel
theorem dL_law_1009 : decode cL_law 1009 = .ok (.iconst 4, 1) := by decide +kernel
theorem dL_law_1010 : decode cL_law 1010 = .ok (.iadd, 1) := by decide +kernel
theorem dL_law_1011 : decode cL_law 1011 = .ok (.iaload, 1) := by decide +kernel
theorem dL_law_1012 : decode cL_law 1012 = .ok (.invokevirtual 122, 3) := by decide +kernel
theorem dL_law_1015 : decode cL_law 1015 = .ok (.lcmp, 1) := by decide +kernel
theorem dL_law_1016 : decode cL_law 1016 = .ok (.ifCond .eq 568, 3) := by decide +kernel
theorem dL_law_1019 : decode cL_law 1019 = .ok (.iconst 0, 1) := by decide +kernel
theorem dL_law_1020 : decode cL_law 1020 = .ok (.ireturn, 1) := by decide +kernel
theorem dL_law_1021 : decode cL_law 1021 = .ok (.aload_n 1, 1) := by decide +kernel
theorem dL_law_1022 : decode cL_law 1022 = .ok (.aload_n 0, 1) := by decide +kernel
theorem dL_law_1023 : decode cL_law 1023 = .ok (.iload 4, 2) := by decide +kernel
theorem dL_law_1025 : decode cL_law 1025 = .ok (.iconst 1, 1) := by decide +kernel
theorem dL_law_1026 : decode cL_law 1026 = .ok (.iadd, 1) := by decide +kernel
theorem dL_law_1027 : decode cL_law 1027 = .ok (.iaload, 1) := by decide +kernel
theorem dL_law_1028 : decode cL_law 1028 = .ok (.invokevirtual 123, 3) := by decide +kernel
theorem dL_law_1031 : decode cL_law 1031 = .ok (.aload_n 2, 1) := by decide +kernel
theorem dL_law_1032 : decode cL_law 1032 = .ok (.aload_n 0, 1) := by decide +kernel
theorem dL_law_1033 : decode cL_law 1033 = .ok (.iload 4, 2) := by decide +kernel
theorem dL_law_1035 : decode cL_law 1035 = .ok (.iconst 1, 1) := by decide +kernel
theorem dL_law_1036 : decode cL_law 1036 = .ok (.iadd, 1) := by decide +kernel
theorem dL_law_1037 : decode cL_law 1037 = .ok (.iaload, 1) := by decide +kernel
theorem dL_law_1038 : decode cL_law 1038 = .ok (.invokevirtual 127, 3) := by decide +kernel
theorem dL_law_1041 : decode cL_law 1041 = .ok (.lcmp, 1) := by decide +kernel
theorem dL_law_1042 : decode cL_law 1042 = .ok (.ifCond .eq 542, 3) := by decide +kernel
theorem dL_law_1045 : decode cL_law 1045 = .ok (.iconst 0, 1) := by decide +kernel
theorem dL_law_1046 : decode cL_law 1046 = .ok (.ireturn, 1) := by decide +kernel
theorem dL_law_1047 : decode cL_law 1047 = .ok (.aload_n 1, 1) := by decide +kernel
theorem dL_law_1048 : decode cL_law 1048 = .ok (.invokevirtual 128, 3) := by decide +kernel
theorem dL_law_1051 : decode cL_law 1051 = .ok (.aload_n 2, 1) := by decide +kernel
theorem dL_law_1052 : decode cL_law 1052 = .ok (.invokevirtual 131, 3) := by decide +kernel
theorem dL_law_1055 : decode cL_law 1055 = .ok (.if_icmp .eq 529, 3) := by decide +kernel
theorem dL_law_1058 : decode cL_law 1058 = .ok (.iconst 0, 1) := by decide +kernel
theorem dL_law_1059 : decode cL_law 1059 = .ok (.ireturn, 1) := by decide +kernel
theorem dL_law_1060 : decode cL_law 1060 = .ok (.aload_n 1, 1) := by decide +kernel
theorem dL_law_1061 : decode cL_law 1061 = .ok (.aload_n 0, 1) := by decide +kernel
theorem dL_law_1062 : decode cL_law 1062 = .ok (.iload 4, 2) := by decide +kernel
theorem dL_law_1064 : decode cL_law 1064 = .ok (.iconst 1, 1) := by decide +kernel
theorem dL_law_1065 : decode cL_law 1065 = .ok (.iadd, 1) := by decide +kernel
theorem dL_law_1066 : decode cL_law 1066 = .ok (.iaload, 1) := by decide +kernel
theorem dL_law_1067 : decode cL_law 1067 = .ok (.invokevirtual 132, 3) := by decide +kernel
theorem dL_law_1070 : decode cL_law 1070 = .ok (.aload_n 2, 1) := by decide +kernel
theorem dL_law_1071 : decode cL_law 1071 = .ok (.aload_n 0, 1) := by decide +kernel
theorem dL_law_1072 : decode cL_law 1072 = .ok (.iload 4, 2) := by decide +kernel
theorem dL_law_1074 : decode cL_law 1074 = .ok (.iconst 1, 1) := by decide +kernel
theorem dL_law_1075 : decode cL_law 1075 = .ok (.iadd, 1) := by decide +kernel
theorem dL_law_1076 : decode cL_law 1076 = .ok (.iaload, 1) := by decide +kernel
theorem dL_law_1077 : decode cL_law 1077 = .ok (.invokevirtual 135, 3) := by decide +kernel
theorem dL_law_1080 : decode cL_law 1080 = .ok (.if_icmp .eq 504, 3) := by decide +kernel
theorem dL_law_1083 : decode cL_law 1083 = .ok (.iconst 0, 1) := by decide +kernel
theorem dL_law_1084 : decode cL_law 1084 = .ok (.ireturn, 1) := by decide +kernel
theorem dL_law_1085 : decode cL_law 1085 = .ok (.aload_n 1, 1) := by decide +kernel
theorem dL_law_1086 : decode cL_law 1086 = .ok (.aload_n 0, 1) := by decide +kernel
theorem dL_law_1087 : decode cL_law 1087 = .ok (.iload 4, 2) := by decide +kernel
theorem dL_law_1089 : decode cL_law 1089 = .ok (.iconst 1, 1) := by decide +kernel
theorem dL_law_1090 : decode cL_law 1090 = .ok (.iadd, 1) := by decide +kernel
theorem dL_law_1091 : decode cL_law 1091 = .ok (.iaload, 1) := by decide +kernel
theorem dL_law_1092 : decode cL_law 1092 = .ok (.invokevirtual 136, 3) := by decide +kernel
theorem dL_law_1095 : decode cL_law 1095 = .ok (.aload_n 2, 1) := by decide +kernel
theorem dL_law_1096 : decode cL_law 1096 = .ok (.aload_n 0, 1) := by decide +kernel
theorem dL_law_1097 : decode cL_law 1097 = .ok (.iload 4, 2) := by decide +kernel
theorem dL_law_1099 : decode cL_law 1099 = .ok (.iconst 1, 1) := by decide +kernel
theorem dL_law_1100 : decode cL_law 1100 = .ok (.iadd, 1) := by decide +kernel
theorem dL_law_1101 : decode cL_law 1101 = .ok (.iaload, 1) := by decide +kernel
theorem dL_law_1102 : decode cL_law 1102 = .ok (.invokevirtual 139, 3) := by decide +kernel
theorem dL_law_1105 : decode cL_law 1105 = .ok (.if_icmp .eq 479, 3) := by decide +kernel
theorem dL_law_1108 : decode cL_law 1108 = .ok (.iconst 0, 1) := by decide +kernel
theorem dL_law_1109 : decode cL_law 1109 = .ok (.ireturn, 1) := by decide +kernel
theorem dL_law_1110 : decode cL_law 1110 = .ok (.aload_n 1, 1) := by decide +kernel
theorem dL_law_1111 : decode cL_law 1111 = .ok (.aload_n 0, 1) := by decide +kernel
theorem dL_law_1112 : decode cL_law 1112 = .ok (.iload 4, 2) := by decide +kernel
theorem dL_law_1114 : decode cL_law 1114 = .ok (.iconst 1, 1) := by decide +kernel
theorem dL_law_1115 : decode cL_law 1115 = .ok (.iadd, 1) := by decide +kernel
theorem dL_law_1116 : decode cL_law 1116 = .ok (.iaload, 1) := by decide +kernel
theorem dL_law_1117 : decode cL_law 1117 = .ok (.invokevirtual 140, 3) := by decide +kernel
theorem dL_law_1120 : decode cL_law 1120 = .ok (.aload_n 2, 1) := by decide +kernel
theorem dL_law_1121 : decode cL_law 1121 = .ok (.aload_n 0, 1) := by decide +kernel
theorem dL_law_1122 : decode cL_law 1122 = .ok (.iload 4, 2) := by decide +kernel
theorem dL_law_1124 : decode cL_law 1124 = .ok (.iconst 1, 1) := by decide +kernel
theorem dL_law_1125 : decode cL_law 1125 = .ok (.iadd, 1) := by decide +kernel
theorem dL_law_1126 : decode cL_law 1126 = .ok (.iaload, 1) := by decide +kernel
theorem dL_law_1127 : decode cL_law 1127 = .ok (.invokevirtual 143, 3) := by decide +kernel
theorem dL_law_1130 : decode cL_law 1130 = .ok (.if_icmp .eq 454, 3) := by decide +kernel
theorem dL_law_1133 : decode cL_law 1133 = .ok (.iconst 0, 1) := by decide +kernel
theorem dL_law_1134 : decode cL_law 1134 = .ok (.ireturn, 1) := by decide +kernel
theorem dL_law_1135 : decode cL_law 1135 = .ok (.aload_n 1, 1) := by decide +kernel
theorem dL_law_1136 : decode cL_law 1136 = .ok (.aload_n 0, 1) := by decide +kernel
theorem dL_law_1137 : decode cL_law 1137 = .ok (.iload 4, 2) := by decide +kernel
theorem dL_law_1139 : decode cL_law 1139 = .ok (.iconst 1, 1) := by decide +kernel
theorem dL_law_1140 : decode cL_law 1140 = .ok (.iadd, 1) := by decide +kernel
theorem dL_law_1141 : decode cL_law 1141 = .ok (.iaload, 1) := by decide +kernel
theorem dL_law_1142 : decode cL_law 1142 = .ok (.aload_n 0, 1) := by decide +kernel
theorem dL_law_1143 : decode cL_law 1143 = .ok (.iload 4, 2) := by decide +kernel
theorem dL_law_1145 : decode cL_law 1145 = .ok (.iconst 2, 1) := by decide +kernel
theorem dL_law_1146 : decode cL_law 1146 = .ok (.iadd, 1) := by decide +kernel
theorem dL_law_1147 : decode cL_law 1147 = .ok (.iaload, 1) := by decide +kernel
theorem dL_law_1148 : decode cL_law 1148 = .ok (.aload_n 0, 1) := by decide +kernel
theorem dL_law_1149 : decode cL_law 1149 = .ok (.iload 4, 2) := by decide +kernel
theorem dL_law_1151 : decode cL_law 1151 = .ok (.iconst 3, 1) := by decide +kernel
theorem dL_law_1152 : decode cL_law 1152 = .ok (.iadd, 1) := by decide +kernel
theorem dL_law_1153 : decode cL_law 1153 = .ok (.iaload, 1) := by decide +kernel
theorem dL_law_1154 : decode cL_law 1154 = .ok (.invokevirtual 144, 3) := by decide +kernel
theorem dL_law_1157 : decode cL_law 1157 = .ok (.aload_n 2, 1) := by decide +kernel
theorem dL_law_1158 : decode cL_law 1158 = .ok (.aload_n 0, 1) := by decide +kernel
theorem dL_law_1159 : decode cL_law 1159 = .ok (.iload 4, 2) := by decide +kernel
theorem dL_law_1161 : decode cL_law 1161 = .ok (.iconst 1, 1) := by decide +kernel
theorem dL_law_1162 : decode cL_law 1162 = .ok (.iadd, 1) := by decide +kernel
theorem dL_law_1163 : decode cL_law 1163 = .ok (.iaload, 1) := by decide +kernel
theorem dL_law_1164 : decode cL_law 1164 = .ok (.aload_n 0, 1) := by decide +kernel
theorem dL_law_1165 : decode cL_law 1165 = .ok (.iload 4, 2) := by decide +kernel
theorem dL_law_1167 : decode cL_law 1167 = .ok (.iconst 2, 1) := by decide +kernel
theorem dL_law_1168 : decode cL_law 1168 = .ok (.iadd, 1) := by decide +kernel
theorem dL_law_1169 : decode cL_law 1169 = .ok (.iaload, 1) := by decide +kernel
theorem dL_law_1170 : decode cL_law 1170 = .ok (.aload_n 0, 1) := by decide +kernel
theorem dL_law_1171 : decode cL_law 1171 = .ok (.iload 4, 2) := by decide +kernel
theorem dL_law_1173 : decode cL_law 1173 = .ok (.iconst 3, 1) := by decide +kernel
theorem dL_law_1174 : decode cL_law 1174 = .ok (.iadd, 1) := by decide +kernel
theorem dL_law_1175 : decode cL_law 1175 = .ok (.iaload, 1) := by decide +kernel
theorem dL_law_1176 : decode cL_law 1176 = .ok (.invokevirtual 147, 3) := by decide +kernel
theorem dL_law_1179 : decode cL_law 1179 = .ok (.if_icmp .eq 405, 3) := by decide +kernel
theorem dL_law_1182 : decode cL_law 1182 = .ok (.iconst 0, 1) := by decide +kernel
theorem dL_law_1183 : decode cL_law 1183 = .ok (.ireturn, 1) := by decide +kernel
theorem dL_law_1184 : decode cL_law 1184 = .ok (.aload_n 1, 1) := by decide +kernel
theorem dL_law_1185 : decode cL_law 1185 = .ok (.invokevirtual 148, 3) := by decide +kernel
theorem dL_law_1188 : decode cL_law 1188 = .ok (.aload_n 2, 1) := by decide +kernel
theorem dL_law_1189 : decode cL_law 1189 = .ok (.invokevirtual 151, 3) := by decide +kernel
theorem dL_law_1192 : decode cL_law 1192 = .ok (.if_icmp .eq 392, 3) := by decide +kernel
theorem dL_law_1195 : decode cL_law 1195 = .ok (.iconst 0, 1) := by decide +kernel
theorem dL_law_1196 : decode cL_law 1196 = .ok (.ireturn, 1) := by decide +kernel
theorem dL_law_1197 : decode cL_law 1197 = .ok (.aload_n 1, 1) := by decide +kernel
theorem dL_law_1198 : decode cL_law 1198 = .ok (.invokevirtual 152, 3) := by decide +kernel
theorem dL_law_1201 : decode cL_law 1201 = .ok (.aload_n 2, 1) := by decide +kernel
theorem dL_law_1202 : decode cL_law 1202 = .ok (.invokevirtual 155, 3) := by decide +kernel
theorem dL_law_1205 : decode cL_law 1205 = .ok (.if_icmp .eq 379, 3) := by decide +kernel
theorem dL_law_1208 : decode cL_law 1208 = .ok (.iconst 0, 1) := by decide +kernel
theorem dL_law_1209 : decode cL_law 1209 = .ok (.ireturn, 1) := by decide +kernel
theorem dL_law_1210 : decode cL_law 1210 = .ok (.aload_n 1, 1) := by decide +kernel
theorem dL_law_1211 : decode cL_law 1211 = .ok (.aload_n 0, 1) := by decide +kernel
theorem dL_law_1212 : decode cL_law 1212 = .ok (.iload 4, 2) := by decide +kernel
theorem dL_law_1214 : decode cL_law 1214 = .ok (.iconst 1, 1) := by decide +kernel
theorem dL_law_1215 : decode cL_law 1215 = .ok (.iadd, 1) := by decide +kernel
theorem dL_law_1216 : decode cL_law 1216 = .ok (.iaload, 1) := by decide +kernel
theorem dL_law_1217 : decode cL_law 1217 = .ok (.invokevirtual 156, 3) := by decide +kernel
theorem dL_law_1220 : decode cL_law 1220 = .ok (.aload_n 2, 1) := by decide +kernel
theorem dL_law_1221 : decode cL_law 1221 = .ok (.aload_n 0, 1) := by decide +kernel
theorem dL_law_1222 : decode cL_law 1222 = .ok (.iload 4, 2) := by decide +kernel
theorem dL_law_1224 : decode cL_law 1224 = .ok (.iconst 1, 1) := by decide +kernel
theorem dL_law_1225 : decode cL_law 1225 = .ok (.iadd, 1) := by decide +kernel
theorem dL_law_1226 : decode cL_law 1226 = .ok (.iaload, 1) := by decide +kernel
theorem dL_law_1227 : decode cL_law 1227 = .ok (.invokevirtual 159, 3) := by decide +kernel
theorem dL_law_1230 : decode cL_law 1230 = .ok (.if_icmp .eq 354, 3) := by decide +kernel
theorem dL_law_1233 : decode cL_law 1233 = .ok (.iconst 0, 1) := by decide +kernel
theorem dL_law_1234 : decode cL_law 1234 = .ok (.ireturn, 1) := by decide +kernel
theorem dL_law_1235 : decode cL_law 1235 = .ok (.aload_n 1, 1) := by decide +kernel
theorem dL_law_1236 : decode cL_law 1236 = .ok (.aload_n 0, 1) := by decide +kernel
theorem dL_law_1237 : decode cL_law 1237 = .ok (.iload 4, 2) := by decide +kernel
theorem dL_law_1239 : decode cL_law 1239 = .ok (.iconst 1, 1) := by decide +kernel
theorem dL_law_1240 : decode cL_law 1240 = .ok (.iadd, 1) := by decide +kernel
theorem dL_law_1241 : decode cL_law 1241 = .ok (.iaload, 1) := by decide +kernel
theorem dL_law_1242 : decode cL_law 1242 = .ok (.aload_n 0, 1) := by decide +kernel
theorem dL_law_1243 : decode cL_law 1243 = .ok (.iload 4, 2) := by decide +kernel
theorem dL_law_1245 : decode cL_law 1245 = .ok (.iconst 2, 1) := by decide +kernel
theorem dL_law_1246 : decode cL_law 1246 = .ok (.iadd, 1) := by decide +kernel
theorem dL_law_1247 : decode cL_law 1247 = .ok (.iaload, 1) := by decide +kernel
theorem dL_law_1248 : decode cL_law 1248 = .ok (.aload_n 0, 1) := by decide +kernel
theorem dL_law_1249 : decode cL_law 1249 = .ok (.iload 4, 2) := by decide +kernel
theorem dL_law_1251 : decode cL_law 1251 = .ok (.iconst 3, 1) := by decide +kernel
theorem dL_law_1252 : decode cL_law 1252 = .ok (.iadd, 1) := by decide +kernel
theorem dL_law_1253 : decode cL_law 1253 = .ok (.iaload, 1) := by decide +kernel
theorem dL_law_1254 : decode cL_law 1254 = .ok (.aload_n 0, 1) := by decide +kernel
theorem dL_law_1255 : decode cL_law 1255 = .ok (.iload 4, 2) := by decide +kernel
theorem dL_law_1257 : decode cL_law 1257 = .ok (.iconst 4, 1) := by decide +kernel
theorem dL_law_1258 : decode cL_law 1258 = .ok (.iadd, 1) := by decide +kernel
theorem dL_law_1259 : decode cL_law 1259 = .ok (.iaload, 1) := by decide +kernel
theorem dL_law_1260 : decode cL_law 1260 = .ok (.invokevirtual 160, 3) := by decide +kernel
theorem dL_law_1263 : decode cL_law 1263 = .ok (.aload_n 2, 1) := by decide +kernel
theorem dL_law_1264 : decode cL_law 1264 = .ok (.aload_n 0, 1) := by decide +kernel
theorem dL_law_1265 : decode cL_law 1265 = .ok (.iload 4, 2) := by decide +kernel
theorem dL_law_1267 : decode cL_law 1267 = .ok (.iconst 1, 1) := by decide +kernel
theorem dL_law_1268 : decode cL_law 1268 = .ok (.iadd, 1) := by decide +kernel
theorem dL_law_1269 : decode cL_law 1269 = .ok (.iaload, 1) := by decide +kernel
theorem dL_law_1270 : decode cL_law 1270 = .ok (.aload_n 0, 1) := by decide +kernel
theorem dL_law_1271 : decode cL_law 1271 = .ok (.iload 4, 2) := by decide +kernel
theorem dL_law_1273 : decode cL_law 1273 = .ok (.iconst 2, 1) := by decide +kernel
theorem dL_law_1274 : decode cL_law 1274 = .ok (.iadd, 1) := by decide +kernel
theorem dL_law_1275 : decode cL_law 1275 = .ok (.iaload, 1) := by decide +kernel
theorem dL_law_1276 : decode cL_law 1276 = .ok (.aload_n 0, 1) := by decide +kernel
theorem dL_law_1277 : decode cL_law 1277 = .ok (.iload 4, 2) := by decide +kernel
theorem dL_law_1279 : decode cL_law 1279 = .ok (.iconst 3, 1) := by decide +kernel
theorem dL_law_1280 : decode cL_law 1280 = .ok (.iadd, 1) := by decide +kernel
theorem dL_law_1281 : decode cL_law 1281 = .ok (.iaload, 1) := by decide +kernel
theorem dL_law_1282 : decode cL_law 1282 = .ok (.aload_n 0, 1) := by decide +kernel
theorem dL_law_1283 : decode cL_law 1283 = .ok (.iload 4, 2) := by decide +kernel
theorem dL_law_1285 : decode cL_law 1285 = .ok (.iconst 4, 1) := by decide +kernel
theorem dL_law_1286 : decode cL_law 1286 = .ok (.iadd, 1) := by decide +kernel
theorem dL_law_1287 : decode cL_law 1287 = .ok (.iaload, 1) := by decide +kernel
theorem dL_law_1288 : decode cL_law 1288 = .ok (.invokevirtual 163, 3) := by decide +kernel
theorem dL_law_1291 : decode cL_law 1291 = .ok (.if_icmp .eq 293, 3) := by decide +kernel
theorem dL_law_1294 : decode cL_law 1294 = .ok (.iconst 0, 1) := by decide +kernel
theorem dL_law_1295 : decode cL_law 1295 = .ok (.ireturn, 1) := by decide +kernel
theorem dL_law_1296 : decode cL_law 1296 = .ok (.aload_n 1, 1) := by decide +kernel
theorem dL_law_1297 : decode cL_law 1297 = .ok (.aload_n 0, 1) := by decide +kernel
theorem dL_law_1298 : decode cL_law 1298 = .ok (.iload 4, 2) := by decide +kernel
theorem dL_law_1300 : decode cL_law 1300 = .ok (.iconst 1, 1) := by decide +kernel
theorem dL_law_1301 : decode cL_law 1301 = .ok (.iadd, 1) := by decide +kernel
theorem dL_law_1302 : decode cL_law 1302 = .ok (.iaload, 1) := by decide +kernel
theorem dL_law_1303 : decode cL_law 1303 = .ok (.aload_n 0, 1) := by decide +kernel
theorem dL_law_1304 : decode cL_law 1304 = .ok (.iload 4, 2) := by decide +kernel
theorem dL_law_1306 : decode cL_law 1306 = .ok (.iconst 2, 1) := by decide +kernel
theorem dL_law_1307 : decode cL_law 1307 = .ok (.iadd, 1) := by decide +kernel
theorem dL_law_1308 : decode cL_law 1308 = .ok (.iaload, 1) := by decide +kernel
theorem dL_law_1309 : decode cL_law 1309 = .ok (.aload_n 0, 1) := by decide +kernel
theorem dL_law_1310 : decode cL_law 1310 = .ok (.iload 4, 2) := by decide +kernel
theorem dL_law_1312 : decode cL_law 1312 = .ok (.iconst 3, 1) := by decide +kernel
theorem dL_law_1313 : decode cL_law 1313 = .ok (.iadd, 1) := by decide +kernel
theorem dL_law_1314 : decode cL_law 1314 = .ok (.iaload, 1) := by decide +kernel
theorem dL_law_1315 : decode cL_law 1315 = .ok (.invokevirtual 164, 3) := by decide +kernel
theorem dL_law_1318 : decode cL_law 1318 = .ok (.aload_n 2, 1) := by decide +kernel
theorem dL_law_1319 : decode cL_law 1319 = .ok (.aload_n 0, 1) := by decide +kernel
theorem dL_law_1320 : decode cL_law 1320 = .ok (.iload 4, 2) := by decide +kernel
theorem dL_law_1322 : decode cL_law 1322 = .ok (.iconst 1, 1) := by decide +kernel
theorem dL_law_1323 : decode cL_law 1323 = .ok (.iadd, 1) := by decide +kernel
theorem dL_law_1324 : decode cL_law 1324 = .ok (.iaload, 1) := by decide +kernel
theorem dL_law_1325 : decode cL_law 1325 = .ok (.aload_n 0, 1) := by decide +kernel
theorem dL_law_1326 : decode cL_law 1326 = .ok (.iload 4, 2) := by decide +kernel
theorem dL_law_1328 : decode cL_law 1328 = .ok (.iconst 2, 1) := by decide +kernel
theorem dL_law_1329 : decode cL_law 1329 = .ok (.iadd, 1) := by decide +kernel
theorem dL_law_1330 : decode cL_law 1330 = .ok (.iaload, 1) := by decide +kernel
theorem dL_law_1331 : decode cL_law 1331 = .ok (.aload_n 0, 1) := by decide +kernel
theorem dL_law_1332 : decode cL_law 1332 = .ok (.iload 4, 2) := by decide +kernel
theorem dL_law_1334 : decode cL_law 1334 = .ok (.iconst 3, 1) := by decide +kernel
theorem dL_law_1335 : decode cL_law 1335 = .ok (.iadd, 1) := by decide +kernel
theorem dL_law_1336 : decode cL_law 1336 = .ok (.iaload, 1) := by decide +kernel
theorem dL_law_1337 : decode cL_law 1337 = .ok (.invokevirtual 167, 3) := by decide +kernel
theorem dL_law_1340 : decode cL_law 1340 = .ok (.if_icmp .eq 244, 3) := by decide +kernel
theorem dL_law_1343 : decode cL_law 1343 = .ok (.iconst 0, 1) := by decide +kernel
theorem dL_law_1344 : decode cL_law 1344 = .ok (.ireturn, 1) := by decide +kernel
theorem dL_law_1345 : decode cL_law 1345 = .ok (.aload_n 1, 1) := by decide +kernel
theorem dL_law_1346 : decode cL_law 1346 = .ok (.aload_n 0, 1) := by decide +kernel
theorem dL_law_1347 : decode cL_law 1347 = .ok (.iload 4, 2) := by decide +kernel
theorem dL_law_1349 : decode cL_law 1349 = .ok (.iconst 1, 1) := by decide +kernel
theorem dL_law_1350 : decode cL_law 1350 = .ok (.iadd, 1) := by decide +kernel
theorem dL_law_1351 : decode cL_law 1351 = .ok (.iaload, 1) := by decide +kernel
theorem dL_law_1352 : decode cL_law 1352 = .ok (.aload_n 0, 1) := by decide +kernel
theorem dL_law_1353 : decode cL_law 1353 = .ok (.iload 4, 2) := by decide +kernel
theorem dL_law_1355 : decode cL_law 1355 = .ok (.iconst 2, 1) := by decide +kernel
theorem dL_law_1356 : decode cL_law 1356 = .ok (.iadd, 1) := by decide +kernel
theorem dL_law_1357 : decode cL_law 1357 = .ok (.iaload, 1) := by decide +kernel
theorem dL_law_1358 : decode cL_law 1358 = .ok (.aload_n 0, 1) := by decide +kernel
theorem dL_law_1359 : decode cL_law 1359 = .ok (.iload 4, 2) := by decide +kernel
theorem dL_law_1361 : decode cL_law 1361 = .ok (.iconst 3, 1) := by decide +kernel
theorem dL_law_1362 : decode cL_law 1362 = .ok (.iadd, 1) := by decide +kernel
theorem dL_law_1363 : decode cL_law 1363 = .ok (.iaload, 1) := by decide +kernel
theorem dL_law_1364 : decode cL_law 1364 = .ok (.invokevirtual 168, 3) := by decide +kernel
theorem dL_law_1367 : decode cL_law 1367 = .ok (.aload_n 2, 1) := by decide +kernel
theorem dL_law_1368 : decode cL_law 1368 = .ok (.aload_n 0, 1) := by decide +kernel
theorem dL_law_1369 : decode cL_law 1369 = .ok (.iload 4, 2) := by decide +kernel
theorem dL_law_1371 : decode cL_law 1371 = .ok (.iconst 1, 1) := by decide +kernel
theorem dL_law_1372 : decode cL_law 1372 = .ok (.iadd, 1) := by decide +kernel
theorem dL_law_1373 : decode cL_law 1373 = .ok (.iaload, 1) := by decide +kernel
theorem dL_law_1374 : decode cL_law 1374 = .ok (.aload_n 0, 1) := by decide +kernel
theorem dL_law_1375 : decode cL_law 1375 = .ok (.iload 4, 2) := by decide +kernel
theorem dL_law_1377 : decode cL_law 1377 = .ok (.iconst 2, 1) := by decide +kernel
theorem dL_law_1378 : decode cL_law 1378 = .ok (.iadd, 1) := by decide +kernel
theorem dL_law_1379 : decode cL_law 1379 = .ok (.iaload, 1) := by decide +kernel
theorem dL_law_1380 : decode cL_law 1380 = .ok (.aload_n 0, 1) := by decide +kernel
theorem dL_law_1381 : decode cL_law 1381 = .ok (.iload 4, 2) := by decide +kernel
theorem dL_law_1383 : decode cL_law 1383 = .ok (.iconst 3, 1) := by decide +kernel
theorem dL_law_1384 : decode cL_law 1384 = .ok (.iadd, 1) := by decide +kernel
theorem dL_law_1385 : decode cL_law 1385 = .ok (.iaload, 1) := by decide +kernel
theorem dL_law_1386 : decode cL_law 1386 = .ok (.invokevirtual 171, 3) := by decide +kernel
theorem dL_law_1389 : decode cL_law 1389 = .ok (.if_icmp .eq 195, 3) := by decide +kernel
theorem dL_law_1392 : decode cL_law 1392 = .ok (.iconst 0, 1) := by decide +kernel
theorem dL_law_1393 : decode cL_law 1393 = .ok (.ireturn, 1) := by decide +kernel
theorem dL_law_1394 : decode cL_law 1394 = .ok (.aload_n 1, 1) := by decide +kernel
theorem dL_law_1395 : decode cL_law 1395 = .ok (.aload_n 0, 1) := by decide +kernel
theorem dL_law_1396 : decode cL_law 1396 = .ok (.iload 4, 2) := by decide +kernel
theorem dL_law_1398 : decode cL_law 1398 = .ok (.iconst 1, 1) := by decide +kernel
theorem dL_law_1399 : decode cL_law 1399 = .ok (.iadd, 1) := by decide +kernel
theorem dL_law_1400 : decode cL_law 1400 = .ok (.iaload, 1) := by decide +kernel
theorem dL_law_1401 : decode cL_law 1401 = .ok (.aload_n 0, 1) := by decide +kernel
theorem dL_law_1402 : decode cL_law 1402 = .ok (.iload 4, 2) := by decide +kernel
theorem dL_law_1404 : decode cL_law 1404 = .ok (.iconst 2, 1) := by decide +kernel
theorem dL_law_1405 : decode cL_law 1405 = .ok (.iadd, 1) := by decide +kernel
theorem dL_law_1406 : decode cL_law 1406 = .ok (.iaload, 1) := by decide +kernel
theorem dL_law_1407 : decode cL_law 1407 = .ok (.aload_n 3, 1) := by decide +kernel
theorem dL_law_1408 : decode cL_law 1408 = .ok (.invokestatic 172, 3) := by decide +kernel
theorem dL_law_1411 : decode cL_law 1411 = .ok (.istore 5, 2) := by decide +kernel
theorem dL_law_1413 : decode cL_law 1413 = .ok (.aload_n 2, 1) := by decide +kernel
theorem dL_law_1414 : decode cL_law 1414 = .ok (.aload_n 0, 1) := by decide +kernel
theorem dL_law_1415 : decode cL_law 1415 = .ok (.iload 4, 2) := by decide +kernel
theorem dL_law_1417 : decode cL_law 1417 = .ok (.iconst 1, 1) := by decide +kernel
theorem dL_law_1418 : decode cL_law 1418 = .ok (.iadd, 1) := by decide +kernel
theorem dL_law_1419 : decode cL_law 1419 = .ok (.iaload, 1) := by decide +kernel
theorem dL_law_1420 : decode cL_law 1420 = .ok (.aload_n 0, 1) := by decide +kernel
theorem dL_law_1421 : decode cL_law 1421 = .ok (.iload 4, 2) := by decide +kernel
theorem dL_law_1423 : decode cL_law 1423 = .ok (.iconst 2, 1) := by decide +kernel
theorem dL_law_1424 : decode cL_law 1424 = .ok (.iadd, 1) := by decide +kernel
theorem dL_law_1425 : decode cL_law 1425 = .ok (.iaload, 1) := by decide +kernel
theorem dL_law_1426 : decode cL_law 1426 = .ok (.invokevirtual 177, 3) := by decide +kernel
theorem dL_law_1429 : decode cL_law 1429 = .ok (.lstore 6, 2) := by decide +kernel
theorem dL_law_1431 : decode cL_law 1431 = .ok (.aload_n 2, 1) := by decide +kernel
theorem dL_law_1432 : decode cL_law 1432 = .ok (.invokevirtual 178, 3) := by decide +kernel
theorem dL_law_1435 : decode cL_law 1435 = .ok (.iload 5, 2) := by decide +kernel
theorem dL_law_1437 : decode cL_law 1437 = .ok (.if_icmp .eq 5, 3) := by decide +kernel
theorem dL_law_1440 : decode cL_law 1440 = .ok (.iconst 0, 1) := by decide +kernel
theorem dL_law_1441 : decode cL_law 1441 = .ok (.ireturn, 1) := by decide +kernel
theorem dL_law_1442 : decode cL_law 1442 = .ok (.iload 5, 2) := by decide +kernel
theorem dL_law_1444 : decode cL_law 1444 = .ok (.ifCond .ne 14, 3) := by decide +kernel
theorem dL_law_1447 : decode cL_law 1447 = .ok (.aload_n 3, 1) := by decide +kernel
theorem dL_law_1448 : decode cL_law 1448 = .ok (.iconst 0, 1) := by decide +kernel
theorem dL_law_1449 : decode cL_law 1449 = .ok (.laload, 1) := by decide +kernel
theorem dL_law_1450 : decode cL_law 1450 = .ok (.lload 6, 2) := by decide +kernel
theorem dL_law_1452 : decode cL_law 1452 = .ok (.lcmp, 1) := by decide +kernel
theorem dL_law_1453 : decode cL_law 1453 = .ok (.ifCond .eq 5, 3) := by decide +kernel
theorem dL_law_1456 : decode cL_law 1456 = .ok (.iconst 0, 1) := by decide +kernel
theorem dL_law_1457 : decode cL_law 1457 = .ok (.ireturn, 1) := by decide +kernel
theorem dL_law_1458 : decode cL_law 1458 = .ok (.goto 126, 3) := by decide +kernel
theorem dL_law_1461 : decode cL_law 1461 = .ok (.aload_n 1, 1) := by decide +kernel
theorem dL_law_1462 : decode cL_law 1462 = .ok (.aload_n 0, 1) := by decide +kernel
theorem dL_law_1463 : decode cL_law 1463 = .ok (.iload 4, 2) := by decide +kernel
theorem dL_law_1465 : decode cL_law 1465 = .ok (.iconst 1, 1) := by decide +kernel
theorem dL_law_1466 : decode cL_law 1466 = .ok (.iadd, 1) := by decide +kernel
theorem dL_law_1467 : decode cL_law 1467 = .ok (.iaload, 1) := by decide +kernel
theorem dL_law_1468 : decode cL_law 1468 = .ok (.aload_n 0, 1) := by decide +kernel
theorem dL_law_1469 : decode cL_law 1469 = .ok (.iload 4, 2) := by decide +kernel
theorem dL_law_1471 : decode cL_law 1471 = .ok (.iconst 2, 1) := by decide +kernel
theorem dL_law_1472 : decode cL_law 1472 = .ok (.iadd, 1) := by decide +kernel
theorem dL_law_1473 : decode cL_law 1473 = .ok (.iaload, 1) := by decide +kernel
theorem dL_law_1474 : decode cL_law 1474 = .ok (.aload_n 0, 1) := by decide +kernel
theorem dL_law_1475 : decode cL_law 1475 = .ok (.iload 4, 2) := by decide +kernel
theorem dL_law_1477 : decode cL_law 1477 = .ok (.iconst 3, 1) := by decide +kernel
theorem dL_law_1478 : decode cL_law 1478 = .ok (.iadd, 1) := by decide +kernel
theorem dL_law_1479 : decode cL_law 1479 = .ok (.iaload, 1) := by decide +kernel
theorem dL_law_1480 : decode cL_law 1480 = .ok (.aload_n 0, 1) := by decide +kernel
theorem dL_law_1481 : decode cL_law 1481 = .ok (.iload 4, 2) := by decide +kernel
theorem dL_law_1483 : decode cL_law 1483 = .ok (.iconst 4, 1) := by decide +kernel
theorem dL_law_1484 : decode cL_law 1484 = .ok (.iadd, 1) := by decide +kernel
theorem dL_law_1485 : decode cL_law 1485 = .ok (.iaload, 1) := by decide +kernel
theorem dL_law_1486 : decode cL_law 1486 = .ok (.aload_n 0, 1) := by decide +kernel
theorem dL_law_1487 : decode cL_law 1487 = .ok (.iload 4, 2) := by decide +kernel
theorem dL_law_1489 : decode cL_law 1489 = .ok (.iconst 5, 1) := by decide +kernel
theorem dL_law_1490 : decode cL_law 1490 = .ok (.iadd, 1) := by decide +kernel
theorem dL_law_1491 : decode cL_law 1491 = .ok (.iaload, 1) := by decide +kernel
theorem dL_law_1492 : decode cL_law 1492 = .ok (.invokevirtual 181, 3) := by decide +kernel
theorem dL_law_1495 : decode cL_law 1495 = .ok (.aload_n 2, 1) := by decide +kernel
theorem dL_law_1496 : decode cL_law 1496 = .ok (.aload_n 0, 1) := by decide +kernel
theorem dL_law_1497 : decode cL_law 1497 = .ok (.iload 4, 2) := by decide +kernel
theorem dL_law_1499 : decode cL_law 1499 = .ok (.iconst 1, 1) := by decide +kernel
theorem dL_law_1500 : decode cL_law 1500 = .ok (.iadd, 1) := by decide +kernel
theorem dL_law_1501 : decode cL_law 1501 = .ok (.iaload, 1) := by decide +kernel
theorem dL_law_1502 : decode cL_law 1502 = .ok (.aload_n 0, 1) := by decide +kernel
theorem dL_law_1503 : decode cL_law 1503 = .ok (.iload 4, 2) := by decide +kernel
theorem dL_law_1505 : decode cL_law 1505 = .ok (.iconst 2, 1) := by decide +kernel
theorem dL_law_1506 : decode cL_law 1506 = .ok (.iadd, 1) := by decide +kernel
theorem dL_law_1507 : decode cL_law 1507 = .ok (.iaload, 1) := by decide +kernel
theorem dL_law_1508 : decode cL_law 1508 = .ok (.aload_n 0, 1) := by decide +kernel
theorem dL_law_1509 : decode cL_law 1509 = .ok (.iload 4, 2) := by decide +kernel
theorem dL_law_1511 : decode cL_law 1511 = .ok (.iconst 3, 1) := by decide +kernel
theorem dL_law_1512 : decode cL_law 1512 = .ok (.iadd, 1) := by decide +kernel
theorem dL_law_1513 : decode cL_law 1513 = .ok (.iaload, 1) := by decide +kernel
theorem dL_law_1514 : decode cL_law 1514 = .ok (.aload_n 0, 1) := by decide +kernel
theorem dL_law_1515 : decode cL_law 1515 = .ok (.iload 4, 2) := by decide +kernel
theorem dL_law_1517 : decode cL_law 1517 = .ok (.iconst 4, 1) := by decide +kernel
theorem dL_law_1518 : decode cL_law 1518 = .ok (.iadd, 1) := by decide +kernel
theorem dL_law_1519 : decode cL_law 1519 = .ok (.iaload, 1) := by decide +kernel
theorem dL_law_1520 : decode cL_law 1520 = .ok (.aload_n 0, 1) := by decide +kernel
theorem dL_law_1521 : decode cL_law 1521 = .ok (.iload 4, 2) := by decide +kernel
theorem dL_law_1523 : decode cL_law 1523 = .ok (.iconst 5, 1) := by decide +kernel
theorem dL_law_1524 : decode cL_law 1524 = .ok (.iadd, 1) := by decide +kernel
theorem dL_law_1525 : decode cL_law 1525 = .ok (.iaload, 1) := by decide +kernel
theorem dL_law_1526 : decode cL_law 1526 = .ok (.invokevirtual 185, 3) := by decide +kernel
theorem dL_law_1529 : decode cL_law 1529 = .ok (.if_icmp .eq 55, 3) := by decide +kernel
theorem dL_law_1532 : decode cL_law 1532 = .ok (.iconst 0, 1) := by decide +kernel
theorem dL_law_1533 : decode cL_law 1533 = .ok (.ireturn, 1) := by decide +kernel
theorem dL_law_1534 : decode cL_law 1534 = .ok (.aload_n 1, 1) := by decide +kernel
theorem dL_law_1535 : decode cL_law 1535 = .ok (.aload_n 0, 1) := by decide +kernel
theorem dL_law_1536 : decode cL_law 1536 = .ok (.iload 4, 2) := by decide +kernel
theorem dL_law_1538 : decode cL_law 1538 = .ok (.iconst 1, 1) := by decide +kernel
theorem dL_law_1539 : decode cL_law 1539 = .ok (.iadd, 1) := by decide +kernel
theorem dL_law_1540 : decode cL_law 1540 = .ok (.iaload, 1) := by decide +kernel
theorem dL_law_1541 : decode cL_law 1541 = .ok (.invokevirtual 186, 3) := by decide +kernel
theorem dL_law_1544 : decode cL_law 1544 = .ok (.aload_n 2, 1) := by decide +kernel
theorem dL_law_1545 : decode cL_law 1545 = .ok (.aload_n 0, 1) := by decide +kernel
theorem dL_law_1546 : decode cL_law 1546 = .ok (.iload 4, 2) := by decide +kernel
theorem dL_law_1548 : decode cL_law 1548 = .ok (.iconst 1, 1) := by decide +kernel
theorem dL_law_1549 : decode cL_law 1549 = .ok (.iadd, 1) := by decide +kernel
theorem dL_law_1550 : decode cL_law 1550 = .ok (.iaload, 1) := by decide +kernel
theorem dL_law_1551 : decode cL_law 1551 = .ok (.invokevirtual 189, 3) := by decide +kernel
theorem dL_law_1554 : decode cL_law 1554 = .ok (.if_icmp .eq 30, 3) := by decide +kernel
theorem dL_law_1557 : decode cL_law 1557 = .ok (.iconst 0, 1) := by decide +kernel
theorem dL_law_1558 : decode cL_law 1558 = .ok (.ireturn, 1) := by decide +kernel
theorem dL_law_1559 : decode cL_law 1559 = .ok (.aload_n 1, 1) := by decide +kernel
theorem dL_law_1560 : decode cL_law 1560 = .ok (.aload_n 0, 1) := by decide +kernel
theorem dL_law_1561 : decode cL_law 1561 = .ok (.iload 4, 2) := by decide +kernel
theorem dL_law_1563 : decode cL_law 1563 = .ok (.iconst 1, 1) := by decide +kernel
theorem dL_law_1564 : decode cL_law 1564 = .ok (.iadd, 1) := by decide +kernel
theorem dL_law_1565 : decode cL_law 1565 = .ok (.iaload, 1) := by decide +kernel
theorem dL_law_1566 : decode cL_law 1566 = .ok (.invokevirtual 190, 3) := by decide +kernel
theorem dL_law_1569 : decode cL_law 1569 = .ok (.aload_n 2, 1) := by decide +kernel
theorem dL_law_1570 : decode cL_law 1570 = .ok (.aload_n 0, 1) := by decide +kernel
theorem dL_law_1571 : decode cL_law 1571 = .ok (.iload 4, 2) := by decide +kernel
theorem dL_law_1573 : decode cL_law 1573 = .ok (.iconst 1, 1) := by decide +kernel
theorem dL_law_1574 : decode cL_law 1574 = .ok (.iadd, 1) := by decide +kernel
theorem dL_law_1575 : decode cL_law 1575 = .ok (.iaload, 1) := by decide +kernel
theorem dL_law_1576 : decode cL_law 1576 = .ok (.invokevirtual 193, 3) := by decide +kernel
theorem dL_law_1579 : decode cL_law 1579 = .ok (.if_icmp .eq 5, 3) := by decide +kernel
theorem dL_law_1582 : decode cL_law 1582 = .ok (.iconst 0, 1) := by decide +kernel
theorem dL_law_1583 : decode cL_law 1583 = .ok (.ireturn, 1) := by decide +kernel
theorem dL_law_1584 : decode cL_law 1584 = .ok (.iinc 4 6, 3) := by decide +kernel
theorem dL_law_1587 : decode cL_law 1587 = .ok (.goto (-1564), 3) := by decide +kernel
theorem dL_law_1590 : decode cL_law 1590 = .ok (.iconst 1, 1) := by decide +kernel
theorem dL_law_1591 : decode cL_law 1591 = .ok (.ireturn, 1) := by decide +kernel
end
section
theorem zz_end : True := trivial
end
